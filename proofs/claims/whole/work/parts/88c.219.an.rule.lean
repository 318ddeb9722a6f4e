section
/-! the reference's reading: what is kept of a RULE -/
def ARK (k : Int) : Prop := 100 ≤ k ∧ k ≤ 103
/-- behind the first key (and of) -/
def RB0 (S V : sS) (s : Int) : Prop := (Xi V 904 65 = 0 → (s = 5 ∧ tkR S (Xi S 904 8 + 1) = 107 ∧ Xi V 904 8 = Xi S 904 8 + 2) ∨ (s ≠ 5 ∧ Xi V 904 8 = Xi S 904 8 + 1)) ∧ RUNK S V ∧ KTE S V ∧ KPE S V ∧ (Xi V 904 93 = Xi S 904 93 ∧ Xi V 904 98 = Xi S 904 98 ∧ Xi V 904 94 = Xi S 904 94 ∧ Xi V 904 69 = Xi S 904 69)
theorem rb0_n {S A B : sS} {s x : Int} (hat : 0 ≤ Xi S 904 8 ∧ Xi S 904 8 ≤ 5001) (e1 : A = uI S 904 70 (Int32.ofInt s)) (e2 : B = uI A 904 8 (Int32.ofInt x)) (hx : x = Xi S 904 8 + 1) (hs : s ≠ 5) : RB0 S B s := by
  have a : ∀ z j, (z ≠ 904 ∨ (j ≠ 8 ∧ j ≠ 70)) → Xi B z j = Xi S z j := fun z j r => by rw [e2, Xi_ne (by omega), e1, Xi_ne (by omega)]
  exact ⟨fun _ => Or.inr ⟨hs, by rw [xi_of e2 (by rw [hx]; exact ⟨by omega, by omega⟩)]; exact hx⟩, runk_w e2 (by omega) (runk_w e1 (by omega) RUNK.rf), kte_w e2 (by omega) (kte_w e1 (by omega) KTE.rf), kpe_w e2 (by omega) (kpe_w e1 (by omega) KPE.rf), a _ _ (by omega), a _ _ (by omega), a _ _ (by omega), a _ _ (by omega)⟩
theorem rb0_5 {S A B C : sS} {s x : Int} (hat : 0 ≤ Xi S 904 8 ∧ Xi S 904 8 ≤ 5001) (e1 : A = uI S 904 70 (Int32.ofInt s)) (e2 : B = uI A 904 8 (Int32.ofInt x)) (hx : x = Xi S 904 8 + 1) (hs : s = 5) (t : Xi C 904 65 = 0 → Xi B 904 65 = 0 ∧ tkR S (Xi B 904 8) = 107 ∧ 0 ≤ Xi B 904 8 ∧ Xi C 904 8 = Xi B 904 8 + 1) (f : FR md_mo_take__t B C) : RB0 S C s := by
  have a : ∀ z j, (z ≠ 904 ∨ (j ≠ 8 ∧ j ≠ 70)) → Xi B z j = Xi S z j := fun z j r => by rw [e2, Xi_ne (by omega), e1, Xi_ne (by omega)]
  have b8 : Xi B 904 8 = Xi S 904 8 + 1 := by rw [xi_of e2 (by rw [hx]; exact ⟨by omega, by omega⟩)]; exact hx
  refine ⟨fun b => ?_, runk_F f rfl rfl (runk_w e2 (by omega) (runk_w e1 (by omega) RUNK.rf)), kte_F f rfl (kte_w e2 (by omega) (kte_w e1 (by omega) KTE.rf)), kpe_F f rfl (kpe_w e2 (by omega) (kpe_w e1 (by omega) KPE.rf)), by rw [f.x 904 93 rfl]; exact a _ _ (by omega), by rw [f.x 904 98 rfl]; exact a _ _ (by omega), by rw [f.x 904 94 rfl]; exact a _ _ (by omega), by rw [f.x 904 69 rfl]; exact a _ _ (by omega)⟩
  obtain ⟨c1, c2, c3, c4⟩ := t b
  rw [b8] at c2
  exact Or.inl ⟨hs, c2, by omega⟩
/-- ahead of the tests -/
def HDE (T : Int → Int) (V : sS) (s p h : Int) : Prop := ∃ a : Int, ((s = 5 ∧ T (p + 1) = 107 ∧ a = p + 2) ∨ (s ≠ 5 ∧ a = p + 1)) ∧
  ((s = 6 ∧ T a = 142 ∧ h = a + 1) ∨ (s ≠ 6 ∧ ∃ r : Int, RQ T a r ∧ RR V (Xi V 904 102) a r ∧ ((¬ ARK (T r) ∧ Xi V 904 103 = -1 ∧ h = r) ∨ (ARK (T r) ∧ RQ T (r + 1) h ∧ RR V (Xi V 904 103) (r + 1) h))))
theorem hde_k {T : Int → Int} {V W : sS} {s p h : Int} (x : HDE T V s p h) (k : RUNK V W) (y : Xi W 904 102 = Xi V 904 102 ∧ Xi W 904 103 = Xi V 904 103) : HDE T W s p h := by
  obtain ⟨a, b, c⟩ := x
  refine ⟨a, b, ?_⟩
  rcases c with c | ⟨c1, r, c2, c3, c4⟩
  · exact Or.inl c
  · refine Or.inr ⟨c1, r, c2, by rw [y.1]; exact rr_k c3 k, ?_⟩
    rw [y.2]
    rcases c4 with c4 | ⟨d1, d2, d3⟩
    · exact Or.inl c4
    · exact Or.inr ⟨d1, d2, rr_k d3 k⟩
def RHD (S V : sS) (s : Int) : Prop := (Xi V 904 65 = 0 → HDE (tkR S) V s (Xi S 904 8) (Xi V 904 8)) ∧ RUNK S V ∧ KTE S V ∧ KPE S V ∧ (Xi V 904 93 = Xi S 904 93 ∧ Xi V 904 98 = Xi S 904 98 ∧ Xi V 904 94 = Xi S 904 94)
theorem rhd_6 {S B C : sS} {s : Int} (h : RB0 S B s) (hs : s = 6) (t : Xi C 904 65 = 0 → Xi B 904 65 = 0 ∧ tkR S (Xi B 904 8) = 142 ∧ 0 ≤ Xi B 904 8 ∧ Xi C 904 8 = Xi B 904 8 + 1) (f : FR md_mo_take__t B C) : RHD S C s := by
  obtain ⟨h1, h2, h3, h4, h5⟩ := h
  exact ⟨fun b => ⟨Xi B 904 8, h1 (t b).1, Or.inl ⟨hs, (t b).2.1, (t b).2.2.2⟩⟩, runk_F f rfl rfl h2, kte_F f rfl h3, kpe_F f rfl h4, by rw [f.x 904 93 rfl]; exact h5.1, by rw [f.x 904 98 rfl]; exact h5.2.1, by rw [f.x 904 94 rfl]; exact h5.2.2.1⟩
theorem rhd_a {S B A C D : sS} {s z : Int} (h : RB0 S B s) (hs : s ≠ 6) (t : Xi A 904 65 = 0 → RNT (tkR S) B A z) (f : FR md_mo_run__t B A) (k : RUNK B A) (e1 : C = uI A 904 102 (Int32.ofInt z)) (e2 : D = uI C 904 103 (Int32.ofInt (-1))) (rz : rg z) (q : Xi D 904 65 = 0 → ¬ ARK (tkR S (Xi D 904 8))) : RHD S D s := by
  obtain ⟨h1, h2, h3, h4, h5⟩ := h
  have a : ∀ z j, (z ≠ 904 ∨ (j ≠ 102 ∧ j ≠ 103)) → Xi D z j = Xi A z j := fun z j r => by rw [e2, Xi_ne (by omega), e1, Xi_ne (by omega)]
  have kD : RUNK A D := runk_w e2 (by omega) (runk_w e1 (by omega) RUNK.rf)
  refine ⟨fun b => ?_, h2.tr (k.tr kD), kte_w e2 (by omega) (kte_w e1 (by omega) (kte_F f rfl h3)), kpe_w e2 (by omega) (kpe_w e1 (by omega) (kpe_F f rfl h4)), by rw [a _ _ (by omega), f.x 904 93 rfl]; exact h5.1, by rw [a _ _ (by omega), f.x 904 98 rfl]; exact h5.2.1, by rw [a _ _ (by omega), f.x 904 94 rfl]; exact h5.2.2.1⟩
  have nq := q b
  rw [a _ _ (by omega)] at b
  obtain ⟨r1, r2, r3, r4, r5, r6⟩ := t b
  rw [a 904 8 (by omega)] at nq ⊢
  exact ⟨Xi B 904 8, h1 r1, Or.inr ⟨hs, Xi A 904 8, r3, by rw [e2, Xi_ne (by omega), xi_of e1 rz, ← e2]; exact rr_k r6 kD, Or.inl ⟨nq, xi_of e2 ⟨by decide, by decide⟩, rfl⟩⟩⟩
theorem rhd_o {S B A C D E F G : sS} {s z y x : Int} (h : RB0 S B s) (hs : s ≠ 6) (t : Xi A 904 65 = 0 → RNT (tkR S) B A z) (f : FR md_mo_run__t B A) (k : RUNK B A) (e1 : C = uI A 904 102 (Int32.ofInt z)) (e2 : D = uI C 904 103 (Int32.ofInt (-1))) (rz : rg z) (q : Xi D 904 65 = 0 ∧ ARK (tkR S (Xi D 904 8))) (e3 : E = uI D 904 8 (Int32.ofInt x)) (hx : x = Xi D 904 8 + 1) (rx : rg x) (t2 : Xi F 904 65 = 0 → RNT (tkR S) E F y) (f2 : FR md_mo_run__t E F) (k2 : RUNK E F) (e4 : G = uI F 904 103 (Int32.ofInt y)) (ry : rg y) : RHD S G s := by
  obtain ⟨h1, h2, h3, h4, h5⟩ := h
  have a : ∀ z j, (z ≠ 904 ∨ (j ≠ 102 ∧ j ≠ 103)) → Xi D z j = Xi A z j := fun z j r => by rw [e2, Xi_ne (by omega), e1, Xi_ne (by omega)]
  have e : ∀ z j, (z ≠ 904 ∨ j ≠ 8) → Xi E z j = Xi D z j := fun z j r => by rw [e3, Xi_ne (by omega)]
  have g : ∀ z j, (z ≠ 904 ∨ j ≠ 103) → Xi G z j = Xi F z j := fun z j r => by rw [e4, Xi_ne (by omega)]
  have kE : RUNK A E := runk_w e3 (by omega) (runk_w e2 (by omega) (runk_w e1 (by omega) RUNK.rf))
  have kG : RUNK F G := runk_w e4 (by omega) RUNK.rf
  refine ⟨fun b => ?_, h2.tr (k.tr (kE.tr (k2.tr kG))), kte_w e4 (by omega) (kte_F f2 rfl (kte_w e3 (by omega) (kte_w e2 (by omega) (kte_w e1 (by omega) (kte_F f rfl h3))))), kpe_w e4 (by omega) (kpe_F f2 rfl (kpe_w e3 (by omega) (kpe_w e2 (by omega) (kpe_w e1 (by omega) (kpe_F f rfl h4))))), by rw [g _ _ (by omega), f2.x 904 93 rfl, e _ _ (by omega), a _ _ (by omega), f.x 904 93 rfl]; exact h5.1, by rw [g _ _ (by omega), f2.x 904 98 rfl, e _ _ (by omega), a _ _ (by omega), f.x 904 98 rfl]; exact h5.2.1, by rw [g _ _ (by omega), f2.x 904 94 rfl, e _ _ (by omega), a _ _ (by omega), f.x 904 94 rfl]; exact h5.2.2.1⟩
  rw [g _ _ (by omega)] at b
  obtain ⟨s1, s2, s3, s4, s5, s6⟩ := t2 b
  obtain ⟨r1, r2, r3, r4, r5, r6⟩ := t (by rw [← a 904 65 (by omega)]; exact q.1)
  have e8 : Xi E 904 8 = Xi A 904 8 + 1 := by rw [xi_of e3 rx, hx, a _ _ (by omega)]
  have q2 := q.2
  rw [a 904 8 (by omega)] at q2
  rw [e8] at s3 s6
  exact ⟨Xi B 904 8, h1 r1, Or.inr ⟨hs, Xi A 904 8, r3, by rw [g 904 102 (by omega), f2.x 904 102 rfl, e 904 102 (by omega), e2, Xi_ne (by omega), xi_of e1 rz]; exact rr_k r6 (kE.tr (k2.tr kG)), Or.inr ⟨q2, by rw [g 904 8 (by omega)]; exact s3, by rw [xi_of e4 ry, g 904 8 (by omega)]; exact rr_k s6 kG⟩⟩⟩
/-- the tests of a rule: n of them, from h on, then the : at g -/
def WHT (T : Int → Int) (V : sS) (c n : Nat) (t0 h g : Int) : Prop := (T h = 137 ∧ 0 < n ∧ TSQ T V c (h + 1) n g ∧ Xi V 904 94 = c + n) ∨ (T h ≠ 137 ∧ n = 0 ∧ g = h ∧ Xi V 904 94 = t0)
def RWH (S V : sS) (s : Int) : Prop := (Xi V 904 65 = 0 → ∃ (n : Nat) (h : Int), HDE (tkR S) V s (Xi S 904 8) h ∧ WHT (tkR S) V (Xi S 904 93).toNat n (Xi S 904 94) h (Xi V 904 8) ∧ Xi V 904 93 = Xi S 904 93 + n) ∧ RUNK S V ∧ KTE S V ∧ KPE S V ∧ (Xi S 904 93 ≤ Xi V 904 93 ∧ Xi V 904 98 = Xi S 904 98)
theorem rwh_n {S V : sS} {s : Int} (h : RHD S V s) (q : Xi V 904 65 ≠ 0 ∨ tkR S (Xi V 904 8) ≠ 137) : RWH S V s := by
  obtain ⟨h1, h2, h3, h4, h5⟩ := h
  refine ⟨fun b => ⟨0, Xi V 904 8, h1 b, Or.inr ⟨?_, rfl, rfl, h5.2.2⟩, by rw [h5.1]; simp⟩, h2, h3, h4, by omega, h5.2.1⟩
  rcases q with q | q
  · exact absurd b q
  · exact q
theorem rwh_y {S V U W : sS} {s x : Int} (h93 : 0 ≤ Xi S 904 93) (h : RHD S V s) (q : Xi V 904 65 = 0 ∧ tkR S (Xi V 904 8) = 137 ∧ 0 ≤ Xi V 904 8 ∧ Xi V 904 8 ≤ 5001) (e : U = uI V 904 8 (Int32.ofInt x)) (hx : x = Xi V 904 8 + 1) (t : Xi W 904 65 = 0 → Xi U 904 65 = 0 ∧ ∃ n : Nat, 0 < n ∧ TSQ (tkR S) W (Xi U 904 93).toNat (Xi U 904 8) n (Xi W 904 8) ∧ tkR S (Xi W 904 8) ≠ 116 ∧ Xi W 904 93 = Xi U 904 93 + n) (f : FR md_mo_tests__t U W) (k : RUNK U W) (r : KTE U W) (c : Xi U 904 93 ≤ Xi W 904 93) (w : Xi W 904 94 = Xi W 904 93) : RWH S W s := by
  obtain ⟨h1, h2, h3, h4, h5⟩ := h
  have a : ∀ z j, (z ≠ 904 ∨ j ≠ 8) → Xi U z j = Xi V z j := fun z j r => by rw [e, Xi_ne (by omega)]
  have u8 : Xi U 904 8 = Xi V 904 8 + 1 := by rw [xi_of e (by rw [hx]; exact ⟨by omega, by omega⟩)]; exact hx
  have u93 : Xi U 904 93 = Xi S 904 93 := by rw [a _ _ (by omega)]; exact h5.1
  have kU : RUNK V U := runk_w e (by omega) RUNK.rf
  refine ⟨fun b => ?_, h2.tr (kU.tr k), kte_t (kte_w e (by omega) h3) r (by omega), kpe_F f rfl (kpe_w e (by omega) h4), by omega, by rw [f.x 904 98 rfl, a _ _ (by omega)]; exact h5.2.1⟩
  obtain ⟨b1, n, b2, b3, b4, b5⟩ := t b
  rw [u8, u93] at b3
  exact ⟨n, Xi V 904 8, hde_k (h1 q.1) (kU.tr k) ⟨by rw [f.x 904 102 rfl, a _ _ (by omega)], by rw [f.x 904 103 rfl, a _ _ (by omega)]⟩, Or.inl ⟨q.2.1, b2, b3, by omega⟩, by omega⟩
/-- a RULE, all of it -/
def RUE (T : Int → Int) (V : sS) (c m : Nat) (t0 s p e : Int) : Prop := ∃ (n k : Nat) (h g : Int), HDE T V s p h ∧ WHT T V c n t0 h g ∧ T g = 58 ∧ 0 < k ∧ PSQ T V (c + n) m (g + 1) k e ∧ T e ≠ 59 ∧ Xi V 904 93 = c + n + k ∧ Xi V 904 98 = m + k
theorem rue_of {S V A W : sS} {s : Int} (h0 : 0 ≤ Xi S 904 93 ∧ 0 ≤ Xi S 904 98) (h : RWH S V s) (t1 : Xi A 904 65 = 0 → Xi V 904 65 = 0 ∧ tkR S (Xi V 904 8) = 58 ∧ 0 ≤ Xi V 904 8 ∧ Xi A 904 8 = Xi V 904 8 + 1) (f1 : FR md_mo_take__t V A) (t2 : Xi W 904 65 = 0 → Xi A 904 65 = 0 ∧ ∃ n : Nat, 0 < n ∧ PSQ (tkR S) W (Xi A 904 93).toNat (Xi A 904 98).toNat (Xi A 904 8) n (Xi W 904 8) ∧ tkR S (Xi W 904 8) ≠ 59 ∧ Xi W 904 93 = Xi A 904 93 + n ∧ Xi W 904 98 = Xi A 904 98 + n) (f2 : FR md_mo_phrases__t A W) (k2 : RUNK A W) (q2 : KTE A W) (b : Xi W 904 65 = 0) : RUE (tkR S) W (Xi S 904 93).toNat (Xi S 904 98).toNat (Xi S 904 94) s (Xi S 904 8) (Xi W 904 8) := by
  obtain ⟨h1, h2, h3, h4, h5⟩ := h
  obtain ⟨a1, k, a2, a3, a4, a5, a6⟩ := t2 b
  obtain ⟨c1, c2, c3, c4⟩ := t1 a1
  obtain ⟨n, hh, d1, d2, d3⟩ := h1 c1
  have A93 : Xi A 904 93 = Xi V 904 93 := f1.x 904 93 rfl
  have A98 : Xi A 904 98 = Xi S 904 98 := by rw [f1.x 904 98 rfl]; exact h5.2
  have kA : RUNK V W := (runk_F f1 rfl rfl RUNK.rf).tr k2
  rw [c4, A98, show (Xi A 904 93).toNat = (Xi S 904 93).toNat + n by omega] at a3
  refine ⟨n, k, hh, Xi V 904 8, hde_k d1 kA ⟨by rw [f2.x 904 102 rfl, f1.x 904 102 rfl], by rw [f2.x 904 103 rfl, f1.x 904 103 rfl]⟩, ?_, c2, a2, a3, a4, by omega, by omega⟩
  have w94 : Xi W 904 94 = Xi V 904 94 := by rw [f2.x 904 94 rfl, f1.x 904 94 rfl]
  rcases d2 with ⟨x1, x2, x3, x4⟩ | ⟨x1, x2, x3, x4⟩
  · exact Or.inl ⟨x1, x2, tsq_k kA n (fun z i p r d => (q2 z i p r (by omega)).trans (kte_F f1 rfl KTE.rf z i p r (by omega))) x3, by omega⟩
  · exact Or.inr ⟨x1, x2, x3, by omega⟩

def md_mo_rule__t : List rec := [(904, 905, 8, 9), (904, 905, 65, 66), (904, 905, 66, 67), (904, 905, 69, 70), (904, 905, 70, 71), (904, 905, 78, 79), (904, 905, 93, 94), (904, 905, 94, 95), (904, 905, 98, 99), (904, 905, 99, 100), (904, 905, 100, 101), (904, 905, 101, 102), (904, 905, 102, 103), (904, 905, 103, 104), (950, 951, 0, 100000), (951, 952, 0, 100000), (952, 953, 0, 100000), (953, 954, 0, 100000), (954, 955, 0, 100000), (955, 956, 0, 100000), (956, 957, 0, 100000), (957, 958, 0, 100000), (958, 959, 0, 100000), (959, 960, 0, 100000), (960, 961, 0, 100000), (961, 962, 0, 100000), (962, 963, 0, 100000), (963, 964, 0, 100000), (964, 965, 0, 100000), (965, 966, 0, 100000)]
abbrev Q_mo_rule__t (S : sS) (s : Int) : pst := fun r S1 => RI S1 ∧ FR md_mo_rule__t S S1 ∧ (r = none ∧ (Xi S1 904 65 = 0 → RUE (tkR S) S1 (Xi S 904 93).toNat (Xi S 904 98).toNat (Xi S 904 94) s (Xi S 904 8) (Xi S1 904 8)))
set_option maxRecDepth 100000 in
theorem c107_mo_rule__t {S : sS} (hH : RI S) (s : Int) (hs : 3 ≤ s ∧ s ≤ 6) (h69 : 0 ≤ Xi S 904 69) (h93 : 0 ≤ Xi S 904 93) (h98 : 0 ≤ Xi S 904 98) (hat : 0 ≤ Xi S 904 8 ∧ Xi S 904 8 ≤ 5001) (h65 : Xi S 904 65 = 0) (d : Nat) (fu : Nat) : ∀  (T1 : sS) (_ : RI T1) (_ : FR md_mo_rule__t S T1), (Hid (RWH S T1 s)) → Pl fu lay0 (d + 8) m_mo_rule 107 [(0, .ref 904)] [] T1 (Q_mo_rule__t S s) := by
  have hF : FR md_mo_rule__t S S := FR.rf
  have w1 : -2147483648 ≤ Xi S 904 65 ∧ Xi S 904 65 ≤ 2147483647 := Xi_rgI
  have w2 : -2147483648 ≤ Xi S 904 69 ∧ Xi S 904 69 ≤ 2147483647 := Xi_rgI
  have w3 : -2147483648 ≤ Xi S 904 8 ∧ Xi S 904 8 ≤ 2147483647 := Xi_rgI
  have w4 : -2147483648 ≤ Xi S 904 93 ∧ Xi S 904 93 ≤ 2147483647 := Xi_rgI
  have w5 : -2147483648 ≤ Xi S 904 94 ∧ Xi S 904 94 ≤ 2147483647 := Xi_rgI
  have w6 : -2147483648 ≤ Xi S 904 98 ∧ Xi S 904 98 ≤ 2147483647 := Xi_rgI
  intro T1 hHT1 hFT1 W107
  have w7 : -2147483648 ≤ Xi T1 904 65 ∧ Xi T1 904 65 ≤ 2147483647 := Xi_rgI
  have w8 : -2147483648 ≤ Xi T1 904 69 ∧ Xi T1 904 69 ≤ 2147483647 := Xi_rgI
  have w9 : -2147483648 ≤ Xi T1 904 8 ∧ Xi T1 904 8 ≤ 2147483647 := Xi_rgI
  have w10 : -2147483648 ≤ Xi T1 904 93 ∧ Xi T1 904 93 ≤ 2147483647 := Xi_rgI
  have w11 : -2147483648 ≤ Xi T1 904 94 ∧ Xi T1 904 94 ≤ 2147483647 := Xi_rgI
  have w12 : -2147483648 ≤ Xi T1 904 98 ∧ Xi T1 904 98 ≤ 2147483647 := Xi_rgI
  refine y_aload_n rfl rfl ?_
  refine y_bipush rfl rfl ?_
  refine y_callV rfl rfl rfl (t_mo_take__t hHT1 58 ⟨by omega, by omega⟩ _) ?_
  rintro _ T2 ⟨hHT2, w14, rfl, t110⟩
  have hFT2 : FR md_mo_rule__t S T2 := FR.tr hFT1 w14 rfl
  show Pl _ _ _ _ _ _ [] _ _
  have F110 := (by assumption : FR md_mo_take__t T1 T2)
  have T110_ := t110
  rw [tkR_F7 hFT1 rfl] at T110_
  clear t110
  have g110 := W107.o.2.1.1
  have c110 := W107.o.2.2.2.2
  refine y_aload_n rfl rfl ?_
  have w15 : Xi T2 904 69 = Xi T1 904 69 := (show Xi T2 904 69 = Xi T1 904 69 from w14.x _ _ rfl)
  have w16 : Xi T2 904 93 = Xi T1 904 93 := (show Xi T2 904 93 = Xi T1 904 93 from w14.x _ _ rfl)
  have w18 : Xi T2 904 98 = Xi T1 904 98 := (show Xi T2 904 98 = Xi T1 904 98 from w14.x _ _ rfl)
  refine y_callV rfl rfl rfl (t_mo_phrases__t hHT2 (by have a := W107.o.2.1.1; omega) (by have a := W107.o.2.2.2.2.1; omega) (by have a := W107.o.2.2.2.2.2; omega) _) ?_
  rintro _ T3 ⟨hHT3, w21, rfl, t114, k114, q114, w19⟩
  have hFT3 : FR md_mo_rule__t S T3 := FR.tr hFT2 w21 rfl
  show Pl _ _ _ _ _ _ [] _ _
  have F114 := (by assumption : FR md_mo_phrases__t T2 T3)
  have T114_ := t114
  rw [tkR_F7 hFT2 rfl] at T114_
  clear t114
  refine y_return rfl rfl ?_
  have w22 : Xi T3 904 94 = Xi T1 904 94 := (show Xi T3 904 94 = Xi T2 904 94 from w21.x _ _ rfl).trans ((show Xi T2 904 94 = Xi T1 904 94 from w14.x _ _ rfl))
  exact ⟨hHT3, hFT3, rfl, (fun b => rue_of ⟨h93, h98⟩ W107.o T110_ F110 T114_ F114 k114 q114 b)⟩
set_option maxRecDepth 100000 in
theorem c83_mo_rule__t {S : sS} (hH : RI S) (s : Int) (hs : 3 ≤ s ∧ s ≤ 6) (h69 : 0 ≤ Xi S 904 69) (h93 : 0 ≤ Xi S 904 93) (h98 : 0 ≤ Xi S 904 98) (hat : 0 ≤ Xi S 904 8 ∧ Xi S 904 8 ≤ 5001) (h65 : Xi S 904 65 = 0) (d : Nat) (fu : Nat) : ∀  (T4 : sS) (_ : RI T4) (_ : FR md_mo_rule__t S T4), (Hid (RHD S T4 s)) → Pl fu lay0 (d + 8) m_mo_rule 83 [(0, .ref 904)] [] T4 (Q_mo_rule__t S s) := by
  have C107 := c107_mo_rule__t hH s hs h69 h93 h98 hat h65 d  fu
  have hF : FR md_mo_rule__t S S := FR.rf
  have w1 : -2147483648 ≤ Xi S 904 65 ∧ Xi S 904 65 ≤ 2147483647 := Xi_rgI
  have w2 : -2147483648 ≤ Xi S 904 69 ∧ Xi S 904 69 ≤ 2147483647 := Xi_rgI
  have w3 : -2147483648 ≤ Xi S 904 8 ∧ Xi S 904 8 ≤ 2147483647 := Xi_rgI
  have w4 : -2147483648 ≤ Xi S 904 93 ∧ Xi S 904 93 ≤ 2147483647 := Xi_rgI
  have w5 : -2147483648 ≤ Xi S 904 94 ∧ Xi S 904 94 ≤ 2147483647 := Xi_rgI
  have w6 : -2147483648 ≤ Xi S 904 98 ∧ Xi S 904 98 ≤ 2147483647 := Xi_rgI
  intro T4 hHT4 hFT4 H83
  have w23 : -2147483648 ≤ Xi T4 904 65 ∧ Xi T4 904 65 ≤ 2147483647 := Xi_rgI
  have w24 : -2147483648 ≤ Xi T4 904 69 ∧ Xi T4 904 69 ≤ 2147483647 := Xi_rgI
  have w25 : -2147483648 ≤ Xi T4 904 8 ∧ Xi T4 904 8 ≤ 2147483647 := Xi_rgI
  have w26 : -2147483648 ≤ Xi T4 904 93 ∧ Xi T4 904 93 ≤ 2147483647 := Xi_rgI
  have w27 : -2147483648 ≤ Xi T4 904 94 ∧ Xi T4 904 94 ≤ 2147483647 := Xi_rgI
  have w28 : -2147483648 ≤ Xi T4 904 98 ∧ Xi T4 904 98 ≤ 2147483647 := Xi_rgI
  refine y_aload_n rfl rfl ?_
  refine y_sipush rfl rfl ?_
  refine y_callV rfl rfl rfl (t_mo_isNext__t hHT4 137 ⟨by omega, by omega⟩ _) ?_
  rintro _ _ ⟨rfl, z29, rfl, w29, t87⟩
  show Pl _ _ _ _ _ _ [iv z29] _ _
  have T87 := t87
  rw [tkR_F7 hFT4 rfl] at T87
  clear t87
  refine y_if_eq rfl rfl (by unfold rg; omega) (fun w30 => ?_) (fun w31 => ?_)
  · exact Pl_weak (C107 T4 hHT4 hFT4  (by first | exact W104 | exact rwh_n H83.o (T87.2 (by omega)))) (by omega) (And.intro rfl (True.intro))
  · refine y_aload_n rfl rfl ?_
    refine y_dup rfl rfl ?_
    refine y_gfi rfl rfl rfl rfl rfl ?_
    refine y_iconst rfl ?_
    refine y_iadd rfl ?_
    refine y_pfi rfl rfl rfl rfl ?_
    obtain ⟨U5, eU5⟩ : ∃ T : sS, T = uI T4 904 8 (Int32.ofInt ((Xi T4 904 8) + 1)) := ⟨_, rfl⟩
    rw [← eU5]
    have hHU5 : RI U5 := by rw [eU5]; exact RI_w hHT4
    have hFU5 : FR md_mo_rule__t S U5 := by rw [eU5]; exact FR.wI hFT4 (mdf_i (r := (904, 905, 8, 9)) (List.mem_of_getElem? (i := 0) rfl) (inR_i (by omega) (by omega) (by omega) (by omega)))
    have e100 := eU5
    have g100 := H83.o.2.1.1
    have c100 := H83.o.2.2.2.2.1
    have x100 : Xi U5 904 69 = Xi T4 904 69 ∧ Xi U5 904 93 = Xi T4 904 93 := ⟨by rw [e100, Xi_ne (by omega)], by rw [e100, Xi_ne (by omega)]⟩
    refine y_aload_n rfl rfl ?_
    have w32 : Xi U5 904 65 = Xi T4 904 65 := (show Xi U5 904 65 = Xi T4 904 65 from by rw [eU5]; exact Xi_ne (by omega))
    have w33 : Xi U5 904 69 = Xi T4 904 69 := (show Xi U5 904 69 = Xi T4 904 69 from by rw [eU5]; exact Xi_ne (by omega))
    have w34 : Xi U5 904 93 = Xi T4 904 93 := (show Xi U5 904 93 = Xi T4 904 93 from by rw [eU5]; exact Xi_ne (by omega))
    have w35 : Xi U5 904 94 = Xi T4 904 94 := (show Xi U5 904 94 = Xi T4 904 94 from by rw [eU5]; exact Xi_ne (by omega))
    have w36 : Xi U5 904 98 = Xi T4 904 98 := (show Xi U5 904 98 = Xi T4 904 98 from by rw [eU5]; exact Xi_ne (by omega))
    refine y_callV rfl rfl rfl (t_mo_tests__t hHU5 (by have a := H83.o.2.1.1; omega) (by have a := H83.o.2.2.2.2.1; omega) _) ?_
    rintro _ T6 ⟨hHT6, w38, rfl, t104, k104, q104, c104, h104⟩
    have hFT6 : FR md_mo_rule__t S T6 := FR.tr hFU5 w38 rfl
    show Pl _ _ _ _ _ _ [] _ _
    have F104 := (by assumption : FR md_mo_tests__t U5 T6)
    have T104_ := t104
    rw [tkR_F7 hFU5 rfl] at T104_
    clear t104
    have W104 : Hid (RWH S T6 s) := rwh_y h93 H83.o (T87.1 (by omega)) e100 (by omega) T104_ F104 k104 q104 c104 h104
    have w39 : Xi T6 904 98 = Xi T4 904 98 := (show Xi T6 904 98 = Xi U5 904 98 from w38.x _ _ rfl).trans ((show Xi U5 904 98 = Xi T4 904 98 from by rw [eU5]; exact Xi_ne (by omega)))
    exact Pl_weak (C107 T6 hHT6 hFT6  (by first | exact W104 | exact rwh_n H83.o (T87.2 (by omega)))) (by omega) (And.intro rfl (True.intro))
set_option maxRecDepth 100000 in
theorem c26_mo_rule__t {S : sS} (hH : RI S) (s : Int) (hs : 3 ≤ s ∧ s ≤ 6) (h69 : 0 ≤ Xi S 904 69) (h93 : 0 ≤ Xi S 904 93) (h98 : 0 ≤ Xi S 904 98) (hat : 0 ≤ Xi S 904 8 ∧ Xi S 904 8 ≤ 5001) (h65 : Xi S 904 65 = 0) (d : Nat) (fu : Nat) : ∀  (T7 : sS) (_ : RI T7) (_ : FR md_mo_rule__t S T7), (Hid (RB0 S T7 s)) → Pl fu lay0 (d + 8) m_mo_rule 26 [(0, .ref 904), (1, iv s)] [] T7 (Q_mo_rule__t S s) := by
  have C83 := c83_mo_rule__t hH s hs h69 h93 h98 hat h65 d  fu
  have hF : FR md_mo_rule__t S S := FR.rf
  have w1 : -2147483648 ≤ Xi S 904 65 ∧ Xi S 904 65 ≤ 2147483647 := Xi_rgI
  have w2 : -2147483648 ≤ Xi S 904 69 ∧ Xi S 904 69 ≤ 2147483647 := Xi_rgI
  have w3 : -2147483648 ≤ Xi S 904 8 ∧ Xi S 904 8 ≤ 2147483647 := Xi_rgI
  have w4 : -2147483648 ≤ Xi S 904 93 ∧ Xi S 904 93 ≤ 2147483647 := Xi_rgI
  have w5 : -2147483648 ≤ Xi S 904 94 ∧ Xi S 904 94 ≤ 2147483647 := Xi_rgI
  have w6 : -2147483648 ≤ Xi S 904 98 ∧ Xi S 904 98 ≤ 2147483647 := Xi_rgI
  intro T7 hHT7 hFT7 B26
  have w40 : -2147483648 ≤ Xi T7 904 65 ∧ Xi T7 904 65 ≤ 2147483647 := Xi_rgI
  have w41 : -2147483648 ≤ Xi T7 904 69 ∧ Xi T7 904 69 ≤ 2147483647 := Xi_rgI
  have w42 : -2147483648 ≤ Xi T7 904 8 ∧ Xi T7 904 8 ≤ 2147483647 := Xi_rgI
  have w43 : -2147483648 ≤ Xi T7 904 93 ∧ Xi T7 904 93 ≤ 2147483647 := Xi_rgI
  have w44 : -2147483648 ≤ Xi T7 904 94 ∧ Xi T7 904 94 ≤ 2147483647 := Xi_rgI
  have w45 : -2147483648 ≤ Xi T7 904 98 ∧ Xi T7 904 98 ≤ 2147483647 := Xi_rgI
  refine y_iload_n rfl rfl ?_
  refine y_bipush rfl rfl ?_
  refine y_icmp_ne rfl rfl (by unfold rg; omega) (by unfold rg; omega) (fun w46 => ?_) (fun w47 => ?_)
  · refine y_aload_n rfl rfl ?_
    refine y_aload_n rfl rfl ?_
    refine y_callV rfl rfl rfl (t_mo_run__t hHT7 _) ?_
    rintro _ T8 ⟨hHT8, w49, z48, rfl, w48, t44, k44⟩
    have hFT8 : FR md_mo_rule__t S T8 := FR.tr hFT7 w49 rfl
    show Pl _ _ _ _ _ _ [iv z48, .ref 904] _ _
    have F44 := (by assumption : FR md_mo_run__t T7 T8)
    have T44_ := t44
    rw [tkR_F7 hFT7 rfl] at T44_
    clear t44
    have g44 := k44.1
    refine y_pfi rfl rfl rfl rfl ?_
    obtain ⟨U9, eU9⟩ : ∃ T : sS, T = uI T8 904 102 (Int32.ofInt z48) := ⟨_, rfl⟩
    rw [← eU9]
    have hHU9 : RI U9 := by rw [eU9]; exact RI_w hHT8
    have hFU9 : FR md_mo_rule__t S U9 := by rw [eU9]; exact FR.wI hFT8 (mdf_i (r := (904, 905, 102, 103)) (List.mem_of_getElem? (i := 12) rfl) (inR_i (by omega) (by omega) (by omega) (by omega)))
    have w50 : Xi U9 904 102 = z48 := by rw [eU9]; exact Xi_same (by unfold rg; omega)
    have e47 := eU9
    refine y_aload_n rfl rfl ?_
    refine y_iconst rfl ?_
    refine y_pfi rfl rfl rfl rfl ?_
    obtain ⟨U10, eU10⟩ : ∃ T : sS, T = uI U9 904 103 (Int32.ofInt (-1)) := ⟨_, rfl⟩
    rw [← eU10]
    have hHU10 : RI U10 := by rw [eU10]; exact RI_w hHU9
    have hFU10 : FR md_mo_rule__t S U10 := by rw [eU10]; exact FR.wI hFU9 (mdf_i (r := (904, 905, 103, 104)) (List.mem_of_getElem? (i := 13) rfl) (inR_i (by omega) (by omega) (by omega) (by omega)))
    have w51 : Xi U10 904 103 = (-1) := by rw [eU10]; exact Xi_same (by unfold rg; omega)
    have e52 := eU10
    refine y_aload_n rfl rfl ?_
    have w52 : Xi U10 904 65 = Xi T8 904 65 := (show Xi U10 904 65 = Xi U9 904 65 from by rw [eU10]; exact Xi_ne (by omega)).trans ((show Xi U9 904 65 = Xi T8 904 65 from by rw [eU9]; exact Xi_ne (by omega)))
    have w53 : Xi U10 904 69 = Xi T8 904 69 := (show Xi U10 904 69 = Xi U9 904 69 from by rw [eU10]; exact Xi_ne (by omega)).trans ((show Xi U9 904 69 = Xi T8 904 69 from by rw [eU9]; exact Xi_ne (by omega)))
    have w54 : Xi U10 904 8 = Xi T8 904 8 := (show Xi U10 904 8 = Xi U9 904 8 from by rw [eU10]; exact Xi_ne (by omega)).trans ((show Xi U9 904 8 = Xi T8 904 8 from by rw [eU9]; exact Xi_ne (by omega)))
    have w55 : Xi U10 904 93 = Xi T7 904 93 := (show Xi U10 904 93 = Xi U9 904 93 from by rw [eU10]; exact Xi_ne (by omega)).trans ( (show Xi U9 904 93 = Xi T8 904 93 from by rw [eU9]; exact Xi_ne (by omega)).trans ((show Xi T8 904 93 = Xi T7 904 93 from w49.x _ _ rfl)))
    have w56 : Xi U10 904 94 = Xi T7 904 94 := (show Xi U10 904 94 = Xi U9 904 94 from by rw [eU10]; exact Xi_ne (by omega)).trans ( (show Xi U9 904 94 = Xi T8 904 94 from by rw [eU9]; exact Xi_ne (by omega)).trans ((show Xi T8 904 94 = Xi T7 904 94 from w49.x _ _ rfl)))
    have w57 : Xi U10 904 98 = Xi T7 904 98 := (show Xi U10 904 98 = Xi U9 904 98 from by rw [eU10]; exact Xi_ne (by omega)).trans ( (show Xi U9 904 98 = Xi T8 904 98 from by rw [eU9]; exact Xi_ne (by omega)).trans ((show Xi T8 904 98 = Xi T7 904 98 from w49.x _ _ rfl)))
    refine y_callV rfl rfl rfl (t_mo_look__t hHU10 _) ?_
    rintro _ _ ⟨rfl, z58, rfl, w58, t56⟩
    show Pl _ _ _ _ _ _ [iv z58] _ _
    have T56 := t56
    rw [tkR_F7 hFU10 rfl] at T56
    clear t56
    refine y_callS rfl rfl (by decide) rfl (t_mo_isArt__p hHU10 z58 ⟨by omega, by omega⟩ _) ?_
    rintro _ _ ⟨rfl, z65, rfl, w65, q59, n59⟩
    show Pl _ _ _ _ _ _ [iv z65] _ _
    refine y_if_eq rfl rfl (by unfold rg; omega) (fun w66 => ?_) (fun w67 => ?_)
    · have w68 : Xi U10 904 65 = Xi T8 904 65 := (show Xi U10 904 65 = Xi U9 904 65 from by rw [eU10]; exact Xi_ne (by omega)).trans ((show Xi U9 904 65 = Xi T8 904 65 from by rw [eU9]; exact Xi_ne (by omega)))
      exact Pl_weak (C83 U10 hHU10 hFU10  (by first | exact H80 | exact H36 | exact rhd_a B26.o (by omega) T44_ F44 k44 e47 e52 (by unfold rg; omega) (fun b => by have u := T56.1 b; unfold ARK; rw [← u.1]; omega))) (by omega) (And.intro rfl (True.intro))
    · refine y_aload_n rfl rfl ?_
      have n65 : Xi U10 904 65 = 0 := by by_cases c : Xi U10 904 65 = 0; exact c; (have := T56.2 c; omega)
      have g65 := T56.1 n65
      have r65 : ARK (tkR S (Xi U10 904 8)) := by unfold ARK; rw [← g65.1]; omega
      refine y_dup rfl rfl ?_
      refine y_gfi rfl rfl rfl rfl rfl ?_
      have w74 : -2147483648 ≤ (Xi U10 904 8) ∧ (Xi U10 904 8) ≤ 2147483647 := Xi_rgI
      refine y_iconst rfl ?_
      refine y_iadd rfl ?_
      refine y_pfi rfl rfl rfl rfl ?_
      obtain ⟨U11, eU11⟩ : ∃ T : sS, T = uI U10 904 8 (Int32.ofInt ((Xi U10 904 8) + 1)) := ⟨_, rfl⟩
      rw [← eU11]
      have hHU11 : RI U11 := by rw [eU11]; exact RI_w hHU10
      have hFU11 : FR md_mo_rule__t S U11 := by rw [eU11]; exact FR.wI hFU10 (mdf_i (r := (904, 905, 8, 9)) (List.mem_of_getElem? (i := 0) rfl) (inR_i (by omega) (by omega) (by omega) (by omega)))
      have w75 : Xi U11 904 8 = ((Xi U10 904 8) + 1) := by rw [eU11]; exact Xi_same (by unfold rg; omega)
      have e72 := eU11
      refine y_aload_n rfl rfl ?_
      refine y_aload_n rfl rfl ?_
      have w76 : Xi U11 904 65 = Xi T8 904 65 := (show Xi U11 904 65 = Xi U10 904 65 from by rw [eU11]; exact Xi_ne (by omega)).trans ( (show Xi U10 904 65 = Xi U9 904 65 from by rw [eU10]; exact Xi_ne (by omega)).trans ((show Xi U9 904 65 = Xi T8 904 65 from by rw [eU9]; exact Xi_ne (by omega))))
      have w77 : Xi U11 904 69 = Xi T8 904 69 := (show Xi U11 904 69 = Xi U10 904 69 from by rw [eU11]; exact Xi_ne (by omega)).trans ( (show Xi U10 904 69 = Xi U9 904 69 from by rw [eU10]; exact Xi_ne (by omega)).trans ((show Xi U9 904 69 = Xi T8 904 69 from by rw [eU9]; exact Xi_ne (by omega))))
      have w78 : Xi U11 904 93 = Xi T7 904 93 := (show Xi U11 904 93 = Xi U10 904 93 from by rw [eU11]; exact Xi_ne (by omega)).trans ( (show Xi U10 904 93 = Xi U9 904 93 from by rw [eU10]; exact Xi_ne (by omega)).trans ( (show Xi U9 904 93 = Xi T8 904 93 from by rw [eU9]; exact Xi_ne (by omega)).trans ((show Xi T8 904 93 = Xi T7 904 93 from w49.x _ _ rfl))))
      have w79 : Xi U11 904 94 = Xi T7 904 94 := (show Xi U11 904 94 = Xi U10 904 94 from by rw [eU11]; exact Xi_ne (by omega)).trans ( (show Xi U10 904 94 = Xi U9 904 94 from by rw [eU10]; exact Xi_ne (by omega)).trans ( (show Xi U9 904 94 = Xi T8 904 94 from by rw [eU9]; exact Xi_ne (by omega)).trans ((show Xi T8 904 94 = Xi T7 904 94 from w49.x _ _ rfl))))
      have w80 : Xi U11 904 98 = Xi T7 904 98 := (show Xi U11 904 98 = Xi U10 904 98 from by rw [eU11]; exact Xi_ne (by omega)).trans ( (show Xi U10 904 98 = Xi U9 904 98 from by rw [eU10]; exact Xi_ne (by omega)).trans ( (show Xi U9 904 98 = Xi T8 904 98 from by rw [eU9]; exact Xi_ne (by omega)).trans ((show Xi T8 904 98 = Xi T7 904 98 from w49.x _ _ rfl))))
      refine y_callV rfl rfl rfl (t_mo_run__t hHU11 _) ?_
      rintro _ T12 ⟨hHT12, w82, z81, rfl, w81, t77, k77⟩
      have hFT12 : FR md_mo_rule__t S T12 := FR.tr hFU11 w82 rfl
      show Pl _ _ _ _ _ _ [iv z81, .ref 904] _ _
      have F77 := (by assumption : FR md_mo_run__t U11 T12)
      have T77_ := t77
      rw [tkR_F7 hFU11 rfl] at T77_
      clear t77
      have g77 := k77.1
      refine y_pfi rfl rfl rfl rfl ?_
      obtain ⟨U13, eU13⟩ : ∃ T : sS, T = uI T12 904 103 (Int32.ofInt z81) := ⟨_, rfl⟩
      rw [← eU13]
      have hHU13 : RI U13 := by rw [eU13]; exact RI_w hHT12
      have hFU13 : FR md_mo_rule__t S U13 := by rw [eU13]; exact FR.wI hFT12 (mdf_i (r := (904, 905, 103, 104)) (List.mem_of_getElem? (i := 13) rfl) (inR_i (by omega) (by omega) (by omega) (by omega)))
      have w83 : Xi U13 904 103 = z81 := by rw [eU13]; exact Xi_same (by unfold rg; omega)
      have e80 := eU13
      have H80 : Hid (RHD S U13 s) := rhd_o B26.o (by omega) T44_ F44 k44 e47 e52 (by unfold rg; omega) ⟨n65, r65⟩ e72 (by first | rfl | omega) (by unfold rg; omega) T77_ F77 k77 e80 (by unfold rg; omega)
      have w84 : Xi U13 904 65 = Xi T12 904 65 := (show Xi U13 904 65 = Xi T12 904 65 from by rw [eU13]; exact Xi_ne (by omega))
      have w85 : Xi U13 904 69 = Xi T12 904 69 := (show Xi U13 904 69 = Xi T12 904 69 from by rw [eU13]; exact Xi_ne (by omega))
      have w86 : Xi U13 904 8 = Xi T12 904 8 := (show Xi U13 904 8 = Xi T12 904 8 from by rw [eU13]; exact Xi_ne (by omega))
      have w87 : Xi U13 904 93 = Xi T7 904 93 := (show Xi U13 904 93 = Xi T12 904 93 from by rw [eU13]; exact Xi_ne (by omega)).trans ( (show Xi T12 904 93 = Xi U11 904 93 from w82.x _ _ rfl).trans ( (show Xi U11 904 93 = Xi U10 904 93 from by rw [eU11]; exact Xi_ne (by omega)).trans ( (show Xi U10 904 93 = Xi U9 904 93 from by rw [eU10]; exact Xi_ne (by omega)).trans ( (show Xi U9 904 93 = Xi T8 904 93 from by rw [eU9]; exact Xi_ne (by omega)).trans ((show Xi T8 904 93 = Xi T7 904 93 from w49.x _ _ rfl))))))
      have w88 : Xi U13 904 94 = Xi T7 904 94 := (show Xi U13 904 94 = Xi T12 904 94 from by rw [eU13]; exact Xi_ne (by omega)).trans ( (show Xi T12 904 94 = Xi U11 904 94 from w82.x _ _ rfl).trans ( (show Xi U11 904 94 = Xi U10 904 94 from by rw [eU11]; exact Xi_ne (by omega)).trans ( (show Xi U10 904 94 = Xi U9 904 94 from by rw [eU10]; exact Xi_ne (by omega)).trans ( (show Xi U9 904 94 = Xi T8 904 94 from by rw [eU9]; exact Xi_ne (by omega)).trans ((show Xi T8 904 94 = Xi T7 904 94 from w49.x _ _ rfl))))))
      have w89 : Xi U13 904 98 = Xi T7 904 98 := (show Xi U13 904 98 = Xi T12 904 98 from by rw [eU13]; exact Xi_ne (by omega)).trans ( (show Xi T12 904 98 = Xi U11 904 98 from w82.x _ _ rfl).trans ( (show Xi U11 904 98 = Xi U10 904 98 from by rw [eU11]; exact Xi_ne (by omega)).trans ( (show Xi U10 904 98 = Xi U9 904 98 from by rw [eU10]; exact Xi_ne (by omega)).trans ( (show Xi U9 904 98 = Xi T8 904 98 from by rw [eU9]; exact Xi_ne (by omega)).trans ((show Xi T8 904 98 = Xi T7 904 98 from w49.x _ _ rfl))))))
      exact Pl_weak (C83 U13 hHU13 hFU13  (by first | exact H80 | exact H36 | exact rhd_a B26.o (by omega) T44_ F44 k44 e47 e52 (by unfold rg; omega) (fun b => by have u := T56.1 b; unfold ARK; rw [← u.1]; omega))) (by omega) (And.intro rfl (True.intro))
  · refine y_aload_n rfl rfl ?_
    refine y_sipush rfl rfl ?_
    refine y_callV rfl rfl rfl (t_mo_take__t hHT7 142 ⟨by omega, by omega⟩ _) ?_
    rintro _ T14 ⟨hHT14, w91, rfl, t36⟩
    have hFT14 : FR md_mo_rule__t S T14 := FR.tr hFT7 w91 rfl
    show Pl _ _ _ _ _ _ [] _ _
    have F36 := (by assumption : FR md_mo_take__t T7 T14)
    have T36_ := t36
    rw [tkR_F7 hFT7 rfl] at T36_
    clear t36
    have H36 : Hid (RHD S T14 s) := rhd_6 B26.o (by omega) T36_ F36
    refine y_goto rfl rfl ?_
    have w92 : Xi T14 904 69 = Xi T7 904 69 := (show Xi T14 904 69 = Xi T7 904 69 from w91.x _ _ rfl)
    have w93 : Xi T14 904 93 = Xi T7 904 93 := (show Xi T14 904 93 = Xi T7 904 93 from w91.x _ _ rfl)
    have w94 : Xi T14 904 94 = Xi T7 904 94 := (show Xi T14 904 94 = Xi T7 904 94 from w91.x _ _ rfl)
    have w95 : Xi T14 904 98 = Xi T7 904 98 := (show Xi T14 904 98 = Xi T7 904 98 from w91.x _ _ rfl)
    exact Pl_weak (C83 T14 hHT14 hFT14  (by first | exact H80 | exact H36 | exact rhd_a B26.o (by omega) T44_ F44 k44 e47 e52 (by unfold rg; omega) (fun b => by have u := T56.1 b; unfold ARK; rw [← u.1]; omega))) (by omega) (And.intro rfl (True.intro))
set_option maxRecDepth 100000 in
theorem t_mo_rule__t {S : sS} (hH : RI S) (s : Int) (hs : 3 ≤ s ∧ s ≤ 6) (h69 : 0 ≤ Xi S 904 69) (h93 : 0 ≤ Xi S 904 93) (h98 : 0 ≤ Xi S 904 98) (hat : 0 ≤ Xi S 904 8 ∧ Xi S 904 8 ≤ 5001) (h65 : Xi S 904 65 = 0) (d : Nat) : Mp lay0 (d + 9) m_mo_rule [.ref 904, iv s] S (Q_mo_rule__t S s) := by
  refine Mp_R rfl rfl (fun fu => ?_)
  have C107 := c107_mo_rule__t hH s hs h69 h93 h98 hat h65 d  fu
  have C83 := c83_mo_rule__t hH s hs h69 h93 h98 hat h65 d  fu
  have C26 := c26_mo_rule__t hH s hs h69 h93 h98 hat h65 d  fu
  have hF : FR md_mo_rule__t S S := FR.rf
  have w1 : -2147483648 ≤ Xi S 904 65 ∧ Xi S 904 65 ≤ 2147483647 := Xi_rgI
  have w2 : -2147483648 ≤ Xi S 904 69 ∧ Xi S 904 69 ≤ 2147483647 := Xi_rgI
  have w3 : -2147483648 ≤ Xi S 904 8 ∧ Xi S 904 8 ≤ 2147483647 := Xi_rgI
  have w4 : -2147483648 ≤ Xi S 904 93 ∧ Xi S 904 93 ≤ 2147483647 := Xi_rgI
  have w5 : -2147483648 ≤ Xi S 904 94 ∧ Xi S 904 94 ≤ 2147483647 := Xi_rgI
  have w6 : -2147483648 ≤ Xi S 904 98 ∧ Xi S 904 98 ≤ 2147483647 := Xi_rgI
  refine y_aload_n rfl rfl ?_
  refine y_iload_n rfl rfl ?_
  refine y_pfi rfl rfl rfl rfl ?_
  obtain ⟨U15, eU15⟩ : ∃ T : sS, T = uI S 904 70 (Int32.ofInt s) := ⟨_, rfl⟩
  rw [← eU15]
  have hHU15 : RI U15 := by rw [eU15]; exact RI_w hH
  have hFU15 : FR md_mo_rule__t S U15 := by rw [eU15]; exact FR.wI hF (mdf_i (r := (904, 905, 70, 71)) (List.mem_of_getElem? (i := 4) rfl) (inR_i (by omega) (by omega) (by omega) (by omega)))
  have w96 : Xi U15 904 70 = s := by rw [eU15]; exact Xi_same (by unfold rg; omega)
  have e2 := eU15
  refine y_aload_n rfl rfl ?_
  refine y_dup rfl rfl ?_
  refine y_gfi rfl rfl rfl rfl rfl ?_
  have w97 : (Xi U15 904 8) = (Xi S 904 8) := (show Xi U15 904 8 = Xi S 904 8 from by rw [eU15]; exact Xi_ne (by omega))
  rw [w97]
  refine y_iconst rfl ?_
  refine y_iadd rfl ?_
  refine y_pfi rfl rfl rfl rfl ?_
  obtain ⟨U16, eU16⟩ : ∃ T : sS, T = uI U15 904 8 (Int32.ofInt ((Xi S 904 8) + 1)) := ⟨_, rfl⟩
  rw [← eU16]
  have hHU16 : RI U16 := by rw [eU16]; exact RI_w hHU15
  have hFU16 : FR md_mo_rule__t S U16 := by rw [eU16]; exact FR.wI hFU15 (mdf_i (r := (904, 905, 8, 9)) (List.mem_of_getElem? (i := 0) rfl) (inR_i (by omega) (by omega) (by omega) (by omega)))
  have w98 : Xi U16 904 8 = ((Xi S 904 8) + 1) := by rw [eU16]; exact Xi_same (by unfold rg; omega)
  have e12 := eU16
  refine y_iload_n rfl rfl ?_
  refine y_iconst rfl ?_
  refine y_icmp_ne rfl rfl (by unfold rg; omega) (by unfold rg; omega) (fun w99 => ?_) (fun w100 => ?_)
  · have w101 : Xi U16 904 65 = Xi S 904 65 := (show Xi U16 904 65 = Xi U15 904 65 from by rw [eU16]; exact Xi_ne (by omega)).trans ((show Xi U15 904 65 = Xi S 904 65 from by rw [eU15]; exact Xi_ne (by omega)))
    have w102 : Xi U16 904 69 = Xi S 904 69 := (show Xi U16 904 69 = Xi U15 904 69 from by rw [eU16]; exact Xi_ne (by omega)).trans ((show Xi U15 904 69 = Xi S 904 69 from by rw [eU15]; exact Xi_ne (by omega)))
    have w103 : Xi U16 904 93 = Xi S 904 93 := (show Xi U16 904 93 = Xi U15 904 93 from by rw [eU16]; exact Xi_ne (by omega)).trans ((show Xi U15 904 93 = Xi S 904 93 from by rw [eU15]; exact Xi_ne (by omega)))
    have w104 : Xi U16 904 94 = Xi S 904 94 := (show Xi U16 904 94 = Xi U15 904 94 from by rw [eU16]; exact Xi_ne (by omega)).trans ((show Xi U15 904 94 = Xi S 904 94 from by rw [eU15]; exact Xi_ne (by omega)))
    have w105 : Xi U16 904 98 = Xi S 904 98 := (show Xi U16 904 98 = Xi U15 904 98 from by rw [eU16]; exact Xi_ne (by omega)).trans ((show Xi U15 904 98 = Xi S 904 98 from by rw [eU15]; exact Xi_ne (by omega)))
    exact Pl_weak (C26 U16 hHU16 hFU16  (by first | exact rb0_5 hat e2 e12 (by omega) (by omega) T23_ F23 | exact rb0_n hat e2 e12 (by omega) (by omega))) (by omega) (And.intro rfl (And.intro rfl (True.intro)))
  · refine y_aload_n rfl rfl ?_
    refine y_bipush rfl rfl ?_
    have w106 : Xi U16 904 65 = Xi S 904 65 := (show Xi U16 904 65 = Xi U15 904 65 from by rw [eU16]; exact Xi_ne (by omega)).trans ((show Xi U15 904 65 = Xi S 904 65 from by rw [eU15]; exact Xi_ne (by omega)))
    refine y_callV rfl rfl rfl (t_mo_take__t hHU16 107 ⟨by omega, by omega⟩ _) ?_
    rintro _ T17 ⟨hHT17, w112, rfl, t23⟩
    have hFT17 : FR md_mo_rule__t S T17 := FR.tr hFU16 w112 rfl
    show Pl _ _ _ _ _ _ [] _ _
    have F23 := (by assumption : FR md_mo_take__t U16 T17)
    have T23_ := t23
    rw [tkR_F7 hFU16 rfl] at T23_
    clear t23
    have w113 : Xi T17 904 69 = Xi S 904 69 := (show Xi T17 904 69 = Xi U16 904 69 from w112.x _ _ rfl).trans ( (show Xi U16 904 69 = Xi U15 904 69 from by rw [eU16]; exact Xi_ne (by omega)).trans ((show Xi U15 904 69 = Xi S 904 69 from by rw [eU15]; exact Xi_ne (by omega))))
    have w114 : Xi T17 904 93 = Xi S 904 93 := (show Xi T17 904 93 = Xi U16 904 93 from w112.x _ _ rfl).trans ( (show Xi U16 904 93 = Xi U15 904 93 from by rw [eU16]; exact Xi_ne (by omega)).trans ((show Xi U15 904 93 = Xi S 904 93 from by rw [eU15]; exact Xi_ne (by omega))))
    have w115 : Xi T17 904 94 = Xi S 904 94 := (show Xi T17 904 94 = Xi U16 904 94 from w112.x _ _ rfl).trans ( (show Xi U16 904 94 = Xi U15 904 94 from by rw [eU16]; exact Xi_ne (by omega)).trans ((show Xi U15 904 94 = Xi S 904 94 from by rw [eU15]; exact Xi_ne (by omega))))
    have w116 : Xi T17 904 98 = Xi S 904 98 := (show Xi T17 904 98 = Xi U16 904 98 from w112.x _ _ rfl).trans ( (show Xi U16 904 98 = Xi U15 904 98 from by rw [eU16]; exact Xi_ne (by omega)).trans ((show Xi U15 904 98 = Xi S 904 98 from by rw [eU15]; exact Xi_ne (by omega))))
    exact Pl_weak (C26 T17 hHT17 hFT17  (by first | exact rb0_5 hat e2 e12 (by omega) (by omega) T23_ F23 | exact rb0_n hat e2 e12 (by omega) (by omega))) (by omega) (And.intro rfl (And.intro rfl (True.intro)))
end
section
/-! the reference's reading: what is kept of a definition, of a RULE, up to the dot -/
theorem dfe_k {T : Int → Int} {V W : sS} {c r0 : Nat} {p e : Int} (h : DFE T V c r0 p e) (k : RUNK V W) (q : KTE V W) (x : Xi W 904 93 = Xi V 904 93 ∧ Xi W 904 94 = Xi V 904 94) : DFE T W c r0 p e := by
  obtain ⟨a, b, r, w, n, h1, h2, h3, h4, h5, h6, h7, h8, h9, g1, g2⟩ := h
  exact ⟨a, b, r, w, n, h1, rr_k h2 k, h3, h4, rr_k h5 k, h6, h7, tsq_k k n (fun z i p r d => q z i p r (by omega)) h8, h9, by omega, by omega⟩
theorem rue_k {T : Int → Int} {V W : sS} {c m : Nat} {t0 s p e : Int} (h : RUE T V c m t0 s p e) (k : RUNK V W) (q : KTE V W) (u : KPE V W) (x : Xi W 904 93 = Xi V 904 93 ∧ Xi W 904 94 = Xi V 904 94 ∧ Xi W 904 98 = Xi V 904 98) (y : Xi W 904 102 = Xi V 904 102 ∧ Xi W 904 103 = Xi V 904 103) : RUE T W c m t0 s p e := by
  obtain ⟨n, l, h, g, h1, h2, h3, h4, h5, h6, h7, h8⟩ := h
  refine ⟨n, l, h, g, hde_k h1 k y, ?_, h3, h4, psq_k k l (fun z i p r d => q z i p r (by omega)) (fun z i p r d => u z i p r (by omega)) h5, h6, by omega, by omega⟩
  rcases h2 with ⟨x1, x2, x3, x4⟩ | ⟨x1, x2, x3, x4⟩
  · exact Or.inl ⟨x1, x2, tsq_k k n (fun z i p r d => q z i p r (by omega)) x3, by omega⟩
  · exact Or.inr ⟨x1, x2, x3, by omega⟩
/-- a sentence begins -/
def SBG (S U : sS) : Prop := Xi U 904 65 = 0 ∧ Xi U 904 69 = 0 ∧ Xi U 904 93 = 0 ∧ Xi U 904 94 = 0 ∧ Xi U 904 98 = 0 ∧ Xi U 904 8 = Xi S 904 8
theorem sbg_of {S A B C D E F U : sS} (e1 : A = uI S 904 65 (Int32.ofInt 0)) (e2 : B = uI A 904 69 (Int32.ofInt 0)) (e3 : C = uI B 904 93 (Int32.ofInt 0)) (e4 : D = uI C 904 94 (Int32.ofInt 0)) (e5 : E = uI D 904 98 (Int32.ofInt 0)) (e6 : F = uI E 904 75 (Int32.ofInt 0)) (e7 : U = uI F 904 76 (Int32.ofInt 0)) : SBG S U :=
  ⟨by rw [e7, Xi_ne (by omega), e6, Xi_ne (by omega), e5, Xi_ne (by omega), e4, Xi_ne (by omega), e3, Xi_ne (by omega), e2, Xi_ne (by omega)]; exact xi_of e1 ⟨by decide, by decide⟩,
   by rw [e7, Xi_ne (by omega), e6, Xi_ne (by omega), e5, Xi_ne (by omega), e4, Xi_ne (by omega), e3, Xi_ne (by omega)]; exact xi_of e2 ⟨by decide, by decide⟩,
   by rw [e7, Xi_ne (by omega), e6, Xi_ne (by omega), e5, Xi_ne (by omega), e4, Xi_ne (by omega)]; exact xi_of e3 ⟨by decide, by decide⟩,
   by rw [e7, Xi_ne (by omega), e6, Xi_ne (by omega), e5, Xi_ne (by omega)]; exact xi_of e4 ⟨by decide, by decide⟩,
   by rw [e7, Xi_ne (by omega), e6, Xi_ne (by omega)]; exact xi_of e5 ⟨by decide, by decide⟩,
   by rw [e7, Xi_ne (by omega), e6, Xi_ne (by omega), e5, Xi_ne (by omega), e4, Xi_ne (by omega), e3, Xi_ne (by omega), e2, Xi_ne (by omega), e1, Xi_ne (by omega)]⟩
theorem sen_2 {S U V W X : sS} (h : SBG S U) (e1 : V = uI U 904 70 (Int32.ofInt 2)) (t1 : Xi W 904 65 = 0 → Xi V 904 65 = 0 ∧ DFE (tkR S) W (Xi V 904 93).toNat (Xi V 904 69).toNat (Xi V 904 8) (Xi W 904 8)) (t2 : Xi X 904 65 = 0 → Xi W 904 65 = 0 ∧ tkR S (Xi W 904 8) = 46 ∧ 0 ≤ Xi W 904 8 ∧ Xi X 904 8 = Xi W 904 8 + 1) (f2 : FR md_mo_take__t W X) (b : Xi X 904 65 = 0) : ∃ e : Int, DFE (tkR S) X 0 0 (Xi S 904 8) e ∧ tkR S e = 46 ∧ Xi X 904 8 = e + 1 := by
  obtain ⟨h1, h2, h3, h4, h5, h6⟩ := h
  have a : ∀ j, j ≠ 70 → Xi V 904 j = Xi U 904 j := fun j r => by rw [e1, Xi_ne (by omega)]
  obtain ⟨b1, b2, b3, b4⟩ := t2 b
  have d := (t1 b1).2
  rw [a 93 (by decide), a 69 (by decide), a 8 (by decide), h3, h2, h6] at d
  exact ⟨Xi W 904 8, dfe_k d (runk_F f2 rfl rfl RUNK.rf) (kte_F f2 rfl KTE.rf) ⟨f2.x 904 93 rfl, f2.x 904 94 rfl⟩, b2, b4⟩
theorem sen_3 {S U W X : sS} {s : Int} (h : SBG S U) (t1 : Xi W 904 65 = 0 → RUE (tkR S) W (Xi U 904 93).toNat (Xi U 904 98).toNat (Xi U 904 94) s (Xi U 904 8) (Xi W 904 8)) (t2 : Xi X 904 65 = 0 → Xi W 904 65 = 0 ∧ tkR S (Xi W 904 8) = 46 ∧ 0 ≤ Xi W 904 8 ∧ Xi X 904 8 = Xi W 904 8 + 1) (f2 : FR md_mo_take__t W X) (b : Xi X 904 65 = 0) : ∃ e : Int, RUE (tkR S) X 0 0 0 s (Xi S 904 8) e ∧ tkR S e = 46 ∧ Xi X 904 8 = e + 1 := by
  obtain ⟨h1, h2, h3, h4, h5, h6⟩ := h
  obtain ⟨b1, b2, b3, b4⟩ := t2 b
  have d := t1 b1
  rw [h3, h5, h4, h6] at d
  exact ⟨Xi W 904 8, rue_k d (runk_F f2 rfl rfl RUNK.rf) (kte_F f2 rfl KTE.rf) (kpe_F f2 rfl KPE.rf) ⟨f2.x 904 93 rfl, f2.x 904 94 rfl, f2.x 904 98 rfl⟩ ⟨f2.x 904 102 rfl, f2.x 904 103 rfl⟩, b2, b4⟩
def sKR (k : Int) : Int := if k = 138 then 3 else if k = 140 then 4 else if k = 139 then 5 else 6

def md_mo_sentence__t2 : List rec := [(904, 905, 8, 9), (904, 905, 65, 66), (904, 905, 66, 67), (904, 905, 69, 70), (904, 905, 70, 71), (904, 905, 71, 72), (904, 905, 72, 73), (904, 905, 73, 74), (904, 905, 74, 75), (904, 905, 75, 76), (904, 905, 76, 77), (904, 905, 77, 78), (904, 905, 78, 79), (904, 905, 79, 80), (904, 905, 80, 81), (904, 905, 81, 82), (904, 905, 93, 94), (904, 905, 94, 95), (904, 905, 98, 99), (904, 905, 99, 100), (904, 905, 100, 101), (904, 905, 101, 102), (904, 905, 102, 103), (904, 905, 103, 104), (950, 951, 0, 100000), (951, 952, 0, 100000), (952, 953, 0, 100000), (953, 954, 0, 100000), (954, 955, 0, 100000), (955, 956, 0, 100000), (956, 957, 0, 100000), (957, 958, 0, 100000), (958, 959, 0, 100000), (959, 960, 0, 100000), (960, 961, 0, 100000), (961, 962, 0, 100000), (962, 963, 0, 100000), (963, 964, 0, 100000), (964, 965, 0, 100000), (965, 966, 0, 100000)]
abbrev Q_mo_sentence__t2 (S : sS) : pst := fun r S1 => RI S1 ∧ FR md_mo_sentence__t2 S S1 ∧ (r = none ∧ (Xi S1 904 65 = 0 → ∃ e : Int, DFE (tkR S) S1 0 0 (Xi S 904 8) e ∧ tkR S e = 46 ∧ Xi S1 904 8 = e + 1))
set_option maxRecDepth 100000 in
theorem t_mo_sentence__t2 {S : sS} (hH : RI S) (hat : 0 ≤ Xi S 904 8 ∧ Xi S 904 8 ≤ 5001) (hk : tkR S (Xi S 904 8) = 135) (d : Nat) : Mp lay0 (d + 10) m_mo_sentence [.ref 904] S (Q_mo_sentence__t2 S) := by
  refine Mp_R rfl rfl (fun fu => ?_)
  have hF : FR md_mo_sentence__t2 S S := FR.rf
  have w1 : -2147483648 ≤ Xi S 904 65 ∧ Xi S 904 65 ≤ 2147483647 := Xi_rgI
  have w2 : -2147483648 ≤ Xi S 904 69 ∧ Xi S 904 69 ≤ 2147483647 := Xi_rgI
  have w3 : -2147483648 ≤ Xi S 904 8 ∧ Xi S 904 8 ≤ 2147483647 := Xi_rgI
  have w4 : -2147483648 ≤ Xi S 904 93 ∧ Xi S 904 93 ≤ 2147483647 := Xi_rgI
  have w5 : -2147483648 ≤ Xi S 904 94 ∧ Xi S 904 94 ≤ 2147483647 := Xi_rgI
  have w6 : -2147483648 ≤ Xi S 904 98 ∧ Xi S 904 98 ≤ 2147483647 := Xi_rgI
  refine y_aload_n rfl rfl ?_
  refine y_iconst rfl ?_
  refine y_pfz rfl rfl rfl rfl (by omega) ?_
  obtain ⟨U1, eU1⟩ : ∃ T : sS, T = uI S 904 65 (Int32.ofInt 0) := ⟨_, rfl⟩
  rw [← eU1]
  have hHU1 : RI U1 := by rw [eU1]; exact RI_w hH
  have hFU1 : FR md_mo_sentence__t2 S U1 := by rw [eU1]; exact FR.wI hF (mdf_i (r := (904, 905, 65, 66)) (List.mem_of_getElem? (i := 1) rfl) (inR_i (by omega) (by omega) (by omega) (by omega)))
  have w7 : Xi U1 904 65 = 0 := by rw [eU1]; exact Xi_same (by unfold rg; omega)
  have e2 := eU1
  refine y_aload_n rfl rfl ?_
  refine y_iconst rfl ?_
  refine y_pfi rfl rfl rfl rfl ?_
  obtain ⟨U2, eU2⟩ : ∃ T : sS, T = uI U1 904 69 (Int32.ofInt 0) := ⟨_, rfl⟩
  rw [← eU2]
  have hHU2 : RI U2 := by rw [eU2]; exact RI_w hHU1
  have hFU2 : FR md_mo_sentence__t2 S U2 := by rw [eU2]; exact FR.wI hFU1 (mdf_i (r := (904, 905, 69, 70)) (List.mem_of_getElem? (i := 3) rfl) (inR_i (by omega) (by omega) (by omega) (by omega)))
  have w8 : Xi U2 904 69 = 0 := by rw [eU2]; exact Xi_same (by unfold rg; omega)
  have e7 := eU2
  refine y_aload_n rfl rfl ?_
  refine y_iconst rfl ?_
  refine y_pfi rfl rfl rfl rfl ?_
  obtain ⟨U3, eU3⟩ : ∃ T : sS, T = uI U2 904 93 (Int32.ofInt 0) := ⟨_, rfl⟩
  rw [← eU3]
  have hHU3 : RI U3 := by rw [eU3]; exact RI_w hHU2
  have hFU3 : FR md_mo_sentence__t2 S U3 := by rw [eU3]; exact FR.wI hFU2 (mdf_i (r := (904, 905, 93, 94)) (List.mem_of_getElem? (i := 16) rfl) (inR_i (by omega) (by omega) (by omega) (by omega)))
  have w9 : Xi U3 904 93 = 0 := by rw [eU3]; exact Xi_same (by unfold rg; omega)
  have e12 := eU3
  refine y_aload_n rfl rfl ?_
  refine y_iconst rfl ?_
  refine y_pfi rfl rfl rfl rfl ?_
  obtain ⟨U4, eU4⟩ : ∃ T : sS, T = uI U3 904 94 (Int32.ofInt 0) := ⟨_, rfl⟩
  rw [← eU4]
  have hHU4 : RI U4 := by rw [eU4]; exact RI_w hHU3
  have hFU4 : FR md_mo_sentence__t2 S U4 := by rw [eU4]; exact FR.wI hFU3 (mdf_i (r := (904, 905, 94, 95)) (List.mem_of_getElem? (i := 17) rfl) (inR_i (by omega) (by omega) (by omega) (by omega)))
  have w10 : Xi U4 904 94 = 0 := by rw [eU4]; exact Xi_same (by unfold rg; omega)
  have e17 := eU4
  refine y_aload_n rfl rfl ?_
  refine y_iconst rfl ?_
  refine y_pfi rfl rfl rfl rfl ?_
  obtain ⟨U5, eU5⟩ : ∃ T : sS, T = uI U4 904 98 (Int32.ofInt 0) := ⟨_, rfl⟩
  rw [← eU5]
  have hHU5 : RI U5 := by rw [eU5]; exact RI_w hHU4
  have hFU5 : FR md_mo_sentence__t2 S U5 := by rw [eU5]; exact FR.wI hFU4 (mdf_i (r := (904, 905, 98, 99)) (List.mem_of_getElem? (i := 18) rfl) (inR_i (by omega) (by omega) (by omega) (by omega)))
  have w11 : Xi U5 904 98 = 0 := by rw [eU5]; exact Xi_same (by unfold rg; omega)
  have e22 := eU5
  refine y_aload_n rfl rfl ?_
  refine y_iconst rfl ?_
  refine y_pfz rfl rfl rfl rfl (by omega) ?_
  obtain ⟨U6, eU6⟩ : ∃ T : sS, T = uI U5 904 75 (Int32.ofInt 0) := ⟨_, rfl⟩
  rw [← eU6]
  have hHU6 : RI U6 := by rw [eU6]; exact RI_w hHU5
  have hFU6 : FR md_mo_sentence__t2 S U6 := by rw [eU6]; exact FR.wI hFU5 (mdf_i (r := (904, 905, 75, 76)) (List.mem_of_getElem? (i := 9) rfl) (inR_i (by omega) (by omega) (by omega) (by omega)))
  have w12 : Xi U6 904 75 = 0 := by rw [eU6]; exact Xi_same (by unfold rg; omega)
  have e27 := eU6
  refine y_aload_n rfl rfl ?_
  refine y_iconst rfl ?_
  refine y_pfz rfl rfl rfl rfl (by omega) ?_
  obtain ⟨U7, eU7⟩ : ∃ T : sS, T = uI U6 904 76 (Int32.ofInt 0) := ⟨_, rfl⟩
  rw [← eU7]
  have hHU7 : RI U7 := by rw [eU7]; exact RI_w hHU6
  have hFU7 : FR md_mo_sentence__t2 S U7 := by rw [eU7]; exact FR.wI hFU6 (mdf_i (r := (904, 905, 76, 77)) (List.mem_of_getElem? (i := 10) rfl) (inR_i (by omega) (by omega) (by omega) (by omega)))
  have w13 : Xi U7 904 76 = 0 := by rw [eU7]; exact Xi_same (by unfold rg; omega)
  have e32 := eU7
  have B32 : SBG S U7 := sbg_of e2 e7 e12 e17 e22 e27 e32
  have b32 := B32
  refine y_aload_n rfl rfl ?_
  refine y_gfr rfl rfl rfl rfl rfl (hHU7.r 904 4 907 rfl) ?_
  refine y_aload_n rfl rfl ?_
  refine y_gfi rfl rfl rfl rfl rfl ?_
  have w14 : (Xi U7 904 8) = (Xi S 904 8) := (show Xi U7 904 8 = Xi U6 904 8 from by rw [eU7]; exact Xi_ne (by omega)).trans ( (show Xi U6 904 8 = Xi U5 904 8 from by rw [eU6]; exact Xi_ne (by omega)).trans ( (show Xi U5 904 8 = Xi U4 904 8 from by rw [eU5]; exact Xi_ne (by omega)).trans ( (show Xi U4 904 8 = Xi U3 904 8 from by rw [eU4]; exact Xi_ne (by omega)).trans ( (show Xi U3 904 8 = Xi U2 904 8 from by rw [eU3]; exact Xi_ne (by omega)).trans ( (show Xi U2 904 8 = Xi U1 904 8 from by rw [eU2]; exact Xi_ne (by omega)).trans ((show Xi U1 904 8 = Xi S 904 8 from by rw [eU1]; exact Xi_ne (by omega))))))))
  rw [w14]
  refine y_ialoadP (n := 5002) rfl rfl (by unfold rg; omega) (fun w15 w16 => ?_)
  have w17 : -2147483648 ≤ (Xi U7 907 (((Xi S 904 8)).toNat)) ∧ (Xi U7 907 (((Xi S 904 8)).toNat)) ≤ 2147483647 := Xi_rgI
  have v43 : (Xi U7 907 (((Xi S 904 8)).toNat)) = tkR S (Xi S 904 8) := by show Xi _ 907 _ = Xi S 907 _; first | exact (hFU7.cx 907 rfl _).1 | (rw [(hFU7.cx 907 rfl _).1, B32.2.2.2.2.2])
  obtain ⟨y65, y69, y93, y94, y98, y8⟩ := b32
  refine y_istore_n rfl rfl rfl ?_
  refine y_iload_n rfl rfl ?_
  refine y_iconst rfl ?_
  refine y_icmp_ne rfl rfl (by unfold rg; omega) (by unfold rg; omega) (fun w18 => ?_) (fun w19 => ?_)
  · refine y_iload_n rfl rfl ?_
    refine y_sipush rfl rfl ?_
    refine y_icmp_ne rfl rfl (by unfold rg; omega) (by unfold rg; omega) (fun w20 => ?_) (fun w21 => ?_)
    · refine y_iload_n rfl rfl ?_
      refine y_sipush rfl rfl ?_
      refine y_icmp_ne rfl rfl (by unfold rg; omega) (by unfold rg; omega) (fun w22 => ?_) (fun w23 => ?_)
      · exfalso; omega
      · refine y_aload_n rfl rfl ?_
        refine y_iconst rfl ?_
        refine y_pfi rfl rfl rfl rfl ?_
        obtain ⟨U8, eU8⟩ : ∃ T : sS, T = uI U7 904 70 (Int32.ofInt 2) := ⟨_, rfl⟩
        rw [← eU8]
        have hHU8 : RI U8 := by rw [eU8]; exact RI_w hHU7
        have hFU8 : FR md_mo_sentence__t2 S U8 := by rw [eU8]; exact FR.wI hFU7 (mdf_i (r := (904, 905, 70, 71)) (List.mem_of_getElem? (i := 4) rfl) (inR_i (by omega) (by omega) (by omega) (by omega)))
        have w24 : Xi U8 904 70 = 2 := by rw [eU8]; exact Xi_same (by unfold rg; omega)
        have e130 := eU8
        refine y_aload_n rfl rfl ?_
        have w25 : Xi U8 904 65 = Xi U1 904 65 := (show Xi U8 904 65 = Xi U7 904 65 from by rw [eU8]; exact Xi_ne (by omega)).trans ( (show Xi U7 904 65 = Xi U6 904 65 from by rw [eU7]; exact Xi_ne (by omega)).trans ( (show Xi U6 904 65 = Xi U5 904 65 from by rw [eU6]; exact Xi_ne (by omega)).trans ( (show Xi U5 904 65 = Xi U4 904 65 from by rw [eU5]; exact Xi_ne (by omega)).trans ( (show Xi U4 904 65 = Xi U3 904 65 from by rw [eU4]; exact Xi_ne (by omega)).trans ( (show Xi U3 904 65 = Xi U2 904 65 from by rw [eU3]; exact Xi_ne (by omega)).trans ((show Xi U2 904 65 = Xi U1 904 65 from by rw [eU2]; exact Xi_ne (by omega))))))))
        have w26 : Xi U8 904 69 = Xi U2 904 69 := (show Xi U8 904 69 = Xi U7 904 69 from by rw [eU8]; exact Xi_ne (by omega)).trans ( (show Xi U7 904 69 = Xi U6 904 69 from by rw [eU7]; exact Xi_ne (by omega)).trans ( (show Xi U6 904 69 = Xi U5 904 69 from by rw [eU6]; exact Xi_ne (by omega)).trans ( (show Xi U5 904 69 = Xi U4 904 69 from by rw [eU5]; exact Xi_ne (by omega)).trans ( (show Xi U4 904 69 = Xi U3 904 69 from by rw [eU4]; exact Xi_ne (by omega)).trans ((show Xi U3 904 69 = Xi U2 904 69 from by rw [eU3]; exact Xi_ne (by omega)))))))
        have w27 : Xi U8 904 8 = Xi S 904 8 := (show Xi U8 904 8 = Xi U7 904 8 from by rw [eU8]; exact Xi_ne (by omega)).trans ( (show Xi U7 904 8 = Xi U6 904 8 from by rw [eU7]; exact Xi_ne (by omega)).trans ( (show Xi U6 904 8 = Xi U5 904 8 from by rw [eU6]; exact Xi_ne (by omega)).trans ( (show Xi U5 904 8 = Xi U4 904 8 from by rw [eU5]; exact Xi_ne (by omega)).trans ( (show Xi U4 904 8 = Xi U3 904 8 from by rw [eU4]; exact Xi_ne (by omega)).trans ( (show Xi U3 904 8 = Xi U2 904 8 from by rw [eU3]; exact Xi_ne (by omega)).trans ( (show Xi U2 904 8 = Xi U1 904 8 from by rw [eU2]; exact Xi_ne (by omega)).trans ((show Xi U1 904 8 = Xi S 904 8 from by rw [eU1]; exact Xi_ne (by omega)))))))))
        have w28 : Xi U8 904 93 = Xi U3 904 93 := (show Xi U8 904 93 = Xi U7 904 93 from by rw [eU8]; exact Xi_ne (by omega)).trans ( (show Xi U7 904 93 = Xi U6 904 93 from by rw [eU7]; exact Xi_ne (by omega)).trans ( (show Xi U6 904 93 = Xi U5 904 93 from by rw [eU6]; exact Xi_ne (by omega)).trans ( (show Xi U5 904 93 = Xi U4 904 93 from by rw [eU5]; exact Xi_ne (by omega)).trans ((show Xi U4 904 93 = Xi U3 904 93 from by rw [eU4]; exact Xi_ne (by omega))))))
        refine y_callV rfl rfl rfl (t_mo_partTwo__t hHU8 (by first | assumption | omega) (by first | assumption | omega) (by first | assumption | omega) _) ?_
        rintro _ T9 ⟨hHT9, w32, rfl, t134⟩
        have hFT9 : FR md_mo_sentence__t2 S T9 := FR.tr hFU8 w32 rfl
        show Pl _ _ _ _ _ _ [] _ _
        have F134 := (by assumption : FR md_mo_partTwo__t U8 T9)
        have T134_ := t134
        rw [tkR_F7 hFU8 rfl] at T134_
        clear t134
        refine y_goto rfl rfl ?_
        refine y_aload_n rfl rfl ?_
        refine y_bipush rfl rfl ?_
        refine y_callV rfl rfl rfl (t_mo_take__t hHT9 46 ⟨by omega, by omega⟩ _) ?_
        rintro _ T10 ⟨hHT10, w35, rfl, t353⟩
        have hFT10 : FR md_mo_sentence__t2 S T10 := FR.tr hFT9 w35 rfl
        show Pl _ _ _ _ _ _ [] _ _
        have F353 := (by assumption : FR md_mo_take__t T9 T10)
        have T353_ := t353
        rw [tkR_F7 hFT9 rfl] at T353_
        clear t353
        refine y_return rfl rfl ?_
        exact ⟨hHT10, hFT10, rfl, (fun b => sen_2 B32 e130 T134_ T353_ F353 b)⟩
    · exfalso; omega
  · exfalso; omega
def md_mo_sentence__t3 : List rec := [(904, 905, 8, 9), (904, 905, 65, 66), (904, 905, 66, 67), (904, 905, 69, 70), (904, 905, 70, 71), (904, 905, 71, 72), (904, 905, 72, 73), (904, 905, 73, 74), (904, 905, 74, 75), (904, 905, 75, 76), (904, 905, 76, 77), (904, 905, 77, 78), (904, 905, 78, 79), (904, 905, 79, 80), (904, 905, 80, 81), (904, 905, 81, 82), (904, 905, 93, 94), (904, 905, 94, 95), (904, 905, 98, 99), (904, 905, 99, 100), (904, 905, 100, 101), (904, 905, 101, 102), (904, 905, 102, 103), (904, 905, 103, 104), (950, 951, 0, 100000), (951, 952, 0, 100000), (952, 953, 0, 100000), (953, 954, 0, 100000), (954, 955, 0, 100000), (955, 956, 0, 100000), (956, 957, 0, 100000), (957, 958, 0, 100000), (958, 959, 0, 100000), (959, 960, 0, 100000), (960, 961, 0, 100000), (961, 962, 0, 100000), (962, 963, 0, 100000), (963, 964, 0, 100000), (964, 965, 0, 100000), (965, 966, 0, 100000)]
abbrev Q_mo_sentence__t3 (S : sS) : pst := fun r S1 => RI S1 ∧ FR md_mo_sentence__t3 S S1 ∧ (r = none ∧ (Xi S1 904 65 = 0 → ∃ e : Int, RUE (tkR S) S1 0 0 0 (sKR (tkR S (Xi S 904 8))) (Xi S 904 8) e ∧ tkR S e = 46 ∧ Xi S1 904 8 = e + 1))
set_option maxRecDepth 100000 in
theorem t_mo_sentence__t3 {S : sS} (hH : RI S) (hat : 0 ≤ Xi S 904 8 ∧ Xi S 904 8 ≤ 5001) (hk : 138 ≤ tkR S (Xi S 904 8) ∧ tkR S (Xi S 904 8) ≤ 141) (d : Nat) : Mp lay0 (d + 10) m_mo_sentence [.ref 904] S (Q_mo_sentence__t3 S) := by
  refine Mp_R rfl rfl (fun fu => ?_)
  have hF : FR md_mo_sentence__t3 S S := FR.rf
  have w1 : -2147483648 ≤ Xi S 904 65 ∧ Xi S 904 65 ≤ 2147483647 := Xi_rgI
  have w2 : -2147483648 ≤ Xi S 904 69 ∧ Xi S 904 69 ≤ 2147483647 := Xi_rgI
  have w3 : -2147483648 ≤ Xi S 904 8 ∧ Xi S 904 8 ≤ 2147483647 := Xi_rgI
  have w4 : -2147483648 ≤ Xi S 904 93 ∧ Xi S 904 93 ≤ 2147483647 := Xi_rgI
  have w5 : -2147483648 ≤ Xi S 904 94 ∧ Xi S 904 94 ≤ 2147483647 := Xi_rgI
  have w6 : -2147483648 ≤ Xi S 904 98 ∧ Xi S 904 98 ≤ 2147483647 := Xi_rgI
  refine y_aload_n rfl rfl ?_
  refine y_iconst rfl ?_
  refine y_pfz rfl rfl rfl rfl (by omega) ?_
  obtain ⟨U1, eU1⟩ : ∃ T : sS, T = uI S 904 65 (Int32.ofInt 0) := ⟨_, rfl⟩
  rw [← eU1]
  have hHU1 : RI U1 := by rw [eU1]; exact RI_w hH
  have hFU1 : FR md_mo_sentence__t3 S U1 := by rw [eU1]; exact FR.wI hF (mdf_i (r := (904, 905, 65, 66)) (List.mem_of_getElem? (i := 1) rfl) (inR_i (by omega) (by omega) (by omega) (by omega)))
  have w7 : Xi U1 904 65 = 0 := by rw [eU1]; exact Xi_same (by unfold rg; omega)
  have e2 := eU1
  refine y_aload_n rfl rfl ?_
  refine y_iconst rfl ?_
  refine y_pfi rfl rfl rfl rfl ?_
  obtain ⟨U2, eU2⟩ : ∃ T : sS, T = uI U1 904 69 (Int32.ofInt 0) := ⟨_, rfl⟩
  rw [← eU2]
  have hHU2 : RI U2 := by rw [eU2]; exact RI_w hHU1
  have hFU2 : FR md_mo_sentence__t3 S U2 := by rw [eU2]; exact FR.wI hFU1 (mdf_i (r := (904, 905, 69, 70)) (List.mem_of_getElem? (i := 3) rfl) (inR_i (by omega) (by omega) (by omega) (by omega)))
  have w8 : Xi U2 904 69 = 0 := by rw [eU2]; exact Xi_same (by unfold rg; omega)
  have e7 := eU2
  refine y_aload_n rfl rfl ?_
  refine y_iconst rfl ?_
  refine y_pfi rfl rfl rfl rfl ?_
  obtain ⟨U3, eU3⟩ : ∃ T : sS, T = uI U2 904 93 (Int32.ofInt 0) := ⟨_, rfl⟩
  rw [← eU3]
  have hHU3 : RI U3 := by rw [eU3]; exact RI_w hHU2
  have hFU3 : FR md_mo_sentence__t3 S U3 := by rw [eU3]; exact FR.wI hFU2 (mdf_i (r := (904, 905, 93, 94)) (List.mem_of_getElem? (i := 16) rfl) (inR_i (by omega) (by omega) (by omega) (by omega)))
  have w9 : Xi U3 904 93 = 0 := by rw [eU3]; exact Xi_same (by unfold rg; omega)
  have e12 := eU3
  refine y_aload_n rfl rfl ?_
  refine y_iconst rfl ?_
  refine y_pfi rfl rfl rfl rfl ?_
  obtain ⟨U4, eU4⟩ : ∃ T : sS, T = uI U3 904 94 (Int32.ofInt 0) := ⟨_, rfl⟩
  rw [← eU4]
  have hHU4 : RI U4 := by rw [eU4]; exact RI_w hHU3
  have hFU4 : FR md_mo_sentence__t3 S U4 := by rw [eU4]; exact FR.wI hFU3 (mdf_i (r := (904, 905, 94, 95)) (List.mem_of_getElem? (i := 17) rfl) (inR_i (by omega) (by omega) (by omega) (by omega)))
  have w10 : Xi U4 904 94 = 0 := by rw [eU4]; exact Xi_same (by unfold rg; omega)
  have e17 := eU4
  refine y_aload_n rfl rfl ?_
  refine y_iconst rfl ?_
  refine y_pfi rfl rfl rfl rfl ?_
  obtain ⟨U5, eU5⟩ : ∃ T : sS, T = uI U4 904 98 (Int32.ofInt 0) := ⟨_, rfl⟩
  rw [← eU5]
  have hHU5 : RI U5 := by rw [eU5]; exact RI_w hHU4
  have hFU5 : FR md_mo_sentence__t3 S U5 := by rw [eU5]; exact FR.wI hFU4 (mdf_i (r := (904, 905, 98, 99)) (List.mem_of_getElem? (i := 18) rfl) (inR_i (by omega) (by omega) (by omega) (by omega)))
  have w11 : Xi U5 904 98 = 0 := by rw [eU5]; exact Xi_same (by unfold rg; omega)
  have e22 := eU5
  refine y_aload_n rfl rfl ?_
  refine y_iconst rfl ?_
  refine y_pfz rfl rfl rfl rfl (by omega) ?_
  obtain ⟨U6, eU6⟩ : ∃ T : sS, T = uI U5 904 75 (Int32.ofInt 0) := ⟨_, rfl⟩
  rw [← eU6]
  have hHU6 : RI U6 := by rw [eU6]; exact RI_w hHU5
  have hFU6 : FR md_mo_sentence__t3 S U6 := by rw [eU6]; exact FR.wI hFU5 (mdf_i (r := (904, 905, 75, 76)) (List.mem_of_getElem? (i := 9) rfl) (inR_i (by omega) (by omega) (by omega) (by omega)))
  have w12 : Xi U6 904 75 = 0 := by rw [eU6]; exact Xi_same (by unfold rg; omega)
  have e27 := eU6
  refine y_aload_n rfl rfl ?_
  refine y_iconst rfl ?_
  refine y_pfz rfl rfl rfl rfl (by omega) ?_
  obtain ⟨U7, eU7⟩ : ∃ T : sS, T = uI U6 904 76 (Int32.ofInt 0) := ⟨_, rfl⟩
  rw [← eU7]
  have hHU7 : RI U7 := by rw [eU7]; exact RI_w hHU6
  have hFU7 : FR md_mo_sentence__t3 S U7 := by rw [eU7]; exact FR.wI hFU6 (mdf_i (r := (904, 905, 76, 77)) (List.mem_of_getElem? (i := 10) rfl) (inR_i (by omega) (by omega) (by omega) (by omega)))
  have w13 : Xi U7 904 76 = 0 := by rw [eU7]; exact Xi_same (by unfold rg; omega)
  have e32 := eU7
  have B32 : SBG S U7 := sbg_of e2 e7 e12 e17 e22 e27 e32
  have b32 := B32
  refine y_aload_n rfl rfl ?_
  refine y_gfr rfl rfl rfl rfl rfl (hHU7.r 904 4 907 rfl) ?_
  refine y_aload_n rfl rfl ?_
  refine y_gfi rfl rfl rfl rfl rfl ?_
  have w14 : (Xi U7 904 8) = (Xi S 904 8) := (show Xi U7 904 8 = Xi U6 904 8 from by rw [eU7]; exact Xi_ne (by omega)).trans ( (show Xi U6 904 8 = Xi U5 904 8 from by rw [eU6]; exact Xi_ne (by omega)).trans ( (show Xi U5 904 8 = Xi U4 904 8 from by rw [eU5]; exact Xi_ne (by omega)).trans ( (show Xi U4 904 8 = Xi U3 904 8 from by rw [eU4]; exact Xi_ne (by omega)).trans ( (show Xi U3 904 8 = Xi U2 904 8 from by rw [eU3]; exact Xi_ne (by omega)).trans ( (show Xi U2 904 8 = Xi U1 904 8 from by rw [eU2]; exact Xi_ne (by omega)).trans ((show Xi U1 904 8 = Xi S 904 8 from by rw [eU1]; exact Xi_ne (by omega))))))))
  rw [w14]
  refine y_ialoadP (n := 5002) rfl rfl (by unfold rg; omega) (fun w15 w16 => ?_)
  have w17 : -2147483648 ≤ (Xi U7 907 (((Xi S 904 8)).toNat)) ∧ (Xi U7 907 (((Xi S 904 8)).toNat)) ≤ 2147483647 := Xi_rgI
  have v43 : (Xi U7 907 (((Xi S 904 8)).toNat)) = tkR S (Xi S 904 8) := by show Xi _ 907 _ = Xi S 907 _; first | exact (hFU7.cx 907 rfl _).1 | (rw [(hFU7.cx 907 rfl _).1, B32.2.2.2.2.2])
  obtain ⟨y65, y69, y93, y94, y98, y8⟩ := b32
  refine y_istore_n rfl rfl rfl ?_
  refine y_iload_n rfl rfl ?_
  refine y_iconst rfl ?_
  refine y_icmp_ne rfl rfl (by unfold rg; omega) (by unfold rg; omega) (fun w18 => ?_) (fun w19 => ?_)
  · refine y_iload_n rfl rfl ?_
    refine y_sipush rfl rfl ?_
    refine y_icmp_ne rfl rfl (by unfold rg; omega) (by unfold rg; omega) (fun w20 => ?_) (fun w21 => ?_)
    · refine y_iload_n rfl rfl ?_
      refine y_sipush rfl rfl ?_
      refine y_icmp_ne rfl rfl (by unfold rg; omega) (by unfold rg; omega) (fun w22 => ?_) (fun w23 => ?_)
      · refine y_iload_n rfl rfl ?_
        refine y_sipush rfl rfl ?_
        refine y_icmp_eq rfl rfl (by unfold rg; omega) (by unfold rg; omega) (fun w24 => ?_) (fun w25 => ?_)
        · refine y_aload_n rfl rfl ?_
          refine y_iload_n rfl rfl ?_
          refine y_sipush rfl rfl ?_
          refine y_icmp_ne rfl rfl (by unfold rg; omega) (by unfold rg; omega) (fun w26 => ?_) (fun w27 => ?_)
          · exfalso; omega
          · refine y_iconst rfl ?_
            have K204 : (3 : Int) = sKR (tkR S (Xi S 904 8)) := by rw [← v43]; exact (if_pos (by omega)).symm
            refine y_goto rfl rfl ?_
            have w28 : Xi U7 904 65 = Xi U1 904 65 := (show Xi U7 904 65 = Xi U6 904 65 from by rw [eU7]; exact Xi_ne (by omega)).trans ( (show Xi U6 904 65 = Xi U5 904 65 from by rw [eU6]; exact Xi_ne (by omega)).trans ( (show Xi U5 904 65 = Xi U4 904 65 from by rw [eU5]; exact Xi_ne (by omega)).trans ( (show Xi U4 904 65 = Xi U3 904 65 from by rw [eU4]; exact Xi_ne (by omega)).trans ( (show Xi U3 904 65 = Xi U2 904 65 from by rw [eU3]; exact Xi_ne (by omega)).trans ((show Xi U2 904 65 = Xi U1 904 65 from by rw [eU2]; exact Xi_ne (by omega)))))))
            have w29 : Xi U7 904 69 = Xi U2 904 69 := (show Xi U7 904 69 = Xi U6 904 69 from by rw [eU7]; exact Xi_ne (by omega)).trans ( (show Xi U6 904 69 = Xi U5 904 69 from by rw [eU6]; exact Xi_ne (by omega)).trans ( (show Xi U5 904 69 = Xi U4 904 69 from by rw [eU5]; exact Xi_ne (by omega)).trans ( (show Xi U4 904 69 = Xi U3 904 69 from by rw [eU4]; exact Xi_ne (by omega)).trans ((show Xi U3 904 69 = Xi U2 904 69 from by rw [eU3]; exact Xi_ne (by omega))))))
            have w30 : Xi U7 904 8 = Xi S 904 8 := (show Xi U7 904 8 = Xi U6 904 8 from by rw [eU7]; exact Xi_ne (by omega)).trans ( (show Xi U6 904 8 = Xi U5 904 8 from by rw [eU6]; exact Xi_ne (by omega)).trans ( (show Xi U5 904 8 = Xi U4 904 8 from by rw [eU5]; exact Xi_ne (by omega)).trans ( (show Xi U4 904 8 = Xi U3 904 8 from by rw [eU4]; exact Xi_ne (by omega)).trans ( (show Xi U3 904 8 = Xi U2 904 8 from by rw [eU3]; exact Xi_ne (by omega)).trans ( (show Xi U2 904 8 = Xi U1 904 8 from by rw [eU2]; exact Xi_ne (by omega)).trans ((show Xi U1 904 8 = Xi S 904 8 from by rw [eU1]; exact Xi_ne (by omega))))))))
            have w31 : Xi U7 904 93 = Xi U3 904 93 := (show Xi U7 904 93 = Xi U6 904 93 from by rw [eU7]; exact Xi_ne (by omega)).trans ( (show Xi U6 904 93 = Xi U5 904 93 from by rw [eU6]; exact Xi_ne (by omega)).trans ( (show Xi U5 904 93 = Xi U4 904 93 from by rw [eU5]; exact Xi_ne (by omega)).trans ((show Xi U4 904 93 = Xi U3 904 93 from by rw [eU4]; exact Xi_ne (by omega)))))
            have w32 : Xi U7 904 94 = Xi U4 904 94 := (show Xi U7 904 94 = Xi U6 904 94 from by rw [eU7]; exact Xi_ne (by omega)).trans ( (show Xi U6 904 94 = Xi U5 904 94 from by rw [eU6]; exact Xi_ne (by omega)).trans ((show Xi U5 904 94 = Xi U4 904 94 from by rw [eU5]; exact Xi_ne (by omega))))
            have w33 : Xi U7 904 98 = Xi U5 904 98 := (show Xi U7 904 98 = Xi U6 904 98 from by rw [eU7]; exact Xi_ne (by omega)).trans ((show Xi U6 904 98 = Xi U5 904 98 from by rw [eU6]; exact Xi_ne (by omega)))
            refine y_callV rfl rfl rfl (t_mo_rule__t hHU7 3 ⟨by omega, by omega⟩ (by first | assumption | omega) (by first | assumption | omega) (by first | assumption | omega) (by first | assumption | omega) (by first | assumption | omega) _) ?_
            rintro _ T8 ⟨hHT8, w35, rfl, t204⟩
            have hFT8 : FR md_mo_sentence__t3 S T8 := FR.tr hFU7 w35 rfl
            show Pl _ _ _ _ _ _ [] _ _
            have F204 := (by assumption : FR md_mo_rule__t U7 T8)
            have T204_ := t204
            rw [tkR_F7 hFU7 rfl] at T204_
            clear t204
            refine y_goto rfl rfl ?_
            refine y_aload_n rfl rfl ?_
            refine y_bipush rfl rfl ?_
            refine y_callV rfl rfl rfl (t_mo_take__t hHT8 46 ⟨by omega, by omega⟩ _) ?_
            rintro _ T9 ⟨hHT9, w37, rfl, t353⟩
            have hFT9 : FR md_mo_sentence__t3 S T9 := FR.tr hFT8 w37 rfl
            show Pl _ _ _ _ _ _ [] _ _
            have F353 := (by assumption : FR md_mo_take__t T8 T9)
            have T353_ := t353
            rw [tkR_F7 hFT8 rfl] at T353_
            clear t353
            refine y_return rfl rfl ?_
            exact ⟨hHT9, hFT9, rfl, (fun b => by have u := sen_3 B32 T204_ T353_ F353 b; rw [← K204]; exact u)⟩
        · refine y_iload_n rfl rfl ?_
          refine y_sipush rfl rfl ?_
          refine y_icmp_eq rfl rfl (by unfold rg; omega) (by unfold rg; omega) (fun w42 => ?_) (fun w43 => ?_)
          · refine y_aload_n rfl rfl ?_
            refine y_iload_n rfl rfl ?_
            refine y_sipush rfl rfl ?_
            refine y_icmp_ne rfl rfl (by unfold rg; omega) (by unfold rg; omega) (fun w44 => ?_) (fun w45 => ?_)
            · refine y_iload_n rfl rfl ?_
              refine y_sipush rfl rfl ?_
              refine y_icmp_ne rfl rfl (by unfold rg; omega) (by unfold rg; omega) (fun w46 => ?_) (fun w47 => ?_)
              · exfalso; omega
              · refine y_iconst rfl ?_
                have K204 : (4 : Int) = sKR (tkR S (Xi S 904 8)) := by rw [← v43]; unfold sKR; rw [if_neg (by omega), if_pos (by omega)]
                refine y_goto rfl rfl ?_
                have w48 : Xi U7 904 65 = Xi U1 904 65 := (show Xi U7 904 65 = Xi U6 904 65 from by rw [eU7]; exact Xi_ne (by omega)).trans ( (show Xi U6 904 65 = Xi U5 904 65 from by rw [eU6]; exact Xi_ne (by omega)).trans ( (show Xi U5 904 65 = Xi U4 904 65 from by rw [eU5]; exact Xi_ne (by omega)).trans ( (show Xi U4 904 65 = Xi U3 904 65 from by rw [eU4]; exact Xi_ne (by omega)).trans ( (show Xi U3 904 65 = Xi U2 904 65 from by rw [eU3]; exact Xi_ne (by omega)).trans ((show Xi U2 904 65 = Xi U1 904 65 from by rw [eU2]; exact Xi_ne (by omega)))))))
                have w49 : Xi U7 904 69 = Xi U2 904 69 := (show Xi U7 904 69 = Xi U6 904 69 from by rw [eU7]; exact Xi_ne (by omega)).trans ( (show Xi U6 904 69 = Xi U5 904 69 from by rw [eU6]; exact Xi_ne (by omega)).trans ( (show Xi U5 904 69 = Xi U4 904 69 from by rw [eU5]; exact Xi_ne (by omega)).trans ( (show Xi U4 904 69 = Xi U3 904 69 from by rw [eU4]; exact Xi_ne (by omega)).trans ((show Xi U3 904 69 = Xi U2 904 69 from by rw [eU3]; exact Xi_ne (by omega))))))
                have w50 : Xi U7 904 8 = Xi S 904 8 := (show Xi U7 904 8 = Xi U6 904 8 from by rw [eU7]; exact Xi_ne (by omega)).trans ( (show Xi U6 904 8 = Xi U5 904 8 from by rw [eU6]; exact Xi_ne (by omega)).trans ( (show Xi U5 904 8 = Xi U4 904 8 from by rw [eU5]; exact Xi_ne (by omega)).trans ( (show Xi U4 904 8 = Xi U3 904 8 from by rw [eU4]; exact Xi_ne (by omega)).trans ( (show Xi U3 904 8 = Xi U2 904 8 from by rw [eU3]; exact Xi_ne (by omega)).trans ( (show Xi U2 904 8 = Xi U1 904 8 from by rw [eU2]; exact Xi_ne (by omega)).trans ((show Xi U1 904 8 = Xi S 904 8 from by rw [eU1]; exact Xi_ne (by omega))))))))
                have w51 : Xi U7 904 93 = Xi U3 904 93 := (show Xi U7 904 93 = Xi U6 904 93 from by rw [eU7]; exact Xi_ne (by omega)).trans ( (show Xi U6 904 93 = Xi U5 904 93 from by rw [eU6]; exact Xi_ne (by omega)).trans ( (show Xi U5 904 93 = Xi U4 904 93 from by rw [eU5]; exact Xi_ne (by omega)).trans ((show Xi U4 904 93 = Xi U3 904 93 from by rw [eU4]; exact Xi_ne (by omega)))))
                have w52 : Xi U7 904 94 = Xi U4 904 94 := (show Xi U7 904 94 = Xi U6 904 94 from by rw [eU7]; exact Xi_ne (by omega)).trans ( (show Xi U6 904 94 = Xi U5 904 94 from by rw [eU6]; exact Xi_ne (by omega)).trans ((show Xi U5 904 94 = Xi U4 904 94 from by rw [eU5]; exact Xi_ne (by omega))))
                have w53 : Xi U7 904 98 = Xi U5 904 98 := (show Xi U7 904 98 = Xi U6 904 98 from by rw [eU7]; exact Xi_ne (by omega)).trans ((show Xi U6 904 98 = Xi U5 904 98 from by rw [eU6]; exact Xi_ne (by omega)))
                refine y_callV rfl rfl rfl (t_mo_rule__t hHU7 4 ⟨by omega, by omega⟩ (by first | assumption | omega) (by first | assumption | omega) (by first | assumption | omega) (by first | assumption | omega) (by first | assumption | omega) _) ?_
                rintro _ T10 ⟨hHT10, w55, rfl, t204⟩
                have hFT10 : FR md_mo_sentence__t3 S T10 := FR.tr hFU7 w55 rfl
                show Pl _ _ _ _ _ _ [] _ _
                have F204 := (by assumption : FR md_mo_rule__t U7 T10)
                have T204_ := t204
                rw [tkR_F7 hFU7 rfl] at T204_
                clear t204
                refine y_goto rfl rfl ?_
                refine y_aload_n rfl rfl ?_
                refine y_bipush rfl rfl ?_
                refine y_callV rfl rfl rfl (t_mo_take__t hHT10 46 ⟨by omega, by omega⟩ _) ?_
                rintro _ T11 ⟨hHT11, w57, rfl, t353⟩
                have hFT11 : FR md_mo_sentence__t3 S T11 := FR.tr hFT10 w57 rfl
                show Pl _ _ _ _ _ _ [] _ _
                have F353 := (by assumption : FR md_mo_take__t T10 T11)
                have T353_ := t353
                rw [tkR_F7 hFT10 rfl] at T353_
                clear t353
                refine y_return rfl rfl ?_
                exact ⟨hHT11, hFT11, rfl, (fun b => by have u := sen_3 B32 T204_ T353_ F353 b; rw [← K204]; exact u)⟩
            · exfalso; omega
          · refine y_iload_n rfl rfl ?_
            refine y_sipush rfl rfl ?_
            refine y_icmp_eq rfl rfl (by unfold rg; omega) (by unfold rg; omega) (fun w62 => ?_) (fun w63 => ?_)
            · refine y_aload_n rfl rfl ?_
              refine y_iload_n rfl rfl ?_
              refine y_sipush rfl rfl ?_
              refine y_icmp_ne rfl rfl (by unfold rg; omega) (by unfold rg; omega) (fun w64 => ?_) (fun w65 => ?_)
              · refine y_iload_n rfl rfl ?_
                refine y_sipush rfl rfl ?_
                refine y_icmp_ne rfl rfl (by unfold rg; omega) (by unfold rg; omega) (fun w66 => ?_) (fun w67 => ?_)
                · refine y_iload_n rfl rfl ?_
                  refine y_sipush rfl rfl ?_
                  refine y_icmp_ne rfl rfl (by unfold rg; omega) (by unfold rg; omega) (fun w68 => ?_) (fun w69 => ?_)
                  · exfalso; omega
                  · refine y_iconst rfl ?_
                    have K204 : (5 : Int) = sKR (tkR S (Xi S 904 8)) := by rw [← v43]; unfold sKR; rw [if_neg (by omega), if_neg (by omega), if_pos (by omega)]
                    refine y_goto rfl rfl ?_
                    have w70 : Xi U7 904 65 = Xi U1 904 65 := (show Xi U7 904 65 = Xi U6 904 65 from by rw [eU7]; exact Xi_ne (by omega)).trans ( (show Xi U6 904 65 = Xi U5 904 65 from by rw [eU6]; exact Xi_ne (by omega)).trans ( (show Xi U5 904 65 = Xi U4 904 65 from by rw [eU5]; exact Xi_ne (by omega)).trans ( (show Xi U4 904 65 = Xi U3 904 65 from by rw [eU4]; exact Xi_ne (by omega)).trans ( (show Xi U3 904 65 = Xi U2 904 65 from by rw [eU3]; exact Xi_ne (by omega)).trans ((show Xi U2 904 65 = Xi U1 904 65 from by rw [eU2]; exact Xi_ne (by omega)))))))
                    have w71 : Xi U7 904 69 = Xi U2 904 69 := (show Xi U7 904 69 = Xi U6 904 69 from by rw [eU7]; exact Xi_ne (by omega)).trans ( (show Xi U6 904 69 = Xi U5 904 69 from by rw [eU6]; exact Xi_ne (by omega)).trans ( (show Xi U5 904 69 = Xi U4 904 69 from by rw [eU5]; exact Xi_ne (by omega)).trans ( (show Xi U4 904 69 = Xi U3 904 69 from by rw [eU4]; exact Xi_ne (by omega)).trans ((show Xi U3 904 69 = Xi U2 904 69 from by rw [eU3]; exact Xi_ne (by omega))))))
                    have w72 : Xi U7 904 8 = Xi S 904 8 := (show Xi U7 904 8 = Xi U6 904 8 from by rw [eU7]; exact Xi_ne (by omega)).trans ( (show Xi U6 904 8 = Xi U5 904 8 from by rw [eU6]; exact Xi_ne (by omega)).trans ( (show Xi U5 904 8 = Xi U4 904 8 from by rw [eU5]; exact Xi_ne (by omega)).trans ( (show Xi U4 904 8 = Xi U3 904 8 from by rw [eU4]; exact Xi_ne (by omega)).trans ( (show Xi U3 904 8 = Xi U2 904 8 from by rw [eU3]; exact Xi_ne (by omega)).trans ( (show Xi U2 904 8 = Xi U1 904 8 from by rw [eU2]; exact Xi_ne (by omega)).trans ((show Xi U1 904 8 = Xi S 904 8 from by rw [eU1]; exact Xi_ne (by omega))))))))
                    have w73 : Xi U7 904 93 = Xi U3 904 93 := (show Xi U7 904 93 = Xi U6 904 93 from by rw [eU7]; exact Xi_ne (by omega)).trans ( (show Xi U6 904 93 = Xi U5 904 93 from by rw [eU6]; exact Xi_ne (by omega)).trans ( (show Xi U5 904 93 = Xi U4 904 93 from by rw [eU5]; exact Xi_ne (by omega)).trans ((show Xi U4 904 93 = Xi U3 904 93 from by rw [eU4]; exact Xi_ne (by omega)))))
                    have w74 : Xi U7 904 94 = Xi U4 904 94 := (show Xi U7 904 94 = Xi U6 904 94 from by rw [eU7]; exact Xi_ne (by omega)).trans ( (show Xi U6 904 94 = Xi U5 904 94 from by rw [eU6]; exact Xi_ne (by omega)).trans ((show Xi U5 904 94 = Xi U4 904 94 from by rw [eU5]; exact Xi_ne (by omega))))
                    have w75 : Xi U7 904 98 = Xi U5 904 98 := (show Xi U7 904 98 = Xi U6 904 98 from by rw [eU7]; exact Xi_ne (by omega)).trans ((show Xi U6 904 98 = Xi U5 904 98 from by rw [eU6]; exact Xi_ne (by omega)))
                    refine y_callV rfl rfl rfl (t_mo_rule__t hHU7 5 ⟨by omega, by omega⟩ (by first | assumption | omega) (by first | assumption | omega) (by first | assumption | omega) (by first | assumption | omega) (by first | assumption | omega) _) ?_
                    rintro _ T12 ⟨hHT12, w77, rfl, t204⟩
                    have hFT12 : FR md_mo_sentence__t3 S T12 := FR.tr hFU7 w77 rfl
                    show Pl _ _ _ _ _ _ [] _ _
                    have F204 := (by assumption : FR md_mo_rule__t U7 T12)
                    have T204_ := t204
                    rw [tkR_F7 hFU7 rfl] at T204_
                    clear t204
                    refine y_goto rfl rfl ?_
                    refine y_aload_n rfl rfl ?_
                    refine y_bipush rfl rfl ?_
                    refine y_callV rfl rfl rfl (t_mo_take__t hHT12 46 ⟨by omega, by omega⟩ _) ?_
                    rintro _ T13 ⟨hHT13, w79, rfl, t353⟩
                    have hFT13 : FR md_mo_sentence__t3 S T13 := FR.tr hFT12 w79 rfl
                    show Pl _ _ _ _ _ _ [] _ _
                    have F353 := (by assumption : FR md_mo_take__t T12 T13)
                    have T353_ := t353
                    rw [tkR_F7 hFT12 rfl] at T353_
                    clear t353
                    refine y_return rfl rfl ?_
                    exact ⟨hHT13, hFT13, rfl, (fun b => by have u := sen_3 B32 T204_ T353_ F353 b; rw [← K204]; exact u)⟩
                · exfalso; omega
              · exfalso; omega
            · refine y_iload_n rfl rfl ?_
              refine y_sipush rfl rfl ?_
              refine y_icmp_ne rfl rfl (by unfold rg; omega) (by unfold rg; omega) (fun w84 => ?_) (fun w85 => ?_)
              · exfalso; omega
              · refine y_aload_n rfl rfl ?_
                refine y_iload_n rfl rfl ?_
                refine y_sipush rfl rfl ?_
                refine y_icmp_ne rfl rfl (by unfold rg; omega) (by unfold rg; omega) (fun w86 => ?_) (fun w87 => ?_)
                · refine y_iload_n rfl rfl ?_
                  refine y_sipush rfl rfl ?_
                  refine y_icmp_ne rfl rfl (by unfold rg; omega) (by unfold rg; omega) (fun w88 => ?_) (fun w89 => ?_)
                  · refine y_iload_n rfl rfl ?_
                    refine y_sipush rfl rfl ?_
                    refine y_icmp_ne rfl rfl (by unfold rg; omega) (by unfold rg; omega) (fun w90 => ?_) (fun w91 => ?_)
                    · refine y_bipush rfl rfl ?_
                      have K204 : (6 : Int) = sKR (tkR S (Xi S 904 8)) := by rw [← v43]; unfold sKR; rw [if_neg (by omega), if_neg (by omega), if_neg (by omega)]
                      have w92 : Xi U7 904 65 = Xi U1 904 65 := (show Xi U7 904 65 = Xi U6 904 65 from by rw [eU7]; exact Xi_ne (by omega)).trans ( (show Xi U6 904 65 = Xi U5 904 65 from by rw [eU6]; exact Xi_ne (by omega)).trans ( (show Xi U5 904 65 = Xi U4 904 65 from by rw [eU5]; exact Xi_ne (by omega)).trans ( (show Xi U4 904 65 = Xi U3 904 65 from by rw [eU4]; exact Xi_ne (by omega)).trans ( (show Xi U3 904 65 = Xi U2 904 65 from by rw [eU3]; exact Xi_ne (by omega)).trans ((show Xi U2 904 65 = Xi U1 904 65 from by rw [eU2]; exact Xi_ne (by omega)))))))
                      have w93 : Xi U7 904 69 = Xi U2 904 69 := (show Xi U7 904 69 = Xi U6 904 69 from by rw [eU7]; exact Xi_ne (by omega)).trans ( (show Xi U6 904 69 = Xi U5 904 69 from by rw [eU6]; exact Xi_ne (by omega)).trans ( (show Xi U5 904 69 = Xi U4 904 69 from by rw [eU5]; exact Xi_ne (by omega)).trans ( (show Xi U4 904 69 = Xi U3 904 69 from by rw [eU4]; exact Xi_ne (by omega)).trans ((show Xi U3 904 69 = Xi U2 904 69 from by rw [eU3]; exact Xi_ne (by omega))))))
                      have w94 : Xi U7 904 8 = Xi S 904 8 := (show Xi U7 904 8 = Xi U6 904 8 from by rw [eU7]; exact Xi_ne (by omega)).trans ( (show Xi U6 904 8 = Xi U5 904 8 from by rw [eU6]; exact Xi_ne (by omega)).trans ( (show Xi U5 904 8 = Xi U4 904 8 from by rw [eU5]; exact Xi_ne (by omega)).trans ( (show Xi U4 904 8 = Xi U3 904 8 from by rw [eU4]; exact Xi_ne (by omega)).trans ( (show Xi U3 904 8 = Xi U2 904 8 from by rw [eU3]; exact Xi_ne (by omega)).trans ( (show Xi U2 904 8 = Xi U1 904 8 from by rw [eU2]; exact Xi_ne (by omega)).trans ((show Xi U1 904 8 = Xi S 904 8 from by rw [eU1]; exact Xi_ne (by omega))))))))
                      have w95 : Xi U7 904 93 = Xi U3 904 93 := (show Xi U7 904 93 = Xi U6 904 93 from by rw [eU7]; exact Xi_ne (by omega)).trans ( (show Xi U6 904 93 = Xi U5 904 93 from by rw [eU6]; exact Xi_ne (by omega)).trans ( (show Xi U5 904 93 = Xi U4 904 93 from by rw [eU5]; exact Xi_ne (by omega)).trans ((show Xi U4 904 93 = Xi U3 904 93 from by rw [eU4]; exact Xi_ne (by omega)))))
                      have w96 : Xi U7 904 94 = Xi U4 904 94 := (show Xi U7 904 94 = Xi U6 904 94 from by rw [eU7]; exact Xi_ne (by omega)).trans ( (show Xi U6 904 94 = Xi U5 904 94 from by rw [eU6]; exact Xi_ne (by omega)).trans ((show Xi U5 904 94 = Xi U4 904 94 from by rw [eU5]; exact Xi_ne (by omega))))
                      have w97 : Xi U7 904 98 = Xi U5 904 98 := (show Xi U7 904 98 = Xi U6 904 98 from by rw [eU7]; exact Xi_ne (by omega)).trans ((show Xi U6 904 98 = Xi U5 904 98 from by rw [eU6]; exact Xi_ne (by omega)))
                      refine y_callV rfl rfl rfl (t_mo_rule__t hHU7 6 ⟨by omega, by omega⟩ (by first | assumption | omega) (by first | assumption | omega) (by first | assumption | omega) (by first | assumption | omega) (by first | assumption | omega) _) ?_
                      rintro _ T14 ⟨hHT14, w99, rfl, t204⟩
                      have hFT14 : FR md_mo_sentence__t3 S T14 := FR.tr hFU7 w99 rfl
                      show Pl _ _ _ _ _ _ [] _ _
                      have F204 := (by assumption : FR md_mo_rule__t U7 T14)
                      have T204_ := t204
                      rw [tkR_F7 hFU7 rfl] at T204_
                      clear t204
                      refine y_goto rfl rfl ?_
                      refine y_aload_n rfl rfl ?_
                      refine y_bipush rfl rfl ?_
                      refine y_callV rfl rfl rfl (t_mo_take__t hHT14 46 ⟨by omega, by omega⟩ _) ?_
                      rintro _ T15 ⟨hHT15, w101, rfl, t353⟩
                      have hFT15 : FR md_mo_sentence__t3 S T15 := FR.tr hFT14 w101 rfl
                      show Pl _ _ _ _ _ _ [] _ _
                      have F353 := (by assumption : FR md_mo_take__t T14 T15)
                      have T353_ := t353
                      rw [tkR_F7 hFT14 rfl] at T353_
                      clear t353
                      refine y_return rfl rfl ?_
                      exact ⟨hHT15, hFT15, rfl, (fun b => by have u := sen_3 B32 T204_ T353_ F353 b; rw [← K204]; exact u)⟩
                    · exfalso; omega
                  · exfalso; omega
                · exfalso; omega
      · exfalso; omega
    · exfalso; omega
  · exfalso; omega
end
section
/-! class and reference: the vocabularies -/
/-- the entry i of the class is the entry k of the reference -/
def WE (U S : sS) (i k : Nat) : Prop := sg7 (Xi S 914 k) = Xi U 3 i ∧ Xi S 915 k = Xi U 4 i ∧ (1 ≤ Xi S 912 k ∧ Xi S 912 k ≤ 3) ∧
  (∀ j : Nat, j < 3 → cd7 (Xj U 2 (3 * i + j)) ∧ ((j : Int) < Xi S 912 k → 0 < Xj U 2 (3 * i + j)) ∧ (Xi S 912 k ≤ (j : Int) → Xj U 2 (3 * i + j) = 0)) ∧
  (Xi S 916 k = 0 → ∀ j : Nat, (j : Int) < Xi S 912 k → Xj S 913 (3 * k + j) = cv (Xj U 2 (3 * i + j))) ∧
  (Xi S 916 k ≠ 0 → 150094635296999121 ≤ Xj U 2 (3 * i + ((Xi S 912 k).toNat - 1)) ∧ (Xi S 914 k = 10 ∨ ((Xi S 914 k = 1 ∨ Xi S 914 k = 3) ∧ Xj U 2 (3 * i + ((Xi S 912 k).toNat - 1)) % 27 = 19 ∧ ∀ j : Nat, (j : Int) < Xi S 912 k → Xj S 913 (3 * k + j) = cv (if (j : Int) + 1 = Xi S 912 k then Xj U 2 (3 * i + j) / 27 else Xj U 2 (3 * i + j)) ∧ ((j : Int) + 1 < Xi S 912 k → Xj U 2 (3 * i + j) < 150094635296999121)))) ∧ (Xi S 916 k = 0 → ∀ j : Nat, j < 3 → Xj U 2 (3 * i + j) < 150094635296999121)
def UNW (U : sS) : Prop := ∀ i j : Nat, (i : Int) < Xi U 1 3 → (j : Int) < Xi U 1 3 → (∀ t : Nat, t < 3 → Xj U 2 (3 * i + t) = Xj U 2 (3 * j + t)) → i = j
def VOC (U S : sS) : Prop := (Xi U 1 3 = Xi S 904 15 ∧ 0 ≤ Xi U 1 3) ∧ (∀ i : Nat, (i : Int) < Xi U 1 3 → ∃ k : Nat, (k : Int) < Xi U 1 3 ∧ WE U S i k) ∧ (∀ k : Nat, (k : Int) < Xi U 1 3 → ∃ i : Nat, (i : Int) < Xi U 1 3 ∧ WE U S i k) ∧ UNW U
abbrev mtC (U : sS) (a b c : Int) (i : Nat) : Prop := Xj U 2 (3 * i) = a ∧ Xj U 2 (3 * i + 1) = b ∧ Xj U 2 (3 * i + 2) = c
theorem msc_n {U : sS} {a b c : Int} : ∀ (m i : Nat), (∀ j : Nat, i ≤ j → j < i + m → ¬ mtC U a b c j) → msc U a b c m i = -1
  | 0, i, _ => rfl
  | m + 1, i, h => by
    unfold msc
    rw [if_neg (h i (by omega) (by omega))]
    exact msc_n m (i + 1) (fun j x y => h j (by omega) (by omega))
theorem msc_y {U : sS} {a b c : Int} {i : Nat} (hi : mtC U a b c i) : ∀ (m s : Nat), s ≤ i → i < s + m → (∀ j : Nat, s ≤ j → j < s + m → mtC U a b c j → j = i) → msc U a b c m s = Xi U 3 i * 256 + Xi U 4 i
  | 0, s, h1, h2, _ => absurd h2 (by omega)
  | m + 1, s, h1, h2, h => by
    unfold msc
    by_cases q : mtC U a b c s
    · rw [if_pos q, h s (by omega) (by omega) q]
    · rw [if_neg q]
      by_cases e : s = i
      · exact absurd (e ▸ hi) q
      · exact msc_y hi m (s + 1) (by omega) (by omega) (fun j x y => h j (by omega) (by omega))
theorem fdR_is {S : sS} {a b c n : Int} : ∀ m : Nat, fdR S a b c n m ≠ -1 → ∃ k : Nat, fdR S a b c n m = k ∧ k < m ∧ lxE S a b c n k
  | 0, h => absurd rfl h
  | m + 1, h => by
    unfold fdR at h ⊢
    by_cases q : fdR S a b c n m ≠ -1
    · rw [if_pos q]
      obtain ⟨k, x, y, z⟩ := fdR_is m q
      exact ⟨k, x, by omega, z⟩
    · rw [if_neg q] at h ⊢
      by_cases w : lxE S a b c n (m : Int)
      · rw [if_pos w]; exact ⟨m, rfl, by omega, w⟩
      · rw [if_neg w] at h; exact absurd rfl h
theorem fdR_nn {S : sS} {a b c n : Int} {k : Nat} (hk : lxE S a b c n k) : ∀ m : Nat, k < m → fdR S a b c n m ≠ -1
  | 0, h => absurd h (by omega)
  | m + 1, h => by
    unfold fdR
    by_cases q : fdR S a b c n m ≠ -1
    · rw [if_pos q]; exact q
    · rw [if_neg q]
      by_cases e : k = m
      · rw [if_pos (e ▸ hk)]; omega
      · exact absurd (fdR_nn hk m (by omega)) q
/-- words of a run: the class's w, the reference's cv w -/
def wdC (w : Int) : Prop := 0 < w ∧ w < 150094635296999121
theorem wd_cd {w : Int} (h : wdC w) : cd7 w := ⟨by have := h.1; omega, by have := h.2; rw [show (27 : Int) ^ 13 = 4052555153018976267 by decide]; omega⟩
/-- a run of n words: an entry of one is that of the other -/
theorem we_mt {U S : sS} {i k : Nat} {x y z n : Int} (h : WE U S i k) (hn : 1 ≤ n ∧ n ≤ 3) (hx : wdC x) (hy : 1 < n → wdC y) (hz : 2 < n → wdC z) : lxE S (cv x) (if 1 < n then cv y else 0) (if 2 < n then cv z else 0) n k ↔ mtC U x (if 1 < n then y else 0) (if 2 < n then z else 0) i := by
  obtain ⟨_, _, h3, h4, h5, h6'⟩ := h
  have h6 := fun q => (h6'.1 q).1
  have e0 : Xj S 913 (3 * (k : Int)).toNat = Xj S 913 (3 * k + 0) := by rw [show (3 * (k : Int)).toNat = 3 * k + 0 by omega]
  have e1 : Xj S 913 (3 * (k : Int) + 1).toNat = Xj S 913 (3 * k + 1) := by rw [show (3 * (k : Int) + 1).toNat = 3 * k + 1 by omega]
  have e2 : Xj S 913 (3 * (k : Int) + 2).toNat = Xj S 913 (3 * k + 2) := by rw [show (3 * (k : Int) + 2).toNat = 3 * k + 2 by omega]
  have ek : ((k : Int)).toNat = k := by omega
  have a0 := h4 0 (by omega)
  have a1 := h4 1 (by omega)
  have a2 := h4 2 (by omega)
  rw [Nat.add_zero] at a0
  constructor
  · rintro ⟨l1, l2, l3, l4, l5⟩
    rw [ek] at l1 l5
    rw [e0] at l2
    rw [e1] at l3
    rw [e2] at l4
    have w := h5 l5
    have w0 := w 0 (by omega)
    rw [Nat.add_zero, Nat.add_zero] at w0
    rw [Nat.add_zero] at l2
    refine ⟨cv_inj a0.1 (wd_cd hx) (w0.symm.trans l2), ?_, ?_⟩
    · by_cases q : 1 < n
      · rw [if_pos q]
        rw [if_pos q] at l3
        rcases l3 with l3 | l3
        · omega
        · exact cv_inj a1.1 (wd_cd (hy q)) ((w 1 (by omega)).symm.trans l3)
      · rw [if_neg q]; exact a1.2.2 (by omega)
    · by_cases q : 2 < n
      · rw [if_pos q]
        rw [if_pos q] at l4
        rcases l4 with l4 | l4
        · omega
        · exact cv_inj a2.1 (wd_cd (hz q)) ((w 2 (by omega)).symm.trans l4)
      · rw [if_neg q]; exact a2.2.2 (by omega)
  · rintro ⟨m1, m2, m3⟩
    have sz : Xi S 912 k = n := by
      by_cases q : 1 < n
      · rw [if_pos q] at m2
        have y0 := (hy q).1
        by_cases r : 2 < n
        · rw [if_pos r] at m3
          have z0 := (hz r).1
          by_cases s : Xi S 912 k ≤ 2
          · have := a2.2.2 (by omega); omega
          · omega
        · rw [if_neg r] at m3
          by_cases s : 2 < Xi S 912 k
          · have := a2.2.1 (by omega); omega
          · by_cases s2 : Xi S 912 k ≤ 1
            · have := a1.2.2 (by omega); omega
            · omega
      · rw [if_neg q] at m2
        by_cases s : 1 < Xi S 912 k
        · have := a1.2.1 (by omega); omega
        · omega
    have ln : Xi S 916 k = 0 := by
      apply Classical.byContradiction
      intro c
      have g := h6 c
      rw [sz] at g
      have c3 : n = 1 ∨ n = 2 ∨ n = 3 := by omega
      rcases c3 with r | r | r
      · subst r
        rw [show (1 : Int).toNat - 1 = 0 by decide, Nat.add_zero, m1] at g
        have := hx.2; omega
      · subst r
        rw [show (2 : Int).toNat - 1 = 1 by decide, m2, if_pos (by decide)] at g
        have := (hy (by decide)).2; omega
      · subst r
        rw [show (3 : Int).toNat - 1 = 2 by decide, m3, if_pos (by decide)] at g
        have := (hz (by decide)).2; omega
    have w := h5 ln
    have w0 := w 0 (by omega)
    rw [Nat.add_zero, Nat.add_zero] at w0
    refine ⟨by rw [ek]; exact sz, by rw [e0, Nat.add_zero, w0, m1], ?_, ?_, by rw [ek]; exact ln⟩
    · by_cases q : 1 < n
      · rw [if_pos q] at m2 ⊢
        exact Or.inr (by rw [e1, w 1 (by omega), m2])
      · exact Or.inl (by omega)
    · by_cases q : 2 < n
      · rw [if_pos q] at m3 ⊢
        exact Or.inr (by rw [e2, w 2 (by omega), m3])
      · exact Or.inl (by omega)
/-- three words mean the same to both -/
theorem voc_m {U S : sS} {x y z n : Int} (h : VOC U S) (hn : 1 ≤ n ∧ n ≤ 3) (hx : wdC x) (hy : 1 < n → wdC y) (hz : 2 < n → wdC z) : mnF U x (if 1 < n then y else 0) (if 2 < n then z else 0) = (if fdR S (cv x) (if 1 < n then cv y else 0) (if 2 < n then cv z else 0) n (Xi S 904 15).toNat = -1 then -1 else sg7 (Xi S 914 (fdR S (cv x) (if 1 < n then cv y else 0) (if 2 < n then cv z else 0) n (Xi S 904 15).toNat).toNat) * 256 + Xi S 915 (fdR S (cv x) (if 1 < n then cv y else 0) (if 2 < n then cv z else 0) n (Xi S 904 15).toNat).toNat) := by
  obtain ⟨h1, h2, h3, h4⟩ := h
  have mu : ∀ i j : Nat, (i : Int) < Xi U 1 3 → (j : Int) < Xi U 1 3 → mtC U x (if 1 < n then y else 0) (if 2 < n then z else 0) i → mtC U x (if 1 < n then y else 0) (if 2 < n then z else 0) j → i = j := fun i j a b p q => h4 i j a b (fun t ht => by
    have c : t = 0 ∨ t = 1 ∨ t = 2 := by omega
    rcases c with c | c | c <;> subst c
    · rw [Nat.add_zero, Nat.add_zero, p.1, q.1]
    · rw [p.2.1, q.2.1]
    · rw [p.2.2, q.2.2])
  by_cases c : ∃ i : Nat, (i : Int) < Xi U 1 3 ∧ mtC U x (if 1 < n then y else 0) (if 2 < n then z else 0) i
  · obtain ⟨i, c1, c2⟩ := c
    obtain ⟨k, k1, k2⟩ := h2 i c1
    have l := (we_mt k2 hn hx hy hz).2 c2
    have ne := fdR_nn l (Xi S 904 15).toNat (by omega)
    obtain ⟨v, v1, v2, v3⟩ := fdR_is _ ne
    obtain ⟨j, j1, j2⟩ := h3 v (by omega)
    have mj := (we_mt j2 hn hx hy hz).1 v3
    have ej := mu j i j1 c1 mj c2
    subst ej
    unfold mnF
    rw [if_neg ne, v1, msc_y c2 (Xi U 1 3).toNat 0 (by omega) (by omega) (fun t _ b w => mu t j (by omega) j1 w c2), show ((v : Int)).toNat = v by omega, j2.1, j2.2.1]
  · have no : fdR S (cv x) (if 1 < n then cv y else 0) (if 2 < n then cv z else 0) n (Xi S 904 15).toNat = -1 := by
      apply Classical.byContradiction
      intro ne
      obtain ⟨v, v1, v2, v3⟩ := fdR_is _ ne
      obtain ⟨j, j1, j2⟩ := h3 v (by omega)
      exact c ⟨j, j1, (we_mt j2 hn hx hy hz).1 v3⟩
    rw [if_pos no]
    exact msc_n _ _ (fun j _ b w => c ⟨j, by omega, w⟩)
/-- rows from a to b are words, and the reference's words from t on are theirs -/
def RWD (U S : sS) (a b t : Int) : Prop := ∀ j : Int, 0 ≤ j → j < b - a → wdC (Xj U 879 (a + j).toNat) ∧ Xj S 910 (t + j).toNat = cv (Xj U 879 (a + j).toNat)
theorem voc_mn {U S : sS} {a b t : Int} (h : VOC U S) (ha : 0 ≤ a ∧ b ≤ 5130) (w : RWD U S a b t) : mnV U a b = mR S t (b - a) := by
  unfold mnV mR nmR
  by_cases q : b - a < 1 ∨ 3 < b - a
  · rw [if_neg (by omega), if_pos q, if_pos rfl]
  · rw [if_pos (by omega), if_neg q]
    have w0 := w 0 (by omega) (by omega)
    rw [Int.add_zero, Int.add_zero] at w0
    unfold mnR
    have u := voc_m (x := Xj U 879 a.toNat) (y := Xj U 879 (a + 1).toNat) (z := Xj U 879 (a + 2).toNat) (n := b - a) h (by omega) w0.1 (fun r => (w 1 (by omega) (by omega)).1) (fun r => (w 2 (by omega) (by omega)).1)
    have d1 : (if 1 < (b - a).toNat then Xj U 879 (a.toNat + 1) else 0) = (if 1 < b - a then Xj U 879 (a + 1).toNat else 0) := by
      by_cases r : 1 < b - a
      · rw [if_pos r, if_pos (by omega), show a.toNat + 1 = (a + 1).toNat by omega]
      · rw [if_neg r, if_neg (by omega)]
    have d2 : (if 2 < (b - a).toNat then Xj U 879 (a.toNat + 2) else 0) = (if 2 < b - a then Xj U 879 (a + 2).toNat else 0) := by
      by_cases r : 2 < b - a
      · rw [if_pos r, if_pos (by omega), show a.toNat + 2 = (a + 2).toNat by omega]
      · rw [if_neg r, if_neg (by omega)]
    have c0 : Xj S 910 t.toNat = cv (Xj U 879 a.toNat) := w0.2
    have c1 : (if 1 < b - a then Xj S 910 (t + 1).toNat else 0) = (if 1 < b - a then cv (Xj U 879 (a + 1).toNat) else 0) := by
      by_cases r : 1 < b - a
      · rw [if_pos r, if_pos r]; exact (w 1 (by omega) (by omega)).2
      · rw [if_neg r, if_neg r]
    have c2 : (if 2 < b - a then Xj S 910 (t + 2).toNat else 0) = (if 2 < b - a then cv (Xj U 879 (a + 2).toNat) else 0) := by
      by_cases r : 2 < b - a
      · rw [if_pos r, if_pos r]; exact (w 2 (by omega) (by omega)).2
      · rw [if_neg r, if_neg r]
    rw [d1, d2, u, c0, c1, c2]
end
section
/-! class and reference: a sentence in both -/
/-- the row r and the token f + r -/
def TKW (U S : sS) (f r : Nat) : Prop := Xi S 908 (f + r) = Xi U 878 r ∧ Xi S 907 (f + r) = tr7 (Xi U 877 r) ∧ (Xi U 877 r = 100 → wdC (Xj U 879 r) ∧ Xj S 910 (f + r) = cv (Xj U 879 r)) ∧ (Xi U 877 r = 101 → Xj S 910 (f + r) = Xj U 879 r) ∧ (Xi U 877 r = 102 → Xi S 909 (f + r) = Xj U 879 r)
theorem ty_row {U : sS} {i : Int} (h : ty7 U i = 100) : 0 ≤ i ∧ i < Xi U 876 7 ∧ Xi U 877 i.toNat = 100 := by
  unfold ty7 at h
  by_cases q : 0 ≤ i ∧ i < Xi U 876 7
  · rw [if_pos q] at h; exact ⟨q.1, q.2, h⟩
  · rw [if_neg q] at h; exact absurd h (by decide)
theorem srl_of {U S : sS} {f : Nat} (v : VOC U S) (t : ∀ r : Nat, (r : Int) < Xi U 876 7 → TKW U S f r) (hr : Xi U 876 7 ≤ 5130) : SRL U S f := by
  have k : ∀ i : Int, ty7 U i = 100 → wdC (Xj U 879 i.toNat) ∧ Xj S 910 (f + i).toNat = cv (Xj U 879 i.toNat) := fun i h => by
    obtain ⟨a, b, c⟩ := ty_row h
    have u := (t i.toNat (by omega)).2.2.1 c
    rw [show ((f : Int) + i).toNat = f + i.toNat by omega]
    exact u
  refine ⟨fun a b h0 hb hf => voc_mn v ⟨h0, by omega⟩ (fun j x y => ?_), fun r h0 h1 => ?_, fun i j hi hj ti tj => ?_⟩
  · have u := k (a + j) (hf _ (by omega) (by omega))
    rw [show (f : Int) + a + j = f + (a + j) by omega]
    exact u
  · unfold pc7
    rw [if_pos ⟨h0, h1⟩, show ((f : Int) + r).toNat = f + r.toNat by omega]
    exact (t r.toNat (by omega)).1.symm
  · have a := k i ti
    have b := k j tj
    rw [a.2, b.2]
    exact ⟨fun e => by rw [e], fun e => cv_inj (wd_cd a.1) (wd_cd b.1) e⟩
/-- the same kinds of tokens -/
theorem tkw_t {U S : sS} {f : Nat} (t : ∀ r : Nat, (r : Int) < Xi U 876 7 → TKW U S f r) {i : Int} (h0 : 0 ≤ i) (h1 : i < Xi U 876 7) : tkR S (f + i) = tr7 (ty7 U i) := by
  unfold tkR ty7
  rw [if_pos ⟨h0, h1⟩, show ((f : Int) + i).toNat = f + i.toNat by omega]
  exact (t i.toNat (by omega)).2.1
end
section
/-! class and reference: the vocabularies grow alike -/
/-- the pair (i, k) is the same before and behind -/
theorem we_k {U U1 S S1 : sS} {i k : Nat} (h : WE U S i k) (a : Xi U1 3 i = Xi U 3 i ∧ Xi U1 4 i = Xi U 4 i ∧ ∀ t, t < 3 → Xj U1 2 (3 * i + t) = Xj U 2 (3 * i + t)) (b : Xi S1 914 k = Xi S 914 k ∧ Xi S1 915 k = Xi S 915 k ∧ Xi S1 912 k = Xi S 912 k ∧ Xi S1 916 k = Xi S 916 k ∧ ∀ t, t < 3 → Xj S1 913 (3 * k + t) = Xj S 913 (3 * k + t)) : WE U1 S1 i k := by
  obtain ⟨a1, a2, a3⟩ := a
  obtain ⟨b1, b2, b3, b4, b5⟩ := b
  obtain ⟨h1, h2, h3, h4, h5, h6⟩ := h
  refine ⟨by rw [b1, a1]; exact h1, by rw [b2, a2]; exact h2, by rw [b3]; exact h3, fun j hj => ?_, fun q j hj => ?_, fun q => ?_, fun q j hj => by rw [b4] at q; rw [a3 j hj]; exact h6.2 q j hj⟩
  · rw [a3 j hj, b3]; exact h4 j hj
  · rw [b4] at q
    rw [b3] at hj
    rw [b5 j (by omega), a3 j (by omega)]
    exact h5 q j hj
  · rw [b4] at q
    obtain ⟨x1, x2⟩ := h6.1 q
    refine ⟨by rw [b3, a3 _ (by omega)]; exact x1, ?_⟩
    rcases x2 with x2 | ⟨x0, x2, x3⟩
    · left; rw [b1]; exact x2
    · right
      rw [b3, b1]
      refine ⟨x0, by rw [a3 _ (by omega)]; exact x2, fun j hj => ?_⟩
      rw [b5 j (by omega), a3 j (by omega)]
      exact x3 j hj
theorem voc_add {U U1 S S1 : sS} {N : Nat} (h : VOC U S) (hN : (N : Int) = Xi U 1 3) (cU : Xi U1 1 3 = Xi U 1 3 + 1) (cS : Xi S1 904 15 = Xi S 904 15 + 1) (kU : ∀ j : Nat, j ≠ N → Xi U1 3 j = Xi U 3 j ∧ Xi U1 4 j = Xi U 4 j ∧ ∀ t, t < 3 → Xj U1 2 (3 * j + t) = Xj U 2 (3 * j + t)) (kS : ∀ j : Nat, j ≠ N → Xi S1 914 j = Xi S 914 j ∧ Xi S1 915 j = Xi S 915 j ∧ Xi S1 912 j = Xi S 912 j ∧ Xi S1 916 j = Xi S 916 j ∧ ∀ t, t < 3 → Xj S1 913 (3 * j + t) = Xj S 913 (3 * j + t)) (w : WE U1 S1 N N) (nw : ∀ j : Nat, j < N → ¬ ∀ t, t < 3 → Xj U 2 (3 * j + t) = Xj U1 2 (3 * N + t)) : VOC U1 S1 := by
  obtain ⟨h1, h2, h3, h4⟩ := h
  refine ⟨⟨by omega, by omega⟩, fun i hi => ?_, fun k hk => ?_, fun i j hi hj e => ?_⟩
  · by_cases q : i = N
    · subst q; exact ⟨i, hi, w⟩
    · obtain ⟨k, k1, k2⟩ := h2 i (by omega)
      exact ⟨k, by omega, we_k k2 (kU i q) (kS k (by omega))⟩
  · by_cases q : k = N
    · subst q; exact ⟨k, hk, w⟩
    · obtain ⟨i, i1, i2⟩ := h3 k (by omega)
      exact ⟨i, by omega, we_k i2 (kU i (by omega)) (kS k q)⟩
  · by_cases q : i = N
    · by_cases r : j = N
      · omega
      · exact absurd (fun t ht => by rw [← (kU j r).2.2 t ht, ← e t ht, q]) (nw j (by omega))
    · by_cases r : j = N
      · exact absurd (fun t ht => by rw [← (kU i q).2.2 t ht, e t ht, r]) (nw i (by omega))
      · exact h4 i j (by omega) (by omega) (fun t ht => by rw [← (kU i q).2.2 t ht, ← (kU j r).2.2 t ht]; exact e t ht)
/-- no two entries of the class have sort and number in common -/
def USW (U : sS) : Prop := ∀ i j : Nat, (i : Int) < Xi U 1 3 → (j : Int) < Xi U 1 3 → Xi U 3 i = Xi U 3 j → Xi U 4 i = Xi U 4 j → i = j
theorem usw_add {U U1 : sS} {N : Nat} (h : USW U) (hN : (N : Int) = Xi U 1 3) (cU : Xi U1 1 3 = Xi U 1 3 + 1) (kU : ∀ j : Nat, j ≠ N → Xi U1 3 j = Xi U 3 j ∧ Xi U1 4 j = Xi U 4 j) (fr : ∀ j : Nat, (j : Int) < Xi U 1 3 → Xi U 3 j = Xi U1 3 N → Xi U 4 j ≠ Xi U1 4 N) : USW U1 := fun i j hi hj a b => by
  by_cases q : i = N
  · by_cases r : j = N
    · omega
    · rw [q] at a b
      rw [(kU j r).1] at a
      rw [(kU j r).2] at b
      exact absurd b.symm (fr j (by omega) a.symm)
  · by_cases r : j = N
    · rw [r] at a b
      rw [(kU i q).1] at a
      rw [(kU i q).2] at b
      exact absurd b (fr i (by omega) a)
    · exact h i j (by omega) (by omega) (by rw [← (kU i q).1, ← (kU j r).1]; exact a) (by rw [← (kU i q).2, ← (kU j r).2]; exact b)
/-- one entry is named anew -/
theorem voc_ren {U U1 S S1 : sS} {p q : Nat} (h : VOC U S) (us : USW U) (hx : LXR S) (hp : (p : Int) < Xi U 1 3) (hq : (q : Int) < Xi U 1 3) (pq : WE U S p q) (cU : Xi U1 1 3 = Xi U 1 3) (cS : Xi S1 904 15 = Xi S 904 15) (kU : ∀ j : Nat, j ≠ p → Xi U1 3 j = Xi U 3 j ∧ Xi U1 4 j = Xi U 4 j ∧ ∀ t, t < 3 → Xj U1 2 (3 * j + t) = Xj U 2 (3 * j + t)) (kS : ∀ j : Nat, j ≠ q → Xi S1 914 j = Xi S 914 j ∧ Xi S1 915 j = Xi S 915 j ∧ Xi S1 912 j = Xi S 912 j ∧ Xi S1 916 j = Xi S 916 j ∧ ∀ t, t < 3 → Xj S1 913 (3 * j + t) = Xj S 913 (3 * j + t)) (uS : ∀ k l : Nat, (k : Int) < Xi S 904 15 → (l : Int) < Xi S 904 15 → Xi S 914 k = Xi S 914 l → Xi S 915 k = Xi S 915 l → k = l) (w : WE U1 S1 p q) (nw : ∀ j : Nat, (j : Int) < Xi U 1 3 → j ≠ p → ¬ ∀ t, t < 3 → Xj U 2 (3 * j + t) = Xj U1 2 (3 * p + t)) : VOC U1 S1 := by
  obtain ⟨h1, h2, h3, h4⟩ := h
  refine ⟨⟨by omega, by omega⟩, fun i hi => ?_, fun k hk => ?_, fun i j hi hj e => ?_⟩
  · by_cases r : i = p
    · exact ⟨q, by omega, by rw [r]; exact w⟩
    · obtain ⟨k, k1, k2⟩ := h2 i (by omega)
      have n : k ≠ q := fun c => r (us i p (by omega) hp (by rw [← k2.1, ← pq.1, c]) (by rw [← k2.2.1, ← pq.2.1, c]))
      exact ⟨k, by omega, we_k k2 (kU i r) (kS k n)⟩
  · by_cases r : k = q
    · exact ⟨p, by omega, by rw [r]; exact w⟩
    · obtain ⟨i, i1, i2⟩ := h3 k (by omega)
      have n : i ≠ p := fun c => r (uS k q (by omega) (by omega) (sg_inj (hx k (by omega)).1 (hx q (by omega)).1 (by rw [i2.1, pq.1, c])) (by rw [i2.2.1, pq.2.1, c]))
      exact ⟨i, by omega, we_k i2 (kU i n) (kS k r)⟩
  · by_cases a : i = p
    · by_cases b : j = p
      · omega
      · exact absurd (fun t ht => by rw [← (kU j b).2.2 t ht, ← e t ht, a]) (nw j (by omega) b)
    · by_cases b : j = p
      · exact absurd (fun t ht => by rw [← (kU i a).2.2 t ht, e t ht, b]) (nw i (by omega) a)
      · exact h4 i j (by omega) (by omega) (fun t ht => by rw [← (kU i a).2.2 t ht, ← (kU j b).2.2 t ht]; exact e t ht)
/-- what means nothing stands in no entry -/
theorem msc_ne {U : sS} {a b c : Int} (hC : CEN U) : ∀ (m s : Nat), (s : Int) + m ≤ Xi U 1 3 → msc U a b c m s = -1 → ∀ j : Nat, s ≤ j → j < s + m → ¬ mtC U a b c j
  | 0, s, _, _, j, x, y => absurd y (by omega)
  | m + 1, s, hm, h, j, x, y => by
    unfold msc at h
    by_cases q : mtC U a b c s
    · rw [if_pos q] at h
      have g := hC s (by omega)
      omega
    · rw [if_neg q] at h
      by_cases e : j = s
      · rw [e]; exact q
      · exact msc_ne hC m (s + 1) (by omega) h j (by omega) (by omega)
/-- the words of new rows stand in no entry -/
theorem new_ne {U : sS} {a b : Int} (hC : CEN U) (h0 : 0 ≤ Xi U 1 3) (ha : 0 ≤ a ∧ b ≤ 5130) (hn : 1 ≤ b - a ∧ b - a ≤ 3) (h : mnV U a b = -1) : ∀ j : Nat, (j : Int) < Xi U 1 3 → ¬ mtC U (wRw U 879 a b 0) (wRw U 879 a b 1) (wRw U 879 a b 2) j := by
  unfold mnV at h
  rw [if_pos (by omega)] at h
  unfold mnR mnF at h
  have e0 : wRw U 879 a b 0 = Xj U 879 a.toNat := by unfold wRw; rw [if_pos (by omega), Int.add_zero]
  have e1 : wRw U 879 a b 1 = (if 1 < (b - a).toNat then Xj U 879 (a.toNat + 1) else 0) := by
    unfold wRw
    by_cases r : a + 1 < b
    · rw [if_pos r, if_pos (by omega), show a.toNat + 1 = (a + 1).toNat by omega]
    · rw [if_neg r, if_neg (by omega)]
  have e2 : wRw U 879 a b 2 = (if 2 < (b - a).toNat then Xj U 879 (a.toNat + 2) else 0) := by
    unfold wRw
    by_cases r : a + 2 < b
    · rw [if_pos r, if_pos (by omega), show a.toNat + 2 = (a + 2).toNat by omega]
    · rw [if_neg r, if_neg (by omega)]
  rw [e0, e1, e2]
  exact fun j hj => msc_ne hC _ 0 (by omega) h j (by omega) (by omega)
end
section
/-! class and reference: bits -/
def gb (x p : Int) : Bool := (Int32.ofInt x).toBitVec.getLsbD p.toNat
theorem sm_31 {p : Int} (h : 0 ≤ p ∧ p < 32) : ((Int32.ofInt p &&& 31).toBitVec.smod 32).toNat = p.toNat := by
  have e : p = 0 ∨ p = 1 ∨ p = 2 ∨ p = 3 ∨ p = 4 ∨ p = 5 ∨ p = 6 ∨ p = 7 ∨ p = 8 ∨ p = 9 ∨ p = 10 ∨ p = 11 ∨ p = 12 ∨ p = 13 ∨ p = 14 ∨ p = 15 ∨ p = 16 ∨ p = 17 ∨ p = 18 ∨ p = 19 ∨ p = 20 ∨ p = 21 ∨ p = 22 ∨ p = 23 ∨ p = 24 ∨ p = 25 ∨ p = 26 ∨ p = 27 ∨ p = 28 ∨ p = 29 ∨ p = 30 ∨ p = 31 := by omega
  rcases e with rfl | rfl | rfl | rfl | rfl | rfl | rfl | rfl | rfl | rfl | rfl | rfl | rfl | rfl | rfl | rfl | rfl | rfl | rfl | rfl | rfl | rfl | rfl | rfl | rfl | rfl | rfl | rfl | rfl | rfl | rfl | rfl <;> decide
theorem and1 (b : BitVec 32) : (b &&& 1#32).toInt = if b.getLsbD 0 then 1 else 0 := by
  rw [BitVec.and_one_eq_setWidth_ofBool_getLsbD]
  cases b.getLsbD 0 <;> decide
theorem bt_gb {x p : Int} (h : 0 ≤ p ∧ p < 32) : iandF (ishrF x p) 1 = if gb x p then 1 else 0 := by
  unfold iandF ishrF
  rw [ofI_toI]
  show (((Int32.ofInt x).toBitVec.sshiftRight' ((Int32.ofInt p &&& 31).toBitVec.smod 32)) &&& 1#32).toInt = _
  rw [and1]
  unfold gb
  have e : ((Int32.ofInt x).toBitVec.sshiftRight' ((Int32.ofInt p &&& 31).toBitVec.smod 32)).getLsbD 0 = (Int32.ofInt x).toBitVec.getLsbD p.toNat := by
    unfold BitVec.sshiftRight'
    rw [sm_31 h, BitVec.getLsbD_sshiftRight]
    simp
    omega
  rw [e]
theorem gb_or {x y p : Int} : gb (iorF x y) p = (gb x p || gb y p) := by
  unfold gb iorF
  rw [ofI_toI]
  show ((Int32.ofInt x).toBitVec ||| (Int32.ofInt y).toBitVec).getLsbD _ = _
  rw [BitVec.getLsbD_or]
theorem gb_and {x y p : Int} : gb (iandF x y) p = (gb x p && gb y p) := by
  unfold gb iandF
  rw [ofI_toI]
  show ((Int32.ofInt x).toBitVec &&& (Int32.ofInt y).toBitVec).getLsbD _ = _
  rw [BitVec.getLsbD_and]
theorem gb_shl {p q : Int} (hp : 0 ≤ p ∧ p < 32) (hq : 0 ≤ q ∧ q < 32) : gb (ishlF 1 q) p = decide (p = q) := by
  unfold gb ishlF
  rw [ofI_toI]
  show ((1#32) <<< ((Int32.ofInt q &&& 31).toBitVec.smod 32)).getLsbD _ = _
  rw [BitVec.shiftLeft_eq', sm_31 hq, BitVec.getLsbD_shiftLeft]
  by_cases c : p = q
  · subst c; simp; omega
  · have : ¬ p.toNat = q.toNat := by omega
    simp [c]
    omega
theorem gb_0 {p : Int} : gb 0 p = false := by
  unfold gb
  show (0#32).getLsbD _ = false
  simp
end
section
/-! class and reference: kinds -/
def KND (U S : sS) : Prop := (Xi U 5 0 = Xi S 904 16 ∧ 0 ≤ Xi U 5 0 ∧ Xi U 5 0 ≤ 16) ∧ ∀ k : Nat, (k : Int) < Xi U 5 0 → Xi U 6 k = Xi S 917 k ∧ ((-1 ≤ Xi S 917 k ∧ Xi S 917 k < k) ∧ 0 ≤ Xi U 7 k ∧ Xi U 7 k < 4096) ∧ ∀ p : Int, 0 ≤ p → p < 12 → (gb (Xi U 7 k) p = true ↔ Xi S 929 (12 * (k : Int) + p).toNat ≠ 0)
theorem knd_bl {U S : sS} {o : Int} (h : KND U S) : ∀ (f g : Nat) (k : Int), k < Xi U 5 0 → k + 1 ≤ f → k + 1 ≤ g → isKn U o f k = blN S o g k
  | 0, 0, k, _, _, _ => rfl
  | 0, g + 1, k, _, hf, _ => by unfold isKn blN; rw [if_pos (by omega)]
  | f + 1, 0, k, _, _, hg => by unfold isKn blN; rw [if_pos (by omega)]
  | f + 1, g + 1, k, hk, hf, hg => by
    unfold isKn blN
    by_cases q : k < 0
    · rw [if_pos q, if_pos q]
    · rw [if_neg q, if_neg q]
      by_cases r : k = o
      · rw [if_pos r, if_pos r]
      · rw [if_neg r, if_neg r]
        obtain ⟨a, b, _⟩ := h.2 k.toNat (by omega)
        rw [a]
        exact knd_bl h f g (Xi S 917 k.toNat) (by omega) (by omega) (by omega)
theorem isK_bl {U S : sS} {k o : Int} (h : KND U S) (hk : k < Xi U 5 0) : isK U k o = blR S k o := knd_bl h 16 17 k hk (by have := h.1; omega) (by have := h.1; omega)
theorem knd_hs {U S : sS} {p : Int} (h : KND U S) (hp : 0 ≤ p ∧ p < 12) : ∀ (f g : Nat) (k a : Int), k < Xi U 5 0 → k + 1 ≤ f → k + 1 ≤ g → (gb (ppn U f k a) p = true ↔ gb a p = true ∨ hsN S p g k ≠ 0)
  | 0, 0, k, a, _, _, _ => by unfold ppn hsN; simp
  | 0, g + 1, k, a, _, hf, _ => by unfold ppn hsN; rw [if_pos (by omega)]; simp
  | f + 1, 0, k, a, _, _, hg => by unfold ppn hsN; rw [if_pos (by omega)]; simp
  | f + 1, g + 1, k, a, hk, hf, hg => by
    unfold ppn hsN
    by_cases q : k < 0
    · rw [if_pos q, if_pos q]; simp
    · rw [if_neg q, if_neg q]
      obtain ⟨x, y, z⟩ := h.2 k.toNat (by omega)
      have zz := z p hp.1 hp.2
      rw [show ((k.toNat : Nat) : Int) = k by omega] at zz
      rw [x]
      have u := knd_hs h hp f g (Xi S 917 k.toNat) (iorF a (Xi U 7 k.toNat)) (by omega) (by omega) (by omega)
      rw [u, gb_or]
      by_cases r : Xi S 929 (12 * k + p).toNat ≠ 0
      · rw [if_pos r]
        have := zz.2 r
        simp [this]
      · rw [if_neg r]
        have : gb (Xi U 7 k.toNat) p = false := by
          cases hh : gb (Xi U 7 k.toNat) p with
          | false => rfl
          | true => exact absurd (zz.1 hh) r
        simp [this]
theorem pps_hs {U S : sS} {k p : Int} (h : KND U S) (hk : k < Xi U 5 0) (hp : 0 ≤ p ∧ p < 12) : iandF (ishrF (pps U k) p) 1 ≠ 0 ↔ hsR S k p ≠ 0 := by
  rw [bt_gb (by omega)]
  have u := knd_hs h hp 16 17 k 0 hk (by have := h.1; omega) (by have := h.1; omega)
  rw [gb_0] at u
  unfold pps hsR
  constructor
  · intro w
    by_cases c : gb (ppn U 16 k 0) p = true
    · rcases u.1 c with d | d
      · exact absurd d (by decide)
      · exact d
    · rw [if_neg c] at w; exact absurd rfl w
  · intro w
    rw [if_pos (u.2 (Or.inr w))]
    decide
theorem iorF_12 {x y : Int} (hx : 0 ≤ x ∧ x < 4096) (hy : 0 ≤ y ∧ y < 4096) : 0 ≤ iorF x y ∧ iorF x y < 4096 := by
  obtain ⟨a, rfl⟩ : ∃ a : Nat, x = a := ⟨x.toNat, by omega⟩
  obtain ⟨b, rfl⟩ : ∃ b : Nat, y = b := ⟨y.toNat, by omega⟩
  have l : a ||| b < 2 ^ 12 := Nat.or_lt_two_pow (by omega) (by omega)
  have e : iorF (a : Int) (b : Int) = ((a ||| b : Nat) : Int) := by
    unfold iorF
    show (BitVec.ofInt 32 (a : Int) ||| BitVec.ofInt 32 (b : Int)).toInt = _
    rw [BitVec.ofInt_natCast, BitVec.ofInt_natCast, BitVec.toInt_eq_toNat_of_lt]
    · rw [BitVec.toNat_or, BitVec.toNat_ofNat, BitVec.toNat_ofNat, Nat.mod_eq_of_lt (by omega), Nat.mod_eq_of_lt (by omega)]
    · rw [BitVec.toNat_or, BitVec.toNat_ofNat, BitVec.toNat_ofNat, Nat.mod_eq_of_lt (by omega), Nat.mod_eq_of_lt (by omega)]
      omega
  rw [e]
  omega
theorem ish_l : ∀ n : Fin 12, 0 ≤ ishlF 1 (n.val : Int) ∧ ishlF 1 (n.val : Int) < 4096 := by decide
theorem ish_12 {p : Int} (hp : 0 ≤ p ∧ p < 12) : 0 ≤ ishlF 1 p ∧ ishlF 1 p < 4096 := by
  have t := ish_l ⟨p.toNat, by omega⟩
  have e : ((p.toNat : Nat) : Int) = p := by omega
  dsimp only at t
  rw [e] at t
  exact t
/-- bits of properties lie below 4096 -/
theorem ppn_12 {U S : sS} (h : KND U S) : ∀ (n : Nat) (k a : Int), k < Xi U 5 0 → (0 ≤ a ∧ a < 4096) → 0 ≤ ppn U n k a ∧ ppn U n k a < 4096
  | 0, _, _, _, ha => ha
  | n + 1, k, a, hk, ha => by
    unfold ppn
    by_cases q : k < 0
    · rw [if_pos q]; exact ha
    · rw [if_neg q]
      obtain ⟨x, y, _⟩ := h.2 k.toNat (by omega)
      exact ppn_12 h n _ _ (by omega) (iorF_12 ha y.2)
theorem pps_12 {U S : sS} (h : KND U S) {k : Int} (hk : k < Xi U 5 0) : 0 ≤ pps U k ∧ pps U k < 4096 := ppn_12 h 16 k 0 hk ⟨by decide, by decide⟩
/-- a property more of a kind -/
theorem knd_has {U U1 S S1 : sS} {k p : Int} (h : KND U S) (hk : 0 ≤ k ∧ k < Xi U 5 0) (hp : 0 ≤ p ∧ p < 12) (a : KHS U U1 k p) (b : KHR S S1 k p) (c0 : Xi U1 5 0 = Xi U 5 0) (c1 : Xi S1 904 16 = Xi S 904 16) (c6 : ∀ j, Xi U1 6 j = Xi U 6 j) (c9 : ∀ j, Xi S1 917 j = Xi S 917 j) : KND U1 S1 := by
  refine ⟨by have := h.1; omega, fun j hj => ?_⟩
  rw [c0] at hj
  obtain ⟨x, y, z⟩ := h.2 j hj
  refine ⟨by rw [c6, c9]; exact x, ⟨by rw [c9]; exact y.1, ?_⟩, fun q q0 q1 => ?_⟩
  · by_cases e : j = k.toNat
    · subst e; rw [a.1]; exact iorF_12 y.2 (ish_12 hp)
    · rw [a.2 j e]; exact y.2
  by_cases e : j = k.toNat
  · subst e
    have ek : ((k.toNat : Nat) : Int) = k := by omega
    rw [a.1, gb_or, gb_shl (by omega) (by omega), ek]
    have zz := z q q0 q1
    rw [ek] at zz
    by_cases r : q = p
    · subst r; rw [b.1]; simp
    · rw [b.2 _ (by omega), ← zz]
      simp [r]
  · rw [a.2 j e, b.2 _ (by omega)]
    exact z q q0 q1
end
