section
/-! the reference's reading: what is kept of a PHRASE -/
def KPE (S V : sS) : Prop := ∀ c k : Nat, 963 ≤ c → c ≤ 965 → (k : Int) < Xi S 904 98 → Xi V c k = Xi S c k
theorem KPE.rf {S : sS} : KPE S S := fun _ _ _ _ _ => rfl
theorem kpe_F {l : List rec} {S V W : sS} (f : FR l V W) (e : kdis l [(963, 966)] = true) (h : KPE S V) : KPE S W := fun c k a b d => by
  have m := f.smk e
  rw [show Xi W c k = Xi V c k by
    rcases (by omega : c = 963 ∨ c = 964 ∨ c = 965) with q | q | q <;> (subst q; exact m.x _ rfl k)]
  exact h c k a b d
theorem kpe_w {S V W : sS} {x j : Nat} {v : Int32} (e : W = uI V x j v) (hx : (x < 963 ∨ 965 < x) ∨ Xi S 904 98 ≤ (j : Int)) (h : KPE S V) : KPE S W := fun c k a b d => by
  rw [e, Xi_ne (by omega)]; exact h c k a b d
/-- the entries of the phrase: its test's are c, its own are m -/
def PHE (T : Int → Int) (V : sS) (c m : Nat) (p e : Int) : Prop :=
  (T p = 143 ∧ Xi V 963 m = 0 ∧ Xi V 957 c = p + 1 ∧ T (p + 1) = 5 ∧ e = p + 2) ∨
  (T p = 144 ∧ Xi V 963 m = 1 ∧ TSTR T V c (p + 1) e 1) ∨
  (T p = 145 ∧ Xi V 963 m = 2 ∧ ∃ r : Int, THE T V (p + 1) r (Xi V 954 c) (Xi V 955 c) ∧ T r = 111 ∧ THE T V (r + 1) e (Xi V 959 c) (Xi V 960 c)) ∨
  (((T p = 146 ∧ Xi V 963 m = 3) ∨ (T p = 147 ∧ Xi V 963 m = 4)) ∧ ∃ q r : Int, PRE T V (p + 1) q (Xi V 956 c) ∧ THE T V q r (Xi V 954 c) (Xi V 955 c) ∧ T r = 110 ∧ Xi V 957 c = r + 1 ∧ T (r + 1) = 4 ∧ e = r + 2) ∨
  (T p = 149 ∧ Xi V 963 m = 5 ∧ ∃ r : Int, RQ T (p + 1) r ∧ RR V (Xi V 956 c) (p + 1) r ∧ (((T r = 154 ∨ T r = 153 ∨ (100 ≤ T r ∧ T r ≤ 103)) ∧ Xi V 953 c = 1 ∧ THE T V r e (Xi V 954 c) (Xi V 955 c)) ∨ (¬ (T r = 154 ∨ T r = 153 ∨ (100 ≤ T r ∧ T r ≤ 103)) ∧ Xi V 953 c = 0 ∧ e = r))) ∨
  (T p = 148 ∧ Xi V 963 m = 6 ∧ e = p + 1)
theorem phe_k {T : Int → Int} {V W : sS} {c m : Nat} {p e : Int} (h : PHE T V c m p e) (k : RUNK V W) (x : ∀ z : Nat, 952 ≤ z → z ≤ 962 → Xi W z c = Xi V z c) (y : Xi W 963 m = Xi V 963 m) : PHE T W c m p e := by
  rcases h with ⟨a, b, d⟩ | ⟨a, b, d⟩ | ⟨a, b, r, d, f, g⟩ | ⟨a, q, r, d, f, g, i⟩ | ⟨a, b, r, d, f, g⟩ | ⟨a, b, d⟩
  · exact Or.inl ⟨a, y.trans b, by rw [x 957 (by omega) (by omega)]; exact d⟩
  · exact Or.inr (Or.inl ⟨a, y.trans b, tstr_k d k x⟩)
  · exact Or.inr (Or.inr (Or.inl ⟨a, y.trans b, r, by rw [x 954 (by omega) (by omega), x 955 (by omega) (by omega)]; exact the_k d k, f, by rw [x 959 (by omega) (by omega), x 960 (by omega) (by omega)]; exact the_k g k⟩))
  · exact Or.inr (Or.inr (Or.inr (Or.inl ⟨by rw [y]; exact a, q, r, by rw [x 956 (by omega) (by omega)]; exact pre_k d k, by rw [x 954 (by omega) (by omega), x 955 (by omega) (by omega)]; exact the_k f k, g, by rw [x 957 (by omega) (by omega)]; exact i⟩)))
  · refine Or.inr (Or.inr (Or.inr (Or.inr (Or.inl ⟨a, y.trans b, r, d, by rw [x 956 (by omega) (by omega)]; exact rr_k f k, ?_⟩))))
    rcases g with ⟨g1, g2, g3⟩ | ⟨g1, g2, g3⟩
    · exact Or.inl ⟨g1, by rw [x 953 (by omega) (by omega)]; exact g2, by rw [x 954 (by omega) (by omega), x 955 (by omega) (by omega)]; exact the_k g3 k⟩
    · exact Or.inr ⟨g1, by rw [x 953 (by omega) (by omega)]; exact g2, g3⟩
  · exact Or.inr (Or.inr (Or.inr (Or.inr (Or.inr ⟨a, y.trans b, d⟩))))
/-- behind the beginning of a phrase -/
def PBG (S U : sS) (k : Int) : Prop := (Xi S 904 65 = 0 ∧ Xi U 904 65 = 0) ∧ Xi U 904 8 = Xi S 904 8 + 1 ∧ (Xi U 904 93 = Xi S 904 93 ∧ Xi U 904 98 = Xi S 904 98) ∧ RUNK S U ∧ KTE S U ∧ KPE S U ∧ (Xi U 965 (Xi S 904 98).toNat = Xi S 904 8 ∧ Xi U 964 (Xi S 904 98).toNat = Xi S 904 93) ∧ tkR S (Xi S 904 8) = k ∧ (0 ≤ Xi S 904 8 ∧ Xi S 904 8 ≤ 5001)
/-- behind the middle of a phrase -/
def PMID (S V : sS) : Prop := (Xi V 904 65 = 0 → Xi S 904 65 = 0 ∧ Xi V 904 93 = Xi S 904 93 + 1 ∧ PHE (tkR S) V (Xi S 904 93).toNat (Xi S 904 98).toNat (Xi S 904 8) (Xi V 904 8)) ∧ RUNK S V ∧ KTE S V ∧ KPE S V ∧ (Xi S 904 93 ≤ Xi V 904 93 ∧ Xi V 904 98 = Xi S 904 98) ∧ Xi V 965 (Xi S 904 98).toNat = Xi S 904 8 ∧ Xi V 964 (Xi S 904 98).toNat = Xi S 904 93
section PHM
variable {S U F A B C D G H : sS}
theorem pm_say {x y : Int} (h : PBG S U 143) (h93 : 0 ≤ Xi S 904 93 ∧ 0 ≤ Xi S 904 98) (e1 : F = uI U 963 (Xi S 904 98).toNat (Int32.ofInt 0)) (e2 : A = uI F 957 (Xi S 904 93).toNat (Int32.ofInt x)) (hx : x = Xi U 904 8) (t : Xi B 904 65 = 0 → Xi A 904 65 = 0 ∧ tkR S (Xi A 904 8) = 5 ∧ 0 ≤ Xi A 904 8 ∧ Xi B 904 8 = Xi A 904 8 + 1) (f : FR md_mo_take__t A B) (e3 : C = uI B 904 93 (Int32.ofInt y)) (hy : y = Xi S 904 93 + 1 ∧ y ≤ 2000) : PMID S C := by
  obtain ⟨h1, h2, h3, h4, h5, h6, h7, h8, h9⟩ := h
  have a : ∀ z j, z ≠ 963 → z ≠ 957 → Xi A z j = Xi U z j := fun z j p q => by rw [e2, Xi_ne (by omega), e1, Xi_ne (by omega)]
  have c : ∀ z j, z ≠ 904 ∨ j ≠ 93 → Xi C z j = Xi B z j := fun z j p => by rw [e3, Xi_ne (by omega)]
  have c93 : Xi C 904 93 = y := xi_of e3 ⟨by omega, by omega⟩
  refine ⟨fun b => ?_, runk_w e3 (by omega) (runk_F f rfl rfl (runk_w e2 (by omega) (runk_w e1 (by omega) h4))), kte_w e3 (by omega) (kte_F f rfl (kte_w e2 (by omega) (kte_w e1 (by omega) h5))), kpe_w e3 (by omega) (kpe_F f rfl (kpe_w e2 (by omega) (kpe_w e1 (by omega) h6))), ⟨by omega, by rw [c _ _ (by omega), f.x 904 98 rfl, a _ _ (by omega) (by omega)]; exact h3.2⟩, by rw [c _ _ (by omega), f.x 965 _ rfl, a _ _ (by omega) (by omega)]; exact h7.1, by rw [c _ _ (by omega), f.x 964 _ rfl, a _ _ (by omega) (by omega)]; exact h7.2⟩
  rw [c _ _ (by omega)] at b
  obtain ⟨b1, b2, b3, b4⟩ := t b
  rw [a _ _ (by omega) (by omega), h2] at b2 b4
  exact ⟨h1.1, by omega, Or.inl ⟨h8, by rw [c _ _ (by omega), f.x 963 _ rfl, e2, Xi_ne (by omega)]; exact xi_of e1 ⟨by decide, by decide⟩, by rw [c _ _ (by omega), f.x 957 _ rfl, xi_of e2 (by rw [hx, h2]; exact ⟨by omega, by omega⟩)]; omega, b2, by rw [c _ _ (by omega)]; omega⟩⟩
theorem pm_now (h : PBG S U 144) (h93 : 0 ≤ Xi S 904 93 ∧ 0 ≤ Xi S 904 98) (e1 : F = uI U 963 (Xi S 904 98).toNat (Int32.ofInt 1)) (t : Xi A 904 65 = 0 → Xi F 904 65 = 0 ∧ TSTR (tkR S) A (Xi F 904 93).toNat (Xi F 904 8) (Xi A 904 8) 1) (f : FR md_mo_test__t F A) (k : RUNK F A) (q : KTE F A) (c : Xi A 904 93 = Xi F 904 93 + 1) : PMID S A := by
  obtain ⟨h1, h2, h3, h4, h5, h6, h7, h8, h9⟩ := h
  have a : ∀ z j, z ≠ 963 → Xi F z j = Xi U z j := fun z j p => by rw [e1, Xi_ne (by omega)]
  rw [a 904 93 (by omega), h3.1] at t c
  rw [a 904 8 (by omega), h2] at t
  refine ⟨fun b => ⟨h1.1, c, Or.inr (Or.inl ⟨h8, by rw [f.x 963 _ rfl]; exact xi_of e1 ⟨by decide, by decide⟩, (t b).2⟩)⟩, (runk_w e1 (by omega) h4).tr k, kte_t (kte_w e1 (by omega) h5) q (by rw [a _ _ (by omega)]; omega), kpe_F f rfl (kpe_w e1 (by omega) h6), ⟨by omega, by rw [f.x 904 98 rfl, a _ _ (by omega)]; exact h3.2⟩, by rw [f.x 965 _ rfl, a _ _ (by omega)]; exact h7.1, by rw [f.x 964 _ rfl, a _ _ (by omega)]; exact h7.2⟩
theorem pm_move {v u y : Int} (h : PBG S U 145) (h93 : 0 ≤ Xi S 904 93 ∧ 0 ≤ Xi S 904 98) (e1 : F = uI U 963 (Xi S 904 98).toNat (Int32.ofInt 2)) (t1 : Xi A 904 65 = 0 → Xi F 904 65 = 0 ∧ (0 ≤ Xi F 904 8 ∧ Xi F 904 8 ≤ 5001) ∧ THE (tkR S) A (Xi F 904 8) (Xi A 904 8) (Xi A 954 (Xi S 904 93).toNat) (Xi A 955 (Xi S 904 93).toNat)) (f1 : FR md_mo_thingOfTest__t F A) (k1 : RUNK F A) (q1 : KTE F A)
    (t2 : Xi B 904 65 = 0 → Xi A 904 65 = 0 ∧ tkR S (Xi A 904 8) = 111 ∧ 0 ≤ Xi A 904 8 ∧ Xi B 904 8 = Xi A 904 8 + 1) (f2 : FR md_mo_take__t A B) (t3 : Xi C 904 65 = 0 → Xi B 904 65 = 0 ∧ (0 ≤ Xi B 904 8 ∧ Xi B 904 8 ≤ 5001) ∧ TH3 (tkR S) C (Xi B 904 8) (Xi C 904 8) (Xi C 904 100) (Xi C 904 101) (Xi C 904 99)) (f3 : FR md_mo_thing__t B C) (k3 : RUNK B C)
    (e3 : D = uI C 959 (Xi S 904 93).toNat (Int32.ofInt v)) (e4 : G = uI D 960 (Xi S 904 93).toNat (Int32.ofInt u)) (hv : v = Xi C 904 100 * 10000 + Xi C 904 101) (hu : u = Xi C 904 99) (e5 : H = uI G 904 93 (Int32.ofInt y)) (hy : y = Xi S 904 93 + 1 ∧ y ≤ 2000) : PMID S H := by
  obtain ⟨h1, h2, h3, h4, h5, h6, h7, h8, h9⟩ := h
  have a : ∀ z j, z ≠ 963 → Xi F z j = Xi U z j := fun z j p => by rw [e1, Xi_ne (by omega)]
  have c : ∀ z j, z ≠ 959 → z ≠ 960 → (z ≠ 904 ∨ j ≠ 93) → Xi H z j = Xi C z j := fun z j p q r => by rw [e5, Xi_ne (by omega), e4, Xi_ne (by omega), e3, Xi_ne (by omega)]
  have c93 : Xi H 904 93 = y := xi_of e5 ⟨by omega, by omega⟩
  have k2 : RUNK A B := runk_F f2 rfl rfl RUNK.rf
  have kH : RUNK C H := runk_w e5 (by omega) (runk_w e4 (by omega) (runk_w e3 (by omega) RUNK.rf))
  have aF : Xi F 904 93 = Xi S 904 93 := by rw [a _ _ (by omega)]; exact h3.1
  refine ⟨fun b => ?_, ((runk_w e1 (by omega) h4).tr k1).tr (k2.tr (k3.tr kH)), kte_w e5 (by omega) (kte_w e4 (by omega) (kte_w e3 (by omega) (kte_F f3 rfl (kte_F f2 rfl (kte_t (kte_w e1 (by omega) h5) q1 (by omega)))))), kpe_w e5 (by omega) (kpe_w e4 (by omega) (kpe_w e3 (by omega) (kpe_F f3 rfl (kpe_F f2 rfl (kpe_F f1 rfl (kpe_w e1 (by omega) h6)))))), ⟨by omega, by rw [c _ _ (by omega) (by omega) (by omega), f3.x 904 98 rfl, f2.x 904 98 rfl, f1.x 904 98 rfl, a _ _ (by omega)]; exact h3.2⟩, by rw [c _ _ (by omega) (by omega) (by omega), f3.x 965 _ rfl, f2.x 965 _ rfl, f1.x 965 _ rfl, a _ _ (by omega)]; exact h7.1, by rw [c _ _ (by omega) (by omega) (by omega), f3.x 964 _ rfl, f2.x 964 _ rfl, f1.x 964 _ rfl, a _ _ (by omega)]; exact h7.2⟩
  rw [c _ _ (by omega) (by omega) (by omega)] at b
  obtain ⟨b1, b2, b3⟩ := t3 b
  obtain ⟨d1, d2, d3, d4⟩ := t2 b1
  obtain ⟨g1, g2, g3⟩ := t1 d1
  rw [a 904 8 (by omega), h2] at g3
  rw [d4] at b3
  have tb := th3_b b3
  have gu := Xi_rgI (S := C) (k := 904) (j := 99)
  refine ⟨h1.1, by omega, Or.inr (Or.inr (Or.inl ⟨h8, by rw [c _ _ (by omega) (by omega) (by omega), f3.x 963 _ rfl, f2.x 963 _ rfl, f1.x 963 _ rfl]; exact xi_of e1 ⟨by decide, by decide⟩, Xi A 904 8, ?_, d2, ?_⟩))⟩
  · rw [c 954 _ (by omega) (by omega) (by omega), c 955 _ (by omega) (by omega) (by omega), f3.x 954 _ rfl, f3.x 955 _ rfl, f2.x 954 _ rfl, f2.x 955 _ rfl]; exact the_k g3 (k2.tr (k3.tr kH))
  · refine ⟨_, _, _, by rw [c 904 8 (by omega) (by omega) (by omega)]; exact th3_k b3 kH, ?_, ?_⟩
    · rw [e5, Xi_ne (by omega), e4, Xi_ne (by omega), xi_of e3 (by rw [hv]; exact ⟨by omega, by omega⟩)]; exact hv
    · rw [e5, Xi_ne (by omega), xi_of e4 (by rw [hu]; exact ⟨by omega, by omega⟩)]; exact hu
theorem pm_add {kk w x y : Int} (h : PBG S U kk) (h93 : 0 ≤ Xi S 904 93 ∧ 0 ≤ Xi S 904 98) (hk : (kk = 146 ∧ w = 3) ∨ (kk = 147 ∧ w = 4)) (e1 : F = uI U 963 (Xi S 904 98).toNat (Int32.ofInt w)) (t1 : Xi A 904 65 = 0 → Xi F 904 65 = 0 ∧ (0 ≤ Xi F 904 8 ∧ Xi F 904 8 ≤ 5001) ∧ PRE (tkR S) A (Xi F 904 8) (Xi A 904 8) (Xi A 956 (Xi S 904 93).toNat)) (f1 : FR md_mo_property__t F A) (k1 : RUNK F A) (q1 : KTE F A)
    (t2 : Xi B 904 65 = 0 → Xi A 904 65 = 0 ∧ (0 ≤ Xi A 904 8 ∧ Xi A 904 8 ≤ 5001) ∧ THE (tkR S) B (Xi A 904 8) (Xi B 904 8) (Xi B 954 (Xi S 904 93).toNat) (Xi B 955 (Xi S 904 93).toNat)) (f2 : FR md_mo_thingOfTest__t A B) (k2 : RUNK A B) (q2 : KTE A B)
    (t3 : Xi C 904 65 = 0 → Xi B 904 65 = 0 ∧ tkR S (Xi B 904 8) = 110 ∧ 0 ≤ Xi B 904 8 ∧ Xi C 904 8 = Xi B 904 8 + 1) (f3 : FR md_mo_take__t B C) (e3 : D = uI C 957 (Xi S 904 93).toNat (Int32.ofInt x)) (hx : x = Xi C 904 8) (t4 : Xi G 904 65 = 0 → Xi D 904 65 = 0 ∧ tkR S (Xi D 904 8) = 4 ∧ 0 ≤ Xi D 904 8 ∧ Xi G 904 8 = Xi D 904 8 + 1) (f4 : FR md_mo_take__t D G) (e5 : H = uI G 904 93 (Int32.ofInt y)) (hy : y = Xi S 904 93 + 1 ∧ y ≤ 2000) : PMID S H := by
  obtain ⟨h1, h2, h3, h4, h5, h6, h7, h8, h9⟩ := h
  have a : ∀ z j, z ≠ 963 → Xi F z j = Xi U z j := fun z j p => by rw [e1, Xi_ne (by omega)]
  have c : ∀ z j, (z ≠ 904 ∨ j ≠ 93) → Xi H z j = Xi G z j := fun z j r => by rw [e5, Xi_ne (by omega)]
  have d : ∀ z j, z ≠ 957 → Xi D z j = Xi C z j := fun z j r => by rw [e3, Xi_ne (by omega)]
  have c93 : Xi H 904 93 = y := xi_of e5 ⟨by omega, by omega⟩
  have k3 : RUNK B C := runk_F f3 rfl rfl RUNK.rf
  have k4 : RUNK C H := runk_w e5 (by omega) (runk_F f4 rfl rfl (runk_w e3 (by omega) RUNK.rf))
  have aF : Xi F 904 93 = Xi S 904 93 := by rw [a _ _ (by omega)]; exact h3.1
  have aA : Xi A 904 93 = Xi S 904 93 := by rw [f1.x 904 93 rfl]; exact aF
  refine ⟨fun b => ?_, ((runk_w e1 (by omega) h4).tr k1).tr (k2.tr (k3.tr k4)), kte_w e5 (by omega) (kte_F f4 rfl (kte_w e3 (by omega) (kte_F f3 rfl (kte_t (kte_t (kte_w e1 (by omega) h5) q1 (by omega)) q2 (by omega))))), kpe_w e5 (by omega) (kpe_F f4 rfl (kpe_w e3 (by omega) (kpe_F f3 rfl (kpe_F f2 rfl (kpe_F f1 rfl (kpe_w e1 (by omega) h6)))))), ⟨by omega, by rw [c _ _ (by omega), f4.x 904 98 rfl, d _ _ (by omega), f3.x 904 98 rfl, f2.x 904 98 rfl, f1.x 904 98 rfl, a _ _ (by omega)]; exact h3.2⟩, by rw [c _ _ (by omega), f4.x 965 _ rfl, d _ _ (by omega), f3.x 965 _ rfl, f2.x 965 _ rfl, f1.x 965 _ rfl, a _ _ (by omega)]; exact h7.1, by rw [c _ _ (by omega), f4.x 964 _ rfl, d _ _ (by omega), f3.x 964 _ rfl, f2.x 964 _ rfl, f1.x 964 _ rfl, a _ _ (by omega)]; exact h7.2⟩
  rw [c _ _ (by omega)] at b
  obtain ⟨b1, b2, b3, b4⟩ := t4 b
  rw [d _ _ (by omega)] at b1 b2 b3 b4
  obtain ⟨g1, g2, g3, g4⟩ := t3 b1
  obtain ⟨i1, i2, i3⟩ := t2 g1
  obtain ⟨j1, j2, j3⟩ := t1 i1
  rw [a 904 8 (by omega), h2] at j3
  rw [g4] at b2
  have gB := Xi_rgI (S := C) (k := 904) (j := 8)
  refine ⟨h1.1, by omega, Or.inr (Or.inr (Or.inr (Or.inl ⟨?_, Xi A 904 8, Xi B 904 8, ?_, ?_, g2, ?_, b2, by rw [c _ _ (by omega)]; omega⟩)))⟩
  · have w1 : Xi H 963 (Xi S 904 98).toNat = w := by rw [c _ _ (by omega), f4.x 963 _ rfl, d _ _ (by omega), f3.x 963 _ rfl, f2.x 963 _ rfl, f1.x 963 _ rfl]; exact xi_of e1 (by rcases hk with q | q <;> exact ⟨by omega, by omega⟩)
    rw [w1, h8]; exact hk
  · rw [c 956 _ (by omega), f4.x 956 _ rfl, d 956 _ (by omega), f3.x 956 _ rfl, f2.x 956 _ rfl]; exact pre_k j3 (k2.tr (k3.tr k4))
  · rw [c 954 _ (by omega), c 955 _ (by omega), f4.x 954 _ rfl, f4.x 955 _ rfl, d 954 _ (by omega), d 955 _ (by omega), f3.x 954 _ rfl, f3.x 955 _ rfl]; exact the_k i3 (k3.tr k4)
  · rw [c 957 _ (by omega), f4.x 957 _ rfl, xi_of e3 (by rw [hx]; exact ⟨by omega, by omega⟩)]; omega
theorem pm_stop {y : Int} (h : PBG S U 148) (h93 : 0 ≤ Xi S 904 93 ∧ 0 ≤ Xi S 904 98) (e1 : F = uI U 963 (Xi S 904 98).toNat (Int32.ofInt 6)) (e2 : A = uI F 904 93 (Int32.ofInt y)) (hy : y = Xi S 904 93 + 1 ∧ y ≤ 2000) : PMID S A := by
  obtain ⟨h1, h2, h3, h4, h5, h6, h7, h8, h9⟩ := h
  have a : ∀ z j, z ≠ 963 → (z ≠ 904 ∨ j ≠ 93) → Xi A z j = Xi U z j := fun z j p q => by rw [e2, Xi_ne (by omega), e1, Xi_ne (by omega)]
  have c93 : Xi A 904 93 = y := xi_of e2 ⟨by omega, by omega⟩
  refine ⟨fun b => ⟨h1.1, by omega, Or.inr (Or.inr (Or.inr (Or.inr (Or.inr ⟨h8, by rw [e2, Xi_ne (by omega)]; exact xi_of e1 ⟨by decide, by decide⟩, by rw [a _ _ (by omega) (by omega)]; exact h2⟩))))⟩, runk_w e2 (by omega) (runk_w e1 (by omega) h4), kte_w e2 (by omega) (kte_w e1 (by omega) h5), kpe_w e2 (by omega) (kpe_w e1 (by omega) h6), ⟨by omega, by rw [a _ _ (by omega) (by omega)]; exact h3.2⟩, by rw [a _ _ (by omega) (by omega)]; exact h7.1, by rw [a _ _ (by omega) (by omega)]; exact h7.2⟩
/-- try, up to its RUN -/
def PTY1 (S C : sS) (n : Int) : Prop := (Xi C 904 65 = 0 → Xi S 904 65 = 0 ∧ tkR S (Xi S 904 8) = 149 ∧ RQ (tkR S) (Xi S 904 8 + 1) (Xi C 904 8) ∧ RR C (Xi C 956 (Xi S 904 93).toNat) (Xi S 904 8 + 1) (Xi C 904 8)) ∧ RUNK S C ∧ KTE S C ∧ KPE S C ∧ (Xi C 904 93 = Xi S 904 93 ∧ Xi C 904 98 = Xi S 904 98) ∧ Xi C 965 (Xi S 904 98).toNat = Xi S 904 8 ∧ Xi C 964 (Xi S 904 98).toNat = Xi S 904 93 ∧ Xi C 963 (Xi S 904 98).toNat = 5 ∧ Xi C 953 (Xi S 904 93).toNat = n
theorem pm_try1 {z n : Int} (h : PBG S U 149) (h93 : 0 ≤ Xi S 904 93 ∧ 0 ≤ Xi S 904 98) (e1 : F = uI U 963 (Xi S 904 98).toNat (Int32.ofInt 5)) (t1 : Xi A 904 65 = 0 → RNT (tkR S) F A z) (f1 : FR md_mo_run__t F A) (k1 : RUNK F A) (rz : rg z) (e2 : B = uI A 956 (Xi S 904 93).toNat (Int32.ofInt z)) (e3 : C = uI B 953 (Xi S 904 93).toNat (Int32.ofInt n)) (hn : n = 0 ∨ n = 1) : PTY1 S C n := by
  obtain ⟨h1, h2, h3, h4, h5, h6, h7, h8, h9⟩ := h
  have a : ∀ z j, z ≠ 963 → Xi F z j = Xi U z j := fun z j p => by rw [e1, Xi_ne (by omega)]
  have c : ∀ z j, z ≠ 953 → z ≠ 956 → Xi C z j = Xi A z j := fun z j p q => by rw [e3, Xi_ne (by omega), e2, Xi_ne (by omega)]
  have kC : RUNK A C := runk_w e3 (by omega) (runk_w e2 (by omega) RUNK.rf)
  refine ⟨fun b => ?_, ((runk_w e1 (by omega) h4).tr k1).tr kC, kte_w e3 (by omega) (kte_w e2 (by omega) (kte_F f1 rfl (kte_w e1 (by omega) h5))), kpe_w e3 (by omega) (kpe_w e2 (by omega) (kpe_F f1 rfl (kpe_w e1 (by omega) h6))), ⟨by rw [c _ _ (by omega) (by omega), f1.x 904 93 rfl, a _ _ (by omega)]; exact h3.1, by rw [c _ _ (by omega) (by omega), f1.x 904 98 rfl, a _ _ (by omega)]; exact h3.2⟩, by rw [c _ _ (by omega) (by omega), f1.x 965 _ rfl, a _ _ (by omega)]; exact h7.1, by rw [c _ _ (by omega) (by omega), f1.x 964 _ rfl, a _ _ (by omega)]; exact h7.2, by rw [c _ _ (by omega) (by omega), f1.x 963 _ rfl]; exact xi_of e1 ⟨by decide, by decide⟩, xi_of e3 (by rcases hn with q | q <;> exact ⟨by omega, by omega⟩)⟩
  rw [c _ _ (by omega) (by omega)] at b
  obtain ⟨r1, r2, r3, r4, r5, r6⟩ := t1 b
  rw [a 904 8 (by omega), h2] at r3 r6
  exact ⟨h1.1, h8, by rw [c _ _ (by omega) (by omega)]; exact r3, by rw [e3, Xi_ne (by omega), xi_of e2 rz, ← e3, c 904 8 (by omega) (by omega)]; exact rr_k r6 kC⟩
theorem pm_try2 {y : Int} (h : PTY1 S C 1) (h93 : 0 ≤ Xi S 904 93 ∧ 0 ≤ Xi S 904 98) (hq : Xi C 904 65 = 0 → tkR S (Xi C 904 8) = 154 ∨ tkR S (Xi C 904 8) = 153 ∨ (100 ≤ tkR S (Xi C 904 8) ∧ tkR S (Xi C 904 8) ≤ 103)) (t1 : Xi D 904 65 = 0 → Xi C 904 65 = 0 ∧ (0 ≤ Xi C 904 8 ∧ Xi C 904 8 ≤ 5001) ∧ THE (tkR S) D (Xi C 904 8) (Xi D 904 8) (Xi D 954 (Xi S 904 93).toNat) (Xi D 955 (Xi S 904 93).toNat)) (f1 : FR md_mo_thingOfTest__t C D) (k1 : RUNK C D) (q1 : KTE C D) (e2 : G = uI D 904 93 (Int32.ofInt y)) (hy : y = Xi S 904 93 + 1 ∧ y ≤ 2000) : PMID S G := by
  obtain ⟨h1, h2, h3, h4, h5, h6, h7, h8, h9⟩ := h
  have c : ∀ z j, (z ≠ 904 ∨ j ≠ 93) → Xi G z j = Xi D z j := fun z j r => by rw [e2, Xi_ne (by omega)]
  have c93 : Xi G 904 93 = y := xi_of e2 ⟨by omega, by omega⟩
  have kG : RUNK D G := runk_w e2 (by omega) RUNK.rf
  refine ⟨fun b => ?_, h2.tr (k1.tr kG), kte_w e2 (by omega) (kte_t h3 q1 (by omega)), kpe_w e2 (by omega) (kpe_F f1 rfl h4), ⟨by omega, by rw [c _ _ (by omega), f1.x 904 98 rfl]; exact h5.2⟩, by rw [c _ _ (by omega), f1.x 965 _ rfl]; exact h6, by rw [c _ _ (by omega), f1.x 964 _ rfl]; exact h7⟩
  rw [c _ _ (by omega)] at b
  obtain ⟨b1, b2, b3⟩ := t1 b
  obtain ⟨a1, a2, a3, a4⟩ := h1 b1
  refine ⟨a1, by omega, Or.inr (Or.inr (Or.inr (Or.inr (Or.inl ⟨a2, by rw [c _ _ (by omega), f1.x 963 _ rfl]; exact h8, Xi C 904 8, a3, ?_, Or.inl ⟨hq b1, by rw [c _ _ (by omega), f1.x 953 _ rfl]; exact h9, ?_⟩⟩))))⟩
  · rw [c _ _ (by omega), f1.x 956 _ rfl]; exact rr_k a4 (k1.tr kG)
  · rw [c 954 _ (by omega), c 955 _ (by omega), c 904 8 (by omega)]; exact the_k b3 kG
theorem pm_try3 {y : Int} (h : PTY1 S C 0) (h93 : 0 ≤ Xi S 904 93 ∧ 0 ≤ Xi S 904 98) (hq : Xi C 904 65 = 0 → ¬ (tkR S (Xi C 904 8) = 154 ∨ tkR S (Xi C 904 8) = 153 ∨ (100 ≤ tkR S (Xi C 904 8) ∧ tkR S (Xi C 904 8) ≤ 103))) (e2 : G = uI C 904 93 (Int32.ofInt y)) (hy : y = Xi S 904 93 + 1 ∧ y ≤ 2000) : PMID S G := by
  obtain ⟨h1, h2, h3, h4, h5, h6, h7, h8, h9⟩ := h
  have c : ∀ z j, (z ≠ 904 ∨ j ≠ 93) → Xi G z j = Xi C z j := fun z j r => by rw [e2, Xi_ne (by omega)]
  have c93 : Xi G 904 93 = y := xi_of e2 ⟨by omega, by omega⟩
  have kG : RUNK C G := runk_w e2 (by omega) RUNK.rf
  refine ⟨fun b => ?_, h2.tr kG, kte_w e2 (by omega) h3, kpe_w e2 (by omega) h4, ⟨by omega, by rw [c _ _ (by omega)]; exact h5.2⟩, by rw [c _ _ (by omega)]; exact h6, by rw [c _ _ (by omega)]; exact h7⟩
  rw [c _ _ (by omega)] at b
  obtain ⟨a1, a2, a3, a4⟩ := h1 b
  exact ⟨a1, by omega, Or.inr (Or.inr (Or.inr (Or.inr (Or.inl ⟨a2, by rw [c _ _ (by omega)]; exact h8, Xi C 904 8, a3, by rw [c _ _ (by omega)]; exact rr_k a4 kG, Or.inr ⟨hq b, by rw [c _ _ (by omega)]; exact h9, by rw [c _ _ (by omega)]⟩⟩))))⟩
end PHM

/-! the reference's reading: a PHRASE, its beginning -/
theorem uix {U T : sS} {k : Nat} {i j : Int} {v : Int32} (e : U = uI T k i.toNat v) (h : i = j) : U = uI T k j.toNat v := h ▸ e
def PB0 (S U : sS) : Prop := RUNK S U ∧ KTE S U ∧ KPE S U ∧ (Xi U 904 93 = Xi S 904 93 ∧ Xi U 904 98 = Xi S 904 98) ∧ Xi U 965 (Xi S 904 98).toNat = Xi S 904 8 ∧ Xi U 964 (Xi S 904 98).toNat = Xi S 904 93
theorem pb0_of {S A B C U : sS} {v1 v2 v3 x : Int} (h93 : 0 ≤ Xi S 904 93 ∧ 0 ≤ Xi S 904 98) (e1 : A = uI S 965 (Xi S 904 98).toNat (Int32.ofInt v1)) (e2 : B = uI A 964 (Xi S 904 98).toNat (Int32.ofInt v2)) (e3 : C = uI B 961 (Xi S 904 93).toNat (Int32.ofInt v3)) (h1 : v1 = Xi S 904 8) (h2 : v2 = Xi S 904 93) (e4 : U = uI C 904 8 (Int32.ofInt x)) : PB0 S U := by
  have g1 := Xi_rgI (S := S) (k := 904) (j := 8)
  have g2 := Xi_rgI (S := S) (k := 904) (j := 93)
  exact ⟨runk_w e4 (by omega) (runk_w e3 (by omega) (runk_w e2 (by omega) (runk_w e1 (by omega) RUNK.rf))), kte_w e4 (by omega) (kte_w e3 (by omega) (kte_w e2 (by omega) (kte_w e1 (by omega) KTE.rf))), kpe_w e4 (by omega) (kpe_w e3 (by omega) (kpe_w e2 (by omega) (kpe_w e1 (by omega) KPE.rf))), ⟨by rw [e4, Xi_ne (by omega), e3, Xi_ne (by omega), e2, Xi_ne (by omega), e1, Xi_ne (by omega)], by rw [e4, Xi_ne (by omega), e3, Xi_ne (by omega), e2, Xi_ne (by omega), e1, Xi_ne (by omega)]⟩, by rw [e4, Xi_ne (by omega), e3, Xi_ne (by omega), e2, Xi_ne (by omega), xi_of e1 (by rw [h1]; exact ⟨by omega, by omega⟩)]; exact h1, by rw [e4, Xi_ne (by omega), e3, Xi_ne (by omega), xi_of e2 (by rw [h2]; exact ⟨by omega, by omega⟩)]; exact h2⟩
theorem pbg_of {S U : sS} {k kk x : Int} {C : sS} (h : PB0 S U) (c65 : Xi C 904 65 = Xi S 904 65) (c8 : Xi C 904 8 = Xi S 904 8) (t : (Xi S 904 65 = 0 → k = tkR S (Xi S 904 8) ∧ 0 ≤ Xi S 904 8 ∧ Xi S 904 8 ≤ 5001) ∧ (Xi S 904 65 ≠ 0 → k = 1)) (hk : k = kk ∧ 143 ≤ kk) (e4 : U = uI C 904 8 (Int32.ofInt x)) (hx : x = Xi C 904 8 + 1) : PBG S U kk := by
  obtain ⟨a1, a2, a3, a4, a5, a6⟩ := h
  have n : Xi S 904 65 = 0 := by
    by_cases q : Xi S 904 65 = 0
    · exact q
    · have := t.2 q; omega
  obtain ⟨t1, t2, t3⟩ := t.1 n
  exact ⟨⟨n, by rw [e4, Xi_ne (by omega)]; omega⟩, by rw [xi_of e4 (by rw [hx, c8]; exact ⟨by omega, by omega⟩)]; omega, a4, a1, a2, a3, ⟨a5, a6⟩, by omega, t2, t3⟩
theorem pm_odd {S U A B : sS} {v : Int32} (h : PB0 S U) (e : A = uI U 904 8 v) (t : Xi B 904 65 ≠ 0) (f : FR md_mo_odd__t A B) : PMID S B := by
  obtain ⟨a1, a2, a3, a4, a5, a6⟩ := h
  have a : ∀ z j, (z ≠ 904 ∨ j ≠ 8) → Xi A z j = Xi U z j := fun z j r => by rw [e, Xi_ne (by omega)]
  exact ⟨fun b => absurd b t, runk_F f rfl rfl (runk_w e (by omega) a1), kte_F f rfl (kte_w e (by omega) a2), kpe_F f rfl (kpe_w e (by omega) a3), ⟨by rw [f.x 904 93 rfl, a _ _ (by omega)]; omega, by rw [f.x 904 98 rfl, a _ _ (by omega)]; exact a4.2⟩, by rw [f.x 965 _ rfl, a _ _ (by omega)]; exact a5, by rw [f.x 964 _ rfl, a _ _ (by omega)]; exact a6⟩

def md_mo_phrase__t : List rec := [(904, 905, 8, 9), (904, 905, 65, 66), (904, 905, 66, 67), (904, 905, 69, 70), (904, 905, 78, 79), (904, 905, 93, 94), (904, 905, 98, 99), (904, 905, 99, 100), (904, 905, 100, 101), (904, 905, 101, 102), (950, 951, 0, 100000), (951, 952, 0, 100000), (952, 953, 0, 100000), (953, 954, 0, 100000), (954, 955, 0, 100000), (955, 956, 0, 100000), (956, 957, 0, 100000), (957, 958, 0, 100000), (958, 959, 0, 100000), (959, 960, 0, 100000), (960, 961, 0, 100000), (961, 962, 0, 100000), (962, 963, 0, 100000), (963, 964, 0, 100000), (964, 965, 0, 100000), (965, 966, 0, 100000)]
abbrev Q_mo_phrase__t (S : sS) : pst := fun r S1 => RI S1 ∧ FR md_mo_phrase__t S S1 ∧ (r = none ∧ (Xi S1 904 65 = 0 → Xi S 904 65 = 0 ∧ Xi S1 904 93 = Xi S 904 93 + 1 ∧ PHE (tkR S) S1 (Xi S 904 93).toNat (Xi S 904 98).toNat (Xi S 904 8) (Xi S1 904 8) ∧ (tkR S (Xi S1 904 8) = 59 ∨ tkR S (Xi S1 904 8) = 46)) ∧ (RUNK S S1) ∧ (KTE S S1) ∧ (KPE S S1) ∧ (Xi S1 904 98 = Xi S 904 98 + 1 ∧ Xi S 904 93 ≤ Xi S1 904 93) ∧ (Xi S1 965 (Xi S 904 98).toNat = Xi S 904 8 ∧ Xi S1 964 (Xi S 904 98).toNat = Xi S 904 93))
set_option maxRecDepth 100000 in
set_option maxHeartbeats 4000000 in
theorem c409_mo_phrase__t {S : sS} (hH : RI S) (h69 : 0 ≤ Xi S 904 69) (h93 : 0 ≤ Xi S 904 93) (h98 : 0 ≤ Xi S 904 98) (d : Nat) (fu : Nat) : ∀  (T1 : sS) (_ : RI T1) (_ : FR md_mo_phrase__t S T1), (Hid (PMID S T1)) → (Xi T1 904 98 < 1700) → Pl fu lay0 (d + 6) m_mo_phrase 409 [(0, .ref 904)] [] T1 (Q_mo_phrase__t S) := by
  have hF : FR md_mo_phrase__t S S := FR.rf
  have w1 : -2147483648 ≤ Xi S 904 65 ∧ Xi S 904 65 ≤ 2147483647 := Xi_rgI
  have w2 : -2147483648 ≤ Xi S 904 69 ∧ Xi S 904 69 ≤ 2147483647 := Xi_rgI
  have w3 : -2147483648 ≤ Xi S 904 8 ∧ Xi S 904 8 ≤ 2147483647 := Xi_rgI
  have w4 : -2147483648 ≤ Xi S 904 93 ∧ Xi S 904 93 ≤ 2147483647 := Xi_rgI
  have w5 : -2147483648 ≤ Xi S 904 98 ∧ Xi S 904 98 ≤ 2147483647 := Xi_rgI
  intro T1 hHT1 hFT1 X409 w6
  have w7 : -2147483648 ≤ Xi T1 904 65 ∧ Xi T1 904 65 ≤ 2147483647 := Xi_rgI
  have w8 : -2147483648 ≤ Xi T1 904 69 ∧ Xi T1 904 69 ≤ 2147483647 := Xi_rgI
  have w9 : -2147483648 ≤ Xi T1 904 8 ∧ Xi T1 904 8 ≤ 2147483647 := Xi_rgI
  have w10 : -2147483648 ≤ Xi T1 904 93 ∧ Xi T1 904 93 ≤ 2147483647 := Xi_rgI
  have w11 : -2147483648 ≤ Xi T1 904 98 ∧ Xi T1 904 98 ≤ 2147483647 := Xi_rgI
  refine y_aload_n rfl rfl ?_
  refine y_dup rfl rfl ?_
  refine y_gfi rfl rfl rfl rfl rfl ?_
  refine y_iconst rfl ?_
  refine y_iadd rfl ?_
  refine y_pfi rfl rfl rfl rfl ?_
  obtain ⟨U2, eU2⟩ : ∃ T : sS, T = uI T1 904 98 (Int32.ofInt ((Xi T1 904 98) + 1)) := ⟨_, rfl⟩
  rw [← eU2]
  have hHU2 : RI U2 := by rw [eU2]; exact RI_w hHT1
  have hFU2 : FR md_mo_phrase__t S U2 := by rw [eU2]; exact FR.wI hFT1 (mdf_i (r := (904, 905, 98, 99)) (List.mem_of_getElem? (i := 6) rfl) (inR_i (by omega) (by omega) (by omega) (by omega)))
  have w12 : Xi U2 904 98 = ((Xi T1 904 98) + 1) := by rw [eU2]; exact Xi_same (by unfold rg; omega)
  have e416 := eU2
  have y416 := X409.o.2.2.2.2.1
  refine y_aload_n rfl rfl ?_
  refine y_gfi rfl rfl rfl rfl rfl ?_
  have w13 : (Xi U2 904 65) = (Xi T1 904 65) := (show Xi U2 904 65 = Xi T1 904 65 from by rw [eU2]; exact Xi_ne (by omega))
  rw [w13]
  refine y_if_ne rfl rfl (by unfold rg; omega) (fun w14 => ?_) (fun w15 => ?_)
  · refine y_return rfl rfl ?_
    have w16 : Xi U2 904 65 = Xi T1 904 65 := (show Xi U2 904 65 = Xi T1 904 65 from by rw [eU2]; exact Xi_ne (by omega))
    have w17 : Xi U2 904 69 = Xi T1 904 69 := (show Xi U2 904 69 = Xi T1 904 69 from by rw [eU2]; exact Xi_ne (by omega))
    have w18 : Xi U2 904 8 = Xi T1 904 8 := (show Xi U2 904 8 = Xi T1 904 8 from by rw [eU2]; exact Xi_ne (by omega))
    have w19 : Xi U2 904 93 = Xi T1 904 93 := (show Xi U2 904 93 = Xi T1 904 93 from by rw [eU2]; exact Xi_ne (by omega))
    exact ⟨hHU2, hFU2, rfl, (by first | (have u := t455; exact fun b => absurd b t455) | exact fun b => absurd b (by rw [e416, Xi_ne (by omega)]; omega) | exact fun b => by have M := X409.o; obtain ⟨m1, m2, m3⟩ := M.1 (by rw [e416, Xi_ne (by omega)] at b; exact b); exact ⟨m1, by rw [e416, Xi_ne (by omega)]; exact m2, by rw [show Xi U2 904 8 = Xi T1 904 8 by rw [e416, Xi_ne (by omega)]]; exact phe_k m3 (runk_w e416 (by omega) RUNK.rf) (fun z p q => by rw [e416, Xi_ne (by omega)]) (by rw [e416, Xi_ne (by omega)]), by rw [show Xi U2 904 8 = Xi T1 904 8 by rw [e416, Xi_ne (by omega)]]; first | (have u := v448; exact Or.inr (by rw [← v448]; omega)) | exact Or.inl (by rw [← v434]; omega)⟩), (by have M := X409.o.2.1; first | (have u := t455; exact runk_F F455 rfl rfl (runk_w e416 (by omega) M)) | exact runk_w e416 (by omega) M), (by have M := X409.o.2.2.1; first | (have u := t455; exact kte_F F455 rfl (kte_w e416 (by omega) M)) | exact kte_w e416 (by omega) M), (by have M := X409.o.2.2.2.1; first | (have u := t455; exact kpe_F F455 rfl (kpe_w e416 (by omega) M)) | exact kpe_w e416 (by omega) M), (by have M := X409.o.2.2.2.2.1; first | (have u := t455; exact ⟨by rw [F455.x 904 98 rfl]; refine (xi_of e416 (by unfold rg; omega)).trans ?_; omega, by rw [F455.x 904 93 rfl, e416, Xi_ne (by omega)]; exact M.1⟩) | exact ⟨by refine (xi_of e416 (by unfold rg; omega)).trans ?_; omega, by rw [e416, Xi_ne (by omega)]; exact M.1⟩), (by have M := X409.o.2.2.2.2.2; first | (have u := t455; exact ⟨by rw [F455.x 965 _ rfl, e416, Xi_ne (by omega)]; exact M.1, by rw [F455.x 964 _ rfl, e416, Xi_ne (by omega)]; exact M.2⟩) | exact ⟨by rw [e416, Xi_ne (by omega)]; exact M.1, by rw [e416, Xi_ne (by omega)]; exact M.2⟩)⟩
  · refine y_aload_n rfl rfl ?_
    refine y_gfr rfl rfl rfl rfl rfl (hHU2.r 904 4 907 rfl) ?_
    refine y_aload_n rfl rfl ?_
    refine y_gfi rfl rfl rfl rfl rfl ?_
    have w20 : (Xi U2 904 8) = (Xi T1 904 8) := (show Xi U2 904 8 = Xi T1 904 8 from by rw [eU2]; exact Xi_ne (by omega))
    rw [w20]
    refine y_ialoadP (n := 5002) rfl rfl (by unfold rg; omega) (fun w21 w22 => ?_)
    have w23 : -2147483648 ≤ (Xi U2 907 (((Xi T1 904 8)).toNat)) ∧ (Xi U2 907 (((Xi T1 904 8)).toNat)) ≤ 2147483647 := Xi_rgI
    have v434 : (Xi U2 907 (((Xi T1 904 8)).toNat)) = tkR S (Xi T1 904 8) := by show Xi _ 907 _ = Xi S 907 _; rw [(hFU2.cx 907 rfl _).1]
    refine y_bipush rfl rfl ?_
    refine y_icmp_eq rfl rfl (by unfold rg; omega) (by unfold rg; omega) (fun w24 => ?_) (fun w25 => ?_)
    · refine y_return rfl rfl ?_
      have w26 : Xi U2 904 65 = Xi T1 904 65 := (show Xi U2 904 65 = Xi T1 904 65 from by rw [eU2]; exact Xi_ne (by omega))
      have w27 : Xi U2 904 69 = Xi T1 904 69 := (show Xi U2 904 69 = Xi T1 904 69 from by rw [eU2]; exact Xi_ne (by omega))
      have w28 : Xi U2 904 8 = Xi T1 904 8 := (show Xi U2 904 8 = Xi T1 904 8 from by rw [eU2]; exact Xi_ne (by omega))
      have w29 : Xi U2 904 93 = Xi T1 904 93 := (show Xi U2 904 93 = Xi T1 904 93 from by rw [eU2]; exact Xi_ne (by omega))
      exact ⟨hHU2, hFU2, rfl, (by first | (have u := t455; exact fun b => absurd b t455) | exact fun b => absurd b (by rw [e416, Xi_ne (by omega)]; omega) | exact fun b => by have M := X409.o; obtain ⟨m1, m2, m3⟩ := M.1 (by rw [e416, Xi_ne (by omega)] at b; exact b); exact ⟨m1, by rw [e416, Xi_ne (by omega)]; exact m2, by rw [show Xi U2 904 8 = Xi T1 904 8 by rw [e416, Xi_ne (by omega)]]; exact phe_k m3 (runk_w e416 (by omega) RUNK.rf) (fun z p q => by rw [e416, Xi_ne (by omega)]) (by rw [e416, Xi_ne (by omega)]), by rw [show Xi U2 904 8 = Xi T1 904 8 by rw [e416, Xi_ne (by omega)]]; first | (have u := v448; exact Or.inr (by rw [← v448]; omega)) | exact Or.inl (by rw [← v434]; omega)⟩), (by have M := X409.o.2.1; first | (have u := t455; exact runk_F F455 rfl rfl (runk_w e416 (by omega) M)) | exact runk_w e416 (by omega) M), (by have M := X409.o.2.2.1; first | (have u := t455; exact kte_F F455 rfl (kte_w e416 (by omega) M)) | exact kte_w e416 (by omega) M), (by have M := X409.o.2.2.2.1; first | (have u := t455; exact kpe_F F455 rfl (kpe_w e416 (by omega) M)) | exact kpe_w e416 (by omega) M), (by have M := X409.o.2.2.2.2.1; first | (have u := t455; exact ⟨by rw [F455.x 904 98 rfl]; refine (xi_of e416 (by unfold rg; omega)).trans ?_; omega, by rw [F455.x 904 93 rfl, e416, Xi_ne (by omega)]; exact M.1⟩) | exact ⟨by refine (xi_of e416 (by unfold rg; omega)).trans ?_; omega, by rw [e416, Xi_ne (by omega)]; exact M.1⟩), (by have M := X409.o.2.2.2.2.2; first | (have u := t455; exact ⟨by rw [F455.x 965 _ rfl, e416, Xi_ne (by omega)]; exact M.1, by rw [F455.x 964 _ rfl, e416, Xi_ne (by omega)]; exact M.2⟩) | exact ⟨by rw [e416, Xi_ne (by omega)]; exact M.1, by rw [e416, Xi_ne (by omega)]; exact M.2⟩)⟩
    · refine y_aload_n rfl rfl ?_
      refine y_gfr rfl rfl rfl rfl rfl (hHU2.r 904 4 907 rfl) ?_
      refine y_aload_n rfl rfl ?_
      refine y_gfi rfl rfl rfl rfl rfl ?_
      have w30 : (Xi U2 904 8) = (Xi T1 904 8) := (show Xi U2 904 8 = Xi T1 904 8 from by rw [eU2]; exact Xi_ne (by omega))
      rw [w30]
      refine y_ialoadP (n := 5002) rfl rfl (by unfold rg; omega) (fun w31 w32 => ?_)
      have v448 : (Xi U2 907 (((Xi T1 904 8)).toNat)) = tkR S (Xi T1 904 8) := by first | exact v434 | (show Xi _ 907 _ = Xi S 907 _; rw [(hFU2.cx 907 rfl _).1])
      refine y_bipush rfl rfl ?_
      refine y_icmp_eq rfl rfl (by unfold rg; omega) (by unfold rg; omega) (fun w33 => ?_) (fun w34 => ?_)
      · refine y_return rfl rfl ?_
        have w35 : Xi U2 904 65 = Xi T1 904 65 := (show Xi U2 904 65 = Xi T1 904 65 from by rw [eU2]; exact Xi_ne (by omega))
        have w36 : Xi U2 904 69 = Xi T1 904 69 := (show Xi U2 904 69 = Xi T1 904 69 from by rw [eU2]; exact Xi_ne (by omega))
        have w37 : Xi U2 904 8 = Xi T1 904 8 := (show Xi U2 904 8 = Xi T1 904 8 from by rw [eU2]; exact Xi_ne (by omega))
        have w38 : Xi U2 904 93 = Xi T1 904 93 := (show Xi U2 904 93 = Xi T1 904 93 from by rw [eU2]; exact Xi_ne (by omega))
        exact ⟨hHU2, hFU2, rfl, (by first | (have u := t455; exact fun b => absurd b t455) | exact fun b => absurd b (by rw [e416, Xi_ne (by omega)]; omega) | exact fun b => by have M := X409.o; obtain ⟨m1, m2, m3⟩ := M.1 (by rw [e416, Xi_ne (by omega)] at b; exact b); exact ⟨m1, by rw [e416, Xi_ne (by omega)]; exact m2, by rw [show Xi U2 904 8 = Xi T1 904 8 by rw [e416, Xi_ne (by omega)]]; exact phe_k m3 (runk_w e416 (by omega) RUNK.rf) (fun z p q => by rw [e416, Xi_ne (by omega)]) (by rw [e416, Xi_ne (by omega)]), by rw [show Xi U2 904 8 = Xi T1 904 8 by rw [e416, Xi_ne (by omega)]]; first | (have u := v448; exact Or.inr (by rw [← v448]; omega)) | exact Or.inl (by rw [← v434]; omega)⟩), (by have M := X409.o.2.1; first | (have u := t455; exact runk_F F455 rfl rfl (runk_w e416 (by omega) M)) | exact runk_w e416 (by omega) M), (by have M := X409.o.2.2.1; first | (have u := t455; exact kte_F F455 rfl (kte_w e416 (by omega) M)) | exact kte_w e416 (by omega) M), (by have M := X409.o.2.2.2.1; first | (have u := t455; exact kpe_F F455 rfl (kpe_w e416 (by omega) M)) | exact kpe_w e416 (by omega) M), (by have M := X409.o.2.2.2.2.1; first | (have u := t455; exact ⟨by rw [F455.x 904 98 rfl]; refine (xi_of e416 (by unfold rg; omega)).trans ?_; omega, by rw [F455.x 904 93 rfl, e416, Xi_ne (by omega)]; exact M.1⟩) | exact ⟨by refine (xi_of e416 (by unfold rg; omega)).trans ?_; omega, by rw [e416, Xi_ne (by omega)]; exact M.1⟩), (by have M := X409.o.2.2.2.2.2; first | (have u := t455; exact ⟨by rw [F455.x 965 _ rfl, e416, Xi_ne (by omega)]; exact M.1, by rw [F455.x 964 _ rfl, e416, Xi_ne (by omega)]; exact M.2⟩) | exact ⟨by rw [e416, Xi_ne (by omega)]; exact M.1, by rw [e416, Xi_ne (by omega)]; exact M.2⟩)⟩
      · refine y_aload_n rfl rfl ?_
        have w39 : Xi U2 904 65 = Xi T1 904 65 := (show Xi U2 904 65 = Xi T1 904 65 from by rw [eU2]; exact Xi_ne (by omega))
        have w41 : Xi U2 904 8 = Xi T1 904 8 := (show Xi U2 904 8 = Xi T1 904 8 from by rw [eU2]; exact Xi_ne (by omega))
        refine y_callV rfl rfl rfl (t_mo_odd__t hHU2 _) ?_
        rintro _ T3 ⟨hHT3, w45, rfl, t455, w43⟩
        have hFT3 : FR md_mo_phrase__t S T3 := FR.tr hFU2 w45 rfl
        show Pl _ _ _ _ _ _ [] _ _
        have F455 := (by assumption : FR md_mo_odd__t U2 T3)
        refine y_return rfl rfl ?_
        have w46 : Xi T3 904 69 = Xi T1 904 69 := (show Xi T3 904 69 = Xi U2 904 69 from w45.x _ _ rfl).trans ((show Xi U2 904 69 = Xi T1 904 69 from by rw [eU2]; exact Xi_ne (by omega)))
        have w47 : Xi T3 904 8 = Xi T1 904 8 := (show Xi T3 904 8 = Xi U2 904 8 from w45.x _ _ rfl).trans ((show Xi U2 904 8 = Xi T1 904 8 from by rw [eU2]; exact Xi_ne (by omega)))
        have w48 : Xi T3 904 93 = Xi T1 904 93 := (show Xi T3 904 93 = Xi U2 904 93 from w45.x _ _ rfl).trans ((show Xi U2 904 93 = Xi T1 904 93 from by rw [eU2]; exact Xi_ne (by omega)))
        have w49 : Xi T3 904 98 = Xi U2 904 98 := (show Xi T3 904 98 = Xi U2 904 98 from w45.x _ _ rfl)
        exact ⟨hHT3, hFT3, rfl, (by first | (have u := t455; exact fun b => absurd b t455) | exact fun b => absurd b (by rw [e416, Xi_ne (by omega)]; omega) | exact fun b => by have M := X409.o; obtain ⟨m1, m2, m3⟩ := M.1 (by rw [e416, Xi_ne (by omega)] at b; exact b); exact ⟨m1, by rw [e416, Xi_ne (by omega)]; exact m2, by rw [show Xi T3 904 8 = Xi T1 904 8 by rw [e416, Xi_ne (by omega)]]; exact phe_k m3 (runk_w e416 (by omega) RUNK.rf) (fun z p q => by rw [e416, Xi_ne (by omega)]) (by rw [e416, Xi_ne (by omega)]), by rw [show Xi T3 904 8 = Xi T1 904 8 by rw [e416, Xi_ne (by omega)]]; first | (have u := v448; exact Or.inr (by rw [← v448]; omega)) | exact Or.inl (by rw [← v434]; omega)⟩), (by have M := X409.o.2.1; first | (have u := t455; exact runk_F F455 rfl rfl (runk_w e416 (by omega) M)) | exact runk_w e416 (by omega) M), (by have M := X409.o.2.2.1; first | (have u := t455; exact kte_F F455 rfl (kte_w e416 (by omega) M)) | exact kte_w e416 (by omega) M), (by have M := X409.o.2.2.2.1; first | (have u := t455; exact kpe_F F455 rfl (kpe_w e416 (by omega) M)) | exact kpe_w e416 (by omega) M), (by have M := X409.o.2.2.2.2.1; first | (have u := t455; exact ⟨by rw [F455.x 904 98 rfl]; refine (xi_of e416 (by unfold rg; omega)).trans ?_; omega, by rw [F455.x 904 93 rfl, e416, Xi_ne (by omega)]; exact M.1⟩) | exact ⟨by refine (xi_of e416 (by unfold rg; omega)).trans ?_; omega, by rw [e416, Xi_ne (by omega)]; exact M.1⟩), (by have M := X409.o.2.2.2.2.2; first | (have u := t455; exact ⟨by rw [F455.x 965 _ rfl, e416, Xi_ne (by omega)]; exact M.1, by rw [F455.x 964 _ rfl, e416, Xi_ne (by omega)]; exact M.2⟩) | exact ⟨by rw [e416, Xi_ne (by omega)]; exact M.1, by rw [e416, Xi_ne (by omega)]; exact M.2⟩)⟩
set_option maxRecDepth 100000 in
set_option maxHeartbeats 4000000 in
theorem c395_mo_phrase__t {S : sS} (hH : RI S) (h69 : 0 ≤ Xi S 904 69) (h93 : 0 ≤ Xi S 904 93) (h98 : 0 ≤ Xi S 904 98) (d : Nat) (fu : Nat) : ∀  (T4 : sS) (_ : RI T4) (_ : FR md_mo_phrase__t S T4), (Xi S 904 98 < 1700) → (Xi T4 904 98 = Xi S 904 98) → (Hid (PB0 S T4)) → Pl fu lay0 (d + 6) m_mo_phrase 395 [(0, .ref 904)] [] T4 (Q_mo_phrase__t S) := by
  have C409 := c409_mo_phrase__t hH h69 h93 h98 d  fu
  have hF : FR md_mo_phrase__t S S := FR.rf
  have w1 : -2147483648 ≤ Xi S 904 65 ∧ Xi S 904 65 ≤ 2147483647 := Xi_rgI
  have w2 : -2147483648 ≤ Xi S 904 69 ∧ Xi S 904 69 ≤ 2147483647 := Xi_rgI
  have w3 : -2147483648 ≤ Xi S 904 8 ∧ Xi S 904 8 ≤ 2147483647 := Xi_rgI
  have w4 : -2147483648 ≤ Xi S 904 93 ∧ Xi S 904 93 ≤ 2147483647 := Xi_rgI
  have w5 : -2147483648 ≤ Xi S 904 98 ∧ Xi S 904 98 ≤ 2147483647 := Xi_rgI
  intro T4 hHT4 hFT4 w50 w51 B395
  have w52 : -2147483648 ≤ Xi T4 904 65 ∧ Xi T4 904 65 ≤ 2147483647 := Xi_rgI
  have w53 : -2147483648 ≤ Xi T4 904 69 ∧ Xi T4 904 69 ≤ 2147483647 := Xi_rgI
  have w54 : -2147483648 ≤ Xi T4 904 8 ∧ Xi T4 904 8 ≤ 2147483647 := Xi_rgI
  have w55 : -2147483648 ≤ Xi T4 904 93 ∧ Xi T4 904 93 ≤ 2147483647 := Xi_rgI
  have w56 : -2147483648 ≤ Xi T4 904 98 ∧ Xi T4 904 98 ≤ 2147483647 := Xi_rgI
  refine y_aload_n rfl rfl ?_
  refine y_dup rfl rfl ?_
  refine y_gfi rfl rfl rfl rfl rfl ?_
  refine y_iconst rfl ?_
  refine y_isub rfl ?_
  refine y_pfi rfl rfl rfl rfl ?_
  obtain ⟨U5, eU5⟩ : ∃ T : sS, T = uI T4 904 8 (Int32.ofInt ((Xi T4 904 8) - 1)) := ⟨_, rfl⟩
  rw [← eU5]
  have hHU5 : RI U5 := by rw [eU5]; exact RI_w hHT4
  have hFU5 : FR md_mo_phrase__t S U5 := by rw [eU5]; exact FR.wI hFT4 (mdf_i (r := (904, 905, 8, 9)) (List.mem_of_getElem? (i := 0) rfl) (inR_i (by omega) (by omega) (by omega) (by omega)))
  have e402 := eU5
  refine y_aload_n rfl rfl ?_
  have w57 : Xi U5 904 65 = Xi T4 904 65 := (show Xi U5 904 65 = Xi T4 904 65 from by rw [eU5]; exact Xi_ne (by omega))
  refine y_callV rfl rfl rfl (t_mo_odd__t hHU5 _) ?_
  rintro _ T6 ⟨hHT6, w63, rfl, t406, w61⟩
  have hFT6 : FR md_mo_phrase__t S T6 := FR.tr hFU5 w63 rfl
  show Pl _ _ _ _ _ _ [] _ _
  have F406 := (by assumption : FR md_mo_odd__t U5 T6)
  have M406 : Hid (PMID S T6) := pm_odd B395.o e402 t406 F406
  have w64 : Xi T6 904 69 = Xi T4 904 69 := (show Xi T6 904 69 = Xi U5 904 69 from w63.x _ _ rfl).trans ((show Xi U5 904 69 = Xi T4 904 69 from by rw [eU5]; exact Xi_ne (by omega)))
  have w65 : Xi T6 904 8 = Xi U5 904 8 := (show Xi T6 904 8 = Xi U5 904 8 from w63.x _ _ rfl)
  have w66 : Xi T6 904 93 = Xi T4 904 93 := (show Xi T6 904 93 = Xi U5 904 93 from w63.x _ _ rfl).trans ((show Xi U5 904 93 = Xi T4 904 93 from by rw [eU5]; exact Xi_ne (by omega)))
  have w67 : Xi T6 904 98 = Xi T4 904 98 := (show Xi T6 904 98 = Xi U5 904 98 from w63.x _ _ rfl).trans ((show Xi U5 904 98 = Xi T4 904 98 from by rw [eU5]; exact Xi_ne (by omega)))
  exact Pl_weak (C409 T6 hHT6 hFT6  (by first | exact M128 | exact M143 | exact M212 | exact M275 | exact M368 | exact M389 | exact M406) (by omega)) (by omega) (And.intro rfl (True.intro))
set_option maxRecDepth 100000 in
set_option maxHeartbeats 4000000 in
theorem c96_mo_phrase__t {S : sS} (hH : RI S) (h69 : 0 ≤ Xi S 904 69) (h93 : 0 ≤ Xi S 904 93) (h98 : 0 ≤ Xi S 904 98) (d : Nat) (fu : Nat) : ∀  (T7 : sS) (_ : RI T7) (_ : FR md_mo_phrase__t S T7) (v1 : Int), (-2147483648 ≤ v1 ∧ v1 ≤ 2147483647) → (v1 = Xi S 904 98) → (Xi S 904 93 < 1700) → (Xi S 904 98 < 1700) → (Xi T7 904 93 = Xi S 904 93) → (Xi T7 904 98 = Xi S 904 98) → (0 ≤ Xi T7 904 69) → (Hid (PBG S T7 143)) → Pl fu lay0 (d + 6) m_mo_phrase 96 [(0, .ref 904), (1, iv v1)] [] T7 (Q_mo_phrase__t S) := by
  have C409 := c409_mo_phrase__t hH h69 h93 h98 d  fu
  have hF : FR md_mo_phrase__t S S := FR.rf
  have w1 : -2147483648 ≤ Xi S 904 65 ∧ Xi S 904 65 ≤ 2147483647 := Xi_rgI
  have w2 : -2147483648 ≤ Xi S 904 69 ∧ Xi S 904 69 ≤ 2147483647 := Xi_rgI
  have w3 : -2147483648 ≤ Xi S 904 8 ∧ Xi S 904 8 ≤ 2147483647 := Xi_rgI
  have w4 : -2147483648 ≤ Xi S 904 93 ∧ Xi S 904 93 ≤ 2147483647 := Xi_rgI
  have w5 : -2147483648 ≤ Xi S 904 98 ∧ Xi S 904 98 ≤ 2147483647 := Xi_rgI
  intro T7 hHT7 hFT7 v1 w68 w69 w70 w71 w72 w73 w74 P96_
  have w75 : -2147483648 ≤ Xi T7 904 65 ∧ Xi T7 904 65 ≤ 2147483647 := Xi_rgI
  have w76 : -2147483648 ≤ Xi T7 904 69 ∧ Xi T7 904 69 ≤ 2147483647 := Xi_rgI
  have w77 : -2147483648 ≤ Xi T7 904 8 ∧ Xi T7 904 8 ≤ 2147483647 := Xi_rgI
  have w78 : -2147483648 ≤ Xi T7 904 93 ∧ Xi T7 904 93 ≤ 2147483647 := Xi_rgI
  have w79 : -2147483648 ≤ Xi T7 904 98 ∧ Xi T7 904 98 ≤ 2147483647 := Xi_rgI
  refine y_aload_n rfl rfl ?_
  refine y_gfr rfl rfl rfl rfl rfl (hHT7.r 904 95 963 rfl) ?_
  refine y_iload_n rfl rfl ?_
  refine y_iconst rfl ?_
  refine y_iastoreP (n := 1700) rfl rfl (by unfold rg; omega) (fun w80 w81 => ?_)
  obtain ⟨U8, eU8⟩ : ∃ T : sS, T = uI T7 963 ((v1).toNat) (Int32.ofInt 0) := ⟨_, rfl⟩
  rw [← eU8]
  have hHU8 : RI U8 := by rw [eU8]; exact RI_w hHT7
  have hFU8 : FR md_mo_phrase__t S U8 := by rw [eU8]; exact FR.wI hFT7 (mdf_i (r := (963, 964, 0, 100000)) (List.mem_of_getElem? (i := 23) rfl) (inR_i (by omega) (by omega) (by omega) (by omega)))
  have w82 : Xi U8 963 ((v1).toNat) = 0 := by rw [eU8]; exact Xi_same (by unfold rg; omega)
  have e102 := uix (j := Xi S 904 98) eU8 (by omega)
  refine y_aload_n rfl rfl ?_
  refine y_gfr rfl rfl rfl rfl rfl (hHU8.r 904 87 957 rfl) ?_
  refine y_aload_n rfl rfl ?_
  refine y_gfi rfl rfl rfl rfl rfl ?_
  have w83 : (Xi U8 904 93) = (Xi T7 904 93) := (show Xi U8 904 93 = Xi T7 904 93 from by rw [eU8]; exact Xi_ne (by omega))
  rw [w83]
  refine y_aload_n rfl rfl ?_
  refine y_gfi rfl rfl rfl rfl rfl ?_
  have w84 : (Xi U8 904 8) = (Xi T7 904 8) := (show Xi U8 904 8 = Xi T7 904 8 from by rw [eU8]; exact Xi_ne (by omega))
  rw [w84]
  refine y_iastoreP (n := 1700) rfl rfl (by unfold rg; omega) (fun w85 w86 => ?_)
  obtain ⟨U9, eU9⟩ : ∃ T : sS, T = uI U8 957 (((Xi T7 904 93)).toNat) (Int32.ofInt (Xi T7 904 8)) := ⟨_, rfl⟩
  rw [← eU9]
  have hHU9 : RI U9 := by rw [eU9]; exact RI_w hHU8
  have hFU9 : FR md_mo_phrase__t S U9 := by rw [eU9]; exact FR.wI hFU8 (mdf_i (r := (957, 958, 0, 100000)) (List.mem_of_getElem? (i := 17) rfl) (inR_i (by omega) (by omega) (by omega) (by omega)))
  have w87 : Xi U9 957 (((Xi T7 904 93)).toNat) = (Xi T7 904 8) := by rw [eU9]; exact Xi_same (by unfold rg; omega)
  have e115 := uix (j := Xi S 904 93) eU9 (by omega)
  refine y_aload_n rfl rfl ?_
  refine y_iconst rfl ?_
  have w88 : Xi U9 904 65 = Xi T7 904 65 := (show Xi U9 904 65 = Xi U8 904 65 from by rw [eU9]; exact Xi_ne (by omega)).trans ((show Xi U8 904 65 = Xi T7 904 65 from by rw [eU8]; exact Xi_ne (by omega)))
  have w89 : Xi U9 904 69 = Xi T7 904 69 := (show Xi U9 904 69 = Xi U8 904 69 from by rw [eU9]; exact Xi_ne (by omega)).trans ((show Xi U8 904 69 = Xi T7 904 69 from by rw [eU8]; exact Xi_ne (by omega)))
  have w90 : Xi U9 904 8 = Xi T7 904 8 := (show Xi U9 904 8 = Xi U8 904 8 from by rw [eU9]; exact Xi_ne (by omega)).trans ((show Xi U8 904 8 = Xi T7 904 8 from by rw [eU8]; exact Xi_ne (by omega)))
  have w91 : Xi U9 904 93 = Xi T7 904 93 := (show Xi U9 904 93 = Xi U8 904 93 from by rw [eU9]; exact Xi_ne (by omega)).trans ((show Xi U8 904 93 = Xi T7 904 93 from by rw [eU8]; exact Xi_ne (by omega)))
  have w92 : Xi U9 904 98 = Xi T7 904 98 := (show Xi U9 904 98 = Xi U8 904 98 from by rw [eU9]; exact Xi_ne (by omega)).trans ((show Xi U8 904 98 = Xi T7 904 98 from by rw [eU8]; exact Xi_ne (by omega)))
  refine y_callV rfl rfl rfl (t_mo_take__t hHU9 5 ⟨by omega, by omega⟩ _) ?_
  rintro _ T10 ⟨hHT10, w94, rfl, t118⟩
  have hFT10 : FR md_mo_phrase__t S T10 := FR.tr hFU9 w94 rfl
  show Pl _ _ _ _ _ _ [] _ _
  have F118 := (by assumption : FR md_mo_take__t U9 T10)
  have T118_ := t118
  rw [tkR_F7 hFU9 rfl] at T118_
  clear t118
  refine y_aload_n rfl rfl ?_
  refine y_dup rfl rfl ?_
  refine y_gfi rfl rfl rfl rfl rfl ?_
  have w95 : (Xi T10 904 93) = (Xi T7 904 93) := (show Xi T10 904 93 = Xi U9 904 93 from w94.x _ _ rfl).trans ( (show Xi U9 904 93 = Xi U8 904 93 from by rw [eU9]; exact Xi_ne (by omega)).trans ((show Xi U8 904 93 = Xi T7 904 93 from by rw [eU8]; exact Xi_ne (by omega))))
  rw [w95]
  refine y_iconst rfl ?_
  refine y_iadd rfl ?_
  refine y_pfi rfl rfl rfl rfl ?_
  obtain ⟨U11, eU11⟩ : ∃ T : sS, T = uI T10 904 93 (Int32.ofInt ((Xi T7 904 93) + 1)) := ⟨_, rfl⟩
  rw [← eU11]
  have hHU11 : RI U11 := by rw [eU11]; exact RI_w hHT10
  have hFU11 : FR md_mo_phrase__t S U11 := by rw [eU11]; exact FR.wI hFT10 (mdf_i (r := (904, 905, 93, 94)) (List.mem_of_getElem? (i := 5) rfl) (inR_i (by omega) (by omega) (by omega) (by omega)))
  have w96 : Xi U11 904 93 = ((Xi T7 904 93) + 1) := by rw [eU11]; exact Xi_same (by unfold rg; omega)
  have e128 := eU11
  have M128 : Hid (PMID S U11) := pm_say P96_.o ⟨h93, h98⟩ e102 e115 (by first | rfl | (rw [e102, Xi_ne (by omega)]) | omega) T118_ F118 e128 ⟨by omega, by omega⟩
  refine y_goto rfl rfl ?_
  have w97 : Xi U11 904 65 = Xi T10 904 65 := (show Xi U11 904 65 = Xi T10 904 65 from by rw [eU11]; exact Xi_ne (by omega))
  have w98 : Xi U11 904 69 = Xi T7 904 69 := (show Xi U11 904 69 = Xi T10 904 69 from by rw [eU11]; exact Xi_ne (by omega)).trans ( (show Xi T10 904 69 = Xi U9 904 69 from w94.x _ _ rfl).trans ( (show Xi U9 904 69 = Xi U8 904 69 from by rw [eU9]; exact Xi_ne (by omega)).trans ((show Xi U8 904 69 = Xi T7 904 69 from by rw [eU8]; exact Xi_ne (by omega)))))
  have w99 : Xi U11 904 8 = Xi T10 904 8 := (show Xi U11 904 8 = Xi T10 904 8 from by rw [eU11]; exact Xi_ne (by omega))
  have w100 : Xi U11 904 98 = Xi T7 904 98 := (show Xi U11 904 98 = Xi T10 904 98 from by rw [eU11]; exact Xi_ne (by omega)).trans ( (show Xi T10 904 98 = Xi U9 904 98 from w94.x _ _ rfl).trans ( (show Xi U9 904 98 = Xi U8 904 98 from by rw [eU9]; exact Xi_ne (by omega)).trans ((show Xi U8 904 98 = Xi T7 904 98 from by rw [eU8]; exact Xi_ne (by omega)))))
  exact Pl_weak (C409 U11 hHU11 hFU11  (by first | exact M128 | exact M143 | exact M212 | exact M275 | exact M368 | exact M389 | exact M406) (by omega)) (by omega) (And.intro rfl (True.intro))
set_option maxRecDepth 100000 in
set_option maxHeartbeats 4000000 in
theorem c134_mo_phrase__t {S : sS} (hH : RI S) (h69 : 0 ≤ Xi S 904 69) (h93 : 0 ≤ Xi S 904 93) (h98 : 0 ≤ Xi S 904 98) (d : Nat) (fu : Nat) : ∀  (T12 : sS) (_ : RI T12) (_ : FR md_mo_phrase__t S T12) (v1 : Int), (-2147483648 ≤ v1 ∧ v1 ≤ 2147483647) → (v1 = Xi S 904 98) → (Xi S 904 93 < 1700) → (Xi S 904 98 < 1700) → (Xi T12 904 93 = Xi S 904 93) → (Xi T12 904 98 = Xi S 904 98) → (0 ≤ Xi T12 904 69) → (Hid (PBG S T12 144)) → Pl fu lay0 (d + 6) m_mo_phrase 134 [(0, .ref 904), (1, iv v1)] [] T12 (Q_mo_phrase__t S) := by
  have C409 := c409_mo_phrase__t hH h69 h93 h98 d  fu
  have hF : FR md_mo_phrase__t S S := FR.rf
  have w1 : -2147483648 ≤ Xi S 904 65 ∧ Xi S 904 65 ≤ 2147483647 := Xi_rgI
  have w2 : -2147483648 ≤ Xi S 904 69 ∧ Xi S 904 69 ≤ 2147483647 := Xi_rgI
  have w3 : -2147483648 ≤ Xi S 904 8 ∧ Xi S 904 8 ≤ 2147483647 := Xi_rgI
  have w4 : -2147483648 ≤ Xi S 904 93 ∧ Xi S 904 93 ≤ 2147483647 := Xi_rgI
  have w5 : -2147483648 ≤ Xi S 904 98 ∧ Xi S 904 98 ≤ 2147483647 := Xi_rgI
  intro T12 hHT12 hFT12 v1 w101 w102 w103 w104 w105 w106 w107 P134_
  have w108 : -2147483648 ≤ Xi T12 904 65 ∧ Xi T12 904 65 ≤ 2147483647 := Xi_rgI
  have w109 : -2147483648 ≤ Xi T12 904 69 ∧ Xi T12 904 69 ≤ 2147483647 := Xi_rgI
  have w110 : -2147483648 ≤ Xi T12 904 8 ∧ Xi T12 904 8 ≤ 2147483647 := Xi_rgI
  have w111 : -2147483648 ≤ Xi T12 904 93 ∧ Xi T12 904 93 ≤ 2147483647 := Xi_rgI
  have w112 : -2147483648 ≤ Xi T12 904 98 ∧ Xi T12 904 98 ≤ 2147483647 := Xi_rgI
  refine y_aload_n rfl rfl ?_
  refine y_gfr rfl rfl rfl rfl rfl (hHT12.r 904 95 963 rfl) ?_
  refine y_iload_n rfl rfl ?_
  refine y_iconst rfl ?_
  refine y_iastoreP (n := 1700) rfl rfl (by unfold rg; omega) (fun w113 w114 => ?_)
  obtain ⟨U13, eU13⟩ : ∃ T : sS, T = uI T12 963 ((v1).toNat) (Int32.ofInt 1) := ⟨_, rfl⟩
  rw [← eU13]
  have hHU13 : RI U13 := by rw [eU13]; exact RI_w hHT12
  have hFU13 : FR md_mo_phrase__t S U13 := by rw [eU13]; exact FR.wI hFT12 (mdf_i (r := (963, 964, 0, 100000)) (List.mem_of_getElem? (i := 23) rfl) (inR_i (by omega) (by omega) (by omega) (by omega)))
  have w115 : Xi U13 963 ((v1).toNat) = 1 := by rw [eU13]; exact Xi_same (by unfold rg; omega)
  have e140 := uix (j := Xi S 904 98) eU13 (by omega)
  refine y_aload_n rfl rfl ?_
  refine y_iconst rfl ?_
  have w116 : Xi U13 904 65 = Xi T12 904 65 := (show Xi U13 904 65 = Xi T12 904 65 from by rw [eU13]; exact Xi_ne (by omega))
  have w117 : Xi U13 904 69 = Xi T12 904 69 := (show Xi U13 904 69 = Xi T12 904 69 from by rw [eU13]; exact Xi_ne (by omega))
  have w118 : Xi U13 904 8 = Xi T12 904 8 := (show Xi U13 904 8 = Xi T12 904 8 from by rw [eU13]; exact Xi_ne (by omega))
  have w119 : Xi U13 904 93 = Xi T12 904 93 := (show Xi U13 904 93 = Xi T12 904 93 from by rw [eU13]; exact Xi_ne (by omega))
  refine y_callV rfl rfl rfl (t_mo_test__t hHU13 1 ⟨by omega, by omega⟩ (by have a := P134_.o.2.2.2.1.1; omega) (by first | assumption | omega) _) ?_
  rintro _ T14 ⟨hHT14, w122, rfl, t143, k143, q143, c143⟩
  have hFT14 : FR md_mo_phrase__t S T14 := FR.tr hFU13 w122 rfl
  show Pl _ _ _ _ _ _ [] _ _
  have F143 := (by assumption : FR md_mo_test__t U13 T14)
  have T143_ := t143
  rw [tkR_F7 hFU13 rfl] at T143_
  clear t143
  have M143 : Hid (PMID S T14) := pm_now P134_.o ⟨h93, h98⟩ e140 T143_ F143 k143 q143 c143
  refine y_goto rfl rfl ?_
  have w123 : Xi T14 904 98 = Xi T12 904 98 := (show Xi T14 904 98 = Xi U13 904 98 from w122.x _ _ rfl).trans ((show Xi U13 904 98 = Xi T12 904 98 from by rw [eU13]; exact Xi_ne (by omega)))
  exact Pl_weak (C409 T14 hHT14 hFT14  (by first | exact M128 | exact M143 | exact M212 | exact M275 | exact M368 | exact M389 | exact M406) (by omega)) (by omega) (And.intro rfl (True.intro))
set_option maxRecDepth 100000 in
set_option maxHeartbeats 4000000 in
theorem c149_mo_phrase__t {S : sS} (hH : RI S) (h69 : 0 ≤ Xi S 904 69) (h93 : 0 ≤ Xi S 904 93) (h98 : 0 ≤ Xi S 904 98) (d : Nat) (fu : Nat) : ∀  (T15 : sS) (_ : RI T15) (_ : FR md_mo_phrase__t S T15) (v1 : Int), (-2147483648 ≤ v1 ∧ v1 ≤ 2147483647) → (v1 = Xi S 904 98) → (Xi S 904 93 < 1700) → (Xi S 904 98 < 1700) → (Xi T15 904 93 = Xi S 904 93) → (Xi T15 904 98 = Xi S 904 98) → (0 ≤ Xi T15 904 69) → (Hid (PBG S T15 145)) → Pl fu lay0 (d + 6) m_mo_phrase 149 [(0, .ref 904), (1, iv v1)] [] T15 (Q_mo_phrase__t S) := by
  have C409 := c409_mo_phrase__t hH h69 h93 h98 d  fu
  have hF : FR md_mo_phrase__t S S := FR.rf
  have w1 : -2147483648 ≤ Xi S 904 65 ∧ Xi S 904 65 ≤ 2147483647 := Xi_rgI
  have w2 : -2147483648 ≤ Xi S 904 69 ∧ Xi S 904 69 ≤ 2147483647 := Xi_rgI
  have w3 : -2147483648 ≤ Xi S 904 8 ∧ Xi S 904 8 ≤ 2147483647 := Xi_rgI
  have w4 : -2147483648 ≤ Xi S 904 93 ∧ Xi S 904 93 ≤ 2147483647 := Xi_rgI
  have w5 : -2147483648 ≤ Xi S 904 98 ∧ Xi S 904 98 ≤ 2147483647 := Xi_rgI
  intro T15 hHT15 hFT15 v1 w124 w125 w126 w127 w128 w129 w130 P149_
  have w131 : -2147483648 ≤ Xi T15 904 65 ∧ Xi T15 904 65 ≤ 2147483647 := Xi_rgI
  have w132 : -2147483648 ≤ Xi T15 904 69 ∧ Xi T15 904 69 ≤ 2147483647 := Xi_rgI
  have w133 : -2147483648 ≤ Xi T15 904 8 ∧ Xi T15 904 8 ≤ 2147483647 := Xi_rgI
  have w134 : -2147483648 ≤ Xi T15 904 93 ∧ Xi T15 904 93 ≤ 2147483647 := Xi_rgI
  have w135 : -2147483648 ≤ Xi T15 904 98 ∧ Xi T15 904 98 ≤ 2147483647 := Xi_rgI
  refine y_aload_n rfl rfl ?_
  refine y_gfr rfl rfl rfl rfl rfl (hHT15.r 904 95 963 rfl) ?_
  refine y_iload_n rfl rfl ?_
  refine y_iconst rfl ?_
  refine y_iastoreP (n := 1700) rfl rfl (by unfold rg; omega) (fun w136 w137 => ?_)
  obtain ⟨U16, eU16⟩ : ∃ T : sS, T = uI T15 963 ((v1).toNat) (Int32.ofInt 2) := ⟨_, rfl⟩
  rw [← eU16]
  have hHU16 : RI U16 := by rw [eU16]; exact RI_w hHT15
  have hFU16 : FR md_mo_phrase__t S U16 := by rw [eU16]; exact FR.wI hFT15 (mdf_i (r := (963, 964, 0, 100000)) (List.mem_of_getElem? (i := 23) rfl) (inR_i (by omega) (by omega) (by omega) (by omega)))
  have w138 : Xi U16 963 ((v1).toNat) = 2 := by rw [eU16]; exact Xi_same (by unfold rg; omega)
  have e155 := uix (j := Xi S 904 98) eU16 (by omega)
  refine y_aload_n rfl rfl ?_
  have w139 : Xi U16 904 65 = Xi T15 904 65 := (show Xi U16 904 65 = Xi T15 904 65 from by rw [eU16]; exact Xi_ne (by omega))
  have w140 : Xi U16 904 69 = Xi T15 904 69 := (show Xi U16 904 69 = Xi T15 904 69 from by rw [eU16]; exact Xi_ne (by omega))
  have w141 : Xi U16 904 8 = Xi T15 904 8 := (show Xi U16 904 8 = Xi T15 904 8 from by rw [eU16]; exact Xi_ne (by omega))
  have w142 : Xi U16 904 93 = Xi T15 904 93 := (show Xi U16 904 93 = Xi T15 904 93 from by rw [eU16]; exact Xi_ne (by omega))
  have w143 : Xi U16 904 98 = Xi T15 904 98 := (show Xi U16 904 98 = Xi T15 904 98 from by rw [eU16]; exact Xi_ne (by omega))
  refine y_callV rfl rfl rfl (t_mo_thingOfTest__t hHU16 _) ?_
  rintro _ T17 ⟨hHT17, w145, rfl, t157, k157, q157⟩
  have hFT17 : FR md_mo_phrase__t S T17 := FR.tr hFU16 w145 rfl
  show Pl _ _ _ _ _ _ [] _ _
  have F157 := (by assumption : FR md_mo_thingOfTest__t U16 T17)
  have T157_ := t157
  rw [tkR_F7 hFU16 rfl] at T157_
  rw [show Xi U16 904 93 = Xi S 904 93 by omega] at T157_
  clear t157
  refine y_aload_n rfl rfl ?_
  refine y_bipush rfl rfl ?_
  have w146 : Xi T17 904 93 = Xi T15 904 93 := (show Xi T17 904 93 = Xi U16 904 93 from w145.x _ _ rfl).trans ((show Xi U16 904 93 = Xi T15 904 93 from by rw [eU16]; exact Xi_ne (by omega)))
  have w147 : Xi T17 904 98 = Xi T15 904 98 := (show Xi T17 904 98 = Xi U16 904 98 from w145.x _ _ rfl).trans ((show Xi U16 904 98 = Xi T15 904 98 from by rw [eU16]; exact Xi_ne (by omega)))
  refine y_callV rfl rfl rfl (t_mo_take__t hHT17 111 ⟨by omega, by omega⟩ _) ?_
  rintro _ T18 ⟨hHT18, w149, rfl, t163⟩
  have hFT18 : FR md_mo_phrase__t S T18 := FR.tr hFT17 w149 rfl
  show Pl _ _ _ _ _ _ [] _ _
  have F163 := (by assumption : FR md_mo_take__t T17 T18)
  have T163_ := t163
  rw [tkR_F7 hFT17 rfl] at T163_
  clear t163
  refine y_aload_n rfl rfl ?_
  have w150 : Xi T18 904 69 = Xi T17 904 69 := (show Xi T18 904 69 = Xi T17 904 69 from w149.x _ _ rfl)
  have w151 : Xi T18 904 93 = Xi T15 904 93 := (show Xi T18 904 93 = Xi T17 904 93 from w149.x _ _ rfl).trans ( (show Xi T17 904 93 = Xi U16 904 93 from w145.x _ _ rfl).trans ((show Xi U16 904 93 = Xi T15 904 93 from by rw [eU16]; exact Xi_ne (by omega))))
  have w152 : Xi T18 904 98 = Xi T15 904 98 := (show Xi T18 904 98 = Xi T17 904 98 from w149.x _ _ rfl).trans ( (show Xi T17 904 98 = Xi U16 904 98 from w145.x _ _ rfl).trans ((show Xi U16 904 98 = Xi T15 904 98 from by rw [eU16]; exact Xi_ne (by omega))))
  refine y_callV rfl rfl rfl (t_mo_thing__t hHT18 _) ?_
  rintro _ T19 ⟨hHT19, w154, rfl, t167, k167⟩
  have hFT19 : FR md_mo_phrase__t S T19 := FR.tr hFT18 w154 rfl
  show Pl _ _ _ _ _ _ [] _ _
  have F167 := (by assumption : FR md_mo_thing__t T18 T19)
  have T167_ := t167
  rw [tkR_F7 hFT18 rfl] at T167_
  clear t167
  refine y_aload_n rfl rfl ?_
  refine y_gfr rfl rfl rfl rfl rfl (hHT19.r 904 89 959 rfl) ?_
  refine y_aload_n rfl rfl ?_
  refine y_gfi rfl rfl rfl rfl rfl ?_
  have w155 : (Xi T19 904 93) = (Xi T15 904 93) := (show Xi T19 904 93 = Xi T18 904 93 from w154.x _ _ rfl).trans ( (show Xi T18 904 93 = Xi T17 904 93 from w149.x _ _ rfl).trans ( (show Xi T17 904 93 = Xi U16 904 93 from w145.x _ _ rfl).trans ((show Xi U16 904 93 = Xi T15 904 93 from by rw [eU16]; exact Xi_ne (by omega)))))
  rw [w155]
  refine y_aload_n rfl rfl ?_
  refine y_gfi rfl rfl rfl rfl rfl ?_
  have w156 : -2147483648 ≤ (Xi T19 904 100) ∧ (Xi T19 904 100) ≤ 2147483647 := Xi_rgI
  refine y_sipush rfl rfl ?_
  refine y_imul rfl ?_
  refine y_aload_n rfl rfl ?_
  refine y_gfi rfl rfl rfl rfl rfl ?_
  have w157 : -2147483648 ≤ (Xi T19 904 101) ∧ (Xi T19 904 101) ≤ 2147483647 := Xi_rgI
  refine y_iadd rfl ?_
  refine y_iastoreP (n := 1700) rfl rfl (by unfold rg; omega) (fun w158 w159 => ?_)
  obtain ⟨U20, eU20⟩ : ∃ T : sS, T = uI T19 959 (((Xi T15 904 93)).toNat) (Int32.ofInt (((Xi T19 904 100) * 10000) + (Xi T19 904 101))) := ⟨_, rfl⟩
  rw [← eU20]
  have hHU20 : RI U20 := by rw [eU20]; exact RI_w hHT19
  have hFU20 : FR md_mo_phrase__t S U20 := by rw [eU20]; exact FR.wI hFT19 (mdf_i (r := (959, 960, 0, 100000)) (List.mem_of_getElem? (i := 19) rfl) (inR_i (by omega) (by omega) (by omega) (by omega)))
  have e191 := uix (j := Xi S 904 93) eU20 (by omega)
  refine y_aload_n rfl rfl ?_
  refine y_gfr rfl rfl rfl rfl rfl (hHU20.r 904 90 960 rfl) ?_
  refine y_aload_n rfl rfl ?_
  refine y_gfi rfl rfl rfl rfl rfl ?_
  have w160 : (Xi U20 904 93) = (Xi T15 904 93) := (show Xi U20 904 93 = Xi T19 904 93 from by rw [eU20]; exact Xi_ne (by omega)).trans ( (show Xi T19 904 93 = Xi T18 904 93 from w154.x _ _ rfl).trans ( (show Xi T18 904 93 = Xi T17 904 93 from w149.x _ _ rfl).trans ( (show Xi T17 904 93 = Xi U16 904 93 from w145.x _ _ rfl).trans ((show Xi U16 904 93 = Xi T15 904 93 from by rw [eU16]; exact Xi_ne (by omega))))))
  rw [w160]
  refine y_aload_n rfl rfl ?_
  refine y_gfi rfl rfl rfl rfl rfl ?_
  have w161 : -2147483648 ≤ (Xi U20 904 99) ∧ (Xi U20 904 99) ≤ 2147483647 := Xi_rgI
  refine y_iastoreP (n := 1700) rfl rfl (by unfold rg; omega) (fun w162 w163 => ?_)
  obtain ⟨U21, eU21⟩ : ∃ T : sS, T = uI U20 960 (((Xi T15 904 93)).toNat) (Int32.ofInt (Xi U20 904 99)) := ⟨_, rfl⟩
  rw [← eU21]
  have hHU21 : RI U21 := by rw [eU21]; exact RI_w hHU20
  have hFU21 : FR md_mo_phrase__t S U21 := by rw [eU21]; exact FR.wI hFU20 (mdf_i (r := (960, 961, 0, 100000)) (List.mem_of_getElem? (i := 20) rfl) (inR_i (by omega) (by omega) (by omega) (by omega)))
  have w164 : Xi U21 960 (((Xi T15 904 93)).toNat) = (Xi U20 904 99) := by rw [eU21]; exact Xi_same (by unfold rg; omega)
  have e204 := uix (j := Xi S 904 93) eU21 (by omega)
  refine y_aload_n rfl rfl ?_
  refine y_dup rfl rfl ?_
  refine y_gfi rfl rfl rfl rfl rfl ?_
  have w165 : (Xi U21 904 93) = (Xi T15 904 93) := (show Xi U21 904 93 = Xi U20 904 93 from by rw [eU21]; exact Xi_ne (by omega)).trans ( (show Xi U20 904 93 = Xi T19 904 93 from by rw [eU20]; exact Xi_ne (by omega)).trans ( (show Xi T19 904 93 = Xi T18 904 93 from w154.x _ _ rfl).trans ( (show Xi T18 904 93 = Xi T17 904 93 from w149.x _ _ rfl).trans ( (show Xi T17 904 93 = Xi U16 904 93 from w145.x _ _ rfl).trans ((show Xi U16 904 93 = Xi T15 904 93 from by rw [eU16]; exact Xi_ne (by omega)))))))
  rw [w165]
  refine y_iconst rfl ?_
  refine y_iadd rfl ?_
  refine y_pfi rfl rfl rfl rfl ?_
  obtain ⟨U22, eU22⟩ : ∃ T : sS, T = uI U21 904 93 (Int32.ofInt ((Xi T15 904 93) + 1)) := ⟨_, rfl⟩
  rw [← eU22]
  have hHU22 : RI U22 := by rw [eU22]; exact RI_w hHU21
  have hFU22 : FR md_mo_phrase__t S U22 := by rw [eU22]; exact FR.wI hFU21 (mdf_i (r := (904, 905, 93, 94)) (List.mem_of_getElem? (i := 5) rfl) (inR_i (by omega) (by omega) (by omega) (by omega)))
  have w166 : Xi U22 904 93 = ((Xi T15 904 93) + 1) := by rw [eU22]; exact Xi_same (by unfold rg; omega)
  have e212 := eU22
  have M212 : Hid (PMID S U22) := pm_move P149_.o ⟨h93, h98⟩ e155 T157_ F157 k157 q157 T163_ F163 T167_ F167 k167 e191 e204 (by first | rfl | omega) (by first | rfl | (rw [e191, Xi_ne (by omega)]) | omega) e212 ⟨by omega, by omega⟩
  refine y_goto rfl rfl ?_
  have w167 : Xi U22 904 65 = Xi T19 904 65 := (show Xi U22 904 65 = Xi U21 904 65 from by rw [eU22]; exact Xi_ne (by omega)).trans ( (show Xi U21 904 65 = Xi U20 904 65 from by rw [eU21]; exact Xi_ne (by omega)).trans ((show Xi U20 904 65 = Xi T19 904 65 from by rw [eU20]; exact Xi_ne (by omega))))
  have w168 : Xi U22 904 69 = Xi T19 904 69 := (show Xi U22 904 69 = Xi U21 904 69 from by rw [eU22]; exact Xi_ne (by omega)).trans ( (show Xi U21 904 69 = Xi U20 904 69 from by rw [eU21]; exact Xi_ne (by omega)).trans ((show Xi U20 904 69 = Xi T19 904 69 from by rw [eU20]; exact Xi_ne (by omega))))
  have w169 : Xi U22 904 8 = Xi T19 904 8 := (show Xi U22 904 8 = Xi U21 904 8 from by rw [eU22]; exact Xi_ne (by omega)).trans ( (show Xi U21 904 8 = Xi U20 904 8 from by rw [eU21]; exact Xi_ne (by omega)).trans ((show Xi U20 904 8 = Xi T19 904 8 from by rw [eU20]; exact Xi_ne (by omega))))
  have w170 : Xi U22 904 98 = Xi T15 904 98 := (show Xi U22 904 98 = Xi U21 904 98 from by rw [eU22]; exact Xi_ne (by omega)).trans ( (show Xi U21 904 98 = Xi U20 904 98 from by rw [eU21]; exact Xi_ne (by omega)).trans ( (show Xi U20 904 98 = Xi T19 904 98 from by rw [eU20]; exact Xi_ne (by omega)).trans ( (show Xi T19 904 98 = Xi T18 904 98 from w154.x _ _ rfl).trans ( (show Xi T18 904 98 = Xi T17 904 98 from w149.x _ _ rfl).trans ( (show Xi T17 904 98 = Xi U16 904 98 from w145.x _ _ rfl).trans ((show Xi U16 904 98 = Xi T15 904 98 from by rw [eU16]; exact Xi_ne (by omega))))))))
  exact Pl_weak (C409 U22 hHU22 hFU22  (by first | exact M128 | exact M143 | exact M212 | exact M275 | exact M368 | exact M389 | exact M406) (by omega)) (by omega) (And.intro rfl (True.intro))
set_option maxRecDepth 100000 in
set_option maxHeartbeats 4000000 in
theorem c218_mo_phrase__t {S : sS} (hH : RI S) (h69 : 0 ≤ Xi S 904 69) (h93 : 0 ≤ Xi S 904 93) (h98 : 0 ≤ Xi S 904 98) (d : Nat) (fu : Nat) : ∀  (T23 : sS) (_ : RI T23) (_ : FR md_mo_phrase__t S T23) (v1 : Int) (v2 : Int), (-2147483648 ≤ v1 ∧ v1 ≤ 2147483647) → (-2147483648 ≤ v2 ∧ v2 ≤ 2147483647) → (v1 = Xi S 904 98) → (Xi S 904 93 < 1700) → (Xi S 904 98 < 1700) → (Xi T23 904 93 = Xi S 904 93) → (Xi T23 904 98 = Xi S 904 98) → (0 ≤ Xi T23 904 69) → (v2 = 146 ∨ v2 = 147) → (Hid (PBG S T23 v2)) → Pl fu lay0 (d + 6) m_mo_phrase 218 [(0, .ref 904), (1, iv v1), (2, iv v2)] [] T23 (Q_mo_phrase__t S) := by
  have C409 := c409_mo_phrase__t hH h69 h93 h98 d  fu
  have hF : FR md_mo_phrase__t S S := FR.rf
  have w1 : -2147483648 ≤ Xi S 904 65 ∧ Xi S 904 65 ≤ 2147483647 := Xi_rgI
  have w2 : -2147483648 ≤ Xi S 904 69 ∧ Xi S 904 69 ≤ 2147483647 := Xi_rgI
  have w3 : -2147483648 ≤ Xi S 904 8 ∧ Xi S 904 8 ≤ 2147483647 := Xi_rgI
  have w4 : -2147483648 ≤ Xi S 904 93 ∧ Xi S 904 93 ≤ 2147483647 := Xi_rgI
  have w5 : -2147483648 ≤ Xi S 904 98 ∧ Xi S 904 98 ≤ 2147483647 := Xi_rgI
  intro T23 hHT23 hFT23 v1 v2 w171 w172 w173 w174 w175 w176 w177 w178 w179 P218_
  have w180 : -2147483648 ≤ Xi T23 904 65 ∧ Xi T23 904 65 ≤ 2147483647 := Xi_rgI
  have w181 : -2147483648 ≤ Xi T23 904 69 ∧ Xi T23 904 69 ≤ 2147483647 := Xi_rgI
  have w182 : -2147483648 ≤ Xi T23 904 8 ∧ Xi T23 904 8 ≤ 2147483647 := Xi_rgI
  have w183 : -2147483648 ≤ Xi T23 904 93 ∧ Xi T23 904 93 ≤ 2147483647 := Xi_rgI
  have w184 : -2147483648 ≤ Xi T23 904 98 ∧ Xi T23 904 98 ≤ 2147483647 := Xi_rgI
  refine y_aload_n rfl rfl ?_
  refine y_gfr rfl rfl rfl rfl rfl (hHT23.r 904 95 963 rfl) ?_
  refine y_iload_n rfl rfl ?_
  refine y_iload_n rfl rfl ?_
  refine y_sipush rfl rfl ?_
  refine y_icmp_ne rfl rfl (by unfold rg; omega) (by unfold rg; omega) (fun w185 => ?_) (fun w186 => ?_)
  · refine y_iconst rfl ?_
    have P234_ : Hid (PBG S T23 147) := by have t := P218_.o; rw [show v2 = 147 by omega] at t; exact t
    refine y_iastoreP (n := 1700) rfl rfl (by unfold rg; omega) (fun w187 w188 => ?_)
    obtain ⟨U24, eU24⟩ : ∃ T : sS, T = uI T23 963 ((v1).toNat) (Int32.ofInt 4) := ⟨_, rfl⟩
    rw [← eU24]
    have hHU24 : RI U24 := by rw [eU24]; exact RI_w hHT23
    have hFU24 : FR md_mo_phrase__t S U24 := by rw [eU24]; exact FR.wI hFT23 (mdf_i (r := (963, 964, 0, 100000)) (List.mem_of_getElem? (i := 23) rfl) (inR_i (by omega) (by omega) (by omega) (by omega)))
    have w189 : Xi U24 963 ((v1).toNat) = 4 := by rw [eU24]; exact Xi_same (by unfold rg; omega)
    have e235 := uix (j := Xi S 904 98) eU24 (by omega)
    refine y_aload_n rfl rfl ?_
    have w190 : Xi U24 904 65 = Xi T23 904 65 := (show Xi U24 904 65 = Xi T23 904 65 from by rw [eU24]; exact Xi_ne (by omega))
    have w191 : Xi U24 904 69 = Xi T23 904 69 := (show Xi U24 904 69 = Xi T23 904 69 from by rw [eU24]; exact Xi_ne (by omega))
    have w192 : Xi U24 904 8 = Xi T23 904 8 := (show Xi U24 904 8 = Xi T23 904 8 from by rw [eU24]; exact Xi_ne (by omega))
    have w193 : Xi U24 904 93 = Xi T23 904 93 := (show Xi U24 904 93 = Xi T23 904 93 from by rw [eU24]; exact Xi_ne (by omega))
    have w194 : Xi U24 904 98 = Xi T23 904 98 := (show Xi U24 904 98 = Xi T23 904 98 from by rw [eU24]; exact Xi_ne (by omega))
    refine y_callV rfl rfl rfl (t_mo_property__t hHU24 _) ?_
    rintro _ T25 ⟨hHT25, w196, rfl, t237, k237, q237⟩
    have hFT25 : FR md_mo_phrase__t S T25 := FR.tr hFU24 w196 rfl
    show Pl _ _ _ _ _ _ [] _ _
    have F237 := (by assumption : FR md_mo_property__t U24 T25)
    have T237_ := t237
    rw [tkR_F7 hFU24 rfl] at T237_
    rw [show Xi U24 904 93 = Xi S 904 93 by omega] at T237_
    clear t237
    refine y_aload_n rfl rfl ?_
    have w197 : Xi T25 904 93 = Xi T23 904 93 := (show Xi T25 904 93 = Xi U24 904 93 from w196.x _ _ rfl).trans ((show Xi U24 904 93 = Xi T23 904 93 from by rw [eU24]; exact Xi_ne (by omega)))
    have w198 : Xi T25 904 98 = Xi T23 904 98 := (show Xi T25 904 98 = Xi U24 904 98 from w196.x _ _ rfl).trans ((show Xi U24 904 98 = Xi T23 904 98 from by rw [eU24]; exact Xi_ne (by omega)))
    refine y_callV rfl rfl rfl (t_mo_thingOfTest__t hHT25 _) ?_
    rintro _ T26 ⟨hHT26, w200, rfl, t241, k241, q241⟩
    have hFT26 : FR md_mo_phrase__t S T26 := FR.tr hFT25 w200 rfl
    show Pl _ _ _ _ _ _ [] _ _
    have F241 := (by assumption : FR md_mo_thingOfTest__t T25 T26)
    have T241_ := t241
    rw [tkR_F7 hFT25 rfl] at T241_
    rw [show Xi T25 904 93 = Xi S 904 93 by omega] at T241_
    clear t241
    refine y_aload_n rfl rfl ?_
    refine y_bipush rfl rfl ?_
    have w201 : Xi T26 904 93 = Xi T23 904 93 := (show Xi T26 904 93 = Xi T25 904 93 from w200.x _ _ rfl).trans ( (show Xi T25 904 93 = Xi U24 904 93 from w196.x _ _ rfl).trans ((show Xi U24 904 93 = Xi T23 904 93 from by rw [eU24]; exact Xi_ne (by omega))))
    have w202 : Xi T26 904 98 = Xi T23 904 98 := (show Xi T26 904 98 = Xi T25 904 98 from w200.x _ _ rfl).trans ( (show Xi T25 904 98 = Xi U24 904 98 from w196.x _ _ rfl).trans ((show Xi U24 904 98 = Xi T23 904 98 from by rw [eU24]; exact Xi_ne (by omega))))
    refine y_callV rfl rfl rfl (t_mo_take__t hHT26 110 ⟨by omega, by omega⟩ _) ?_
    rintro _ T27 ⟨hHT27, w204, rfl, t247⟩
    have hFT27 : FR md_mo_phrase__t S T27 := FR.tr hFT26 w204 rfl
    show Pl _ _ _ _ _ _ [] _ _
    have F247 := (by assumption : FR md_mo_take__t T26 T27)
    have T247_ := t247
    rw [tkR_F7 hFT26 rfl] at T247_
    clear t247
    refine y_aload_n rfl rfl ?_
    refine y_gfr rfl rfl rfl rfl rfl (hHT27.r 904 87 957 rfl) ?_
    refine y_aload_n rfl rfl ?_
    refine y_gfi rfl rfl rfl rfl rfl ?_
    have w205 : (Xi T27 904 93) = (Xi T23 904 93) := (show Xi T27 904 93 = Xi T26 904 93 from w204.x _ _ rfl).trans ( (show Xi T26 904 93 = Xi T25 904 93 from w200.x _ _ rfl).trans ( (show Xi T25 904 93 = Xi U24 904 93 from w196.x _ _ rfl).trans ((show Xi U24 904 93 = Xi T23 904 93 from by rw [eU24]; exact Xi_ne (by omega)))))
    rw [w205]
    refine y_aload_n rfl rfl ?_
    refine y_gfi rfl rfl rfl rfl rfl ?_
    have w206 : -2147483648 ≤ (Xi T27 904 8) ∧ (Xi T27 904 8) ≤ 2147483647 := Xi_rgI
    refine y_iastoreP (n := 1700) rfl rfl (by unfold rg; omega) (fun w207 w208 => ?_)
    obtain ⟨U28, eU28⟩ : ∃ T : sS, T = uI T27 957 (((Xi T23 904 93)).toNat) (Int32.ofInt (Xi T27 904 8)) := ⟨_, rfl⟩
    rw [← eU28]
    have hHU28 : RI U28 := by rw [eU28]; exact RI_w hHT27
    have hFU28 : FR md_mo_phrase__t S U28 := by rw [eU28]; exact FR.wI hFT27 (mdf_i (r := (957, 958, 0, 100000)) (List.mem_of_getElem? (i := 17) rfl) (inR_i (by omega) (by omega) (by omega) (by omega)))
    have w209 : Xi U28 957 (((Xi T23 904 93)).toNat) = (Xi T27 904 8) := by rw [eU28]; exact Xi_same (by unfold rg; omega)
    have e262 := uix (j := Xi S 904 93) eU28 (by omega)
    refine y_aload_n rfl rfl ?_
    refine y_iconst rfl ?_
    have w210 : Xi U28 904 65 = Xi T27 904 65 := (show Xi U28 904 65 = Xi T27 904 65 from by rw [eU28]; exact Xi_ne (by omega))
    have w211 : Xi U28 904 69 = Xi T26 904 69 := (show Xi U28 904 69 = Xi T27 904 69 from by rw [eU28]; exact Xi_ne (by omega)).trans ((show Xi T27 904 69 = Xi T26 904 69 from w204.x _ _ rfl))
    have w212 : Xi U28 904 8 = Xi T27 904 8 := (show Xi U28 904 8 = Xi T27 904 8 from by rw [eU28]; exact Xi_ne (by omega))
    have w213 : Xi U28 904 93 = Xi T23 904 93 := (show Xi U28 904 93 = Xi T27 904 93 from by rw [eU28]; exact Xi_ne (by omega)).trans ( (show Xi T27 904 93 = Xi T26 904 93 from w204.x _ _ rfl).trans ( (show Xi T26 904 93 = Xi T25 904 93 from w200.x _ _ rfl).trans ( (show Xi T25 904 93 = Xi U24 904 93 from w196.x _ _ rfl).trans ((show Xi U24 904 93 = Xi T23 904 93 from by rw [eU24]; exact Xi_ne (by omega))))))
    have w214 : Xi U28 904 98 = Xi T23 904 98 := (show Xi U28 904 98 = Xi T27 904 98 from by rw [eU28]; exact Xi_ne (by omega)).trans ( (show Xi T27 904 98 = Xi T26 904 98 from w204.x _ _ rfl).trans ( (show Xi T26 904 98 = Xi T25 904 98 from w200.x _ _ rfl).trans ( (show Xi T25 904 98 = Xi U24 904 98 from w196.x _ _ rfl).trans ((show Xi U24 904 98 = Xi T23 904 98 from by rw [eU24]; exact Xi_ne (by omega))))))
    refine y_callV rfl rfl rfl (t_mo_take__t hHU28 4 ⟨by omega, by omega⟩ _) ?_
    rintro _ T29 ⟨hHT29, w216, rfl, t265⟩
    have hFT29 : FR md_mo_phrase__t S T29 := FR.tr hFU28 w216 rfl
    show Pl _ _ _ _ _ _ [] _ _
    have F265 := (by assumption : FR md_mo_take__t U28 T29)
    have T265_ := t265
    rw [tkR_F7 hFU28 rfl] at T265_
    clear t265
    refine y_aload_n rfl rfl ?_
    refine y_dup rfl rfl ?_
    refine y_gfi rfl rfl rfl rfl rfl ?_
    have w217 : (Xi T29 904 93) = (Xi T23 904 93) := (show Xi T29 904 93 = Xi U28 904 93 from w216.x _ _ rfl).trans ( (show Xi U28 904 93 = Xi T27 904 93 from by rw [eU28]; exact Xi_ne (by omega)).trans ( (show Xi T27 904 93 = Xi T26 904 93 from w204.x _ _ rfl).trans ( (show Xi T26 904 93 = Xi T25 904 93 from w200.x _ _ rfl).trans ( (show Xi T25 904 93 = Xi U24 904 93 from w196.x _ _ rfl).trans ((show Xi U24 904 93 = Xi T23 904 93 from by rw [eU24]; exact Xi_ne (by omega)))))))
    rw [w217]
    refine y_iconst rfl ?_
    refine y_iadd rfl ?_
    refine y_pfi rfl rfl rfl rfl ?_
    obtain ⟨U30, eU30⟩ : ∃ T : sS, T = uI T29 904 93 (Int32.ofInt ((Xi T23 904 93) + 1)) := ⟨_, rfl⟩
    rw [← eU30]
    have hHU30 : RI U30 := by rw [eU30]; exact RI_w hHT29
    have hFU30 : FR md_mo_phrase__t S U30 := by rw [eU30]; exact FR.wI hFT29 (mdf_i (r := (904, 905, 93, 94)) (List.mem_of_getElem? (i := 5) rfl) (inR_i (by omega) (by omega) (by omega) (by omega)))
    have w218 : Xi U30 904 93 = ((Xi T23 904 93) + 1) := by rw [eU30]; exact Xi_same (by unfold rg; omega)
    have e275 := eU30
    have M275 : Hid (PMID S U30) := by first | (have u := P230_; exact pm_add P230_.o ⟨h93, h98⟩ (Or.inl ⟨rfl, rfl⟩) e235 T237_ F237 k237 q237 T241_ F241 k241 q241 T247_ F247 e262 (by first | rfl | omega) T265_ F265 e275 ⟨by omega, by omega⟩) | exact pm_add P234_.o ⟨h93, h98⟩ (Or.inr ⟨rfl, rfl⟩) e235 T237_ F237 k237 q237 T241_ F241 k241 q241 T247_ F247 e262 (by first | rfl | omega) T265_ F265 e275 ⟨by omega, by omega⟩
    refine y_goto rfl rfl ?_
    have w219 : Xi U30 904 65 = Xi T29 904 65 := (show Xi U30 904 65 = Xi T29 904 65 from by rw [eU30]; exact Xi_ne (by omega))
    have w220 : Xi U30 904 69 = Xi T26 904 69 := (show Xi U30 904 69 = Xi T29 904 69 from by rw [eU30]; exact Xi_ne (by omega)).trans ( (show Xi T29 904 69 = Xi U28 904 69 from w216.x _ _ rfl).trans ( (show Xi U28 904 69 = Xi T27 904 69 from by rw [eU28]; exact Xi_ne (by omega)).trans ((show Xi T27 904 69 = Xi T26 904 69 from w204.x _ _ rfl))))
    have w221 : Xi U30 904 8 = Xi T29 904 8 := (show Xi U30 904 8 = Xi T29 904 8 from by rw [eU30]; exact Xi_ne (by omega))
    have w222 : Xi U30 904 98 = Xi T23 904 98 := (show Xi U30 904 98 = Xi T29 904 98 from by rw [eU30]; exact Xi_ne (by omega)).trans ( (show Xi T29 904 98 = Xi U28 904 98 from w216.x _ _ rfl).trans ( (show Xi U28 904 98 = Xi T27 904 98 from by rw [eU28]; exact Xi_ne (by omega)).trans ( (show Xi T27 904 98 = Xi T26 904 98 from w204.x _ _ rfl).trans ( (show Xi T26 904 98 = Xi T25 904 98 from w200.x _ _ rfl).trans ( (show Xi T25 904 98 = Xi U24 904 98 from w196.x _ _ rfl).trans ((show Xi U24 904 98 = Xi T23 904 98 from by rw [eU24]; exact Xi_ne (by omega))))))))
    exact Pl_weak (C409 U30 hHU30 hFU30  (by first | exact M128 | exact M143 | exact M212 | exact M275 | exact M368 | exact M389 | exact M406) (by omega)) (by omega) (And.intro rfl (True.intro))
  · refine y_iconst rfl ?_
    have P230_ : Hid (PBG S T23 146) := by have t := P218_.o; rw [show v2 = 146 by omega] at t; exact t
    refine y_goto rfl rfl ?_
    refine y_iastoreP (n := 1700) rfl rfl (by unfold rg; omega) (fun w223 w224 => ?_)
    obtain ⟨U31, eU31⟩ : ∃ T : sS, T = uI T23 963 ((v1).toNat) (Int32.ofInt 3) := ⟨_, rfl⟩
    rw [← eU31]
    have hHU31 : RI U31 := by rw [eU31]; exact RI_w hHT23
    have hFU31 : FR md_mo_phrase__t S U31 := by rw [eU31]; exact FR.wI hFT23 (mdf_i (r := (963, 964, 0, 100000)) (List.mem_of_getElem? (i := 23) rfl) (inR_i (by omega) (by omega) (by omega) (by omega)))
    have w225 : Xi U31 963 ((v1).toNat) = 3 := by rw [eU31]; exact Xi_same (by unfold rg; omega)
    have e235 := uix (j := Xi S 904 98) eU31 (by omega)
    refine y_aload_n rfl rfl ?_
    have w226 : Xi U31 904 65 = Xi T23 904 65 := (show Xi U31 904 65 = Xi T23 904 65 from by rw [eU31]; exact Xi_ne (by omega))
    have w227 : Xi U31 904 69 = Xi T23 904 69 := (show Xi U31 904 69 = Xi T23 904 69 from by rw [eU31]; exact Xi_ne (by omega))
    have w228 : Xi U31 904 8 = Xi T23 904 8 := (show Xi U31 904 8 = Xi T23 904 8 from by rw [eU31]; exact Xi_ne (by omega))
    have w229 : Xi U31 904 93 = Xi T23 904 93 := (show Xi U31 904 93 = Xi T23 904 93 from by rw [eU31]; exact Xi_ne (by omega))
    have w230 : Xi U31 904 98 = Xi T23 904 98 := (show Xi U31 904 98 = Xi T23 904 98 from by rw [eU31]; exact Xi_ne (by omega))
    refine y_callV rfl rfl rfl (t_mo_property__t hHU31 _) ?_
    rintro _ T32 ⟨hHT32, w232, rfl, t237, k237, q237⟩
    have hFT32 : FR md_mo_phrase__t S T32 := FR.tr hFU31 w232 rfl
    show Pl _ _ _ _ _ _ [] _ _
    have F237 := (by assumption : FR md_mo_property__t U31 T32)
    have T237_ := t237
    rw [tkR_F7 hFU31 rfl] at T237_
    rw [show Xi U31 904 93 = Xi S 904 93 by omega] at T237_
    clear t237
    refine y_aload_n rfl rfl ?_
    have w233 : Xi T32 904 93 = Xi T23 904 93 := (show Xi T32 904 93 = Xi U31 904 93 from w232.x _ _ rfl).trans ((show Xi U31 904 93 = Xi T23 904 93 from by rw [eU31]; exact Xi_ne (by omega)))
    have w234 : Xi T32 904 98 = Xi T23 904 98 := (show Xi T32 904 98 = Xi U31 904 98 from w232.x _ _ rfl).trans ((show Xi U31 904 98 = Xi T23 904 98 from by rw [eU31]; exact Xi_ne (by omega)))
    refine y_callV rfl rfl rfl (t_mo_thingOfTest__t hHT32 _) ?_
    rintro _ T33 ⟨hHT33, w236, rfl, t241, k241, q241⟩
    have hFT33 : FR md_mo_phrase__t S T33 := FR.tr hFT32 w236 rfl
    show Pl _ _ _ _ _ _ [] _ _
    have F241 := (by assumption : FR md_mo_thingOfTest__t T32 T33)
    have T241_ := t241
    rw [tkR_F7 hFT32 rfl] at T241_
    rw [show Xi T32 904 93 = Xi S 904 93 by omega] at T241_
    clear t241
    refine y_aload_n rfl rfl ?_
    refine y_bipush rfl rfl ?_
    have w237 : Xi T33 904 93 = Xi T23 904 93 := (show Xi T33 904 93 = Xi T32 904 93 from w236.x _ _ rfl).trans ( (show Xi T32 904 93 = Xi U31 904 93 from w232.x _ _ rfl).trans ((show Xi U31 904 93 = Xi T23 904 93 from by rw [eU31]; exact Xi_ne (by omega))))
    have w238 : Xi T33 904 98 = Xi T23 904 98 := (show Xi T33 904 98 = Xi T32 904 98 from w236.x _ _ rfl).trans ( (show Xi T32 904 98 = Xi U31 904 98 from w232.x _ _ rfl).trans ((show Xi U31 904 98 = Xi T23 904 98 from by rw [eU31]; exact Xi_ne (by omega))))
    refine y_callV rfl rfl rfl (t_mo_take__t hHT33 110 ⟨by omega, by omega⟩ _) ?_
    rintro _ T34 ⟨hHT34, w240, rfl, t247⟩
    have hFT34 : FR md_mo_phrase__t S T34 := FR.tr hFT33 w240 rfl
    show Pl _ _ _ _ _ _ [] _ _
    have F247 := (by assumption : FR md_mo_take__t T33 T34)
    have T247_ := t247
    rw [tkR_F7 hFT33 rfl] at T247_
    clear t247
    refine y_aload_n rfl rfl ?_
    refine y_gfr rfl rfl rfl rfl rfl (hHT34.r 904 87 957 rfl) ?_
    refine y_aload_n rfl rfl ?_
    refine y_gfi rfl rfl rfl rfl rfl ?_
    have w241 : (Xi T34 904 93) = (Xi T23 904 93) := (show Xi T34 904 93 = Xi T33 904 93 from w240.x _ _ rfl).trans ( (show Xi T33 904 93 = Xi T32 904 93 from w236.x _ _ rfl).trans ( (show Xi T32 904 93 = Xi U31 904 93 from w232.x _ _ rfl).trans ((show Xi U31 904 93 = Xi T23 904 93 from by rw [eU31]; exact Xi_ne (by omega)))))
    rw [w241]
    refine y_aload_n rfl rfl ?_
    refine y_gfi rfl rfl rfl rfl rfl ?_
    have w242 : -2147483648 ≤ (Xi T34 904 8) ∧ (Xi T34 904 8) ≤ 2147483647 := Xi_rgI
    refine y_iastoreP (n := 1700) rfl rfl (by unfold rg; omega) (fun w243 w244 => ?_)
    obtain ⟨U35, eU35⟩ : ∃ T : sS, T = uI T34 957 (((Xi T23 904 93)).toNat) (Int32.ofInt (Xi T34 904 8)) := ⟨_, rfl⟩
    rw [← eU35]
    have hHU35 : RI U35 := by rw [eU35]; exact RI_w hHT34
    have hFU35 : FR md_mo_phrase__t S U35 := by rw [eU35]; exact FR.wI hFT34 (mdf_i (r := (957, 958, 0, 100000)) (List.mem_of_getElem? (i := 17) rfl) (inR_i (by omega) (by omega) (by omega) (by omega)))
    have w245 : Xi U35 957 (((Xi T23 904 93)).toNat) = (Xi T34 904 8) := by rw [eU35]; exact Xi_same (by unfold rg; omega)
    have e262 := uix (j := Xi S 904 93) eU35 (by omega)
    refine y_aload_n rfl rfl ?_
    refine y_iconst rfl ?_
    have w246 : Xi U35 904 65 = Xi T34 904 65 := (show Xi U35 904 65 = Xi T34 904 65 from by rw [eU35]; exact Xi_ne (by omega))
    have w247 : Xi U35 904 69 = Xi T33 904 69 := (show Xi U35 904 69 = Xi T34 904 69 from by rw [eU35]; exact Xi_ne (by omega)).trans ((show Xi T34 904 69 = Xi T33 904 69 from w240.x _ _ rfl))
    have w248 : Xi U35 904 8 = Xi T34 904 8 := (show Xi U35 904 8 = Xi T34 904 8 from by rw [eU35]; exact Xi_ne (by omega))
    have w249 : Xi U35 904 93 = Xi T23 904 93 := (show Xi U35 904 93 = Xi T34 904 93 from by rw [eU35]; exact Xi_ne (by omega)).trans ( (show Xi T34 904 93 = Xi T33 904 93 from w240.x _ _ rfl).trans ( (show Xi T33 904 93 = Xi T32 904 93 from w236.x _ _ rfl).trans ( (show Xi T32 904 93 = Xi U31 904 93 from w232.x _ _ rfl).trans ((show Xi U31 904 93 = Xi T23 904 93 from by rw [eU31]; exact Xi_ne (by omega))))))
    have w250 : Xi U35 904 98 = Xi T23 904 98 := (show Xi U35 904 98 = Xi T34 904 98 from by rw [eU35]; exact Xi_ne (by omega)).trans ( (show Xi T34 904 98 = Xi T33 904 98 from w240.x _ _ rfl).trans ( (show Xi T33 904 98 = Xi T32 904 98 from w236.x _ _ rfl).trans ( (show Xi T32 904 98 = Xi U31 904 98 from w232.x _ _ rfl).trans ((show Xi U31 904 98 = Xi T23 904 98 from by rw [eU31]; exact Xi_ne (by omega))))))
    refine y_callV rfl rfl rfl (t_mo_take__t hHU35 4 ⟨by omega, by omega⟩ _) ?_
    rintro _ T36 ⟨hHT36, w252, rfl, t265⟩
    have hFT36 : FR md_mo_phrase__t S T36 := FR.tr hFU35 w252 rfl
    show Pl _ _ _ _ _ _ [] _ _
    have F265 := (by assumption : FR md_mo_take__t U35 T36)
    have T265_ := t265
    rw [tkR_F7 hFU35 rfl] at T265_
    clear t265
    refine y_aload_n rfl rfl ?_
    refine y_dup rfl rfl ?_
    refine y_gfi rfl rfl rfl rfl rfl ?_
    have w253 : (Xi T36 904 93) = (Xi T23 904 93) := (show Xi T36 904 93 = Xi U35 904 93 from w252.x _ _ rfl).trans ( (show Xi U35 904 93 = Xi T34 904 93 from by rw [eU35]; exact Xi_ne (by omega)).trans ( (show Xi T34 904 93 = Xi T33 904 93 from w240.x _ _ rfl).trans ( (show Xi T33 904 93 = Xi T32 904 93 from w236.x _ _ rfl).trans ( (show Xi T32 904 93 = Xi U31 904 93 from w232.x _ _ rfl).trans ((show Xi U31 904 93 = Xi T23 904 93 from by rw [eU31]; exact Xi_ne (by omega)))))))
    rw [w253]
    refine y_iconst rfl ?_
    refine y_iadd rfl ?_
    refine y_pfi rfl rfl rfl rfl ?_
    obtain ⟨U37, eU37⟩ : ∃ T : sS, T = uI T36 904 93 (Int32.ofInt ((Xi T23 904 93) + 1)) := ⟨_, rfl⟩
    rw [← eU37]
    have hHU37 : RI U37 := by rw [eU37]; exact RI_w hHT36
    have hFU37 : FR md_mo_phrase__t S U37 := by rw [eU37]; exact FR.wI hFT36 (mdf_i (r := (904, 905, 93, 94)) (List.mem_of_getElem? (i := 5) rfl) (inR_i (by omega) (by omega) (by omega) (by omega)))
    have w254 : Xi U37 904 93 = ((Xi T23 904 93) + 1) := by rw [eU37]; exact Xi_same (by unfold rg; omega)
    have e275 := eU37
    have M275 : Hid (PMID S U37) := by first | (have u := P230_; exact pm_add P230_.o ⟨h93, h98⟩ (Or.inl ⟨rfl, rfl⟩) e235 T237_ F237 k237 q237 T241_ F241 k241 q241 T247_ F247 e262 (by first | rfl | omega) T265_ F265 e275 ⟨by omega, by omega⟩) | exact pm_add P234_.o ⟨h93, h98⟩ (Or.inr ⟨rfl, rfl⟩) e235 T237_ F237 k237 q237 T241_ F241 k241 q241 T247_ F247 e262 (by first | rfl | omega) T265_ F265 e275 ⟨by omega, by omega⟩
    refine y_goto rfl rfl ?_
    have w255 : Xi U37 904 65 = Xi T36 904 65 := (show Xi U37 904 65 = Xi T36 904 65 from by rw [eU37]; exact Xi_ne (by omega))
    have w256 : Xi U37 904 69 = Xi T33 904 69 := (show Xi U37 904 69 = Xi T36 904 69 from by rw [eU37]; exact Xi_ne (by omega)).trans ( (show Xi T36 904 69 = Xi U35 904 69 from w252.x _ _ rfl).trans ( (show Xi U35 904 69 = Xi T34 904 69 from by rw [eU35]; exact Xi_ne (by omega)).trans ((show Xi T34 904 69 = Xi T33 904 69 from w240.x _ _ rfl))))
    have w257 : Xi U37 904 8 = Xi T36 904 8 := (show Xi U37 904 8 = Xi T36 904 8 from by rw [eU37]; exact Xi_ne (by omega))
    have w258 : Xi U37 904 98 = Xi T23 904 98 := (show Xi U37 904 98 = Xi T36 904 98 from by rw [eU37]; exact Xi_ne (by omega)).trans ( (show Xi T36 904 98 = Xi U35 904 98 from w252.x _ _ rfl).trans ( (show Xi U35 904 98 = Xi T34 904 98 from by rw [eU35]; exact Xi_ne (by omega)).trans ( (show Xi T34 904 98 = Xi T33 904 98 from w240.x _ _ rfl).trans ( (show Xi T33 904 98 = Xi T32 904 98 from w236.x _ _ rfl).trans ( (show Xi T32 904 98 = Xi U31 904 98 from w232.x _ _ rfl).trans ((show Xi U31 904 98 = Xi T23 904 98 from by rw [eU31]; exact Xi_ne (by omega))))))))
    exact Pl_weak (C409 U37 hHU37 hFU37  (by first | exact M128 | exact M143 | exact M212 | exact M275 | exact M368 | exact M389 | exact M406) (by omega)) (by omega) (And.intro rfl (True.intro))
set_option maxRecDepth 100000 in
set_option maxHeartbeats 4000000 in
theorem c374_mo_phrase__t {S : sS} (hH : RI S) (h69 : 0 ≤ Xi S 904 69) (h93 : 0 ≤ Xi S 904 93) (h98 : 0 ≤ Xi S 904 98) (d : Nat) (fu : Nat) : ∀  (T38 : sS) (_ : RI T38) (_ : FR md_mo_phrase__t S T38) (v1 : Int), (-2147483648 ≤ v1 ∧ v1 ≤ 2147483647) → (v1 = Xi S 904 98) → (Xi S 904 93 < 1700) → (Xi S 904 98 < 1700) → (Xi T38 904 93 = Xi S 904 93) → (Xi T38 904 98 = Xi S 904 98) → (0 ≤ Xi T38 904 69) → (Hid (PBG S T38 148)) → Pl fu lay0 (d + 6) m_mo_phrase 374 [(0, .ref 904), (1, iv v1)] [] T38 (Q_mo_phrase__t S) := by
  have C409 := c409_mo_phrase__t hH h69 h93 h98 d  fu
  have hF : FR md_mo_phrase__t S S := FR.rf
  have w1 : -2147483648 ≤ Xi S 904 65 ∧ Xi S 904 65 ≤ 2147483647 := Xi_rgI
  have w2 : -2147483648 ≤ Xi S 904 69 ∧ Xi S 904 69 ≤ 2147483647 := Xi_rgI
  have w3 : -2147483648 ≤ Xi S 904 8 ∧ Xi S 904 8 ≤ 2147483647 := Xi_rgI
  have w4 : -2147483648 ≤ Xi S 904 93 ∧ Xi S 904 93 ≤ 2147483647 := Xi_rgI
  have w5 : -2147483648 ≤ Xi S 904 98 ∧ Xi S 904 98 ≤ 2147483647 := Xi_rgI
  intro T38 hHT38 hFT38 v1 w259 w260 w261 w262 w263 w264 w265 P374_
  have w266 : -2147483648 ≤ Xi T38 904 65 ∧ Xi T38 904 65 ≤ 2147483647 := Xi_rgI
  have w267 : -2147483648 ≤ Xi T38 904 69 ∧ Xi T38 904 69 ≤ 2147483647 := Xi_rgI
  have w268 : -2147483648 ≤ Xi T38 904 8 ∧ Xi T38 904 8 ≤ 2147483647 := Xi_rgI
  have w269 : -2147483648 ≤ Xi T38 904 93 ∧ Xi T38 904 93 ≤ 2147483647 := Xi_rgI
  have w270 : -2147483648 ≤ Xi T38 904 98 ∧ Xi T38 904 98 ≤ 2147483647 := Xi_rgI
  refine y_aload_n rfl rfl ?_
  refine y_gfr rfl rfl rfl rfl rfl (hHT38.r 904 95 963 rfl) ?_
  refine y_iload_n rfl rfl ?_
  refine y_bipush rfl rfl ?_
  refine y_iastoreP (n := 1700) rfl rfl (by unfold rg; omega) (fun w271 w272 => ?_)
  obtain ⟨U39, eU39⟩ : ∃ T : sS, T = uI T38 963 ((v1).toNat) (Int32.ofInt 6) := ⟨_, rfl⟩
  rw [← eU39]
  have hHU39 : RI U39 := by rw [eU39]; exact RI_w hHT38
  have hFU39 : FR md_mo_phrase__t S U39 := by rw [eU39]; exact FR.wI hFT38 (mdf_i (r := (963, 964, 0, 100000)) (List.mem_of_getElem? (i := 23) rfl) (inR_i (by omega) (by omega) (by omega) (by omega)))
  have w273 : Xi U39 963 ((v1).toNat) = 6 := by rw [eU39]; exact Xi_same (by unfold rg; omega)
  have e381 := uix (j := Xi S 904 98) eU39 (by omega)
  refine y_aload_n rfl rfl ?_
  refine y_dup rfl rfl ?_
  refine y_gfi rfl rfl rfl rfl rfl ?_
  have w274 : (Xi U39 904 93) = (Xi T38 904 93) := (show Xi U39 904 93 = Xi T38 904 93 from by rw [eU39]; exact Xi_ne (by omega))
  rw [w274]
  refine y_iconst rfl ?_
  refine y_iadd rfl ?_
  refine y_pfi rfl rfl rfl rfl ?_
  obtain ⟨U40, eU40⟩ : ∃ T : sS, T = uI U39 904 93 (Int32.ofInt ((Xi T38 904 93) + 1)) := ⟨_, rfl⟩
  rw [← eU40]
  have hHU40 : RI U40 := by rw [eU40]; exact RI_w hHU39
  have hFU40 : FR md_mo_phrase__t S U40 := by rw [eU40]; exact FR.wI hFU39 (mdf_i (r := (904, 905, 93, 94)) (List.mem_of_getElem? (i := 5) rfl) (inR_i (by omega) (by omega) (by omega) (by omega)))
  have w275 : Xi U40 904 93 = ((Xi T38 904 93) + 1) := by rw [eU40]; exact Xi_same (by unfold rg; omega)
  have e389 := eU40
  have M389 : Hid (PMID S U40) := pm_stop P374_.o ⟨h93, h98⟩ e381 e389 ⟨by omega, by omega⟩
  refine y_goto rfl rfl ?_
  have w276 : Xi U40 904 65 = Xi T38 904 65 := (show Xi U40 904 65 = Xi U39 904 65 from by rw [eU40]; exact Xi_ne (by omega)).trans ((show Xi U39 904 65 = Xi T38 904 65 from by rw [eU39]; exact Xi_ne (by omega)))
  have w277 : Xi U40 904 69 = Xi T38 904 69 := (show Xi U40 904 69 = Xi U39 904 69 from by rw [eU40]; exact Xi_ne (by omega)).trans ((show Xi U39 904 69 = Xi T38 904 69 from by rw [eU39]; exact Xi_ne (by omega)))
  have w278 : Xi U40 904 8 = Xi T38 904 8 := (show Xi U40 904 8 = Xi U39 904 8 from by rw [eU40]; exact Xi_ne (by omega)).trans ((show Xi U39 904 8 = Xi T38 904 8 from by rw [eU39]; exact Xi_ne (by omega)))
  have w279 : Xi U40 904 98 = Xi T38 904 98 := (show Xi U40 904 98 = Xi U39 904 98 from by rw [eU40]; exact Xi_ne (by omega)).trans ((show Xi U39 904 98 = Xi T38 904 98 from by rw [eU39]; exact Xi_ne (by omega)))
  exact Pl_weak (C409 U40 hHU40 hFU40  (by first | exact M128 | exact M143 | exact M212 | exact M275 | exact M368 | exact M389 | exact M406) (by omega)) (by omega) (And.intro rfl (True.intro))
set_option maxRecDepth 100000 in
set_option maxHeartbeats 4000000 in
theorem c281_mo_phrase__t {S : sS} (hH : RI S) (h69 : 0 ≤ Xi S 904 69) (h93 : 0 ≤ Xi S 904 93) (h98 : 0 ≤ Xi S 904 98) (d : Nat) (fu : Nat) : ∀  (T41 : sS) (_ : RI T41) (_ : FR md_mo_phrase__t S T41) (v1 : Int), (-2147483648 ≤ v1 ∧ v1 ≤ 2147483647) → (v1 = Xi S 904 98) → (Xi S 904 93 < 1700) → (Xi S 904 98 < 1700) → (Xi T41 904 93 = Xi S 904 93) → (Xi T41 904 98 = Xi S 904 98) → (0 ≤ Xi T41 904 69) → (Hid (PBG S T41 149)) → Pl fu lay0 (d + 6) m_mo_phrase 281 [(0, .ref 904), (1, iv v1)] [] T41 (Q_mo_phrase__t S) := by
  have C409 := c409_mo_phrase__t hH h69 h93 h98 d  fu
  have hF : FR md_mo_phrase__t S S := FR.rf
  have w1 : -2147483648 ≤ Xi S 904 65 ∧ Xi S 904 65 ≤ 2147483647 := Xi_rgI
  have w2 : -2147483648 ≤ Xi S 904 69 ∧ Xi S 904 69 ≤ 2147483647 := Xi_rgI
  have w3 : -2147483648 ≤ Xi S 904 8 ∧ Xi S 904 8 ≤ 2147483647 := Xi_rgI
  have w4 : -2147483648 ≤ Xi S 904 93 ∧ Xi S 904 93 ≤ 2147483647 := Xi_rgI
  have w5 : -2147483648 ≤ Xi S 904 98 ∧ Xi S 904 98 ≤ 2147483647 := Xi_rgI
  intro T41 hHT41 hFT41 v1 w280 w281 w282 w283 w284 w285 w286 P281_
  have w287 : -2147483648 ≤ Xi T41 904 65 ∧ Xi T41 904 65 ≤ 2147483647 := Xi_rgI
  have w288 : -2147483648 ≤ Xi T41 904 69 ∧ Xi T41 904 69 ≤ 2147483647 := Xi_rgI
  have w289 : -2147483648 ≤ Xi T41 904 8 ∧ Xi T41 904 8 ≤ 2147483647 := Xi_rgI
  have w290 : -2147483648 ≤ Xi T41 904 93 ∧ Xi T41 904 93 ≤ 2147483647 := Xi_rgI
  have w291 : -2147483648 ≤ Xi T41 904 98 ∧ Xi T41 904 98 ≤ 2147483647 := Xi_rgI
  refine y_aload_n rfl rfl ?_
  refine y_gfr rfl rfl rfl rfl rfl (hHT41.r 904 95 963 rfl) ?_
  refine y_iload_n rfl rfl ?_
  refine y_iconst rfl ?_
  refine y_iastoreP (n := 1700) rfl rfl (by unfold rg; omega) (fun w292 w293 => ?_)
  obtain ⟨U42, eU42⟩ : ∃ T : sS, T = uI T41 963 ((v1).toNat) (Int32.ofInt 5) := ⟨_, rfl⟩
  rw [← eU42]
  have hHU42 : RI U42 := by rw [eU42]; exact RI_w hHT41
  have hFU42 : FR md_mo_phrase__t S U42 := by rw [eU42]; exact FR.wI hFT41 (mdf_i (r := (963, 964, 0, 100000)) (List.mem_of_getElem? (i := 23) rfl) (inR_i (by omega) (by omega) (by omega) (by omega)))
  have w294 : Xi U42 963 ((v1).toNat) = 5 := by rw [eU42]; exact Xi_same (by unfold rg; omega)
  have e287 := uix (j := Xi S 904 98) eU42 (by omega)
  refine y_aload_n rfl rfl ?_
  refine y_gfr rfl rfl rfl rfl rfl (hHU42.r 904 86 956 rfl) ?_
  refine y_aload_n rfl rfl ?_
  refine y_gfi rfl rfl rfl rfl rfl ?_
  have w295 : (Xi U42 904 93) = (Xi T41 904 93) := (show Xi U42 904 93 = Xi T41 904 93 from by rw [eU42]; exact Xi_ne (by omega))
  rw [w295]
  refine y_aload_n rfl rfl ?_
  have w296 : Xi U42 904 65 = Xi T41 904 65 := (show Xi U42 904 65 = Xi T41 904 65 from by rw [eU42]; exact Xi_ne (by omega))
  have w297 : Xi U42 904 69 = Xi T41 904 69 := (show Xi U42 904 69 = Xi T41 904 69 from by rw [eU42]; exact Xi_ne (by omega))
  have w298 : Xi U42 904 8 = Xi T41 904 8 := (show Xi U42 904 8 = Xi T41 904 8 from by rw [eU42]; exact Xi_ne (by omega))
  have w299 : Xi U42 904 93 = Xi T41 904 93 := (show Xi U42 904 93 = Xi T41 904 93 from by rw [eU42]; exact Xi_ne (by omega))
  have w300 : Xi U42 904 98 = Xi T41 904 98 := (show Xi U42 904 98 = Xi T41 904 98 from by rw [eU42]; exact Xi_ne (by omega))
  refine y_callV rfl rfl rfl (t_mo_run__t hHU42 _) ?_
  rintro _ T43 ⟨hHT43, w302, z301, rfl, w301, t297, k297⟩
  have hFT43 : FR md_mo_phrase__t S T43 := FR.tr hFU42 w302 rfl
  show Pl _ _ _ _ _ _ [iv z301, iv (Xi T41 904 93), .ref 956] _ _
  have F297 := (by assumption : FR md_mo_run__t U42 T43)
  have T297_ := t297
  rw [tkR_F7 hFU42 rfl] at T297_
  clear t297
  refine y_iastoreP (n := 1700) rfl rfl (by unfold rg; omega) (fun w303 w304 => ?_)
  obtain ⟨U44, eU44⟩ : ∃ T : sS, T = uI T43 956 (((Xi T41 904 93)).toNat) (Int32.ofInt z301) := ⟨_, rfl⟩
  rw [← eU44]
  have hHU44 : RI U44 := by rw [eU44]; exact RI_w hHT43
  have hFU44 : FR md_mo_phrase__t S U44 := by rw [eU44]; exact FR.wI hFT43 (mdf_i (r := (956, 957, 0, 100000)) (List.mem_of_getElem? (i := 16) rfl) (inR_i (by omega) (by omega) (by omega) (by omega)))
  have w305 : Xi U44 956 (((Xi T41 904 93)).toNat) = z301 := by rw [eU44]; exact Xi_same (by unfold rg; omega)
  have e300 := uix (j := Xi S 904 93) eU44 (by omega)
  refine y_aload_n rfl rfl ?_
  refine y_gfr rfl rfl rfl rfl rfl (hHU44.r 904 83 953 rfl) ?_
  refine y_aload_n rfl rfl ?_
  refine y_gfi rfl rfl rfl rfl rfl ?_
  have w306 : (Xi U44 904 93) = (Xi T41 904 93) := (show Xi U44 904 93 = Xi T43 904 93 from by rw [eU44]; exact Xi_ne (by omega)).trans ( (show Xi T43 904 93 = Xi U42 904 93 from w302.x _ _ rfl).trans ((show Xi U42 904 93 = Xi T41 904 93 from by rw [eU42]; exact Xi_ne (by omega))))
  rw [w306]
  refine y_aload_n rfl rfl ?_
  refine y_sipush rfl rfl ?_
  have w307 : Xi U44 904 65 = Xi T43 904 65 := (show Xi U44 904 65 = Xi T43 904 65 from by rw [eU44]; exact Xi_ne (by omega))
  have w308 : Xi U44 904 69 = Xi T43 904 69 := (show Xi U44 904 69 = Xi T43 904 69 from by rw [eU44]; exact Xi_ne (by omega))
  have w309 : Xi U44 904 8 = Xi T43 904 8 := (show Xi U44 904 8 = Xi T43 904 8 from by rw [eU44]; exact Xi_ne (by omega))
  have w310 : Xi U44 904 93 = Xi T41 904 93 := (show Xi U44 904 93 = Xi T43 904 93 from by rw [eU44]; exact Xi_ne (by omega)).trans ( (show Xi T43 904 93 = Xi U42 904 93 from w302.x _ _ rfl).trans ((show Xi U42 904 93 = Xi T41 904 93 from by rw [eU42]; exact Xi_ne (by omega))))
  have w311 : Xi U44 904 98 = Xi T41 904 98 := (show Xi U44 904 98 = Xi T43 904 98 from by rw [eU44]; exact Xi_ne (by omega)).trans ( (show Xi T43 904 98 = Xi U42 904 98 from w302.x _ _ rfl).trans ((show Xi U42 904 98 = Xi T41 904 98 from by rw [eU42]; exact Xi_ne (by omega))))
  refine y_callV rfl rfl rfl (t_mo_isNext__t hHU44 154 ⟨by omega, by omega⟩ _) ?_
  rintro _ _ ⟨rfl, z312, rfl, w312, t313⟩
  show Pl _ _ _ _ _ _ [iv z312, iv (Xi T41 904 93), .ref 953] _ _
  have T313 := t313
  rw [tkR_F7 hFU44 rfl] at T313
  clear t313
  refine y_if_ne rfl rfl (by unfold rg; omega) (fun w313 => ?_) (fun w314 => ?_)
  · refine y_iconst rfl ?_
    have K339 : Hid (Xi U44 904 65 = 0 → tkR S (Xi U44 904 8) = 154 ∨ tkR S (Xi U44 904 8) = 153 ∨ (100 ≤ tkR S (Xi U44 904 8) ∧ tkR S (Xi U44 904 8) ≤ 103)) := fun b => by first | (have u := T330.1 b; exact Or.inr (Or.inr (by rw [← u.1]; omega))) | (have u := T323.1 (by omega); exact Or.inr (Or.inl u.2.1)) | (have u := T313.1 (by omega); exact Or.inl u.2.1)
    refine y_goto rfl rfl ?_
    refine y_bastoreZP (n := 1700) rfl rfl (by unfold rg; omega) ⟨by omega, by omega⟩ (fun w315 w316 => ?_)
    obtain ⟨U45, eU45⟩ : ∃ T : sS, T = uI U44 953 (((Xi T41 904 93)).toNat) (Int32.ofInt 1) := ⟨_, rfl⟩
    rw [← eU45]
    have hHU45 : RI U45 := by rw [eU45]; exact RI_w hHU44
    have hFU45 : FR md_mo_phrase__t S U45 := by rw [eU45]; exact FR.wI hFU44 (mdf_i (r := (953, 954, 0, 100000)) (List.mem_of_getElem? (i := 13) rfl) (inR_i (by omega) (by omega) (by omega) (by omega)))
    have w317 : Xi U45 953 (((Xi T41 904 93)).toNat) = 1 := by rw [eU45]; exact Xi_same (by unfold rg; omega)
    have e344 := uix (j := Xi S 904 93) eU45 (by omega)
    have Q344 := pm_try1 P281_.o ⟨h93, h98⟩ e287 T297_ F297 k297 (by unfold rg; omega) e300 e344 (by omega)
    have x344 : Xi U45 904 8 = Xi U44 904 8 ∧ Xi U45 904 65 = Xi U44 904 65 := ⟨by rw [e344, Xi_ne (by omega)], by rw [e344, Xi_ne (by omega)]⟩
    refine y_aload_n rfl rfl ?_
    refine y_gfr rfl rfl rfl rfl rfl (hHU45.r 904 83 953 rfl) ?_
    refine y_aload_n rfl rfl ?_
    refine y_gfi rfl rfl rfl rfl rfl ?_
    have w318 : (Xi U45 904 93) = (Xi T41 904 93) := (show Xi U45 904 93 = Xi U44 904 93 from by rw [eU45]; exact Xi_ne (by omega)).trans ( (show Xi U44 904 93 = Xi T43 904 93 from by rw [eU44]; exact Xi_ne (by omega)).trans ( (show Xi T43 904 93 = Xi U42 904 93 from w302.x _ _ rfl).trans ((show Xi U42 904 93 = Xi T41 904 93 from by rw [eU42]; exact Xi_ne (by omega)))))
    rw [w318]
    refine y_baloadP (n := 1700) rfl rfl rfl (by decide) (by unfold rg; omega) (fun w319 w320 => ?_)
    have v353 := xi_of e344 (by unfold rg; omega)
    refine y_if_eq rfl rfl (by unfold rg; omega) (fun w321 => ?_) (fun w322 => ?_)
    · exfalso; omega
    · refine y_aload_n rfl rfl ?_
      have w323 : Xi U45 904 65 = Xi T43 904 65 := (show Xi U45 904 65 = Xi U44 904 65 from by rw [eU45]; exact Xi_ne (by omega)).trans ((show Xi U44 904 65 = Xi T43 904 65 from by rw [eU44]; exact Xi_ne (by omega)))
      have w324 : Xi U45 904 69 = Xi T43 904 69 := (show Xi U45 904 69 = Xi U44 904 69 from by rw [eU45]; exact Xi_ne (by omega)).trans ((show Xi U44 904 69 = Xi T43 904 69 from by rw [eU44]; exact Xi_ne (by omega)))
      have w325 : Xi U45 904 8 = Xi T43 904 8 := (show Xi U45 904 8 = Xi U44 904 8 from by rw [eU45]; exact Xi_ne (by omega)).trans ((show Xi U44 904 8 = Xi T43 904 8 from by rw [eU44]; exact Xi_ne (by omega)))
      have w326 : Xi U45 904 93 = Xi T41 904 93 := (show Xi U45 904 93 = Xi U44 904 93 from by rw [eU45]; exact Xi_ne (by omega)).trans ( (show Xi U44 904 93 = Xi T43 904 93 from by rw [eU44]; exact Xi_ne (by omega)).trans ( (show Xi T43 904 93 = Xi U42 904 93 from w302.x _ _ rfl).trans ((show Xi U42 904 93 = Xi T41 904 93 from by rw [eU42]; exact Xi_ne (by omega)))))
      have w327 : Xi U45 904 98 = Xi T41 904 98 := (show Xi U45 904 98 = Xi U44 904 98 from by rw [eU45]; exact Xi_ne (by omega)).trans ( (show Xi U44 904 98 = Xi T43 904 98 from by rw [eU44]; exact Xi_ne (by omega)).trans ( (show Xi T43 904 98 = Xi U42 904 98 from w302.x _ _ rfl).trans ((show Xi U42 904 98 = Xi T41 904 98 from by rw [eU42]; exact Xi_ne (by omega)))))
      refine y_callV rfl rfl rfl (t_mo_thingOfTest__t hHU45 _) ?_
      rintro _ T46 ⟨hHT46, w329, rfl, t358, k358, q358⟩
      have hFT46 : FR md_mo_phrase__t S T46 := FR.tr hFU45 w329 rfl
      show Pl _ _ _ _ _ _ [] _ _
      have F358 := (by assumption : FR md_mo_thingOfTest__t U45 T46)
      have T358_ := t358
      rw [tkR_F7 hFU45 rfl] at T358_
      rw [show Xi U45 904 93 = Xi S 904 93 by omega] at T358_
      clear t358
      refine y_aload_n rfl rfl ?_
      refine y_dup rfl rfl ?_
      refine y_gfi rfl rfl rfl rfl rfl ?_
      have w330 : (Xi T46 904 93) = (Xi T41 904 93) := (show Xi T46 904 93 = Xi U45 904 93 from w329.x _ _ rfl).trans ( (show Xi U45 904 93 = Xi U44 904 93 from by rw [eU45]; exact Xi_ne (by omega)).trans ( (show Xi U44 904 93 = Xi T43 904 93 from by rw [eU44]; exact Xi_ne (by omega)).trans ( (show Xi T43 904 93 = Xi U42 904 93 from w302.x _ _ rfl).trans ((show Xi U42 904 93 = Xi T41 904 93 from by rw [eU42]; exact Xi_ne (by omega))))))
      rw [w330]
      refine y_iconst rfl ?_
      refine y_iadd rfl ?_
      refine y_pfi rfl rfl rfl rfl ?_
      obtain ⟨U47, eU47⟩ : ∃ T : sS, T = uI T46 904 93 (Int32.ofInt ((Xi T41 904 93) + 1)) := ⟨_, rfl⟩
      rw [← eU47]
      have hHU47 : RI U47 := by rw [eU47]; exact RI_w hHT46
      have hFU47 : FR md_mo_phrase__t S U47 := by rw [eU47]; exact FR.wI hFT46 (mdf_i (r := (904, 905, 93, 94)) (List.mem_of_getElem? (i := 5) rfl) (inR_i (by omega) (by omega) (by omega) (by omega)))
      have w331 : Xi U47 904 93 = ((Xi T41 904 93) + 1) := by rw [eU47]; exact Xi_same (by unfold rg; omega)
      have e368 := eU47
      have M368 : Hid (PMID S U47) := by first | (have u := F358; exact pm_try2 Q344 ⟨h93, h98⟩ (by rw [x344.1, x344.2]; exact K339.o) T358_ F358 k358 q358 e368 ⟨by omega, by omega⟩) | exact pm_try3 Q344 ⟨h93, h98⟩ (by rw [x344.1, x344.2]; exact K343.o) e368 ⟨by omega, by omega⟩
      refine y_goto rfl rfl ?_
      have w332 : Xi U47 904 65 = Xi T46 904 65 := (show Xi U47 904 65 = Xi T46 904 65 from by rw [eU47]; exact Xi_ne (by omega))
      have w333 : Xi U47 904 69 = Xi T46 904 69 := (show Xi U47 904 69 = Xi T46 904 69 from by rw [eU47]; exact Xi_ne (by omega))
      have w334 : Xi U47 904 8 = Xi T46 904 8 := (show Xi U47 904 8 = Xi T46 904 8 from by rw [eU47]; exact Xi_ne (by omega))
      have w335 : Xi U47 904 98 = Xi T41 904 98 := (show Xi U47 904 98 = Xi T46 904 98 from by rw [eU47]; exact Xi_ne (by omega)).trans ( (show Xi T46 904 98 = Xi U45 904 98 from w329.x _ _ rfl).trans ( (show Xi U45 904 98 = Xi U44 904 98 from by rw [eU45]; exact Xi_ne (by omega)).trans ( (show Xi U44 904 98 = Xi T43 904 98 from by rw [eU44]; exact Xi_ne (by omega)).trans ( (show Xi T43 904 98 = Xi U42 904 98 from w302.x _ _ rfl).trans ((show Xi U42 904 98 = Xi T41 904 98 from by rw [eU42]; exact Xi_ne (by omega)))))))
      exact Pl_weak (C409 U47 hHU47 hFU47  (by first | exact M128 | exact M143 | exact M212 | exact M275 | exact M368 | exact M389 | exact M406) (by omega)) (by omega) (And.intro rfl (True.intro))
  · refine y_aload_n rfl rfl ?_
    refine y_sipush rfl rfl ?_
    refine y_callV rfl rfl rfl (t_mo_isNext__t hHU44 153 ⟨by omega, by omega⟩ _) ?_
    rintro _ _ ⟨rfl, z341, rfl, w341, t323⟩
    show Pl _ _ _ _ _ _ [iv z341, iv (Xi T41 904 93), .ref 953] _ _
    have T323 := t323
    rw [tkR_F7 hFU44 rfl] at T323
    clear t323
    refine y_if_ne rfl rfl (by unfold rg; omega) (fun w342 => ?_) (fun w343 => ?_)
    · refine y_iconst rfl ?_
      have K339 : Hid (Xi U44 904 65 = 0 → tkR S (Xi U44 904 8) = 154 ∨ tkR S (Xi U44 904 8) = 153 ∨ (100 ≤ tkR S (Xi U44 904 8) ∧ tkR S (Xi U44 904 8) ≤ 103)) := fun b => by first | (have u := T330.1 b; exact Or.inr (Or.inr (by rw [← u.1]; omega))) | (have u := T323.1 (by omega); exact Or.inr (Or.inl u.2.1)) | (have u := T313.1 (by omega); exact Or.inl u.2.1)
      refine y_goto rfl rfl ?_
      refine y_bastoreZP (n := 1700) rfl rfl (by unfold rg; omega) ⟨by omega, by omega⟩ (fun w344 w345 => ?_)
      obtain ⟨U48, eU48⟩ : ∃ T : sS, T = uI U44 953 (((Xi T41 904 93)).toNat) (Int32.ofInt 1) := ⟨_, rfl⟩
      rw [← eU48]
      have hHU48 : RI U48 := by rw [eU48]; exact RI_w hHU44
      have hFU48 : FR md_mo_phrase__t S U48 := by rw [eU48]; exact FR.wI hFU44 (mdf_i (r := (953, 954, 0, 100000)) (List.mem_of_getElem? (i := 13) rfl) (inR_i (by omega) (by omega) (by omega) (by omega)))
      have w346 : Xi U48 953 (((Xi T41 904 93)).toNat) = 1 := by rw [eU48]; exact Xi_same (by unfold rg; omega)
      have e344 := uix (j := Xi S 904 93) eU48 (by omega)
      have Q344 := pm_try1 P281_.o ⟨h93, h98⟩ e287 T297_ F297 k297 (by unfold rg; omega) e300 e344 (by omega)
      have x344 : Xi U48 904 8 = Xi U44 904 8 ∧ Xi U48 904 65 = Xi U44 904 65 := ⟨by rw [e344, Xi_ne (by omega)], by rw [e344, Xi_ne (by omega)]⟩
      refine y_aload_n rfl rfl ?_
      refine y_gfr rfl rfl rfl rfl rfl (hHU48.r 904 83 953 rfl) ?_
      refine y_aload_n rfl rfl ?_
      refine y_gfi rfl rfl rfl rfl rfl ?_
      have w347 : (Xi U48 904 93) = (Xi T41 904 93) := (show Xi U48 904 93 = Xi U44 904 93 from by rw [eU48]; exact Xi_ne (by omega)).trans ( (show Xi U44 904 93 = Xi T43 904 93 from by rw [eU44]; exact Xi_ne (by omega)).trans ( (show Xi T43 904 93 = Xi U42 904 93 from w302.x _ _ rfl).trans ((show Xi U42 904 93 = Xi T41 904 93 from by rw [eU42]; exact Xi_ne (by omega)))))
      rw [w347]
      refine y_baloadP (n := 1700) rfl rfl rfl (by decide) (by unfold rg; omega) (fun w348 w349 => ?_)
      have v353 := xi_of e344 (by unfold rg; omega)
      refine y_if_eq rfl rfl (by unfold rg; omega) (fun w350 => ?_) (fun w351 => ?_)
      · exfalso; omega
      · refine y_aload_n rfl rfl ?_
        have w352 : Xi U48 904 65 = Xi T43 904 65 := (show Xi U48 904 65 = Xi U44 904 65 from by rw [eU48]; exact Xi_ne (by omega)).trans ((show Xi U44 904 65 = Xi T43 904 65 from by rw [eU44]; exact Xi_ne (by omega)))
        have w353 : Xi U48 904 69 = Xi T43 904 69 := (show Xi U48 904 69 = Xi U44 904 69 from by rw [eU48]; exact Xi_ne (by omega)).trans ((show Xi U44 904 69 = Xi T43 904 69 from by rw [eU44]; exact Xi_ne (by omega)))
        have w354 : Xi U48 904 8 = Xi T43 904 8 := (show Xi U48 904 8 = Xi U44 904 8 from by rw [eU48]; exact Xi_ne (by omega)).trans ((show Xi U44 904 8 = Xi T43 904 8 from by rw [eU44]; exact Xi_ne (by omega)))
        have w355 : Xi U48 904 93 = Xi T41 904 93 := (show Xi U48 904 93 = Xi U44 904 93 from by rw [eU48]; exact Xi_ne (by omega)).trans ( (show Xi U44 904 93 = Xi T43 904 93 from by rw [eU44]; exact Xi_ne (by omega)).trans ( (show Xi T43 904 93 = Xi U42 904 93 from w302.x _ _ rfl).trans ((show Xi U42 904 93 = Xi T41 904 93 from by rw [eU42]; exact Xi_ne (by omega)))))
        have w356 : Xi U48 904 98 = Xi T41 904 98 := (show Xi U48 904 98 = Xi U44 904 98 from by rw [eU48]; exact Xi_ne (by omega)).trans ( (show Xi U44 904 98 = Xi T43 904 98 from by rw [eU44]; exact Xi_ne (by omega)).trans ( (show Xi T43 904 98 = Xi U42 904 98 from w302.x _ _ rfl).trans ((show Xi U42 904 98 = Xi T41 904 98 from by rw [eU42]; exact Xi_ne (by omega)))))
        refine y_callV rfl rfl rfl (t_mo_thingOfTest__t hHU48 _) ?_
        rintro _ T49 ⟨hHT49, w358, rfl, t358, k358, q358⟩
        have hFT49 : FR md_mo_phrase__t S T49 := FR.tr hFU48 w358 rfl
        show Pl _ _ _ _ _ _ [] _ _
        have F358 := (by assumption : FR md_mo_thingOfTest__t U48 T49)
        have T358_ := t358
        rw [tkR_F7 hFU48 rfl] at T358_
        rw [show Xi U48 904 93 = Xi S 904 93 by omega] at T358_
        clear t358
        refine y_aload_n rfl rfl ?_
        refine y_dup rfl rfl ?_
        refine y_gfi rfl rfl rfl rfl rfl ?_
        have w359 : (Xi T49 904 93) = (Xi T41 904 93) := (show Xi T49 904 93 = Xi U48 904 93 from w358.x _ _ rfl).trans ( (show Xi U48 904 93 = Xi U44 904 93 from by rw [eU48]; exact Xi_ne (by omega)).trans ( (show Xi U44 904 93 = Xi T43 904 93 from by rw [eU44]; exact Xi_ne (by omega)).trans ( (show Xi T43 904 93 = Xi U42 904 93 from w302.x _ _ rfl).trans ((show Xi U42 904 93 = Xi T41 904 93 from by rw [eU42]; exact Xi_ne (by omega))))))
        rw [w359]
        refine y_iconst rfl ?_
        refine y_iadd rfl ?_
        refine y_pfi rfl rfl rfl rfl ?_
        obtain ⟨U50, eU50⟩ : ∃ T : sS, T = uI T49 904 93 (Int32.ofInt ((Xi T41 904 93) + 1)) := ⟨_, rfl⟩
        rw [← eU50]
        have hHU50 : RI U50 := by rw [eU50]; exact RI_w hHT49
        have hFU50 : FR md_mo_phrase__t S U50 := by rw [eU50]; exact FR.wI hFT49 (mdf_i (r := (904, 905, 93, 94)) (List.mem_of_getElem? (i := 5) rfl) (inR_i (by omega) (by omega) (by omega) (by omega)))
        have w360 : Xi U50 904 93 = ((Xi T41 904 93) + 1) := by rw [eU50]; exact Xi_same (by unfold rg; omega)
        have e368 := eU50
        have M368 : Hid (PMID S U50) := by first | (have u := F358; exact pm_try2 Q344 ⟨h93, h98⟩ (by rw [x344.1, x344.2]; exact K339.o) T358_ F358 k358 q358 e368 ⟨by omega, by omega⟩) | exact pm_try3 Q344 ⟨h93, h98⟩ (by rw [x344.1, x344.2]; exact K343.o) e368 ⟨by omega, by omega⟩
        refine y_goto rfl rfl ?_
        have w361 : Xi U50 904 65 = Xi T49 904 65 := (show Xi U50 904 65 = Xi T49 904 65 from by rw [eU50]; exact Xi_ne (by omega))
        have w362 : Xi U50 904 69 = Xi T49 904 69 := (show Xi U50 904 69 = Xi T49 904 69 from by rw [eU50]; exact Xi_ne (by omega))
        have w363 : Xi U50 904 8 = Xi T49 904 8 := (show Xi U50 904 8 = Xi T49 904 8 from by rw [eU50]; exact Xi_ne (by omega))
        have w364 : Xi U50 904 98 = Xi T41 904 98 := (show Xi U50 904 98 = Xi T49 904 98 from by rw [eU50]; exact Xi_ne (by omega)).trans ( (show Xi T49 904 98 = Xi U48 904 98 from w358.x _ _ rfl).trans ( (show Xi U48 904 98 = Xi U44 904 98 from by rw [eU48]; exact Xi_ne (by omega)).trans ( (show Xi U44 904 98 = Xi T43 904 98 from by rw [eU44]; exact Xi_ne (by omega)).trans ( (show Xi T43 904 98 = Xi U42 904 98 from w302.x _ _ rfl).trans ((show Xi U42 904 98 = Xi T41 904 98 from by rw [eU42]; exact Xi_ne (by omega)))))))
        exact Pl_weak (C409 U50 hHU50 hFU50  (by first | exact M128 | exact M143 | exact M212 | exact M275 | exact M368 | exact M389 | exact M406) (by omega)) (by omega) (And.intro rfl (True.intro))
    · refine y_aload_n rfl rfl ?_
      refine y_callV rfl rfl rfl (t_mo_look__t hHU44 _) ?_
      rintro _ _ ⟨rfl, z370, rfl, w370, t330⟩
      show Pl _ _ _ _ _ _ [iv z370, iv (Xi T41 904 93), .ref 953] _ _
      have T330 := t330
      rw [tkR_F7 hFU44 rfl] at T330
      clear t330
      refine y_callS rfl rfl (by decide) rfl (t_mo_isArt__p hHU44 z370 ⟨by omega, by omega⟩ _) ?_
      rintro _ _ ⟨rfl, z376, rfl, w376, q333, n333⟩
      show Pl _ _ _ _ _ _ [iv z376, iv (Xi T41 904 93), .ref 953] _ _
      refine y_if_eq rfl rfl (by unfold rg; omega) (fun w377 => ?_) (fun w378 => ?_)
      · refine y_iconst rfl ?_
        have K343 : Hid (Xi U44 904 65 = 0 → ¬ (tkR S (Xi U44 904 8) = 154 ∨ tkR S (Xi U44 904 8) = 153 ∨ (100 ≤ tkR S (Xi U44 904 8) ∧ tkR S (Xi U44 904 8) ≤ 103))) := fun b => by have u := T330.1 b; have a := T323.2 (by omega); have c := T313.2 (by omega); rw [← u.1] at a c ⊢; omega
        refine y_bastoreZP (n := 1700) rfl rfl (by unfold rg; omega) ⟨by omega, by omega⟩ (fun w379 w380 => ?_)
        obtain ⟨U51, eU51⟩ : ∃ T : sS, T = uI U44 953 (((Xi T41 904 93)).toNat) (Int32.ofInt 0) := ⟨_, rfl⟩
        rw [← eU51]
        have hHU51 : RI U51 := by rw [eU51]; exact RI_w hHU44
        have hFU51 : FR md_mo_phrase__t S U51 := by rw [eU51]; exact FR.wI hFU44 (mdf_i (r := (953, 954, 0, 100000)) (List.mem_of_getElem? (i := 13) rfl) (inR_i (by omega) (by omega) (by omega) (by omega)))
        have w381 : Xi U51 953 (((Xi T41 904 93)).toNat) = 0 := by rw [eU51]; exact Xi_same (by unfold rg; omega)
        have e344 := uix (j := Xi S 904 93) eU51 (by omega)
        have Q344 := pm_try1 P281_.o ⟨h93, h98⟩ e287 T297_ F297 k297 (by unfold rg; omega) e300 e344 (by omega)
        have x344 : Xi U51 904 8 = Xi U44 904 8 ∧ Xi U51 904 65 = Xi U44 904 65 := ⟨by rw [e344, Xi_ne (by omega)], by rw [e344, Xi_ne (by omega)]⟩
        refine y_aload_n rfl rfl ?_
        refine y_gfr rfl rfl rfl rfl rfl (hHU51.r 904 83 953 rfl) ?_
        refine y_aload_n rfl rfl ?_
        refine y_gfi rfl rfl rfl rfl rfl ?_
        have w382 : (Xi U51 904 93) = (Xi T41 904 93) := (show Xi U51 904 93 = Xi U44 904 93 from by rw [eU51]; exact Xi_ne (by omega)).trans ( (show Xi U44 904 93 = Xi T43 904 93 from by rw [eU44]; exact Xi_ne (by omega)).trans ( (show Xi T43 904 93 = Xi U42 904 93 from w302.x _ _ rfl).trans ((show Xi U42 904 93 = Xi T41 904 93 from by rw [eU42]; exact Xi_ne (by omega)))))
        rw [w382]
        refine y_baloadP (n := 1700) rfl rfl rfl (by decide) (by unfold rg; omega) (fun w383 w384 => ?_)
        have v353 := xi_of e344 (by unfold rg; omega)
        refine y_if_eq rfl rfl (by unfold rg; omega) (fun w385 => ?_) (fun w386 => ?_)
        · refine y_aload_n rfl rfl ?_
          refine y_dup rfl rfl ?_
          refine y_gfi rfl rfl rfl rfl rfl ?_
          have w387 : (Xi U51 904 93) = (Xi T41 904 93) := (show Xi U51 904 93 = Xi U44 904 93 from by rw [eU51]; exact Xi_ne (by omega)).trans ( (show Xi U44 904 93 = Xi T43 904 93 from by rw [eU44]; exact Xi_ne (by omega)).trans ( (show Xi T43 904 93 = Xi U42 904 93 from w302.x _ _ rfl).trans ((show Xi U42 904 93 = Xi T41 904 93 from by rw [eU42]; exact Xi_ne (by omega)))))
          rw [w387]
          refine y_iconst rfl ?_
          refine y_iadd rfl ?_
          refine y_pfi rfl rfl rfl rfl ?_
          obtain ⟨U52, eU52⟩ : ∃ T : sS, T = uI U51 904 93 (Int32.ofInt ((Xi T41 904 93) + 1)) := ⟨_, rfl⟩
          rw [← eU52]
          have hHU52 : RI U52 := by rw [eU52]; exact RI_w hHU51
          have hFU52 : FR md_mo_phrase__t S U52 := by rw [eU52]; exact FR.wI hFU51 (mdf_i (r := (904, 905, 93, 94)) (List.mem_of_getElem? (i := 5) rfl) (inR_i (by omega) (by omega) (by omega) (by omega)))
          have w388 : Xi U52 904 93 = ((Xi T41 904 93) + 1) := by rw [eU52]; exact Xi_same (by unfold rg; omega)
          have e368 := eU52
          have M368 : Hid (PMID S U52) := by first | (have u := F358; exact pm_try2 Q344 ⟨h93, h98⟩ (by rw [x344.1, x344.2]; exact K339.o) T358_ F358 k358 q358 e368 ⟨by omega, by omega⟩) | exact pm_try3 Q344 ⟨h93, h98⟩ (by rw [x344.1, x344.2]; exact K343.o) e368 ⟨by omega, by omega⟩
          refine y_goto rfl rfl ?_
          have w389 : Xi U52 904 65 = Xi T43 904 65 := (show Xi U52 904 65 = Xi U51 904 65 from by rw [eU52]; exact Xi_ne (by omega)).trans ( (show Xi U51 904 65 = Xi U44 904 65 from by rw [eU51]; exact Xi_ne (by omega)).trans ((show Xi U44 904 65 = Xi T43 904 65 from by rw [eU44]; exact Xi_ne (by omega))))
          have w390 : Xi U52 904 69 = Xi T43 904 69 := (show Xi U52 904 69 = Xi U51 904 69 from by rw [eU52]; exact Xi_ne (by omega)).trans ( (show Xi U51 904 69 = Xi U44 904 69 from by rw [eU51]; exact Xi_ne (by omega)).trans ((show Xi U44 904 69 = Xi T43 904 69 from by rw [eU44]; exact Xi_ne (by omega))))
          have w391 : Xi U52 904 8 = Xi T43 904 8 := (show Xi U52 904 8 = Xi U51 904 8 from by rw [eU52]; exact Xi_ne (by omega)).trans ( (show Xi U51 904 8 = Xi U44 904 8 from by rw [eU51]; exact Xi_ne (by omega)).trans ((show Xi U44 904 8 = Xi T43 904 8 from by rw [eU44]; exact Xi_ne (by omega))))
          have w392 : Xi U52 904 98 = Xi T41 904 98 := (show Xi U52 904 98 = Xi U51 904 98 from by rw [eU52]; exact Xi_ne (by omega)).trans ( (show Xi U51 904 98 = Xi U44 904 98 from by rw [eU51]; exact Xi_ne (by omega)).trans ( (show Xi U44 904 98 = Xi T43 904 98 from by rw [eU44]; exact Xi_ne (by omega)).trans ( (show Xi T43 904 98 = Xi U42 904 98 from w302.x _ _ rfl).trans ((show Xi U42 904 98 = Xi T41 904 98 from by rw [eU42]; exact Xi_ne (by omega))))))
          exact Pl_weak (C409 U52 hHU52 hFU52  (by first | exact M128 | exact M143 | exact M212 | exact M275 | exact M368 | exact M389 | exact M406) (by omega)) (by omega) (And.intro rfl (True.intro))
        · exfalso; omega
      · refine y_iconst rfl ?_
        have K339 : Hid (Xi U44 904 65 = 0 → tkR S (Xi U44 904 8) = 154 ∨ tkR S (Xi U44 904 8) = 153 ∨ (100 ≤ tkR S (Xi U44 904 8) ∧ tkR S (Xi U44 904 8) ≤ 103)) := fun b => by first | (have u := T330.1 b; exact Or.inr (Or.inr (by rw [← u.1]; omega))) | (have u := T323.1 (by omega); exact Or.inr (Or.inl u.2.1)) | (have u := T313.1 (by omega); exact Or.inl u.2.1)
        refine y_goto rfl rfl ?_
        refine y_bastoreZP (n := 1700) rfl rfl (by unfold rg; omega) ⟨by omega, by omega⟩ (fun w393 w394 => ?_)
        obtain ⟨U53, eU53⟩ : ∃ T : sS, T = uI U44 953 (((Xi T41 904 93)).toNat) (Int32.ofInt 1) := ⟨_, rfl⟩
        rw [← eU53]
        have hHU53 : RI U53 := by rw [eU53]; exact RI_w hHU44
        have hFU53 : FR md_mo_phrase__t S U53 := by rw [eU53]; exact FR.wI hFU44 (mdf_i (r := (953, 954, 0, 100000)) (List.mem_of_getElem? (i := 13) rfl) (inR_i (by omega) (by omega) (by omega) (by omega)))
        have w395 : Xi U53 953 (((Xi T41 904 93)).toNat) = 1 := by rw [eU53]; exact Xi_same (by unfold rg; omega)
        have e344 := uix (j := Xi S 904 93) eU53 (by omega)
        have Q344 := pm_try1 P281_.o ⟨h93, h98⟩ e287 T297_ F297 k297 (by unfold rg; omega) e300 e344 (by omega)
        have x344 : Xi U53 904 8 = Xi U44 904 8 ∧ Xi U53 904 65 = Xi U44 904 65 := ⟨by rw [e344, Xi_ne (by omega)], by rw [e344, Xi_ne (by omega)]⟩
        refine y_aload_n rfl rfl ?_
        refine y_gfr rfl rfl rfl rfl rfl (hHU53.r 904 83 953 rfl) ?_
        refine y_aload_n rfl rfl ?_
        refine y_gfi rfl rfl rfl rfl rfl ?_
        have w396 : (Xi U53 904 93) = (Xi T41 904 93) := (show Xi U53 904 93 = Xi U44 904 93 from by rw [eU53]; exact Xi_ne (by omega)).trans ( (show Xi U44 904 93 = Xi T43 904 93 from by rw [eU44]; exact Xi_ne (by omega)).trans ( (show Xi T43 904 93 = Xi U42 904 93 from w302.x _ _ rfl).trans ((show Xi U42 904 93 = Xi T41 904 93 from by rw [eU42]; exact Xi_ne (by omega)))))
        rw [w396]
        refine y_baloadP (n := 1700) rfl rfl rfl (by decide) (by unfold rg; omega) (fun w397 w398 => ?_)
        have v353 := xi_of e344 (by unfold rg; omega)
        refine y_if_eq rfl rfl (by unfold rg; omega) (fun w399 => ?_) (fun w400 => ?_)
        · exfalso; omega
        · refine y_aload_n rfl rfl ?_
          have w401 : Xi U53 904 65 = Xi T43 904 65 := (show Xi U53 904 65 = Xi U44 904 65 from by rw [eU53]; exact Xi_ne (by omega)).trans ((show Xi U44 904 65 = Xi T43 904 65 from by rw [eU44]; exact Xi_ne (by omega)))
          have w402 : Xi U53 904 69 = Xi T43 904 69 := (show Xi U53 904 69 = Xi U44 904 69 from by rw [eU53]; exact Xi_ne (by omega)).trans ((show Xi U44 904 69 = Xi T43 904 69 from by rw [eU44]; exact Xi_ne (by omega)))
          have w403 : Xi U53 904 8 = Xi T43 904 8 := (show Xi U53 904 8 = Xi U44 904 8 from by rw [eU53]; exact Xi_ne (by omega)).trans ((show Xi U44 904 8 = Xi T43 904 8 from by rw [eU44]; exact Xi_ne (by omega)))
          have w404 : Xi U53 904 93 = Xi T41 904 93 := (show Xi U53 904 93 = Xi U44 904 93 from by rw [eU53]; exact Xi_ne (by omega)).trans ( (show Xi U44 904 93 = Xi T43 904 93 from by rw [eU44]; exact Xi_ne (by omega)).trans ( (show Xi T43 904 93 = Xi U42 904 93 from w302.x _ _ rfl).trans ((show Xi U42 904 93 = Xi T41 904 93 from by rw [eU42]; exact Xi_ne (by omega)))))
          have w405 : Xi U53 904 98 = Xi T41 904 98 := (show Xi U53 904 98 = Xi U44 904 98 from by rw [eU53]; exact Xi_ne (by omega)).trans ( (show Xi U44 904 98 = Xi T43 904 98 from by rw [eU44]; exact Xi_ne (by omega)).trans ( (show Xi T43 904 98 = Xi U42 904 98 from w302.x _ _ rfl).trans ((show Xi U42 904 98 = Xi T41 904 98 from by rw [eU42]; exact Xi_ne (by omega)))))
          refine y_callV rfl rfl rfl (t_mo_thingOfTest__t hHU53 _) ?_
          rintro _ T54 ⟨hHT54, w407, rfl, t358, k358, q358⟩
          have hFT54 : FR md_mo_phrase__t S T54 := FR.tr hFU53 w407 rfl
          show Pl _ _ _ _ _ _ [] _ _
          have F358 := (by assumption : FR md_mo_thingOfTest__t U53 T54)
          have T358_ := t358
          rw [tkR_F7 hFU53 rfl] at T358_
          rw [show Xi U53 904 93 = Xi S 904 93 by omega] at T358_
          clear t358
          refine y_aload_n rfl rfl ?_
          refine y_dup rfl rfl ?_
          refine y_gfi rfl rfl rfl rfl rfl ?_
          have w408 : (Xi T54 904 93) = (Xi T41 904 93) := (show Xi T54 904 93 = Xi U53 904 93 from w407.x _ _ rfl).trans ( (show Xi U53 904 93 = Xi U44 904 93 from by rw [eU53]; exact Xi_ne (by omega)).trans ( (show Xi U44 904 93 = Xi T43 904 93 from by rw [eU44]; exact Xi_ne (by omega)).trans ( (show Xi T43 904 93 = Xi U42 904 93 from w302.x _ _ rfl).trans ((show Xi U42 904 93 = Xi T41 904 93 from by rw [eU42]; exact Xi_ne (by omega))))))
          rw [w408]
          refine y_iconst rfl ?_
          refine y_iadd rfl ?_
          refine y_pfi rfl rfl rfl rfl ?_
          obtain ⟨U55, eU55⟩ : ∃ T : sS, T = uI T54 904 93 (Int32.ofInt ((Xi T41 904 93) + 1)) := ⟨_, rfl⟩
          rw [← eU55]
          have hHU55 : RI U55 := by rw [eU55]; exact RI_w hHT54
          have hFU55 : FR md_mo_phrase__t S U55 := by rw [eU55]; exact FR.wI hFT54 (mdf_i (r := (904, 905, 93, 94)) (List.mem_of_getElem? (i := 5) rfl) (inR_i (by omega) (by omega) (by omega) (by omega)))
          have w409 : Xi U55 904 93 = ((Xi T41 904 93) + 1) := by rw [eU55]; exact Xi_same (by unfold rg; omega)
          have e368 := eU55
          have M368 : Hid (PMID S U55) := by first | (have u := F358; exact pm_try2 Q344 ⟨h93, h98⟩ (by rw [x344.1, x344.2]; exact K339.o) T358_ F358 k358 q358 e368 ⟨by omega, by omega⟩) | exact pm_try3 Q344 ⟨h93, h98⟩ (by rw [x344.1, x344.2]; exact K343.o) e368 ⟨by omega, by omega⟩
          refine y_goto rfl rfl ?_
          have w410 : Xi U55 904 65 = Xi T54 904 65 := (show Xi U55 904 65 = Xi T54 904 65 from by rw [eU55]; exact Xi_ne (by omega))
          have w411 : Xi U55 904 69 = Xi T54 904 69 := (show Xi U55 904 69 = Xi T54 904 69 from by rw [eU55]; exact Xi_ne (by omega))
          have w412 : Xi U55 904 8 = Xi T54 904 8 := (show Xi U55 904 8 = Xi T54 904 8 from by rw [eU55]; exact Xi_ne (by omega))
          have w413 : Xi U55 904 98 = Xi T41 904 98 := (show Xi U55 904 98 = Xi T54 904 98 from by rw [eU55]; exact Xi_ne (by omega)).trans ( (show Xi T54 904 98 = Xi U53 904 98 from w407.x _ _ rfl).trans ( (show Xi U53 904 98 = Xi U44 904 98 from by rw [eU53]; exact Xi_ne (by omega)).trans ( (show Xi U44 904 98 = Xi T43 904 98 from by rw [eU44]; exact Xi_ne (by omega)).trans ( (show Xi T43 904 98 = Xi U42 904 98 from w302.x _ _ rfl).trans ((show Xi U42 904 98 = Xi T41 904 98 from by rw [eU42]; exact Xi_ne (by omega)))))))
          exact Pl_weak (C409 U55 hHU55 hFU55  (by first | exact M128 | exact M143 | exact M212 | exact M275 | exact M368 | exact M389 | exact M406) (by omega)) (by omega) (And.intro rfl (True.intro))
set_option maxRecDepth 100000 in
set_option maxHeartbeats 4000000 in
theorem t_mo_phrase__t {S : sS} (hH : RI S) (h69 : 0 ≤ Xi S 904 69) (h93 : 0 ≤ Xi S 904 93) (h98 : 0 ≤ Xi S 904 98) (d : Nat) : Mp lay0 (d + 7) m_mo_phrase [.ref 904] S (Q_mo_phrase__t S) := by
  refine Mp_R rfl rfl (fun fu => ?_)
  have C409 := c409_mo_phrase__t hH h69 h93 h98 d  fu
  have C395 := c395_mo_phrase__t hH h69 h93 h98 d  fu
  have C96 := c96_mo_phrase__t hH h69 h93 h98 d  fu
  have C134 := c134_mo_phrase__t hH h69 h93 h98 d  fu
  have C149 := c149_mo_phrase__t hH h69 h93 h98 d  fu
  have C218 := c218_mo_phrase__t hH h69 h93 h98 d  fu
  have C374 := c374_mo_phrase__t hH h69 h93 h98 d  fu
  have C281 := c281_mo_phrase__t hH h69 h93 h98 d  fu
  have hF : FR md_mo_phrase__t S S := FR.rf
  have w1 : -2147483648 ≤ Xi S 904 65 ∧ Xi S 904 65 ≤ 2147483647 := Xi_rgI
  have w2 : -2147483648 ≤ Xi S 904 69 ∧ Xi S 904 69 ≤ 2147483647 := Xi_rgI
  have w3 : -2147483648 ≤ Xi S 904 8 ∧ Xi S 904 8 ≤ 2147483647 := Xi_rgI
  have w4 : -2147483648 ≤ Xi S 904 93 ∧ Xi S 904 93 ≤ 2147483647 := Xi_rgI
  have w5 : -2147483648 ≤ Xi S 904 98 ∧ Xi S 904 98 ≤ 2147483647 := Xi_rgI
  refine y_aload_n rfl rfl ?_
  refine y_gfi rfl rfl rfl rfl rfl ?_
  refine y_istore_n rfl rfl rfl ?_
  refine y_aload_n rfl rfl ?_
  refine y_gfr rfl rfl rfl rfl rfl (hH.r 904 97 965 rfl) ?_
  refine y_iload_n rfl rfl ?_
  refine y_aload_n rfl rfl ?_
  refine y_gfi rfl rfl rfl rfl rfl ?_
  refine y_iastoreP (n := 1700) rfl rfl (by unfold rg; omega) (fun w414 w415 => ?_)
  obtain ⟨U56, eU56⟩ : ∃ T : sS, T = uI S 965 (((Xi S 904 98)).toNat) (Int32.ofInt (Xi S 904 8)) := ⟨_, rfl⟩
  rw [← eU56]
  have hHU56 : RI U56 := by rw [eU56]; exact RI_w hH
  have hFU56 : FR md_mo_phrase__t S U56 := by rw [eU56]; exact FR.wI hF (mdf_i (r := (965, 966, 0, 100000)) (List.mem_of_getElem? (i := 25) rfl) (inR_i (by omega) (by omega) (by omega) (by omega)))
  have w416 : Xi U56 965 (((Xi S 904 98)).toNat) = (Xi S 904 8) := by rw [eU56]; exact Xi_same (by unfold rg; omega)
  have e14 := eU56
  refine y_aload_n rfl rfl ?_
  refine y_gfr rfl rfl rfl rfl rfl (hHU56.r 904 96 964 rfl) ?_
  refine y_iload_n rfl rfl ?_
  refine y_aload_n rfl rfl ?_
  refine y_gfi rfl rfl rfl rfl rfl ?_
  have w417 : (Xi U56 904 93) = (Xi S 904 93) := (show Xi U56 904 93 = Xi S 904 93 from by rw [eU56]; exact Xi_ne (by omega))
  rw [w417]
  refine y_iastoreP (n := 1700) rfl rfl (by unfold rg; omega) (fun w418 w419 => ?_)
  obtain ⟨U57, eU57⟩ : ∃ T : sS, T = uI U56 964 (((Xi S 904 98)).toNat) (Int32.ofInt (Xi S 904 93)) := ⟨_, rfl⟩
  rw [← eU57]
  have hHU57 : RI U57 := by rw [eU57]; exact RI_w hHU56
  have hFU57 : FR md_mo_phrase__t S U57 := by rw [eU57]; exact FR.wI hFU56 (mdf_i (r := (964, 965, 0, 100000)) (List.mem_of_getElem? (i := 24) rfl) (inR_i (by omega) (by omega) (by omega) (by omega)))
  have w420 : Xi U57 964 (((Xi S 904 98)).toNat) = (Xi S 904 93) := by rw [eU57]; exact Xi_same (by unfold rg; omega)
  have e24 := eU57
  refine y_aload_n rfl rfl ?_
  refine y_gfr rfl rfl rfl rfl rfl (hHU57.r 904 91 961 rfl) ?_
  refine y_aload_n rfl rfl ?_
  refine y_gfi rfl rfl rfl rfl rfl ?_
  have w421 : (Xi U57 904 93) = (Xi S 904 93) := (show Xi U57 904 93 = Xi U56 904 93 from by rw [eU57]; exact Xi_ne (by omega)).trans ((show Xi U56 904 93 = Xi S 904 93 from by rw [eU56]; exact Xi_ne (by omega)))
  rw [w421]
  refine y_aload_n rfl rfl ?_
  refine y_gfi rfl rfl rfl rfl rfl ?_
  have w422 : (Xi U57 904 8) = (Xi S 904 8) := (show Xi U57 904 8 = Xi U56 904 8 from by rw [eU57]; exact Xi_ne (by omega)).trans ((show Xi U56 904 8 = Xi S 904 8 from by rw [eU56]; exact Xi_ne (by omega)))
  rw [w422]
  refine y_iastoreP (n := 1700) rfl rfl (by unfold rg; omega) (fun w423 w424 => ?_)
  obtain ⟨U58, eU58⟩ : ∃ T : sS, T = uI U57 961 (((Xi S 904 93)).toNat) (Int32.ofInt (Xi S 904 8)) := ⟨_, rfl⟩
  rw [← eU58]
  have hHU58 : RI U58 := by rw [eU58]; exact RI_w hHU57
  have hFU58 : FR md_mo_phrase__t S U58 := by rw [eU58]; exact FR.wI hFU57 (mdf_i (r := (961, 962, 0, 100000)) (List.mem_of_getElem? (i := 21) rfl) (inR_i (by omega) (by omega) (by omega) (by omega)))
  have w425 : Xi U58 961 (((Xi S 904 93)).toNat) = (Xi S 904 8) := by rw [eU58]; exact Xi_same (by unfold rg; omega)
  have e37 := eU58
  have c65 : Xi U58 904 65 = Xi S 904 65 := by rw [e37, Xi_ne (by omega), e24, Xi_ne (by omega), e14, Xi_ne (by omega)]
  have c8 : Xi U58 904 8 = Xi S 904 8 := by rw [e37, Xi_ne (by omega), e24, Xi_ne (by omega), e14, Xi_ne (by omega)]
  refine y_aload_n rfl rfl ?_
  have w426 : Xi U58 904 65 = Xi S 904 65 := (show Xi U58 904 65 = Xi U57 904 65 from by rw [eU58]; exact Xi_ne (by omega)).trans ( (show Xi U57 904 65 = Xi U56 904 65 from by rw [eU57]; exact Xi_ne (by omega)).trans ((show Xi U56 904 65 = Xi S 904 65 from by rw [eU56]; exact Xi_ne (by omega))))
  have w427 : Xi U58 904 69 = Xi S 904 69 := (show Xi U58 904 69 = Xi U57 904 69 from by rw [eU58]; exact Xi_ne (by omega)).trans ( (show Xi U57 904 69 = Xi U56 904 69 from by rw [eU57]; exact Xi_ne (by omega)).trans ((show Xi U56 904 69 = Xi S 904 69 from by rw [eU56]; exact Xi_ne (by omega))))
  have w428 : Xi U58 904 8 = Xi S 904 8 := (show Xi U58 904 8 = Xi U57 904 8 from by rw [eU58]; exact Xi_ne (by omega)).trans ( (show Xi U57 904 8 = Xi U56 904 8 from by rw [eU57]; exact Xi_ne (by omega)).trans ((show Xi U56 904 8 = Xi S 904 8 from by rw [eU56]; exact Xi_ne (by omega))))
  have w429 : Xi U58 904 93 = Xi S 904 93 := (show Xi U58 904 93 = Xi U57 904 93 from by rw [eU58]; exact Xi_ne (by omega)).trans ( (show Xi U57 904 93 = Xi U56 904 93 from by rw [eU57]; exact Xi_ne (by omega)).trans ((show Xi U56 904 93 = Xi S 904 93 from by rw [eU56]; exact Xi_ne (by omega))))
  have w430 : Xi U58 904 98 = Xi S 904 98 := (show Xi U58 904 98 = Xi U57 904 98 from by rw [eU58]; exact Xi_ne (by omega)).trans ( (show Xi U57 904 98 = Xi U56 904 98 from by rw [eU57]; exact Xi_ne (by omega)).trans ((show Xi U56 904 98 = Xi S 904 98 from by rw [eU56]; exact Xi_ne (by omega))))
  refine y_callV rfl rfl rfl (t_mo_look__t hHU58 _) ?_
  rintro _ _ ⟨rfl, z431, rfl, w431, t39⟩
  show Pl _ _ _ _ _ _ [iv z431] _ _
  have T39 := t39
  rw [tkR_F7 hFU58 rfl, c65, c8] at T39
  clear t39
  refine y_istore_n rfl rfl rfl ?_
  refine y_aload_n rfl rfl ?_
  refine y_dup rfl rfl ?_
  refine y_gfi rfl rfl rfl rfl rfl ?_
  have w432 : (Xi U58 904 8) = (Xi S 904 8) := (show Xi U58 904 8 = Xi U57 904 8 from by rw [eU58]; exact Xi_ne (by omega)).trans ( (show Xi U57 904 8 = Xi U56 904 8 from by rw [eU57]; exact Xi_ne (by omega)).trans ((show Xi U56 904 8 = Xi S 904 8 from by rw [eU56]; exact Xi_ne (by omega))))
  rw [w432]
  refine y_iconst rfl ?_
  refine y_iadd rfl ?_
  refine y_pfi rfl rfl rfl rfl ?_
  obtain ⟨U59, eU59⟩ : ∃ T : sS, T = uI U58 904 8 (Int32.ofInt ((Xi S 904 8) + 1)) := ⟨_, rfl⟩
  rw [← eU59]
  have hHU59 : RI U59 := by rw [eU59]; exact RI_w hHU58
  have hFU59 : FR md_mo_phrase__t S U59 := by rw [eU59]; exact FR.wI hFU58 (mdf_i (r := (904, 905, 8, 9)) (List.mem_of_getElem? (i := 0) rfl) (inR_i (by omega) (by omega) (by omega) (by omega)))
  have e50 := eU59
  have B50 : Hid (PB0 S U59) := pb0_of ⟨h93, h98⟩ e14 e24 e37 (by first | rfl | omega) (by first | rfl | (rw [e14, Xi_ne (by omega)]) | omega) e50
  refine y_iload_n rfl rfl ?_
  refine y_tsw rfl rfl rfl rfl (by unfold rg; omega) (fun w433 => ?_) (fun ii tt hii w433 => ?_)
  · have w434 : Xi U59 904 65 = Xi S 904 65 := (show Xi U59 904 65 = Xi U58 904 65 from by rw [eU59]; exact Xi_ne (by omega)).trans ( (show Xi U58 904 65 = Xi U57 904 65 from by rw [eU58]; exact Xi_ne (by omega)).trans ( (show Xi U57 904 65 = Xi U56 904 65 from by rw [eU57]; exact Xi_ne (by omega)).trans ((show Xi U56 904 65 = Xi S 904 65 from by rw [eU56]; exact Xi_ne (by omega)))))
    have w435 : Xi U59 904 69 = Xi S 904 69 := (show Xi U59 904 69 = Xi U58 904 69 from by rw [eU59]; exact Xi_ne (by omega)).trans ( (show Xi U58 904 69 = Xi U57 904 69 from by rw [eU58]; exact Xi_ne (by omega)).trans ( (show Xi U57 904 69 = Xi U56 904 69 from by rw [eU57]; exact Xi_ne (by omega)).trans ((show Xi U56 904 69 = Xi S 904 69 from by rw [eU56]; exact Xi_ne (by omega)))))
    have w436 : Xi U59 904 93 = Xi S 904 93 := (show Xi U59 904 93 = Xi U58 904 93 from by rw [eU59]; exact Xi_ne (by omega)).trans ( (show Xi U58 904 93 = Xi U57 904 93 from by rw [eU58]; exact Xi_ne (by omega)).trans ( (show Xi U57 904 93 = Xi U56 904 93 from by rw [eU57]; exact Xi_ne (by omega)).trans ((show Xi U56 904 93 = Xi S 904 93 from by rw [eU56]; exact Xi_ne (by omega)))))
    have w437 : Xi U59 904 98 = Xi S 904 98 := (show Xi U59 904 98 = Xi U58 904 98 from by rw [eU59]; exact Xi_ne (by omega)).trans ( (show Xi U58 904 98 = Xi U57 904 98 from by rw [eU58]; exact Xi_ne (by omega)).trans ( (show Xi U57 904 98 = Xi U56 904 98 from by rw [eU57]; exact Xi_ne (by omega)).trans ((show Xi U56 904 98 = Xi S 904 98 from by rw [eU56]; exact Xi_ne (by omega)))))
    exact Pl_weak (C395 U59 hHU59 hFU59  (by omega) (by omega) (B50)) (by omega) (And.intro rfl (True.intro))
  · match ii, hii with
    | 0, hii =>
      cases hii
      have w438 : z431 = 143 := by simpa using w433
      have w439 : Xi U59 904 65 = Xi S 904 65 := (show Xi U59 904 65 = Xi U58 904 65 from by rw [eU59]; exact Xi_ne (by omega)).trans ( (show Xi U58 904 65 = Xi U57 904 65 from by rw [eU58]; exact Xi_ne (by omega)).trans ( (show Xi U57 904 65 = Xi U56 904 65 from by rw [eU57]; exact Xi_ne (by omega)).trans ((show Xi U56 904 65 = Xi S 904 65 from by rw [eU56]; exact Xi_ne (by omega)))))
      have w440 : Xi U59 904 69 = Xi S 904 69 := (show Xi U59 904 69 = Xi U58 904 69 from by rw [eU59]; exact Xi_ne (by omega)).trans ( (show Xi U58 904 69 = Xi U57 904 69 from by rw [eU58]; exact Xi_ne (by omega)).trans ( (show Xi U57 904 69 = Xi U56 904 69 from by rw [eU57]; exact Xi_ne (by omega)).trans ((show Xi U56 904 69 = Xi S 904 69 from by rw [eU56]; exact Xi_ne (by omega)))))
      have w441 : Xi U59 904 93 = Xi S 904 93 := (show Xi U59 904 93 = Xi U58 904 93 from by rw [eU59]; exact Xi_ne (by omega)).trans ( (show Xi U58 904 93 = Xi U57 904 93 from by rw [eU58]; exact Xi_ne (by omega)).trans ( (show Xi U57 904 93 = Xi U56 904 93 from by rw [eU57]; exact Xi_ne (by omega)).trans ((show Xi U56 904 93 = Xi S 904 93 from by rw [eU56]; exact Xi_ne (by omega)))))
      have w442 : Xi U59 904 98 = Xi S 904 98 := (show Xi U59 904 98 = Xi U58 904 98 from by rw [eU59]; exact Xi_ne (by omega)).trans ( (show Xi U58 904 98 = Xi U57 904 98 from by rw [eU58]; exact Xi_ne (by omega)).trans ( (show Xi U57 904 98 = Xi U56 904 98 from by rw [eU57]; exact Xi_ne (by omega)).trans ((show Xi U56 904 98 = Xi S 904 98 from by rw [eU56]; exact Xi_ne (by omega)))))
      exact Pl_weak (C96 U59 hHU59 hFU59 ((Xi S 904 98)) (by omega) (by omega) (by omega) (by omega) (by omega) (by omega) (by omega) (pbg_of B50.o c65 c8 T39 ⟨by omega, by omega⟩ e50 (by first | rfl | omega))) (by omega) (And.intro rfl (And.intro rfl (True.intro)))
    | 1, hii =>
      cases hii
      have w443 : z431 = 144 := by simpa using w433
      have w444 : Xi U59 904 65 = Xi S 904 65 := (show Xi U59 904 65 = Xi U58 904 65 from by rw [eU59]; exact Xi_ne (by omega)).trans ( (show Xi U58 904 65 = Xi U57 904 65 from by rw [eU58]; exact Xi_ne (by omega)).trans ( (show Xi U57 904 65 = Xi U56 904 65 from by rw [eU57]; exact Xi_ne (by omega)).trans ((show Xi U56 904 65 = Xi S 904 65 from by rw [eU56]; exact Xi_ne (by omega)))))
      have w445 : Xi U59 904 69 = Xi S 904 69 := (show Xi U59 904 69 = Xi U58 904 69 from by rw [eU59]; exact Xi_ne (by omega)).trans ( (show Xi U58 904 69 = Xi U57 904 69 from by rw [eU58]; exact Xi_ne (by omega)).trans ( (show Xi U57 904 69 = Xi U56 904 69 from by rw [eU57]; exact Xi_ne (by omega)).trans ((show Xi U56 904 69 = Xi S 904 69 from by rw [eU56]; exact Xi_ne (by omega)))))
      have w446 : Xi U59 904 93 = Xi S 904 93 := (show Xi U59 904 93 = Xi U58 904 93 from by rw [eU59]; exact Xi_ne (by omega)).trans ( (show Xi U58 904 93 = Xi U57 904 93 from by rw [eU58]; exact Xi_ne (by omega)).trans ( (show Xi U57 904 93 = Xi U56 904 93 from by rw [eU57]; exact Xi_ne (by omega)).trans ((show Xi U56 904 93 = Xi S 904 93 from by rw [eU56]; exact Xi_ne (by omega)))))
      have w447 : Xi U59 904 98 = Xi S 904 98 := (show Xi U59 904 98 = Xi U58 904 98 from by rw [eU59]; exact Xi_ne (by omega)).trans ( (show Xi U58 904 98 = Xi U57 904 98 from by rw [eU58]; exact Xi_ne (by omega)).trans ( (show Xi U57 904 98 = Xi U56 904 98 from by rw [eU57]; exact Xi_ne (by omega)).trans ((show Xi U56 904 98 = Xi S 904 98 from by rw [eU56]; exact Xi_ne (by omega)))))
      exact Pl_weak (C134 U59 hHU59 hFU59 ((Xi S 904 98)) (by omega) (by omega) (by omega) (by omega) (by omega) (by omega) (by omega) (pbg_of B50.o c65 c8 T39 ⟨by omega, by omega⟩ e50 (by first | rfl | omega))) (by omega) (And.intro rfl (And.intro rfl (True.intro)))
    | 2, hii =>
      cases hii
      have w448 : z431 = 145 := by simpa using w433
      have w449 : Xi U59 904 65 = Xi S 904 65 := (show Xi U59 904 65 = Xi U58 904 65 from by rw [eU59]; exact Xi_ne (by omega)).trans ( (show Xi U58 904 65 = Xi U57 904 65 from by rw [eU58]; exact Xi_ne (by omega)).trans ( (show Xi U57 904 65 = Xi U56 904 65 from by rw [eU57]; exact Xi_ne (by omega)).trans ((show Xi U56 904 65 = Xi S 904 65 from by rw [eU56]; exact Xi_ne (by omega)))))
      have w450 : Xi U59 904 69 = Xi S 904 69 := (show Xi U59 904 69 = Xi U58 904 69 from by rw [eU59]; exact Xi_ne (by omega)).trans ( (show Xi U58 904 69 = Xi U57 904 69 from by rw [eU58]; exact Xi_ne (by omega)).trans ( (show Xi U57 904 69 = Xi U56 904 69 from by rw [eU57]; exact Xi_ne (by omega)).trans ((show Xi U56 904 69 = Xi S 904 69 from by rw [eU56]; exact Xi_ne (by omega)))))
      have w451 : Xi U59 904 93 = Xi S 904 93 := (show Xi U59 904 93 = Xi U58 904 93 from by rw [eU59]; exact Xi_ne (by omega)).trans ( (show Xi U58 904 93 = Xi U57 904 93 from by rw [eU58]; exact Xi_ne (by omega)).trans ( (show Xi U57 904 93 = Xi U56 904 93 from by rw [eU57]; exact Xi_ne (by omega)).trans ((show Xi U56 904 93 = Xi S 904 93 from by rw [eU56]; exact Xi_ne (by omega)))))
      have w452 : Xi U59 904 98 = Xi S 904 98 := (show Xi U59 904 98 = Xi U58 904 98 from by rw [eU59]; exact Xi_ne (by omega)).trans ( (show Xi U58 904 98 = Xi U57 904 98 from by rw [eU58]; exact Xi_ne (by omega)).trans ( (show Xi U57 904 98 = Xi U56 904 98 from by rw [eU57]; exact Xi_ne (by omega)).trans ((show Xi U56 904 98 = Xi S 904 98 from by rw [eU56]; exact Xi_ne (by omega)))))
      exact Pl_weak (C149 U59 hHU59 hFU59 ((Xi S 904 98)) (by omega) (by omega) (by omega) (by omega) (by omega) (by omega) (by omega) (pbg_of B50.o c65 c8 T39 ⟨by omega, by omega⟩ e50 (by first | rfl | omega))) (by omega) (And.intro rfl (And.intro rfl (True.intro)))
    | 3, hii =>
      cases hii
      have w453 : z431 = 146 := by simpa using w433
      have w454 : Xi U59 904 65 = Xi S 904 65 := (show Xi U59 904 65 = Xi U58 904 65 from by rw [eU59]; exact Xi_ne (by omega)).trans ( (show Xi U58 904 65 = Xi U57 904 65 from by rw [eU58]; exact Xi_ne (by omega)).trans ( (show Xi U57 904 65 = Xi U56 904 65 from by rw [eU57]; exact Xi_ne (by omega)).trans ((show Xi U56 904 65 = Xi S 904 65 from by rw [eU56]; exact Xi_ne (by omega)))))
      have w455 : Xi U59 904 69 = Xi S 904 69 := (show Xi U59 904 69 = Xi U58 904 69 from by rw [eU59]; exact Xi_ne (by omega)).trans ( (show Xi U58 904 69 = Xi U57 904 69 from by rw [eU58]; exact Xi_ne (by omega)).trans ( (show Xi U57 904 69 = Xi U56 904 69 from by rw [eU57]; exact Xi_ne (by omega)).trans ((show Xi U56 904 69 = Xi S 904 69 from by rw [eU56]; exact Xi_ne (by omega)))))
      have w456 : Xi U59 904 93 = Xi S 904 93 := (show Xi U59 904 93 = Xi U58 904 93 from by rw [eU59]; exact Xi_ne (by omega)).trans ( (show Xi U58 904 93 = Xi U57 904 93 from by rw [eU58]; exact Xi_ne (by omega)).trans ( (show Xi U57 904 93 = Xi U56 904 93 from by rw [eU57]; exact Xi_ne (by omega)).trans ((show Xi U56 904 93 = Xi S 904 93 from by rw [eU56]; exact Xi_ne (by omega)))))
      have w457 : Xi U59 904 98 = Xi S 904 98 := (show Xi U59 904 98 = Xi U58 904 98 from by rw [eU59]; exact Xi_ne (by omega)).trans ( (show Xi U58 904 98 = Xi U57 904 98 from by rw [eU58]; exact Xi_ne (by omega)).trans ( (show Xi U57 904 98 = Xi U56 904 98 from by rw [eU57]; exact Xi_ne (by omega)).trans ((show Xi U56 904 98 = Xi S 904 98 from by rw [eU56]; exact Xi_ne (by omega)))))
      exact Pl_weak (C218 U59 hHU59 hFU59 ((Xi S 904 98)) (z431) (by omega) (by omega) (by omega) (by omega) (by omega) (by omega) (by omega) (by omega) (by omega) (pbg_of B50.o c65 c8 T39 ⟨by omega, by omega⟩ e50 (by first | rfl | omega))) (by omega) (And.intro rfl (And.intro rfl (And.intro rfl (True.intro))))
    | 4, hii =>
      cases hii
      have w458 : z431 = 147 := by simpa using w433
      have w459 : Xi U59 904 65 = Xi S 904 65 := (show Xi U59 904 65 = Xi U58 904 65 from by rw [eU59]; exact Xi_ne (by omega)).trans ( (show Xi U58 904 65 = Xi U57 904 65 from by rw [eU58]; exact Xi_ne (by omega)).trans ( (show Xi U57 904 65 = Xi U56 904 65 from by rw [eU57]; exact Xi_ne (by omega)).trans ((show Xi U56 904 65 = Xi S 904 65 from by rw [eU56]; exact Xi_ne (by omega)))))
      have w460 : Xi U59 904 69 = Xi S 904 69 := (show Xi U59 904 69 = Xi U58 904 69 from by rw [eU59]; exact Xi_ne (by omega)).trans ( (show Xi U58 904 69 = Xi U57 904 69 from by rw [eU58]; exact Xi_ne (by omega)).trans ( (show Xi U57 904 69 = Xi U56 904 69 from by rw [eU57]; exact Xi_ne (by omega)).trans ((show Xi U56 904 69 = Xi S 904 69 from by rw [eU56]; exact Xi_ne (by omega)))))
      have w461 : Xi U59 904 93 = Xi S 904 93 := (show Xi U59 904 93 = Xi U58 904 93 from by rw [eU59]; exact Xi_ne (by omega)).trans ( (show Xi U58 904 93 = Xi U57 904 93 from by rw [eU58]; exact Xi_ne (by omega)).trans ( (show Xi U57 904 93 = Xi U56 904 93 from by rw [eU57]; exact Xi_ne (by omega)).trans ((show Xi U56 904 93 = Xi S 904 93 from by rw [eU56]; exact Xi_ne (by omega)))))
      have w462 : Xi U59 904 98 = Xi S 904 98 := (show Xi U59 904 98 = Xi U58 904 98 from by rw [eU59]; exact Xi_ne (by omega)).trans ( (show Xi U58 904 98 = Xi U57 904 98 from by rw [eU58]; exact Xi_ne (by omega)).trans ( (show Xi U57 904 98 = Xi U56 904 98 from by rw [eU57]; exact Xi_ne (by omega)).trans ((show Xi U56 904 98 = Xi S 904 98 from by rw [eU56]; exact Xi_ne (by omega)))))
      exact Pl_weak (C218 U59 hHU59 hFU59 ((Xi S 904 98)) (z431) (by omega) (by omega) (by omega) (by omega) (by omega) (by omega) (by omega) (by omega) (by omega) (pbg_of B50.o c65 c8 T39 ⟨by omega, by omega⟩ e50 (by first | rfl | omega))) (by omega) (And.intro rfl (And.intro rfl (And.intro rfl (True.intro))))
    | 5, hii =>
      cases hii
      have w463 : z431 = 148 := by simpa using w433
      have w464 : Xi U59 904 65 = Xi S 904 65 := (show Xi U59 904 65 = Xi U58 904 65 from by rw [eU59]; exact Xi_ne (by omega)).trans ( (show Xi U58 904 65 = Xi U57 904 65 from by rw [eU58]; exact Xi_ne (by omega)).trans ( (show Xi U57 904 65 = Xi U56 904 65 from by rw [eU57]; exact Xi_ne (by omega)).trans ((show Xi U56 904 65 = Xi S 904 65 from by rw [eU56]; exact Xi_ne (by omega)))))
      have w465 : Xi U59 904 69 = Xi S 904 69 := (show Xi U59 904 69 = Xi U58 904 69 from by rw [eU59]; exact Xi_ne (by omega)).trans ( (show Xi U58 904 69 = Xi U57 904 69 from by rw [eU58]; exact Xi_ne (by omega)).trans ( (show Xi U57 904 69 = Xi U56 904 69 from by rw [eU57]; exact Xi_ne (by omega)).trans ((show Xi U56 904 69 = Xi S 904 69 from by rw [eU56]; exact Xi_ne (by omega)))))
      have w466 : Xi U59 904 93 = Xi S 904 93 := (show Xi U59 904 93 = Xi U58 904 93 from by rw [eU59]; exact Xi_ne (by omega)).trans ( (show Xi U58 904 93 = Xi U57 904 93 from by rw [eU58]; exact Xi_ne (by omega)).trans ( (show Xi U57 904 93 = Xi U56 904 93 from by rw [eU57]; exact Xi_ne (by omega)).trans ((show Xi U56 904 93 = Xi S 904 93 from by rw [eU56]; exact Xi_ne (by omega)))))
      have w467 : Xi U59 904 98 = Xi S 904 98 := (show Xi U59 904 98 = Xi U58 904 98 from by rw [eU59]; exact Xi_ne (by omega)).trans ( (show Xi U58 904 98 = Xi U57 904 98 from by rw [eU58]; exact Xi_ne (by omega)).trans ( (show Xi U57 904 98 = Xi U56 904 98 from by rw [eU57]; exact Xi_ne (by omega)).trans ((show Xi U56 904 98 = Xi S 904 98 from by rw [eU56]; exact Xi_ne (by omega)))))
      exact Pl_weak (C374 U59 hHU59 hFU59 ((Xi S 904 98)) (by omega) (by omega) (by omega) (by omega) (by omega) (by omega) (by omega) (pbg_of B50.o c65 c8 T39 ⟨by omega, by omega⟩ e50 (by first | rfl | omega))) (by omega) (And.intro rfl (And.intro rfl (True.intro)))
    | 6, hii =>
      cases hii
      have w468 : z431 = 149 := by simpa using w433
      have w469 : Xi U59 904 65 = Xi S 904 65 := (show Xi U59 904 65 = Xi U58 904 65 from by rw [eU59]; exact Xi_ne (by omega)).trans ( (show Xi U58 904 65 = Xi U57 904 65 from by rw [eU58]; exact Xi_ne (by omega)).trans ( (show Xi U57 904 65 = Xi U56 904 65 from by rw [eU57]; exact Xi_ne (by omega)).trans ((show Xi U56 904 65 = Xi S 904 65 from by rw [eU56]; exact Xi_ne (by omega)))))
      have w470 : Xi U59 904 69 = Xi S 904 69 := (show Xi U59 904 69 = Xi U58 904 69 from by rw [eU59]; exact Xi_ne (by omega)).trans ( (show Xi U58 904 69 = Xi U57 904 69 from by rw [eU58]; exact Xi_ne (by omega)).trans ( (show Xi U57 904 69 = Xi U56 904 69 from by rw [eU57]; exact Xi_ne (by omega)).trans ((show Xi U56 904 69 = Xi S 904 69 from by rw [eU56]; exact Xi_ne (by omega)))))
      have w471 : Xi U59 904 93 = Xi S 904 93 := (show Xi U59 904 93 = Xi U58 904 93 from by rw [eU59]; exact Xi_ne (by omega)).trans ( (show Xi U58 904 93 = Xi U57 904 93 from by rw [eU58]; exact Xi_ne (by omega)).trans ( (show Xi U57 904 93 = Xi U56 904 93 from by rw [eU57]; exact Xi_ne (by omega)).trans ((show Xi U56 904 93 = Xi S 904 93 from by rw [eU56]; exact Xi_ne (by omega)))))
      have w472 : Xi U59 904 98 = Xi S 904 98 := (show Xi U59 904 98 = Xi U58 904 98 from by rw [eU59]; exact Xi_ne (by omega)).trans ( (show Xi U58 904 98 = Xi U57 904 98 from by rw [eU58]; exact Xi_ne (by omega)).trans ( (show Xi U57 904 98 = Xi U56 904 98 from by rw [eU57]; exact Xi_ne (by omega)).trans ((show Xi U56 904 98 = Xi S 904 98 from by rw [eU56]; exact Xi_ne (by omega)))))
      exact Pl_weak (C281 U59 hHU59 hFU59 ((Xi S 904 98)) (by omega) (by omega) (by omega) (by omega) (by omega) (by omega) (by omega) (pbg_of B50.o c65 c8 T39 ⟨by omega, by omega⟩ e50 (by first | rfl | omega))) (by omega) (And.intro rfl (And.intro rfl (True.intro)))
    | n + 7, hii => exact absurd hii (by simp)
end
section
/-! the reference's reading: what is kept of PHRASES, definitions -/
def PH1 (T : Int → Int) (V : sS) (c m : Nat) (p e : Int) : Prop := PHE T V c m p e ∧ Xi V 965 m = p ∧ Xi V 964 m = c ∧ (T e = 59 ∨ T e = 46)
def PSQ (T : Int → Int) (V : sS) (c m : Nat) (p : Int) : Nat → Int → Prop
  | 0, _ => False
  | 1, e => PH1 T V c m p e
  | n + 2, e => ∃ q : Int, PSQ T V c m p (n + 1) q ∧ T q = 59 ∧ PH1 T V (c + (n + 1)) (m + (n + 1)) (q + 1) e
theorem ph1_k {T : Int → Int} {V W : sS} {c m : Nat} {p e : Int} (h : PH1 T V c m p e) (k : RUNK V W) (x : ∀ z : Nat, 952 ≤ z → z ≤ 962 → Xi W z c = Xi V z c) (y : ∀ z : Nat, 963 ≤ z → z ≤ 965 → Xi W z m = Xi V z m) : PH1 T W c m p e :=
  ⟨phe_k h.1 k x (y 963 (by omega) (by omega)), (y 965 (by omega) (by omega)).trans h.2.1, (y 964 (by omega) (by omega)).trans h.2.2.1, h.2.2.2⟩
theorem psq_k {T : Int → Int} {V W : sS} {c m : Nat} {p : Int} (k : RUNK V W) : ∀ (n : Nat) {e : Int}, (∀ z i : Nat, 952 ≤ z → z ≤ 962 → i < c + n → Xi W z i = Xi V z i) → (∀ z i : Nat, 963 ≤ z → z ≤ 965 → i < m + n → Xi W z i = Xi V z i) → PSQ T V c m p n e → PSQ T W c m p n e
  | 0, e, _, _, h => h
  | 1, e, x, y, h => ph1_k h k (fun z a b => x z c a b (by omega)) (fun z a b => y z m a b (by omega))
  | n + 2, e, x, y, ⟨q, h1, h2, h3⟩ => ⟨q, psq_k k (n + 1) (fun z i a b d => x z i a b (by omega)) (fun z i a b d => y z i a b (by omega)) h1, h2, ph1_k h3 k (fun z a b => x z _ a b (by omega)) (fun z a b => y z _ a b (by omega))⟩
def PS4 (S V : sS) : Prop := (Xi V 904 65 = 0 → Xi S 904 65 = 0 ∧ ∃ n : Nat, 0 < n ∧ PSQ (tkR S) V (Xi S 904 93).toNat (Xi S 904 98).toNat (Xi S 904 8) n (Xi V 904 8) ∧ Xi V 904 93 = Xi S 904 93 + n ∧ Xi V 904 98 = Xi S 904 98 + n) ∧ RUNK S V ∧ KTE S V ∧ KPE S V ∧ Xi S 904 93 ≤ Xi V 904 93 ∧ Xi S 904 98 ≤ Xi V 904 98
theorem ps4_1 {S V : sS} (h93 : 0 ≤ Xi S 904 93) (t : Xi V 904 65 = 0 → Xi S 904 65 = 0 ∧ Xi V 904 93 = Xi S 904 93 + 1 ∧ PHE (tkR S) V (Xi S 904 93).toNat (Xi S 904 98).toNat (Xi S 904 8) (Xi V 904 8) ∧ (tkR S (Xi V 904 8) = 59 ∨ tkR S (Xi V 904 8) = 46)) (k : RUNK S V) (q : KTE S V) (p : KPE S V) (c : Xi V 904 98 = Xi S 904 98 + 1 ∧ Xi S 904 93 ≤ Xi V 904 93) (f : Xi V 965 (Xi S 904 98).toNat = Xi S 904 8 ∧ Xi V 964 (Xi S 904 98).toNat = Xi S 904 93) : PS4 S V :=
  ⟨fun b => ⟨(t b).1, 1, by decide, ⟨(t b).2.2.1, f.1, by rw [f.2]; omega, (t b).2.2.2⟩, by rw [(t b).2.1]; rfl, by rw [c.1]; rfl⟩, k, q, p, c.2, by omega⟩
theorem ps4_s {S V U W : sS} {x : Int} (h : PS4 S V) (h93 : 0 ≤ Xi S 904 93 ∧ 0 ≤ Xi S 904 98) (i : Xi V 904 65 = 0 ∧ tkR S (Xi V 904 8) = 59 ∧ 0 ≤ Xi V 904 8 ∧ Xi V 904 8 ≤ 5001) (e : U = uI V 904 8 (Int32.ofInt x)) (hx : x = Xi V 904 8 + 1) (t : Xi W 904 65 = 0 → Xi U 904 65 = 0 ∧ Xi W 904 93 = Xi U 904 93 + 1 ∧ PHE (tkR S) W (Xi U 904 93).toNat (Xi U 904 98).toNat (Xi U 904 8) (Xi W 904 8) ∧ (tkR S (Xi W 904 8) = 59 ∨ tkR S (Xi W 904 8) = 46)) (k : RUNK U W) (q : KTE U W) (p : KPE U W) (c : Xi W 904 98 = Xi U 904 98 + 1 ∧ Xi U 904 93 ≤ Xi W 904 93) (f : Xi W 965 (Xi U 904 98).toNat = Xi U 904 8 ∧ Xi W 964 (Xi U 904 98).toNat = Xi U 904 93) : PS4 S W := by
  obtain ⟨h1, h2, h3, h4, h5, h6⟩ := h
  have kU : RUNK V U := runk_w e (by omega) RUNK.rf
  have cU : Xi U 904 93 = Xi V 904 93 := by rw [e, Xi_ne (by omega)]
  have dU : Xi U 904 98 = Xi V 904 98 := by rw [e, Xi_ne (by omega)]
  have aU : Xi U 904 8 = Xi V 904 8 + 1 := by rw [e, Xi_same (by rw [hx]; exact ⟨by omega, by omega⟩)]; exact hx
  refine ⟨fun b => ?_, h2.tr (kU.tr k), kte_t (kte_w e (by omega) h3) q (by omega), fun z j a b d => (p z j a b (by omega)).trans (kpe_w e (by omega) h4 z j a b d), by omega, by omega⟩
  obtain ⟨b1, b2, b3, b4⟩ := t b
  obtain ⟨a1, n, a2, a3, a4, a5⟩ := h1 i.1
  rw [cU, aU, dU] at b3
  rw [dU, aU, cU] at f
  cases n with
  | zero => exact absurd a2 (by decide)
  | succ n =>
    refine ⟨a1, n + 2, by omega, ⟨Xi V 904 8, psq_k (kU.tr k) (n + 1) (fun z i p r d => ?_) (fun z i u r d => ?_) a3, i.2.1, ?_⟩, by omega, by omega⟩
    · rw [q z i p r (by omega), e, Xi_ne (by omega)]
    · rw [p z i u r (by omega), e, Xi_ne (by omega)]
    · rw [show (Xi S 904 93).toNat + (n + 1) = (Xi V 904 93).toNat by omega, show (Xi S 904 98).toNat + (n + 1) = (Xi V 904 98).toNat by omega]
      exact ⟨b3, f.1, by rw [f.2]; omega, b4⟩
/-- a definition: its words -/
def DFE (T : Int → Int) (V : sS) (c r0 : Nat) (p e : Int) : Prop := T (p + 1) = 58 ∧ (100 ≤ T (p + 2) ∧ T (p + 2) ≤ 103) ∧ ∃ (r q : Int) (n : Nat), RQ T (p + 3) r ∧ RR V r0 (p + 3) r ∧ T r = 104 ∧ RQ T (r + 1) q ∧ RR V ((r0 : Int) + 1) (r + 1) q ∧ T q = 136 ∧ 0 < n ∧ TSQ T V c (q + 1) n e ∧ T e ≠ 116 ∧ Xi V 904 93 = c + n ∧ Xi V 904 94 = Xi V 904 93
theorem dfe_of {S A B C D E F G H : sS} {x z1 z2 : Int} (h0 : (0 ≤ Xi S 904 8 ∧ Xi S 904 8 ≤ 5001) ∧ 0 ≤ Xi S 904 69 ∧ 0 ≤ Xi S 904 93) (e : A = uI S 904 8 (Int32.ofInt x)) (hx : x = Xi S 904 8 + 1)
    (t1 : Xi B 904 65 = 0 → Xi A 904 65 = 0 ∧ tkR S (Xi A 904 8) = 58 ∧ 0 ≤ Xi A 904 8 ∧ Xi B 904 8 = Xi A 904 8 + 1) (f1 : FR md_mo_take__t A B)
    (t2 : Xi C 904 65 = 0 → Xi B 904 65 = 0 ∧ (100 ≤ tkR S (Xi B 904 8) ∧ tkR S (Xi B 904 8) ≤ 103) ∧ 0 ≤ Xi B 904 8 ∧ Xi C 904 8 = Xi B 904 8 + 1) (f2 : FR md_mo_art__t B C)
    (t3 : Xi D 904 65 = 0 → RNT (tkR S) C D z1) (f3 : FR md_mo_run__t C D) (k3 : RUNK C D)
    (t4 : Xi E 904 65 = 0 → Xi D 904 65 = 0 ∧ tkR S (Xi D 904 8) = 104 ∧ 0 ≤ Xi D 904 8 ∧ Xi E 904 8 = Xi D 904 8 + 1) (f4 : FR md_mo_take__t D E)
    (t5 : Xi F 904 65 = 0 → RNT (tkR S) E F z2) (f5 : FR md_mo_run__t E F) (k5 : RUNK E F)
    (t6 : Xi G 904 65 = 0 → Xi F 904 65 = 0 ∧ tkR S (Xi F 904 8) = 136 ∧ 0 ≤ Xi F 904 8 ∧ Xi G 904 8 = Xi F 904 8 + 1) (f6 : FR md_mo_take__t F G)
    (t7 : Xi H 904 65 = 0 → Xi G 904 65 = 0 ∧ ∃ n : Nat, 0 < n ∧ TSQ (tkR S) H (Xi G 904 93).toNat (Xi G 904 8) n (Xi H 904 8) ∧ tkR S (Xi H 904 8) ≠ 116 ∧ Xi H 904 93 = Xi G 904 93 + n) (k7 : RUNK G H) (w7 : Xi H 904 94 = Xi H 904 93) (b : Xi H 904 65 = 0) : Xi S 904 65 = 0 ∧ DFE (tkR S) H (Xi S 904 93).toNat (Xi S 904 69).toNat (Xi S 904 8) (Xi H 904 8) := by
  obtain ⟨c1, n, c2, c3, c4, c5⟩ := t7 b
  obtain ⟨d1, d2, d3, d4⟩ := t6 c1
  obtain ⟨g1, g2, g3, g4, g5, g6⟩ := t5 d1
  obtain ⟨i1, i2, i3, i4⟩ := t4 g1
  obtain ⟨j1, j2, j3, j4, j5, j6⟩ := t3 i1
  obtain ⟨l1, l2, l3, l4⟩ := t2 j1
  obtain ⟨m1, m2, m3, m4⟩ := t1 l1
  have aA : Xi A 904 8 = Xi S 904 8 + 1 := by rw [e, Xi_same (by rw [hx]; exact ⟨by omega, by omega⟩)]; exact hx
  have A65 : Xi A 904 65 = Xi S 904 65 := by rw [e, Xi_ne (by omega)]
  have A69 : Xi A 904 69 = Xi S 904 69 := by rw [e, Xi_ne (by omega)]
  have C69 : Xi C 904 69 = Xi S 904 69 := by rw [f2.x 904 69 rfl, f1.x 904 69 rfl]; exact A69
  have E69 : Xi E 904 69 = Xi D 904 69 := f4.x 904 69 rfl
  have G93 : Xi G 904 93 = Xi S 904 93 := by rw [f6.x 904 93 rfl, f5.x 904 93 rfl, f4.x 904 93 rfl, f3.x 904 93 rfl, f2.x 904 93 rfl, f1.x 904 93 rfl, e, Xi_ne (by omega)]
  have k4 : RUNK D E := runk_F f4 rfl rfl RUNK.rf
  have k6 : RUNK F G := runk_F f6 rfl rfl RUNK.rf
  rw [aA] at m2
  rw [show Xi B 904 8 = Xi S 904 8 + 2 by omega] at l2
  rw [show Xi C 904 8 = Xi S 904 8 + 3 by omega] at j3 j6
  rw [i4] at g3 g6
  rw [d4, G93] at c3
  refine ⟨by omega, m2, l2, Xi D 904 8, Xi F 904 8, n, j3, ?_, i2, g3, ?_, d2, c2, c3, c4, by omega, w7⟩
  · have q := rr_k j6 (k4.tr (k5.tr (k6.tr k7)))
    rw [show (((Xi S 904 69).toNat : Nat) : Int) = z1 by omega]; exact q
  · have q := rr_k g6 (k6.tr k7)
    rw [show (((Xi S 904 69).toNat : Nat) : Int) + 1 = z2 by omega]; exact q

def md_mo_phrases__t : List rec := [(904, 905, 8, 9), (904, 905, 65, 66), (904, 905, 66, 67), (904, 905, 69, 70), (904, 905, 78, 79), (904, 905, 93, 94), (904, 905, 98, 99), (904, 905, 99, 100), (904, 905, 100, 101), (904, 905, 101, 102), (950, 951, 0, 100000), (951, 952, 0, 100000), (952, 953, 0, 100000), (953, 954, 0, 100000), (954, 955, 0, 100000), (955, 956, 0, 100000), (956, 957, 0, 100000), (957, 958, 0, 100000), (958, 959, 0, 100000), (959, 960, 0, 100000), (960, 961, 0, 100000), (961, 962, 0, 100000), (962, 963, 0, 100000), (963, 964, 0, 100000), (964, 965, 0, 100000), (965, 966, 0, 100000)]
abbrev Q_mo_phrases__t (S : sS) : pst := fun r S1 => RI S1 ∧ FR md_mo_phrases__t S S1 ∧ (r = none ∧ (Xi S1 904 65 = 0 → Xi S 904 65 = 0 ∧ ∃ n : Nat, 0 < n ∧ PSQ (tkR S) S1 (Xi S 904 93).toNat (Xi S 904 98).toNat (Xi S 904 8) n (Xi S1 904 8) ∧ tkR S (Xi S1 904 8) ≠ 59 ∧ Xi S1 904 93 = Xi S 904 93 + n ∧ Xi S1 904 98 = Xi S 904 98 + n) ∧ (RUNK S S1) ∧ (KTE S S1) ∧ (KPE S S1))
set_option maxRecDepth 100000 in
theorem t_mo_phrases__t {S : sS} (hH : RI S) (h69 : 0 ≤ Xi S 904 69) (h93 : 0 ≤ Xi S 904 93) (h98 : 0 ≤ Xi S 904 98) (d : Nat) : Mp lay0 (d + 8) m_mo_phrases [.ref 904] S (Q_mo_phrases__t S) := by
  refine Mp_R rfl rfl (fun fu => ?_)
  have hF : FR md_mo_phrases__t S S := FR.rf
  have w1 : -2147483648 ≤ Xi S 904 65 ∧ Xi S 904 65 ≤ 2147483647 := Xi_rgI
  have w2 : -2147483648 ≤ Xi S 904 69 ∧ Xi S 904 69 ≤ 2147483647 := Xi_rgI
  have w3 : -2147483648 ≤ Xi S 904 8 ∧ Xi S 904 8 ≤ 2147483647 := Xi_rgI
  have w4 : -2147483648 ≤ Xi S 904 93 ∧ Xi S 904 93 ≤ 2147483647 := Xi_rgI
  have w5 : -2147483648 ≤ Xi S 904 98 ∧ Xi S 904 98 ≤ 2147483647 := Xi_rgI
  have C4 : ∀ (n4 : Nat) (_ : n4 ≤ fu) (T1 : sS) (_ : RI T1) (_ : FR md_mo_phrases__t S T1), (Hid (PS4 S T1)) → Pl n4 lay0 (d + 7) m_mo_phrases 4 [(0, .ref 904)] [] T1 (Q_mo_phrases__t S) := by
    intro n4
    induction n4 with
    | zero => intros; exact Pl_0
    | succ n4 ih4 =>
      intro hm4 T1 hHT1 hFT1 Q4
      have w6 : -2147483648 ≤ Xi T1 904 65 ∧ Xi T1 904 65 ≤ 2147483647 := Xi_rgI
      have w7 : -2147483648 ≤ Xi T1 904 69 ∧ Xi T1 904 69 ≤ 2147483647 := Xi_rgI
      have w8 : -2147483648 ≤ Xi T1 904 8 ∧ Xi T1 904 8 ≤ 2147483647 := Xi_rgI
      have w9 : -2147483648 ≤ Xi T1 904 93 ∧ Xi T1 904 93 ≤ 2147483647 := Xi_rgI
      have w10 : -2147483648 ≤ Xi T1 904 98 ∧ Xi T1 904 98 ≤ 2147483647 := Xi_rgI
      refine ys_aload_n rfl rfl ?_
      refine y_bipush rfl rfl ?_
      refine y_callV rfl rfl rfl (t_mo_isNext__t hHT1 59 ⟨by omega, by omega⟩ _) ?_
      rintro _ _ ⟨rfl, z11, rfl, w11, t7⟩
      show Pl _ _ _ _ _ _ [iv z11] _ _
      have T7 := t7
      rw [tkR_F7 hFT1 rfl] at T7
      clear t7
      refine y_if_eq rfl rfl (by unfold rg; omega) (fun w12 => ?_) (fun w13 => ?_)
      · refine y_return rfl rfl ?_
        exact ⟨hHT1, hFT1, rfl, (fun b => by obtain ⟨a1, n, a2, a3, a4, a5⟩ := Q4.o.1 b; exact ⟨a1, n, a2, a3, by have u := T7.2 (by omega); rcases u with u | u; exact absurd b u; exact u, a4, a5⟩), (Q4.o.2.1), (Q4.o.2.2.1), (Q4.o.2.2.2.1)⟩
      · refine y_aload_n rfl rfl ?_
        refine y_dup rfl rfl ?_
        refine y_gfi rfl rfl rfl rfl rfl ?_
        refine y_iconst rfl ?_
        refine y_iadd rfl ?_
        refine y_pfi rfl rfl rfl rfl ?_
        obtain ⟨U2, eU2⟩ : ∃ T : sS, T = uI T1 904 8 (Int32.ofInt ((Xi T1 904 8) + 1)) := ⟨_, rfl⟩
        rw [← eU2]
        have hHU2 : RI U2 := by rw [eU2]; exact RI_w hHT1
        have hFU2 : FR md_mo_phrases__t S U2 := by rw [eU2]; exact FR.wI hFT1 (mdf_i (r := (904, 905, 8, 9)) (List.mem_of_getElem? (i := 0) rfl) (inR_i (by omega) (by omega) (by omega) (by omega)))
        have e20 := eU2
        have r20 := Q4.o.2.1.1
        have s20 := Q4.o.2.2.2.2
        have x20 : Xi U2 904 69 = Xi T1 904 69 ∧ Xi U2 904 93 = Xi T1 904 93 ∧ Xi U2 904 98 = Xi T1 904 98 := ⟨by rw [e20, Xi_ne (by omega)], by rw [e20, Xi_ne (by omega)], by rw [e20, Xi_ne (by omega)]⟩
        refine y_aload_n rfl rfl ?_
        have w14 : Xi U2 904 65 = Xi T1 904 65 := (show Xi U2 904 65 = Xi T1 904 65 from by rw [eU2]; exact Xi_ne (by omega))
        have w15 : Xi U2 904 69 = Xi T1 904 69 := (show Xi U2 904 69 = Xi T1 904 69 from by rw [eU2]; exact Xi_ne (by omega))
        have w16 : Xi U2 904 93 = Xi T1 904 93 := (show Xi U2 904 93 = Xi T1 904 93 from by rw [eU2]; exact Xi_ne (by omega))
        have w17 : Xi U2 904 98 = Xi T1 904 98 := (show Xi U2 904 98 = Xi T1 904 98 from by rw [eU2]; exact Xi_ne (by omega))
        refine y_callV rfl rfl rfl (t_mo_phrase__t hHU2 (by first | assumption | omega) (by first | assumption | omega) (by first | assumption | omega) _) ?_
        rintro _ T3 ⟨hHT3, w19, rfl, t24, k24, q24, p24, c24, f24⟩
        have hFT3 : FR md_mo_phrases__t S T3 := FR.tr hFU2 w19 rfl
        show Pl _ _ _ _ _ _ [] _ _
        have T24 := t24
        rw [tkR_F7 hFU2 rfl] at T24
        clear t24
        have Q24 : Hid (PS4 S T3) := ps4_s Q4.o ⟨h93, h98⟩ (T7.1 (by omega)) e20 (by omega) T24 k24 q24 p24 c24 f24
        refine y_goto rfl rfl ?_
        exact Pl_weak (ih4 (by omega) T3 hHT3 hFT3  (by first | exact Q24 | exact ps4_1 h93 t1 k1 q1 p1 c1 f1)) (by omega) (And.intro rfl (True.intro))
  refine y_aload_n rfl rfl ?_
  refine y_callV rfl rfl rfl (t_mo_phrase__t hH (by first | assumption | omega) (by first | assumption | omega) (by first | assumption | omega) _) ?_
  rintro _ T4 ⟨hHT4, w21, rfl, t1, k1, q1, p1, c1, f1⟩
  have hFT4 : FR md_mo_phrases__t S T4 := FR.tr hF w21 rfl
  show Pl _ _ _ _ _ _ [] _ _
  exact Pl_weak (C4 fu (by omega) T4 hHT4 hFT4  (by first | exact Q24 | exact ps4_1 h93 t1 k1 q1 p1 c1 f1)) (by omega) (And.intro rfl (True.intro))
def md_mo_partTwo__t : List rec := [(904, 905, 8, 9), (904, 905, 65, 66), (904, 905, 66, 67), (904, 905, 69, 70), (904, 905, 78, 79), (904, 905, 93, 94), (904, 905, 94, 95), (904, 905, 99, 100), (904, 905, 100, 101), (904, 905, 101, 102), (950, 951, 0, 100000), (951, 952, 0, 100000), (952, 953, 0, 100000), (953, 954, 0, 100000), (954, 955, 0, 100000), (955, 956, 0, 100000), (956, 957, 0, 100000), (957, 958, 0, 100000), (958, 959, 0, 100000), (959, 960, 0, 100000), (960, 961, 0, 100000), (961, 962, 0, 100000), (962, 963, 0, 100000)]
abbrev Q_mo_partTwo__t (S : sS) : pst := fun r S1 => RI S1 ∧ FR md_mo_partTwo__t S S1 ∧ (r = none ∧ (Xi S1 904 65 = 0 → Xi S 904 65 = 0 ∧ DFE (tkR S) S1 (Xi S 904 93).toNat (Xi S 904 69).toNat (Xi S 904 8) (Xi S1 904 8)))
set_option maxRecDepth 100000 in
theorem t_mo_partTwo__t {S : sS} (hH : RI S) (h69 : 0 ≤ Xi S 904 69) (h93 : 0 ≤ Xi S 904 93) (hat : 0 ≤ Xi S 904 8 ∧ Xi S 904 8 ≤ 5001) (d : Nat) : Mp lay0 (d + 8) m_mo_partTwo [.ref 904] S (Q_mo_partTwo__t S) := by
  refine Mp_R rfl rfl (fun fu => ?_)
  have hF : FR md_mo_partTwo__t S S := FR.rf
  have w1 : -2147483648 ≤ Xi S 904 65 ∧ Xi S 904 65 ≤ 2147483647 := Xi_rgI
  have w2 : -2147483648 ≤ Xi S 904 69 ∧ Xi S 904 69 ≤ 2147483647 := Xi_rgI
  have w3 : -2147483648 ≤ Xi S 904 8 ∧ Xi S 904 8 ≤ 2147483647 := Xi_rgI
  have w4 : -2147483648 ≤ Xi S 904 93 ∧ Xi S 904 93 ≤ 2147483647 := Xi_rgI
  refine y_aload_n rfl rfl ?_
  refine y_dup rfl rfl ?_
  refine y_gfi rfl rfl rfl rfl rfl ?_
  refine y_iconst rfl ?_
  refine y_iadd rfl ?_
  refine y_pfi rfl rfl rfl rfl ?_
  obtain ⟨U1, eU1⟩ : ∃ T : sS, T = uI S 904 8 (Int32.ofInt ((Xi S 904 8) + 1)) := ⟨_, rfl⟩
  rw [← eU1]
  have hHU1 : RI U1 := by rw [eU1]; exact RI_w hH
  have hFU1 : FR md_mo_partTwo__t S U1 := by rw [eU1]; exact FR.wI hF (mdf_i (r := (904, 905, 8, 9)) (List.mem_of_getElem? (i := 0) rfl) (inR_i (by omega) (by omega) (by omega) (by omega)))
  have w5 : Xi U1 904 8 = ((Xi S 904 8) + 1) := by rw [eU1]; exact Xi_same (by unfold rg; omega)
  have e7 := eU1
  refine y_aload_n rfl rfl ?_
  refine y_bipush rfl rfl ?_
  have w6 : Xi U1 904 65 = Xi S 904 65 := (show Xi U1 904 65 = Xi S 904 65 from by rw [eU1]; exact Xi_ne (by omega))
  have w7 : Xi U1 904 69 = Xi S 904 69 := (show Xi U1 904 69 = Xi S 904 69 from by rw [eU1]; exact Xi_ne (by omega))
  have w8 : Xi U1 904 93 = Xi S 904 93 := (show Xi U1 904 93 = Xi S 904 93 from by rw [eU1]; exact Xi_ne (by omega))
  refine y_callV rfl rfl rfl (t_mo_take__t hHU1 58 ⟨by omega, by omega⟩ _) ?_
  rintro _ T2 ⟨hHT2, w10, rfl, t13⟩
  have hFT2 : FR md_mo_partTwo__t S T2 := FR.tr hFU1 w10 rfl
  show Pl _ _ _ _ _ _ [] _ _
  have F13 := (by assumption : FR md_mo_take__t U1 T2)
  have T13_ := t13
  rw [tkR_F7 hFU1 rfl] at T13_
  clear t13
  refine y_aload_n rfl rfl ?_
  have w11 : Xi T2 904 69 = Xi S 904 69 := (show Xi T2 904 69 = Xi U1 904 69 from w10.x _ _ rfl).trans ((show Xi U1 904 69 = Xi S 904 69 from by rw [eU1]; exact Xi_ne (by omega)))
  have w12 : Xi T2 904 93 = Xi S 904 93 := (show Xi T2 904 93 = Xi U1 904 93 from w10.x _ _ rfl).trans ((show Xi U1 904 93 = Xi S 904 93 from by rw [eU1]; exact Xi_ne (by omega)))
  refine y_callV rfl rfl rfl (t_mo_art__t hHT2 _) ?_
  rintro _ T3 ⟨hHT3, w14, rfl, t17⟩
  have hFT3 : FR md_mo_partTwo__t S T3 := FR.tr hFT2 w14 rfl
  show Pl _ _ _ _ _ _ [] _ _
  have F17 := (by assumption : FR md_mo_art__t T2 T3)
  have T17_ := t17
  rw [tkR_F7 hFT2 rfl] at T17_
  clear t17
  refine y_aload_n rfl rfl ?_
  have w15 : Xi T3 904 69 = Xi S 904 69 := (show Xi T3 904 69 = Xi T2 904 69 from w14.x _ _ rfl).trans ( (show Xi T2 904 69 = Xi U1 904 69 from w10.x _ _ rfl).trans ((show Xi U1 904 69 = Xi S 904 69 from by rw [eU1]; exact Xi_ne (by omega))))
  have w16 : Xi T3 904 93 = Xi S 904 93 := (show Xi T3 904 93 = Xi T2 904 93 from w14.x _ _ rfl).trans ( (show Xi T2 904 93 = Xi U1 904 93 from w10.x _ _ rfl).trans ((show Xi U1 904 93 = Xi S 904 93 from by rw [eU1]; exact Xi_ne (by omega))))
  refine y_callV rfl rfl rfl (t_mo_run__t hHT3 _) ?_
  rintro _ T4 ⟨hHT4, w18, z17, rfl, w17, t21, k21⟩
  have hFT4 : FR md_mo_partTwo__t S T4 := FR.tr hFT3 w18 rfl
  show Pl _ _ _ _ _ _ [iv z17] _ _
  have F21 := (by assumption : FR md_mo_run__t T3 T4)
  have T21_ := t21
  rw [tkR_F7 hFT3 rfl] at T21_
  clear t21
  have g21 := k21.1
  refine y_pop rfl rfl ?_
  refine y_aload_n rfl rfl ?_
  refine y_bipush rfl rfl ?_
  have w19 : Xi T4 904 93 = Xi S 904 93 := (show Xi T4 904 93 = Xi T3 904 93 from w18.x _ _ rfl).trans ( (show Xi T3 904 93 = Xi T2 904 93 from w14.x _ _ rfl).trans ( (show Xi T2 904 93 = Xi U1 904 93 from w10.x _ _ rfl).trans ((show Xi U1 904 93 = Xi S 904 93 from by rw [eU1]; exact Xi_ne (by omega)))))
  refine y_callV rfl rfl rfl (t_mo_take__t hHT4 104 ⟨by omega, by omega⟩ _) ?_
  rintro _ T5 ⟨hHT5, w21, rfl, t28⟩
  have hFT5 : FR md_mo_partTwo__t S T5 := FR.tr hFT4 w21 rfl
  show Pl _ _ _ _ _ _ [] _ _
  have F28 := (by assumption : FR md_mo_take__t T4 T5)
  have T28_ := t28
  rw [tkR_F7 hFT4 rfl] at T28_
  clear t28
  refine y_aload_n rfl rfl ?_
  have w22 : Xi T5 904 69 = Xi T4 904 69 := (show Xi T5 904 69 = Xi T4 904 69 from w21.x _ _ rfl)
  have w23 : Xi T5 904 93 = Xi S 904 93 := (show Xi T5 904 93 = Xi T4 904 93 from w21.x _ _ rfl).trans ( (show Xi T4 904 93 = Xi T3 904 93 from w18.x _ _ rfl).trans ( (show Xi T3 904 93 = Xi T2 904 93 from w14.x _ _ rfl).trans ( (show Xi T2 904 93 = Xi U1 904 93 from w10.x _ _ rfl).trans ((show Xi U1 904 93 = Xi S 904 93 from by rw [eU1]; exact Xi_ne (by omega))))))
  refine y_callV rfl rfl rfl (t_mo_run__t hHT5 _) ?_
  rintro _ T6 ⟨hHT6, w25, z24, rfl, w24, t32, k32⟩
  have hFT6 : FR md_mo_partTwo__t S T6 := FR.tr hFT5 w25 rfl
  show Pl _ _ _ _ _ _ [iv z24] _ _
  have F32 := (by assumption : FR md_mo_run__t T5 T6)
  have T32_ := t32
  rw [tkR_F7 hFT5 rfl] at T32_
  clear t32
  have g32 := k32.1
  refine y_pop rfl rfl ?_
  refine y_aload_n rfl rfl ?_
  refine y_sipush rfl rfl ?_
  have w26 : Xi T6 904 93 = Xi S 904 93 := (show Xi T6 904 93 = Xi T5 904 93 from w25.x _ _ rfl).trans ( (show Xi T5 904 93 = Xi T4 904 93 from w21.x _ _ rfl).trans ( (show Xi T4 904 93 = Xi T3 904 93 from w18.x _ _ rfl).trans ( (show Xi T3 904 93 = Xi T2 904 93 from w14.x _ _ rfl).trans ( (show Xi T2 904 93 = Xi U1 904 93 from w10.x _ _ rfl).trans ((show Xi U1 904 93 = Xi S 904 93 from by rw [eU1]; exact Xi_ne (by omega)))))))
  refine y_callV rfl rfl rfl (t_mo_take__t hHT6 136 ⟨by omega, by omega⟩ _) ?_
  rintro _ T7 ⟨hHT7, w28, rfl, t40⟩
  have hFT7 : FR md_mo_partTwo__t S T7 := FR.tr hFT6 w28 rfl
  show Pl _ _ _ _ _ _ [] _ _
  have F40 := (by assumption : FR md_mo_take__t T6 T7)
  have T40_ := t40
  rw [tkR_F7 hFT6 rfl] at T40_
  clear t40
  refine y_aload_n rfl rfl ?_
  have w29 : Xi T7 904 69 = Xi T6 904 69 := (show Xi T7 904 69 = Xi T6 904 69 from w28.x _ _ rfl)
  have w30 : Xi T7 904 93 = Xi S 904 93 := (show Xi T7 904 93 = Xi T6 904 93 from w28.x _ _ rfl).trans ( (show Xi T6 904 93 = Xi T5 904 93 from w25.x _ _ rfl).trans ( (show Xi T5 904 93 = Xi T4 904 93 from w21.x _ _ rfl).trans ( (show Xi T4 904 93 = Xi T3 904 93 from w18.x _ _ rfl).trans ( (show Xi T3 904 93 = Xi T2 904 93 from w14.x _ _ rfl).trans ( (show Xi T2 904 93 = Xi U1 904 93 from w10.x _ _ rfl).trans ((show Xi U1 904 93 = Xi S 904 93 from by rw [eU1]; exact Xi_ne (by omega))))))))
  refine y_callV rfl rfl rfl (t_mo_tests__t hHT7 (by first | assumption | omega) (by first | assumption | omega) _) ?_
  rintro _ T8 ⟨hHT8, w34, rfl, t44, k44, w31, w32, h44⟩
  have hFT8 : FR md_mo_partTwo__t S T8 := FR.tr hFT7 w34 rfl
  show Pl _ _ _ _ _ _ [] _ _
  have F44 := (by assumption : FR md_mo_tests__t T7 T8)
  have T44_ := t44
  rw [tkR_F7 hFT7 rfl] at T44_
  clear t44
  refine y_return rfl rfl ?_
  exact ⟨hHT8, hFT8, rfl, (fun b => dfe_of ⟨hat, h69, h93⟩ e7 (by omega) T13_ F13 T17_ F17 T21_ F21 k21 T28_ F28 T32_ F32 k32 T40_ F40 T44_ k44 h44 b)⟩
end
