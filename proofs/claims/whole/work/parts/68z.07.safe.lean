/-! SAFETY of methods: printed by wip/safe (vc.py, decl.py) -/
/-! SAFETY of the reference: rules told -/
theorem PQ.mono {S : sS} {c c2 : Prop} {i : Nat} (hc : c → c2) (h : PQ S c i) : PQ S c2 i := by
  have m : ∀ {x : Int}, thK S False c x → thK S False c2 x := fun t => t.elim Or.inl (fun u => u.elim (fun v => v.2.elim) (fun v => Or.inr (Or.inr ⟨v.1, hc v.2⟩)))
  obtain ⟨h1, h2, h3, h4, h5, h6⟩ := h
  exact ⟨h1, h2, fun q => ⟨(h3 q).1.mono id hc, (h3 q).2⟩, fun q => ⟨m (h4 q).1, m (h4 q).2⟩, fun q => ⟨m (h5 q).1, (h5 q).2⟩, fun q => ⟨(h6 q).1, fun x => m ((h6 q).2.1 x), (h6 q).2.2⟩⟩
theorem nm_gr {S T : sS} {r : Nat} (g : GR T S) (e : Xi T 979 r = Xi S 979 r) (ha : Xi S 979 r < Xi S 904 49) : nM T r ↔ nM S r := by
  unfold nM
  rw [e]
  by_cases q : 0 ≤ Xi S 979 r
  · rw [g.2.2.2 (Xi S 979 r).toNat (by omega)]
  · exact ⟨fun h => absurd h.1 q, fun h => absurd h.1 q⟩
theorem pq_gr {S T : sS} {c : Prop} {i : Nat} (g : GR T S) (e6 : Xi T 976 i = Xi S 976 i) (e7 : Xi T 977 i = Xi S 977 i) (e : ∀ k, 969 ≤ k → k ≤ 975 → Xi T k (Xi S 977 i).toNat = Xi S k (Xi S 977 i).toNat) (h : PQ S c i) : PQ T c i := by
  obtain ⟨h1, h2, h3, h4, h5, h6⟩ := h
  have a3 : Xi S 904 19 ≤ Xi T 904 19 := g.1.2.2.1
  have a6 : Xi S 904 32 ≤ Xi T 904 32 := g.1.2.2.2.2.2.1
  have a9 : Xi S 904 49 ≤ Xi T 904 49 := g.1.2.2.2.2.2.2.2.2
  unfold PQ
  rw [e6, e7, e 970 (by omega) (by omega), e 971 (by omega) (by omega), e 972 (by omega) (by omega), e 973 (by omega) (by omega), e 974 (by omega) (by omega), e 975 (by omega) (by omega)]
  refine ⟨h1, h2, fun q => ?_, fun q => ⟨thk_gr a3 (h4 q).1, thk_gr a3 (h4 q).2⟩, fun q => ?_, fun q => ?_⟩
  · obtain ⟨t, u, v⟩ := h3 q
    refine ⟨tq_gr g e t, ?_, ?_⟩
    · rw [e 969 (by omega) (by omega)]; exact u
    · rw [e 969 (by omega) (by omega), e 973 (by omega) (by omega)]
      intro x y
      have ad := t.2.2.1 x
      unfold ADM at ad
      rw [(g.2.1 (Xi S 973 (Xi S 977 i).toNat).toNat (by omega)).1]
      exact v x y
  · obtain ⟨t, u, v, w⟩ := h5 q
    refine ⟨thk_gr a3 t, u, by omega, ?_⟩
    rw [g.2.2.1 (Xi S 972 (Xi S 977 i).toNat).toNat (by omega)]; exact w
  · obtain ⟨⟨t, u⟩, v, w⟩ := h6 q
    refine ⟨⟨t, by omega⟩, fun x => thk_gr a3 (v x), fun x => ?_⟩
    rw [g.2.2.2 (Xi S 972 (Xi S 977 i).toNat).toNat (by omega)]; exact w x
def RU1 (S : sS) (r : Nat) : Prop := (Xi S 984 r + Xi S 985 r ≤ 2400 ∧ Xi S 986 r + Xi S 987 r ≤ 2000 ∧ Xi S 979 r < Xi S 904 49 ∧ (Xi S 978 r = 3 → Xi S 979 r = -1)) ∧ (Xi S 981 r ≠ -1 → nM S r) ∧ (∀ k : Nat, (k : Int) < Xi S 982 r → nM S r ∧ ADM S (Xi S 983 (6 * r + k))) ∧ (∀ k : Nat, (k : Int) < Xi S 985 r → TQ S False (nM S r) ((Xi S 984 r).toNat + k)) ∧ (∀ k : Nat, (k : Int) < Xi S 987 r → PQ S (nM S r) ((Xi S 986 r).toNat + k))
theorem ru_gr {S T : sS} {r : Nat} (g : GR T S) (e : ∀ k, 978 ≤ k → k ≤ 987 → k ≠ 983 → Xi T k r = Xi S k r) (e3 : ∀ k : Nat, (k : Int) < Xi S 982 r → Xi T 983 (6 * r + k) = Xi S 983 (6 * r + k)) (et : ∀ k : Nat, (k : Int) < Xi S 985 r → ∀ j, 969 ≤ j → j ≤ 975 → Xi T j ((Xi S 984 r).toNat + k) = Xi S j ((Xi S 984 r).toNat + k)) (ep : ∀ k : Nat, (k : Int) < Xi S 987 r → (Xi T 976 ((Xi S 986 r).toNat + k) = Xi S 976 ((Xi S 986 r).toNat + k) ∧ Xi T 977 ((Xi S 986 r).toNat + k) = Xi S 977 ((Xi S 986 r).toNat + k)) ∧ ∀ j, 969 ≤ j → j ≤ 975 → Xi T j (Xi S 977 ((Xi S 986 r).toNat + k)).toNat = Xi S j (Xi S 977 ((Xi S 986 r).toNat + k)).toNat) (h : RU1 S r) : RU1 T r := by
  obtain ⟨⟨h1, h2, h3, h4⟩, h5, h6, h7, h8⟩ := h
  have n := nm_gr g (e 979 (by omega) (by omega) (by omega)) h3
  have a4 : Xi S 904 23 ≤ Xi T 904 23 := g.1.2.2.2.1
  have a6 : Xi S 904 32 ≤ Xi T 904 32 := g.1.2.2.2.2.2.1
  have a9 : Xi S 904 49 ≤ Xi T 904 49 := g.1.2.2.2.2.2.2.2.2
  unfold RU1
  rw [e 984 (by omega) (by omega) (by omega), e 985 (by omega) (by omega) (by omega), e 986 (by omega) (by omega) (by omega), e 987 (by omega) (by omega) (by omega), e 979 (by omega) (by omega) (by omega), e 978 (by omega) (by omega) (by omega), e 981 (by omega) (by omega) (by omega), e 982 (by omega) (by omega) (by omega)]
  refine ⟨⟨h1, h2, by omega, h4⟩, fun q => n.mpr (h5 q), fun k hk => ?_, fun k hk => ?_, fun k hk => ?_⟩
  · rw [e3 k hk]; exact ⟨n.mpr (h6 k hk).1, adm_gr a4 a6 (h6 k hk).2⟩
  · exact (tq_gr g (et k hk) (h7 k hk)).mono id n.mpr
  · exact PQ.mono n.mpr (pq_gr g (ep k hk).1.1 (ep k hk).1.2 (ep k hk).2 (h8 k hk))
/-- tests and phrases of what was told lie below what is free -/
def TBX (S : sS) : Prop := (Xi S 904 117 ≤ 14 * Xi S 904 130 + 6 * Xi S 904 23 ∧ Xi S 904 125 ≤ 8 * Xi S 904 130) ∧ (∀ a : Nat, (a : Int) < Xi S 904 23 → 0 < Xi S 924 a → Xi S 923 a + Xi S 924 a ≤ Xi S 904 117) ∧ ∀ r : Nat, (r : Int) < Xi S 904 130 → (Xi S 984 r + Xi S 985 r ≤ Xi S 904 117 ∧ Xi S 986 r + Xi S 987 r ≤ Xi S 904 125) ∧ ∀ k : Nat, (k : Int) < Xi S 987 r → Xi S 977 ((Xi S 986 r).toNat + k) < Xi S 904 117
def KHL (T S : sS) (m : Int) : Prop := ∀ i : Nat, (i : Int) < m → Xi T 976 i = Xi S 976 i ∧ Xi T 977 i = Xi S 977 i
theorem KHL.rf {S : sS} {m : Int} : KHL S S m := fun _ _ => ⟨rfl, rfl⟩
theorem KHL.h {S T U : sS} {m p : Int} (h : KHL T S m) (g : KH U T p) (e : m ≤ p) : KHL U S m := fun i hi => ⟨(g i (by omega)).1.trans (h i hi).1, (g i (by omega)).2.trans (h i hi).2⟩
theorem KHL_FR {l : List rec} {T U S : sS} {m : Int} (f : FR l T U) (e : kdis l [(976, 978)] = true) (h : KHL T S m) : KHL U S m := fun i hi => by
  have q := f.smk e
  rw [q.x 976 rfl, q.x 977 rfl]
  exact h i hi
theorem ru_all {S T : sS} {r : Nat} (hR : RULM S) (hB : TBX S) (hH : HI S) (g : GR T S) (hr : (r : Int) < Xi S 904 130) (e : ∀ k, 978 ≤ k → k ≤ 987 → k ≠ 983 → Xi T k r = Xi S k r) (e3 : ∀ k : Nat, k < 6 → Xi T 983 (6 * r + k) = Xi S 983 (6 * r + k)) (kt : KQL T S (Xi S 904 117)) (kp : KHL T S (Xi S 904 125)) : RU1 T r := by
  obtain ⟨⟨b1, b2⟩, b3⟩ := hB.2.2 r hr
  have c2 : Xi S 982 r ≤ 6 := (hH.c 982 r).2
  have c4 : 0 ≤ Xi S 984 r := (hH.c 984 r).1
  have c6 : 0 ≤ Xi S 986 r := (hH.c 986 r).1
  refine ru_gr g e (fun k hk => e3 k (by omega)) (fun k hk j a b => kt _ (by omega) j a b) (fun k hk => ⟨kp _ (by omega), fun j a b => ?_⟩) (hR r hr)
  have c7 : 0 ≤ Xi S 977 ((Xi S 986 r).toNat + k) := (hH.c 977 _).1
  have t := b3 k hk
  exact kt _ (by omega) j a b
theorem rul_keep {S T : sS} (hR : RULM S) (hB : TBX S) (hH : HI S) (g : GR T S) (ec : Xi T 904 130 = Xi S 904 130) (e : ∀ k, 978 ≤ k → k ≤ 987 → ∀ j, Xi T k j = Xi S k j) (kt : KQL T S (Xi S 904 117)) (kp : KHL T S (Xi S 904 125)) : RULM T := fun r hr => ru_all hR hB hH g (by omega) (fun k a b _ => e k a b r) (fun k _ => e 983 (by omega) (by omega) _) kt kp
theorem rul_add {S T : sS} {l : Int} (hR : RULM S) (hB : TBX S) (hH : HI S) (g : GR T S) (hl : Xi S 904 130 = l) (ec : Xi T 904 130 = l + 1) (e : ∀ r : Nat, (r : Int) ≠ l → ∀ k, 978 ≤ k → k ≤ 987 → k ≠ 983 → Xi T k r = Xi S k r) (e3 : ∀ r : Nat, (r : Int) ≠ l → ∀ k : Nat, k < 6 → Xi T 983 (6 * r + k) = Xi S 983 (6 * r + k)) (kt : KQL T S (Xi S 904 117)) (kp : KHL T S (Xi S 904 125)) (hn : RU1 T l.toNat) : RULM T := fun r hr => by
  by_cases q : (r : Int) = l
  · rw [show r = l.toNat by omega]; exact hn
  · exact ru_all hR hB hH g (by omega) (fun k a b c => e r q k a b c) (fun k hk => e3 r q k hk) kt kp
theorem def_keep {S T : sS} (hD : DEFM S) (hB : TBX S) (hH : HI S) (g : GR T S) (ec : Xi T 904 23 = Xi S 904 23) (kt : KQL T S (Xi S 904 117)) : DEFM T := fun a ha hp => by
  obtain ⟨_, x, y⟩ := g.2.1 a (by omega)
  rw [y] at hp
  obtain ⟨u, v⟩ := hD a (by omega) hp
  have b := hB.2.1 a (by omega) hp
  have c : 0 ≤ Xi S 923 a := (hH.c 923 a).1
  rw [x, y]
  exact ⟨u, fun k hk => tq_gr g (fun j p q => kt _ (by omega) j p q) (v k hk)⟩
theorem tbx_keep {S T : sS} (hB : TBX S) (hH : HI S) (e1 : Xi T 904 117 = Xi S 904 117) (e2 : Xi T 904 125 = Xi S 904 125) (e3 : Xi T 904 130 = Xi S 904 130) (ec : Xi T 904 23 = Xi S 904 23) (g : GR T S) (e : ∀ k, 978 ≤ k → k ≤ 987 → ∀ j, Xi T k j = Xi S k j) (kp : KHL T S (Xi S 904 125)) : TBX T := by
  refine ⟨by rw [e1, e2, e3, ec]; exact hB.1, fun a ha hp => ?_, fun r hr => ?_⟩
  · obtain ⟨_, x, y⟩ := g.2.1 a (by omega)
    rw [y] at hp
    rw [x, y, e1]
    exact hB.2.1 a (by omega) hp
  · obtain ⟨b1, b3⟩ := hB.2.2 r (by omega)
    have c6 : 0 ≤ Xi S 986 r := (hH.c 986 r).1
    rw [e 984 (by omega) (by omega), e 985 (by omega) (by omega), e 986 (by omega) (by omega), e 987 (by omega) (by omega), e1, e2]
    refine ⟨b1, fun k hk => ?_⟩
    rw [(kp _ (by omega)).2]
    exact b3 k hk
/-- whom the rule that is read is about -/
def RLH (T : sS) (l : Int) : Prop := RA T l.toNat ∧ Xi T 979 l.toNat < Xi T 904 49 ∧ (Xi T 904 70 = 6 → Xi T 979 l.toNat = -1) ∧ (0 ≤ Xi T 904 116 → nM T l.toNat)
theorem RLH_FR {m : List rec} {S T : sS} {l : Int} (h : FR m S T) (e : (kdis m [(979, 984), (942, 943)] && mD m [23, 32, 49, 70, 116]) = true) (hq : RLH S l) : RLH T l := by
  rw [Bool.and_eq_true] at e
  have k := h.smk e.1
  unfold RLH RA nM ADM at *
  simp only [k.x 979 rfl, k.x 981 rfl, k.x 982 rfl, k.x 983 rfl, k.x 942 rfl, mD_x h e.2 23 (by decide), mD_x h e.2 32 (by decide), mD_x h e.2 49 (by decide), mD_x h e.2 70 (by decide), mD_x h e.2 116 (by decide)]
  exact hq
def PQS (T : sS) (f q v : Int) : Prop := ∀ j : Nat, (j : Int) < v → PQ T (0 ≤ Xi T 904 116) (f.toNat + j) ∧ Xi T 977 (f.toNat + j) = q + j
theorem PQS_FR {m : List rec} {S T : sS} {f q v : Int} (h : FR m S T) (e : (kdis m kR && mD m [19, 23, 32, 49, 130, 116]) = true) (hq : PQS S f q v) : PQS T f q v := fun j hj => by
  rw [Bool.and_eq_true] at e
  have k := h.smk e.1
  have t := hq j hj
  unfold PQ NQ TQ ADM thK at *
  simp only [k.x 969 rfl, k.x 970 rfl, k.x 971 rfl, k.x 972 rfl, k.x 973 rfl, k.x 974 rfl, k.x 975 rfl, k.x 976 rfl, k.x 977 rfl, k.x 942 rfl, k.x 922 rfl, k.x 928 rfl, mD_x h e.2 19 (by decide), mD_x h e.2 23 (by decide), mD_x h e.2 32 (by decide), mD_x h e.2 49 (by decide), mD_x h e.2 116 (by decide)]
  exact t
theorem pqs_add {T U : sS} {f q v p2 q2 : Int} (h : PQS T f q v) (g : GR U T) (h0 : 0 ≤ f ∧ 0 ≤ v ∧ 0 ≤ q) (kq : KQ U T q2) (kh : KH U T p2) (eq : q2 = q + v) (ep : p2 = f + v) (e116 : Xi U 904 116 = Xi T 904 116) (hn : PQ U (0 ≤ Xi T 904 116) p2.toNat) (ht : Xi U 977 p2.toNat = q2) : PQS U f q (v + 1) := fun j hj => by
  rw [e116]
  by_cases c : (j : Int) < v
  · obtain ⟨a, b⟩ := h j c
    obtain ⟨x, y⟩ := kh (f.toNat + j) (by omega)
    exact ⟨pq_gr g x y (fun k p r => kq _ (by omega) k p r) a, y.trans b⟩
  · rw [show f.toNat + j = p2.toNat by omega]
    exact ⟨hn, by omega⟩
def K78 (T S : sS) : Prop := ∀ r k : Nat, k = 978 ∨ (984 ≤ k ∧ k ≤ 987) → Xi T k r = Xi S k r
theorem K78.rf {S : sS} : K78 S S := fun _ _ _ => rfl
theorem K78_FR {m : List rec} {S T U : sS} (f : FR m T U) (e : kdis m [(978, 979), (984, 988)] = true) (h : K78 T S) : K78 U S := fun r k hk => by
  have q := f.smk e
  refine Eq.trans ?_ (h r k hk)
  rcases (by omega : k = 978 ∨ k = 984 ∨ k = 985 ∨ k = 986 ∨ k = 987) with a | a | a | a | a <;> subst a <;> exact q.x _ rfl r
theorem KRL.tr {S T U : sS} {l : Int} (h : KRL T S l) (g : KRL U T l) : KRL U S l := fun r hr => by
  obtain ⟨a, b, c, d, f⟩ := h r hr
  obtain ⟨a2, b2, c2, d2, f2⟩ := g r hr
  exact ⟨a2.trans a, b2.trans b, c2.trans c, d2.trans d, fun k hk => (f2 k hk).trans (f k hk)⟩
theorem rul_new {S P U1 U2 U3 U4 U5 U6 U7 U8 : sS} {l so t1 t2 t3 t4 t5 t6 t7 : Int} (hR : RULM S) (hB : TBX S) (hH : HI S) (g : GR P S) (hl : Xi S 904 130 = l) (h0 : 0 ≤ l) (h23 : l ≤ 23) (hso : 0 ≤ so ∧ so ≤ 3) (h3 : so = 3 → Xi P 979 l.toNat = -1) (hr : RLH P l) (kr : KRL P S l) (k8 : K78 P S) (kt : KQL P S (Xi S 904 117)) (kp : KHL P S (Xi S 904 125)) (hts : 0 ≤ Xi S 904 94 ∧ Xi S 904 94 ≤ 6) (hpc : 0 ≤ Xi S 904 98 ∧ Xi S 904 98 ≤ 8) (ht : TQA P False (0 ≤ Xi P 904 116) (Xi S 904 117) (Xi S 904 94)) (hp : PQS P (Xi S 904 125) (Xi S 904 117 + Xi S 904 94) (Xi S 904 98)) (d2 : t2 = Xi S 904 94) (d4 : t4 = Xi S 904 98) (e23 : Xi P 904 23 = Xi S 904 23) (d1 : t1 = Xi S 904 117) (d3 : t3 = Xi S 904 125) (d5 : t5 = Xi S 904 117 + t2 + t4) (d6 : t6 = Xi S 904 125 + t4) (d7 : t7 = l + 1) (e1 : U1 = uI P 978 l.toNat (Int32.ofInt so)) (e2 : U2 = uI U1 984 l.toNat (Int32.ofInt t1)) (e3 : U3 = uI U2 985 l.toNat (Int32.ofInt t2)) (e4 : U4 = uI U3 986 l.toNat (Int32.ofInt t3)) (e5 : U5 = uI U4 987 l.toNat (Int32.ofInt t4)) (e6 : U6 = uI U5 904 117 (Int32.ofInt t5)) (e7 : U7 = uI U6 904 125 (Int32.ofInt t6)) (e8 : U8 = uI U7 904 130 (Int32.ofInt t7)) : (RULM U8 ∧ TBX U8) ∧ GR U8 S ∧ KQL U8 S (Xi S 904 117) := by
  rw [← d2] at hts ht hp
  rw [← d4] at hpc hp
  have b1 := hB.1
  have c23 : 0 ≤ Xi S 904 23 ∧ Xi S 904 23 ≤ 24 := hH.c _ _
  have c17 : 0 ≤ Xi S 904 117 := (hH.c 904 117).1
  have c25 : 0 ≤ Xi S 904 125 := (hH.c 904 125).1
  have x : ∀ k j, k ≠ 978 → k ≠ 984 → k ≠ 985 → k ≠ 986 → k ≠ 987 → k ≠ 904 → Xi U8 k j = Xi P k j := fun k j a b c d e f => by rw [e8, Xi_ne (by omega), e7, Xi_ne (by omega), e6, Xi_ne (by omega), e5, Xi_ne (by omega), e4, Xi_ne (by omega), e3, Xi_ne (by omega), e2, Xi_ne (by omega), e1, Xi_ne (by omega)]
  have y : ∀ k j, k ≠ 904 → j ≠ l.toNat → Xi U8 k j = Xi P k j := fun k j a b => by rw [e8, Xi_ne (by omega), e7, Xi_ne (by omega), e6, Xi_ne (by omega), e5, Xi_ne (by omega), e4, Xi_ne (by omega), e3, Xi_ne (by omega), e2, Xi_ne (by omega), e1, Xi_ne (by omega)]
  have z : ∀ j, j ≠ 117 → j ≠ 125 → j ≠ 130 → Xi U8 904 j = Xi P 904 j := fun j a b c => by rw [e8, Xi_ne (by omega), e7, Xi_ne (by omega), e6, Xi_ne (by omega), e5, Xi_ne (by omega), e4, Xi_ne (by omega), e3, Xi_ne (by omega), e2, Xi_ne (by omega), e1, Xi_ne (by omega)]
  have w78 : Xi U8 978 l.toNat = so := by rw [e8, Xi_ne (by omega), e7, Xi_ne (by omega), e6, Xi_ne (by omega), e5, Xi_ne (by omega), e4, Xi_ne (by omega), e3, Xi_ne (by omega), e2, Xi_ne (by omega), e1]; exact Xi_same ⟨by omega, by omega⟩
  have w84 : Xi U8 984 l.toNat = Xi S 904 117 := by rw [e8, Xi_ne (by omega), e7, Xi_ne (by omega), e6, Xi_ne (by omega), e5, Xi_ne (by omega), e4, Xi_ne (by omega), e3, Xi_ne (by omega), e2, d1]; exact Xi_same ⟨by omega, by omega⟩
  have w85 : Xi U8 985 l.toNat = t2 := by rw [e8, Xi_ne (by omega), e7, Xi_ne (by omega), e6, Xi_ne (by omega), e5, Xi_ne (by omega), e4, Xi_ne (by omega), e3]; exact Xi_same ⟨by omega, by omega⟩
  have w86 : Xi U8 986 l.toNat = Xi S 904 125 := by rw [e8, Xi_ne (by omega), e7, Xi_ne (by omega), e6, Xi_ne (by omega), e5, Xi_ne (by omega), e4, d3]; exact Xi_same ⟨by omega, by omega⟩
  have w87 : Xi U8 987 l.toNat = t4 := by rw [e8, Xi_ne (by omega), e7, Xi_ne (by omega), e6, Xi_ne (by omega), e5]; exact Xi_same ⟨by omega, by omega⟩
  have v17 : Xi U8 904 117 = Xi S 904 117 + t2 + t4 := by rw [e8, Xi_ne (by omega), e7, Xi_ne (by omega), e6, d5]; exact Xi_same ⟨by omega, by omega⟩
  have v25 : Xi U8 904 125 = Xi S 904 125 + t4 := by rw [e8, Xi_ne (by omega), e7, d6]; exact Xi_same ⟨by omega, by omega⟩
  have v30 : Xi U8 904 130 = l + 1 := by rw [e8, d7]; exact Xi_same ⟨by omega, by omega⟩
  have gp : GR U8 P := gr_m GR.rf (Int.le_of_eq (z 16 (by decide) (by decide) (by decide)).symm) (Int.le_of_eq (z 18 (by decide) (by decide) (by decide)).symm) (Int.le_of_eq (z 19 (by decide) (by decide) (by decide)).symm) (Int.le_of_eq (z 23 (by decide) (by decide) (by decide)).symm) (Int.le_of_eq (z 30 (by decide) (by decide) (by decide)).symm) (Int.le_of_eq (z 32 (by decide) (by decide) (by decide)).symm) (Int.le_of_eq (z 41 (by decide) (by decide) (by decide)).symm) (Int.le_of_eq (z 47 (by decide) (by decide) (by decide)).symm) (Int.le_of_eq (z 49 (by decide) (by decide) (by decide)).symm) (fun j _ => ⟨x 922 j (by decide) (by decide) (by decide) (by decide) (by decide) (by decide), x 923 j (by decide) (by decide) (by decide) (by decide) (by decide) (by decide), x 924 j (by decide) (by decide) (by decide) (by decide) (by decide) (by decide)⟩) (fun j _ => x 928 j (by decide) (by decide) (by decide) (by decide) (by decide) (by decide)) (fun j _ => x 942 j (by decide) (by decide) (by decide) (by decide) (by decide) (by decide))
  have g8 : GR U8 S := g.tr gp
  have q8 : ∀ k, 969 ≤ k → k ≤ 977 → ∀ i, Xi U8 k i = Xi P k i := fun k a b i => x k i (by omega) (by omega) (by omega) (by omega) (by omega) (by omega)
  have kt8 : KQL U8 S (Xi S 904 117) := fun i hi k a b => (q8 k a (by omega) i).trans (kt i hi k a b)
  have kp8 : KHL U8 S (Xi S 904 125) := fun i hi => ⟨(q8 976 (by decide) (by decide) i).trans (kp i hi).1, (q8 977 (by decide) (by decide) i).trans (kp i hi).2⟩
  have er : ∀ r : Nat, (r : Int) ≠ l → ∀ k, 978 ≤ k → k ≤ 987 → k ≠ 983 → Xi U8 k r = Xi S k r := fun r hr k a b c => by
    rw [y k r (by omega) (by omega)]
    obtain ⟨f1, f2, f3, f4, _⟩ := kr r hr
    rcases (by omega : k = 979 ∨ k = 980 ∨ k = 981 ∨ k = 982 ∨ (k = 978 ∨ (984 ≤ k ∧ k ≤ 987))) with h | h | h | h | h
    · rw [h]; exact f1
    · rw [h]; exact f2
    · rw [h]; exact f3
    · rw [h]; exact f4
    · exact k8 r k h
  have er3 : ∀ r : Nat, (r : Int) ≠ l → ∀ k : Nat, k < 6 → Xi U8 983 (6 * r + k) = Xi S 983 (6 * r + k) := fun r hr k hk => (x 983 _ (by decide) (by decide) (by decide) (by decide) (by decide) (by decide)).trans ((kr r hr).2.2.2.2 k hk)
  have x79 : Xi U8 979 l.toNat = Xi P 979 l.toNat := x 979 _ (by decide) (by decide) (by decide) (by decide) (by decide) (by decide)
  have z49 : Xi U8 904 49 = Xi P 904 49 := z 49 (by decide) (by decide) (by decide)
  have nm : nM U8 l.toNat ↔ nM P l.toNat := nm_gr gp x79 hr.2.1
  have hn : RU1 U8 l.toNat := by
    refine ⟨⟨by omega, by omega, ?_, ?_⟩, ?_, ?_, ?_, ?_⟩
    · have := hr.2.1; omega
    · rw [w78, x79]; exact h3
    · rw [x 981 _ (by decide) (by decide) (by decide) (by decide) (by decide) (by decide)]; exact fun q => nm.mpr (hr.1.1 q)
    · rw [x 982 _ (by decide) (by decide) (by decide) (by decide) (by decide) (by decide)]
      intro k hk
      rw [x 983 _ (by decide) (by decide) (by decide) (by decide) (by decide) (by decide)]
      have t := hr.1.2 k hk
      exact ⟨nm.mpr t.1, adm_gr gp.1.2.2.2.1 gp.1.2.2.2.2.2.1 t.2⟩
    · rw [w84, w85]
      intro k hk
      have t := ht (k : Int) (by omega) hk
      rw [show (Xi S 904 117 + (k : Int)).toNat = (Xi S 904 117).toNat + k by omega] at t
      exact (tq_gr gp (fun j a b => q8 j a (by omega) _) t).mono id (fun c => nm.mpr (hr.2.2.2 c))
    · rw [w86, w87]
      intro k hk
      obtain ⟨t, u⟩ := hp k hk
      exact PQ.mono (fun c => nm.mpr (hr.2.2.2 c)) (pq_gr gp (q8 976 (by decide) (by decide) _) (q8 977 (by decide) (by decide) _) (fun j a b => q8 j a (by omega) _) t)
  refine ⟨⟨rul_add hR hB hH g8 hl v30 er er3 kt8 kp8 hn, ?_⟩, g8, kt8⟩
  have f23 : Xi U8 904 23 = Xi S 904 23 := (z 23 (by decide) (by decide) (by decide)).trans e23
  refine ⟨by rw [v17, v25, v30, f23]; omega, fun a ha hp => ?_, fun r hr => ?_⟩
  · obtain ⟨_, p, q⟩ := g8.2.1 a (by omega)
    rw [q] at hp
    have t := hB.2.1 a (by omega) hp
    rw [p, q]
    omega
  · by_cases c : (r : Int) = l
    · rw [show r = l.toNat by omega, w84, w85, w86, w87, v17, v25]
      refine ⟨⟨by omega, by omega⟩, fun k hk => ?_⟩
      rw [q8 977 (by decide) (by decide), (hp k hk).2]
      omega
    · obtain ⟨⟨p1, p2⟩, p3⟩ := hB.2.2 r (by omega)
      have c6 : 0 ≤ Xi S 986 r := (hH.c 986 r).1
      rw [er r c 984 (by omega) (by omega) (by omega), er r c 985 (by omega) (by omega) (by omega), er r c 986 (by omega) (by omega) (by omega), er r c 987 (by omega) (by omega) (by omega), v17, v25]
      refine ⟨⟨by omega, by omega⟩, fun k hk => ?_⟩
      rw [(kp8 _ (by omega)).2]
      have := p3 k hk
      omega
def md_mo_ruleMeant : List rec := [(904, 905, 64, 65), (904, 905, 104, 105), (904, 905, 105, 106), (904, 905, 106, 107), (904, 905, 109, 110), (904, 905, 110, 111), (904, 905, 112, 113), (904, 905, 113, 114), (904, 905, 115, 116), (904, 905, 116, 117), (904, 905, 117, 118), (904, 905, 125, 126), (904, 905, 128, 129), (904, 905, 129, 130), (904, 905, 130, 131), (904, 905, 154, 155), (904, 905, 156, 157), (904, 905, 157, 158), (904, 905, 158, 159), (904, 905, 160, 161), (967, 968, 0, 100000), (968, 969, 0, 100000), (969, 970, 0, 100000), (970, 971, 0, 100000), (971, 972, 0, 100000), (972, 973, 0, 100000), (973, 974, 0, 100000), (974, 975, 0, 100000), (975, 976, 0, 100000), (976, 977, 0, 100000), (977, 978, 0, 100000), (978, 979, 0, 100000), (979, 980, 0, 100000), (980, 981, 0, 100000), (981, 982, 0, 100000), (982, 983, 0, 100000), (983, 984, 0, 100000), (984, 985, 0, 100000), (985, 986, 0, 100000), (986, 987, 0, 100000), (987, 988, 0, 100000), (993, 994, 0, 100000), (994, 995, 0, 100000)]
abbrev Q_mo_ruleMeant (S : sS) (n : Nat) (first : Int) : pst := fun r S1 => HI S1 ∧ FR md_mo_ruleMeant S S1 ∧ (r = none ∧ (Xi S1 904 106 = 0 → (RULM S1 ∧ TBX S1) ∧ GR S1 S ∧ KQL S1 S (Xi S 904 117)))
set_option maxRecDepth 100000 in
set_option maxHeartbeats 8000000 in
theorem c58_mo_ruleMeant {S : sS} (hH : HI S) (n : Nat) (first : Int) (hfirst : 0 ≤ first ∧ first ≤ 5001) (hT : TK S n) (hv : RNV S n) (hM : LXM S) (hB : ABV S) (hC : DCM S) (hK : TXK S n) (hX : TXM S) (ha : Xi S 904 70 ≠ 6 → Xi S 904 102 < Xi S 904 69 ∧ Xi S 904 103 < Xi S 904 69) (htv : TVA S n (Xi S 904 94)) (h94 : Xi S 904 94 ≤ 1668) (hpv : PVA S n (Xi S 904 98)) (hb6 : Xi S 904 94 + Xi S 904 98 ≤ 1666) (hR : RULM S) (hBX : TBX S) (h36 : 3 ≤ Xi S 904 70 ∧ Xi S 904 70 ≤ 6) (hPF : PF S) (d : Nat) : ∀ (n58 : Nat) (T1 : sS) (_ : HI T1) (_ : FR md_mo_ruleMeant S T1) (v2 : Int) (v3 : Int) (v4 : Int), (0 ≤ v2 ∧ v2 ≤ 23) → (0 ≤ v3 ∧ v3 ≤ 2180) → (0 ≤ v4 ∧ v4 ≤ 1700) → (Xi T1 904 69 = Xi S 904 69) → (Xi T1 904 70 = Xi S 904 70) → (Xi T1 904 94 = Xi S 904 94) → (Xi T1 904 98 = Xi S 904 98) → (Xi T1 904 117 = Xi S 904 117) → (Xi T1 904 125 = Xi S 904 125) → (Xi T1 904 130 = Xi S 904 130) → (Xi T1 904 23 = Xi S 904 23) → (Xi T1 904 93 = Xi S 904 93) → (Xi T1 904 115 = -1) → (0 ≤ v2 ∧ v2 ≤ 23) → (v2 ≤ Xi S 904 130) → (Xi T1 904 106 = 0 → v2 = Xi S 904 130) → (v3 = Xi S 904 117 + Xi S 904 94) → (v4 ≤ Xi S 904 98) → (Xi T1 904 106 = 0 → v4 ≤ 8) → (RLH T1 v2) → (KRL T1 S v2) → (KQL T1 S (Xi S 904 117)) → (KHL T1 S (Xi S 904 125)) → (K78 T1 S) → (GR T1 S) → (Xi T1 904 106 = 0 → Xi S 904 94 ≤ 6 ∧ TQA T1 False (0 ≤ Xi T1 904 116) (Xi S 904 117) (Xi S 904 94)) → (Xi T1 904 106 = 0 → PQS T1 (Xi S 904 125) v3 v4) → n58 = (1701 - v4).toNat → Rl lay0 (d + 11) m_mo_ruleMeant 58 [(0, .ref 904), (2, iv v2), (3, iv v3), (4, iv v4)] [] T1 (Q_mo_ruleMeant S n first) := by
  have hF : FR md_mo_ruleMeant S S := FR.rf
  have w1 : 0 ≤ Xi S 904 102 ∧ Xi S 904 102 ≤ 2600 := hH.c _ _
  have w2 : -1 ≤ Xi S 904 103 ∧ Xi S 904 103 ≤ 2600 := hH.c _ _
  have w3 : 0 ≤ Xi S 904 106 ∧ Xi S 904 106 ≤ 9 := hH.c _ _
  have w4 : -1 ≤ Xi S 904 115 ∧ Xi S 904 115 ≤ 15 := hH.c _ _
  have w5 : -1 ≤ Xi S 904 116 ∧ Xi S 904 116 ≤ 15 := hH.c _ _
  have w6 : 0 ≤ Xi S 904 117 ∧ Xi S 904 117 ≤ 480 := hH.c _ _
  have w7 : 0 ≤ Xi S 904 125 ∧ Xi S 904 125 ≤ 192 := hH.c _ _
  have w8 : 0 ≤ Xi S 904 130 ∧ Xi S 904 130 ≤ 24 := hH.c _ _
  have w9 : 0 ≤ Xi S 904 23 ∧ Xi S 904 23 ≤ 24 := hH.c _ _
  have w10 : 0 ≤ Xi S 904 69 ∧ Xi S 904 69 ≤ 2600 := hH.c _ _
  have w11 : 0 ≤ Xi S 904 70 ∧ Xi S 904 70 ≤ 20 := hH.c _ _
  have w12 : 0 ≤ Xi S 904 93 ∧ Xi S 904 93 ≤ 1700 := hH.c _ _
  have w13 : 0 ≤ Xi S 904 94 ∧ Xi S 904 94 ≤ 1700 := hH.c _ _
  have w14 : 0 ≤ Xi S 904 98 ∧ Xi S 904 98 ≤ 1700 := hH.c _ _
  have hn5 := hT.1
  have hq0 : KQL S S (Xi S 904 117) := KQL.rf
  have hh0 : KHL S S (Xi S 904 125) := KHL.rf
  have h780 : K78 S S := K78.rf
  have hc117 : 0 ≤ Xi S 904 117 ∧ Xi S 904 117 ≤ 480 := hH.c _ _
  have hc125 : 0 ≤ Xi S 904 125 ∧ Xi S 904 125 ≤ 192 := hH.c _ _
  have hc130 : 0 ≤ Xi S 904 130 ∧ Xi S 904 130 ≤ 24 := hH.c _ _
  have hc93 : 0 ≤ Xi S 904 93 ∧ Xi S 904 93 ≤ 1700 := hH.c _ _
  have hc94 : 0 ≤ Xi S 904 94 ∧ Xi S 904 94 ≤ 1700 := hH.c _ _
  have hc98 : 0 ≤ Xi S 904 98 ∧ Xi S 904 98 ≤ 1700 := hH.c _ _
  have hb1 : Xi S 904 117 ≤ 14 * Xi S 904 130 + 6 * Xi S 904 23 := hBX.1.1
  have hb2 : Xi S 904 125 ≤ 8 * Xi S 904 130 := hBX.1.2
  have hc23 : 0 ≤ Xi S 904 23 ∧ Xi S 904 23 ≤ 24 := hH.c _ _
  intro n58
  induction n58 using Nat.strongRecOn with
  | ind n58 ih58 =>
    intro T1 hHT1 hFT1 v2 v3 v4 w15 w16 w17 w18 w19 w20 w21 w22 w23 w24 w25 w26 w27 w28 w29 w30 w31 w32 w33 R58 L58 Q58 H58 E58 G58 t7_58 P58 hm58
    have w34 : Xi T1 904 102 = Xi S 904 102 := hFT1.x _ _ rfl
    have w35 : Xi T1 904 103 = Xi S 904 103 := hFT1.x _ _ rfl
    have w36 : Xi T1 904 23 = Xi S 904 23 := hFT1.x _ _ rfl
    have w37 : Xi T1 904 49 = Xi S 904 49 := hFT1.x _ _ rfl
    have w38 : Xi T1 904 69 = Xi S 904 69 := hFT1.x _ _ rfl
    have w39 : Xi T1 904 70 = Xi S 904 70 := hFT1.x _ _ rfl
    have w40 : Xi T1 904 93 = Xi S 904 93 := hFT1.x _ _ rfl
    have w41 : Xi T1 904 94 = Xi S 904 94 := hFT1.x _ _ rfl
    have w42 : Xi T1 904 98 = Xi S 904 98 := hFT1.x _ _ rfl
    have w43 : 0 ≤ Xi T1 904 106 ∧ Xi T1 904 106 ≤ 9 := hHT1.c _ _
    have w44 : -1 ≤ Xi T1 904 115 ∧ Xi T1 904 115 ≤ 15 := hHT1.c _ _
    have w45 : -1 ≤ Xi T1 904 116 ∧ Xi T1 904 116 ≤ 15 := hHT1.c _ _
    have w46 : 0 ≤ Xi T1 904 117 ∧ Xi T1 904 117 ≤ 480 := hHT1.c _ _
    have w47 : 0 ≤ Xi T1 904 125 ∧ Xi T1 904 125 ≤ 192 := hHT1.c _ _
    have w48 : 0 ≤ Xi T1 904 130 ∧ Xi T1 904 130 ≤ 24 := hHT1.c _ _
    have w49 : 0 ≤ Xi T1 904 23 ∧ Xi T1 904 23 ≤ 24 := hHT1.c _ _
    have w50 : 0 ≤ Xi T1 904 69 ∧ Xi T1 904 69 ≤ 2600 := hHT1.c _ _
    have w51 : 0 ≤ Xi T1 904 70 ∧ Xi T1 904 70 ≤ 20 := hHT1.c _ _
    have w52 : 0 ≤ Xi T1 904 93 ∧ Xi T1 904 93 ≤ 1700 := hHT1.c _ _
    have w53 : 0 ≤ Xi T1 904 94 ∧ Xi T1 904 94 ≤ 1700 := hHT1.c _ _
    have w54 : 0 ≤ Xi T1 904 98 ∧ Xi T1 904 98 ≤ 1700 := hHT1.c _ _
    refine l_iload rfl rfl ?_
    refine l_aload_n rfl rfl ?_
    refine l_gfi rfl rfl rfl rfl rfl ?_
    refine l_icmp_ge rfl rfl (by unfold rg; omega) (by unfold rg; omega) (fun w55 => ?_) (fun w56 => ?_)
    · refine l_aload_n rfl rfl ?_
      refine l_gfi rfl rfl rfl rfl rfl ?_
      refine l_if_ne rfl rfl (by unfold rg; omega) (fun w57 => ?_) (fun w58 => ?_)
      · refine l_return rfl rfl ?_
        have w59 : 0 ≤ Xi T1 904 102 ∧ Xi T1 904 102 ≤ 2600 := hHT1.c _ _
        have w60 : -1 ≤ Xi T1 904 103 ∧ Xi T1 904 103 ≤ 2600 := hHT1.c _ _
        exact ⟨hHT1, hFT1, rfl, (by first | exact fun q => absurd q (by omega) | exact fun q => rul_new hR hBX hH G58 (by omega) (by omega) (by omega) (by omega) (fun e => by first | exact absurd e (by decide) | exact R58.2.2.1 (by omega)) R58 L58 E58 Q58 H58 (by have t := (t7_58 (by omega)).1; omega) (by omega) (t7_58 (by omega)).2 (by have u := P58 (by omega); rw [show v3 = Xi S 904 117 + Xi S 904 94 by omega, show v4 = Xi S 904 98 by omega] at u; exact u) (by omega) (by omega) (by omega) (by omega) (by omega) (by omega) (by omega) (by omega) )⟩
      · refine l_aload_n rfl rfl ?_
        have e122 : Xi S 904 94 ≤ 6 := (t7_58 (by omega)).1
        refine l_gfr rfl rfl rfl rfl rfl (hHT1.r 904 131 978 rfl) ?_
        refine l_iload_n rfl rfl ?_
        refine l_aload_n rfl rfl ?_
        refine l_gfi rfl rfl rfl rfl rfl ?_
        refine l_iconst rfl ?_
        refine l_icmp_ne rfl rfl (by unfold rg; omega) (by unfold rg; omega) (fun w72 => ?_) (fun w73 => ?_)
        · refine l_aload_n rfl rfl ?_
          refine l_gfi rfl rfl rfl rfl rfl ?_
          refine l_iconst rfl ?_
          refine l_icmp_ne rfl rfl (by unfold rg; omega) (by unfold rg; omega) (fun w74 => ?_) (fun w75 => ?_)
          · refine l_aload_n rfl rfl ?_
            refine l_gfi rfl rfl rfl rfl rfl ?_
            refine l_iconst rfl ?_
            refine l_icmp_ne rfl rfl (by unfold rg; omega) (by unfold rg; omega) (fun w76 => ?_) (fun w77 => ?_)
            · refine l_iconst rfl ?_
              refine l_iastore (n := 24) rfl rfl (by omega) (by omega) (by unfold rg; omega) ?_
              obtain ⟨U2, eU2⟩ : ∃ T : sS, T = uI T1 978 ((v2).toNat) (Int32.ofInt 3) := ⟨_, rfl⟩
              rw [← eU2]
              have hHU2 : HI U2 := by rw [eU2]; exact HI_w hHT1 (show 0 ≤ 3 by omega) (show 3 ≤ 3 by omega)
              have hFU2 : FR md_mo_ruleMeant S U2 := by rw [eU2]; exact FR.wI hFT1 (mdf_i (r := (978, 979, 0, 100000)) (List.mem_of_getElem? (i := 31) rfl) (inR_i (by omega) (by omega) (by omega) (by omega)))
              have w78 : Xi U2 978 ((v2).toNat) = 3 := by rw [eU2]; exact Xi_same (by unfold rg; omega)
              refine l_aload_n rfl rfl ?_
              refine l_gfr rfl rfl rfl rfl rfl (hHU2.r 904 137 984 rfl) ?_
              refine l_iload_n rfl rfl ?_
              refine l_aload_n rfl rfl ?_
              refine l_gfi rfl rfl rfl rfl rfl ?_
              have w79 : (Xi U2 904 117) = (Xi T1 904 117) := (show Xi U2 904 117 = Xi T1 904 117 from by rw [eU2]; exact Xi_ne (by omega))
              rw [w79]
              refine l_iastore (n := 24) rfl rfl (by omega) (by omega) (by unfold rg; omega) ?_
              obtain ⟨U3, eU3⟩ : ∃ T : sS, T = uI U2 984 ((v2).toNat) (Int32.ofInt (Xi T1 904 117)) := ⟨_, rfl⟩
              rw [← eU3]
              have hHU3 : HI U3 := by rw [eU3]; exact HI_w hHU2 (show 0 ≤ (Xi T1 904 117) by omega) (show (Xi T1 904 117) ≤ 480 by omega)
              have hFU3 : FR md_mo_ruleMeant S U3 := by rw [eU3]; exact FR.wI hFU2 (mdf_i (r := (984, 985, 0, 100000)) (List.mem_of_getElem? (i := 37) rfl) (inR_i (by omega) (by omega) (by omega) (by omega)))
              have w80 : Xi U3 984 ((v2).toNat) = (Xi T1 904 117) := by rw [eU3]; exact Xi_same (by unfold rg; omega)
              refine l_aload_n rfl rfl ?_
              refine l_gfr rfl rfl rfl rfl rfl (hHU3.r 904 138 985 rfl) ?_
              refine l_iload_n rfl rfl ?_
              refine l_aload_n rfl rfl ?_
              refine l_gfi rfl rfl rfl rfl rfl ?_
              have w81 : (Xi U3 904 94) = (Xi T1 904 94) := (show Xi U3 904 94 = Xi U2 904 94 from by rw [eU3]; exact Xi_ne (by omega)).trans ((show Xi U2 904 94 = Xi T1 904 94 from by rw [eU2]; exact Xi_ne (by omega)))
              rw [w81]
              refine l_iastore (n := 24) rfl rfl (by omega) (by omega) (by unfold rg; omega) ?_
              obtain ⟨U4, eU4⟩ : ∃ T : sS, T = uI U3 985 ((v2).toNat) (Int32.ofInt (Xi T1 904 94)) := ⟨_, rfl⟩
              rw [← eU4]
              have hHU4 : HI U4 := by rw [eU4]; exact HI_w hHU3 (show 0 ≤ (Xi T1 904 94) by omega) (show (Xi T1 904 94) ≤ 6 by omega)
              have hFU4 : FR md_mo_ruleMeant S U4 := by rw [eU4]; exact FR.wI hFU3 (mdf_i (r := (985, 986, 0, 100000)) (List.mem_of_getElem? (i := 38) rfl) (inR_i (by omega) (by omega) (by omega) (by omega)))
              have w82 : Xi U4 985 ((v2).toNat) = (Xi T1 904 94) := by rw [eU4]; exact Xi_same (by unfold rg; omega)
              refine l_aload_n rfl rfl ?_
              refine l_gfr rfl rfl rfl rfl rfl (hHU4.r 904 139 986 rfl) ?_
              refine l_iload_n rfl rfl ?_
              refine l_aload_n rfl rfl ?_
              refine l_gfi rfl rfl rfl rfl rfl ?_
              have w83 : (Xi U4 904 125) = (Xi T1 904 125) := (show Xi U4 904 125 = Xi U3 904 125 from by rw [eU4]; exact Xi_ne (by omega)).trans ( (show Xi U3 904 125 = Xi U2 904 125 from by rw [eU3]; exact Xi_ne (by omega)).trans ((show Xi U2 904 125 = Xi T1 904 125 from by rw [eU2]; exact Xi_ne (by omega))))
              rw [w83]
              refine l_iastore (n := 24) rfl rfl (by omega) (by omega) (by unfold rg; omega) ?_
              obtain ⟨U5, eU5⟩ : ∃ T : sS, T = uI U4 986 ((v2).toNat) (Int32.ofInt (Xi T1 904 125)) := ⟨_, rfl⟩
              rw [← eU5]
              have hHU5 : HI U5 := by rw [eU5]; exact HI_w hHU4 (show 0 ≤ (Xi T1 904 125) by omega) (show (Xi T1 904 125) ≤ 192 by omega)
              have hFU5 : FR md_mo_ruleMeant S U5 := by rw [eU5]; exact FR.wI hFU4 (mdf_i (r := (986, 987, 0, 100000)) (List.mem_of_getElem? (i := 39) rfl) (inR_i (by omega) (by omega) (by omega) (by omega)))
              have w84 : Xi U5 986 ((v2).toNat) = (Xi T1 904 125) := by rw [eU5]; exact Xi_same (by unfold rg; omega)
              refine l_aload_n rfl rfl ?_
              refine l_gfr rfl rfl rfl rfl rfl (hHU5.r 904 140 987 rfl) ?_
              refine l_iload_n rfl rfl ?_
              refine l_aload_n rfl rfl ?_
              refine l_gfi rfl rfl rfl rfl rfl ?_
              have w85 : (Xi U5 904 98) = (Xi T1 904 98) := (show Xi U5 904 98 = Xi U4 904 98 from by rw [eU5]; exact Xi_ne (by omega)).trans ( (show Xi U4 904 98 = Xi U3 904 98 from by rw [eU4]; exact Xi_ne (by omega)).trans ( (show Xi U3 904 98 = Xi U2 904 98 from by rw [eU3]; exact Xi_ne (by omega)).trans ((show Xi U2 904 98 = Xi T1 904 98 from by rw [eU2]; exact Xi_ne (by omega)))))
              rw [w85]
              refine l_iastore (n := 24) rfl rfl (by omega) (by omega) (by unfold rg; omega) ?_
              obtain ⟨U6, eU6⟩ : ∃ T : sS, T = uI U5 987 ((v2).toNat) (Int32.ofInt (Xi T1 904 98)) := ⟨_, rfl⟩
              rw [← eU6]
              have hHU6 : HI U6 := by rw [eU6]; exact HI_w hHU5 (show 0 ≤ (Xi T1 904 98) by omega) (show (Xi T1 904 98) ≤ 8 by omega)
              have hFU6 : FR md_mo_ruleMeant S U6 := by rw [eU6]; exact FR.wI hFU5 (mdf_i (r := (987, 988, 0, 100000)) (List.mem_of_getElem? (i := 40) rfl) (inR_i (by omega) (by omega) (by omega) (by omega)))
              have w86 : Xi U6 987 ((v2).toNat) = (Xi T1 904 98) := by rw [eU6]; exact Xi_same (by unfold rg; omega)
              refine l_aload_n rfl rfl ?_
              refine l_iload_n rfl rfl ?_
              refine l_aload_n rfl rfl ?_
              refine l_gfi rfl rfl rfl rfl rfl ?_
              have w87 : (Xi U6 904 98) = (Xi T1 904 98) := (show Xi U6 904 98 = Xi U5 904 98 from by rw [eU6]; exact Xi_ne (by omega)).trans ( (show Xi U5 904 98 = Xi U4 904 98 from by rw [eU5]; exact Xi_ne (by omega)).trans ( (show Xi U4 904 98 = Xi U3 904 98 from by rw [eU4]; exact Xi_ne (by omega)).trans ( (show Xi U3 904 98 = Xi U2 904 98 from by rw [eU3]; exact Xi_ne (by omega)).trans ((show Xi U2 904 98 = Xi T1 904 98 from by rw [eU2]; exact Xi_ne (by omega))))))
              rw [w87]
              refine l_iadd rfl ?_
              refine l_pfi rfl rfl rfl rfl ?_
              obtain ⟨U7, eU7⟩ : ∃ T : sS, T = uI U6 904 117 (Int32.ofInt (v3 + (Xi T1 904 98))) := ⟨_, rfl⟩
              rw [← eU7]
              have hHU7 : HI U7 := by rw [eU7]; exact HI_w hHU6 (show 0 ≤ (v3 + (Xi T1 904 98)) by omega) (show (v3 + (Xi T1 904 98)) ≤ 480 by omega)
              have hFU7 : FR md_mo_ruleMeant S U7 := by rw [eU7]; exact FR.wI hFU6 (mdf_i (r := (904, 905, 117, 118)) (List.mem_of_getElem? (i := 10) rfl) (inR_i (by omega) (by omega) (by omega) (by omega)))
              have w88 : Xi U7 904 117 = (v3 + (Xi T1 904 98)) := by rw [eU7]; exact Xi_same (by unfold rg; omega)
              refine l_aload_n rfl rfl ?_
              refine l_dup rfl rfl ?_
              refine l_gfi rfl rfl rfl rfl rfl ?_
              have w89 : (Xi U7 904 125) = (Xi T1 904 125) := (show Xi U7 904 125 = Xi U6 904 125 from by rw [eU7]; exact Xi_ne (by omega)).trans ( (show Xi U6 904 125 = Xi U5 904 125 from by rw [eU6]; exact Xi_ne (by omega)).trans ( (show Xi U5 904 125 = Xi U4 904 125 from by rw [eU5]; exact Xi_ne (by omega)).trans ( (show Xi U4 904 125 = Xi U3 904 125 from by rw [eU4]; exact Xi_ne (by omega)).trans ( (show Xi U3 904 125 = Xi U2 904 125 from by rw [eU3]; exact Xi_ne (by omega)).trans ((show Xi U2 904 125 = Xi T1 904 125 from by rw [eU2]; exact Xi_ne (by omega)))))))
              rw [w89]
              refine l_aload_n rfl rfl ?_
              refine l_gfi rfl rfl rfl rfl rfl ?_
              have w90 : (Xi U7 904 98) = (Xi T1 904 98) := (show Xi U7 904 98 = Xi U6 904 98 from by rw [eU7]; exact Xi_ne (by omega)).trans ( (show Xi U6 904 98 = Xi U5 904 98 from by rw [eU6]; exact Xi_ne (by omega)).trans ( (show Xi U5 904 98 = Xi U4 904 98 from by rw [eU5]; exact Xi_ne (by omega)).trans ( (show Xi U4 904 98 = Xi U3 904 98 from by rw [eU4]; exact Xi_ne (by omega)).trans ( (show Xi U3 904 98 = Xi U2 904 98 from by rw [eU3]; exact Xi_ne (by omega)).trans ((show Xi U2 904 98 = Xi T1 904 98 from by rw [eU2]; exact Xi_ne (by omega)))))))
              rw [w90]
              refine l_iadd rfl ?_
              refine l_pfi rfl rfl rfl rfl ?_
              obtain ⟨U8, eU8⟩ : ∃ T : sS, T = uI U7 904 125 (Int32.ofInt ((Xi T1 904 125) + (Xi T1 904 98))) := ⟨_, rfl⟩
              rw [← eU8]
              have hHU8 : HI U8 := by rw [eU8]; exact HI_w hHU7 (show 0 ≤ ((Xi T1 904 125) + (Xi T1 904 98)) by omega) (show ((Xi T1 904 125) + (Xi T1 904 98)) ≤ 192 by omega)
              have hFU8 : FR md_mo_ruleMeant S U8 := by rw [eU8]; exact FR.wI hFU7 (mdf_i (r := (904, 905, 125, 126)) (List.mem_of_getElem? (i := 11) rfl) (inR_i (by omega) (by omega) (by omega) (by omega)))
              have w91 : Xi U8 904 125 = ((Xi T1 904 125) + (Xi T1 904 98)) := by rw [eU8]; exact Xi_same (by unfold rg; omega)
              refine l_aload_n rfl rfl ?_
              refine l_dup rfl rfl ?_
              refine l_gfi rfl rfl rfl rfl rfl ?_
              have w92 : (Xi U8 904 130) = (Xi T1 904 130) := (show Xi U8 904 130 = Xi U7 904 130 from by rw [eU8]; exact Xi_ne (by omega)).trans ( (show Xi U7 904 130 = Xi U6 904 130 from by rw [eU7]; exact Xi_ne (by omega)).trans ( (show Xi U6 904 130 = Xi U5 904 130 from by rw [eU6]; exact Xi_ne (by omega)).trans ( (show Xi U5 904 130 = Xi U4 904 130 from by rw [eU5]; exact Xi_ne (by omega)).trans ( (show Xi U4 904 130 = Xi U3 904 130 from by rw [eU4]; exact Xi_ne (by omega)).trans ( (show Xi U3 904 130 = Xi U2 904 130 from by rw [eU3]; exact Xi_ne (by omega)).trans ((show Xi U2 904 130 = Xi T1 904 130 from by rw [eU2]; exact Xi_ne (by omega))))))))
              rw [w92]
              refine l_iconst rfl ?_
              refine l_iadd rfl ?_
              refine l_pfi rfl rfl rfl rfl ?_
              obtain ⟨U9, eU9⟩ : ∃ T : sS, T = uI U8 904 130 (Int32.ofInt ((Xi T1 904 130) + 1)) := ⟨_, rfl⟩
              rw [← eU9]
              have hHU9 : HI U9 := by rw [eU9]; exact HI_w hHU8 (show 0 ≤ ((Xi T1 904 130) + 1) by omega) (show ((Xi T1 904 130) + 1) ≤ 24 by omega)
              have hFU9 : FR md_mo_ruleMeant S U9 := by rw [eU9]; exact FR.wI hFU8 (mdf_i (r := (904, 905, 130, 131)) (List.mem_of_getElem? (i := 14) rfl) (inR_i (by omega) (by omega) (by omega) (by omega)))
              have w93 : Xi U9 904 130 = ((Xi T1 904 130) + 1) := by rw [eU9]; exact Xi_same (by unfold rg; omega)
              refine l_return rfl rfl ?_
              have w94 : Xi U9 904 102 = Xi T1 904 102 := (show Xi U9 904 102 = Xi U8 904 102 from by rw [eU9]; exact Xi_ne (by omega)).trans ( (show Xi U8 904 102 = Xi U7 904 102 from by rw [eU8]; exact Xi_ne (by omega)).trans ( (show Xi U7 904 102 = Xi U6 904 102 from by rw [eU7]; exact Xi_ne (by omega)).trans ( (show Xi U6 904 102 = Xi U5 904 102 from by rw [eU6]; exact Xi_ne (by omega)).trans ( (show Xi U5 904 102 = Xi U4 904 102 from by rw [eU5]; exact Xi_ne (by omega)).trans ( (show Xi U4 904 102 = Xi U3 904 102 from by rw [eU4]; exact Xi_ne (by omega)).trans ( (show Xi U3 904 102 = Xi U2 904 102 from by rw [eU3]; exact Xi_ne (by omega)).trans ((show Xi U2 904 102 = Xi T1 904 102 from by rw [eU2]; exact Xi_ne (by omega)))))))))
              have w95 : 0 ≤ Xi T1 904 102 ∧ Xi T1 904 102 ≤ 2600 := hHT1.c _ _
              have w96 : Xi U9 904 103 = Xi T1 904 103 := (show Xi U9 904 103 = Xi U8 904 103 from by rw [eU9]; exact Xi_ne (by omega)).trans ( (show Xi U8 904 103 = Xi U7 904 103 from by rw [eU8]; exact Xi_ne (by omega)).trans ( (show Xi U7 904 103 = Xi U6 904 103 from by rw [eU7]; exact Xi_ne (by omega)).trans ( (show Xi U6 904 103 = Xi U5 904 103 from by rw [eU6]; exact Xi_ne (by omega)).trans ( (show Xi U5 904 103 = Xi U4 904 103 from by rw [eU5]; exact Xi_ne (by omega)).trans ( (show Xi U4 904 103 = Xi U3 904 103 from by rw [eU4]; exact Xi_ne (by omega)).trans ( (show Xi U3 904 103 = Xi U2 904 103 from by rw [eU3]; exact Xi_ne (by omega)).trans ((show Xi U2 904 103 = Xi T1 904 103 from by rw [eU2]; exact Xi_ne (by omega)))))))))
              have w97 : -1 ≤ Xi T1 904 103 ∧ Xi T1 904 103 ≤ 2600 := hHT1.c _ _
              have w98 : Xi U9 904 106 = Xi T1 904 106 := (show Xi U9 904 106 = Xi U8 904 106 from by rw [eU9]; exact Xi_ne (by omega)).trans ( (show Xi U8 904 106 = Xi U7 904 106 from by rw [eU8]; exact Xi_ne (by omega)).trans ( (show Xi U7 904 106 = Xi U6 904 106 from by rw [eU7]; exact Xi_ne (by omega)).trans ( (show Xi U6 904 106 = Xi U5 904 106 from by rw [eU6]; exact Xi_ne (by omega)).trans ( (show Xi U5 904 106 = Xi U4 904 106 from by rw [eU5]; exact Xi_ne (by omega)).trans ( (show Xi U4 904 106 = Xi U3 904 106 from by rw [eU4]; exact Xi_ne (by omega)).trans ( (show Xi U3 904 106 = Xi U2 904 106 from by rw [eU3]; exact Xi_ne (by omega)).trans ((show Xi U2 904 106 = Xi T1 904 106 from by rw [eU2]; exact Xi_ne (by omega)))))))))
              have w100 : Xi U9 904 115 = Xi T1 904 115 := (show Xi U9 904 115 = Xi U8 904 115 from by rw [eU9]; exact Xi_ne (by omega)).trans ( (show Xi U8 904 115 = Xi U7 904 115 from by rw [eU8]; exact Xi_ne (by omega)).trans ( (show Xi U7 904 115 = Xi U6 904 115 from by rw [eU7]; exact Xi_ne (by omega)).trans ( (show Xi U6 904 115 = Xi U5 904 115 from by rw [eU6]; exact Xi_ne (by omega)).trans ( (show Xi U5 904 115 = Xi U4 904 115 from by rw [eU5]; exact Xi_ne (by omega)).trans ( (show Xi U4 904 115 = Xi U3 904 115 from by rw [eU4]; exact Xi_ne (by omega)).trans ( (show Xi U3 904 115 = Xi U2 904 115 from by rw [eU3]; exact Xi_ne (by omega)).trans ((show Xi U2 904 115 = Xi T1 904 115 from by rw [eU2]; exact Xi_ne (by omega)))))))))
              have w102 : Xi U9 904 117 = Xi U7 904 117 := (show Xi U9 904 117 = Xi U8 904 117 from by rw [eU9]; exact Xi_ne (by omega)).trans ((show Xi U8 904 117 = Xi U7 904 117 from by rw [eU8]; exact Xi_ne (by omega)))
              have w103 : 0 ≤ Xi U7 904 117 ∧ Xi U7 904 117 ≤ 480 := hHU7.c _ _
              have w104 : Xi U9 904 125 = Xi U8 904 125 := (show Xi U9 904 125 = Xi U8 904 125 from by rw [eU9]; exact Xi_ne (by omega))
              have w105 : 0 ≤ Xi U8 904 125 ∧ Xi U8 904 125 ≤ 192 := hHU8.c _ _
              have w106 : 0 ≤ Xi U9 904 130 ∧ Xi U9 904 130 ≤ 24 := hHU9.c _ _
              have w107 : Xi U9 904 23 = Xi T1 904 23 := (show Xi U9 904 23 = Xi U8 904 23 from by rw [eU9]; exact Xi_ne (by omega)).trans ( (show Xi U8 904 23 = Xi U7 904 23 from by rw [eU8]; exact Xi_ne (by omega)).trans ( (show Xi U7 904 23 = Xi U6 904 23 from by rw [eU7]; exact Xi_ne (by omega)).trans ( (show Xi U6 904 23 = Xi U5 904 23 from by rw [eU6]; exact Xi_ne (by omega)).trans ( (show Xi U5 904 23 = Xi U4 904 23 from by rw [eU5]; exact Xi_ne (by omega)).trans ( (show Xi U4 904 23 = Xi U3 904 23 from by rw [eU4]; exact Xi_ne (by omega)).trans ( (show Xi U3 904 23 = Xi U2 904 23 from by rw [eU3]; exact Xi_ne (by omega)).trans ((show Xi U2 904 23 = Xi T1 904 23 from by rw [eU2]; exact Xi_ne (by omega)))))))))
              have w109 : Xi U9 904 69 = Xi T1 904 69 := (show Xi U9 904 69 = Xi U8 904 69 from by rw [eU9]; exact Xi_ne (by omega)).trans ( (show Xi U8 904 69 = Xi U7 904 69 from by rw [eU8]; exact Xi_ne (by omega)).trans ( (show Xi U7 904 69 = Xi U6 904 69 from by rw [eU7]; exact Xi_ne (by omega)).trans ( (show Xi U6 904 69 = Xi U5 904 69 from by rw [eU6]; exact Xi_ne (by omega)).trans ( (show Xi U5 904 69 = Xi U4 904 69 from by rw [eU5]; exact Xi_ne (by omega)).trans ( (show Xi U4 904 69 = Xi U3 904 69 from by rw [eU4]; exact Xi_ne (by omega)).trans ( (show Xi U3 904 69 = Xi U2 904 69 from by rw [eU3]; exact Xi_ne (by omega)).trans ((show Xi U2 904 69 = Xi T1 904 69 from by rw [eU2]; exact Xi_ne (by omega)))))))))
              have w111 : Xi U9 904 70 = Xi T1 904 70 := (show Xi U9 904 70 = Xi U8 904 70 from by rw [eU9]; exact Xi_ne (by omega)).trans ( (show Xi U8 904 70 = Xi U7 904 70 from by rw [eU8]; exact Xi_ne (by omega)).trans ( (show Xi U7 904 70 = Xi U6 904 70 from by rw [eU7]; exact Xi_ne (by omega)).trans ( (show Xi U6 904 70 = Xi U5 904 70 from by rw [eU6]; exact Xi_ne (by omega)).trans ( (show Xi U5 904 70 = Xi U4 904 70 from by rw [eU5]; exact Xi_ne (by omega)).trans ( (show Xi U4 904 70 = Xi U3 904 70 from by rw [eU4]; exact Xi_ne (by omega)).trans ( (show Xi U3 904 70 = Xi U2 904 70 from by rw [eU3]; exact Xi_ne (by omega)).trans ((show Xi U2 904 70 = Xi T1 904 70 from by rw [eU2]; exact Xi_ne (by omega)))))))))
              have w113 : Xi U9 904 93 = Xi T1 904 93 := (show Xi U9 904 93 = Xi U8 904 93 from by rw [eU9]; exact Xi_ne (by omega)).trans ( (show Xi U8 904 93 = Xi U7 904 93 from by rw [eU8]; exact Xi_ne (by omega)).trans ( (show Xi U7 904 93 = Xi U6 904 93 from by rw [eU7]; exact Xi_ne (by omega)).trans ( (show Xi U6 904 93 = Xi U5 904 93 from by rw [eU6]; exact Xi_ne (by omega)).trans ( (show Xi U5 904 93 = Xi U4 904 93 from by rw [eU5]; exact Xi_ne (by omega)).trans ( (show Xi U4 904 93 = Xi U3 904 93 from by rw [eU4]; exact Xi_ne (by omega)).trans ( (show Xi U3 904 93 = Xi U2 904 93 from by rw [eU3]; exact Xi_ne (by omega)).trans ((show Xi U2 904 93 = Xi T1 904 93 from by rw [eU2]; exact Xi_ne (by omega)))))))))
              have w115 : Xi U9 904 94 = Xi T1 904 94 := (show Xi U9 904 94 = Xi U8 904 94 from by rw [eU9]; exact Xi_ne (by omega)).trans ( (show Xi U8 904 94 = Xi U7 904 94 from by rw [eU8]; exact Xi_ne (by omega)).trans ( (show Xi U7 904 94 = Xi U6 904 94 from by rw [eU7]; exact Xi_ne (by omega)).trans ( (show Xi U6 904 94 = Xi U5 904 94 from by rw [eU6]; exact Xi_ne (by omega)).trans ( (show Xi U5 904 94 = Xi U4 904 94 from by rw [eU5]; exact Xi_ne (by omega)).trans ( (show Xi U4 904 94 = Xi U3 904 94 from by rw [eU4]; exact Xi_ne (by omega)).trans ( (show Xi U3 904 94 = Xi U2 904 94 from by rw [eU3]; exact Xi_ne (by omega)).trans ((show Xi U2 904 94 = Xi T1 904 94 from by rw [eU2]; exact Xi_ne (by omega)))))))))
              have w117 : Xi U9 904 98 = Xi T1 904 98 := (show Xi U9 904 98 = Xi U8 904 98 from by rw [eU9]; exact Xi_ne (by omega)).trans ( (show Xi U8 904 98 = Xi U7 904 98 from by rw [eU8]; exact Xi_ne (by omega)).trans ( (show Xi U7 904 98 = Xi U6 904 98 from by rw [eU7]; exact Xi_ne (by omega)).trans ( (show Xi U6 904 98 = Xi U5 904 98 from by rw [eU6]; exact Xi_ne (by omega)).trans ( (show Xi U5 904 98 = Xi U4 904 98 from by rw [eU5]; exact Xi_ne (by omega)).trans ( (show Xi U4 904 98 = Xi U3 904 98 from by rw [eU4]; exact Xi_ne (by omega)).trans ( (show Xi U3 904 98 = Xi U2 904 98 from by rw [eU3]; exact Xi_ne (by omega)).trans ((show Xi U2 904 98 = Xi T1 904 98 from by rw [eU2]; exact Xi_ne (by omega)))))))))
              exact ⟨hHU9, hFU9, rfl, (by first | exact fun q => absurd q (by omega) | exact fun q => rul_new hR hBX hH G58 (by omega) (by omega) (by omega) (by omega) (fun e => by first | exact absurd e (by decide) | exact R58.2.2.1 (by omega)) R58 L58 E58 Q58 H58 (by have t := (t7_58 (by omega)).1; omega) (by omega) (t7_58 (by omega)).2 (by have u := P58 (by omega); rw [show v3 = Xi S 904 117 + Xi S 904 94 by omega, show v4 = Xi S 904 98 by omega] at u; exact u) (by omega) (by omega) (by omega) (by omega) (by omega) (by omega) (by omega) (by omega) eU2 eU3 eU4 eU5 eU6 eU7 eU8 eU9)⟩
            · refine l_iconst rfl ?_
              refine l_goto rfl rfl ?_
              refine l_iastore (n := 24) rfl rfl (by omega) (by omega) (by unfold rg; omega) ?_
              obtain ⟨U10, eU10⟩ : ∃ T : sS, T = uI T1 978 ((v2).toNat) (Int32.ofInt 2) := ⟨_, rfl⟩
              rw [← eU10]
              have hHU10 : HI U10 := by rw [eU10]; exact HI_w hHT1 (show 0 ≤ 2 by omega) (show 2 ≤ 3 by omega)
              have hFU10 : FR md_mo_ruleMeant S U10 := by rw [eU10]; exact FR.wI hFT1 (mdf_i (r := (978, 979, 0, 100000)) (List.mem_of_getElem? (i := 31) rfl) (inR_i (by omega) (by omega) (by omega) (by omega)))
              have w119 : Xi U10 978 ((v2).toNat) = 2 := by rw [eU10]; exact Xi_same (by unfold rg; omega)
              refine l_aload_n rfl rfl ?_
              refine l_gfr rfl rfl rfl rfl rfl (hHU10.r 904 137 984 rfl) ?_
              refine l_iload_n rfl rfl ?_
              refine l_aload_n rfl rfl ?_
              refine l_gfi rfl rfl rfl rfl rfl ?_
              have w120 : (Xi U10 904 117) = (Xi T1 904 117) := (show Xi U10 904 117 = Xi T1 904 117 from by rw [eU10]; exact Xi_ne (by omega))
              rw [w120]
              refine l_iastore (n := 24) rfl rfl (by omega) (by omega) (by unfold rg; omega) ?_
              obtain ⟨U11, eU11⟩ : ∃ T : sS, T = uI U10 984 ((v2).toNat) (Int32.ofInt (Xi T1 904 117)) := ⟨_, rfl⟩
              rw [← eU11]
              have hHU11 : HI U11 := by rw [eU11]; exact HI_w hHU10 (show 0 ≤ (Xi T1 904 117) by omega) (show (Xi T1 904 117) ≤ 480 by omega)
              have hFU11 : FR md_mo_ruleMeant S U11 := by rw [eU11]; exact FR.wI hFU10 (mdf_i (r := (984, 985, 0, 100000)) (List.mem_of_getElem? (i := 37) rfl) (inR_i (by omega) (by omega) (by omega) (by omega)))
              have w121 : Xi U11 984 ((v2).toNat) = (Xi T1 904 117) := by rw [eU11]; exact Xi_same (by unfold rg; omega)
              refine l_aload_n rfl rfl ?_
              refine l_gfr rfl rfl rfl rfl rfl (hHU11.r 904 138 985 rfl) ?_
              refine l_iload_n rfl rfl ?_
              refine l_aload_n rfl rfl ?_
              refine l_gfi rfl rfl rfl rfl rfl ?_
              have w122 : (Xi U11 904 94) = (Xi T1 904 94) := (show Xi U11 904 94 = Xi U10 904 94 from by rw [eU11]; exact Xi_ne (by omega)).trans ((show Xi U10 904 94 = Xi T1 904 94 from by rw [eU10]; exact Xi_ne (by omega)))
              rw [w122]
              refine l_iastore (n := 24) rfl rfl (by omega) (by omega) (by unfold rg; omega) ?_
              obtain ⟨U12, eU12⟩ : ∃ T : sS, T = uI U11 985 ((v2).toNat) (Int32.ofInt (Xi T1 904 94)) := ⟨_, rfl⟩
              rw [← eU12]
              have hHU12 : HI U12 := by rw [eU12]; exact HI_w hHU11 (show 0 ≤ (Xi T1 904 94) by omega) (show (Xi T1 904 94) ≤ 6 by omega)
              have hFU12 : FR md_mo_ruleMeant S U12 := by rw [eU12]; exact FR.wI hFU11 (mdf_i (r := (985, 986, 0, 100000)) (List.mem_of_getElem? (i := 38) rfl) (inR_i (by omega) (by omega) (by omega) (by omega)))
              have w123 : Xi U12 985 ((v2).toNat) = (Xi T1 904 94) := by rw [eU12]; exact Xi_same (by unfold rg; omega)
              refine l_aload_n rfl rfl ?_
              refine l_gfr rfl rfl rfl rfl rfl (hHU12.r 904 139 986 rfl) ?_
              refine l_iload_n rfl rfl ?_
              refine l_aload_n rfl rfl ?_
              refine l_gfi rfl rfl rfl rfl rfl ?_
              have w124 : (Xi U12 904 125) = (Xi T1 904 125) := (show Xi U12 904 125 = Xi U11 904 125 from by rw [eU12]; exact Xi_ne (by omega)).trans ( (show Xi U11 904 125 = Xi U10 904 125 from by rw [eU11]; exact Xi_ne (by omega)).trans ((show Xi U10 904 125 = Xi T1 904 125 from by rw [eU10]; exact Xi_ne (by omega))))
              rw [w124]
              refine l_iastore (n := 24) rfl rfl (by omega) (by omega) (by unfold rg; omega) ?_
              obtain ⟨U13, eU13⟩ : ∃ T : sS, T = uI U12 986 ((v2).toNat) (Int32.ofInt (Xi T1 904 125)) := ⟨_, rfl⟩
              rw [← eU13]
              have hHU13 : HI U13 := by rw [eU13]; exact HI_w hHU12 (show 0 ≤ (Xi T1 904 125) by omega) (show (Xi T1 904 125) ≤ 192 by omega)
              have hFU13 : FR md_mo_ruleMeant S U13 := by rw [eU13]; exact FR.wI hFU12 (mdf_i (r := (986, 987, 0, 100000)) (List.mem_of_getElem? (i := 39) rfl) (inR_i (by omega) (by omega) (by omega) (by omega)))
              have w125 : Xi U13 986 ((v2).toNat) = (Xi T1 904 125) := by rw [eU13]; exact Xi_same (by unfold rg; omega)
              refine l_aload_n rfl rfl ?_
              refine l_gfr rfl rfl rfl rfl rfl (hHU13.r 904 140 987 rfl) ?_
              refine l_iload_n rfl rfl ?_
              refine l_aload_n rfl rfl ?_
              refine l_gfi rfl rfl rfl rfl rfl ?_
              have w126 : (Xi U13 904 98) = (Xi T1 904 98) := (show Xi U13 904 98 = Xi U12 904 98 from by rw [eU13]; exact Xi_ne (by omega)).trans ( (show Xi U12 904 98 = Xi U11 904 98 from by rw [eU12]; exact Xi_ne (by omega)).trans ( (show Xi U11 904 98 = Xi U10 904 98 from by rw [eU11]; exact Xi_ne (by omega)).trans ((show Xi U10 904 98 = Xi T1 904 98 from by rw [eU10]; exact Xi_ne (by omega)))))
              rw [w126]
              refine l_iastore (n := 24) rfl rfl (by omega) (by omega) (by unfold rg; omega) ?_
              obtain ⟨U14, eU14⟩ : ∃ T : sS, T = uI U13 987 ((v2).toNat) (Int32.ofInt (Xi T1 904 98)) := ⟨_, rfl⟩
              rw [← eU14]
              have hHU14 : HI U14 := by rw [eU14]; exact HI_w hHU13 (show 0 ≤ (Xi T1 904 98) by omega) (show (Xi T1 904 98) ≤ 8 by omega)
              have hFU14 : FR md_mo_ruleMeant S U14 := by rw [eU14]; exact FR.wI hFU13 (mdf_i (r := (987, 988, 0, 100000)) (List.mem_of_getElem? (i := 40) rfl) (inR_i (by omega) (by omega) (by omega) (by omega)))
              have w127 : Xi U14 987 ((v2).toNat) = (Xi T1 904 98) := by rw [eU14]; exact Xi_same (by unfold rg; omega)
              refine l_aload_n rfl rfl ?_
              refine l_iload_n rfl rfl ?_
              refine l_aload_n rfl rfl ?_
              refine l_gfi rfl rfl rfl rfl rfl ?_
              have w128 : (Xi U14 904 98) = (Xi T1 904 98) := (show Xi U14 904 98 = Xi U13 904 98 from by rw [eU14]; exact Xi_ne (by omega)).trans ( (show Xi U13 904 98 = Xi U12 904 98 from by rw [eU13]; exact Xi_ne (by omega)).trans ( (show Xi U12 904 98 = Xi U11 904 98 from by rw [eU12]; exact Xi_ne (by omega)).trans ( (show Xi U11 904 98 = Xi U10 904 98 from by rw [eU11]; exact Xi_ne (by omega)).trans ((show Xi U10 904 98 = Xi T1 904 98 from by rw [eU10]; exact Xi_ne (by omega))))))
              rw [w128]
              refine l_iadd rfl ?_
              refine l_pfi rfl rfl rfl rfl ?_
              obtain ⟨U15, eU15⟩ : ∃ T : sS, T = uI U14 904 117 (Int32.ofInt (v3 + (Xi T1 904 98))) := ⟨_, rfl⟩
              rw [← eU15]
              have hHU15 : HI U15 := by rw [eU15]; exact HI_w hHU14 (show 0 ≤ (v3 + (Xi T1 904 98)) by omega) (show (v3 + (Xi T1 904 98)) ≤ 480 by omega)
              have hFU15 : FR md_mo_ruleMeant S U15 := by rw [eU15]; exact FR.wI hFU14 (mdf_i (r := (904, 905, 117, 118)) (List.mem_of_getElem? (i := 10) rfl) (inR_i (by omega) (by omega) (by omega) (by omega)))
              have w129 : Xi U15 904 117 = (v3 + (Xi T1 904 98)) := by rw [eU15]; exact Xi_same (by unfold rg; omega)
              refine l_aload_n rfl rfl ?_
              refine l_dup rfl rfl ?_
              refine l_gfi rfl rfl rfl rfl rfl ?_
              have w130 : (Xi U15 904 125) = (Xi T1 904 125) := (show Xi U15 904 125 = Xi U14 904 125 from by rw [eU15]; exact Xi_ne (by omega)).trans ( (show Xi U14 904 125 = Xi U13 904 125 from by rw [eU14]; exact Xi_ne (by omega)).trans ( (show Xi U13 904 125 = Xi U12 904 125 from by rw [eU13]; exact Xi_ne (by omega)).trans ( (show Xi U12 904 125 = Xi U11 904 125 from by rw [eU12]; exact Xi_ne (by omega)).trans ( (show Xi U11 904 125 = Xi U10 904 125 from by rw [eU11]; exact Xi_ne (by omega)).trans ((show Xi U10 904 125 = Xi T1 904 125 from by rw [eU10]; exact Xi_ne (by omega)))))))
              rw [w130]
              refine l_aload_n rfl rfl ?_
              refine l_gfi rfl rfl rfl rfl rfl ?_
              have w131 : (Xi U15 904 98) = (Xi T1 904 98) := (show Xi U15 904 98 = Xi U14 904 98 from by rw [eU15]; exact Xi_ne (by omega)).trans ( (show Xi U14 904 98 = Xi U13 904 98 from by rw [eU14]; exact Xi_ne (by omega)).trans ( (show Xi U13 904 98 = Xi U12 904 98 from by rw [eU13]; exact Xi_ne (by omega)).trans ( (show Xi U12 904 98 = Xi U11 904 98 from by rw [eU12]; exact Xi_ne (by omega)).trans ( (show Xi U11 904 98 = Xi U10 904 98 from by rw [eU11]; exact Xi_ne (by omega)).trans ((show Xi U10 904 98 = Xi T1 904 98 from by rw [eU10]; exact Xi_ne (by omega)))))))
              rw [w131]
              refine l_iadd rfl ?_
              refine l_pfi rfl rfl rfl rfl ?_
              obtain ⟨U16, eU16⟩ : ∃ T : sS, T = uI U15 904 125 (Int32.ofInt ((Xi T1 904 125) + (Xi T1 904 98))) := ⟨_, rfl⟩
              rw [← eU16]
              have hHU16 : HI U16 := by rw [eU16]; exact HI_w hHU15 (show 0 ≤ ((Xi T1 904 125) + (Xi T1 904 98)) by omega) (show ((Xi T1 904 125) + (Xi T1 904 98)) ≤ 192 by omega)
              have hFU16 : FR md_mo_ruleMeant S U16 := by rw [eU16]; exact FR.wI hFU15 (mdf_i (r := (904, 905, 125, 126)) (List.mem_of_getElem? (i := 11) rfl) (inR_i (by omega) (by omega) (by omega) (by omega)))
              have w132 : Xi U16 904 125 = ((Xi T1 904 125) + (Xi T1 904 98)) := by rw [eU16]; exact Xi_same (by unfold rg; omega)
              refine l_aload_n rfl rfl ?_
              refine l_dup rfl rfl ?_
              refine l_gfi rfl rfl rfl rfl rfl ?_
              have w133 : (Xi U16 904 130) = (Xi T1 904 130) := (show Xi U16 904 130 = Xi U15 904 130 from by rw [eU16]; exact Xi_ne (by omega)).trans ( (show Xi U15 904 130 = Xi U14 904 130 from by rw [eU15]; exact Xi_ne (by omega)).trans ( (show Xi U14 904 130 = Xi U13 904 130 from by rw [eU14]; exact Xi_ne (by omega)).trans ( (show Xi U13 904 130 = Xi U12 904 130 from by rw [eU13]; exact Xi_ne (by omega)).trans ( (show Xi U12 904 130 = Xi U11 904 130 from by rw [eU12]; exact Xi_ne (by omega)).trans ( (show Xi U11 904 130 = Xi U10 904 130 from by rw [eU11]; exact Xi_ne (by omega)).trans ((show Xi U10 904 130 = Xi T1 904 130 from by rw [eU10]; exact Xi_ne (by omega))))))))
              rw [w133]
              refine l_iconst rfl ?_
              refine l_iadd rfl ?_
              refine l_pfi rfl rfl rfl rfl ?_
              obtain ⟨U17, eU17⟩ : ∃ T : sS, T = uI U16 904 130 (Int32.ofInt ((Xi T1 904 130) + 1)) := ⟨_, rfl⟩
              rw [← eU17]
              have hHU17 : HI U17 := by rw [eU17]; exact HI_w hHU16 (show 0 ≤ ((Xi T1 904 130) + 1) by omega) (show ((Xi T1 904 130) + 1) ≤ 24 by omega)
              have hFU17 : FR md_mo_ruleMeant S U17 := by rw [eU17]; exact FR.wI hFU16 (mdf_i (r := (904, 905, 130, 131)) (List.mem_of_getElem? (i := 14) rfl) (inR_i (by omega) (by omega) (by omega) (by omega)))
              have w134 : Xi U17 904 130 = ((Xi T1 904 130) + 1) := by rw [eU17]; exact Xi_same (by unfold rg; omega)
              refine l_return rfl rfl ?_
              have w135 : Xi U17 904 102 = Xi T1 904 102 := (show Xi U17 904 102 = Xi U16 904 102 from by rw [eU17]; exact Xi_ne (by omega)).trans ( (show Xi U16 904 102 = Xi U15 904 102 from by rw [eU16]; exact Xi_ne (by omega)).trans ( (show Xi U15 904 102 = Xi U14 904 102 from by rw [eU15]; exact Xi_ne (by omega)).trans ( (show Xi U14 904 102 = Xi U13 904 102 from by rw [eU14]; exact Xi_ne (by omega)).trans ( (show Xi U13 904 102 = Xi U12 904 102 from by rw [eU13]; exact Xi_ne (by omega)).trans ( (show Xi U12 904 102 = Xi U11 904 102 from by rw [eU12]; exact Xi_ne (by omega)).trans ( (show Xi U11 904 102 = Xi U10 904 102 from by rw [eU11]; exact Xi_ne (by omega)).trans ((show Xi U10 904 102 = Xi T1 904 102 from by rw [eU10]; exact Xi_ne (by omega)))))))))
              have w136 : 0 ≤ Xi T1 904 102 ∧ Xi T1 904 102 ≤ 2600 := hHT1.c _ _
              have w137 : Xi U17 904 103 = Xi T1 904 103 := (show Xi U17 904 103 = Xi U16 904 103 from by rw [eU17]; exact Xi_ne (by omega)).trans ( (show Xi U16 904 103 = Xi U15 904 103 from by rw [eU16]; exact Xi_ne (by omega)).trans ( (show Xi U15 904 103 = Xi U14 904 103 from by rw [eU15]; exact Xi_ne (by omega)).trans ( (show Xi U14 904 103 = Xi U13 904 103 from by rw [eU14]; exact Xi_ne (by omega)).trans ( (show Xi U13 904 103 = Xi U12 904 103 from by rw [eU13]; exact Xi_ne (by omega)).trans ( (show Xi U12 904 103 = Xi U11 904 103 from by rw [eU12]; exact Xi_ne (by omega)).trans ( (show Xi U11 904 103 = Xi U10 904 103 from by rw [eU11]; exact Xi_ne (by omega)).trans ((show Xi U10 904 103 = Xi T1 904 103 from by rw [eU10]; exact Xi_ne (by omega)))))))))
              have w138 : -1 ≤ Xi T1 904 103 ∧ Xi T1 904 103 ≤ 2600 := hHT1.c _ _
              have w139 : Xi U17 904 106 = Xi T1 904 106 := (show Xi U17 904 106 = Xi U16 904 106 from by rw [eU17]; exact Xi_ne (by omega)).trans ( (show Xi U16 904 106 = Xi U15 904 106 from by rw [eU16]; exact Xi_ne (by omega)).trans ( (show Xi U15 904 106 = Xi U14 904 106 from by rw [eU15]; exact Xi_ne (by omega)).trans ( (show Xi U14 904 106 = Xi U13 904 106 from by rw [eU14]; exact Xi_ne (by omega)).trans ( (show Xi U13 904 106 = Xi U12 904 106 from by rw [eU13]; exact Xi_ne (by omega)).trans ( (show Xi U12 904 106 = Xi U11 904 106 from by rw [eU12]; exact Xi_ne (by omega)).trans ( (show Xi U11 904 106 = Xi U10 904 106 from by rw [eU11]; exact Xi_ne (by omega)).trans ((show Xi U10 904 106 = Xi T1 904 106 from by rw [eU10]; exact Xi_ne (by omega)))))))))
              have w141 : Xi U17 904 115 = Xi T1 904 115 := (show Xi U17 904 115 = Xi U16 904 115 from by rw [eU17]; exact Xi_ne (by omega)).trans ( (show Xi U16 904 115 = Xi U15 904 115 from by rw [eU16]; exact Xi_ne (by omega)).trans ( (show Xi U15 904 115 = Xi U14 904 115 from by rw [eU15]; exact Xi_ne (by omega)).trans ( (show Xi U14 904 115 = Xi U13 904 115 from by rw [eU14]; exact Xi_ne (by omega)).trans ( (show Xi U13 904 115 = Xi U12 904 115 from by rw [eU13]; exact Xi_ne (by omega)).trans ( (show Xi U12 904 115 = Xi U11 904 115 from by rw [eU12]; exact Xi_ne (by omega)).trans ( (show Xi U11 904 115 = Xi U10 904 115 from by rw [eU11]; exact Xi_ne (by omega)).trans ((show Xi U10 904 115 = Xi T1 904 115 from by rw [eU10]; exact Xi_ne (by omega)))))))))
              have w143 : Xi U17 904 117 = Xi U15 904 117 := (show Xi U17 904 117 = Xi U16 904 117 from by rw [eU17]; exact Xi_ne (by omega)).trans ((show Xi U16 904 117 = Xi U15 904 117 from by rw [eU16]; exact Xi_ne (by omega)))
              have w144 : 0 ≤ Xi U15 904 117 ∧ Xi U15 904 117 ≤ 480 := hHU15.c _ _
              have w145 : Xi U17 904 125 = Xi U16 904 125 := (show Xi U17 904 125 = Xi U16 904 125 from by rw [eU17]; exact Xi_ne (by omega))
              have w146 : 0 ≤ Xi U16 904 125 ∧ Xi U16 904 125 ≤ 192 := hHU16.c _ _
              have w147 : 0 ≤ Xi U17 904 130 ∧ Xi U17 904 130 ≤ 24 := hHU17.c _ _
              have w148 : Xi U17 904 23 = Xi T1 904 23 := (show Xi U17 904 23 = Xi U16 904 23 from by rw [eU17]; exact Xi_ne (by omega)).trans ( (show Xi U16 904 23 = Xi U15 904 23 from by rw [eU16]; exact Xi_ne (by omega)).trans ( (show Xi U15 904 23 = Xi U14 904 23 from by rw [eU15]; exact Xi_ne (by omega)).trans ( (show Xi U14 904 23 = Xi U13 904 23 from by rw [eU14]; exact Xi_ne (by omega)).trans ( (show Xi U13 904 23 = Xi U12 904 23 from by rw [eU13]; exact Xi_ne (by omega)).trans ( (show Xi U12 904 23 = Xi U11 904 23 from by rw [eU12]; exact Xi_ne (by omega)).trans ( (show Xi U11 904 23 = Xi U10 904 23 from by rw [eU11]; exact Xi_ne (by omega)).trans ((show Xi U10 904 23 = Xi T1 904 23 from by rw [eU10]; exact Xi_ne (by omega)))))))))
              have w150 : Xi U17 904 69 = Xi T1 904 69 := (show Xi U17 904 69 = Xi U16 904 69 from by rw [eU17]; exact Xi_ne (by omega)).trans ( (show Xi U16 904 69 = Xi U15 904 69 from by rw [eU16]; exact Xi_ne (by omega)).trans ( (show Xi U15 904 69 = Xi U14 904 69 from by rw [eU15]; exact Xi_ne (by omega)).trans ( (show Xi U14 904 69 = Xi U13 904 69 from by rw [eU14]; exact Xi_ne (by omega)).trans ( (show Xi U13 904 69 = Xi U12 904 69 from by rw [eU13]; exact Xi_ne (by omega)).trans ( (show Xi U12 904 69 = Xi U11 904 69 from by rw [eU12]; exact Xi_ne (by omega)).trans ( (show Xi U11 904 69 = Xi U10 904 69 from by rw [eU11]; exact Xi_ne (by omega)).trans ((show Xi U10 904 69 = Xi T1 904 69 from by rw [eU10]; exact Xi_ne (by omega)))))))))
              have w152 : Xi U17 904 70 = Xi T1 904 70 := (show Xi U17 904 70 = Xi U16 904 70 from by rw [eU17]; exact Xi_ne (by omega)).trans ( (show Xi U16 904 70 = Xi U15 904 70 from by rw [eU16]; exact Xi_ne (by omega)).trans ( (show Xi U15 904 70 = Xi U14 904 70 from by rw [eU15]; exact Xi_ne (by omega)).trans ( (show Xi U14 904 70 = Xi U13 904 70 from by rw [eU14]; exact Xi_ne (by omega)).trans ( (show Xi U13 904 70 = Xi U12 904 70 from by rw [eU13]; exact Xi_ne (by omega)).trans ( (show Xi U12 904 70 = Xi U11 904 70 from by rw [eU12]; exact Xi_ne (by omega)).trans ( (show Xi U11 904 70 = Xi U10 904 70 from by rw [eU11]; exact Xi_ne (by omega)).trans ((show Xi U10 904 70 = Xi T1 904 70 from by rw [eU10]; exact Xi_ne (by omega)))))))))
              have w154 : Xi U17 904 93 = Xi T1 904 93 := (show Xi U17 904 93 = Xi U16 904 93 from by rw [eU17]; exact Xi_ne (by omega)).trans ( (show Xi U16 904 93 = Xi U15 904 93 from by rw [eU16]; exact Xi_ne (by omega)).trans ( (show Xi U15 904 93 = Xi U14 904 93 from by rw [eU15]; exact Xi_ne (by omega)).trans ( (show Xi U14 904 93 = Xi U13 904 93 from by rw [eU14]; exact Xi_ne (by omega)).trans ( (show Xi U13 904 93 = Xi U12 904 93 from by rw [eU13]; exact Xi_ne (by omega)).trans ( (show Xi U12 904 93 = Xi U11 904 93 from by rw [eU12]; exact Xi_ne (by omega)).trans ( (show Xi U11 904 93 = Xi U10 904 93 from by rw [eU11]; exact Xi_ne (by omega)).trans ((show Xi U10 904 93 = Xi T1 904 93 from by rw [eU10]; exact Xi_ne (by omega)))))))))
              have w156 : Xi U17 904 94 = Xi T1 904 94 := (show Xi U17 904 94 = Xi U16 904 94 from by rw [eU17]; exact Xi_ne (by omega)).trans ( (show Xi U16 904 94 = Xi U15 904 94 from by rw [eU16]; exact Xi_ne (by omega)).trans ( (show Xi U15 904 94 = Xi U14 904 94 from by rw [eU15]; exact Xi_ne (by omega)).trans ( (show Xi U14 904 94 = Xi U13 904 94 from by rw [eU14]; exact Xi_ne (by omega)).trans ( (show Xi U13 904 94 = Xi U12 904 94 from by rw [eU13]; exact Xi_ne (by omega)).trans ( (show Xi U12 904 94 = Xi U11 904 94 from by rw [eU12]; exact Xi_ne (by omega)).trans ( (show Xi U11 904 94 = Xi U10 904 94 from by rw [eU11]; exact Xi_ne (by omega)).trans ((show Xi U10 904 94 = Xi T1 904 94 from by rw [eU10]; exact Xi_ne (by omega)))))))))
              have w158 : Xi U17 904 98 = Xi T1 904 98 := (show Xi U17 904 98 = Xi U16 904 98 from by rw [eU17]; exact Xi_ne (by omega)).trans ( (show Xi U16 904 98 = Xi U15 904 98 from by rw [eU16]; exact Xi_ne (by omega)).trans ( (show Xi U15 904 98 = Xi U14 904 98 from by rw [eU15]; exact Xi_ne (by omega)).trans ( (show Xi U14 904 98 = Xi U13 904 98 from by rw [eU14]; exact Xi_ne (by omega)).trans ( (show Xi U13 904 98 = Xi U12 904 98 from by rw [eU13]; exact Xi_ne (by omega)).trans ( (show Xi U12 904 98 = Xi U11 904 98 from by rw [eU12]; exact Xi_ne (by omega)).trans ( (show Xi U11 904 98 = Xi U10 904 98 from by rw [eU11]; exact Xi_ne (by omega)).trans ((show Xi U10 904 98 = Xi T1 904 98 from by rw [eU10]; exact Xi_ne (by omega)))))))))
              exact ⟨hHU17, hFU17, rfl, (by first | exact fun q => absurd q (by omega) | exact fun q => rul_new hR hBX hH G58 (by omega) (by omega) (by omega) (by omega) (fun e => by first | exact absurd e (by decide) | exact R58.2.2.1 (by omega)) R58 L58 E58 Q58 H58 (by have t := (t7_58 (by omega)).1; omega) (by omega) (t7_58 (by omega)).2 (by have u := P58 (by omega); rw [show v3 = Xi S 904 117 + Xi S 904 94 by omega, show v4 = Xi S 904 98 by omega] at u; exact u) (by omega) (by omega) (by omega) (by omega) (by omega) (by omega) (by omega) (by omega) eU10 eU11 eU12 eU13 eU14 eU15 eU16 eU17)⟩
          · refine l_iconst rfl ?_
            refine l_goto rfl rfl ?_
            refine l_iastore (n := 24) rfl rfl (by omega) (by omega) (by unfold rg; omega) ?_
            obtain ⟨U18, eU18⟩ : ∃ T : sS, T = uI T1 978 ((v2).toNat) (Int32.ofInt 1) := ⟨_, rfl⟩
            rw [← eU18]
            have hHU18 : HI U18 := by rw [eU18]; exact HI_w hHT1 (show 0 ≤ 1 by omega) (show 1 ≤ 3 by omega)
            have hFU18 : FR md_mo_ruleMeant S U18 := by rw [eU18]; exact FR.wI hFT1 (mdf_i (r := (978, 979, 0, 100000)) (List.mem_of_getElem? (i := 31) rfl) (inR_i (by omega) (by omega) (by omega) (by omega)))
            have w160 : Xi U18 978 ((v2).toNat) = 1 := by rw [eU18]; exact Xi_same (by unfold rg; omega)
            refine l_aload_n rfl rfl ?_
            refine l_gfr rfl rfl rfl rfl rfl (hHU18.r 904 137 984 rfl) ?_
            refine l_iload_n rfl rfl ?_
            refine l_aload_n rfl rfl ?_
            refine l_gfi rfl rfl rfl rfl rfl ?_
            have w161 : (Xi U18 904 117) = (Xi T1 904 117) := (show Xi U18 904 117 = Xi T1 904 117 from by rw [eU18]; exact Xi_ne (by omega))
            rw [w161]
            refine l_iastore (n := 24) rfl rfl (by omega) (by omega) (by unfold rg; omega) ?_
            obtain ⟨U19, eU19⟩ : ∃ T : sS, T = uI U18 984 ((v2).toNat) (Int32.ofInt (Xi T1 904 117)) := ⟨_, rfl⟩
            rw [← eU19]
            have hHU19 : HI U19 := by rw [eU19]; exact HI_w hHU18 (show 0 ≤ (Xi T1 904 117) by omega) (show (Xi T1 904 117) ≤ 480 by omega)
            have hFU19 : FR md_mo_ruleMeant S U19 := by rw [eU19]; exact FR.wI hFU18 (mdf_i (r := (984, 985, 0, 100000)) (List.mem_of_getElem? (i := 37) rfl) (inR_i (by omega) (by omega) (by omega) (by omega)))
            have w162 : Xi U19 984 ((v2).toNat) = (Xi T1 904 117) := by rw [eU19]; exact Xi_same (by unfold rg; omega)
            refine l_aload_n rfl rfl ?_
            refine l_gfr rfl rfl rfl rfl rfl (hHU19.r 904 138 985 rfl) ?_
            refine l_iload_n rfl rfl ?_
            refine l_aload_n rfl rfl ?_
            refine l_gfi rfl rfl rfl rfl rfl ?_
            have w163 : (Xi U19 904 94) = (Xi T1 904 94) := (show Xi U19 904 94 = Xi U18 904 94 from by rw [eU19]; exact Xi_ne (by omega)).trans ((show Xi U18 904 94 = Xi T1 904 94 from by rw [eU18]; exact Xi_ne (by omega)))
            rw [w163]
            refine l_iastore (n := 24) rfl rfl (by omega) (by omega) (by unfold rg; omega) ?_
            obtain ⟨U20, eU20⟩ : ∃ T : sS, T = uI U19 985 ((v2).toNat) (Int32.ofInt (Xi T1 904 94)) := ⟨_, rfl⟩
            rw [← eU20]
            have hHU20 : HI U20 := by rw [eU20]; exact HI_w hHU19 (show 0 ≤ (Xi T1 904 94) by omega) (show (Xi T1 904 94) ≤ 6 by omega)
            have hFU20 : FR md_mo_ruleMeant S U20 := by rw [eU20]; exact FR.wI hFU19 (mdf_i (r := (985, 986, 0, 100000)) (List.mem_of_getElem? (i := 38) rfl) (inR_i (by omega) (by omega) (by omega) (by omega)))
            have w164 : Xi U20 985 ((v2).toNat) = (Xi T1 904 94) := by rw [eU20]; exact Xi_same (by unfold rg; omega)
            refine l_aload_n rfl rfl ?_
            refine l_gfr rfl rfl rfl rfl rfl (hHU20.r 904 139 986 rfl) ?_
            refine l_iload_n rfl rfl ?_
            refine l_aload_n rfl rfl ?_
            refine l_gfi rfl rfl rfl rfl rfl ?_
            have w165 : (Xi U20 904 125) = (Xi T1 904 125) := (show Xi U20 904 125 = Xi U19 904 125 from by rw [eU20]; exact Xi_ne (by omega)).trans ( (show Xi U19 904 125 = Xi U18 904 125 from by rw [eU19]; exact Xi_ne (by omega)).trans ((show Xi U18 904 125 = Xi T1 904 125 from by rw [eU18]; exact Xi_ne (by omega))))
            rw [w165]
            refine l_iastore (n := 24) rfl rfl (by omega) (by omega) (by unfold rg; omega) ?_
            obtain ⟨U21, eU21⟩ : ∃ T : sS, T = uI U20 986 ((v2).toNat) (Int32.ofInt (Xi T1 904 125)) := ⟨_, rfl⟩
            rw [← eU21]
            have hHU21 : HI U21 := by rw [eU21]; exact HI_w hHU20 (show 0 ≤ (Xi T1 904 125) by omega) (show (Xi T1 904 125) ≤ 192 by omega)
            have hFU21 : FR md_mo_ruleMeant S U21 := by rw [eU21]; exact FR.wI hFU20 (mdf_i (r := (986, 987, 0, 100000)) (List.mem_of_getElem? (i := 39) rfl) (inR_i (by omega) (by omega) (by omega) (by omega)))
            have w166 : Xi U21 986 ((v2).toNat) = (Xi T1 904 125) := by rw [eU21]; exact Xi_same (by unfold rg; omega)
            refine l_aload_n rfl rfl ?_
            refine l_gfr rfl rfl rfl rfl rfl (hHU21.r 904 140 987 rfl) ?_
            refine l_iload_n rfl rfl ?_
            refine l_aload_n rfl rfl ?_
            refine l_gfi rfl rfl rfl rfl rfl ?_
            have w167 : (Xi U21 904 98) = (Xi T1 904 98) := (show Xi U21 904 98 = Xi U20 904 98 from by rw [eU21]; exact Xi_ne (by omega)).trans ( (show Xi U20 904 98 = Xi U19 904 98 from by rw [eU20]; exact Xi_ne (by omega)).trans ( (show Xi U19 904 98 = Xi U18 904 98 from by rw [eU19]; exact Xi_ne (by omega)).trans ((show Xi U18 904 98 = Xi T1 904 98 from by rw [eU18]; exact Xi_ne (by omega)))))
            rw [w167]
            refine l_iastore (n := 24) rfl rfl (by omega) (by omega) (by unfold rg; omega) ?_
            obtain ⟨U22, eU22⟩ : ∃ T : sS, T = uI U21 987 ((v2).toNat) (Int32.ofInt (Xi T1 904 98)) := ⟨_, rfl⟩
            rw [← eU22]
            have hHU22 : HI U22 := by rw [eU22]; exact HI_w hHU21 (show 0 ≤ (Xi T1 904 98) by omega) (show (Xi T1 904 98) ≤ 8 by omega)
            have hFU22 : FR md_mo_ruleMeant S U22 := by rw [eU22]; exact FR.wI hFU21 (mdf_i (r := (987, 988, 0, 100000)) (List.mem_of_getElem? (i := 40) rfl) (inR_i (by omega) (by omega) (by omega) (by omega)))
            have w168 : Xi U22 987 ((v2).toNat) = (Xi T1 904 98) := by rw [eU22]; exact Xi_same (by unfold rg; omega)
            refine l_aload_n rfl rfl ?_
            refine l_iload_n rfl rfl ?_
            refine l_aload_n rfl rfl ?_
            refine l_gfi rfl rfl rfl rfl rfl ?_
            have w169 : (Xi U22 904 98) = (Xi T1 904 98) := (show Xi U22 904 98 = Xi U21 904 98 from by rw [eU22]; exact Xi_ne (by omega)).trans ( (show Xi U21 904 98 = Xi U20 904 98 from by rw [eU21]; exact Xi_ne (by omega)).trans ( (show Xi U20 904 98 = Xi U19 904 98 from by rw [eU20]; exact Xi_ne (by omega)).trans ( (show Xi U19 904 98 = Xi U18 904 98 from by rw [eU19]; exact Xi_ne (by omega)).trans ((show Xi U18 904 98 = Xi T1 904 98 from by rw [eU18]; exact Xi_ne (by omega))))))
            rw [w169]
            refine l_iadd rfl ?_
            refine l_pfi rfl rfl rfl rfl ?_
            obtain ⟨U23, eU23⟩ : ∃ T : sS, T = uI U22 904 117 (Int32.ofInt (v3 + (Xi T1 904 98))) := ⟨_, rfl⟩
            rw [← eU23]
            have hHU23 : HI U23 := by rw [eU23]; exact HI_w hHU22 (show 0 ≤ (v3 + (Xi T1 904 98)) by omega) (show (v3 + (Xi T1 904 98)) ≤ 480 by omega)
            have hFU23 : FR md_mo_ruleMeant S U23 := by rw [eU23]; exact FR.wI hFU22 (mdf_i (r := (904, 905, 117, 118)) (List.mem_of_getElem? (i := 10) rfl) (inR_i (by omega) (by omega) (by omega) (by omega)))
            have w170 : Xi U23 904 117 = (v3 + (Xi T1 904 98)) := by rw [eU23]; exact Xi_same (by unfold rg; omega)
            refine l_aload_n rfl rfl ?_
            refine l_dup rfl rfl ?_
            refine l_gfi rfl rfl rfl rfl rfl ?_
            have w171 : (Xi U23 904 125) = (Xi T1 904 125) := (show Xi U23 904 125 = Xi U22 904 125 from by rw [eU23]; exact Xi_ne (by omega)).trans ( (show Xi U22 904 125 = Xi U21 904 125 from by rw [eU22]; exact Xi_ne (by omega)).trans ( (show Xi U21 904 125 = Xi U20 904 125 from by rw [eU21]; exact Xi_ne (by omega)).trans ( (show Xi U20 904 125 = Xi U19 904 125 from by rw [eU20]; exact Xi_ne (by omega)).trans ( (show Xi U19 904 125 = Xi U18 904 125 from by rw [eU19]; exact Xi_ne (by omega)).trans ((show Xi U18 904 125 = Xi T1 904 125 from by rw [eU18]; exact Xi_ne (by omega)))))))
            rw [w171]
            refine l_aload_n rfl rfl ?_
            refine l_gfi rfl rfl rfl rfl rfl ?_
            have w172 : (Xi U23 904 98) = (Xi T1 904 98) := (show Xi U23 904 98 = Xi U22 904 98 from by rw [eU23]; exact Xi_ne (by omega)).trans ( (show Xi U22 904 98 = Xi U21 904 98 from by rw [eU22]; exact Xi_ne (by omega)).trans ( (show Xi U21 904 98 = Xi U20 904 98 from by rw [eU21]; exact Xi_ne (by omega)).trans ( (show Xi U20 904 98 = Xi U19 904 98 from by rw [eU20]; exact Xi_ne (by omega)).trans ( (show Xi U19 904 98 = Xi U18 904 98 from by rw [eU19]; exact Xi_ne (by omega)).trans ((show Xi U18 904 98 = Xi T1 904 98 from by rw [eU18]; exact Xi_ne (by omega)))))))
            rw [w172]
            refine l_iadd rfl ?_
            refine l_pfi rfl rfl rfl rfl ?_
            obtain ⟨U24, eU24⟩ : ∃ T : sS, T = uI U23 904 125 (Int32.ofInt ((Xi T1 904 125) + (Xi T1 904 98))) := ⟨_, rfl⟩
            rw [← eU24]
            have hHU24 : HI U24 := by rw [eU24]; exact HI_w hHU23 (show 0 ≤ ((Xi T1 904 125) + (Xi T1 904 98)) by omega) (show ((Xi T1 904 125) + (Xi T1 904 98)) ≤ 192 by omega)
            have hFU24 : FR md_mo_ruleMeant S U24 := by rw [eU24]; exact FR.wI hFU23 (mdf_i (r := (904, 905, 125, 126)) (List.mem_of_getElem? (i := 11) rfl) (inR_i (by omega) (by omega) (by omega) (by omega)))
            have w173 : Xi U24 904 125 = ((Xi T1 904 125) + (Xi T1 904 98)) := by rw [eU24]; exact Xi_same (by unfold rg; omega)
            refine l_aload_n rfl rfl ?_
            refine l_dup rfl rfl ?_
            refine l_gfi rfl rfl rfl rfl rfl ?_
            have w174 : (Xi U24 904 130) = (Xi T1 904 130) := (show Xi U24 904 130 = Xi U23 904 130 from by rw [eU24]; exact Xi_ne (by omega)).trans ( (show Xi U23 904 130 = Xi U22 904 130 from by rw [eU23]; exact Xi_ne (by omega)).trans ( (show Xi U22 904 130 = Xi U21 904 130 from by rw [eU22]; exact Xi_ne (by omega)).trans ( (show Xi U21 904 130 = Xi U20 904 130 from by rw [eU21]; exact Xi_ne (by omega)).trans ( (show Xi U20 904 130 = Xi U19 904 130 from by rw [eU20]; exact Xi_ne (by omega)).trans ( (show Xi U19 904 130 = Xi U18 904 130 from by rw [eU19]; exact Xi_ne (by omega)).trans ((show Xi U18 904 130 = Xi T1 904 130 from by rw [eU18]; exact Xi_ne (by omega))))))))
            rw [w174]
            refine l_iconst rfl ?_
            refine l_iadd rfl ?_
            refine l_pfi rfl rfl rfl rfl ?_
            obtain ⟨U25, eU25⟩ : ∃ T : sS, T = uI U24 904 130 (Int32.ofInt ((Xi T1 904 130) + 1)) := ⟨_, rfl⟩
            rw [← eU25]
            have hHU25 : HI U25 := by rw [eU25]; exact HI_w hHU24 (show 0 ≤ ((Xi T1 904 130) + 1) by omega) (show ((Xi T1 904 130) + 1) ≤ 24 by omega)
            have hFU25 : FR md_mo_ruleMeant S U25 := by rw [eU25]; exact FR.wI hFU24 (mdf_i (r := (904, 905, 130, 131)) (List.mem_of_getElem? (i := 14) rfl) (inR_i (by omega) (by omega) (by omega) (by omega)))
            have w175 : Xi U25 904 130 = ((Xi T1 904 130) + 1) := by rw [eU25]; exact Xi_same (by unfold rg; omega)
            refine l_return rfl rfl ?_
            have w176 : Xi U25 904 102 = Xi T1 904 102 := (show Xi U25 904 102 = Xi U24 904 102 from by rw [eU25]; exact Xi_ne (by omega)).trans ( (show Xi U24 904 102 = Xi U23 904 102 from by rw [eU24]; exact Xi_ne (by omega)).trans ( (show Xi U23 904 102 = Xi U22 904 102 from by rw [eU23]; exact Xi_ne (by omega)).trans ( (show Xi U22 904 102 = Xi U21 904 102 from by rw [eU22]; exact Xi_ne (by omega)).trans ( (show Xi U21 904 102 = Xi U20 904 102 from by rw [eU21]; exact Xi_ne (by omega)).trans ( (show Xi U20 904 102 = Xi U19 904 102 from by rw [eU20]; exact Xi_ne (by omega)).trans ( (show Xi U19 904 102 = Xi U18 904 102 from by rw [eU19]; exact Xi_ne (by omega)).trans ((show Xi U18 904 102 = Xi T1 904 102 from by rw [eU18]; exact Xi_ne (by omega)))))))))
            have w177 : 0 ≤ Xi T1 904 102 ∧ Xi T1 904 102 ≤ 2600 := hHT1.c _ _
            have w178 : Xi U25 904 103 = Xi T1 904 103 := (show Xi U25 904 103 = Xi U24 904 103 from by rw [eU25]; exact Xi_ne (by omega)).trans ( (show Xi U24 904 103 = Xi U23 904 103 from by rw [eU24]; exact Xi_ne (by omega)).trans ( (show Xi U23 904 103 = Xi U22 904 103 from by rw [eU23]; exact Xi_ne (by omega)).trans ( (show Xi U22 904 103 = Xi U21 904 103 from by rw [eU22]; exact Xi_ne (by omega)).trans ( (show Xi U21 904 103 = Xi U20 904 103 from by rw [eU21]; exact Xi_ne (by omega)).trans ( (show Xi U20 904 103 = Xi U19 904 103 from by rw [eU20]; exact Xi_ne (by omega)).trans ( (show Xi U19 904 103 = Xi U18 904 103 from by rw [eU19]; exact Xi_ne (by omega)).trans ((show Xi U18 904 103 = Xi T1 904 103 from by rw [eU18]; exact Xi_ne (by omega)))))))))
            have w179 : -1 ≤ Xi T1 904 103 ∧ Xi T1 904 103 ≤ 2600 := hHT1.c _ _
            have w180 : Xi U25 904 106 = Xi T1 904 106 := (show Xi U25 904 106 = Xi U24 904 106 from by rw [eU25]; exact Xi_ne (by omega)).trans ( (show Xi U24 904 106 = Xi U23 904 106 from by rw [eU24]; exact Xi_ne (by omega)).trans ( (show Xi U23 904 106 = Xi U22 904 106 from by rw [eU23]; exact Xi_ne (by omega)).trans ( (show Xi U22 904 106 = Xi U21 904 106 from by rw [eU22]; exact Xi_ne (by omega)).trans ( (show Xi U21 904 106 = Xi U20 904 106 from by rw [eU21]; exact Xi_ne (by omega)).trans ( (show Xi U20 904 106 = Xi U19 904 106 from by rw [eU20]; exact Xi_ne (by omega)).trans ( (show Xi U19 904 106 = Xi U18 904 106 from by rw [eU19]; exact Xi_ne (by omega)).trans ((show Xi U18 904 106 = Xi T1 904 106 from by rw [eU18]; exact Xi_ne (by omega)))))))))
            have w182 : Xi U25 904 115 = Xi T1 904 115 := (show Xi U25 904 115 = Xi U24 904 115 from by rw [eU25]; exact Xi_ne (by omega)).trans ( (show Xi U24 904 115 = Xi U23 904 115 from by rw [eU24]; exact Xi_ne (by omega)).trans ( (show Xi U23 904 115 = Xi U22 904 115 from by rw [eU23]; exact Xi_ne (by omega)).trans ( (show Xi U22 904 115 = Xi U21 904 115 from by rw [eU22]; exact Xi_ne (by omega)).trans ( (show Xi U21 904 115 = Xi U20 904 115 from by rw [eU21]; exact Xi_ne (by omega)).trans ( (show Xi U20 904 115 = Xi U19 904 115 from by rw [eU20]; exact Xi_ne (by omega)).trans ( (show Xi U19 904 115 = Xi U18 904 115 from by rw [eU19]; exact Xi_ne (by omega)).trans ((show Xi U18 904 115 = Xi T1 904 115 from by rw [eU18]; exact Xi_ne (by omega)))))))))
            have w184 : Xi U25 904 117 = Xi U23 904 117 := (show Xi U25 904 117 = Xi U24 904 117 from by rw [eU25]; exact Xi_ne (by omega)).trans ((show Xi U24 904 117 = Xi U23 904 117 from by rw [eU24]; exact Xi_ne (by omega)))
            have w185 : 0 ≤ Xi U23 904 117 ∧ Xi U23 904 117 ≤ 480 := hHU23.c _ _
            have w186 : Xi U25 904 125 = Xi U24 904 125 := (show Xi U25 904 125 = Xi U24 904 125 from by rw [eU25]; exact Xi_ne (by omega))
            have w187 : 0 ≤ Xi U24 904 125 ∧ Xi U24 904 125 ≤ 192 := hHU24.c _ _
            have w188 : 0 ≤ Xi U25 904 130 ∧ Xi U25 904 130 ≤ 24 := hHU25.c _ _
            have w189 : Xi U25 904 23 = Xi T1 904 23 := (show Xi U25 904 23 = Xi U24 904 23 from by rw [eU25]; exact Xi_ne (by omega)).trans ( (show Xi U24 904 23 = Xi U23 904 23 from by rw [eU24]; exact Xi_ne (by omega)).trans ( (show Xi U23 904 23 = Xi U22 904 23 from by rw [eU23]; exact Xi_ne (by omega)).trans ( (show Xi U22 904 23 = Xi U21 904 23 from by rw [eU22]; exact Xi_ne (by omega)).trans ( (show Xi U21 904 23 = Xi U20 904 23 from by rw [eU21]; exact Xi_ne (by omega)).trans ( (show Xi U20 904 23 = Xi U19 904 23 from by rw [eU20]; exact Xi_ne (by omega)).trans ( (show Xi U19 904 23 = Xi U18 904 23 from by rw [eU19]; exact Xi_ne (by omega)).trans ((show Xi U18 904 23 = Xi T1 904 23 from by rw [eU18]; exact Xi_ne (by omega)))))))))
            have w191 : Xi U25 904 69 = Xi T1 904 69 := (show Xi U25 904 69 = Xi U24 904 69 from by rw [eU25]; exact Xi_ne (by omega)).trans ( (show Xi U24 904 69 = Xi U23 904 69 from by rw [eU24]; exact Xi_ne (by omega)).trans ( (show Xi U23 904 69 = Xi U22 904 69 from by rw [eU23]; exact Xi_ne (by omega)).trans ( (show Xi U22 904 69 = Xi U21 904 69 from by rw [eU22]; exact Xi_ne (by omega)).trans ( (show Xi U21 904 69 = Xi U20 904 69 from by rw [eU21]; exact Xi_ne (by omega)).trans ( (show Xi U20 904 69 = Xi U19 904 69 from by rw [eU20]; exact Xi_ne (by omega)).trans ( (show Xi U19 904 69 = Xi U18 904 69 from by rw [eU19]; exact Xi_ne (by omega)).trans ((show Xi U18 904 69 = Xi T1 904 69 from by rw [eU18]; exact Xi_ne (by omega)))))))))
            have w193 : Xi U25 904 70 = Xi T1 904 70 := (show Xi U25 904 70 = Xi U24 904 70 from by rw [eU25]; exact Xi_ne (by omega)).trans ( (show Xi U24 904 70 = Xi U23 904 70 from by rw [eU24]; exact Xi_ne (by omega)).trans ( (show Xi U23 904 70 = Xi U22 904 70 from by rw [eU23]; exact Xi_ne (by omega)).trans ( (show Xi U22 904 70 = Xi U21 904 70 from by rw [eU22]; exact Xi_ne (by omega)).trans ( (show Xi U21 904 70 = Xi U20 904 70 from by rw [eU21]; exact Xi_ne (by omega)).trans ( (show Xi U20 904 70 = Xi U19 904 70 from by rw [eU20]; exact Xi_ne (by omega)).trans ( (show Xi U19 904 70 = Xi U18 904 70 from by rw [eU19]; exact Xi_ne (by omega)).trans ((show Xi U18 904 70 = Xi T1 904 70 from by rw [eU18]; exact Xi_ne (by omega)))))))))
            have w195 : Xi U25 904 93 = Xi T1 904 93 := (show Xi U25 904 93 = Xi U24 904 93 from by rw [eU25]; exact Xi_ne (by omega)).trans ( (show Xi U24 904 93 = Xi U23 904 93 from by rw [eU24]; exact Xi_ne (by omega)).trans ( (show Xi U23 904 93 = Xi U22 904 93 from by rw [eU23]; exact Xi_ne (by omega)).trans ( (show Xi U22 904 93 = Xi U21 904 93 from by rw [eU22]; exact Xi_ne (by omega)).trans ( (show Xi U21 904 93 = Xi U20 904 93 from by rw [eU21]; exact Xi_ne (by omega)).trans ( (show Xi U20 904 93 = Xi U19 904 93 from by rw [eU20]; exact Xi_ne (by omega)).trans ( (show Xi U19 904 93 = Xi U18 904 93 from by rw [eU19]; exact Xi_ne (by omega)).trans ((show Xi U18 904 93 = Xi T1 904 93 from by rw [eU18]; exact Xi_ne (by omega)))))))))
            have w197 : Xi U25 904 94 = Xi T1 904 94 := (show Xi U25 904 94 = Xi U24 904 94 from by rw [eU25]; exact Xi_ne (by omega)).trans ( (show Xi U24 904 94 = Xi U23 904 94 from by rw [eU24]; exact Xi_ne (by omega)).trans ( (show Xi U23 904 94 = Xi U22 904 94 from by rw [eU23]; exact Xi_ne (by omega)).trans ( (show Xi U22 904 94 = Xi U21 904 94 from by rw [eU22]; exact Xi_ne (by omega)).trans ( (show Xi U21 904 94 = Xi U20 904 94 from by rw [eU21]; exact Xi_ne (by omega)).trans ( (show Xi U20 904 94 = Xi U19 904 94 from by rw [eU20]; exact Xi_ne (by omega)).trans ( (show Xi U19 904 94 = Xi U18 904 94 from by rw [eU19]; exact Xi_ne (by omega)).trans ((show Xi U18 904 94 = Xi T1 904 94 from by rw [eU18]; exact Xi_ne (by omega)))))))))
            have w199 : Xi U25 904 98 = Xi T1 904 98 := (show Xi U25 904 98 = Xi U24 904 98 from by rw [eU25]; exact Xi_ne (by omega)).trans ( (show Xi U24 904 98 = Xi U23 904 98 from by rw [eU24]; exact Xi_ne (by omega)).trans ( (show Xi U23 904 98 = Xi U22 904 98 from by rw [eU23]; exact Xi_ne (by omega)).trans ( (show Xi U22 904 98 = Xi U21 904 98 from by rw [eU22]; exact Xi_ne (by omega)).trans ( (show Xi U21 904 98 = Xi U20 904 98 from by rw [eU21]; exact Xi_ne (by omega)).trans ( (show Xi U20 904 98 = Xi U19 904 98 from by rw [eU20]; exact Xi_ne (by omega)).trans ( (show Xi U19 904 98 = Xi U18 904 98 from by rw [eU19]; exact Xi_ne (by omega)).trans ((show Xi U18 904 98 = Xi T1 904 98 from by rw [eU18]; exact Xi_ne (by omega)))))))))
            exact ⟨hHU25, hFU25, rfl, (by first | exact fun q => absurd q (by omega) | exact fun q => rul_new hR hBX hH G58 (by omega) (by omega) (by omega) (by omega) (fun e => by first | exact absurd e (by decide) | exact R58.2.2.1 (by omega)) R58 L58 E58 Q58 H58 (by have t := (t7_58 (by omega)).1; omega) (by omega) (t7_58 (by omega)).2 (by have u := P58 (by omega); rw [show v3 = Xi S 904 117 + Xi S 904 94 by omega, show v4 = Xi S 904 98 by omega] at u; exact u) (by omega) (by omega) (by omega) (by omega) (by omega) (by omega) (by omega) (by omega) eU18 eU19 eU20 eU21 eU22 eU23 eU24 eU25)⟩
        · refine l_iconst rfl ?_
          refine l_goto rfl rfl ?_
          refine l_iastore (n := 24) rfl rfl (by omega) (by omega) (by unfold rg; omega) ?_
          obtain ⟨U26, eU26⟩ : ∃ T : sS, T = uI T1 978 ((v2).toNat) (Int32.ofInt 0) := ⟨_, rfl⟩
          rw [← eU26]
          have hHU26 : HI U26 := by rw [eU26]; exact HI_w hHT1 (show 0 ≤ 0 by omega) (show 0 ≤ 3 by omega)
          have hFU26 : FR md_mo_ruleMeant S U26 := by rw [eU26]; exact FR.wI hFT1 (mdf_i (r := (978, 979, 0, 100000)) (List.mem_of_getElem? (i := 31) rfl) (inR_i (by omega) (by omega) (by omega) (by omega)))
          have w201 : Xi U26 978 ((v2).toNat) = 0 := by rw [eU26]; exact Xi_same (by unfold rg; omega)
          refine l_aload_n rfl rfl ?_
          refine l_gfr rfl rfl rfl rfl rfl (hHU26.r 904 137 984 rfl) ?_
          refine l_iload_n rfl rfl ?_
          refine l_aload_n rfl rfl ?_
          refine l_gfi rfl rfl rfl rfl rfl ?_
          have w202 : (Xi U26 904 117) = (Xi T1 904 117) := (show Xi U26 904 117 = Xi T1 904 117 from by rw [eU26]; exact Xi_ne (by omega))
          rw [w202]
          refine l_iastore (n := 24) rfl rfl (by omega) (by omega) (by unfold rg; omega) ?_
          obtain ⟨U27, eU27⟩ : ∃ T : sS, T = uI U26 984 ((v2).toNat) (Int32.ofInt (Xi T1 904 117)) := ⟨_, rfl⟩
          rw [← eU27]
          have hHU27 : HI U27 := by rw [eU27]; exact HI_w hHU26 (show 0 ≤ (Xi T1 904 117) by omega) (show (Xi T1 904 117) ≤ 480 by omega)
          have hFU27 : FR md_mo_ruleMeant S U27 := by rw [eU27]; exact FR.wI hFU26 (mdf_i (r := (984, 985, 0, 100000)) (List.mem_of_getElem? (i := 37) rfl) (inR_i (by omega) (by omega) (by omega) (by omega)))
          have w203 : Xi U27 984 ((v2).toNat) = (Xi T1 904 117) := by rw [eU27]; exact Xi_same (by unfold rg; omega)
          refine l_aload_n rfl rfl ?_
          refine l_gfr rfl rfl rfl rfl rfl (hHU27.r 904 138 985 rfl) ?_
          refine l_iload_n rfl rfl ?_
          refine l_aload_n rfl rfl ?_
          refine l_gfi rfl rfl rfl rfl rfl ?_
          have w204 : (Xi U27 904 94) = (Xi T1 904 94) := (show Xi U27 904 94 = Xi U26 904 94 from by rw [eU27]; exact Xi_ne (by omega)).trans ((show Xi U26 904 94 = Xi T1 904 94 from by rw [eU26]; exact Xi_ne (by omega)))
          rw [w204]
          refine l_iastore (n := 24) rfl rfl (by omega) (by omega) (by unfold rg; omega) ?_
          obtain ⟨U28, eU28⟩ : ∃ T : sS, T = uI U27 985 ((v2).toNat) (Int32.ofInt (Xi T1 904 94)) := ⟨_, rfl⟩
          rw [← eU28]
          have hHU28 : HI U28 := by rw [eU28]; exact HI_w hHU27 (show 0 ≤ (Xi T1 904 94) by omega) (show (Xi T1 904 94) ≤ 6 by omega)
          have hFU28 : FR md_mo_ruleMeant S U28 := by rw [eU28]; exact FR.wI hFU27 (mdf_i (r := (985, 986, 0, 100000)) (List.mem_of_getElem? (i := 38) rfl) (inR_i (by omega) (by omega) (by omega) (by omega)))
          have w205 : Xi U28 985 ((v2).toNat) = (Xi T1 904 94) := by rw [eU28]; exact Xi_same (by unfold rg; omega)
          refine l_aload_n rfl rfl ?_
          refine l_gfr rfl rfl rfl rfl rfl (hHU28.r 904 139 986 rfl) ?_
          refine l_iload_n rfl rfl ?_
          refine l_aload_n rfl rfl ?_
          refine l_gfi rfl rfl rfl rfl rfl ?_
          have w206 : (Xi U28 904 125) = (Xi T1 904 125) := (show Xi U28 904 125 = Xi U27 904 125 from by rw [eU28]; exact Xi_ne (by omega)).trans ( (show Xi U27 904 125 = Xi U26 904 125 from by rw [eU27]; exact Xi_ne (by omega)).trans ((show Xi U26 904 125 = Xi T1 904 125 from by rw [eU26]; exact Xi_ne (by omega))))
          rw [w206]
          refine l_iastore (n := 24) rfl rfl (by omega) (by omega) (by unfold rg; omega) ?_
          obtain ⟨U29, eU29⟩ : ∃ T : sS, T = uI U28 986 ((v2).toNat) (Int32.ofInt (Xi T1 904 125)) := ⟨_, rfl⟩
          rw [← eU29]
          have hHU29 : HI U29 := by rw [eU29]; exact HI_w hHU28 (show 0 ≤ (Xi T1 904 125) by omega) (show (Xi T1 904 125) ≤ 192 by omega)
          have hFU29 : FR md_mo_ruleMeant S U29 := by rw [eU29]; exact FR.wI hFU28 (mdf_i (r := (986, 987, 0, 100000)) (List.mem_of_getElem? (i := 39) rfl) (inR_i (by omega) (by omega) (by omega) (by omega)))
          have w207 : Xi U29 986 ((v2).toNat) = (Xi T1 904 125) := by rw [eU29]; exact Xi_same (by unfold rg; omega)
          refine l_aload_n rfl rfl ?_
          refine l_gfr rfl rfl rfl rfl rfl (hHU29.r 904 140 987 rfl) ?_
          refine l_iload_n rfl rfl ?_
          refine l_aload_n rfl rfl ?_
          refine l_gfi rfl rfl rfl rfl rfl ?_
          have w208 : (Xi U29 904 98) = (Xi T1 904 98) := (show Xi U29 904 98 = Xi U28 904 98 from by rw [eU29]; exact Xi_ne (by omega)).trans ( (show Xi U28 904 98 = Xi U27 904 98 from by rw [eU28]; exact Xi_ne (by omega)).trans ( (show Xi U27 904 98 = Xi U26 904 98 from by rw [eU27]; exact Xi_ne (by omega)).trans ((show Xi U26 904 98 = Xi T1 904 98 from by rw [eU26]; exact Xi_ne (by omega)))))
          rw [w208]
          refine l_iastore (n := 24) rfl rfl (by omega) (by omega) (by unfold rg; omega) ?_
          obtain ⟨U30, eU30⟩ : ∃ T : sS, T = uI U29 987 ((v2).toNat) (Int32.ofInt (Xi T1 904 98)) := ⟨_, rfl⟩
          rw [← eU30]
          have hHU30 : HI U30 := by rw [eU30]; exact HI_w hHU29 (show 0 ≤ (Xi T1 904 98) by omega) (show (Xi T1 904 98) ≤ 8 by omega)
          have hFU30 : FR md_mo_ruleMeant S U30 := by rw [eU30]; exact FR.wI hFU29 (mdf_i (r := (987, 988, 0, 100000)) (List.mem_of_getElem? (i := 40) rfl) (inR_i (by omega) (by omega) (by omega) (by omega)))
          have w209 : Xi U30 987 ((v2).toNat) = (Xi T1 904 98) := by rw [eU30]; exact Xi_same (by unfold rg; omega)
          refine l_aload_n rfl rfl ?_
          refine l_iload_n rfl rfl ?_
          refine l_aload_n rfl rfl ?_
          refine l_gfi rfl rfl rfl rfl rfl ?_
          have w210 : (Xi U30 904 98) = (Xi T1 904 98) := (show Xi U30 904 98 = Xi U29 904 98 from by rw [eU30]; exact Xi_ne (by omega)).trans ( (show Xi U29 904 98 = Xi U28 904 98 from by rw [eU29]; exact Xi_ne (by omega)).trans ( (show Xi U28 904 98 = Xi U27 904 98 from by rw [eU28]; exact Xi_ne (by omega)).trans ( (show Xi U27 904 98 = Xi U26 904 98 from by rw [eU27]; exact Xi_ne (by omega)).trans ((show Xi U26 904 98 = Xi T1 904 98 from by rw [eU26]; exact Xi_ne (by omega))))))
          rw [w210]
          refine l_iadd rfl ?_
          refine l_pfi rfl rfl rfl rfl ?_
          obtain ⟨U31, eU31⟩ : ∃ T : sS, T = uI U30 904 117 (Int32.ofInt (v3 + (Xi T1 904 98))) := ⟨_, rfl⟩
          rw [← eU31]
          have hHU31 : HI U31 := by rw [eU31]; exact HI_w hHU30 (show 0 ≤ (v3 + (Xi T1 904 98)) by omega) (show (v3 + (Xi T1 904 98)) ≤ 480 by omega)
          have hFU31 : FR md_mo_ruleMeant S U31 := by rw [eU31]; exact FR.wI hFU30 (mdf_i (r := (904, 905, 117, 118)) (List.mem_of_getElem? (i := 10) rfl) (inR_i (by omega) (by omega) (by omega) (by omega)))
          have w211 : Xi U31 904 117 = (v3 + (Xi T1 904 98)) := by rw [eU31]; exact Xi_same (by unfold rg; omega)
          refine l_aload_n rfl rfl ?_
          refine l_dup rfl rfl ?_
          refine l_gfi rfl rfl rfl rfl rfl ?_
          have w212 : (Xi U31 904 125) = (Xi T1 904 125) := (show Xi U31 904 125 = Xi U30 904 125 from by rw [eU31]; exact Xi_ne (by omega)).trans ( (show Xi U30 904 125 = Xi U29 904 125 from by rw [eU30]; exact Xi_ne (by omega)).trans ( (show Xi U29 904 125 = Xi U28 904 125 from by rw [eU29]; exact Xi_ne (by omega)).trans ( (show Xi U28 904 125 = Xi U27 904 125 from by rw [eU28]; exact Xi_ne (by omega)).trans ( (show Xi U27 904 125 = Xi U26 904 125 from by rw [eU27]; exact Xi_ne (by omega)).trans ((show Xi U26 904 125 = Xi T1 904 125 from by rw [eU26]; exact Xi_ne (by omega)))))))
          rw [w212]
          refine l_aload_n rfl rfl ?_
          refine l_gfi rfl rfl rfl rfl rfl ?_
          have w213 : (Xi U31 904 98) = (Xi T1 904 98) := (show Xi U31 904 98 = Xi U30 904 98 from by rw [eU31]; exact Xi_ne (by omega)).trans ( (show Xi U30 904 98 = Xi U29 904 98 from by rw [eU30]; exact Xi_ne (by omega)).trans ( (show Xi U29 904 98 = Xi U28 904 98 from by rw [eU29]; exact Xi_ne (by omega)).trans ( (show Xi U28 904 98 = Xi U27 904 98 from by rw [eU28]; exact Xi_ne (by omega)).trans ( (show Xi U27 904 98 = Xi U26 904 98 from by rw [eU27]; exact Xi_ne (by omega)).trans ((show Xi U26 904 98 = Xi T1 904 98 from by rw [eU26]; exact Xi_ne (by omega)))))))
          rw [w213]
          refine l_iadd rfl ?_
          refine l_pfi rfl rfl rfl rfl ?_
          obtain ⟨U32, eU32⟩ : ∃ T : sS, T = uI U31 904 125 (Int32.ofInt ((Xi T1 904 125) + (Xi T1 904 98))) := ⟨_, rfl⟩
          rw [← eU32]
          have hHU32 : HI U32 := by rw [eU32]; exact HI_w hHU31 (show 0 ≤ ((Xi T1 904 125) + (Xi T1 904 98)) by omega) (show ((Xi T1 904 125) + (Xi T1 904 98)) ≤ 192 by omega)
          have hFU32 : FR md_mo_ruleMeant S U32 := by rw [eU32]; exact FR.wI hFU31 (mdf_i (r := (904, 905, 125, 126)) (List.mem_of_getElem? (i := 11) rfl) (inR_i (by omega) (by omega) (by omega) (by omega)))
          have w214 : Xi U32 904 125 = ((Xi T1 904 125) + (Xi T1 904 98)) := by rw [eU32]; exact Xi_same (by unfold rg; omega)
          refine l_aload_n rfl rfl ?_
          refine l_dup rfl rfl ?_
          refine l_gfi rfl rfl rfl rfl rfl ?_
          have w215 : (Xi U32 904 130) = (Xi T1 904 130) := (show Xi U32 904 130 = Xi U31 904 130 from by rw [eU32]; exact Xi_ne (by omega)).trans ( (show Xi U31 904 130 = Xi U30 904 130 from by rw [eU31]; exact Xi_ne (by omega)).trans ( (show Xi U30 904 130 = Xi U29 904 130 from by rw [eU30]; exact Xi_ne (by omega)).trans ( (show Xi U29 904 130 = Xi U28 904 130 from by rw [eU29]; exact Xi_ne (by omega)).trans ( (show Xi U28 904 130 = Xi U27 904 130 from by rw [eU28]; exact Xi_ne (by omega)).trans ( (show Xi U27 904 130 = Xi U26 904 130 from by rw [eU27]; exact Xi_ne (by omega)).trans ((show Xi U26 904 130 = Xi T1 904 130 from by rw [eU26]; exact Xi_ne (by omega))))))))
          rw [w215]
          refine l_iconst rfl ?_
          refine l_iadd rfl ?_
          refine l_pfi rfl rfl rfl rfl ?_
          obtain ⟨U33, eU33⟩ : ∃ T : sS, T = uI U32 904 130 (Int32.ofInt ((Xi T1 904 130) + 1)) := ⟨_, rfl⟩
          rw [← eU33]
          have hHU33 : HI U33 := by rw [eU33]; exact HI_w hHU32 (show 0 ≤ ((Xi T1 904 130) + 1) by omega) (show ((Xi T1 904 130) + 1) ≤ 24 by omega)
          have hFU33 : FR md_mo_ruleMeant S U33 := by rw [eU33]; exact FR.wI hFU32 (mdf_i (r := (904, 905, 130, 131)) (List.mem_of_getElem? (i := 14) rfl) (inR_i (by omega) (by omega) (by omega) (by omega)))
          have w216 : Xi U33 904 130 = ((Xi T1 904 130) + 1) := by rw [eU33]; exact Xi_same (by unfold rg; omega)
          refine l_return rfl rfl ?_
          have w217 : Xi U33 904 102 = Xi T1 904 102 := (show Xi U33 904 102 = Xi U32 904 102 from by rw [eU33]; exact Xi_ne (by omega)).trans ( (show Xi U32 904 102 = Xi U31 904 102 from by rw [eU32]; exact Xi_ne (by omega)).trans ( (show Xi U31 904 102 = Xi U30 904 102 from by rw [eU31]; exact Xi_ne (by omega)).trans ( (show Xi U30 904 102 = Xi U29 904 102 from by rw [eU30]; exact Xi_ne (by omega)).trans ( (show Xi U29 904 102 = Xi U28 904 102 from by rw [eU29]; exact Xi_ne (by omega)).trans ( (show Xi U28 904 102 = Xi U27 904 102 from by rw [eU28]; exact Xi_ne (by omega)).trans ( (show Xi U27 904 102 = Xi U26 904 102 from by rw [eU27]; exact Xi_ne (by omega)).trans ((show Xi U26 904 102 = Xi T1 904 102 from by rw [eU26]; exact Xi_ne (by omega)))))))))
          have w218 : 0 ≤ Xi T1 904 102 ∧ Xi T1 904 102 ≤ 2600 := hHT1.c _ _
          have w219 : Xi U33 904 103 = Xi T1 904 103 := (show Xi U33 904 103 = Xi U32 904 103 from by rw [eU33]; exact Xi_ne (by omega)).trans ( (show Xi U32 904 103 = Xi U31 904 103 from by rw [eU32]; exact Xi_ne (by omega)).trans ( (show Xi U31 904 103 = Xi U30 904 103 from by rw [eU31]; exact Xi_ne (by omega)).trans ( (show Xi U30 904 103 = Xi U29 904 103 from by rw [eU30]; exact Xi_ne (by omega)).trans ( (show Xi U29 904 103 = Xi U28 904 103 from by rw [eU29]; exact Xi_ne (by omega)).trans ( (show Xi U28 904 103 = Xi U27 904 103 from by rw [eU28]; exact Xi_ne (by omega)).trans ( (show Xi U27 904 103 = Xi U26 904 103 from by rw [eU27]; exact Xi_ne (by omega)).trans ((show Xi U26 904 103 = Xi T1 904 103 from by rw [eU26]; exact Xi_ne (by omega)))))))))
          have w220 : -1 ≤ Xi T1 904 103 ∧ Xi T1 904 103 ≤ 2600 := hHT1.c _ _
          have w221 : Xi U33 904 106 = Xi T1 904 106 := (show Xi U33 904 106 = Xi U32 904 106 from by rw [eU33]; exact Xi_ne (by omega)).trans ( (show Xi U32 904 106 = Xi U31 904 106 from by rw [eU32]; exact Xi_ne (by omega)).trans ( (show Xi U31 904 106 = Xi U30 904 106 from by rw [eU31]; exact Xi_ne (by omega)).trans ( (show Xi U30 904 106 = Xi U29 904 106 from by rw [eU30]; exact Xi_ne (by omega)).trans ( (show Xi U29 904 106 = Xi U28 904 106 from by rw [eU29]; exact Xi_ne (by omega)).trans ( (show Xi U28 904 106 = Xi U27 904 106 from by rw [eU28]; exact Xi_ne (by omega)).trans ( (show Xi U27 904 106 = Xi U26 904 106 from by rw [eU27]; exact Xi_ne (by omega)).trans ((show Xi U26 904 106 = Xi T1 904 106 from by rw [eU26]; exact Xi_ne (by omega)))))))))
          have w223 : Xi U33 904 115 = Xi T1 904 115 := (show Xi U33 904 115 = Xi U32 904 115 from by rw [eU33]; exact Xi_ne (by omega)).trans ( (show Xi U32 904 115 = Xi U31 904 115 from by rw [eU32]; exact Xi_ne (by omega)).trans ( (show Xi U31 904 115 = Xi U30 904 115 from by rw [eU31]; exact Xi_ne (by omega)).trans ( (show Xi U30 904 115 = Xi U29 904 115 from by rw [eU30]; exact Xi_ne (by omega)).trans ( (show Xi U29 904 115 = Xi U28 904 115 from by rw [eU29]; exact Xi_ne (by omega)).trans ( (show Xi U28 904 115 = Xi U27 904 115 from by rw [eU28]; exact Xi_ne (by omega)).trans ( (show Xi U27 904 115 = Xi U26 904 115 from by rw [eU27]; exact Xi_ne (by omega)).trans ((show Xi U26 904 115 = Xi T1 904 115 from by rw [eU26]; exact Xi_ne (by omega)))))))))
          have w225 : Xi U33 904 117 = Xi U31 904 117 := (show Xi U33 904 117 = Xi U32 904 117 from by rw [eU33]; exact Xi_ne (by omega)).trans ((show Xi U32 904 117 = Xi U31 904 117 from by rw [eU32]; exact Xi_ne (by omega)))
          have w226 : 0 ≤ Xi U31 904 117 ∧ Xi U31 904 117 ≤ 480 := hHU31.c _ _
          have w227 : Xi U33 904 125 = Xi U32 904 125 := (show Xi U33 904 125 = Xi U32 904 125 from by rw [eU33]; exact Xi_ne (by omega))
          have w228 : 0 ≤ Xi U32 904 125 ∧ Xi U32 904 125 ≤ 192 := hHU32.c _ _
          have w229 : 0 ≤ Xi U33 904 130 ∧ Xi U33 904 130 ≤ 24 := hHU33.c _ _
          have w230 : Xi U33 904 23 = Xi T1 904 23 := (show Xi U33 904 23 = Xi U32 904 23 from by rw [eU33]; exact Xi_ne (by omega)).trans ( (show Xi U32 904 23 = Xi U31 904 23 from by rw [eU32]; exact Xi_ne (by omega)).trans ( (show Xi U31 904 23 = Xi U30 904 23 from by rw [eU31]; exact Xi_ne (by omega)).trans ( (show Xi U30 904 23 = Xi U29 904 23 from by rw [eU30]; exact Xi_ne (by omega)).trans ( (show Xi U29 904 23 = Xi U28 904 23 from by rw [eU29]; exact Xi_ne (by omega)).trans ( (show Xi U28 904 23 = Xi U27 904 23 from by rw [eU28]; exact Xi_ne (by omega)).trans ( (show Xi U27 904 23 = Xi U26 904 23 from by rw [eU27]; exact Xi_ne (by omega)).trans ((show Xi U26 904 23 = Xi T1 904 23 from by rw [eU26]; exact Xi_ne (by omega)))))))))
          have w232 : Xi U33 904 69 = Xi T1 904 69 := (show Xi U33 904 69 = Xi U32 904 69 from by rw [eU33]; exact Xi_ne (by omega)).trans ( (show Xi U32 904 69 = Xi U31 904 69 from by rw [eU32]; exact Xi_ne (by omega)).trans ( (show Xi U31 904 69 = Xi U30 904 69 from by rw [eU31]; exact Xi_ne (by omega)).trans ( (show Xi U30 904 69 = Xi U29 904 69 from by rw [eU30]; exact Xi_ne (by omega)).trans ( (show Xi U29 904 69 = Xi U28 904 69 from by rw [eU29]; exact Xi_ne (by omega)).trans ( (show Xi U28 904 69 = Xi U27 904 69 from by rw [eU28]; exact Xi_ne (by omega)).trans ( (show Xi U27 904 69 = Xi U26 904 69 from by rw [eU27]; exact Xi_ne (by omega)).trans ((show Xi U26 904 69 = Xi T1 904 69 from by rw [eU26]; exact Xi_ne (by omega)))))))))
          have w234 : Xi U33 904 70 = Xi T1 904 70 := (show Xi U33 904 70 = Xi U32 904 70 from by rw [eU33]; exact Xi_ne (by omega)).trans ( (show Xi U32 904 70 = Xi U31 904 70 from by rw [eU32]; exact Xi_ne (by omega)).trans ( (show Xi U31 904 70 = Xi U30 904 70 from by rw [eU31]; exact Xi_ne (by omega)).trans ( (show Xi U30 904 70 = Xi U29 904 70 from by rw [eU30]; exact Xi_ne (by omega)).trans ( (show Xi U29 904 70 = Xi U28 904 70 from by rw [eU29]; exact Xi_ne (by omega)).trans ( (show Xi U28 904 70 = Xi U27 904 70 from by rw [eU28]; exact Xi_ne (by omega)).trans ( (show Xi U27 904 70 = Xi U26 904 70 from by rw [eU27]; exact Xi_ne (by omega)).trans ((show Xi U26 904 70 = Xi T1 904 70 from by rw [eU26]; exact Xi_ne (by omega)))))))))
          have w236 : Xi U33 904 93 = Xi T1 904 93 := (show Xi U33 904 93 = Xi U32 904 93 from by rw [eU33]; exact Xi_ne (by omega)).trans ( (show Xi U32 904 93 = Xi U31 904 93 from by rw [eU32]; exact Xi_ne (by omega)).trans ( (show Xi U31 904 93 = Xi U30 904 93 from by rw [eU31]; exact Xi_ne (by omega)).trans ( (show Xi U30 904 93 = Xi U29 904 93 from by rw [eU30]; exact Xi_ne (by omega)).trans ( (show Xi U29 904 93 = Xi U28 904 93 from by rw [eU29]; exact Xi_ne (by omega)).trans ( (show Xi U28 904 93 = Xi U27 904 93 from by rw [eU28]; exact Xi_ne (by omega)).trans ( (show Xi U27 904 93 = Xi U26 904 93 from by rw [eU27]; exact Xi_ne (by omega)).trans ((show Xi U26 904 93 = Xi T1 904 93 from by rw [eU26]; exact Xi_ne (by omega)))))))))
          have w238 : Xi U33 904 94 = Xi T1 904 94 := (show Xi U33 904 94 = Xi U32 904 94 from by rw [eU33]; exact Xi_ne (by omega)).trans ( (show Xi U32 904 94 = Xi U31 904 94 from by rw [eU32]; exact Xi_ne (by omega)).trans ( (show Xi U31 904 94 = Xi U30 904 94 from by rw [eU31]; exact Xi_ne (by omega)).trans ( (show Xi U30 904 94 = Xi U29 904 94 from by rw [eU30]; exact Xi_ne (by omega)).trans ( (show Xi U29 904 94 = Xi U28 904 94 from by rw [eU29]; exact Xi_ne (by omega)).trans ( (show Xi U28 904 94 = Xi U27 904 94 from by rw [eU28]; exact Xi_ne (by omega)).trans ( (show Xi U27 904 94 = Xi U26 904 94 from by rw [eU27]; exact Xi_ne (by omega)).trans ((show Xi U26 904 94 = Xi T1 904 94 from by rw [eU26]; exact Xi_ne (by omega)))))))))
          have w240 : Xi U33 904 98 = Xi T1 904 98 := (show Xi U33 904 98 = Xi U32 904 98 from by rw [eU33]; exact Xi_ne (by omega)).trans ( (show Xi U32 904 98 = Xi U31 904 98 from by rw [eU32]; exact Xi_ne (by omega)).trans ( (show Xi U31 904 98 = Xi U30 904 98 from by rw [eU31]; exact Xi_ne (by omega)).trans ( (show Xi U30 904 98 = Xi U29 904 98 from by rw [eU30]; exact Xi_ne (by omega)).trans ( (show Xi U29 904 98 = Xi U28 904 98 from by rw [eU29]; exact Xi_ne (by omega)).trans ( (show Xi U28 904 98 = Xi U27 904 98 from by rw [eU28]; exact Xi_ne (by omega)).trans ( (show Xi U27 904 98 = Xi U26 904 98 from by rw [eU27]; exact Xi_ne (by omega)).trans ((show Xi U26 904 98 = Xi T1 904 98 from by rw [eU26]; exact Xi_ne (by omega)))))))))
          exact ⟨hHU33, hFU33, rfl, (by first | exact fun q => absurd q (by omega) | exact fun q => rul_new hR hBX hH G58 (by omega) (by omega) (by omega) (by omega) (fun e => by first | exact absurd e (by decide) | exact R58.2.2.1 (by omega)) R58 L58 E58 Q58 H58 (by have t := (t7_58 (by omega)).1; omega) (by omega) (t7_58 (by omega)).2 (by have u := P58 (by omega); rw [show v3 = Xi S 904 117 + Xi S 904 94 by omega, show v4 = Xi S 904 98 by omega] at u; exact u) (by omega) (by omega) (by omega) (by omega) (by omega) (by omega) (by omega) (by omega) eU26 eU27 eU28 eU29 eU30 eU31 eU32 eU33)⟩
    · refine l_aload_n rfl rfl ?_
      refine l_iload rfl rfl ?_
      refine l_bipush rfl rfl ?_
      refine l_icmp_ge rfl rfl (by unfold rg; omega) (by unfold rg; omega) (fun w242 => ?_) (fun w243 => ?_)
      · refine l_iconst rfl ?_
        refine l_bipush rfl rfl ?_
        refine l_aload_n rfl rfl ?_
        refine l_gfr rfl rfl rfl rfl rfl (hHT1.r 904 97 965 rfl) ?_
        refine l_iload rfl rfl ?_
        refine l_iaload (n := 1700) rfl rfl (by omega) (by omega) (by unfold rg; omega) ?_
        have w244 : 0 ≤ (Xi T1 965 ((v4).toNat)) ∧ (Xi T1 965 ((v4).toNat)) ≤ 5010 := hHT1.c _ _
        have e88 : (Xi T1 965 ((v4).toNat)) ≤ 5001 := by rw [(hFT1.cx 965 rfl _).1]; exact hPF _
        have w245 : 0 ≤ Xi T1 904 102 ∧ Xi T1 904 102 ≤ 2600 := hHT1.c _ _
        have w246 : -1 ≤ Xi T1 904 103 ∧ Xi T1 904 103 ≤ 2600 := hHT1.c _ _
        refine l_callV rfl rfl rfl (t_mo_need hHT1 0 9 (Xi T1 965 ((v4).toNat)) ⟨by omega, by omega⟩ ⟨by omega, by omega⟩ ⟨by omega, by omega⟩ _) ?_
        rintro _ T34 ⟨hHT34, w261, rfl, w258, w259⟩
        have hFT34 : FR md_mo_ruleMeant S T34 := FR.tr hFT1 w261 rfl
        show Rl _ _ _ _ _ [] _ _
        refine l_aload_n rfl rfl ?_
        refine l_iload rfl rfl ?_
        refine l_iload_n rfl rfl ?_
        refine l_iload rfl rfl ?_
        refine l_iadd rfl ?_
        refine l_aload_n rfl rfl ?_
        refine l_gfi rfl rfl rfl rfl rfl ?_
        have w262 : (Xi T34 904 125) = (Xi T1 904 125) := (show Xi T34 904 125 = Xi T1 904 125 from w261.x _ _ rfl)
        rw [w262]
        refine l_iload rfl rfl ?_
        refine l_iadd rfl ?_
        have w263 : Xi T34 904 102 = Xi T1 904 102 := (show Xi T34 904 102 = Xi T1 904 102 from w261.x _ _ rfl)
        have w265 : Xi T34 904 103 = Xi T1 904 103 := (show Xi T34 904 103 = Xi T1 904 103 from w261.x _ _ rfl)
        have w267 : 0 ≤ Xi T34 904 106 ∧ Xi T34 904 106 ≤ 9 := hHT34.c _ _
        have w268 : Xi T34 904 115 = Xi T1 904 115 := (show Xi T34 904 115 = Xi T1 904 115 from w261.x _ _ rfl)
        have w270 : Xi T34 904 116 = Xi T1 904 116 := (show Xi T34 904 116 = Xi T1 904 116 from w261.x _ _ rfl)
        have w272 : Xi T34 904 117 = Xi T1 904 117 := (show Xi T34 904 117 = Xi T1 904 117 from w261.x _ _ rfl)
        have w274 : Xi T34 904 125 = Xi T1 904 125 := (show Xi T34 904 125 = Xi T1 904 125 from w261.x _ _ rfl)
        have w276 : Xi T34 904 130 = Xi T1 904 130 := (show Xi T34 904 130 = Xi T1 904 130 from w261.x _ _ rfl)
        have w278 : Xi T34 904 23 = Xi T1 904 23 := (show Xi T34 904 23 = Xi T1 904 23 from w261.x _ _ rfl)
        have w280 : Xi T34 904 69 = Xi T1 904 69 := (show Xi T34 904 69 = Xi T1 904 69 from w261.x _ _ rfl)
        have w282 : Xi T34 904 70 = Xi T1 904 70 := (show Xi T34 904 70 = Xi T1 904 70 from w261.x _ _ rfl)
        have w284 : Xi T34 904 93 = Xi T1 904 93 := (show Xi T34 904 93 = Xi T1 904 93 from w261.x _ _ rfl)
        have w286 : Xi T34 904 94 = Xi T1 904 94 := (show Xi T34 904 94 = Xi T1 904 94 from w261.x _ _ rfl)
        have w288 : Xi T34 904 98 = Xi T1 904 98 := (show Xi T34 904 98 = Xi T1 904 98 from w261.x _ _ rfl)
        refine l_callV rfl rfl rfl (t_mo_phraseMeant hHT34 n v4 (v3 + v4) ((Xi T1 904 125) + v4) ⟨by omega, by omega⟩ ⟨by omega, by omega⟩ ⟨by omega, by omega⟩ (by first | assumption | exact (TK_FR hFT34 rfl (by assumption : TK S _))) (by first | assumption | exact (RNV_FR hFT34 rfl (by assumption : RNV S _))) (by first | assumption | exact (LXM_FR hFT34 rfl (by assumption : LXM S))) (by first | assumption | exact (ABV_FR hFT34 rfl (by assumption : ABV S))) (by first | assumption | exact (DCM_FR hFT34 rfl (by assumption : DCM S))) (by first | assumption | exact (TXK_FR hFT34 rfl (by assumption : TXK S _))) (by first | assumption | exact (TXM_FR hFT34 rfl (by assumption : TXM S))) (by first | assumption | omega) (((PVA_FR hH hFT34 rfl hpv) (v4).toNat (by omega)).2) (by have t := (hpv (v4).toNat (by omega)).1; rw [(hFT34.cx 964 rfl _).1]; omega) _) ?_
        rintro _ T35 ⟨hHT35, w292, rfl, w290, pq106, kq106, kh106, pt106⟩
        have hFT35 : FR md_mo_ruleMeant S T35 := FR.tr hFT34 w292 rfl
        show Rl _ _ _ _ _ [] _ _
        have g106 : GR T35 T34 := GR_FR (by assumption : FR md_mo_phraseMeant T34 T35) rfl GR.rf
        have P106 : Xi T35 904 106 = 0 → PQS T35 (Xi S 904 125) v3 (v4 + 1) := fun x => pqs_add (PQS_FR (by assumption : FR md_mo_need T1 T34) rfl (P58 (by omega))) g106 ⟨by omega, by omega, by omega⟩ kq106 kh106 (by omega) (by omega) ((by assumption : FR md_mo_phraseMeant T34 T35).x 904 116 rfl) (pq106 x) pt106
        have t7_106 : Xi T35 904 106 = 0 → Xi S 904 94 ≤ 6 ∧ TQA T35 False (0 ≤ Xi T35 904 116) (Xi S 904 117) (Xi S 904 94) := fun x => ⟨(t7_58 (by omega)).1, (((t7_58 (by omega)).2.mv (fun j _ _ k a b => kdis_q (by assumption : FR md_mo_need T1 T34) rfl k a b _) ((by assumption : FR md_mo_need T1 T34).x 904 19 rfl) ((by assumption : FR md_mo_need T1 T34).x 904 23 rfl) ((by assumption : FR md_mo_need T1 T34).x 904 32 rfl)).mv (fun j a1 b1 k a b => kq106 _ (by omega) k a b) ((by assumption : FR md_mo_phraseMeant T34 T35).x 904 19 rfl) ((by assumption : FR md_mo_phraseMeant T34 T35).x 904 23 rfl) ((by assumption : FR md_mo_phraseMeant T34 T35).x 904 32 rfl)).b id (fun y => by rw [(by assumption : FR md_mo_phraseMeant T34 T35).x 904 116 rfl, (by assumption : FR md_mo_need T1 T34).x 904 116 rfl]; exact y)⟩
        have Q106 : KQL T35 S (Xi S 904 117) := KQL.q (KQL_FR w261 rfl (by assumption : KQL T1 _ _)) kq106 (by omega)
        have H106 : KHL T35 S (Xi S 904 125) := KHL.h (KHL_FR w261 rfl (by assumption : KHL T1 _ _)) kh106 (by omega)
        clear pq106 kq106 kh106
        refine l_iinc rfl rfl rfl rfl ?_
        refine l_goto rfl rfl ?_
        have w293 : Xi T35 904 102 = Xi T1 904 102 := (show Xi T35 904 102 = Xi T34 904 102 from w292.x _ _ rfl).trans ((show Xi T34 904 102 = Xi T1 904 102 from w261.x _ _ rfl))
        have w295 : Xi T35 904 103 = Xi T1 904 103 := (show Xi T35 904 103 = Xi T34 904 103 from w292.x _ _ rfl).trans ((show Xi T34 904 103 = Xi T1 904 103 from w261.x _ _ rfl))
        have w297 : 0 ≤ Xi T35 904 106 ∧ Xi T35 904 106 ≤ 9 := hHT35.c _ _
        have w298 : Xi T35 904 115 = Xi T1 904 115 := (show Xi T35 904 115 = Xi T34 904 115 from w292.x _ _ rfl).trans ((show Xi T34 904 115 = Xi T1 904 115 from w261.x _ _ rfl))
        have w300 : Xi T35 904 116 = Xi T1 904 116 := (show Xi T35 904 116 = Xi T34 904 116 from w292.x _ _ rfl).trans ((show Xi T34 904 116 = Xi T1 904 116 from w261.x _ _ rfl))
        have w302 : Xi T35 904 117 = Xi T1 904 117 := (show Xi T35 904 117 = Xi T34 904 117 from w292.x _ _ rfl).trans ((show Xi T34 904 117 = Xi T1 904 117 from w261.x _ _ rfl))
        have w304 : Xi T35 904 125 = Xi T1 904 125 := (show Xi T35 904 125 = Xi T34 904 125 from w292.x _ _ rfl).trans ((show Xi T34 904 125 = Xi T1 904 125 from w261.x _ _ rfl))
        have w306 : Xi T35 904 130 = Xi T1 904 130 := (show Xi T35 904 130 = Xi T34 904 130 from w292.x _ _ rfl).trans ((show Xi T34 904 130 = Xi T1 904 130 from w261.x _ _ rfl))
        have w308 : Xi T35 904 23 = Xi T1 904 23 := (show Xi T35 904 23 = Xi T34 904 23 from w292.x _ _ rfl).trans ((show Xi T34 904 23 = Xi T1 904 23 from w261.x _ _ rfl))
        have w310 : Xi T35 904 69 = Xi T1 904 69 := (show Xi T35 904 69 = Xi T34 904 69 from w292.x _ _ rfl).trans ((show Xi T34 904 69 = Xi T1 904 69 from w261.x _ _ rfl))
        have w312 : Xi T35 904 70 = Xi T1 904 70 := (show Xi T35 904 70 = Xi T34 904 70 from w292.x _ _ rfl).trans ((show Xi T34 904 70 = Xi T1 904 70 from w261.x _ _ rfl))
        have w314 : Xi T35 904 93 = Xi T1 904 93 := (show Xi T35 904 93 = Xi T34 904 93 from w292.x _ _ rfl).trans ((show Xi T34 904 93 = Xi T1 904 93 from w261.x _ _ rfl))
        have w316 : Xi T35 904 94 = Xi T1 904 94 := (show Xi T35 904 94 = Xi T34 904 94 from w292.x _ _ rfl).trans ((show Xi T34 904 94 = Xi T1 904 94 from w261.x _ _ rfl))
        have w318 : Xi T35 904 98 = Xi T1 904 98 := (show Xi T35 904 98 = Xi T34 904 98 from w292.x _ _ rfl).trans ((show Xi T34 904 98 = Xi T1 904 98 from w261.x _ _ rfl))
        exact Rl_weak (ih58 _ (by omega) T35 hHT35 hFT35 (v2) (v3) ((v4 + 1)) (by omega) (by omega) (by omega) (by omega) (by omega) (by omega) (by omega) (by omega) (by omega) (by omega) (by omega) (by omega) (by omega) (by omega) (by omega) (by omega) (by omega) (by omega) (by omega) ((RLH_FR w292 rfl (RLH_FR w261 rfl (by assumption : RLH T1 _)))) ((KRL_FR w292 rfl (KRL_FR w261 rfl (by assumption : KRL T1 _ _)))) (by first | exact Q106 | exact (by assumption : KQL T35 _ _)) (by first | exact H106 | exact (by assumption : KHL T35 _ _)) ((K78_FR w292 rfl (K78_FR w261 rfl (by assumption : K78 T1 _)))) ((GR_FR w292 rfl (GR_FR w261 rfl (by assumption : GR T1 S)))) (by first | exact t7_106 | exact t7_42) (by first | exact P106 | exact fun x j hj => absurd hj (by omega)) rfl) (And.intro rfl (And.intro rfl (And.intro rfl (And.intro rfl (True.intro)))))
      · refine l_iconst rfl ?_
        refine l_goto rfl rfl ?_
        refine l_bipush rfl rfl ?_
        refine l_aload_n rfl rfl ?_
        refine l_gfr rfl rfl rfl rfl rfl (hHT1.r 904 97 965 rfl) ?_
        refine l_iload rfl rfl ?_
        refine l_iaload (n := 1700) rfl rfl (by omega) (by omega) (by unfold rg; omega) ?_
        have w320 : 0 ≤ (Xi T1 965 ((v4).toNat)) ∧ (Xi T1 965 ((v4).toNat)) ≤ 5010 := hHT1.c _ _
        have e88 : (Xi T1 965 ((v4).toNat)) ≤ 5001 := by rw [(hFT1.cx 965 rfl _).1]; exact hPF _
        have w321 : 0 ≤ Xi T1 904 102 ∧ Xi T1 904 102 ≤ 2600 := hHT1.c _ _
        have w322 : -1 ≤ Xi T1 904 103 ∧ Xi T1 904 103 ≤ 2600 := hHT1.c _ _
        refine l_callV rfl rfl rfl (t_mo_need hHT1 1 9 (Xi T1 965 ((v4).toNat)) ⟨by omega, by omega⟩ ⟨by omega, by omega⟩ ⟨by omega, by omega⟩ _) ?_
        rintro _ T36 ⟨hHT36, w337, rfl, w334, w335⟩
        have hFT36 : FR md_mo_ruleMeant S T36 := FR.tr hFT1 w337 rfl
        show Rl _ _ _ _ _ [] _ _
        refine l_aload_n rfl rfl ?_
        refine l_iload rfl rfl ?_
        refine l_iload_n rfl rfl ?_
        refine l_iload rfl rfl ?_
        refine l_iadd rfl ?_
        refine l_aload_n rfl rfl ?_
        refine l_gfi rfl rfl rfl rfl rfl ?_
        have w338 : (Xi T36 904 125) = (Xi T1 904 125) := (show Xi T36 904 125 = Xi T1 904 125 from w337.x _ _ rfl)
        rw [w338]
        refine l_iload rfl rfl ?_
        refine l_iadd rfl ?_
        have w339 : Xi T36 904 102 = Xi T1 904 102 := (show Xi T36 904 102 = Xi T1 904 102 from w337.x _ _ rfl)
        have w341 : Xi T36 904 103 = Xi T1 904 103 := (show Xi T36 904 103 = Xi T1 904 103 from w337.x _ _ rfl)
        have w343 : 0 ≤ Xi T36 904 106 ∧ Xi T36 904 106 ≤ 9 := hHT36.c _ _
        have w344 : Xi T36 904 115 = Xi T1 904 115 := (show Xi T36 904 115 = Xi T1 904 115 from w337.x _ _ rfl)
        have w346 : Xi T36 904 116 = Xi T1 904 116 := (show Xi T36 904 116 = Xi T1 904 116 from w337.x _ _ rfl)
        have w348 : Xi T36 904 117 = Xi T1 904 117 := (show Xi T36 904 117 = Xi T1 904 117 from w337.x _ _ rfl)
        have w350 : Xi T36 904 125 = Xi T1 904 125 := (show Xi T36 904 125 = Xi T1 904 125 from w337.x _ _ rfl)
        have w352 : Xi T36 904 130 = Xi T1 904 130 := (show Xi T36 904 130 = Xi T1 904 130 from w337.x _ _ rfl)
        have w354 : Xi T36 904 23 = Xi T1 904 23 := (show Xi T36 904 23 = Xi T1 904 23 from w337.x _ _ rfl)
        have w356 : Xi T36 904 69 = Xi T1 904 69 := (show Xi T36 904 69 = Xi T1 904 69 from w337.x _ _ rfl)
        have w358 : Xi T36 904 70 = Xi T1 904 70 := (show Xi T36 904 70 = Xi T1 904 70 from w337.x _ _ rfl)
        have w360 : Xi T36 904 93 = Xi T1 904 93 := (show Xi T36 904 93 = Xi T1 904 93 from w337.x _ _ rfl)
        have w362 : Xi T36 904 94 = Xi T1 904 94 := (show Xi T36 904 94 = Xi T1 904 94 from w337.x _ _ rfl)
        have w364 : Xi T36 904 98 = Xi T1 904 98 := (show Xi T36 904 98 = Xi T1 904 98 from w337.x _ _ rfl)
        refine l_callV rfl rfl rfl (t_mo_phraseMeant hHT36 n v4 (v3 + v4) ((Xi T1 904 125) + v4) ⟨by omega, by omega⟩ ⟨by omega, by omega⟩ ⟨by omega, by omega⟩ (by first | assumption | exact (TK_FR hFT36 rfl (by assumption : TK S _))) (by first | assumption | exact (RNV_FR hFT36 rfl (by assumption : RNV S _))) (by first | assumption | exact (LXM_FR hFT36 rfl (by assumption : LXM S))) (by first | assumption | exact (ABV_FR hFT36 rfl (by assumption : ABV S))) (by first | assumption | exact (DCM_FR hFT36 rfl (by assumption : DCM S))) (by first | assumption | exact (TXK_FR hFT36 rfl (by assumption : TXK S _))) (by first | assumption | exact (TXM_FR hFT36 rfl (by assumption : TXM S))) (by first | assumption | omega) (((PVA_FR hH hFT36 rfl hpv) (v4).toNat (by omega)).2) (by have t := (hpv (v4).toNat (by omega)).1; rw [(hFT36.cx 964 rfl _).1]; omega) _) ?_
        rintro _ T37 ⟨hHT37, w368, rfl, w366, pq106, kq106, kh106, pt106⟩
        have hFT37 : FR md_mo_ruleMeant S T37 := FR.tr hFT36 w368 rfl
        show Rl _ _ _ _ _ [] _ _
        have g106 : GR T37 T36 := GR_FR (by assumption : FR md_mo_phraseMeant T36 T37) rfl GR.rf
        have P106 : Xi T37 904 106 = 0 → PQS T37 (Xi S 904 125) v3 (v4 + 1) := fun x => pqs_add (PQS_FR (by assumption : FR md_mo_need T1 T36) rfl (P58 (by omega))) g106 ⟨by omega, by omega, by omega⟩ kq106 kh106 (by omega) (by omega) ((by assumption : FR md_mo_phraseMeant T36 T37).x 904 116 rfl) (pq106 x) pt106
        have t7_106 : Xi T37 904 106 = 0 → Xi S 904 94 ≤ 6 ∧ TQA T37 False (0 ≤ Xi T37 904 116) (Xi S 904 117) (Xi S 904 94) := fun x => ⟨(t7_58 (by omega)).1, (((t7_58 (by omega)).2.mv (fun j _ _ k a b => kdis_q (by assumption : FR md_mo_need T1 T36) rfl k a b _) ((by assumption : FR md_mo_need T1 T36).x 904 19 rfl) ((by assumption : FR md_mo_need T1 T36).x 904 23 rfl) ((by assumption : FR md_mo_need T1 T36).x 904 32 rfl)).mv (fun j a1 b1 k a b => kq106 _ (by omega) k a b) ((by assumption : FR md_mo_phraseMeant T36 T37).x 904 19 rfl) ((by assumption : FR md_mo_phraseMeant T36 T37).x 904 23 rfl) ((by assumption : FR md_mo_phraseMeant T36 T37).x 904 32 rfl)).b id (fun y => by rw [(by assumption : FR md_mo_phraseMeant T36 T37).x 904 116 rfl, (by assumption : FR md_mo_need T1 T36).x 904 116 rfl]; exact y)⟩
        have Q106 : KQL T37 S (Xi S 904 117) := KQL.q (KQL_FR w337 rfl (by assumption : KQL T1 _ _)) kq106 (by omega)
        have H106 : KHL T37 S (Xi S 904 125) := KHL.h (KHL_FR w337 rfl (by assumption : KHL T1 _ _)) kh106 (by omega)
        clear pq106 kq106 kh106
        refine l_iinc rfl rfl rfl rfl ?_
        refine l_goto rfl rfl ?_
        have w369 : Xi T37 904 102 = Xi T1 904 102 := (show Xi T37 904 102 = Xi T36 904 102 from w368.x _ _ rfl).trans ((show Xi T36 904 102 = Xi T1 904 102 from w337.x _ _ rfl))
        have w371 : Xi T37 904 103 = Xi T1 904 103 := (show Xi T37 904 103 = Xi T36 904 103 from w368.x _ _ rfl).trans ((show Xi T36 904 103 = Xi T1 904 103 from w337.x _ _ rfl))
        have w373 : 0 ≤ Xi T37 904 106 ∧ Xi T37 904 106 ≤ 9 := hHT37.c _ _
        have w374 : Xi T37 904 115 = Xi T1 904 115 := (show Xi T37 904 115 = Xi T36 904 115 from w368.x _ _ rfl).trans ((show Xi T36 904 115 = Xi T1 904 115 from w337.x _ _ rfl))
        have w376 : Xi T37 904 116 = Xi T1 904 116 := (show Xi T37 904 116 = Xi T36 904 116 from w368.x _ _ rfl).trans ((show Xi T36 904 116 = Xi T1 904 116 from w337.x _ _ rfl))
        have w378 : Xi T37 904 117 = Xi T1 904 117 := (show Xi T37 904 117 = Xi T36 904 117 from w368.x _ _ rfl).trans ((show Xi T36 904 117 = Xi T1 904 117 from w337.x _ _ rfl))
        have w380 : Xi T37 904 125 = Xi T1 904 125 := (show Xi T37 904 125 = Xi T36 904 125 from w368.x _ _ rfl).trans ((show Xi T36 904 125 = Xi T1 904 125 from w337.x _ _ rfl))
        have w382 : Xi T37 904 130 = Xi T1 904 130 := (show Xi T37 904 130 = Xi T36 904 130 from w368.x _ _ rfl).trans ((show Xi T36 904 130 = Xi T1 904 130 from w337.x _ _ rfl))
        have w384 : Xi T37 904 23 = Xi T1 904 23 := (show Xi T37 904 23 = Xi T36 904 23 from w368.x _ _ rfl).trans ((show Xi T36 904 23 = Xi T1 904 23 from w337.x _ _ rfl))
        have w386 : Xi T37 904 69 = Xi T1 904 69 := (show Xi T37 904 69 = Xi T36 904 69 from w368.x _ _ rfl).trans ((show Xi T36 904 69 = Xi T1 904 69 from w337.x _ _ rfl))
        have w388 : Xi T37 904 70 = Xi T1 904 70 := (show Xi T37 904 70 = Xi T36 904 70 from w368.x _ _ rfl).trans ((show Xi T36 904 70 = Xi T1 904 70 from w337.x _ _ rfl))
        have w390 : Xi T37 904 93 = Xi T1 904 93 := (show Xi T37 904 93 = Xi T36 904 93 from w368.x _ _ rfl).trans ((show Xi T36 904 93 = Xi T1 904 93 from w337.x _ _ rfl))
        have w392 : Xi T37 904 94 = Xi T1 904 94 := (show Xi T37 904 94 = Xi T36 904 94 from w368.x _ _ rfl).trans ((show Xi T36 904 94 = Xi T1 904 94 from w337.x _ _ rfl))
        have w394 : Xi T37 904 98 = Xi T1 904 98 := (show Xi T37 904 98 = Xi T36 904 98 from w368.x _ _ rfl).trans ((show Xi T36 904 98 = Xi T1 904 98 from w337.x _ _ rfl))
        exact Rl_weak (ih58 _ (by omega) T37 hHT37 hFT37 (v2) (v3) ((v4 + 1)) (by omega) (by omega) (by omega) (by omega) (by omega) (by omega) (by omega) (by omega) (by omega) (by omega) (by omega) (by omega) (by omega) (by omega) (by omega) (by omega) (by omega) (by omega) (by omega) ((RLH_FR w368 rfl (RLH_FR w337 rfl (by assumption : RLH T1 _)))) ((KRL_FR w368 rfl (KRL_FR w337 rfl (by assumption : KRL T1 _ _)))) (by first | exact Q106 | exact (by assumption : KQL T37 _ _)) (by first | exact H106 | exact (by assumption : KHL T37 _ _)) ((K78_FR w368 rfl (K78_FR w337 rfl (by assumption : K78 T1 _)))) ((GR_FR w368 rfl (GR_FR w337 rfl (by assumption : GR T1 S)))) (by first | exact t7_106 | exact t7_42) (by first | exact P106 | exact fun x j hj => absurd hj (by omega)) rfl) (And.intro rfl (And.intro rfl (And.intro rfl (And.intro rfl (True.intro)))))
/-! SAFETY of methods: printed by wip/safe (vc.py, decl.py) -/
set_option maxRecDepth 100000 in
set_option maxHeartbeats 8000000 in
theorem t_mo_ruleMeant {S : sS} (hH : HI S) (n : Nat) (first : Int) (hfirst : 0 ≤ first ∧ first ≤ 5001) (hT : TK S n) (hv : RNV S n) (hM : LXM S) (hB : ABV S) (hC : DCM S) (hK : TXK S n) (hX : TXM S) (ha : Xi S 904 70 ≠ 6 → Xi S 904 102 < Xi S 904 69 ∧ Xi S 904 103 < Xi S 904 69) (htv : TVA S n (Xi S 904 94)) (h94 : Xi S 904 94 ≤ 1668) (hpv : PVA S n (Xi S 904 98)) (hb6 : Xi S 904 94 + Xi S 904 98 ≤ 1666) (hR : RULM S) (hBX : TBX S) (h36 : 3 ≤ Xi S 904 70 ∧ Xi S 904 70 ≤ 6) (hPF : PF S) (d : Nat) : Mt lay0 (d + 12) m_mo_ruleMeant [.ref 904, iv first] S (Q_mo_ruleMeant S n first) := by
  refine Mt_R rfl rfl ?_
  have C58 := c58_mo_ruleMeant hH n first hfirst hT hv hM hB hC hK hX ha htv h94 hpv hb6 hR hBX h36 hPF d 
  have hF : FR md_mo_ruleMeant S S := FR.rf
  have w1 : 0 ≤ Xi S 904 102 ∧ Xi S 904 102 ≤ 2600 := hH.c _ _
  have w2 : -1 ≤ Xi S 904 103 ∧ Xi S 904 103 ≤ 2600 := hH.c _ _
  have w3 : 0 ≤ Xi S 904 106 ∧ Xi S 904 106 ≤ 9 := hH.c _ _
  have w4 : -1 ≤ Xi S 904 115 ∧ Xi S 904 115 ≤ 15 := hH.c _ _
  have w5 : -1 ≤ Xi S 904 116 ∧ Xi S 904 116 ≤ 15 := hH.c _ _
  have w6 : 0 ≤ Xi S 904 117 ∧ Xi S 904 117 ≤ 480 := hH.c _ _
  have w7 : 0 ≤ Xi S 904 125 ∧ Xi S 904 125 ≤ 192 := hH.c _ _
  have w8 : 0 ≤ Xi S 904 130 ∧ Xi S 904 130 ≤ 24 := hH.c _ _
  have w9 : 0 ≤ Xi S 904 23 ∧ Xi S 904 23 ≤ 24 := hH.c _ _
  have w10 : 0 ≤ Xi S 904 69 ∧ Xi S 904 69 ≤ 2600 := hH.c _ _
  have w11 : 0 ≤ Xi S 904 70 ∧ Xi S 904 70 ≤ 20 := hH.c _ _
  have w12 : 0 ≤ Xi S 904 93 ∧ Xi S 904 93 ≤ 1700 := hH.c _ _
  have w13 : 0 ≤ Xi S 904 94 ∧ Xi S 904 94 ≤ 1700 := hH.c _ _
  have w14 : 0 ≤ Xi S 904 98 ∧ Xi S 904 98 ≤ 1700 := hH.c _ _
  have hn5 := hT.1
  have hq0 : KQL S S (Xi S 904 117) := KQL.rf
  have hh0 : KHL S S (Xi S 904 125) := KHL.rf
  have h780 : K78 S S := K78.rf
  have hc117 : 0 ≤ Xi S 904 117 ∧ Xi S 904 117 ≤ 480 := hH.c _ _
  have hc125 : 0 ≤ Xi S 904 125 ∧ Xi S 904 125 ≤ 192 := hH.c _ _
  have hc130 : 0 ≤ Xi S 904 130 ∧ Xi S 904 130 ≤ 24 := hH.c _ _
  have hc93 : 0 ≤ Xi S 904 93 ∧ Xi S 904 93 ≤ 1700 := hH.c _ _
  have hc94 : 0 ≤ Xi S 904 94 ∧ Xi S 904 94 ≤ 1700 := hH.c _ _
  have hc98 : 0 ≤ Xi S 904 98 ∧ Xi S 904 98 ≤ 1700 := hH.c _ _
  have hb1 : Xi S 904 117 ≤ 14 * Xi S 904 130 + 6 * Xi S 904 23 := hBX.1.1
  have hb2 : Xi S 904 125 ≤ 8 * Xi S 904 130 := hBX.1.2
  have hc23 : 0 ≤ Xi S 904 23 ∧ Xi S 904 23 ≤ 24 := hH.c _ _
  refine l_aload_n rfl rfl ?_
  refine l_aload_n rfl rfl ?_
  refine l_gfi rfl rfl rfl rfl rfl ?_
  refine l_bipush rfl rfl ?_
  refine l_icmp_ge rfl rfl (by unfold rg; omega) (by unfold rg; omega) (fun w396 => ?_) (fun w397 => ?_)
  · refine l_iconst rfl ?_
    refine l_bipush rfl rfl ?_
    refine l_iload_n rfl rfl ?_
    refine l_callV rfl rfl rfl (t_mo_need hH 0 9 first ⟨by omega, by omega⟩ ⟨by omega, by omega⟩ ⟨by omega, by omega⟩ _) ?_
    rintro _ T38 ⟨hHT38, w414, rfl, w411, w412⟩
    have hFT38 : FR md_mo_ruleMeant S T38 := FR.tr hF w414 rfl
    show Rl _ _ _ _ _ [] _ _
    refine l_aload_n rfl rfl ?_
    refine l_gfi rfl rfl rfl rfl rfl ?_
    have w415 : (Xi T38 904 130) = (Xi S 904 130) := (show Xi T38 904 130 = Xi S 904 130 from w414.x _ _ rfl)
    rw [w415]
    refine l_bipush rfl rfl ?_
    refine l_min rfl rfl rfl (by unfold rg; omega) (by unfold rg; omega) ?_
    refine l_istore_n rfl rfl rfl ?_
    refine l_aload_n rfl rfl ?_
    refine l_iload_n rfl rfl ?_
    have w416 : Xi T38 904 102 = Xi S 904 102 := (show Xi T38 904 102 = Xi S 904 102 from w414.x _ _ rfl)
    have w418 : Xi T38 904 103 = Xi S 904 103 := (show Xi T38 904 103 = Xi S 904 103 from w414.x _ _ rfl)
    have w420 : 0 ≤ Xi T38 904 106 ∧ Xi T38 904 106 ≤ 9 := hHT38.c _ _
    have w421 : Xi T38 904 115 = Xi S 904 115 := (show Xi T38 904 115 = Xi S 904 115 from w414.x _ _ rfl)
    have w423 : Xi T38 904 117 = Xi S 904 117 := (show Xi T38 904 117 = Xi S 904 117 from w414.x _ _ rfl)
    have w425 : Xi T38 904 125 = Xi S 904 125 := (show Xi T38 904 125 = Xi S 904 125 from w414.x _ _ rfl)
    have w427 : Xi T38 904 130 = Xi S 904 130 := (show Xi T38 904 130 = Xi S 904 130 from w414.x _ _ rfl)
    have w429 : Xi T38 904 23 = Xi S 904 23 := (show Xi T38 904 23 = Xi S 904 23 from w414.x _ _ rfl)
    have w431 : Xi T38 904 49 = Xi S 904 49 := (show Xi T38 904 49 = Xi S 904 49 from w414.x _ _ rfl)
    have w432 : 0 ≤ Xi S 904 49 ∧ Xi S 904 49 ≤ 12 := hH.c _ _
    have w433 : Xi T38 904 69 = Xi S 904 69 := (show Xi T38 904 69 = Xi S 904 69 from w414.x _ _ rfl)
    have w435 : Xi T38 904 70 = Xi S 904 70 := (show Xi T38 904 70 = Xi S 904 70 from w414.x _ _ rfl)
    have w437 : Xi T38 904 93 = Xi S 904 93 := (show Xi T38 904 93 = Xi S 904 93 from w414.x _ _ rfl)
    have w439 : Xi T38 904 94 = Xi S 904 94 := (show Xi T38 904 94 = Xi S 904 94 from w414.x _ _ rfl)
    have w441 : Xi T38 904 98 = Xi S 904 98 := (show Xi T38 904 98 = Xi S 904 98 from w414.x _ _ rfl)
    refine l_callV rfl rfl rfl (t_mo_actingMeant hHT38 n (if 23 < (Xi S 904 130) then 23 else (Xi S 904 130)) ⟨by omega, by omega⟩ (by first | assumption | exact (TK_FR hFT38 rfl (by assumption : TK S _))) (by first | assumption | exact (RNV_FR hFT38 rfl (by assumption : RNV S _))) (by first | assumption | exact (LXM_FR hFT38 rfl (by assumption : LXM S))) (by first | assumption | exact (ABV_FR hFT38 rfl (by assumption : ABV S))) (by first | assumption | exact (DCM_FR hFT38 rfl (by assumption : DCM S))) (fun q => by have t := ha (by omega); omega) _) ?_
    rintro _ T39 ⟨hHT39, w445, rfl, w443, ra33, a33, s33, n33, k33⟩
    have hFT39 : FR md_mo_ruleMeant S T39 := FR.tr hFT38 w445 rfl
    show Rl _ _ _ _ _ [] _ _
    have R33 : RLH T39 (if 23 < (Xi S 904 130) then 23 else (Xi S 904 130)) := ⟨ra33, by rw [(by assumption : FR md_mo_actingMeant T38 T39).x 904 49 rfl]; exact a33, fun q => s33 (by rw [← (by assumption : FR md_mo_actingMeant T38 T39).x 904 70 rfl]; exact q), n33⟩
    have L33 : KRL T39 S (if 23 < (Xi S 904 130) then 23 else (Xi S 904 130)) := (KRL_FR (by assumption : FR md_mo_need S T38) rfl KRL.rf).tr k33
    clear ra33 a33 s33 n33 k33
    refine l_aload_n rfl rfl ?_
    refine l_iconst rfl ?_
    refine l_pfi rfl rfl rfl rfl ?_
    obtain ⟨U40, eU40⟩ : ∃ T : sS, T = uI T39 904 115 (Int32.ofInt (-1)) := ⟨_, rfl⟩
    rw [← eU40]
    have hHU40 : HI U40 := by rw [eU40]; exact HI_w hHT39 (show -1 ≤ (-1) by omega) (show (-1) ≤ 15 by omega)
    have hFU40 : FR md_mo_ruleMeant S U40 := by rw [eU40]; exact FR.wI hFT39 (mdf_i (r := (904, 905, 115, 116)) (List.mem_of_getElem? (i := 8) rfl) (inR_i (by omega) (by omega) (by omega) (by omega)))
    have w446 : Xi U40 904 115 = (-1) := by rw [eU40]; exact Xi_same (by unfold rg; omega)
    refine l_aload_n rfl rfl ?_
    have w447 : Xi U40 904 102 = Xi S 904 102 := (show Xi U40 904 102 = Xi T39 904 102 from by rw [eU40]; exact Xi_ne (by omega)).trans ( (show Xi T39 904 102 = Xi T38 904 102 from w445.x _ _ rfl).trans ((show Xi T38 904 102 = Xi S 904 102 from w414.x _ _ rfl)))
    have w449 : Xi U40 904 103 = Xi S 904 103 := (show Xi U40 904 103 = Xi T39 904 103 from by rw [eU40]; exact Xi_ne (by omega)).trans ( (show Xi T39 904 103 = Xi T38 904 103 from w445.x _ _ rfl).trans ((show Xi T38 904 103 = Xi S 904 103 from w414.x _ _ rfl)))
    have w451 : Xi U40 904 106 = Xi T39 904 106 := (show Xi U40 904 106 = Xi T39 904 106 from by rw [eU40]; exact Xi_ne (by omega))
    have w452 : 0 ≤ Xi T39 904 106 ∧ Xi T39 904 106 ≤ 9 := hHT39.c _ _
    have w453 : -1 ≤ Xi U40 904 115 ∧ Xi U40 904 115 ≤ 15 := hHU40.c _ _
    have w454 : Xi U40 904 116 = Xi T39 904 116 := (show Xi U40 904 116 = Xi T39 904 116 from by rw [eU40]; exact Xi_ne (by omega))
    have w455 : -1 ≤ Xi T39 904 116 ∧ Xi T39 904 116 ≤ 15 := hHT39.c _ _
    have w456 : Xi U40 904 117 = Xi S 904 117 := (show Xi U40 904 117 = Xi T39 904 117 from by rw [eU40]; exact Xi_ne (by omega)).trans ( (show Xi T39 904 117 = Xi T38 904 117 from w445.x _ _ rfl).trans ((show Xi T38 904 117 = Xi S 904 117 from w414.x _ _ rfl)))
    have w458 : Xi U40 904 125 = Xi S 904 125 := (show Xi U40 904 125 = Xi T39 904 125 from by rw [eU40]; exact Xi_ne (by omega)).trans ( (show Xi T39 904 125 = Xi T38 904 125 from w445.x _ _ rfl).trans ((show Xi T38 904 125 = Xi S 904 125 from w414.x _ _ rfl)))
    have w460 : Xi U40 904 130 = Xi S 904 130 := (show Xi U40 904 130 = Xi T39 904 130 from by rw [eU40]; exact Xi_ne (by omega)).trans ( (show Xi T39 904 130 = Xi T38 904 130 from w445.x _ _ rfl).trans ((show Xi T38 904 130 = Xi S 904 130 from w414.x _ _ rfl)))
    have w462 : Xi U40 904 23 = Xi S 904 23 := (show Xi U40 904 23 = Xi T39 904 23 from by rw [eU40]; exact Xi_ne (by omega)).trans ( (show Xi T39 904 23 = Xi T38 904 23 from w445.x _ _ rfl).trans ((show Xi T38 904 23 = Xi S 904 23 from w414.x _ _ rfl)))
    have w464 : Xi U40 904 69 = Xi S 904 69 := (show Xi U40 904 69 = Xi T39 904 69 from by rw [eU40]; exact Xi_ne (by omega)).trans ( (show Xi T39 904 69 = Xi T38 904 69 from w445.x _ _ rfl).trans ((show Xi T38 904 69 = Xi S 904 69 from w414.x _ _ rfl)))
    have w466 : Xi U40 904 70 = Xi S 904 70 := (show Xi U40 904 70 = Xi T39 904 70 from by rw [eU40]; exact Xi_ne (by omega)).trans ( (show Xi T39 904 70 = Xi T38 904 70 from w445.x _ _ rfl).trans ((show Xi T38 904 70 = Xi S 904 70 from w414.x _ _ rfl)))
    have w468 : Xi U40 904 93 = Xi S 904 93 := (show Xi U40 904 93 = Xi T39 904 93 from by rw [eU40]; exact Xi_ne (by omega)).trans ( (show Xi T39 904 93 = Xi T38 904 93 from w445.x _ _ rfl).trans ((show Xi T38 904 93 = Xi S 904 93 from w414.x _ _ rfl)))
    have w470 : Xi U40 904 94 = Xi S 904 94 := (show Xi U40 904 94 = Xi T39 904 94 from by rw [eU40]; exact Xi_ne (by omega)).trans ( (show Xi T39 904 94 = Xi T38 904 94 from w445.x _ _ rfl).trans ((show Xi T38 904 94 = Xi S 904 94 from w414.x _ _ rfl)))
    have w472 : Xi U40 904 98 = Xi S 904 98 := (show Xi U40 904 98 = Xi T39 904 98 from by rw [eU40]; exact Xi_ne (by omega)).trans ( (show Xi T39 904 98 = Xi T38 904 98 from w445.x _ _ rfl).trans ((show Xi T38 904 98 = Xi S 904 98 from w414.x _ _ rfl)))
    refine l_callV rfl rfl rfl (t_mo_testsMeant hHU40 n (by first | assumption | exact (TK_FR hFU40 rfl (by assumption : TK S _))) (by first | assumption | exact (RNV_FR hFU40 rfl (by assumption : RNV S _))) (by first | assumption | exact (LXM_FR hFU40 rfl (by assumption : LXM S))) (by first | assumption | exact (ABV_FR hFU40 rfl (by assumption : ABV S))) (by first | assumption | exact (DCM_FR hFU40 rfl (by assumption : DCM S))) (by first | assumption | exact (TXK_FR hFU40 rfl (by assumption : TXK S _))) (TVA_FR hFU40 rfl (by rw [show Xi U40 904 94 = Xi S 904 94 by omega]; exact htv)) (by first | assumption | omega) _) ?_
    rintro _ T41 ⟨hHT41, w476, rfl, w474, tq42, kq42⟩
    have hFT41 : FR md_mo_ruleMeant S T41 := FR.tr hFU40 w476 rfl
    show Rl _ _ _ _ _ [] _ _
    have t7_42 : Xi T41 904 106 = 0 → Xi S 904 94 ≤ 6 ∧ TQA T41 False (0 ≤ Xi T41 904 116) (Xi S 904 117) (Xi S 904 94) := fun x => by have t := tq42 x; rw [show Xi U40 904 94 = Xi S 904 94 by omega, show Xi U40 904 117 = Xi S 904 117 by omega] at t; exact ⟨t.1, t.2.b (fun y => absurd y (by omega)) (fun y => by rw [(by assumption : FR md_mo_testsMeant U40 T41).x 904 116 rfl]; exact y)⟩
    have Q42 : KQL T41 S (Xi S 904 117) := KQL.tr (KQL_FR (FR_e eU40) rfl (KQL_FR w445 rfl (KQL_FR w414 rfl (by assumption : KQL S _ _)))) (by rw [show Xi S 904 117 = Xi U40 904 117 by omega]; exact kq42) (Int.le_refl _)
    clear tq42 kq42
    refine l_aload_n rfl rfl ?_
    refine l_gfi rfl rfl rfl rfl rfl ?_
    have w477 : (Xi T41 904 117) = (Xi S 904 117) := (show Xi T41 904 117 = Xi U40 904 117 from w476.x _ _ rfl).trans ( (show Xi U40 904 117 = Xi T39 904 117 from by rw [eU40]; exact Xi_ne (by omega)).trans ( (show Xi T39 904 117 = Xi T38 904 117 from w445.x _ _ rfl).trans ((show Xi T38 904 117 = Xi S 904 117 from w414.x _ _ rfl))))
    rw [w477]
    refine l_aload_n rfl rfl ?_
    refine l_gfi rfl rfl rfl rfl rfl ?_
    have w478 : (Xi T41 904 94) = (Xi S 904 94) := (show Xi T41 904 94 = Xi U40 904 94 from w476.x _ _ rfl).trans ( (show Xi U40 904 94 = Xi T39 904 94 from by rw [eU40]; exact Xi_ne (by omega)).trans ( (show Xi T39 904 94 = Xi T38 904 94 from w445.x _ _ rfl).trans ((show Xi T38 904 94 = Xi S 904 94 from w414.x _ _ rfl))))
    rw [w478]
    refine l_iadd rfl ?_
    refine l_istore_n rfl rfl rfl ?_
    refine l_iconst rfl ?_
    refine l_istore rfl rfl rfl ?_
    have w479 : Xi T41 904 102 = Xi S 904 102 := (show Xi T41 904 102 = Xi U40 904 102 from w476.x _ _ rfl).trans ( (show Xi U40 904 102 = Xi T39 904 102 from by rw [eU40]; exact Xi_ne (by omega)).trans ( (show Xi T39 904 102 = Xi T38 904 102 from w445.x _ _ rfl).trans ((show Xi T38 904 102 = Xi S 904 102 from w414.x _ _ rfl))))
    have w481 : Xi T41 904 103 = Xi S 904 103 := (show Xi T41 904 103 = Xi U40 904 103 from w476.x _ _ rfl).trans ( (show Xi U40 904 103 = Xi T39 904 103 from by rw [eU40]; exact Xi_ne (by omega)).trans ( (show Xi T39 904 103 = Xi T38 904 103 from w445.x _ _ rfl).trans ((show Xi T38 904 103 = Xi S 904 103 from w414.x _ _ rfl))))
    have w483 : 0 ≤ Xi T41 904 106 ∧ Xi T41 904 106 ≤ 9 := hHT41.c _ _
    have w484 : Xi T41 904 115 = Xi U40 904 115 := (show Xi T41 904 115 = Xi U40 904 115 from w476.x _ _ rfl)
    have w486 : Xi T41 904 116 = Xi T39 904 116 := (show Xi T41 904 116 = Xi U40 904 116 from w476.x _ _ rfl).trans ((show Xi U40 904 116 = Xi T39 904 116 from by rw [eU40]; exact Xi_ne (by omega)))
    have w488 : Xi T41 904 117 = Xi S 904 117 := (show Xi T41 904 117 = Xi U40 904 117 from w476.x _ _ rfl).trans ( (show Xi U40 904 117 = Xi T39 904 117 from by rw [eU40]; exact Xi_ne (by omega)).trans ( (show Xi T39 904 117 = Xi T38 904 117 from w445.x _ _ rfl).trans ((show Xi T38 904 117 = Xi S 904 117 from w414.x _ _ rfl))))
    have w490 : Xi T41 904 125 = Xi S 904 125 := (show Xi T41 904 125 = Xi U40 904 125 from w476.x _ _ rfl).trans ( (show Xi U40 904 125 = Xi T39 904 125 from by rw [eU40]; exact Xi_ne (by omega)).trans ( (show Xi T39 904 125 = Xi T38 904 125 from w445.x _ _ rfl).trans ((show Xi T38 904 125 = Xi S 904 125 from w414.x _ _ rfl))))
    have w492 : Xi T41 904 130 = Xi S 904 130 := (show Xi T41 904 130 = Xi U40 904 130 from w476.x _ _ rfl).trans ( (show Xi U40 904 130 = Xi T39 904 130 from by rw [eU40]; exact Xi_ne (by omega)).trans ( (show Xi T39 904 130 = Xi T38 904 130 from w445.x _ _ rfl).trans ((show Xi T38 904 130 = Xi S 904 130 from w414.x _ _ rfl))))
    have w494 : Xi T41 904 23 = Xi S 904 23 := (show Xi T41 904 23 = Xi U40 904 23 from w476.x _ _ rfl).trans ( (show Xi U40 904 23 = Xi T39 904 23 from by rw [eU40]; exact Xi_ne (by omega)).trans ( (show Xi T39 904 23 = Xi T38 904 23 from w445.x _ _ rfl).trans ((show Xi T38 904 23 = Xi S 904 23 from w414.x _ _ rfl))))
    have w496 : Xi T41 904 69 = Xi S 904 69 := (show Xi T41 904 69 = Xi U40 904 69 from w476.x _ _ rfl).trans ( (show Xi U40 904 69 = Xi T39 904 69 from by rw [eU40]; exact Xi_ne (by omega)).trans ( (show Xi T39 904 69 = Xi T38 904 69 from w445.x _ _ rfl).trans ((show Xi T38 904 69 = Xi S 904 69 from w414.x _ _ rfl))))
    have w498 : Xi T41 904 70 = Xi S 904 70 := (show Xi T41 904 70 = Xi U40 904 70 from w476.x _ _ rfl).trans ( (show Xi U40 904 70 = Xi T39 904 70 from by rw [eU40]; exact Xi_ne (by omega)).trans ( (show Xi T39 904 70 = Xi T38 904 70 from w445.x _ _ rfl).trans ((show Xi T38 904 70 = Xi S 904 70 from w414.x _ _ rfl))))
    have w500 : Xi T41 904 93 = Xi S 904 93 := (show Xi T41 904 93 = Xi U40 904 93 from w476.x _ _ rfl).trans ( (show Xi U40 904 93 = Xi T39 904 93 from by rw [eU40]; exact Xi_ne (by omega)).trans ( (show Xi T39 904 93 = Xi T38 904 93 from w445.x _ _ rfl).trans ((show Xi T38 904 93 = Xi S 904 93 from w414.x _ _ rfl))))
    have w502 : Xi T41 904 94 = Xi S 904 94 := (show Xi T41 904 94 = Xi U40 904 94 from w476.x _ _ rfl).trans ( (show Xi U40 904 94 = Xi T39 904 94 from by rw [eU40]; exact Xi_ne (by omega)).trans ( (show Xi T39 904 94 = Xi T38 904 94 from w445.x _ _ rfl).trans ((show Xi T38 904 94 = Xi S 904 94 from w414.x _ _ rfl))))
    have w504 : Xi T41 904 98 = Xi S 904 98 := (show Xi T41 904 98 = Xi U40 904 98 from w476.x _ _ rfl).trans ( (show Xi U40 904 98 = Xi T39 904 98 from by rw [eU40]; exact Xi_ne (by omega)).trans ( (show Xi T39 904 98 = Xi T38 904 98 from w445.x _ _ rfl).trans ((show Xi T38 904 98 = Xi S 904 98 from w414.x _ _ rfl))))
    exact Rl_weak (C58 _ T41 hHT41 hFT41 ((if 23 < (Xi S 904 130) then 23 else (Xi S 904 130))) (((Xi S 904 117) + (Xi S 904 94))) (0) (by omega) (by omega) (by omega) (by omega) (by omega) (by omega) (by omega) (by omega) (by omega) (by omega) (by omega) (by omega) (by omega) (by omega) (by omega) (by omega) (by omega) (by omega) (by omega) ((RLH_FR w476 rfl (RLH_FR (FR_e eU40) rfl (by assumption : RLH T39 _)))) ((KRL_FR w476 rfl (KRL_FR (FR_e eU40) rfl (by assumption : KRL T39 _ _)))) (by first | exact Q106 | exact (by assumption : KQL T41 _ _)) (by first | exact H106 | exact (KHL_FR w476 rfl (KHL_FR (FR_e eU40) rfl (KHL_FR w445 rfl (KHL_FR w414 rfl (by assumption : KHL S _ _)))))) ((K78_FR w476 rfl (K78_FR (FR_e eU40) rfl (K78_FR w445 rfl (K78_FR w414 rfl (by assumption : K78 S _)))))) ((GR_FR w476 rfl (GR_FR (FR_e eU40) rfl (GR_FR w445 rfl (GR_FR w414 rfl GR.rf))))) (by first | exact t7_106 | exact t7_42) (by first | exact P106 | exact fun x j hj => absurd hj (by omega)) rfl) (And.intro rfl (And.intro rfl (And.intro rfl (And.intro rfl (True.intro)))))
  · refine l_iconst rfl ?_
    refine l_goto rfl rfl ?_
    refine l_bipush rfl rfl ?_
    refine l_iload_n rfl rfl ?_
    refine l_callV rfl rfl rfl (t_mo_need hH 1 9 first ⟨by omega, by omega⟩ ⟨by omega, by omega⟩ ⟨by omega, by omega⟩ _) ?_
    rintro _ T42 ⟨hHT42, w522, rfl, w519, w520⟩
    have hFT42 : FR md_mo_ruleMeant S T42 := FR.tr hF w522 rfl
    show Rl _ _ _ _ _ [] _ _
    refine l_aload_n rfl rfl ?_
    refine l_gfi rfl rfl rfl rfl rfl ?_
    have w523 : (Xi T42 904 130) = (Xi S 904 130) := (show Xi T42 904 130 = Xi S 904 130 from w522.x _ _ rfl)
    rw [w523]
    refine l_bipush rfl rfl ?_
    refine l_min rfl rfl rfl (by unfold rg; omega) (by unfold rg; omega) ?_
    refine l_istore_n rfl rfl rfl ?_
    refine l_aload_n rfl rfl ?_
    refine l_iload_n rfl rfl ?_
    have w524 : Xi T42 904 102 = Xi S 904 102 := (show Xi T42 904 102 = Xi S 904 102 from w522.x _ _ rfl)
    have w526 : Xi T42 904 103 = Xi S 904 103 := (show Xi T42 904 103 = Xi S 904 103 from w522.x _ _ rfl)
    have w528 : 0 ≤ Xi T42 904 106 ∧ Xi T42 904 106 ≤ 9 := hHT42.c _ _
    have w529 : Xi T42 904 115 = Xi S 904 115 := (show Xi T42 904 115 = Xi S 904 115 from w522.x _ _ rfl)
    have w531 : Xi T42 904 117 = Xi S 904 117 := (show Xi T42 904 117 = Xi S 904 117 from w522.x _ _ rfl)
    have w533 : Xi T42 904 125 = Xi S 904 125 := (show Xi T42 904 125 = Xi S 904 125 from w522.x _ _ rfl)
    have w535 : Xi T42 904 130 = Xi S 904 130 := (show Xi T42 904 130 = Xi S 904 130 from w522.x _ _ rfl)
    have w537 : Xi T42 904 23 = Xi S 904 23 := (show Xi T42 904 23 = Xi S 904 23 from w522.x _ _ rfl)
    have w539 : Xi T42 904 49 = Xi S 904 49 := (show Xi T42 904 49 = Xi S 904 49 from w522.x _ _ rfl)
    have w540 : 0 ≤ Xi S 904 49 ∧ Xi S 904 49 ≤ 12 := hH.c _ _
    have w541 : Xi T42 904 69 = Xi S 904 69 := (show Xi T42 904 69 = Xi S 904 69 from w522.x _ _ rfl)
    have w543 : Xi T42 904 70 = Xi S 904 70 := (show Xi T42 904 70 = Xi S 904 70 from w522.x _ _ rfl)
    have w545 : Xi T42 904 93 = Xi S 904 93 := (show Xi T42 904 93 = Xi S 904 93 from w522.x _ _ rfl)
    have w547 : Xi T42 904 94 = Xi S 904 94 := (show Xi T42 904 94 = Xi S 904 94 from w522.x _ _ rfl)
    have w549 : Xi T42 904 98 = Xi S 904 98 := (show Xi T42 904 98 = Xi S 904 98 from w522.x _ _ rfl)
    refine l_callV rfl rfl rfl (t_mo_actingMeant hHT42 n (if 23 < (Xi S 904 130) then 23 else (Xi S 904 130)) ⟨by omega, by omega⟩ (by first | assumption | exact (TK_FR hFT42 rfl (by assumption : TK S _))) (by first | assumption | exact (RNV_FR hFT42 rfl (by assumption : RNV S _))) (by first | assumption | exact (LXM_FR hFT42 rfl (by assumption : LXM S))) (by first | assumption | exact (ABV_FR hFT42 rfl (by assumption : ABV S))) (by first | assumption | exact (DCM_FR hFT42 rfl (by assumption : DCM S))) (fun q => by have t := ha (by omega); omega) _) ?_
    rintro _ T43 ⟨hHT43, w553, rfl, w551, ra33, a33, s33, n33, k33⟩
    have hFT43 : FR md_mo_ruleMeant S T43 := FR.tr hFT42 w553 rfl
    show Rl _ _ _ _ _ [] _ _
    have R33 : RLH T43 (if 23 < (Xi S 904 130) then 23 else (Xi S 904 130)) := ⟨ra33, by rw [(by assumption : FR md_mo_actingMeant T42 T43).x 904 49 rfl]; exact a33, fun q => s33 (by rw [← (by assumption : FR md_mo_actingMeant T42 T43).x 904 70 rfl]; exact q), n33⟩
    have L33 : KRL T43 S (if 23 < (Xi S 904 130) then 23 else (Xi S 904 130)) := (KRL_FR (by assumption : FR md_mo_need S T42) rfl KRL.rf).tr k33
    clear ra33 a33 s33 n33 k33
    refine l_aload_n rfl rfl ?_
    refine l_iconst rfl ?_
    refine l_pfi rfl rfl rfl rfl ?_
    obtain ⟨U44, eU44⟩ : ∃ T : sS, T = uI T43 904 115 (Int32.ofInt (-1)) := ⟨_, rfl⟩
    rw [← eU44]
    have hHU44 : HI U44 := by rw [eU44]; exact HI_w hHT43 (show -1 ≤ (-1) by omega) (show (-1) ≤ 15 by omega)
    have hFU44 : FR md_mo_ruleMeant S U44 := by rw [eU44]; exact FR.wI hFT43 (mdf_i (r := (904, 905, 115, 116)) (List.mem_of_getElem? (i := 8) rfl) (inR_i (by omega) (by omega) (by omega) (by omega)))
    have w554 : Xi U44 904 115 = (-1) := by rw [eU44]; exact Xi_same (by unfold rg; omega)
    refine l_aload_n rfl rfl ?_
    have w555 : Xi U44 904 102 = Xi S 904 102 := (show Xi U44 904 102 = Xi T43 904 102 from by rw [eU44]; exact Xi_ne (by omega)).trans ( (show Xi T43 904 102 = Xi T42 904 102 from w553.x _ _ rfl).trans ((show Xi T42 904 102 = Xi S 904 102 from w522.x _ _ rfl)))
    have w557 : Xi U44 904 103 = Xi S 904 103 := (show Xi U44 904 103 = Xi T43 904 103 from by rw [eU44]; exact Xi_ne (by omega)).trans ( (show Xi T43 904 103 = Xi T42 904 103 from w553.x _ _ rfl).trans ((show Xi T42 904 103 = Xi S 904 103 from w522.x _ _ rfl)))
    have w559 : Xi U44 904 106 = Xi T43 904 106 := (show Xi U44 904 106 = Xi T43 904 106 from by rw [eU44]; exact Xi_ne (by omega))
    have w560 : 0 ≤ Xi T43 904 106 ∧ Xi T43 904 106 ≤ 9 := hHT43.c _ _
    have w561 : -1 ≤ Xi U44 904 115 ∧ Xi U44 904 115 ≤ 15 := hHU44.c _ _
    have w562 : Xi U44 904 116 = Xi T43 904 116 := (show Xi U44 904 116 = Xi T43 904 116 from by rw [eU44]; exact Xi_ne (by omega))
    have w563 : -1 ≤ Xi T43 904 116 ∧ Xi T43 904 116 ≤ 15 := hHT43.c _ _
    have w564 : Xi U44 904 117 = Xi S 904 117 := (show Xi U44 904 117 = Xi T43 904 117 from by rw [eU44]; exact Xi_ne (by omega)).trans ( (show Xi T43 904 117 = Xi T42 904 117 from w553.x _ _ rfl).trans ((show Xi T42 904 117 = Xi S 904 117 from w522.x _ _ rfl)))
    have w566 : Xi U44 904 125 = Xi S 904 125 := (show Xi U44 904 125 = Xi T43 904 125 from by rw [eU44]; exact Xi_ne (by omega)).trans ( (show Xi T43 904 125 = Xi T42 904 125 from w553.x _ _ rfl).trans ((show Xi T42 904 125 = Xi S 904 125 from w522.x _ _ rfl)))
    have w568 : Xi U44 904 130 = Xi S 904 130 := (show Xi U44 904 130 = Xi T43 904 130 from by rw [eU44]; exact Xi_ne (by omega)).trans ( (show Xi T43 904 130 = Xi T42 904 130 from w553.x _ _ rfl).trans ((show Xi T42 904 130 = Xi S 904 130 from w522.x _ _ rfl)))
    have w570 : Xi U44 904 23 = Xi S 904 23 := (show Xi U44 904 23 = Xi T43 904 23 from by rw [eU44]; exact Xi_ne (by omega)).trans ( (show Xi T43 904 23 = Xi T42 904 23 from w553.x _ _ rfl).trans ((show Xi T42 904 23 = Xi S 904 23 from w522.x _ _ rfl)))
    have w572 : Xi U44 904 69 = Xi S 904 69 := (show Xi U44 904 69 = Xi T43 904 69 from by rw [eU44]; exact Xi_ne (by omega)).trans ( (show Xi T43 904 69 = Xi T42 904 69 from w553.x _ _ rfl).trans ((show Xi T42 904 69 = Xi S 904 69 from w522.x _ _ rfl)))
    have w574 : Xi U44 904 70 = Xi S 904 70 := (show Xi U44 904 70 = Xi T43 904 70 from by rw [eU44]; exact Xi_ne (by omega)).trans ( (show Xi T43 904 70 = Xi T42 904 70 from w553.x _ _ rfl).trans ((show Xi T42 904 70 = Xi S 904 70 from w522.x _ _ rfl)))
    have w576 : Xi U44 904 93 = Xi S 904 93 := (show Xi U44 904 93 = Xi T43 904 93 from by rw [eU44]; exact Xi_ne (by omega)).trans ( (show Xi T43 904 93 = Xi T42 904 93 from w553.x _ _ rfl).trans ((show Xi T42 904 93 = Xi S 904 93 from w522.x _ _ rfl)))
    have w578 : Xi U44 904 94 = Xi S 904 94 := (show Xi U44 904 94 = Xi T43 904 94 from by rw [eU44]; exact Xi_ne (by omega)).trans ( (show Xi T43 904 94 = Xi T42 904 94 from w553.x _ _ rfl).trans ((show Xi T42 904 94 = Xi S 904 94 from w522.x _ _ rfl)))
    have w580 : Xi U44 904 98 = Xi S 904 98 := (show Xi U44 904 98 = Xi T43 904 98 from by rw [eU44]; exact Xi_ne (by omega)).trans ( (show Xi T43 904 98 = Xi T42 904 98 from w553.x _ _ rfl).trans ((show Xi T42 904 98 = Xi S 904 98 from w522.x _ _ rfl)))
    refine l_callV rfl rfl rfl (t_mo_testsMeant hHU44 n (by first | assumption | exact (TK_FR hFU44 rfl (by assumption : TK S _))) (by first | assumption | exact (RNV_FR hFU44 rfl (by assumption : RNV S _))) (by first | assumption | exact (LXM_FR hFU44 rfl (by assumption : LXM S))) (by first | assumption | exact (ABV_FR hFU44 rfl (by assumption : ABV S))) (by first | assumption | exact (DCM_FR hFU44 rfl (by assumption : DCM S))) (by first | assumption | exact (TXK_FR hFU44 rfl (by assumption : TXK S _))) (TVA_FR hFU44 rfl (by rw [show Xi U44 904 94 = Xi S 904 94 by omega]; exact htv)) (by first | assumption | omega) _) ?_
    rintro _ T45 ⟨hHT45, w584, rfl, w582, tq42, kq42⟩
    have hFT45 : FR md_mo_ruleMeant S T45 := FR.tr hFU44 w584 rfl
    show Rl _ _ _ _ _ [] _ _
    have t7_42 : Xi T45 904 106 = 0 → Xi S 904 94 ≤ 6 ∧ TQA T45 False (0 ≤ Xi T45 904 116) (Xi S 904 117) (Xi S 904 94) := fun x => by have t := tq42 x; rw [show Xi U44 904 94 = Xi S 904 94 by omega, show Xi U44 904 117 = Xi S 904 117 by omega] at t; exact ⟨t.1, t.2.b (fun y => absurd y (by omega)) (fun y => by rw [(by assumption : FR md_mo_testsMeant U44 T45).x 904 116 rfl]; exact y)⟩
    have Q42 : KQL T45 S (Xi S 904 117) := KQL.tr (KQL_FR (FR_e eU44) rfl (KQL_FR w553 rfl (KQL_FR w522 rfl (by assumption : KQL S _ _)))) (by rw [show Xi S 904 117 = Xi U44 904 117 by omega]; exact kq42) (Int.le_refl _)
    clear tq42 kq42
    refine l_aload_n rfl rfl ?_
    refine l_gfi rfl rfl rfl rfl rfl ?_
    have w585 : (Xi T45 904 117) = (Xi S 904 117) := (show Xi T45 904 117 = Xi U44 904 117 from w584.x _ _ rfl).trans ( (show Xi U44 904 117 = Xi T43 904 117 from by rw [eU44]; exact Xi_ne (by omega)).trans ( (show Xi T43 904 117 = Xi T42 904 117 from w553.x _ _ rfl).trans ((show Xi T42 904 117 = Xi S 904 117 from w522.x _ _ rfl))))
    rw [w585]
    refine l_aload_n rfl rfl ?_
    refine l_gfi rfl rfl rfl rfl rfl ?_
    have w586 : (Xi T45 904 94) = (Xi S 904 94) := (show Xi T45 904 94 = Xi U44 904 94 from w584.x _ _ rfl).trans ( (show Xi U44 904 94 = Xi T43 904 94 from by rw [eU44]; exact Xi_ne (by omega)).trans ( (show Xi T43 904 94 = Xi T42 904 94 from w553.x _ _ rfl).trans ((show Xi T42 904 94 = Xi S 904 94 from w522.x _ _ rfl))))
    rw [w586]
    refine l_iadd rfl ?_
    refine l_istore_n rfl rfl rfl ?_
    refine l_iconst rfl ?_
    refine l_istore rfl rfl rfl ?_
    have w587 : Xi T45 904 102 = Xi S 904 102 := (show Xi T45 904 102 = Xi U44 904 102 from w584.x _ _ rfl).trans ( (show Xi U44 904 102 = Xi T43 904 102 from by rw [eU44]; exact Xi_ne (by omega)).trans ( (show Xi T43 904 102 = Xi T42 904 102 from w553.x _ _ rfl).trans ((show Xi T42 904 102 = Xi S 904 102 from w522.x _ _ rfl))))
    have w589 : Xi T45 904 103 = Xi S 904 103 := (show Xi T45 904 103 = Xi U44 904 103 from w584.x _ _ rfl).trans ( (show Xi U44 904 103 = Xi T43 904 103 from by rw [eU44]; exact Xi_ne (by omega)).trans ( (show Xi T43 904 103 = Xi T42 904 103 from w553.x _ _ rfl).trans ((show Xi T42 904 103 = Xi S 904 103 from w522.x _ _ rfl))))
    have w591 : 0 ≤ Xi T45 904 106 ∧ Xi T45 904 106 ≤ 9 := hHT45.c _ _
    have w592 : Xi T45 904 115 = Xi U44 904 115 := (show Xi T45 904 115 = Xi U44 904 115 from w584.x _ _ rfl)
    have w594 : Xi T45 904 116 = Xi T43 904 116 := (show Xi T45 904 116 = Xi U44 904 116 from w584.x _ _ rfl).trans ((show Xi U44 904 116 = Xi T43 904 116 from by rw [eU44]; exact Xi_ne (by omega)))
    have w596 : Xi T45 904 117 = Xi S 904 117 := (show Xi T45 904 117 = Xi U44 904 117 from w584.x _ _ rfl).trans ( (show Xi U44 904 117 = Xi T43 904 117 from by rw [eU44]; exact Xi_ne (by omega)).trans ( (show Xi T43 904 117 = Xi T42 904 117 from w553.x _ _ rfl).trans ((show Xi T42 904 117 = Xi S 904 117 from w522.x _ _ rfl))))
    have w598 : Xi T45 904 125 = Xi S 904 125 := (show Xi T45 904 125 = Xi U44 904 125 from w584.x _ _ rfl).trans ( (show Xi U44 904 125 = Xi T43 904 125 from by rw [eU44]; exact Xi_ne (by omega)).trans ( (show Xi T43 904 125 = Xi T42 904 125 from w553.x _ _ rfl).trans ((show Xi T42 904 125 = Xi S 904 125 from w522.x _ _ rfl))))
    have w600 : Xi T45 904 130 = Xi S 904 130 := (show Xi T45 904 130 = Xi U44 904 130 from w584.x _ _ rfl).trans ( (show Xi U44 904 130 = Xi T43 904 130 from by rw [eU44]; exact Xi_ne (by omega)).trans ( (show Xi T43 904 130 = Xi T42 904 130 from w553.x _ _ rfl).trans ((show Xi T42 904 130 = Xi S 904 130 from w522.x _ _ rfl))))
    have w602 : Xi T45 904 23 = Xi S 904 23 := (show Xi T45 904 23 = Xi U44 904 23 from w584.x _ _ rfl).trans ( (show Xi U44 904 23 = Xi T43 904 23 from by rw [eU44]; exact Xi_ne (by omega)).trans ( (show Xi T43 904 23 = Xi T42 904 23 from w553.x _ _ rfl).trans ((show Xi T42 904 23 = Xi S 904 23 from w522.x _ _ rfl))))
    have w604 : Xi T45 904 69 = Xi S 904 69 := (show Xi T45 904 69 = Xi U44 904 69 from w584.x _ _ rfl).trans ( (show Xi U44 904 69 = Xi T43 904 69 from by rw [eU44]; exact Xi_ne (by omega)).trans ( (show Xi T43 904 69 = Xi T42 904 69 from w553.x _ _ rfl).trans ((show Xi T42 904 69 = Xi S 904 69 from w522.x _ _ rfl))))
    have w606 : Xi T45 904 70 = Xi S 904 70 := (show Xi T45 904 70 = Xi U44 904 70 from w584.x _ _ rfl).trans ( (show Xi U44 904 70 = Xi T43 904 70 from by rw [eU44]; exact Xi_ne (by omega)).trans ( (show Xi T43 904 70 = Xi T42 904 70 from w553.x _ _ rfl).trans ((show Xi T42 904 70 = Xi S 904 70 from w522.x _ _ rfl))))
    have w608 : Xi T45 904 93 = Xi S 904 93 := (show Xi T45 904 93 = Xi U44 904 93 from w584.x _ _ rfl).trans ( (show Xi U44 904 93 = Xi T43 904 93 from by rw [eU44]; exact Xi_ne (by omega)).trans ( (show Xi T43 904 93 = Xi T42 904 93 from w553.x _ _ rfl).trans ((show Xi T42 904 93 = Xi S 904 93 from w522.x _ _ rfl))))
    have w610 : Xi T45 904 94 = Xi S 904 94 := (show Xi T45 904 94 = Xi U44 904 94 from w584.x _ _ rfl).trans ( (show Xi U44 904 94 = Xi T43 904 94 from by rw [eU44]; exact Xi_ne (by omega)).trans ( (show Xi T43 904 94 = Xi T42 904 94 from w553.x _ _ rfl).trans ((show Xi T42 904 94 = Xi S 904 94 from w522.x _ _ rfl))))
    have w612 : Xi T45 904 98 = Xi S 904 98 := (show Xi T45 904 98 = Xi U44 904 98 from w584.x _ _ rfl).trans ( (show Xi U44 904 98 = Xi T43 904 98 from by rw [eU44]; exact Xi_ne (by omega)).trans ( (show Xi T43 904 98 = Xi T42 904 98 from w553.x _ _ rfl).trans ((show Xi T42 904 98 = Xi S 904 98 from w522.x _ _ rfl))))
    exact Rl_weak (C58 _ T45 hHT45 hFT45 ((if 23 < (Xi S 904 130) then 23 else (Xi S 904 130))) (((Xi S 904 117) + (Xi S 904 94))) (0) (by omega) (by omega) (by omega) (by omega) (by omega) (by omega) (by omega) (by omega) (by omega) (by omega) (by omega) (by omega) (by omega) (by omega) (by omega) (by omega) (by omega) (by omega) (by omega) ((RLH_FR w584 rfl (RLH_FR (FR_e eU44) rfl (by assumption : RLH T43 _)))) ((KRL_FR w584 rfl (KRL_FR (FR_e eU44) rfl (by assumption : KRL T43 _ _)))) (by first | exact Q106 | exact (by assumption : KQL T45 _ _)) (by first | exact H106 | exact (KHL_FR w584 rfl (KHL_FR (FR_e eU44) rfl (KHL_FR w553 rfl (KHL_FR w522 rfl (by assumption : KHL S _ _)))))) ((K78_FR w584 rfl (K78_FR (FR_e eU44) rfl (K78_FR w553 rfl (K78_FR w522 rfl (by assumption : K78 S _)))))) ((GR_FR w584 rfl (GR_FR (FR_e eU44) rfl (GR_FR w553 rfl (GR_FR w522 rfl GR.rf))))) (by first | exact t7_106 | exact t7_42) (by first | exact P106 | exact fun x j hj => absurd hj (by omega)) rfl) (And.intro rfl (And.intro rfl (And.intro rfl (And.intro rfl (True.intro)))))


