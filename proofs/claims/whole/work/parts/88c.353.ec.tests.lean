section
/-! QUESTIONS: tests and adjectives of both agree -/
theorem hasn_t {S : sS} {a : Nat} {k s : Int} (h : s ≠ 0) : ∀ n : Nat, hasn S a n k s = s
  | 0 => rfl
  | n + 1 => by unfold hasn; rw [if_pos (Or.inr h)]
theorem has_ch {U S : sS} {a : Nat} (kn : KND U S) (hq : ∀ k : Nat, (k : Int) < Xi U 5 0 → AV3 (Xi U (25 + (24 + k)) a) (Xi S 926 (24 * k + a))) : ∀ (n f : Nat) (k : Int), k < Xi U 5 0 → k + 1 ≤ n → k + 1 ≤ f → (chN S 926 24 a f k = -1 ∧ hasn U a n k 0 = 0) ∨ (0 ≤ chN S 926 24 a f k ∧ AV3 (hasn U a n k 0) (Xi S 926 (24 * chN S 926 24 a f k + a).toNat) ∧ Xi S 926 (24 * chN S 926 24 a f k + a).toNat ≠ 0)
  | 0, 0, k, _, _, _ => Or.inl ⟨rfl, rfl⟩
  | 0, f + 1, k, _, h, _ => Or.inl ⟨by unfold chN; rw [if_pos (by omega)], rfl⟩
  | n + 1, 0, k, _, _, h => Or.inl ⟨rfl, by unfold hasn; rw [if_pos (Or.inl (by omega))]⟩
  | n + 1, f + 1, k, hk, hn, hf => by
    unfold chN hasn
    by_cases q : k < 0
    · rw [if_pos q, if_pos (Or.inl q)]; exact Or.inl ⟨rfl, rfl⟩
    · rw [if_neg q, if_neg (show ¬ (k < 0 ∨ (0 : Int) ≠ 0) from fun x => x.elim q (fun y => y rfl))]
      have v := hq k.toNat (by omega)
      rw [show 24 + k.toNat = (24 + k).toNat by omega, show 24 * k.toNat + a = (24 * k + a).toNat by omega] at v
      by_cases r : Xi S 926 (24 * k + a).toNat = 0
      · rw [if_neg (fun x => x r)]
        have s0 : Xi U (25 + (24 + k).toNat) a = 0 := by unfold AV3 at v; omega
        obtain ⟨x, y, _⟩ := kn.2 k.toNat (by omega)
        rw [s0, x]
        exact has_ch kn hq n f (Xi S 917 k.toNat) (by omega) (by omega) (by omega)
      · rw [if_pos r, hasn_t (by unfold AV3 at v; omega)]
        exact Or.inr ⟨by omega, v, r⟩
theorem td_r {U S : sS} {o a : Int} (h : RLQ U S) (ho : 0 ≤ o ∧ o < Xi U 5 2) (ha : 0 ≤ a ∧ a < Xi U 5 3) (hn : Xi U 11 a.toNat ≠ -1) : hasA U o a = tdR S o a := by
  obtain ⟨_, _, ct, kn, _, aj, _, _, _, ob, _, aq, _⟩ := h
  have c3 := ct.2.2.2.1
  have c2 := ct.2.2.1
  have c0 := ct.1
  have j := (aj a.toNat (by omega)).2.1
  have k0 := ob.1.2 o.toNat (by omega)
  have v := aq.1 o.toNat (by omega) a.toNat (by omega)
  rw [show ((o.toNat : Nat) : Int).toNat = o.toNat by omega, show (24 * ((o.toNat : Nat) : Int) + ((a.toNat : Nat) : Int)).toNat = (24 * o + a).toNat by omega] at v
  have key := has_ch (a := a.toNat) kn (fun k hk => by have u := aq.2.1 k hk a.toNat (by omega); rw [show (24 + (k : Int)).toNat = 24 + k by omega, show (24 * (k : Int) + ((a.toNat : Nat) : Int)).toNat = 24 * k + a.toNat by omega] at u; exact u) 16 17 (Xi S 918 o.toNat) (by omega) (by omega) (by omega)
  rw [show ((a.toNat : Nat) : Int) = a by omega] at key
  have e : hasS U o a.toNat = hasn U a.toNat 16 (Xi S 918 o.toNat) (Xi U (25 + o.toNat) a.toNat) := by unfold hasS; rw [k0.1]
  unfold hasA
  by_cases q : Xi S 925 (24 * o + a).toNat = 0
  · have u0 : Xi U (25 + o.toNat) a.toNat = 0 := by unfold AV3 at v; omega
    rw [u0] at e
    rcases key with ⟨x, y⟩ | ⟨x, y, z⟩
    · have g : chR S 926 24 a (Xi S 918 o.toNat) = -1 := x
      rw [e, y, if_pos rfl]
      refine td_3 q g _ ⟨fun w => ?_, fun w => ?_⟩
      · rw [if_pos (by omega)]
      · rw [if_neg (by omega)]
    · refine td_2 q (k := chR S 926 24 a (Xi S 918 o.toNat)) rfl (by show chN S 926 24 a 17 _ ≠ -1; omega) _ ?_
      have y2 : AV3 (hasS U o a.toNat) (Xi S 926 (24 * chR S 926 24 a (Xi S 918 o.toNat) + a).toNat) := by rw [e]; exact y
      have z2 : Xi S 926 (24 * chR S 926 24 a (Xi S 918 o.toNat) + a).toNat ≠ 0 := z
      unfold AV3 at y2
      refine ⟨fun w => ?_, fun w => ?_⟩
      · rw [if_neg (by omega), if_pos (by omega)]
      · rw [if_neg (by omega), if_neg (by omega)]
  · have u0 : Xi U (25 + o.toNat) a.toNat ≠ 0 := by unfold AV3 at v; omega
    rw [e, hasn_t u0]
    unfold AV3 at v
    refine td_1 q _ ⟨fun w => ?_, fun w => ?_⟩
    · rw [if_neg u0, if_pos (by omega)]
    · rw [if_neg u0, if_neg (by omega)]
/-- who is meant -/
theorem tmk_w {sk n w t self it noun : Int} (h : TMK sk n w t) (e : self = (if sk = 54 then it else noun)) : whU self w = thR it noun t := by
  unfold whU thR
  rcases h with ⟨x, y⟩ | ⟨x, y⟩
  · rw [if_pos x, e, y]
    by_cases q : sk = 54
    · rw [if_pos q, if_pos q, if_pos rfl]
    · rw [if_neg q, if_neg q, if_neg (by decide), if_pos rfl]
  · rw [if_neg (by omega), y, if_neg (by omega), if_neg (by omega)]
theorem tmk_lt {sk n w t self : Int} (h : TMK sk n w t) (hs : w = -2 → 0 ≤ self ∧ self < n) : 0 ≤ whU self w ∧ whU self w < n := by
  unfold whU
  rcases h with ⟨x, y⟩ | ⟨x, y⟩
  · rw [if_pos x]; exact hs x
  · rw [if_neg (by omega)]; exact x
theorem rlf_gb {U : sS} {r a b : Int} (hb : 0 ≤ b ∧ b < 32) : relF U r a b = if gb (Xi U (189 + r.toNat) a.toNat) b then 1 else 0 := by
  unfold relF
  rw [bt_gb hb]
  cases gb (Xi U (189 + r.toNat) a.toNat) b <;> rfl
/-- one test -/
theorem tes_r {U S : sS} {q cl : Nat} {sk fm n w h t g m self it noun : Int} {ah ho : Int → Int → Int} (hw : RLQ U S) (c : CLM U cl fm n w h t g m) (f : TQF U S q sk fm n w h t g m) (e : self = (if sk = 54 then it else noun)) (hs : (w = -2 → 0 ≤ self ∧ self < Xi U 5 2) ∧ (fm = 6 → m = -2 → 0 ≤ self ∧ self < Xi U 5 2))
    (h1 : ∀ o a : Int, 0 ≤ o → o < Xi U 5 2 → 0 ≤ a → a < Xi U 5 3 → (ah o a = 0 ∧ ho o a = 0) ∨ (ah o a = 1 ∧ ho o a = 1)) (h2 : ∀ o a : Int, 100 ≤ a → ho o a = (if nuR S o (a % 100) = a / 100 - 1 then 1 else 0)) (h40 : ∀ j : Nat, 0 ≤ Xi S 940 j ∧ Xi S 940 j ≤ 1) : (hoC ah U cl self = 0 ∧ teR ho S q it noun = 0) ∨ (hoC ah U cl self = 1 ∧ teR ho S q it noun = 1) := by
  obtain ⟨⟨f1, f2⟩, f3, f4⟩ := f
  obtain ⟨c0, c1, c2, c3, c4, c5, c6⟩ := c
  have ew := tmk_w f3 e
  have lw := tmk_lt f3 hs.1
  have tv : Xi S 969 q ≠ 5 → (tvC ah U cl self = 0 ∧ tvR ho S q it noun = 0) ∨ (tvC ah U cl self = 1 ∧ tvR ho S q it noun = 1) → (hoC ah U cl self = 0 ∧ teR ho S q it noun = 0) ∨ (hoC ah U cl self = 1 ∧ teR ho S q it noun = 1) := by
    intro n5 x
    unfold hoC teR
    rw [if_neg n5, c1, f1]
    rcases x with ⟨x, y⟩ | ⟨x, y⟩ <;> rcases f2 with z | z <;> rw [x, y, z] <;> decide
  have bin : ∀ P : Prop, ∀ (_ : Decidable P), ((if P then (1 : Int) else 0) = 0 ∧ (if P then (1 : Int) else 0) = 0) ∨ ((if P then (1 : Int) else 0) = 1 ∧ (if P then (1 : Int) else 0) = 1) := by
    intro P d
    by_cases x : P
    · rw [if_pos x]; exact Or.inr ⟨rfl, rfl⟩
    · rw [if_neg x]; exact Or.inl ⟨rfl, rfl⟩
  have ct := hw.2.2.1
  have b2 := ct.2.2.1
  have b6 := ct.2.2.2.2.2.2.1
  rcases f4 with ⟨k0, k1, k2, k3, k4, k5, k6⟩ | ⟨k0, k1, k3, k4, k5, k6⟩ | ⟨k0, k1, k2, k3, k4, k5⟩ | ⟨k0, k1, k2, k3, k4, k5, k6, k7⟩ | ⟨k0, k2, k3, k4, k5, k6⟩ | ⟨k0, k1, k3, k4, k5, k6, k7, k8⟩ | ⟨k0, k1, k3, k4, k5, k6⟩
  · have em := tmk_w k3 e
    have lm := tmk_lt k3 (hs.2 k0)
    have bt := hw.2.2.2.2.2.2.2.1 h.toNat (whU self w).toNat (whU self m).toNat (by omega) (by omega) (by omega)
    have bt2 := bt.2 (by omega)
    rw [show (((whU self m).toNat : Nat) : Int) = whU self m by omega] at bt2
    have x : tvC ah U cl self = relF U h (whU self w) (whU self m) := (tv_6 (ah := ah) (self := self) (by omega) (by rw [c2]) (by rw [c6]) (by rw [c3])).symm
    have y : teR ho S q it noun = Xi S 940 (576 * h.toNat + 24 * (whU self w).toNat + (whU self m).toNat) := by
      rw [← teR_5 (ho := ho) k1 ew.symm em.symm rfl, k4]
      congr 1
      omega
    unfold hoC
    rw [x, y, c1, k2, rlf_gb (by omega)]
    have z := h40 (576 * h.toNat + 24 * (whU self w).toNat + (whU self m).toNat)
    by_cases v : gb (Xi U (189 + h.toNat) (whU self w).toNat) (whU self m) = true
    · rw [v]
      have := bt2.1 v
      refine Or.inr ⟨by decide, by omega⟩
    · have u : Xi S 940 (576 * h.toNat + 24 * (whU self w).toNat + (whU self m).toNat) = 0 := Decidable.byContradiction (fun a => v (bt2.2 a))
      rw [Bool.not_eq_true] at v
      rw [v, u]
      exact Or.inl ⟨by decide, rfl⟩
  · have em := tmk_w k3 e
    have p := hw.2.2.2.2.2.2.2.2.2.1.2 (whU self w).toNat (by omega)
    refine tv (by omega) ?_
    have x : tvC ah U cl self = (if Xi U 22 (whU self w).toNat = t ∧ Xi U 23 (whU self w).toNat = whU self m then 1 else 0) := by
      unfold tvC; rw [c0, k0, c2, c4, c6]; rfl
    have y : tvR ho S q it noun = (if Xi U 22 (whU self w).toNat = t ∧ Xi U 23 (whU self w).toNat = whU self m then 1 else 0) := by
      unfold tvR; rw [k1, ← ew, ← em, k4, p.1.1, p.1.2]; rfl
    rw [x, y]
    exact bin _ _
  · refine tv (by omega) ?_
    have x : tvC ah U cl self = ah (whU self w) h := by unfold tvC; rw [c0, k0, c2, c3]; rfl
    have y : tvR ho S q it noun = ho (whU self w) h := by unfold tvR; rw [k1, ← ew, k2]; rfl
    rw [x, y]
    exact h1 _ _ lw.1 lw.2 k3 k4
  · refine tv (by omega) ?_
    obtain ⟨⟨n1, n2⟩, n3⟩ := num_r hw lw ⟨k5.1, k5.2.1⟩
    have x : tvC ah U cl self = (if vof U (whU self w) h.toNat = t then 1 else 0) := by unfold tvC; rw [c0, k0, c2, c3, c4]; rfl
    have y : tvR ho S q it noun = (if vof U (whU self w) h.toNat = t then 1 else 0) := by
      have : tvR ho S q it noun = ho (whU self w) (Xi S 973 q) := by unfold tvR; rw [k1, ← ew]; rfl
      rw [this, h2 _ _ (by omega), show Xi S 973 q % 100 = h by omega, show Xi S 973 q / 100 - 1 = t by omega, n2 (by omega)]
    rw [x, y]
    exact bin _ _
  · refine tv (by omega) ?_
    obtain ⟨⟨n1, n2⟩, n3⟩ := num_r hw lw k4
    rcases k0 with ⟨k0, k1⟩ | ⟨k0, k1⟩
    · have x : tvC ah U cl self = (if vof U (whU self w) h.toNat < t then 1 else 0) := by unfold tvC; rw [c0, k0, c2, c3, c4]; rfl
      have y : tvR ho S q it noun = (if vof U (whU self w) h.toNat < t then 1 else 0) := by unfold tvR; rw [k1, ← ew, k3, k6, n2 (by omega)]; rfl
      rw [x, y]
      exact bin _ _
    · have x : tvC ah U cl self = (if t < vof U (whU self w) h.toNat then 1 else 0) := by unfold tvC; rw [c0, k0, c2, c3, c4]; rfl
      have y : tvR ho S q it noun = (if t < vof U (whU self w) h.toNat then 1 else 0) := by unfold tvR; rw [k1, ← ew, k3, k6, n2 (by omega)]; rfl
      rw [x, y]
      exact bin _ _
  · refine tv (by omega) ?_
    obtain ⟨⟨n1, n2⟩, n3⟩ := num_r hw lw k4
    have x : tvC ah U cl self = (if vof U (whU self w) h.toNat = t then 1 else 0) := by unfold tvC; rw [c0, k0, c2, c3, c4]; rfl
    have y : tvR ho S q it noun = (if vof U (whU self w) h.toNat = t then 1 else 0) := by
      unfold tvR
      rw [if_neg (by omega), if_neg (by omega), if_neg (by omega), if_neg (by omega), k3, if_neg (by omega), ← ew, k6, n2 (by omega)]
    rw [x, y]
    exact bin _ _
  · refine tv (by omega) ?_
    obtain ⟨⟨n1, n2⟩, n3⟩ := num_r hw lw k4
    have x : tvC ah U cl self = smT U (vof U (whU self w) h.toNat) (lof U (whU self w) h.toNat) t g := by unfold tvC; rw [c0, k0, c2, c3, c4, c5]; rfl
    have y : tvR ho S q it noun = smT U (vof U (whU self w) h.toNat) (lof U (whU self w) h.toNat) t g := by
      unfold tvR
      rw [if_neg (by omega), if_neg (by omega), if_neg (by omega), if_neg (by omega), k3, if_pos (by omega), ← ew, smT_r (n1 (by omega)) k6]
    rw [x, y]
    rcases smn_01 (U := U) (t := txr U) (a := vof U (whU self w) h.toNat) (b := t) (lof U (whU self w) h.toNat).toNat 0 with z | z
    · unfold smT; by_cases v : lof U (whU self w) h.toNat = g
      · rw [if_pos v, z]; exact Or.inl ⟨rfl, rfl⟩
      · rw [if_neg v]; exact Or.inl ⟨rfl, rfl⟩
    · unfold smT; by_cases v : lof U (whU self w) h.toNat = g
      · rw [if_pos v, z]; exact Or.inr ⟨rfl, rfl⟩
      · rw [if_neg v]; exact Or.inl ⟨rfl, rfl⟩
/-- adjectives at any depth -/
theorem ahq_r {U S : sS} (hA : RLB U S) (h40 : ∀ j : Nat, 0 ≤ Xi S 940 j ∧ Xi S 940 j ≤ 1) : ∀ (f : Nat) (o a : Int), 0 ≤ o → o < Xi U 5 2 → 0 ≤ a → a < Xi U 5 3 → (ahC U f o a = 0 ∧ hoR S f o a = 0) ∨ (ahC U f o a = 1 ∧ hoR S f o a = 1) := by
  have hw := hA.1
  have ct := hw.2.2.1
  have kn := hw.2.2.2.1
  have aj := hw.2.2.2.2.2.1
  have ob := hw.2.2.2.2.2.2.2.2.2.1
  have b3 := ct.2.2.2.1
  have df := hA.2.2.2.2.1
  have told : ∀ (f : Nat) (o a : Int), 0 ≤ o → o < Xi U 5 2 → 0 ≤ a → a < Xi U 5 3 → Xi U 11 a.toNat ≠ -1 → (ahC U f o a = 0 ∧ hoR S f o a = 0) ∨ (ahC U f o a = 1 ∧ hoR S f o a = 1) := by
    intro f o a o1 o2 a1 a2 q
    have j := aj a.toNat (by omega)
    rw [ahC_1 q, hoR_2 (by omega) (by have := j.2.2.1; have := j.2.2.2.1; omega), ← td_r hw ⟨o1, o2⟩ ⟨a1, a2⟩ q]
    unfold hasA
    by_cases x : hasS U o a.toNat = 0
    · rw [if_pos x]; by_cases y : Xi U 11 a.toNat < a
      · rw [if_pos y]; exact Or.inr ⟨rfl, rfl⟩
      · rw [if_neg y]; exact Or.inl ⟨rfl, rfl⟩
    · rw [if_neg x]; by_cases y : 0 < hasS U o a.toNat
      · rw [if_pos y]; exact Or.inr ⟨rfl, rfl⟩
      · rw [if_neg y]; exact Or.inl ⟨rfl, rfl⟩
  intro f
  induction f with
  | zero =>
    intro o a o1 o2 a1 a2
    by_cases q : Xi U 11 a.toNat = -1
    · have j := aj a.toNat (by omega)
      rw [ahC_0 q, hoR_0 (by omega) (by have := j.2.2.1.1 q; have := j.2.2.2.1; omega)]
      exact Or.inl ⟨rfl, rfl⟩
    · exact told 0 o a o1 o2 a1 a2 q
  | succ f ih =>
    intro o a o1 o2 a1 a2
    by_cases q : Xi U 11 a.toNat = -1
    · have j := aj a.toNat (by omega)
      have d := df a.toNat (by omega) q
      have k0 := ob.1.2 o.toNat (by omega)
      have p : 0 < Xi S 924 a.toNat := by have := j.2.2.1.1 q; have := j.2.2.2.1; omega
      have ek : isK U (Xi U 21 o.toNat) (Xi U 10 a.toNat) = blR S (Xi S 918 o.toNat) (Xi S 921 a.toNat) := by rw [k0.1, j.1.1]; exact isK_bl kn k0.2.2
      by_cases b : blR S (Xi S 918 o.toNat) (Xi S 921 a.toNat) = 0
      · rw [ahC_2 q (ek.trans b), hoR_3 (by omega) p b]
        exact Or.inl ⟨rfl, rfl⟩
      · rw [ahC_3 q (fun x => b (ek.symm.trans x)), hoR_4 (by omega) p b, ← j.2.2.2.2 q]
        have one : ∀ i : Nat, (i : Int) < Xi U 13 a.toNat → (hoC (ahC U f) U ((Xi U 12 a.toNat).toNat + i) o = 0 ∧ teR (hoR S f) S ((Xi S 923 a.toNat).toNat + i) o (-1) = 0) ∨ (hoC (ahC U f) U ((Xi U 12 a.toNat).toNat + i) o = 1 ∧ teR (hoR S f) S ((Xi S 923 a.toNat).toNat + i) o (-1) = 1) := by
          intro i hi
          obtain ⟨fm, n, w, h, t, g, m, c, e⟩ := d.2.2.2 i hi
          exact tes_r hw c e (by rw [if_pos rfl]) ⟨fun _ => ⟨o1, o2⟩, fun _ _ => ⟨o1, o2⟩⟩ (fun o2 a2 x1 x2 x3 x4 => ih o2 a2 x1 x2 x3 x4) (fun o a ha => by cases f <;> (unfold hoR; rw [if_pos ha])) h40
        have all : ∀ (n i : Nat), (i : Int) + n ≤ Xi U 13 a.toNat → (alT (fun i => hoC (ahC U f) U ((Xi U 12 a.toNat).toNat + i) o) n i = 0 ∧ alT (fun i => teR (hoR S f) S ((Xi S 923 a.toNat).toNat + i) o (-1)) n i = 0) ∨ (alT (fun i => hoC (ahC U f) U ((Xi U 12 a.toNat).toNat + i) o) n i = 1 ∧ alT (fun i => teR (hoR S f) S ((Xi S 923 a.toNat).toNat + i) o (-1)) n i = 1) := by
          intro n
          induction n with
          | zero => intro i _; exact Or.inr ⟨rfl, rfl⟩
          | succ n ih2 =>
            intro i hi
            unfold alT
            rcases one i (by omega) with ⟨x, y⟩ | ⟨x, y⟩
            · rw [if_pos x, if_pos y]; exact Or.inl ⟨rfl, rfl⟩
            · rw [if_neg (by rw [x]; decide), if_neg (by rw [y]; decide)]
              exact ih2 (i + 1) (by omega)
        exact all _ 0 (by have := d.2.2.1; omega)
    · exact told (f + 1) o a o1 o2 a1 a2 q
theorem is_same {U S : sS} {o a z y : Int} (h : RLB U S) (h40 : ∀ j : Nat, 0 ≤ Xi S 940 j ∧ Xi S 940 j ≤ 1)
    (p : ((o < 0 ∨ Xi U 5 2 ≤ o ∨ a < 0 ∨ Xi U 5 3 ≤ a) → z = -1) ∧ (0 ≤ o → o < Xi U 5 2 → 0 ≤ a → a < Xi U 5 3 → (isK U (Xi U 21 o.toNat) (Xi U 10 a.toNat) = 0 → z = -1) ∧ (isK U (Xi U 21 o.toNat) (Xi U 10 a.toNat) ≠ 0 → (ahC U 8 o a = 0 → z = 0) ∧ (ahC U 8 o a ≠ 0 → z = 1))))
    (q : ((o < 0 ∨ Xi S 904 19 ≤ o ∨ a < 0 ∨ Xi S 904 23 ≤ a) → y = -1) ∧ (0 ≤ o → o < Xi S 904 19 → 0 ≤ a → a < Xi S 904 23 → (blR S (Xi S 918 o.toNat) (Xi S 921 a.toNat) = 0 → y = -1) ∧ (blR S (Xi S 918 o.toNat) (Xi S 921 a.toNat) ≠ 0 → (hoR S 8 o a = 0 → y = 0) ∧ (hoR S 8 o a ≠ 0 → y = 1)))) : z = y := by
  have ct := h.1.2.2.1
  have b2 := ct.2.2.1
  have b3 := ct.2.2.2.1
  by_cases x : 0 ≤ o ∧ o < Xi U 5 2 ∧ 0 ≤ a ∧ a < Xi U 5 3
  · obtain ⟨p1, p2⟩ := p.2 x.1 x.2.1 x.2.2.1 x.2.2.2
    obtain ⟨q1, q2⟩ := q.2 x.1 (by omega) x.2.2.1 (by omega)
    have k0 := h.1.2.2.2.2.2.2.2.2.2.1.1.2 o.toNat (by omega)
    have j := h.1.2.2.2.2.2.1 a.toNat (by omega)
    have ek : isK U (Xi U 21 o.toNat) (Xi U 10 a.toNat) = blR S (Xi S 918 o.toNat) (Xi S 921 a.toNat) := by rw [k0.1, j.1.1]; exact isK_bl h.1.2.2.2.1 k0.2.2
    rw [ek] at p1 p2
    by_cases b : blR S (Xi S 918 o.toNat) (Xi S 921 a.toNat) = 0
    · rw [p1 b, q1 b]
    · have r := ahq_r h h40 8 o a x.1 x.2.1 x.2.2.1 x.2.2.2
      obtain ⟨p3, p4⟩ := p2 b
      obtain ⟨q3, q4⟩ := q2 b
      omega
  · have := p.1 (by omega)
    have := q.1 (by omega)
    omega

abbrev Q_mo_orderClass__c (S : sS) (ru : Int) : pst := fun r S1 => S = S1 ∧ (∃ z : Int, r = some (iv z) ∧ (0 ≤ z ∧ z ≤ 2) ∧ (z = ocR S ru.toNat))
set_option maxRecDepth 100000 in
theorem t_mo_orderClass__c {S : sS} (hH : HI S) (ru : Int) (hru : 0 ≤ ru ∧ ru ≤ 23) (d : Nat) : Mt lay0 (d + 1) m_mo_orderClass [.ref 904, iv ru] S (Q_mo_orderClass__c S ru) := by
  refine Mt_R rfl rfl ?_
  refine l_aload_n rfl rfl ?_
  refine l_gfr rfl rfl rfl rfl rfl (hH.r 904 133 980 rfl) ?_
  refine l_iload_n rfl rfl ?_
  refine l_iaload (n := 24) rfl rfl (by omega) (by omega) (by unfold rg; omega) ?_
  have w1 : -1 ≤ (Xi S 980 ((ru).toNat)) ∧ (Xi S 980 ((ru).toNat)) ≤ 23 := hH.c _ _
  refine l_iconst rfl ?_
  refine l_icmp_eq rfl rfl (by unfold rg; omega) (by unfold rg; omega) (fun w2 => ?_) (fun w3 => ?_)
  · refine l_aload_n rfl rfl ?_
    refine l_gfr rfl rfl rfl rfl rfl (hH.r 904 134 981 rfl) ?_
    refine l_iload_n rfl rfl ?_
    refine l_iaload (n := 24) rfl rfl (by omega) (by omega) (by unfold rg; omega) ?_
    have w4 : -1 ≤ (Xi S 981 ((ru).toNat)) ∧ (Xi S 981 ((ru).toNat)) ≤ 15 := hH.c _ _
    refine l_iconst rfl ?_
    refine l_icmp_eq rfl rfl (by unfold rg; omega) (by unfold rg; omega) (fun w5 => ?_) (fun w6 => ?_)
    · refine l_iconst rfl ?_
      refine l_ireturn rfl rfl ?_
      exact ⟨rfl, _, rfl, ⟨by omega, by omega⟩, (by have u := ocR_i (S := S) (a := ru.toNat); omega)⟩
    · refine l_iconst rfl ?_
      refine l_goto rfl rfl ?_
      refine l_ireturn rfl rfl ?_
      exact ⟨rfl, _, rfl, ⟨by omega, by omega⟩, (by have u := ocR_i (S := S) (a := ru.toNat); omega)⟩
  · refine l_iconst rfl ?_
    refine l_goto rfl rfl ?_
    refine l_ireturn rfl rfl ?_
    exact ⟨rfl, _, rfl, ⟨by omega, by omega⟩, (by have u := ocR_i (S := S) (a := ru.toNat); omega)⟩
abbrev Q_mo_isAhead__q (S : sS) (ru : Int) (su : Int) : pst := fun r S1 => S = S1 ∧ (∃ z : Int, r = some (iv z) ∧ (0 ≤ z ∧ z ≤ 1) ∧ ((z = 1 → AHR S ru.toNat su.toNat) ∧ (z = 0 → ¬ AHR S ru.toNat su.toNat)))
set_option maxRecDepth 100000 in
theorem t_mo_isAhead__q {S : sS} (hH : HI S) (ru : Int) (su : Int) (hru : 0 ≤ ru ∧ ru ≤ 23) (hsu : 0 ≤ su ∧ su ≤ 23) (hB : ABV S) (d : Nat) : Mt lay0 (d + 2) m_mo_isAhead [.ref 904, iv ru, iv su] S (Q_mo_isAhead__q S ru su) := by
  refine Mt_R rfl rfl ?_
  refine l_aload_n rfl rfl ?_
  refine l_iload_n rfl rfl ?_
  refine l_callV rfl rfl rfl (t_mo_orderClass__c hH ru ⟨by omega, by omega⟩ _) ?_
  rintro _ _ ⟨rfl, z2, rfl, w2, w1⟩
  show Rl _ _ _ _ _ [iv z2] _ _
  refine l_aload_n rfl rfl ?_
  refine l_iload_n rfl rfl ?_
  refine l_callV rfl rfl rfl (t_mo_orderClass__c hH su ⟨by omega, by omega⟩ _) ?_
  rintro _ _ ⟨rfl, z4, rfl, w4, w3⟩
  show Rl _ _ _ _ _ [iv z4, iv z2] _ _
  refine l_icmp_eq rfl rfl (by unfold rg; omega) (by unfold rg; omega) (fun w5 => ?_) (fun w6 => ?_)
  · refine l_aload_n rfl rfl ?_
    refine l_iload_n rfl rfl ?_
    refine l_callV rfl rfl rfl (t_mo_orderClass__c hH ru ⟨by omega, by omega⟩ _) ?_
    rintro _ _ ⟨rfl, z8, rfl, w8, w7⟩
    show Rl _ _ _ _ _ [iv z8] _ _
    refine l_iconst rfl ?_
    refine l_icmp_ne rfl rfl (by unfold rg; omega) (by unfold rg; omega) (fun w9 => ?_) (fun w10 => ?_)
    · refine l_aload_n rfl rfl ?_
      refine l_iload_n rfl rfl ?_
      refine l_callV rfl rfl rfl (t_mo_orderClass__c hH ru ⟨by omega, by omega⟩ _) ?_
      rintro _ _ ⟨rfl, z12, rfl, w12, w11⟩
      show Rl _ _ _ _ _ [iv z12] _ _
      refine l_iconst rfl ?_
      refine l_icmp_ne rfl rfl (by unfold rg; omega) (by unfold rg; omega) (fun w13 => ?_) (fun w14 => ?_)
      · refine l_aload_n rfl rfl ?_
        refine l_gfr rfl rfl rfl rfl rfl (hH.r 904 138 985 rfl) ?_
        refine l_iload_n rfl rfl ?_
        refine l_iaload (n := 24) rfl rfl (by omega) (by omega) (by unfold rg; omega) ?_
        have w15 : 0 ≤ (Xi S 985 ((ru).toNat)) ∧ (Xi S 985 ((ru).toNat)) ≤ 6 := hH.c _ _
        refine l_aload_n rfl rfl ?_
        refine l_gfr rfl rfl rfl rfl rfl (hH.r 904 138 985 rfl) ?_
        refine l_iload_n rfl rfl ?_
        refine l_iaload (n := 24) rfl rfl (by omega) (by omega) (by unfold rg; omega) ?_
        have w16 : 0 ≤ (Xi S 985 ((su).toNat)) ∧ (Xi S 985 ((su).toNat)) ≤ 6 := hH.c _ _
        refine l_icmp_eq rfl rfl (by unfold rg; omega) (by unfold rg; omega) (fun w17 => ?_) (fun w18 => ?_)
        · refine l_iload_n rfl rfl ?_
          refine l_iload_n rfl rfl ?_
          refine l_icmp_ge rfl rfl (by unfold rg; omega) (by unfold rg; omega) (fun w19 => ?_) (fun w20 => ?_)
          · refine l_iconst rfl ?_
            refine l_ireturn rfl rfl ?_
            exact ⟨rfl, _, rfl, ⟨by omega, by omega⟩, (by first | (have t := K58; exact ahr_i (fun _ _ => ⟨d48, d58⟩) (by omega)) | exact ahr_i (r := 0) (s := 0) (fun q1 q2 => absurd q2 (by omega)) (by omega))⟩
          · refine l_iconst rfl ?_
            refine l_goto rfl rfl ?_
            refine l_ireturn rfl rfl ?_
            exact ⟨rfl, _, rfl, ⟨by omega, by omega⟩, (by first | (have t := K58; exact ahr_i (fun _ _ => ⟨d48, d58⟩) (by omega)) | exact ahr_i (r := 0) (s := 0) (fun q1 q2 => absurd q2 (by omega)) (by omega))⟩
        · refine l_aload_n rfl rfl ?_
          refine l_gfr rfl rfl rfl rfl rfl (hH.r 904 138 985 rfl) ?_
          refine l_iload_n rfl rfl ?_
          refine l_iaload (n := 24) rfl rfl (by omega) (by omega) (by unfold rg; omega) ?_
          refine l_aload_n rfl rfl ?_
          refine l_gfr rfl rfl rfl rfl rfl (hH.r 904 138 985 rfl) ?_
          refine l_iload_n rfl rfl ?_
          refine l_iaload (n := 24) rfl rfl (by omega) (by omega) (by unfold rg; omega) ?_
          refine l_icmp_le rfl rfl (by unfold rg; omega) (by unfold rg; omega) (fun w21 => ?_) (fun w22 => ?_)
          · refine l_iconst rfl ?_
            refine l_goto rfl rfl ?_
            refine l_ireturn rfl rfl ?_
            exact ⟨rfl, _, rfl, ⟨by omega, by omega⟩, (by first | (have t := K58; exact ahr_i (fun _ _ => ⟨d48, d58⟩) (by omega)) | exact ahr_i (r := 0) (s := 0) (fun q1 q2 => absurd q2 (by omega)) (by omega))⟩
          · refine l_iconst rfl ?_
            refine l_goto rfl rfl ?_
            refine l_ireturn rfl rfl ?_
            exact ⟨rfl, _, rfl, ⟨by omega, by omega⟩, (by first | (have t := K58; exact ahr_i (fun _ _ => ⟨d48, d58⟩) (by omega)) | exact ahr_i (r := 0) (s := 0) (fun q1 q2 => absurd q2 (by omega)) (by omega))⟩
      · refine l_aload_n rfl rfl ?_
        refine l_gfr rfl rfl rfl rfl rfl (hH.r 904 135 982 rfl) ?_
        refine l_iload_n rfl rfl ?_
        refine l_iaload (n := 24) rfl rfl (by omega) (by omega) (by unfold rg; omega) ?_
        have w23 : 0 ≤ (Xi S 982 ((ru).toNat)) ∧ (Xi S 982 ((ru).toNat)) ≤ 6 := hH.c _ _
        refine l_aload_n rfl rfl ?_
        refine l_gfr rfl rfl rfl rfl rfl (hH.r 904 135 982 rfl) ?_
        refine l_iload_n rfl rfl ?_
        refine l_iaload (n := 24) rfl rfl (by omega) (by omega) (by unfold rg; omega) ?_
        have w24 : 0 ≤ (Xi S 982 ((su).toNat)) ∧ (Xi S 982 ((su).toNat)) ≤ 6 := hH.c _ _
        refine l_icmp_eq rfl rfl (by unfold rg; omega) (by unfold rg; omega) (fun w25 => ?_) (fun w26 => ?_)
        · refine l_aload_n rfl rfl ?_
          refine l_gfr rfl rfl rfl rfl rfl (hH.r 904 138 985 rfl) ?_
          refine l_iload_n rfl rfl ?_
          refine l_iaload (n := 24) rfl rfl (by omega) (by omega) (by unfold rg; omega) ?_
          have w27 : 0 ≤ (Xi S 985 ((ru).toNat)) ∧ (Xi S 985 ((ru).toNat)) ≤ 6 := hH.c _ _
          refine l_aload_n rfl rfl ?_
          refine l_gfr rfl rfl rfl rfl rfl (hH.r 904 138 985 rfl) ?_
          refine l_iload_n rfl rfl ?_
          refine l_iaload (n := 24) rfl rfl (by omega) (by omega) (by unfold rg; omega) ?_
          have w28 : 0 ≤ (Xi S 985 ((su).toNat)) ∧ (Xi S 985 ((su).toNat)) ≤ 6 := hH.c _ _
          refine l_icmp_eq rfl rfl (by unfold rg; omega) (by unfold rg; omega) (fun w29 => ?_) (fun w30 => ?_)
          · refine l_iload_n rfl rfl ?_
            refine l_iload_n rfl rfl ?_
            refine l_icmp_ge rfl rfl (by unfold rg; omega) (by unfold rg; omega) (fun w31 => ?_) (fun w32 => ?_)
            · refine l_iconst rfl ?_
              refine l_ireturn rfl rfl ?_
              exact ⟨rfl, _, rfl, ⟨by omega, by omega⟩, (by first | (have t := K58; exact ahr_i (fun _ _ => ⟨d48, d58⟩) (by omega)) | exact ahr_i (r := 0) (s := 0) (fun q1 q2 => absurd q2 (by omega)) (by omega))⟩
            · refine l_iconst rfl ?_
              refine l_goto rfl rfl ?_
              refine l_ireturn rfl rfl ?_
              exact ⟨rfl, _, rfl, ⟨by omega, by omega⟩, (by first | (have t := K58; exact ahr_i (fun _ _ => ⟨d48, d58⟩) (by omega)) | exact ahr_i (r := 0) (s := 0) (fun q1 q2 => absurd q2 (by omega)) (by omega))⟩
          · refine l_aload_n rfl rfl ?_
            refine l_gfr rfl rfl rfl rfl rfl (hH.r 904 138 985 rfl) ?_
            refine l_iload_n rfl rfl ?_
            refine l_iaload (n := 24) rfl rfl (by omega) (by omega) (by unfold rg; omega) ?_
            refine l_aload_n rfl rfl ?_
            refine l_gfr rfl rfl rfl rfl rfl (hH.r 904 138 985 rfl) ?_
            refine l_iload_n rfl rfl ?_
            refine l_iaload (n := 24) rfl rfl (by omega) (by omega) (by unfold rg; omega) ?_
            refine l_icmp_le rfl rfl (by unfold rg; omega) (by unfold rg; omega) (fun w33 => ?_) (fun w34 => ?_)
            · refine l_iconst rfl ?_
              refine l_goto rfl rfl ?_
              refine l_ireturn rfl rfl ?_
              exact ⟨rfl, _, rfl, ⟨by omega, by omega⟩, (by first | (have t := K58; exact ahr_i (fun _ _ => ⟨d48, d58⟩) (by omega)) | exact ahr_i (r := 0) (s := 0) (fun q1 q2 => absurd q2 (by omega)) (by omega))⟩
            · refine l_iconst rfl ?_
              refine l_goto rfl rfl ?_
              refine l_ireturn rfl rfl ?_
              exact ⟨rfl, _, rfl, ⟨by omega, by omega⟩, (by first | (have t := K58; exact ahr_i (fun _ _ => ⟨d48, d58⟩) (by omega)) | exact ahr_i (r := 0) (s := 0) (fun q1 q2 => absurd q2 (by omega)) (by omega))⟩
        · refine l_aload_n rfl rfl ?_
          refine l_gfr rfl rfl rfl rfl rfl (hH.r 904 135 982 rfl) ?_
          refine l_iload_n rfl rfl ?_
          refine l_iaload (n := 24) rfl rfl (by omega) (by omega) (by unfold rg; omega) ?_
          refine l_aload_n rfl rfl ?_
          refine l_gfr rfl rfl rfl rfl rfl (hH.r 904 135 982 rfl) ?_
          refine l_iload_n rfl rfl ?_
          refine l_iaload (n := 24) rfl rfl (by omega) (by omega) (by unfold rg; omega) ?_
          refine l_icmp_le rfl rfl (by unfold rg; omega) (by unfold rg; omega) (fun w35 => ?_) (fun w36 => ?_)
          · refine l_iconst rfl ?_
            refine l_ireturn rfl rfl ?_
            exact ⟨rfl, _, rfl, ⟨by omega, by omega⟩, (by first | (have t := K58; exact ahr_i (fun _ _ => ⟨d48, d58⟩) (by omega)) | exact ahr_i (r := 0) (s := 0) (fun q1 q2 => absurd q2 (by omega)) (by omega))⟩
          · refine l_iconst rfl ?_
            refine l_goto rfl rfl ?_
            refine l_ireturn rfl rfl ?_
            exact ⟨rfl, _, rfl, ⟨by omega, by omega⟩, (by first | (have t := K58; exact ahr_i (fun _ _ => ⟨d48, d58⟩) (by omega)) | exact ahr_i (r := 0) (s := 0) (fun q1 q2 => absurd q2 (by omega)) (by omega))⟩
    · refine l_aload_n rfl rfl ?_
      refine l_aload_n rfl rfl ?_
      refine l_gfr rfl rfl rfl rfl rfl (hH.r 904 134 981 rfl) ?_
      refine l_iload_n rfl rfl ?_
      refine l_iaload (n := 24) rfl rfl (by omega) (by omega) (by unfold rg; omega) ?_
      have w37 : -1 ≤ (Xi S 981 ((ru).toNat)) ∧ (Xi S 981 ((ru).toNat)) ≤ 15 := hH.c _ _
      refine l_callV rfl rfl rfl (t_mo_depthOf__q hH (Xi S 981 ((ru).toNat)) ⟨by omega, by omega⟩ (by first | assumption | exact (by assumption : ABV S)) _) ?_
      rintro _ _ ⟨rfl, z38, rfl, w38, d48⟩
      show Rl _ _ _ _ _ [iv z38] _ _
      refine l_aload_n rfl rfl ?_
      refine l_aload_n rfl rfl ?_
      refine l_gfr rfl rfl rfl rfl rfl (hH.r 904 134 981 rfl) ?_
      refine l_iload_n rfl rfl ?_
      refine l_iaload (n := 24) rfl rfl (by omega) (by omega) (by unfold rg; omega) ?_
      have w39 : -1 ≤ (Xi S 981 ((su).toNat)) ∧ (Xi S 981 ((su).toNat)) ≤ 15 := hH.c _ _
      refine l_callV rfl rfl rfl (t_mo_depthOf__q hH (Xi S 981 ((su).toNat)) ⟨by omega, by omega⟩ (by first | assumption | exact (by assumption : ABV S)) _) ?_
      rintro _ _ ⟨rfl, z40, rfl, w40, d58⟩
      show Rl _ _ _ _ _ [iv z40, iv z38] _ _
      have K58 : True := trivial
      refine l_icmp_eq rfl rfl (by unfold rg; omega) (by unfold rg; omega) (fun w41 => ?_) (fun w42 => ?_)
      · refine l_aload_n rfl rfl ?_
        refine l_iload_n rfl rfl ?_
        refine l_callV rfl rfl rfl (t_mo_orderClass__c hH ru ⟨by omega, by omega⟩ _) ?_
        rintro _ _ ⟨rfl, z44, rfl, w44, w43⟩
        show Rl _ _ _ _ _ [iv z44] _ _
        refine l_iconst rfl ?_
        refine l_icmp_ne rfl rfl (by unfold rg; omega) (by unfold rg; omega) (fun w45 => ?_) (fun w46 => ?_)
        · refine l_aload_n rfl rfl ?_
          refine l_gfr rfl rfl rfl rfl rfl (hH.r 904 138 985 rfl) ?_
          refine l_iload_n rfl rfl ?_
          refine l_iaload (n := 24) rfl rfl (by omega) (by omega) (by unfold rg; omega) ?_
          have w47 : 0 ≤ (Xi S 985 ((ru).toNat)) ∧ (Xi S 985 ((ru).toNat)) ≤ 6 := hH.c _ _
          refine l_aload_n rfl rfl ?_
          refine l_gfr rfl rfl rfl rfl rfl (hH.r 904 138 985 rfl) ?_
          refine l_iload_n rfl rfl ?_
          refine l_iaload (n := 24) rfl rfl (by omega) (by omega) (by unfold rg; omega) ?_
          have w48 : 0 ≤ (Xi S 985 ((su).toNat)) ∧ (Xi S 985 ((su).toNat)) ≤ 6 := hH.c _ _
          refine l_icmp_eq rfl rfl (by unfold rg; omega) (by unfold rg; omega) (fun w49 => ?_) (fun w50 => ?_)
          · refine l_iload_n rfl rfl ?_
            refine l_iload_n rfl rfl ?_
            refine l_icmp_ge rfl rfl (by unfold rg; omega) (by unfold rg; omega) (fun w51 => ?_) (fun w52 => ?_)
            · refine l_iconst rfl ?_
              refine l_ireturn rfl rfl ?_
              exact ⟨rfl, _, rfl, ⟨by omega, by omega⟩, (by first | (have t := K58; exact ahr_i (fun _ _ => ⟨d48, d58⟩) (by omega)) | exact ahr_i (r := 0) (s := 0) (fun q1 q2 => absurd q2 (by omega)) (by omega))⟩
            · refine l_iconst rfl ?_
              refine l_goto rfl rfl ?_
              refine l_ireturn rfl rfl ?_
              exact ⟨rfl, _, rfl, ⟨by omega, by omega⟩, (by first | (have t := K58; exact ahr_i (fun _ _ => ⟨d48, d58⟩) (by omega)) | exact ahr_i (r := 0) (s := 0) (fun q1 q2 => absurd q2 (by omega)) (by omega))⟩
          · refine l_aload_n rfl rfl ?_
            refine l_gfr rfl rfl rfl rfl rfl (hH.r 904 138 985 rfl) ?_
            refine l_iload_n rfl rfl ?_
            refine l_iaload (n := 24) rfl rfl (by omega) (by omega) (by unfold rg; omega) ?_
            refine l_aload_n rfl rfl ?_
            refine l_gfr rfl rfl rfl rfl rfl (hH.r 904 138 985 rfl) ?_
            refine l_iload_n rfl rfl ?_
            refine l_iaload (n := 24) rfl rfl (by omega) (by omega) (by unfold rg; omega) ?_
            refine l_icmp_le rfl rfl (by unfold rg; omega) (by unfold rg; omega) (fun w53 => ?_) (fun w54 => ?_)
            · refine l_iconst rfl ?_
              refine l_goto rfl rfl ?_
              refine l_ireturn rfl rfl ?_
              exact ⟨rfl, _, rfl, ⟨by omega, by omega⟩, (by first | (have t := K58; exact ahr_i (fun _ _ => ⟨d48, d58⟩) (by omega)) | exact ahr_i (r := 0) (s := 0) (fun q1 q2 => absurd q2 (by omega)) (by omega))⟩
            · refine l_iconst rfl ?_
              refine l_goto rfl rfl ?_
              refine l_ireturn rfl rfl ?_
              exact ⟨rfl, _, rfl, ⟨by omega, by omega⟩, (by first | (have t := K58; exact ahr_i (fun _ _ => ⟨d48, d58⟩) (by omega)) | exact ahr_i (r := 0) (s := 0) (fun q1 q2 => absurd q2 (by omega)) (by omega))⟩
        · refine l_aload_n rfl rfl ?_
          refine l_gfr rfl rfl rfl rfl rfl (hH.r 904 135 982 rfl) ?_
          refine l_iload_n rfl rfl ?_
          refine l_iaload (n := 24) rfl rfl (by omega) (by omega) (by unfold rg; omega) ?_
          have w55 : 0 ≤ (Xi S 982 ((ru).toNat)) ∧ (Xi S 982 ((ru).toNat)) ≤ 6 := hH.c _ _
          refine l_aload_n rfl rfl ?_
          refine l_gfr rfl rfl rfl rfl rfl (hH.r 904 135 982 rfl) ?_
          refine l_iload_n rfl rfl ?_
          refine l_iaload (n := 24) rfl rfl (by omega) (by omega) (by unfold rg; omega) ?_
          have w56 : 0 ≤ (Xi S 982 ((su).toNat)) ∧ (Xi S 982 ((su).toNat)) ≤ 6 := hH.c _ _
          refine l_icmp_eq rfl rfl (by unfold rg; omega) (by unfold rg; omega) (fun w57 => ?_) (fun w58 => ?_)
          · refine l_aload_n rfl rfl ?_
            refine l_gfr rfl rfl rfl rfl rfl (hH.r 904 138 985 rfl) ?_
            refine l_iload_n rfl rfl ?_
            refine l_iaload (n := 24) rfl rfl (by omega) (by omega) (by unfold rg; omega) ?_
            have w59 : 0 ≤ (Xi S 985 ((ru).toNat)) ∧ (Xi S 985 ((ru).toNat)) ≤ 6 := hH.c _ _
            refine l_aload_n rfl rfl ?_
            refine l_gfr rfl rfl rfl rfl rfl (hH.r 904 138 985 rfl) ?_
            refine l_iload_n rfl rfl ?_
            refine l_iaload (n := 24) rfl rfl (by omega) (by omega) (by unfold rg; omega) ?_
            have w60 : 0 ≤ (Xi S 985 ((su).toNat)) ∧ (Xi S 985 ((su).toNat)) ≤ 6 := hH.c _ _
            refine l_icmp_eq rfl rfl (by unfold rg; omega) (by unfold rg; omega) (fun w61 => ?_) (fun w62 => ?_)
            · refine l_iload_n rfl rfl ?_
              refine l_iload_n rfl rfl ?_
              refine l_icmp_ge rfl rfl (by unfold rg; omega) (by unfold rg; omega) (fun w63 => ?_) (fun w64 => ?_)
              · refine l_iconst rfl ?_
                refine l_ireturn rfl rfl ?_
                exact ⟨rfl, _, rfl, ⟨by omega, by omega⟩, (by first | (have t := K58; exact ahr_i (fun _ _ => ⟨d48, d58⟩) (by omega)) | exact ahr_i (r := 0) (s := 0) (fun q1 q2 => absurd q2 (by omega)) (by omega))⟩
              · refine l_iconst rfl ?_
                refine l_goto rfl rfl ?_
                refine l_ireturn rfl rfl ?_
                exact ⟨rfl, _, rfl, ⟨by omega, by omega⟩, (by first | (have t := K58; exact ahr_i (fun _ _ => ⟨d48, d58⟩) (by omega)) | exact ahr_i (r := 0) (s := 0) (fun q1 q2 => absurd q2 (by omega)) (by omega))⟩
            · refine l_aload_n rfl rfl ?_
              refine l_gfr rfl rfl rfl rfl rfl (hH.r 904 138 985 rfl) ?_
              refine l_iload_n rfl rfl ?_
              refine l_iaload (n := 24) rfl rfl (by omega) (by omega) (by unfold rg; omega) ?_
              refine l_aload_n rfl rfl ?_
              refine l_gfr rfl rfl rfl rfl rfl (hH.r 904 138 985 rfl) ?_
              refine l_iload_n rfl rfl ?_
              refine l_iaload (n := 24) rfl rfl (by omega) (by omega) (by unfold rg; omega) ?_
              refine l_icmp_le rfl rfl (by unfold rg; omega) (by unfold rg; omega) (fun w65 => ?_) (fun w66 => ?_)
              · refine l_iconst rfl ?_
                refine l_goto rfl rfl ?_
                refine l_ireturn rfl rfl ?_
                exact ⟨rfl, _, rfl, ⟨by omega, by omega⟩, (by first | (have t := K58; exact ahr_i (fun _ _ => ⟨d48, d58⟩) (by omega)) | exact ahr_i (r := 0) (s := 0) (fun q1 q2 => absurd q2 (by omega)) (by omega))⟩
              · refine l_iconst rfl ?_
                refine l_goto rfl rfl ?_
                refine l_ireturn rfl rfl ?_
                exact ⟨rfl, _, rfl, ⟨by omega, by omega⟩, (by first | (have t := K58; exact ahr_i (fun _ _ => ⟨d48, d58⟩) (by omega)) | exact ahr_i (r := 0) (s := 0) (fun q1 q2 => absurd q2 (by omega)) (by omega))⟩
          · refine l_aload_n rfl rfl ?_
            refine l_gfr rfl rfl rfl rfl rfl (hH.r 904 135 982 rfl) ?_
            refine l_iload_n rfl rfl ?_
            refine l_iaload (n := 24) rfl rfl (by omega) (by omega) (by unfold rg; omega) ?_
            refine l_aload_n rfl rfl ?_
            refine l_gfr rfl rfl rfl rfl rfl (hH.r 904 135 982 rfl) ?_
            refine l_iload_n rfl rfl ?_
            refine l_iaload (n := 24) rfl rfl (by omega) (by omega) (by unfold rg; omega) ?_
            refine l_icmp_le rfl rfl (by unfold rg; omega) (by unfold rg; omega) (fun w67 => ?_) (fun w68 => ?_)
            · refine l_iconst rfl ?_
              refine l_ireturn rfl rfl ?_
              exact ⟨rfl, _, rfl, ⟨by omega, by omega⟩, (by first | (have t := K58; exact ahr_i (fun _ _ => ⟨d48, d58⟩) (by omega)) | exact ahr_i (r := 0) (s := 0) (fun q1 q2 => absurd q2 (by omega)) (by omega))⟩
            · refine l_iconst rfl ?_
              refine l_goto rfl rfl ?_
              refine l_ireturn rfl rfl ?_
              exact ⟨rfl, _, rfl, ⟨by omega, by omega⟩, (by first | (have t := K58; exact ahr_i (fun _ _ => ⟨d48, d58⟩) (by omega)) | exact ahr_i (r := 0) (s := 0) (fun q1 q2 => absurd q2 (by omega)) (by omega))⟩
      · refine l_aload_n rfl rfl ?_
        refine l_aload_n rfl rfl ?_
        refine l_gfr rfl rfl rfl rfl rfl (hH.r 904 134 981 rfl) ?_
        refine l_iload_n rfl rfl ?_
        refine l_iaload (n := 24) rfl rfl (by omega) (by omega) (by unfold rg; omega) ?_
        refine l_callV rfl rfl rfl (t_mo_depthOf__q hH (Xi S 981 ((ru).toNat)) ⟨by omega, by omega⟩ (by first | assumption | exact (by assumption : ABV S)) _) ?_
        rintro _ _ ⟨rfl, z70, rfl, w70, w69⟩
        show Rl _ _ _ _ _ [iv z70] _ _
        refine l_aload_n rfl rfl ?_
        refine l_aload_n rfl rfl ?_
        refine l_gfr rfl rfl rfl rfl rfl (hH.r 904 134 981 rfl) ?_
        refine l_iload_n rfl rfl ?_
        refine l_iaload (n := 24) rfl rfl (by omega) (by omega) (by unfold rg; omega) ?_
        refine l_callV rfl rfl rfl (t_mo_depthOf__q hH (Xi S 981 ((su).toNat)) ⟨by omega, by omega⟩ (by first | assumption | exact (by assumption : ABV S)) _) ?_
        rintro _ _ ⟨rfl, z72, rfl, w72, w71⟩
        show Rl _ _ _ _ _ [iv z72, iv z70] _ _
        refine l_icmp_le rfl rfl (by unfold rg; omega) (by unfold rg; omega) (fun w73 => ?_) (fun w74 => ?_)
        · refine l_iconst rfl ?_
          refine l_ireturn rfl rfl ?_
          exact ⟨rfl, _, rfl, ⟨by omega, by omega⟩, (by first | (have t := K58; exact ahr_i (fun _ _ => ⟨d48, d58⟩) (by omega)) | exact ahr_i (r := 0) (s := 0) (fun q1 q2 => absurd q2 (by omega)) (by omega))⟩
        · refine l_iconst rfl ?_
          refine l_goto rfl rfl ?_
          refine l_ireturn rfl rfl ?_
          exact ⟨rfl, _, rfl, ⟨by omega, by omega⟩, (by first | (have t := K58; exact ahr_i (fun _ _ => ⟨d48, d58⟩) (by omega)) | exact ahr_i (r := 0) (s := 0) (fun q1 q2 => absurd q2 (by omega)) (by omega))⟩
  · refine l_aload_n rfl rfl ?_
    refine l_iload_n rfl rfl ?_
    refine l_callV rfl rfl rfl (t_mo_orderClass__c hH ru ⟨by omega, by omega⟩ _) ?_
    rintro _ _ ⟨rfl, z76, rfl, w76, w75⟩
    show Rl _ _ _ _ _ [iv z76] _ _
    refine l_aload_n rfl rfl ?_
    refine l_iload_n rfl rfl ?_
    refine l_callV rfl rfl rfl (t_mo_orderClass__c hH su ⟨by omega, by omega⟩ _) ?_
    rintro _ _ ⟨rfl, z78, rfl, w78, w77⟩
    show Rl _ _ _ _ _ [iv z78, iv z76] _ _
    refine l_icmp_ge rfl rfl (by unfold rg; omega) (by unfold rg; omega) (fun w79 => ?_) (fun w80 => ?_)
    · refine l_iconst rfl ?_
      refine l_ireturn rfl rfl ?_
      exact ⟨rfl, _, rfl, ⟨by omega, by omega⟩, (by first | (have t := K58; exact ahr_i (fun _ _ => ⟨d48, d58⟩) (by omega)) | exact ahr_i (r := 0) (s := 0) (fun q1 q2 => absurd q2 (by omega)) (by omega))⟩
    · refine l_iconst rfl ?_
      refine l_goto rfl rfl ?_
      refine l_ireturn rfl rfl ?_
      exact ⟨rfl, _, rfl, ⟨by omega, by omega⟩, (by first | (have t := K58; exact ahr_i (fun _ _ => ⟨d48, d58⟩) (by omega)) | exact ahr_i (r := 0) (s := 0) (fun q1 q2 => absurd q2 (by omega)) (by omega))⟩
abbrev Q_mo_orderOf__q (S : sS) (ru : Int) : pst := fun r S1 => S = S1 ∧ (∃ z : Int, r = some (iv z) ∧ (0 ≤ z ∧ z ≤ 24) ∧ (z = noR S (Xi S 904 130).toNat ru.toNat))
set_option maxRecDepth 100000 in
theorem t_mo_orderOf__q {S : sS} (hH : HI S) (ru : Int) (hru : 0 ≤ ru ∧ ru ≤ 23) (hB : ABV S) (d : Nat) : Mt lay0 (d + 3) m_mo_orderOf [.ref 904, iv ru] S (Q_mo_orderOf__q S ru) := by
  refine Mt_R rfl rfl ?_
  have w1 : 0 ≤ Xi S 904 130 ∧ Xi S 904 130 ≤ 24 := hH.c _ _
  have C4 : ∀ (n4 : Nat) (v2 : Int) (v3 : Int), (0 ≤ v2 ∧ v2 ≤ 24) → (0 ≤ v3 ∧ v3 ≤ 24) → (0 ≤ v2 ∧ v2 ≤ v3) → (v3 ≤ Xi S 904 130) → (v2 = noR S v3.toNat ru.toNat) → n4 = (25 - v3).toNat → Rl lay0 (d + 2) m_mo_orderOf 4 [(0, .ref 904), (1, iv ru), (2, iv v2), (3, iv v3)] [] S (Q_mo_orderOf__q S ru) := by
    intro n4
    induction n4 using Nat.strongRecOn with
    | ind n4 ih4 =>
      intro v2 v3 w2 w3 w4 w5 f4 hm4
      refine l_iload_n rfl rfl ?_
      refine l_aload_n rfl rfl ?_
      refine l_gfi rfl rfl rfl rfl rfl ?_
      refine l_icmp_ge rfl rfl (by unfold rg; omega) (by unfold rg; omega) (fun w6 => ?_) (fun w7 => ?_)
      · refine l_iload_n rfl rfl ?_
        refine l_ireturn rfl rfl ?_
        exact ⟨rfl, _, rfl, ⟨by omega, by omega⟩, (by rw [f4]; congr 1; omega)⟩
      · refine l_iload_n rfl rfl ?_
        refine l_iload_n rfl rfl ?_
        refine l_iload_n rfl rfl ?_
        refine l_icmp_eq rfl rfl (by unfold rg; omega) (by unfold rg; omega) (fun w8 => ?_) (fun w9 => ?_)
        · refine l_iconst rfl ?_
          refine l_iadd rfl ?_
          have F47 : (v2 + 0) = noR S (v3 + 1).toNat ru.toNat := noR_s f4 (by omega) (by first | exact Or.inl ⟨by omega, by omega, by omega, q36.1 (by omega)⟩ | exact Or.inr ⟨by omega, fun x => q36.2 (by omega) x.2.2⟩ | exact Or.inr ⟨by omega, fun x => absurd x.1 (by omega)⟩ | exact Or.inr ⟨by omega, fun x => absurd x.2.1 (by omega)⟩)
          refine l_istore_n rfl rfl rfl ?_
          refine l_iinc rfl rfl rfl rfl ?_
          refine l_goto rfl rfl ?_
          exact Rl_weak (ih4 _ (by omega) ((v2 + 0)) ((v3 + 1)) (by omega) (by omega) (by omega) (by omega) (by first | exact F47 | rfl) rfl) (And.intro rfl (And.intro rfl (And.intro rfl (And.intro rfl (True.intro)))))
        · refine l_aload_n rfl rfl ?_
          refine l_gfr rfl rfl rfl rfl rfl (hH.r 904 131 978 rfl) ?_
          refine l_iload_n rfl rfl ?_
          refine l_iaload (n := 24) rfl rfl (by omega) (by omega) (by unfold rg; omega) ?_
          have w10 : 0 ≤ (Xi S 978 ((v3).toNat)) ∧ (Xi S 978 ((v3).toNat)) ≤ 3 := hH.c _ _
          refine l_aload_n rfl rfl ?_
          refine l_gfr rfl rfl rfl rfl rfl (hH.r 904 131 978 rfl) ?_
          refine l_iload_n rfl rfl ?_
          refine l_iaload (n := 24) rfl rfl (by omega) (by omega) (by unfold rg; omega) ?_
          have w11 : 0 ≤ (Xi S 978 ((ru).toNat)) ∧ (Xi S 978 ((ru).toNat)) ≤ 3 := hH.c _ _
          refine l_icmp_ne rfl rfl (by unfold rg; omega) (by unfold rg; omega) (fun w12 => ?_) (fun w13 => ?_)
          · refine l_iconst rfl ?_
            refine l_iadd rfl ?_
            have F47 : (v2 + 0) = noR S (v3 + 1).toNat ru.toNat := noR_s f4 (by omega) (by first | exact Or.inl ⟨by omega, by omega, by omega, q36.1 (by omega)⟩ | exact Or.inr ⟨by omega, fun x => q36.2 (by omega) x.2.2⟩ | exact Or.inr ⟨by omega, fun x => absurd x.1 (by omega)⟩ | exact Or.inr ⟨by omega, fun x => absurd x.2.1 (by omega)⟩)
            refine l_istore_n rfl rfl rfl ?_
            refine l_iinc rfl rfl rfl rfl ?_
            refine l_goto rfl rfl ?_
            exact Rl_weak (ih4 _ (by omega) ((v2 + 0)) ((v3 + 1)) (by omega) (by omega) (by omega) (by omega) (by first | exact F47 | rfl) rfl) (And.intro rfl (And.intro rfl (And.intro rfl (And.intro rfl (True.intro)))))
          · refine l_aload_n rfl rfl ?_
            refine l_iload_n rfl rfl ?_
            refine l_iload_n rfl rfl ?_
            refine l_callV rfl rfl rfl (t_mo_isAhead__q hH v3 ru ⟨by omega, by omega⟩ ⟨by omega, by omega⟩ (by first | assumption | exact (by assumption : ABV S)) _) ?_
            rintro _ _ ⟨rfl, z14, rfl, w14, q36⟩
            show Rl _ _ _ _ _ [iv z14, iv v2] _ _
            refine l_if_eq rfl rfl (by unfold rg; omega) (fun w15 => ?_) (fun w16 => ?_)
            · refine l_iconst rfl ?_
              refine l_iadd rfl ?_
              have F47 : (v2 + 0) = noR S (v3 + 1).toNat ru.toNat := noR_s f4 (by omega) (by first | exact Or.inl ⟨by omega, by omega, by omega, q36.1 (by omega)⟩ | exact Or.inr ⟨by omega, fun x => q36.2 (by omega) x.2.2⟩ | exact Or.inr ⟨by omega, fun x => absurd x.1 (by omega)⟩ | exact Or.inr ⟨by omega, fun x => absurd x.2.1 (by omega)⟩)
              refine l_istore_n rfl rfl rfl ?_
              refine l_iinc rfl rfl rfl rfl ?_
              refine l_goto rfl rfl ?_
              exact Rl_weak (ih4 _ (by omega) ((v2 + 0)) ((v3 + 1)) (by omega) (by omega) (by omega) (by omega) (by first | exact F47 | rfl) rfl) (And.intro rfl (And.intro rfl (And.intro rfl (And.intro rfl (True.intro)))))
            · refine l_iconst rfl ?_
              refine l_goto rfl rfl ?_
              refine l_iadd rfl ?_
              have F47 : (v2 + 1) = noR S (v3 + 1).toNat ru.toNat := noR_s f4 (by omega) (by first | exact Or.inl ⟨by omega, by omega, by omega, q36.1 (by omega)⟩ | exact Or.inr ⟨by omega, fun x => q36.2 (by omega) x.2.2⟩ | exact Or.inr ⟨by omega, fun x => absurd x.1 (by omega)⟩ | exact Or.inr ⟨by omega, fun x => absurd x.2.1 (by omega)⟩)
              refine l_istore_n rfl rfl rfl ?_
              refine l_iinc rfl rfl rfl rfl ?_
              refine l_goto rfl rfl ?_
              exact Rl_weak (ih4 _ (by omega) ((v2 + 1)) ((v3 + 1)) (by omega) (by omega) (by omega) (by omega) (by first | exact F47 | rfl) rfl) (And.intro rfl (And.intro rfl (And.intro rfl (And.intro rfl (True.intro)))))
  refine l_iconst rfl ?_
  refine l_istore_n rfl rfl rfl ?_
  refine l_iconst rfl ?_
  refine l_istore_n rfl rfl rfl ?_
  exact Rl_weak (C4 _ (0) (0) (by omega) (by omega) (by omega) (by omega) (by first | exact F47 | rfl) rfl) (And.intro rfl (And.intro rfl (And.intro rfl (And.intro rfl (True.intro)))))
abbrev Q_mo_ruleAt__q (S : sS) (me : Int) (k : Int) : pst := fun r S1 => S = S1 ∧ (∃ z : Int, r = some (iv z) ∧ (-1 ≤ z ∧ z ≤ 23) ∧ (z ≠ -1 → z < Xi S 904 130) ∧ (z ≠ -1 → k ≤ 24) ∧ (z ≠ -1 → Xi S 978 z.toNat = me) ∧ ((z = -1 → ∀ r : Nat, (r : Int) < Xi S 904 130 → ¬ (Xi S 978 r = me ∧ noR S (Xi S 904 130).toNat r = k)) ∧ (z ≠ -1 → (0 ≤ z ∧ z < Xi S 904 130) ∧ Xi S 978 z.toNat = me ∧ noR S (Xi S 904 130).toNat z.toNat = k)))
set_option maxRecDepth 100000 in
theorem t_mo_ruleAt__q {S : sS} (hH : HI S) (me : Int) (k : Int) (hme : -2147483648 ≤ me ∧ me ≤ 2147483647) (hk : -2147483648 ≤ k ∧ k ≤ 2147483647) (hB : ABV S) (d : Nat) : Mt lay0 (d + 4) m_mo_ruleAt [.ref 904, iv me, iv k] S (Q_mo_ruleAt__q S me k) := by
  refine Mt_R rfl rfl ?_
  have w1 : 0 ≤ Xi S 904 130 ∧ Xi S 904 130 ≤ 24 := hH.c _ _
  have C2 : ∀ (n2 : Nat) (v3 : Int), (0 ≤ v3 ∧ v3 ≤ 24) → (∀ r : Nat, (r : Int) < v3 → ¬ (Xi S 978 r = me ∧ noR S (Xi S 904 130).toNat r = k)) → n2 = (25 - v3).toNat → Rl lay0 (d + 3) m_mo_ruleAt 2 [(0, .ref 904), (1, iv me), (2, iv k), (3, iv v3)] [] S (Q_mo_ruleAt__q S me k) := by
    intro n2
    induction n2 using Nat.strongRecOn with
    | ind n2 ih2 =>
      intro v3 w2 f2 hm2
      refine l_iload_n rfl rfl ?_
      refine l_aload_n rfl rfl ?_
      refine l_gfi rfl rfl rfl rfl rfl ?_
      refine l_icmp_ge rfl rfl (by unfold rg; omega) (by unfold rg; omega) (fun w3 => ?_) (fun w4 => ?_)
      · refine l_iconst rfl ?_
        refine l_ireturn rfl rfl ?_
        exact ⟨rfl, _, rfl, ⟨by omega, by omega⟩, (by first | assumption | omega), (by first | assumption | omega), (by first | assumption | omega), (by first | (have t := K30; exact ⟨fun h => absurd h (by omega), fun _ => ⟨by omega, by omega, by omega⟩⟩) | exact ⟨fun _ r hr => f2 r (by omega), fun h => absurd rfl h⟩)⟩
      · refine l_aload_n rfl rfl ?_
        refine l_gfr rfl rfl rfl rfl rfl (hH.r 904 131 978 rfl) ?_
        refine l_iload_n rfl rfl ?_
        refine l_iaload (n := 24) rfl rfl (by omega) (by omega) (by unfold rg; omega) ?_
        have w5 : 0 ≤ (Xi S 978 ((v3).toNat)) ∧ (Xi S 978 ((v3).toNat)) ≤ 3 := hH.c _ _
        refine l_iload_n rfl rfl ?_
        refine l_icmp_ne rfl rfl (by unfold rg; omega) (by unfold rg; omega) (fun w6 => ?_) (fun w7 => ?_)
        · refine l_iinc rfl rfl rfl rfl ?_
          refine l_goto rfl rfl ?_
          exact Rl_weak (ih2 _ (by omega) ((v3 + 1)) (by omega) (by first | (have t := f2; exact fun r hr => by by_cases x : r = v3.toNat; (rw [x]; omega); exact f2 r (by omega)) | (intro r hr; omega)) rfl) (And.intro rfl (And.intro rfl (And.intro rfl (And.intro rfl (True.intro)))))
        · refine l_aload_n rfl rfl ?_
          refine l_iload_n rfl rfl ?_
          refine l_callV rfl rfl rfl (t_mo_orderOf__q hH v3 ⟨by omega, by omega⟩ (by first | assumption | exact (by assumption : ABV S)) _) ?_
          rintro _ _ ⟨rfl, z10, rfl, w10, w9⟩
          show Rl _ _ _ _ _ [iv z10] _ _
          refine l_iload_n rfl rfl ?_
          refine l_icmp_ne rfl rfl (by unfold rg; omega) (by unfold rg; omega) (fun w11 => ?_) (fun w12 => ?_)
          · refine l_iinc rfl rfl rfl rfl ?_
            refine l_goto rfl rfl ?_
            exact Rl_weak (ih2 _ (by omega) ((v3 + 1)) (by omega) (by first | (have t := f2; exact fun r hr => by by_cases x : r = v3.toNat; (rw [x]; omega); exact f2 r (by omega)) | (intro r hr; omega)) rfl) (And.intro rfl (And.intro rfl (And.intro rfl (And.intro rfl (True.intro)))))
          · refine l_iload_n rfl rfl ?_
            have K30 : True := trivial
            refine l_ireturn rfl rfl ?_
            exact ⟨rfl, _, rfl, ⟨by omega, by omega⟩, (by first | assumption | omega), (by first | assumption | omega), (by first | assumption | omega), (by first | (have t := K30; exact ⟨fun h => absurd h (by omega), fun _ => ⟨by omega, by omega, by omega⟩⟩) | exact ⟨fun _ r hr => f2 r (by omega), fun h => absurd rfl h⟩)⟩
  refine l_iconst rfl ?_
  refine l_istore_n rfl rfl rfl ?_
  exact Rl_weak (C2 _ (0) (by omega) (by first | (have t := f2; exact fun r hr => by by_cases x : r = v3.toNat; (rw [x]; omega); exact f2 r (by omega)) | (intro r hr; omega)) rfl) (And.intro rfl (And.intro rfl (And.intro rfl (And.intro rfl (True.intro)))))
abbrev Q_mo_rule_2__q (S : sS) (i : Int) (w : Int) : pst := fun r S1 => S = S1 ∧ (∃ z : Int, r = some (iv z) ∧ (-1 ≤ z ∧ z ≤ 24) ∧ (((i < 0 ∨ Xi S 904 130 ≤ i ∨ w < 0 ∨ 7 < w) → z = -1) ∧ (0 ≤ i → i < Xi S 904 130 → (w = 0 → z = Xi S 978 i.toNat) ∧ (w = 1 → z = Xi S 979 i.toNat) ∧ (w = 2 → z = Xi S 980 i.toNat) ∧ (w = 3 → z = Xi S 981 i.toNat) ∧ (w = 4 → z = Xi S 982 i.toNat) ∧ (w = 5 → z = Xi S 985 i.toNat) ∧ (w = 6 → z = Xi S 987 i.toNat) ∧ (w = 7 → z = noR S (Xi S 904 130).toNat i.toNat))))
set_option maxRecDepth 100000 in
theorem t_mo_rule_2__q {S : sS} (hH : HI S) (i : Int) (w : Int) (hi : -2147483648 ≤ i ∧ i ≤ 2147483647) (hw : -2147483648 ≤ w ∧ w ≤ 2147483647) (hB : ABV S) (d : Nat) : Mt lay0 (d + 4) m_mo_rule_2 [.ref 904, iv i, iv w] S (Q_mo_rule_2__q S i w) := by
  refine Mt_R rfl rfl ?_
  have w1 : 0 ≤ Xi S 904 130 ∧ Xi S 904 130 ≤ 24 := hH.c _ _
  refine l_iload_n rfl rfl ?_
  refine l_iconst rfl ?_
  refine l_aload_n rfl rfl ?_
  refine l_gfi rfl rfl rfl rfl rfl ?_
  refine l_iconst rfl ?_
  refine l_isub rfl ?_
  refine l_callS rfl rfl (by decide) rfl (t_mo_in hH i 0 ((Xi S 904 130) - 1) ⟨by omega, by omega⟩ ⟨by omega, by omega⟩ ⟨by omega, by omega⟩ _) ?_
  rintro _ _ ⟨rfl, z3, rfl, w3, w2⟩
  show Rl _ _ _ _ _ [iv z3] _ _
  refine l_if_ne rfl rfl (by unfold rg; omega) (fun w4 => ?_) (fun w5 => ?_)
  · refine l_iload_n rfl rfl ?_
    refine l_tsw rfl rfl rfl rfl (by unfold rg; omega) (fun w6 => ?_) (fun ii tt hii w6 => ?_)
    · refine l_iconst rfl ?_
      refine l_ireturn rfl rfl ?_
      exact ⟨rfl, _, rfl, ⟨by omega, by omega⟩, (by omega)⟩
    · match ii, hii with
      | 0, hii =>
        cases hii
        have w7 : w = 0 := by simpa using w6
        refine l_aload_n rfl rfl ?_
        refine l_gfr rfl rfl rfl rfl rfl (hH.r 904 131 978 rfl) ?_
        refine l_iload_n rfl rfl ?_
        refine l_iaload (n := 24) rfl rfl (by omega) (by omega) (by unfold rg; omega) ?_
        have w8 : 0 ≤ (Xi S 978 ((i).toNat)) ∧ (Xi S 978 ((i).toNat)) ≤ 3 := hH.c _ _
        refine l_ireturn rfl rfl ?_
        exact ⟨rfl, _, rfl, ⟨by omega, by omega⟩, (by omega)⟩
      | 1, hii =>
        cases hii
        have w9 : w = 1 := by simpa using w6
        refine l_aload_n rfl rfl ?_
        refine l_gfr rfl rfl rfl rfl rfl (hH.r 904 132 979 rfl) ?_
        refine l_iload_n rfl rfl ?_
        refine l_iaload (n := 24) rfl rfl (by omega) (by omega) (by unfold rg; omega) ?_
        have w10 : -1 ≤ (Xi S 979 ((i).toNat)) ∧ (Xi S 979 ((i).toNat)) ≤ 11 := hH.c _ _
        refine l_ireturn rfl rfl ?_
        exact ⟨rfl, _, rfl, ⟨by omega, by omega⟩, (by omega)⟩
      | 2, hii =>
        cases hii
        have w11 : w = 2 := by simpa using w6
        refine l_aload_n rfl rfl ?_
        refine l_gfr rfl rfl rfl rfl rfl (hH.r 904 133 980 rfl) ?_
        refine l_iload_n rfl rfl ?_
        refine l_iaload (n := 24) rfl rfl (by omega) (by omega) (by unfold rg; omega) ?_
        have w12 : -1 ≤ (Xi S 980 ((i).toNat)) ∧ (Xi S 980 ((i).toNat)) ≤ 23 := hH.c _ _
        refine l_ireturn rfl rfl ?_
        exact ⟨rfl, _, rfl, ⟨by omega, by omega⟩, (by omega)⟩
      | 3, hii =>
        cases hii
        have w13 : w = 3 := by simpa using w6
        refine l_aload_n rfl rfl ?_
        refine l_gfr rfl rfl rfl rfl rfl (hH.r 904 134 981 rfl) ?_
        refine l_iload_n rfl rfl ?_
        refine l_iaload (n := 24) rfl rfl (by omega) (by omega) (by unfold rg; omega) ?_
        have w14 : -1 ≤ (Xi S 981 ((i).toNat)) ∧ (Xi S 981 ((i).toNat)) ≤ 15 := hH.c _ _
        refine l_ireturn rfl rfl ?_
        exact ⟨rfl, _, rfl, ⟨by omega, by omega⟩, (by omega)⟩
      | 4, hii =>
        cases hii
        have w15 : w = 4 := by simpa using w6
        refine l_aload_n rfl rfl ?_
        refine l_gfr rfl rfl rfl rfl rfl (hH.r 904 135 982 rfl) ?_
        refine l_iload_n rfl rfl ?_
        refine l_iaload (n := 24) rfl rfl (by omega) (by omega) (by unfold rg; omega) ?_
        have w16 : 0 ≤ (Xi S 982 ((i).toNat)) ∧ (Xi S 982 ((i).toNat)) ≤ 6 := hH.c _ _
        refine l_ireturn rfl rfl ?_
        exact ⟨rfl, _, rfl, ⟨by omega, by omega⟩, (by omega)⟩
      | 5, hii =>
        cases hii
        have w17 : w = 5 := by simpa using w6
        refine l_aload_n rfl rfl ?_
        refine l_gfr rfl rfl rfl rfl rfl (hH.r 904 138 985 rfl) ?_
        refine l_iload_n rfl rfl ?_
        refine l_iaload (n := 24) rfl rfl (by omega) (by omega) (by unfold rg; omega) ?_
        have w18 : 0 ≤ (Xi S 985 ((i).toNat)) ∧ (Xi S 985 ((i).toNat)) ≤ 6 := hH.c _ _
        refine l_ireturn rfl rfl ?_
        exact ⟨rfl, _, rfl, ⟨by omega, by omega⟩, (by omega)⟩
      | 6, hii =>
        cases hii
        have w19 : w = 6 := by simpa using w6
        refine l_aload_n rfl rfl ?_
        refine l_gfr rfl rfl rfl rfl rfl (hH.r 904 140 987 rfl) ?_
        refine l_iload_n rfl rfl ?_
        refine l_iaload (n := 24) rfl rfl (by omega) (by omega) (by unfold rg; omega) ?_
        have w20 : 0 ≤ (Xi S 987 ((i).toNat)) ∧ (Xi S 987 ((i).toNat)) ≤ 8 := hH.c _ _
        refine l_ireturn rfl rfl ?_
        exact ⟨rfl, _, rfl, ⟨by omega, by omega⟩, (by omega)⟩
      | 7, hii =>
        cases hii
        have w21 : w = 7 := by simpa using w6
        refine l_aload_n rfl rfl ?_
        refine l_iload_n rfl rfl ?_
        refine l_callV rfl rfl rfl (t_mo_orderOf__q hH i ⟨by omega, by omega⟩ (by first | assumption | exact (by assumption : ABV S)) _) ?_
        rintro _ _ ⟨rfl, z24, rfl, w24, w23⟩
        show Rl _ _ _ _ _ [iv z24] _ _
        refine l_ireturn rfl rfl ?_
        exact ⟨rfl, _, rfl, ⟨by omega, by omega⟩, (by omega)⟩
      | n + 8, hii => exact absurd hii (by simp)
  · refine l_iconst rfl ?_
    refine l_ireturn rfl rfl ?_
    exact ⟨rfl, _, rfl, ⟨by omega, by omega⟩, (by omega)⟩
abbrev Q_mo_isSameText__q (S : sS) (a : Int) (n : Int) (b : Int) (m : Int) : pst := fun r S1 => S = S1 ∧ (∃ z : Int, r = some (iv z) ∧ (0 ≤ z ∧ z ≤ 1) ∧ (z = sameR S a n b m))
set_option maxRecDepth 100000 in
theorem t_mo_isSameText__q {S : sS} (hH : HI S) (a : Int) (n : Int) (b : Int) (m : Int) (ha : -2147483648 ≤ a ∧ a ≤ 2147483647) (hn : -2147483648 ≤ n ∧ n ≤ 2147483647) (hb : -2147483648 ≤ b ∧ b ≤ 2147483647) (hm : -2147483648 ≤ m ∧ m ≤ 2147483647) (hA : OKT a n) (hB2 : OKT b m) (d : Nat) : Mt lay0 (d + 1) m_mo_isSameText [.ref 904, iv a, iv n, iv b, iv m] S (Q_mo_isSameText__q S a n b m) := by
  refine Mt_R rfl rfl ?_
  have ha5 : n = 0 ∨ (0 < n ∧ 0 ≤ a ∧ a + n ≤ 5000) := hA
  have hb5 : m = 0 ∨ (0 < m ∧ 0 ≤ b ∧ b + m ≤ 5000) := hB2
  have C16 : ∀ (n16 : Nat) (v5 : Int) (v6 : Int), (0 ≤ v5 ∧ v5 ≤ 1) → (0 ≤ v6 ∧ v6 ≤ 5000) → (v5 ≠ 0 → n = m) → ((v5 = 0 ∧ sameR S a n b m = 0) ∨ (v5 = 1 ∧ sameR S a n b m = smR S 906 a b (n - v6).toNat v6)) → n16 = (5001 - v6).toNat → Rl lay0 (d + 0) m_mo_isSameText 16 [(0, .ref 904), (1, iv a), (2, iv n), (3, iv b), (5, iv v5), (6, iv v6)] [] S (Q_mo_isSameText__q S a n b m) := by
    intro n16
    induction n16 using Nat.strongRecOn with
    | ind n16 ih16 =>
      intro v5 v6 w1 w2 w3 h16 hm16
      refine l_iload rfl rfl ?_
      refine l_iload_n rfl rfl ?_
      refine l_icmp_ge rfl rfl (by unfold rg; omega) (by unfold rg; omega) (fun w4 => ?_) (fun w5 => ?_)
      · refine l_iload rfl rfl ?_
        refine l_ireturn rfl (retI_z (by omega)) ?_
        exact ⟨rfl, _, rfl, ⟨by omega, by omega⟩, (by have t := h16; rcases t with ⟨t1, t2⟩ | ⟨t1, t2⟩; (rw [t1, t2]); (rw [t1, t2]; first | exact (smR_e (by omega)).symm | (exfalso; omega)))⟩
      · refine l_iload rfl rfl ?_
        refine l_if_eq rfl rfl (by unfold rg; omega) (fun w6 => ?_) (fun w7 => ?_)
        · refine l_iload rfl rfl ?_
          refine l_ireturn rfl (retI_z (by omega)) ?_
          exact ⟨rfl, _, rfl, ⟨by omega, by omega⟩, (by have t := h16; rcases t with ⟨t1, t2⟩ | ⟨t1, t2⟩; (rw [t1, t2]); (rw [t1, t2]; first | exact (smR_e (by omega)).symm | (exfalso; omega)))⟩
        · refine l_aload_n rfl rfl ?_
          refine l_gfr rfl rfl rfl rfl rfl (hH.r 904 2 906 rfl) ?_
          refine l_iload_n rfl rfl ?_
          refine l_iload rfl rfl ?_
          refine l_iadd rfl ?_
          refine l_baload (n := 5000) rfl rfl rfl (by decide) (by omega) (by omega) (by unfold rg; omega) ?_
          have w8 : -128 ≤ (Xi S 906 (((a + v6)).toNat)) ∧ (Xi S 906 (((a + v6)).toNat)) ≤ 127 := hH.c _ _
          refine l_aload_n rfl rfl ?_
          refine l_gfr rfl rfl rfl rfl rfl (hH.r 904 2 906 rfl) ?_
          refine l_iload_n rfl rfl ?_
          refine l_iload rfl rfl ?_
          refine l_iadd rfl ?_
          refine l_baload (n := 5000) rfl rfl rfl (by decide) (by omega) (by omega) (by unfold rg; omega) ?_
          have w9 : -128 ≤ (Xi S 906 (((b + v6)).toNat)) ∧ (Xi S 906 (((b + v6)).toNat)) ≤ 127 := hH.c _ _
          refine l_icmp_ne rfl rfl (by unfold rg; omega) (by unfold rg; omega) (fun w10 => ?_) (fun w11 => ?_)
          · refine l_iconst rfl ?_
            refine l_istore rfl rfl rfl ?_
            refine l_iinc rfl rfl rfl rfl ?_
            have G55 : ((0 : Int) = 0 ∧ sameR S a n b m = 0) ∨ ((0 : Int) = 1 ∧ sameR S a n b m = smR S 906 a b (n - (v6 + 1)).toNat (v6 + 1)) := by have t := h16; rcases t with ⟨t1, t2⟩ | ⟨t1, t2⟩; (exfalso; omega); first | exact Or.inr ⟨rfl, t2.trans (smR_s (by omega) (by omega))⟩ | exact Or.inl ⟨rfl, t2.trans (smR_f (by omega) (by omega))⟩
            refine l_goto rfl rfl ?_
            exact Rl_weak (ih16 _ (by omega) (0) ((v6 + 1)) (by omega) (by omega) (by omega) (by first | exact G55 | (unfold sameR; first | (rw [if_pos (by omega), Int.sub_zero]; exact Or.inr ⟨rfl, rfl⟩) | (rw [if_neg (by omega)]; exact Or.inl ⟨rfl, rfl⟩))) rfl) (And.intro rfl (And.intro rfl (And.intro rfl (And.intro rfl (And.intro rfl (And.intro rfl (True.intro)))))))
          · refine l_iconst rfl ?_
            refine l_goto rfl rfl ?_
            refine l_istore rfl rfl rfl ?_
            refine l_iinc rfl rfl rfl rfl ?_
            have G55 : ((1 : Int) = 0 ∧ sameR S a n b m = 0) ∨ ((1 : Int) = 1 ∧ sameR S a n b m = smR S 906 a b (n - (v6 + 1)).toNat (v6 + 1)) := by have t := h16; rcases t with ⟨t1, t2⟩ | ⟨t1, t2⟩; (exfalso; omega); first | exact Or.inr ⟨rfl, t2.trans (smR_s (by omega) (by omega))⟩ | exact Or.inl ⟨rfl, t2.trans (smR_f (by omega) (by omega))⟩
            refine l_goto rfl rfl ?_
            exact Rl_weak (ih16 _ (by omega) (1) ((v6 + 1)) (by omega) (by omega) (by omega) (by first | exact G55 | (unfold sameR; first | (rw [if_pos (by omega), Int.sub_zero]; exact Or.inr ⟨rfl, rfl⟩) | (rw [if_neg (by omega)]; exact Or.inl ⟨rfl, rfl⟩))) rfl) (And.intro rfl (And.intro rfl (And.intro rfl (And.intro rfl (And.intro rfl (And.intro rfl (True.intro)))))))
  refine l_iload_n rfl rfl ?_
  refine l_iload rfl rfl ?_
  refine l_icmp_ne rfl rfl (by unfold rg; omega) (by unfold rg; omega) (fun w12 => ?_) (fun w13 => ?_)
  · refine l_iconst rfl ?_
    refine l_istore rfl rfl rfl ?_
    refine l_iconst rfl ?_
    refine l_istore rfl rfl rfl ?_
    exact Rl_weak (C16 _ (0) (0) (by omega) (by omega) (by omega) (by first | exact G55 | (unfold sameR; first | (rw [if_pos (by omega), Int.sub_zero]; exact Or.inr ⟨rfl, rfl⟩) | (rw [if_neg (by omega)]; exact Or.inl ⟨rfl, rfl⟩))) rfl) (And.intro rfl (And.intro rfl (And.intro rfl (And.intro rfl (And.intro rfl (And.intro rfl (True.intro)))))))
  · refine l_iconst rfl ?_
    refine l_goto rfl rfl ?_
    refine l_istore rfl rfl rfl ?_
    refine l_iconst rfl ?_
    refine l_istore rfl rfl rfl ?_
    exact Rl_weak (C16 _ (1) (0) (by omega) (by omega) (by omega) (by first | exact G55 | (unfold sameR; first | (rw [if_pos (by omega), Int.sub_zero]; exact Or.inr ⟨rfl, rfl⟩) | (rw [if_neg (by omega)]; exact Or.inl ⟨rfl, rfl⟩))) rfl) (And.intro rfl (And.intro rfl (And.intro rfl (And.intro rfl (And.intro rfl (And.intro rfl (True.intro)))))))
def md_mo_tested__q : List rec := [(904, 905, 154, 155)]
abbrev Q_mo_tested__q (S : sS) (q : Int) (it : Int) (noun : Int) (depth : Int) : pst := fun r S1 => HI S1 ∧ FR md_mo_tested__q S S1 ∧ (∃ z : Int, r = some (iv z) ∧ (0 ≤ z ∧ z ≤ 1) ∧ (z = teR (hoR S (8 - depth).toNat) S q.toNat it noun))
def md_mo_holds__q : List rec := [(904, 905, 154, 155)]
abbrev Q_mo_holds__q (S : sS) (o : Int) (a : Int) (dp : Int) : pst := fun r S1 => HI S1 ∧ FR md_mo_holds__q S S1 ∧ (∃ z : Int, r = some (iv z) ∧ (0 ≤ z ∧ z ≤ 1) ∧ (z = hoR S (8 - dp).toNat o a))
set_option maxRecDepth 100000 in
theorem u_mo_holds__q {S : sS} (hH : HI S) (o : Int) (a : Int) (dp : Int) (ho : 0 ≤ o ∧ o ≤ 23) (ha : 0 ≤ a ∧ a ≤ 6411) (hdp : 0 ≤ dp ∧ dp ≤ 8) (haa : ADM S a) (hB : ABV S) (hX : TXM S) (hD : DEFM S) (hoo : o < Xi S 904 19) (d : Nat) (hrec : ∀ {S : sS} (_ : HI S) (q : Int) (it : Int) (noun : Int) (depth : Int) (hq : 0 ≤ q ∧ q ≤ 2399) (hit : -1 ≤ it ∧ it ≤ 23) (hnoun : -1 ≤ noun ∧ noun ≤ 23) (hdepth : 0 ≤ depth ∧ depth ≤ 8) (hk : TQ S (0 ≤ it) (0 ≤ noun) q.toNat) (hB : ABV S) (hX : TXM S) (hD : DEFM S) (h1 : it < Xi S 904 19) (h2 : noun < Xi S 904 19), (dp < 8 ∧ depth = dp + 1) → Mt lay0 (d + 8) m_mo_tested [.ref 904, iv q, iv it, iv noun, iv depth] S (Q_mo_tested__q S q it noun depth)) : Mt lay0 (d + 9) m_mo_holds [.ref 904, iv o, iv a, iv dp] S (Q_mo_holds__q S o a dp) := by
  refine Mt_R rfl rfl ?_
  have hF : FR md_mo_holds__q S S := FR.rf
  have w1 : 0 ≤ Xi S 904 19 ∧ Xi S 904 19 ≤ 24 := hH.c _ _
  have hc3 : 0 ≤ Xi S 904 23 ∧ Xi S 904 23 ≤ 24 := hH.c _ _
  have hc19 : 0 ≤ Xi S 904 19 ∧ Xi S 904 19 ≤ 24 := hH.c _ _
  have hc32 : 0 ≤ Xi S 904 32 ∧ Xi S 904 32 ≤ 12 := hH.c _ _
  have ha2 : (0 ≤ a ∧ a < Xi S 904 23) ∨ (100 ≤ a ∧ a % 100 < Xi S 904 32 ∧ a ≤ 6411) := haa
  have hdb : a < 100 → 0 < Xi S 924 a.toNat → Xi S 923 a.toNat + Xi S 924 a.toNat ≤ 2400 := fun h1 h2 => (hD a.toNat (by omega) h2).1
  have hf0 : 0 ≤ Xi S 923 a.toNat ∧ Xi S 923 a.toNat ≤ 480 := hH.c 923 a.toNat
  have C74 : ∀ (n74 : Nat) (T1 : sS) (_ : HI T1) (_ : FR md_mo_holds__q S T1) (v4 : Int) (v5 : Int), (0 ≤ v4 ∧ v4 ≤ 1) → (0 ≤ v5 ∧ v5 ≤ 6) → (a < 100) → (0 < Xi S 924 a.toNat) → (v4 = 1 → dp < 8) → ((v4 = 0 → hoR S (8 - dp).toNat o a = 0) ∧ (v4 ≠ 0 → hoR S (8 - dp).toNat o a = alT (fun i => teR (hoR S (8 - (dp + 1)).toNat) S ((Xi S 923 a.toNat).toNat + i) o (-1)) (Xi S 924 a.toNat - v5).toNat v5.toNat)) → n74 = (7 - v5).toNat → Rl lay0 (d + 8) m_mo_holds 74 [(0, .ref 904), (1, iv o), (2, iv a), (3, iv dp), (4, iv v4), (5, iv v5)] [] T1 (Q_mo_holds__q S o a dp) := by
    intro n74
    induction n74 using Nat.strongRecOn with
    | ind n74 ih74 =>
      intro T1 hHT1 hFT1 v4 v5 w2 w3 w4 w5 w6 f74 hm74
      have w7 : Xi T1 904 19 = Xi S 904 19 := hFT1.x _ _ rfl
      refine l_iload rfl rfl ?_
      refine l_aload_n rfl rfl ?_
      refine l_gfr rfl rfl rfl rfl rfl (hHT1.r 904 27 924 rfl) ?_
      refine l_iload_n rfl rfl ?_
      refine l_iaload (n := 24) rfl rfl (by omega) (by omega) (by unfold rg; omega) ?_
      have w8 : 0 ≤ (Xi T1 924 ((a).toNat)) ∧ (Xi T1 924 ((a).toNat)) ≤ 6 := hHT1.c _ _
      have e81 : (Xi T1 924 ((a).toNat)) = Xi S 924 a.toNat := (hFT1.cx 924 rfl _).1
      refine l_icmp_ge rfl rfl (by unfold rg; omega) (by unfold rg; omega) (fun w9 => ?_) (fun w10 => ?_)
      · refine l_iload rfl rfl ?_
        refine l_ireturn rfl (retI_z (by omega)) ?_
        exact ⟨hHT1, hFT1, _, rfl, ⟨by omega, by omega⟩, (by first | exact hoR_1 (by omega) q12 (by omega) | (have t := f74; exact ho_end f74 (by omega) (by omega)) | (rw [hoR_2 (by omega) (by omega)]; first | exact td_2 (by omega) (c162.trans (chR_e (by omega) (by omega))) (by omega) _ (by omega) | exact td_3 (by omega) (c162.trans (chR_n (by omega))) _ (by omega) | exact td_1 (by omega) _ (by omega)))⟩
      · refine l_iload rfl rfl ?_
        refine l_if_eq rfl rfl (by unfold rg; omega) (fun w11 => ?_) (fun w12 => ?_)
        · refine l_iload rfl rfl ?_
          refine l_ireturn rfl (retI_z (by omega)) ?_
          exact ⟨hHT1, hFT1, _, rfl, ⟨by omega, by omega⟩, (by first | exact hoR_1 (by omega) q12 (by omega) | (have t := f74; exact ho_end f74 (by omega) (by omega)) | (rw [hoR_2 (by omega) (by omega)]; first | exact td_2 (by omega) (c162.trans (chR_e (by omega) (by omega))) (by omega) _ (by omega) | exact td_3 (by omega) (c162.trans (chR_n (by omega))) _ (by omega) | exact td_1 (by omega) _ (by omega)))⟩
        · refine l_aload_n rfl rfl ?_
          refine l_aload_n rfl rfl ?_
          refine l_gfr rfl rfl rfl rfl rfl (hHT1.r 904 26 923 rfl) ?_
          refine l_iload_n rfl rfl ?_
          refine l_iaload (n := 24) rfl rfl (by omega) (by omega) (by unfold rg; omega) ?_
          have w13 : 0 ≤ (Xi T1 923 ((a).toNat)) ∧ (Xi T1 923 ((a).toNat)) ≤ 480 := hHT1.c _ _
          have e96 : (Xi T1 923 ((a).toNat)) = Xi S 923 a.toNat := (hFT1.cx 923 rfl _).1
          refine l_iload rfl rfl ?_
          refine l_iadd rfl ?_
          refine l_iload_n rfl rfl ?_
          refine l_iconst rfl ?_
          refine l_iload_n rfl rfl ?_
          refine l_iconst rfl ?_
          refine l_iadd rfl ?_
          have w14 : 0 ≤ Xi T1 904 19 ∧ Xi T1 904 19 ≤ 24 := hHT1.c _ _
          refine l_callV rfl rfl rfl (hrec hHT1 ((Xi T1 923 ((a).toNat)) + v5) o (-1) (dp + 1) ⟨by omega, by omega⟩ ⟨by omega, by omega⟩ ⟨by omega, by omega⟩ ⟨by omega, by omega⟩ (TQ_FR hFT1 rfl (tq_at hD (a := a) (i := v5) (by omega) (by omega) (by omega) (by omega) (by omega) (by omega) (by omega) (by omega))) (by first | assumption | exact (ABV_FR hFT1 rfl (by assumption : ABV S))) (by first | assumption | exact (TXM_FR hFT1 rfl (by assumption : TXM S))) (by first | assumption | exact (DEFM_FR hFT1 rfl (by assumption : DEFM S))) (by first | assumption | omega) (by first | assumption | omega) (by omega)) ?_
          rintro _ T2 ⟨hHT2, w16, z15, rfl, w15, q105⟩
          have hFT2 : FR md_mo_holds__q S T2 := FR.tr hFT1 w16 rfl
          show Rl _ _ _ _ _ [iv z15] _ _
          have Q105 : z15 = teR (hoR S (8 - (dp + 1)).toNat) S ((Xi S 923 a.toNat).toNat + v5.toNat) o (-1) := by rw [q105, teR_x (XE.f hFT1 rfl) (hoR_x (XE.f hFT1 rfl) _), e96, show (Xi S 923 a.toNat + v5).toNat = (Xi S 923 a.toNat).toNat + v5.toNat by omega]
          refine l_istore rfl rfl rfl ?_
          refine l_iinc rfl rfl rfl rfl ?_
          refine l_goto rfl rfl ?_
          exact Rl_weak (ih74 _ (by omega) T2 hHT2 hFT2 (z15) ((v5 + 1)) (by omega) (by omega) (by omega) (by omega) (by omega) (by first | (have t := Q105; exact ⟨fun q => (f74.2 (by omega)).trans (alT_0 (by omega) (by show teR _ S _ o (-1) = 0; rw [← Q105]; exact q)), fun q => (f74.2 (by omega)).trans (alT_s (by omega) (by show teR _ S _ o (-1) ≠ 0; rw [← Q105]; exact q))⟩) | exact ⟨fun q => absurd q (by omega), fun _ => by rw [show (8 - dp).toNat = (8 - (dp + 1)).toNat + 1 by omega]; exact hoR_4 (by omega) (by omega) (by rw [← f58]; omega)⟩ | exact ⟨fun _ => hoR_3 (by omega) (by omega) (by rw [← f58]; omega), fun q => absurd rfl q⟩ | exact ⟨fun _ => by rw [show (8 - dp).toNat = 0 by omega]; exact hoR_0 (by omega) (by omega), fun q => absurd rfl q⟩) rfl) (And.intro rfl (And.intro rfl (And.intro rfl (And.intro rfl (And.intro rfl (And.intro rfl (True.intro)))))))
  have C162 : ∀ (n162 : Nat) (v4 : Int), (-1 ≤ v4 ∧ v4 ≤ 15) → (a < 100) → (Xi S 924 a.toNat ≤ 0) → (Xi S 925 (24 * o + a).toNat = 0) → (chR S 926 24 a (Xi S 918 o.toNat) = chR S 926 24 a v4) → n162 = (v4 + 1).toNat → Rl lay0 (d + 8) m_mo_holds 162 [(0, .ref 904), (2, iv a), (4, iv v4)] [] S (Q_mo_holds__q S o a dp) := by
    intro n162
    induction n162 using Nat.strongRecOn with
    | ind n162 ih162 =>
      intro v4 w17 w18 w19 w20 c162 hm162
      refine l_iload rfl rfl ?_
      refine l_if_lt rfl rfl (by unfold rg; omega) (fun w21 => ?_) (fun w22 => ?_)
      · refine l_aload_n rfl rfl ?_
        refine l_gfr rfl rfl rfl rfl rfl (hH.r 904 25 922 rfl) ?_
        refine l_iload_n rfl rfl ?_
        refine l_iaload (n := 24) rfl rfl (by omega) (by omega) (by unfold rg; omega) ?_
        have w23 : -1 ≤ (Xi S 922 ((a).toNat)) ∧ (Xi S 922 ((a).toNat)) ≤ 23 := hH.c _ _
        refine l_iconst rfl ?_
        refine l_icmp_eq rfl rfl (by unfold rg; omega) (by unfold rg; omega) (fun w24 => ?_) (fun w25 => ?_)
        · refine l_iconst rfl ?_
          refine l_ireturn rfl rfl ?_
          exact ⟨hH, hF, _, rfl, ⟨by omega, by omega⟩, (by first | exact hoR_1 (by omega) q12 (by omega) | (have t := f74; exact ho_end f74 (by omega) (by omega)) | (rw [hoR_2 (by omega) (by omega)]; first | exact td_2 (by omega) (c162.trans (chR_e (by omega) (by omega))) (by omega) _ (by omega) | exact td_3 (by omega) (c162.trans (chR_n (by omega))) _ (by omega) | exact td_1 (by omega) _ (by omega)))⟩
        · refine l_aload_n rfl rfl ?_
          refine l_gfr rfl rfl rfl rfl rfl (hH.r 904 25 922 rfl) ?_
          refine l_iload_n rfl rfl ?_
          refine l_iaload (n := 24) rfl rfl (by omega) (by omega) (by unfold rg; omega) ?_
          refine l_iload_n rfl rfl ?_
          refine l_icmp_ge rfl rfl (by unfold rg; omega) (by unfold rg; omega) (fun w26 => ?_) (fun w27 => ?_)
          · refine l_iconst rfl ?_
            refine l_ireturn rfl rfl ?_
            exact ⟨hH, hF, _, rfl, ⟨by omega, by omega⟩, (by first | exact hoR_1 (by omega) q12 (by omega) | (have t := f74; exact ho_end f74 (by omega) (by omega)) | (rw [hoR_2 (by omega) (by omega)]; first | exact td_2 (by omega) (c162.trans (chR_e (by omega) (by omega))) (by omega) _ (by omega) | exact td_3 (by omega) (c162.trans (chR_n (by omega))) _ (by omega) | exact td_1 (by omega) _ (by omega)))⟩
          · refine l_iconst rfl ?_
            refine l_goto rfl rfl ?_
            refine l_ireturn rfl rfl ?_
            exact ⟨hH, hF, _, rfl, ⟨by omega, by omega⟩, (by first | exact hoR_1 (by omega) q12 (by omega) | (have t := f74; exact ho_end f74 (by omega) (by omega)) | (rw [hoR_2 (by omega) (by omega)]; first | exact td_2 (by omega) (c162.trans (chR_e (by omega) (by omega))) (by omega) _ (by omega) | exact td_3 (by omega) (c162.trans (chR_n (by omega))) _ (by omega) | exact td_1 (by omega) _ (by omega)))⟩
      · refine l_aload_n rfl rfl ?_
        refine l_gfr rfl rfl rfl rfl rfl (hH.r 904 29 926 rfl) ?_
        refine l_bipush rfl rfl ?_
        refine l_iload rfl rfl ?_
        refine l_imul rfl ?_
        refine l_iload_n rfl rfl ?_
        refine l_iadd rfl ?_
        refine l_iaload (n := 384) rfl rfl (by omega) (by omega) (by unfold rg; omega) ?_
        have w28 : 0 ≤ (Xi S 926 ((((24 * v4) + a)).toNat)) ∧ (Xi S 926 ((((24 * v4) + a)).toNat)) ≤ 2 := hH.c _ _
        refine l_if_eq rfl rfl (by unfold rg; omega) (fun w29 => ?_) (fun w30 => ?_)
        · refine l_aload_n rfl rfl ?_
          refine l_gfr rfl rfl rfl rfl rfl (hH.r 904 17 917 rfl) ?_
          refine l_iload rfl rfl ?_
          refine l_iaload (n := 16) rfl rfl (by omega) (by omega) (by unfold rg; omega) ?_
          have w31 : -1 ≤ (Xi S 917 ((v4).toNat)) ∧ (Xi S 917 ((v4).toNat)) ≤ 15 := hH.c _ _
          have b210 : (Xi S 917 ((v4).toNat)) < v4 := by have t := hB (v4).toNat (by omega); omega
          refine l_istore rfl rfl rfl ?_
          refine l_goto rfl rfl ?_
          exact Rl_weak (ih162 _ (by omega) ((Xi S 917 ((v4).toNat))) (by omega) (by omega) (by omega) (by omega) (by first | (have t := b210; exact c162.trans (chR_s hB (by omega) (by omega) (by omega))) | rfl) rfl) (And.intro rfl (And.intro rfl (And.intro rfl (True.intro))))
        · refine l_aload_n rfl rfl ?_
          refine l_gfr rfl rfl rfl rfl rfl (hH.r 904 29 926 rfl) ?_
          refine l_bipush rfl rfl ?_
          refine l_iload rfl rfl ?_
          refine l_imul rfl ?_
          refine l_iload_n rfl rfl ?_
          refine l_iadd rfl ?_
          refine l_iaload (n := 384) rfl rfl (by omega) (by omega) (by unfold rg; omega) ?_
          refine l_iconst rfl ?_
          refine l_icmp_ne rfl rfl (by unfold rg; omega) (by unfold rg; omega) (fun w32 => ?_) (fun w33 => ?_)
          · refine l_iconst rfl ?_
            refine l_ireturn rfl rfl ?_
            exact ⟨hH, hF, _, rfl, ⟨by omega, by omega⟩, (by first | exact hoR_1 (by omega) q12 (by omega) | (have t := f74; exact ho_end f74 (by omega) (by omega)) | (rw [hoR_2 (by omega) (by omega)]; first | exact td_2 (by omega) (c162.trans (chR_e (by omega) (by omega))) (by omega) _ (by omega) | exact td_3 (by omega) (c162.trans (chR_n (by omega))) _ (by omega) | exact td_1 (by omega) _ (by omega)))⟩
          · refine l_iconst rfl ?_
            refine l_goto rfl rfl ?_
            refine l_ireturn rfl rfl ?_
            exact ⟨hH, hF, _, rfl, ⟨by omega, by omega⟩, (by first | exact hoR_1 (by omega) q12 (by omega) | (have t := f74; exact ho_end f74 (by omega) (by omega)) | (rw [hoR_2 (by omega) (by omega)]; first | exact td_2 (by omega) (c162.trans (chR_e (by omega) (by omega))) (by omega) _ (by omega) | exact td_3 (by omega) (c162.trans (chR_n (by omega))) _ (by omega) | exact td_1 (by omega) _ (by omega)))⟩
  refine l_iload_n rfl rfl ?_
  refine l_bipush rfl rfl ?_
  refine l_icmp_lt rfl rfl (by unfold rg; omega) (by unfold rg; omega) (fun w34 => ?_) (fun w35 => ?_)
  · refine l_aload_n rfl rfl ?_
    refine l_gfr rfl rfl rfl rfl rfl (hH.r 904 27 924 rfl) ?_
    refine l_iload_n rfl rfl ?_
    refine l_iaload (n := 24) rfl rfl (by omega) (by omega) (by unfold rg; omega) ?_
    have w36 : 0 ≤ (Xi S 924 ((a).toNat)) ∧ (Xi S 924 ((a).toNat)) ≤ 6 := hH.c _ _
    refine l_if_le rfl rfl (by unfold rg; omega) (fun w37 => ?_) (fun w38 => ?_)
    · refine l_aload_n rfl rfl ?_
      refine l_gfr rfl rfl rfl rfl rfl (hH.r 904 28 925 rfl) ?_
      refine l_bipush rfl rfl ?_
      refine l_iload_n rfl rfl ?_
      refine l_imul rfl ?_
      refine l_iload_n rfl rfl ?_
      refine l_iadd rfl ?_
      refine l_iaload (n := 576) rfl rfl (by omega) (by omega) (by unfold rg; omega) ?_
      have w39 : 0 ≤ (Xi S 925 ((((24 * o) + a)).toNat)) ∧ (Xi S 925 ((((24 * o) + a)).toNat)) ≤ 2 := hH.c _ _
      refine l_if_eq rfl rfl (by unfold rg; omega) (fun w40 => ?_) (fun w41 => ?_)
      · refine l_aload_n rfl rfl ?_
        refine l_gfr rfl rfl rfl rfl rfl (hH.r 904 20 918 rfl) ?_
        refine l_iload_n rfl rfl ?_
        refine l_iaload (n := 24) rfl rfl (by omega) (by omega) (by unfold rg; omega) ?_
        have w42 : 0 ≤ (Xi S 918 ((o).toNat)) ∧ (Xi S 918 ((o).toNat)) ≤ 15 := hH.c _ _
        refine l_istore rfl rfl rfl ?_
        exact Rl_weak (C162 _ ((Xi S 918 ((o).toNat))) (by omega) (by omega) (by omega) (by omega) (by first | (have t := b210; exact c162.trans (chR_s hB (by omega) (by omega) (by omega))) | rfl) rfl) (And.intro rfl (And.intro rfl (And.intro rfl (True.intro))))
      · refine l_aload_n rfl rfl ?_
        refine l_gfr rfl rfl rfl rfl rfl (hH.r 904 28 925 rfl) ?_
        refine l_bipush rfl rfl ?_
        refine l_iload_n rfl rfl ?_
        refine l_imul rfl ?_
        refine l_iload_n rfl rfl ?_
        refine l_iadd rfl ?_
        refine l_iaload (n := 576) rfl rfl (by omega) (by omega) (by unfold rg; omega) ?_
        refine l_iconst rfl ?_
        refine l_icmp_ne rfl rfl (by unfold rg; omega) (by unfold rg; omega) (fun w43 => ?_) (fun w44 => ?_)
        · refine l_iconst rfl ?_
          refine l_ireturn rfl rfl ?_
          exact ⟨hH, hF, _, rfl, ⟨by omega, by omega⟩, (by first | exact hoR_1 (by omega) q12 (by omega) | (have t := f74; exact ho_end f74 (by omega) (by omega)) | (rw [hoR_2 (by omega) (by omega)]; first | exact td_2 (by omega) (c162.trans (chR_e (by omega) (by omega))) (by omega) _ (by omega) | exact td_3 (by omega) (c162.trans (chR_n (by omega))) _ (by omega) | exact td_1 (by omega) _ (by omega)))⟩
        · refine l_iconst rfl ?_
          refine l_goto rfl rfl ?_
          refine l_ireturn rfl rfl ?_
          exact ⟨hH, hF, _, rfl, ⟨by omega, by omega⟩, (by first | exact hoR_1 (by omega) q12 (by omega) | (have t := f74; exact ho_end f74 (by omega) (by omega)) | (rw [hoR_2 (by omega) (by omega)]; first | exact td_2 (by omega) (c162.trans (chR_e (by omega) (by omega))) (by omega) _ (by omega) | exact td_3 (by omega) (c162.trans (chR_n (by omega))) _ (by omega) | exact td_1 (by omega) _ (by omega)))⟩
    · refine l_iload_n rfl rfl ?_
      refine l_bipush rfl rfl ?_
      refine l_icmp_ge rfl rfl (by unfold rg; omega) (by unfold rg; omega) (fun w45 => ?_) (fun w46 => ?_)
      · refine l_iconst rfl ?_
        refine l_istore rfl rfl rfl ?_
        refine l_iconst rfl ?_
        refine l_istore rfl rfl rfl ?_
        exact Rl_weak (C74 _ S hH hF (0) (0) (by omega) (by omega) (by omega) (by omega) (by omega) (by first | (have t := Q105; exact ⟨fun q => (f74.2 (by omega)).trans (alT_0 (by omega) (by show teR _ S _ o (-1) = 0; rw [← Q105]; exact q)), fun q => (f74.2 (by omega)).trans (alT_s (by omega) (by show teR _ S _ o (-1) ≠ 0; rw [← Q105]; exact q))⟩) | exact ⟨fun q => absurd q (by omega), fun _ => by rw [show (8 - dp).toNat = (8 - (dp + 1)).toNat + 1 by omega]; exact hoR_4 (by omega) (by omega) (by rw [← f58]; omega)⟩ | exact ⟨fun _ => hoR_3 (by omega) (by omega) (by rw [← f58]; omega), fun q => absurd rfl q⟩ | exact ⟨fun _ => by rw [show (8 - dp).toNat = 0 by omega]; exact hoR_0 (by omega) (by omega), fun q => absurd rfl q⟩) rfl) (And.intro rfl (And.intro rfl (And.intro rfl (And.intro rfl (And.intro rfl (And.intro rfl (True.intro)))))))
      · refine l_aload_n rfl rfl ?_
        refine l_aload_n rfl rfl ?_
        refine l_gfr rfl rfl rfl rfl rfl (hH.r 904 20 918 rfl) ?_
        refine l_iload_n rfl rfl ?_
        refine l_iaload (n := 24) rfl rfl (by omega) (by omega) (by unfold rg; omega) ?_
        have w47 : 0 ≤ (Xi S 918 ((o).toNat)) ∧ (Xi S 918 ((o).toNat)) ≤ 15 := hH.c _ _
        refine l_aload_n rfl rfl ?_
        refine l_gfr rfl rfl rfl rfl rfl (hH.r 904 24 921 rfl) ?_
        refine l_iload_n rfl rfl ?_
        refine l_iaload (n := 24) rfl rfl (by omega) (by omega) (by unfold rg; omega) ?_
        have w48 : 0 ≤ (Xi S 921 ((a).toNat)) ∧ (Xi S 921 ((a).toNat)) ≤ 15 := hH.c _ _
        refine l_callV rfl rfl rfl (t_mo_isBelow__2 hH (Xi S 918 ((o).toNat)) (Xi S 921 ((a).toNat)) ⟨by omega, by omega⟩ ⟨by omega, by omega⟩ (by first | assumption | exact (ABV_FR hF rfl (by assumption : ABV S))) _) ?_
        rintro _ _ ⟨rfl, z50, rfl, w50, w49, f58⟩
        show Rl _ _ _ _ _ [iv z50] _ _
        refine l_if_eq rfl rfl (by unfold rg; omega) (fun w51 => ?_) (fun w52 => ?_)
        · refine l_iconst rfl ?_
          refine l_istore rfl rfl rfl ?_
          refine l_iconst rfl ?_
          refine l_istore rfl rfl rfl ?_
          exact Rl_weak (C74 _ S hH hF (0) (0) (by omega) (by omega) (by omega) (by omega) (by omega) (by first | (have t := Q105; exact ⟨fun q => (f74.2 (by omega)).trans (alT_0 (by omega) (by show teR _ S _ o (-1) = 0; rw [← Q105]; exact q)), fun q => (f74.2 (by omega)).trans (alT_s (by omega) (by show teR _ S _ o (-1) ≠ 0; rw [← Q105]; exact q))⟩) | exact ⟨fun q => absurd q (by omega), fun _ => by rw [show (8 - dp).toNat = (8 - (dp + 1)).toNat + 1 by omega]; exact hoR_4 (by omega) (by omega) (by rw [← f58]; omega)⟩ | exact ⟨fun _ => hoR_3 (by omega) (by omega) (by rw [← f58]; omega), fun q => absurd rfl q⟩ | exact ⟨fun _ => by rw [show (8 - dp).toNat = 0 by omega]; exact hoR_0 (by omega) (by omega), fun q => absurd rfl q⟩) rfl) (And.intro rfl (And.intro rfl (And.intro rfl (And.intro rfl (And.intro rfl (And.intro rfl (True.intro)))))))
        · refine l_iconst rfl ?_
          refine l_goto rfl rfl ?_
          refine l_istore rfl rfl rfl ?_
          refine l_iconst rfl ?_
          refine l_istore rfl rfl rfl ?_
          exact Rl_weak (C74 _ S hH hF (1) (0) (by omega) (by omega) (by omega) (by omega) (by omega) (by first | (have t := Q105; exact ⟨fun q => (f74.2 (by omega)).trans (alT_0 (by omega) (by show teR _ S _ o (-1) = 0; rw [← Q105]; exact q)), fun q => (f74.2 (by omega)).trans (alT_s (by omega) (by show teR _ S _ o (-1) ≠ 0; rw [← Q105]; exact q))⟩) | exact ⟨fun q => absurd q (by omega), fun _ => by rw [show (8 - dp).toNat = (8 - (dp + 1)).toNat + 1 by omega]; exact hoR_4 (by omega) (by omega) (by rw [← f58]; omega)⟩ | exact ⟨fun _ => hoR_3 (by omega) (by omega) (by rw [← f58]; omega), fun q => absurd rfl q⟩ | exact ⟨fun _ => by rw [show (8 - dp).toNat = 0 by omega]; exact hoR_0 (by omega) (by omega), fun q => absurd rfl q⟩) rfl) (And.intro rfl (And.intro rfl (And.intro rfl (And.intro rfl (And.intro rfl (And.intro rfl (True.intro)))))))
  · refine l_aload_n rfl rfl ?_
    refine l_iload_n rfl rfl ?_
    refine l_iload_n rfl rfl ?_
    refine l_bipush rfl rfl ?_
    refine l_iremP rfl (by omega) (by omega) (by unfold rg; omega) (by unfold rg; omega) ?_
    refine l_callV rfl rfl rfl (t_mo_numberOf__q hH o (a % 100) ⟨by omega, by omega⟩ ⟨by omega, by omega⟩ (by first | assumption | exact (ABV_FR hF rfl (by assumption : ABV S))) (by first | assumption | exact (TXM_FR hF rfl (by assumption : TXM S))) (by first | assumption | omega) _) ?_
    rintro _ T3 ⟨hHT3, w58, z57, rfl, w57, w55, q12, w56⟩
    have hFT3 : FR md_mo_holds__q S T3 := FR.tr hF w58 rfl
    show Rl _ _ _ _ _ [iv z57] _ _
    refine l_iload_n rfl rfl ?_
    refine l_bipush rfl rfl ?_
    refine l_idivP rfl (by omega) (by omega) (by unfold rg; omega) (by unfold rg; omega) ?_
    refine l_iconst rfl ?_
    refine l_isub rfl ?_
    refine l_icmp_ne rfl rfl (by unfold rg; omega) (by unfold rg; omega) (fun w60 => ?_) (fun w61 => ?_)
    · refine l_iconst rfl ?_
      refine l_ireturn rfl rfl ?_
      exact ⟨hHT3, hFT3, _, rfl, ⟨by omega, by omega⟩, (by first | exact hoR_1 (by omega) q12 (by omega) | (have t := f74; exact ho_end f74 (by omega) (by omega)) | (rw [hoR_2 (by omega) (by omega)]; first | exact td_2 (by omega) (c162.trans (chR_e (by omega) (by omega))) (by omega) _ (by omega) | exact td_3 (by omega) (c162.trans (chR_n (by omega))) _ (by omega) | exact td_1 (by omega) _ (by omega)))⟩
    · refine l_iconst rfl ?_
      refine l_goto rfl rfl ?_
      refine l_ireturn rfl rfl ?_
      exact ⟨hHT3, hFT3, _, rfl, ⟨by omega, by omega⟩, (by first | exact hoR_1 (by omega) q12 (by omega) | (have t := f74; exact ho_end f74 (by omega) (by omega)) | (rw [hoR_2 (by omega) (by omega)]; first | exact td_2 (by omega) (c162.trans (chR_e (by omega) (by omega))) (by omega) _ (by omega) | exact td_3 (by omega) (c162.trans (chR_n (by omega))) _ (by omega) | exact td_1 (by omega) _ (by omega)))⟩
set_option maxRecDepth 100000 in
theorem u_mo_tested__q {S : sS} (hH : HI S) (q : Int) (it : Int) (noun : Int) (depth : Int) (hq : 0 ≤ q ∧ q ≤ 2399) (hit : -1 ≤ it ∧ it ≤ 23) (hnoun : -1 ≤ noun ∧ noun ≤ 23) (hdepth : 0 ≤ depth ∧ depth ≤ 8) (hk : TQ S (0 ≤ it) (0 ≤ noun) q.toNat) (hB : ABV S) (hX : TXM S) (hD : DEFM S) (h1 : it < Xi S 904 19) (h2 : noun < Xi S 904 19) (d : Nat) (hrec : ∀ {S : sS} (_ : HI S) (o : Int) (a : Int) (dp : Int) (ho : 0 ≤ o ∧ o ≤ 23) (ha : 0 ≤ a ∧ a ≤ 6411) (hdp : 0 ≤ dp ∧ dp ≤ 8) (haa : ADM S a) (hB : ABV S) (hX : TXM S) (hD : DEFM S) (hoo : o < Xi S 904 19), (dp = depth) → Mt lay0 (d + 7) m_mo_holds [.ref 904, iv o, iv a, iv dp] S (Q_mo_holds__q S o a dp)) : Mt lay0 (d + 8) m_mo_tested [.ref 904, iv q, iv it, iv noun, iv depth] S (Q_mo_tested__q S q it noun depth) := by
  refine Mt_R rfl rfl ?_
  have hF : FR md_mo_tested__q S S := FR.rf
  have w1 : 0 ≤ Xi S 904 19 ∧ Xi S 904 19 ≤ 24 := hH.c _ _
  have hc3 : 0 ≤ Xi S 904 23 ∧ Xi S 904 23 ≤ 24 := hH.c _ _
  have hc19 : 0 ≤ Xi S 904 19 ∧ Xi S 904 19 ≤ 24 := hH.c _ _
  have hc32 : 0 ≤ Xi S 904 32 ∧ Xi S 904 32 ≤ 12 := hH.c _ _
  have C288 : ∀  (T1 : sS) (_ : HI T1) (_ : FR md_mo_tested__q S T1) (v6 : Int), (0 ≤ v6 ∧ v6 ≤ 1) → (Xi S 969 q.toNat ≠ 5) → (v6 = tvR (hoR S (8 - depth).toNat) S q.toNat it noun) → Rl lay0 (d + 7) m_mo_tested 288 [(0, .ref 904), (1, iv q), (6, iv v6)] [] T1 (Q_mo_tested__q S q it noun depth) := by
    intro T1 hHT1 hFT1 v6 w2 w3 t288
    have w4 : Xi T1 904 19 = Xi S 904 19 := hFT1.x _ _ rfl
    refine l_iload rfl rfl ?_
    refine l_aload_n rfl rfl ?_
    refine l_gfr rfl rfl rfl rfl rfl (hHT1.r 904 119 970 rfl) ?_
    refine l_iload_n rfl rfl ?_
    refine l_baload (n := 2400) rfl rfl rfl (by decide) (by omega) (by omega) (by unfold rg; omega) ?_
    have w5 : 0 ≤ (Xi T1 970 ((q).toNat)) ∧ (Xi T1 970 ((q).toNat)) ≤ 1 := hHT1.c _ _
    have x295 : (Xi T1 970 ((q).toNat)) = Xi S 970 q.toNat := by first | rfl | exact (hFT1.cx 970 rfl _).1
    refine l_icmp_eq rfl rfl (by unfold rg; omega) (by unfold rg; omega) (fun w6 => ?_) (fun w7 => ?_)
    · refine l_iconst rfl ?_
      refine l_ireturn rfl rfl ?_
      exact ⟨hHT1, hFT1, _, rfl, ⟨by omega, by omega⟩, (by first | (have t := K58; exact teR_5 (by omega) W8 W54 rfl) | exact teR_i (by omega) t288 (by omega))⟩
    · refine l_iconst rfl ?_
      refine l_goto rfl rfl ?_
      refine l_ireturn rfl rfl ?_
      exact ⟨hHT1, hFT1, _, rfl, ⟨by omega, by omega⟩, (by first | (have t := K58; exact teR_5 (by omega) W8 W54 rfl) | exact teR_i (by omega) t288 (by omega))⟩
  refine l_aload_n rfl rfl ?_
  refine l_gfr rfl rfl rfl rfl rfl (hH.r 904 120 971 rfl) ?_
  refine l_iload_n rfl rfl ?_
  refine l_iaload (n := 2400) rfl rfl (by omega) (by omega) (by unfold rg; omega) ?_
  have w8 : -9 ≤ (Xi S 971 ((q).toNat)) ∧ (Xi S 971 ((q).toNat)) ≤ 23 := hH.c _ _
  refine l_iload_n rfl rfl ?_
  refine l_iload_n rfl rfl ?_
  refine l_callS rfl rfl (by decide) rfl (t_mo_thingIs hH (Xi S 971 ((q).toNat)) it noun ⟨by omega, by omega⟩ ⟨by omega, by omega⟩ ⟨by omega, by omega⟩ _) ?_
  rintro _ _ ⟨rfl, z9, rfl, w9, p8⟩
  show Rl _ _ _ _ _ [iv z9] _ _
  have o8 : 0 ≤ z9 ∧ z9 < Xi S 904 19 := thk_i hk.1 (fun h => h) (fun h => h) h1 h2 (by assumption)
  have W8 : thR it noun (Xi S 971 q.toNat) = z9 := thR_i p8
  refine l_istore rfl rfl rfl ?_
  refine l_iconst rfl ?_
  refine l_istore rfl rfl rfl ?_
  refine l_aload_n rfl rfl ?_
  refine l_gfr rfl rfl rfl rfl rfl (hH.r 904 118 969 rfl) ?_
  refine l_iload_n rfl rfl ?_
  refine l_iaload (n := 2400) rfl rfl (by omega) (by omega) (by unfold rg; omega) ?_
  have w10 : 0 ≤ (Xi S 969 ((q).toNat)) ∧ (Xi S 969 ((q).toNat)) ≤ 5 := hH.c _ _
  refine l_iconst rfl ?_
  refine l_icmp_ne rfl rfl (by unfold rg; omega) (by unfold rg; omega) (fun w11 => ?_) (fun w12 => ?_)
  · refine l_aload_n rfl rfl ?_
    refine l_gfr rfl rfl rfl rfl rfl (hH.r 904 118 969 rfl) ?_
    refine l_iload_n rfl rfl ?_
    refine l_iaload (n := 2400) rfl rfl (by omega) (by omega) (by unfold rg; omega) ?_
    refine l_iconst rfl ?_
    refine l_icmp_ne rfl rfl (by unfold rg; omega) (by unfold rg; omega) (fun w13 => ?_) (fun w14 => ?_)
    · refine l_aload_n rfl rfl ?_
      refine l_gfr rfl rfl rfl rfl rfl (hH.r 904 118 969 rfl) ?_
      refine l_iload_n rfl rfl ?_
      refine l_iaload (n := 2400) rfl rfl (by omega) (by omega) (by unfold rg; omega) ?_
      refine l_iconst rfl ?_
      refine l_icmp_ne rfl rfl (by unfold rg; omega) (by unfold rg; omega) (fun w15 => ?_) (fun w16 => ?_)
      · refine l_aload_n rfl rfl ?_
        refine l_iload rfl rfl ?_
        refine l_aload_n rfl rfl ?_
        refine l_gfr rfl rfl rfl rfl rfl (hH.r 904 121 972 rfl) ?_
        refine l_iload_n rfl rfl ?_
        refine l_iaload (n := 2400) rfl rfl (by omega) (by omega) (by unfold rg; omega) ?_
        have w17 : -1 ≤ (Xi S 972 ((q).toNat)) ∧ (Xi S 972 ((q).toNat)) ≤ 11 := hH.c _ _
        have p154 : 0 ≤ (Xi S 972 ((q).toNat)) ∧ (Xi S 972 ((q).toNat)) < Xi S 904 32 := hk.2.2.2.1 (by omega)
        refine l_callV rfl rfl rfl (t_mo_numberOf__q hH z9 (Xi S 972 ((q).toNat)) ⟨by omega, by omega⟩ ⟨by omega, by omega⟩ (by first | assumption | exact (ABV_FR hF rfl (by assumption : ABV S))) (by first | assumption | exact (TXM_FR hF rfl (by assumption : TXM S))) (by first | assumption | omega) _) ?_
        rintro _ T2 ⟨hHT2, w21, z20, rfl, w20, w19, q155, l155⟩
        have hFT2 : FR md_mo_tested__q S T2 := FR.tr hF w21 rfl
        show Rl _ _ _ _ _ [iv z20] _ _
        refine l_istore rfl rfl rfl ?_
        refine l_aload_n rfl rfl ?_
        refine l_gfr rfl rfl rfl rfl rfl (hHT2.r 904 33 928 rfl) ?_
        refine l_aload_n rfl rfl ?_
        refine l_gfr rfl rfl rfl rfl rfl (hHT2.r 904 121 972 rfl) ?_
        refine l_iload_n rfl rfl ?_
        refine l_iaload (n := 2400) rfl rfl (by omega) (by omega) (by unfold rg; omega) ?_
        have w22 : (Xi T2 972 ((q).toNat)) = (Xi S 972 ((q).toNat)) := (show Xi T2 972 ((q).toNat) = Xi S 972 ((q).toNat) from w21.x _ _ rfl)
        rw [w22]
        have e169 : (Xi S 972 ((q).toNat)) = Xi S 972 q.toNat := by first | rfl | exact (hFT2.cx 972 rfl _).1
        refine l_iaload (n := 12) rfl rfl (by omega) (by omega) (by unfold rg; omega) ?_
        have w23 : 0 ≤ (Xi T2 928 (((Xi S 972 ((q).toNat))).toNat)) ∧ (Xi T2 928 (((Xi S 972 ((q).toNat))).toNat)) ≤ 7 := hHT2.c _ _
        have e170 : (Xi T2 928 (((Xi S 972 ((q).toNat))).toNat)) = Xi S 928 (Xi S 972 q.toNat).toNat := by first | exact (hFT2.cx 928 rfl _).1 | (rw [(hFT2.cx 928 rfl _).1, (hFT2.cx 972 rfl _).1])
        refine l_iconst rfl ?_
        refine l_icmp_ne rfl rfl (by unfold rg; omega) (by unfold rg; omega) (fun w24 => ?_) (fun w25 => ?_)
        · refine l_iconst rfl ?_
          refine l_istore rfl rfl rfl ?_
          refine l_aload_n rfl rfl ?_
          refine l_gfr rfl rfl rfl rfl rfl (hHT2.r 904 118 969 rfl) ?_
          refine l_iload_n rfl rfl ?_
          refine l_iaload (n := 2400) rfl rfl (by omega) (by omega) (by unfold rg; omega) ?_
          have w26 : (Xi T2 969 ((q).toNat)) = (Xi S 969 ((q).toNat)) := (show Xi T2 969 ((q).toNat) = Xi S 969 ((q).toNat) from w21.x _ _ rfl)
          rw [w26]
          have e187 : (Xi S 969 ((q).toNat)) = Xi S 969 q.toNat := by first | rfl | exact (hFT2.cx 969 rfl _).1
          refine l_iconst rfl ?_
          refine l_icmp_ne rfl rfl (by unfold rg; omega) (by unfold rg; omega) (fun w27 => ?_) (fun w28 => ?_)
          · refine l_aload_n rfl rfl ?_
            refine l_gfr rfl rfl rfl rfl rfl (hHT2.r 904 118 969 rfl) ?_
            refine l_iload_n rfl rfl ?_
            refine l_iaload (n := 2400) rfl rfl (by omega) (by omega) (by unfold rg; omega) ?_
            have w29 : (Xi T2 969 ((q).toNat)) = (Xi S 969 ((q).toNat)) := (show Xi T2 969 ((q).toNat) = Xi S 969 ((q).toNat) from w21.x _ _ rfl)
            rw [w29]
            have e216 : (Xi S 969 ((q).toNat)) = Xi S 969 q.toNat := by first | rfl | exact (hFT2.cx 969 rfl _).1
            refine l_iconst rfl ?_
            refine l_icmp_ne rfl rfl (by unfold rg; omega) (by unfold rg; omega) (fun w30 => ?_) (fun w31 => ?_)
            · refine l_iload rfl rfl ?_
              refine l_if_eq rfl rfl (by unfold rg; omega) (fun w32 => ?_) (fun w33 => absurd w33 (by omega))
              · refine l_iload rfl rfl ?_
                refine l_aload_n rfl rfl ?_
                refine l_gfr rfl rfl rfl rfl rfl (hHT2.r 904 122 973 rfl) ?_
                refine l_iload_n rfl rfl ?_
                refine l_iaload (n := 2400) rfl rfl (by omega) (by omega) (by unfold rg; omega) ?_
                have w34 : -2147483648 ≤ (Xi T2 973 ((q).toNat)) ∧ (Xi T2 973 ((q).toNat)) ≤ 2147483647 := Xi_rgI
                have x277 : (Xi T2 973 ((q).toNat)) = Xi S 973 q.toNat := by first | rfl | exact (hFT2.cx 973 rfl _).1
                refine l_icmp_ne rfl rfl (by unfold rg; omega) (by unfold rg; omega) (fun w35 => ?_) (fun w36 => ?_)
                · refine l_iconst rfl ?_
                  refine l_istore rfl rfl rfl ?_
                  exact Rl_weak (C288 T2 hHT2 hFT2 (0) (by omega) (by omega) (by first | exact trv_3 (by omega) W8 q81 | (have t := q264; exact trv_t (by omega) (by omega) W8 q155 l155 (q264.trans (by rw [sameR_x (XE.f (by assumption : FR md_mo_numberOf__q S _) rfl), x257, x263]))) | exact trv_1 (by omega) W8 q155 (by omega) | exact trv_2 (by omega) W8 q155 (by omega) | exact trv_0 (by omega) (by omega) W8 q155 (by omega) | exact trv_4 (by omega) W8 ⟨fun _ => W130, by omega, by omega⟩ | exact trv_4 (b := 0) (by omega) W8 ⟨fun h => absurd h (by omega), fun h => absurd h.1 (by omega), fun _ => by omega⟩)) (And.intro rfl (And.intro rfl (And.intro rfl (True.intro))))
                · refine l_iconst rfl ?_
                  refine l_goto rfl rfl ?_
                  refine l_istore rfl rfl rfl ?_
                  exact Rl_weak (C288 T2 hHT2 hFT2 (1) (by omega) (by omega) (by first | exact trv_3 (by omega) W8 q81 | (have t := q264; exact trv_t (by omega) (by omega) W8 q155 l155 (q264.trans (by rw [sameR_x (XE.f (by assumption : FR md_mo_numberOf__q S _) rfl), x257, x263]))) | exact trv_1 (by omega) W8 q155 (by omega) | exact trv_2 (by omega) W8 q155 (by omega) | exact trv_0 (by omega) (by omega) W8 q155 (by omega) | exact trv_4 (by omega) W8 ⟨fun _ => W130, by omega, by omega⟩ | exact trv_4 (b := 0) (by omega) W8 ⟨fun h => absurd h (by omega), fun h => absurd h.1 (by omega), fun _ => by omega⟩)) (And.intro rfl (And.intro rfl (And.intro rfl (True.intro))))
            · refine l_iload rfl rfl ?_
              refine l_aload_n rfl rfl ?_
              refine l_gfr rfl rfl rfl rfl rfl (hHT2.r 904 122 973 rfl) ?_
              refine l_iload_n rfl rfl ?_
              refine l_iaload (n := 2400) rfl rfl (by omega) (by omega) (by unfold rg; omega) ?_
              have w37 : -2147483648 ≤ (Xi T2 973 ((q).toNat)) ∧ (Xi T2 973 ((q).toNat)) ≤ 2147483647 := Xi_rgI
              have x228 : (Xi T2 973 ((q).toNat)) = Xi S 973 q.toNat := by first | rfl | exact (hFT2.cx 973 rfl _).1
              refine l_icmp_le rfl rfl (by unfold rg; omega) (by unfold rg; omega) (fun w38 => ?_) (fun w39 => ?_)
              · refine l_iconst rfl ?_
                refine l_goto rfl rfl ?_
                refine l_istore rfl rfl rfl ?_
                exact Rl_weak (C288 T2 hHT2 hFT2 (0) (by omega) (by omega) (by first | exact trv_3 (by omega) W8 q81 | (have t := q264; exact trv_t (by omega) (by omega) W8 q155 l155 (q264.trans (by rw [sameR_x (XE.f (by assumption : FR md_mo_numberOf__q S _) rfl), x257, x263]))) | exact trv_1 (by omega) W8 q155 (by omega) | exact trv_2 (by omega) W8 q155 (by omega) | exact trv_0 (by omega) (by omega) W8 q155 (by omega) | exact trv_4 (by omega) W8 ⟨fun _ => W130, by omega, by omega⟩ | exact trv_4 (b := 0) (by omega) W8 ⟨fun h => absurd h (by omega), fun h => absurd h.1 (by omega), fun _ => by omega⟩)) (And.intro rfl (And.intro rfl (And.intro rfl (True.intro))))
              · refine l_iconst rfl ?_
                refine l_goto rfl rfl ?_
                refine l_istore rfl rfl rfl ?_
                exact Rl_weak (C288 T2 hHT2 hFT2 (1) (by omega) (by omega) (by first | exact trv_3 (by omega) W8 q81 | (have t := q264; exact trv_t (by omega) (by omega) W8 q155 l155 (q264.trans (by rw [sameR_x (XE.f (by assumption : FR md_mo_numberOf__q S _) rfl), x257, x263]))) | exact trv_1 (by omega) W8 q155 (by omega) | exact trv_2 (by omega) W8 q155 (by omega) | exact trv_0 (by omega) (by omega) W8 q155 (by omega) | exact trv_4 (by omega) W8 ⟨fun _ => W130, by omega, by omega⟩ | exact trv_4 (b := 0) (by omega) W8 ⟨fun h => absurd h (by omega), fun h => absurd h.1 (by omega), fun _ => by omega⟩)) (And.intro rfl (And.intro rfl (And.intro rfl (True.intro))))
          · refine l_iload rfl rfl ?_
            refine l_aload_n rfl rfl ?_
            refine l_gfr rfl rfl rfl rfl rfl (hHT2.r 904 122 973 rfl) ?_
            refine l_iload_n rfl rfl ?_
            refine l_iaload (n := 2400) rfl rfl (by omega) (by omega) (by unfold rg; omega) ?_
            have w40 : -2147483648 ≤ (Xi T2 973 ((q).toNat)) ∧ (Xi T2 973 ((q).toNat)) ≤ 2147483647 := Xi_rgI
            have x199 : (Xi T2 973 ((q).toNat)) = Xi S 973 q.toNat := by first | rfl | exact (hFT2.cx 973 rfl _).1
            refine l_icmp_ge rfl rfl (by unfold rg; omega) (by unfold rg; omega) (fun w41 => ?_) (fun w42 => ?_)
            · refine l_iconst rfl ?_
              refine l_goto rfl rfl ?_
              refine l_istore rfl rfl rfl ?_
              exact Rl_weak (C288 T2 hHT2 hFT2 (0) (by omega) (by omega) (by first | exact trv_3 (by omega) W8 q81 | (have t := q264; exact trv_t (by omega) (by omega) W8 q155 l155 (q264.trans (by rw [sameR_x (XE.f (by assumption : FR md_mo_numberOf__q S _) rfl), x257, x263]))) | exact trv_1 (by omega) W8 q155 (by omega) | exact trv_2 (by omega) W8 q155 (by omega) | exact trv_0 (by omega) (by omega) W8 q155 (by omega) | exact trv_4 (by omega) W8 ⟨fun _ => W130, by omega, by omega⟩ | exact trv_4 (b := 0) (by omega) W8 ⟨fun h => absurd h (by omega), fun h => absurd h.1 (by omega), fun _ => by omega⟩)) (And.intro rfl (And.intro rfl (And.intro rfl (True.intro))))
            · refine l_iconst rfl ?_
              refine l_goto rfl rfl ?_
              refine l_istore rfl rfl rfl ?_
              exact Rl_weak (C288 T2 hHT2 hFT2 (1) (by omega) (by omega) (by first | exact trv_3 (by omega) W8 q81 | (have t := q264; exact trv_t (by omega) (by omega) W8 q155 l155 (q264.trans (by rw [sameR_x (XE.f (by assumption : FR md_mo_numberOf__q S _) rfl), x257, x263]))) | exact trv_1 (by omega) W8 q155 (by omega) | exact trv_2 (by omega) W8 q155 (by omega) | exact trv_0 (by omega) (by omega) W8 q155 (by omega) | exact trv_4 (by omega) W8 ⟨fun _ => W130, by omega, by omega⟩ | exact trv_4 (b := 0) (by omega) W8 ⟨fun h => absurd h (by omega), fun h => absurd h.1 (by omega), fun _ => by omega⟩)) (And.intro rfl (And.intro rfl (And.intro rfl (True.intro))))
        · refine l_iconst rfl ?_
          refine l_goto rfl rfl ?_
          refine l_istore rfl rfl rfl ?_
          refine l_aload_n rfl rfl ?_
          refine l_gfr rfl rfl rfl rfl rfl (hHT2.r 904 118 969 rfl) ?_
          refine l_iload_n rfl rfl ?_
          refine l_iaload (n := 2400) rfl rfl (by omega) (by omega) (by unfold rg; omega) ?_
          have w43 : (Xi T2 969 ((q).toNat)) = (Xi S 969 ((q).toNat)) := (show Xi T2 969 ((q).toNat) = Xi S 969 ((q).toNat) from w21.x _ _ rfl)
          rw [w43]
          have e187 : (Xi S 969 ((q).toNat)) = Xi S 969 q.toNat := by first | rfl | exact (hFT2.cx 969 rfl _).1
          refine l_iconst rfl ?_
          refine l_icmp_ne rfl rfl (by unfold rg; omega) (by unfold rg; omega) (fun w44 => ?_) (fun w45 => ?_)
          · refine l_aload_n rfl rfl ?_
            refine l_gfr rfl rfl rfl rfl rfl (hHT2.r 904 118 969 rfl) ?_
            refine l_iload_n rfl rfl ?_
            refine l_iaload (n := 2400) rfl rfl (by omega) (by omega) (by unfold rg; omega) ?_
            have w46 : (Xi T2 969 ((q).toNat)) = (Xi S 969 ((q).toNat)) := (show Xi T2 969 ((q).toNat) = Xi S 969 ((q).toNat) from w21.x _ _ rfl)
            rw [w46]
            have e216 : (Xi S 969 ((q).toNat)) = Xi S 969 q.toNat := by first | rfl | exact (hFT2.cx 969 rfl _).1
            refine l_iconst rfl ?_
            refine l_icmp_ne rfl rfl (by unfold rg; omega) (by unfold rg; omega) (fun w47 => ?_) (fun w48 => ?_)
            · refine l_iload rfl rfl ?_
              refine l_if_eq rfl rfl (by unfold rg; omega) (fun w49 => absurd w49 (by omega)) (fun w50 => ?_)
              · refine l_aload_n rfl rfl ?_
                refine l_iload rfl rfl ?_
                refine l_aload_n rfl rfl ?_
                refine l_gfi rfl rfl rfl rfl rfl ?_
                have w51 : -2147483648 ≤ (Xi T2 904 154) ∧ (Xi T2 904 154) ≤ 2147483647 := Xi_rgI
                refine l_aload_n rfl rfl ?_
                refine l_gfr rfl rfl rfl rfl rfl (hHT2.r 904 122 973 rfl) ?_
                refine l_iload_n rfl rfl ?_
                refine l_iaload (n := 2400) rfl rfl (by omega) (by omega) (by unfold rg; omega) ?_
                have w52 : -2147483648 ≤ (Xi T2 973 ((q).toNat)) ∧ (Xi T2 973 ((q).toNat)) ≤ 2147483647 := Xi_rgI
                have x257 : (Xi T2 973 ((q).toNat)) = Xi S 973 q.toNat := by first | rfl | exact (hFT2.cx 973 rfl _).1
                refine l_aload_n rfl rfl ?_
                refine l_gfr rfl rfl rfl rfl rfl (hHT2.r 904 123 974 rfl) ?_
                refine l_iload_n rfl rfl ?_
                refine l_iaload (n := 2400) rfl rfl (by omega) (by omega) (by unfold rg; omega) ?_
                have w53 : -2147483648 ≤ (Xi T2 974 ((q).toNat)) ∧ (Xi T2 974 ((q).toNat)) ≤ 2147483647 := Xi_rgI
                have x263 : (Xi T2 974 ((q).toNat)) = Xi S 974 q.toNat := by first | rfl | exact (hFT2.cx 974 rfl _).1
                refine l_callV rfl rfl rfl (t_mo_isSameText__q hHT2 z20 (Xi T2 904 154) (Xi T2 973 ((q).toNat)) (Xi T2 974 ((q).toNat)) ⟨by omega, by omega⟩ ⟨by omega, by omega⟩ ⟨by omega, by omega⟩ ⟨by omega, by omega⟩ ((by assumption : _ → OKT _ _) (by omega)) (okt_2 (hk.2.2.2.2 (by omega)) (hFT2.cx 973 rfl _).1 (hFT2.cx 974 rfl _).1) _) ?_
                rintro _ _ ⟨rfl, z54, rfl, w54, q264⟩
                show Rl _ _ _ _ _ [iv z54] _ _
                refine l_goto rfl rfl ?_
                refine l_istore rfl rfl rfl ?_
                exact Rl_weak (C288 T2 hHT2 hFT2 (z54) (by omega) (by omega) (by first | exact trv_3 (by omega) W8 q81 | (have t := q264; exact trv_t (by omega) (by omega) W8 q155 l155 (q264.trans (by rw [sameR_x (XE.f (by assumption : FR md_mo_numberOf__q S _) rfl), x257, x263]))) | exact trv_1 (by omega) W8 q155 (by omega) | exact trv_2 (by omega) W8 q155 (by omega) | exact trv_0 (by omega) (by omega) W8 q155 (by omega) | exact trv_4 (by omega) W8 ⟨fun _ => W130, by omega, by omega⟩ | exact trv_4 (b := 0) (by omega) W8 ⟨fun h => absurd h (by omega), fun h => absurd h.1 (by omega), fun _ => by omega⟩)) (And.intro rfl (And.intro rfl (And.intro rfl (True.intro))))
            · refine l_iload rfl rfl ?_
              refine l_aload_n rfl rfl ?_
              refine l_gfr rfl rfl rfl rfl rfl (hHT2.r 904 122 973 rfl) ?_
              refine l_iload_n rfl rfl ?_
              refine l_iaload (n := 2400) rfl rfl (by omega) (by omega) (by unfold rg; omega) ?_
              have w55 : -2147483648 ≤ (Xi T2 973 ((q).toNat)) ∧ (Xi T2 973 ((q).toNat)) ≤ 2147483647 := Xi_rgI
              have x228 : (Xi T2 973 ((q).toNat)) = Xi S 973 q.toNat := by first | rfl | exact (hFT2.cx 973 rfl _).1
              refine l_icmp_le rfl rfl (by unfold rg; omega) (by unfold rg; omega) (fun w56 => ?_) (fun w57 => ?_)
              · refine l_iconst rfl ?_
                refine l_goto rfl rfl ?_
                refine l_istore rfl rfl rfl ?_
                exact Rl_weak (C288 T2 hHT2 hFT2 (0) (by omega) (by omega) (by first | exact trv_3 (by omega) W8 q81 | (have t := q264; exact trv_t (by omega) (by omega) W8 q155 l155 (q264.trans (by rw [sameR_x (XE.f (by assumption : FR md_mo_numberOf__q S _) rfl), x257, x263]))) | exact trv_1 (by omega) W8 q155 (by omega) | exact trv_2 (by omega) W8 q155 (by omega) | exact trv_0 (by omega) (by omega) W8 q155 (by omega) | exact trv_4 (by omega) W8 ⟨fun _ => W130, by omega, by omega⟩ | exact trv_4 (b := 0) (by omega) W8 ⟨fun h => absurd h (by omega), fun h => absurd h.1 (by omega), fun _ => by omega⟩)) (And.intro rfl (And.intro rfl (And.intro rfl (True.intro))))
              · refine l_iconst rfl ?_
                refine l_goto rfl rfl ?_
                refine l_istore rfl rfl rfl ?_
                exact Rl_weak (C288 T2 hHT2 hFT2 (1) (by omega) (by omega) (by first | exact trv_3 (by omega) W8 q81 | (have t := q264; exact trv_t (by omega) (by omega) W8 q155 l155 (q264.trans (by rw [sameR_x (XE.f (by assumption : FR md_mo_numberOf__q S _) rfl), x257, x263]))) | exact trv_1 (by omega) W8 q155 (by omega) | exact trv_2 (by omega) W8 q155 (by omega) | exact trv_0 (by omega) (by omega) W8 q155 (by omega) | exact trv_4 (by omega) W8 ⟨fun _ => W130, by omega, by omega⟩ | exact trv_4 (b := 0) (by omega) W8 ⟨fun h => absurd h (by omega), fun h => absurd h.1 (by omega), fun _ => by omega⟩)) (And.intro rfl (And.intro rfl (And.intro rfl (True.intro))))
          · refine l_iload rfl rfl ?_
            refine l_aload_n rfl rfl ?_
            refine l_gfr rfl rfl rfl rfl rfl (hHT2.r 904 122 973 rfl) ?_
            refine l_iload_n rfl rfl ?_
            refine l_iaload (n := 2400) rfl rfl (by omega) (by omega) (by unfold rg; omega) ?_
            have w58 : -2147483648 ≤ (Xi T2 973 ((q).toNat)) ∧ (Xi T2 973 ((q).toNat)) ≤ 2147483647 := Xi_rgI
            have x199 : (Xi T2 973 ((q).toNat)) = Xi S 973 q.toNat := by first | rfl | exact (hFT2.cx 973 rfl _).1
            refine l_icmp_ge rfl rfl (by unfold rg; omega) (by unfold rg; omega) (fun w59 => ?_) (fun w60 => ?_)
            · refine l_iconst rfl ?_
              refine l_goto rfl rfl ?_
              refine l_istore rfl rfl rfl ?_
              exact Rl_weak (C288 T2 hHT2 hFT2 (0) (by omega) (by omega) (by first | exact trv_3 (by omega) W8 q81 | (have t := q264; exact trv_t (by omega) (by omega) W8 q155 l155 (q264.trans (by rw [sameR_x (XE.f (by assumption : FR md_mo_numberOf__q S _) rfl), x257, x263]))) | exact trv_1 (by omega) W8 q155 (by omega) | exact trv_2 (by omega) W8 q155 (by omega) | exact trv_0 (by omega) (by omega) W8 q155 (by omega) | exact trv_4 (by omega) W8 ⟨fun _ => W130, by omega, by omega⟩ | exact trv_4 (b := 0) (by omega) W8 ⟨fun h => absurd h (by omega), fun h => absurd h.1 (by omega), fun _ => by omega⟩)) (And.intro rfl (And.intro rfl (And.intro rfl (True.intro))))
            · refine l_iconst rfl ?_
              refine l_goto rfl rfl ?_
              refine l_istore rfl rfl rfl ?_
              exact Rl_weak (C288 T2 hHT2 hFT2 (1) (by omega) (by omega) (by first | exact trv_3 (by omega) W8 q81 | (have t := q264; exact trv_t (by omega) (by omega) W8 q155 l155 (q264.trans (by rw [sameR_x (XE.f (by assumption : FR md_mo_numberOf__q S _) rfl), x257, x263]))) | exact trv_1 (by omega) W8 q155 (by omega) | exact trv_2 (by omega) W8 q155 (by omega) | exact trv_0 (by omega) (by omega) W8 q155 (by omega) | exact trv_4 (by omega) W8 ⟨fun _ => W130, by omega, by omega⟩ | exact trv_4 (b := 0) (by omega) W8 ⟨fun h => absurd h (by omega), fun h => absurd h.1 (by omega), fun _ => by omega⟩)) (And.intro rfl (And.intro rfl (And.intro rfl (True.intro))))
      · refine l_aload_n rfl rfl ?_
        refine l_gfr rfl rfl rfl rfl rfl (hH.r 904 21 919 rfl) ?_
        refine l_iload rfl rfl ?_
        refine l_iaload (n := 24) rfl rfl (by omega) (by omega) (by unfold rg; omega) ?_
        have w61 : 0 ≤ (Xi S 919 ((z9).toNat)) ∧ (Xi S 919 ((z9).toNat)) ≤ 5 := hH.c _ _
        refine l_aload_n rfl rfl ?_
        refine l_gfr rfl rfl rfl rfl rfl (hH.r 904 122 973 rfl) ?_
        refine l_iload_n rfl rfl ?_
        refine l_iaload (n := 2400) rfl rfl (by omega) (by omega) (by unfold rg; omega) ?_
        have w62 : -2147483648 ≤ (Xi S 973 ((q).toNat)) ∧ (Xi S 973 ((q).toNat)) ≤ 2147483647 := Xi_rgI
        refine l_icmp_ne rfl rfl (by unfold rg; omega) (by unfold rg; omega) (fun w63 => ?_) (fun w64 => ?_)
        · refine l_iconst rfl ?_
          refine l_istore rfl rfl rfl ?_
          refine l_goto rfl rfl ?_
          exact Rl_weak (C288 S hH hF (0) (by omega) (by omega) (by first | exact trv_3 (by omega) W8 q81 | (have t := q264; exact trv_t (by omega) (by omega) W8 q155 l155 (q264.trans (by rw [sameR_x (XE.f (by assumption : FR md_mo_numberOf__q S _) rfl), x257, x263]))) | exact trv_1 (by omega) W8 q155 (by omega) | exact trv_2 (by omega) W8 q155 (by omega) | exact trv_0 (by omega) (by omega) W8 q155 (by omega) | exact trv_4 (by omega) W8 ⟨fun _ => W130, by omega, by omega⟩ | exact trv_4 (b := 0) (by omega) W8 ⟨fun h => absurd h (by omega), fun h => absurd h.1 (by omega), fun _ => by omega⟩)) (And.intro rfl (And.intro rfl (And.intro rfl (True.intro))))
        · refine l_aload_n rfl rfl ?_
          refine l_gfr rfl rfl rfl rfl rfl (hH.r 904 22 920 rfl) ?_
          refine l_iload rfl rfl ?_
          refine l_iaload (n := 24) rfl rfl (by omega) (by omega) (by unfold rg; omega) ?_
          have w65 : -1 ≤ (Xi S 920 ((z9).toNat)) ∧ (Xi S 920 ((z9).toNat)) ≤ 23 := hH.c _ _
          refine l_aload_n rfl rfl ?_
          refine l_gfr rfl rfl rfl rfl rfl (hH.r 904 124 975 rfl) ?_
          refine l_iload_n rfl rfl ?_
          refine l_iaload (n := 2400) rfl rfl (by omega) (by omega) (by unfold rg; omega) ?_
          have w66 : -9 ≤ (Xi S 975 ((q).toNat)) ∧ (Xi S 975 ((q).toNat)) ≤ 23 := hH.c _ _
          refine l_iload_n rfl rfl ?_
          refine l_iload_n rfl rfl ?_
          refine l_callS rfl rfl (by decide) rfl (t_mo_thingIs hH (Xi S 975 ((q).toNat)) it noun ⟨by omega, by omega⟩ ⟨by omega, by omega⟩ ⟨by omega, by omega⟩ _) ?_
          rintro _ _ ⟨rfl, z67, rfl, w67, p130⟩
          show Rl _ _ _ _ _ [iv z67, iv (Xi S 920 ((z9).toNat))] _ _
          have W130 : thR it noun (Xi S 975 q.toNat) = z67 := thR_i p130
          refine l_icmp_ne rfl rfl (by unfold rg; omega) (by unfold rg; omega) (fun w68 => ?_) (fun w69 => ?_)
          · refine l_iconst rfl ?_
            refine l_istore rfl rfl rfl ?_
            refine l_goto rfl rfl ?_
            exact Rl_weak (C288 S hH hF (0) (by omega) (by omega) (by first | exact trv_3 (by omega) W8 q81 | (have t := q264; exact trv_t (by omega) (by omega) W8 q155 l155 (q264.trans (by rw [sameR_x (XE.f (by assumption : FR md_mo_numberOf__q S _) rfl), x257, x263]))) | exact trv_1 (by omega) W8 q155 (by omega) | exact trv_2 (by omega) W8 q155 (by omega) | exact trv_0 (by omega) (by omega) W8 q155 (by omega) | exact trv_4 (by omega) W8 ⟨fun _ => W130, by omega, by omega⟩ | exact trv_4 (b := 0) (by omega) W8 ⟨fun h => absurd h (by omega), fun h => absurd h.1 (by omega), fun _ => by omega⟩)) (And.intro rfl (And.intro rfl (And.intro rfl (True.intro))))
          · refine l_iconst rfl ?_
            refine l_goto rfl rfl ?_
            refine l_istore rfl rfl rfl ?_
            refine l_goto rfl rfl ?_
            exact Rl_weak (C288 S hH hF (1) (by omega) (by omega) (by first | exact trv_3 (by omega) W8 q81 | (have t := q264; exact trv_t (by omega) (by omega) W8 q155 l155 (q264.trans (by rw [sameR_x (XE.f (by assumption : FR md_mo_numberOf__q S _) rfl), x257, x263]))) | exact trv_1 (by omega) W8 q155 (by omega) | exact trv_2 (by omega) W8 q155 (by omega) | exact trv_0 (by omega) (by omega) W8 q155 (by omega) | exact trv_4 (by omega) W8 ⟨fun _ => W130, by omega, by omega⟩ | exact trv_4 (b := 0) (by omega) W8 ⟨fun h => absurd h (by omega), fun h => absurd h.1 (by omega), fun _ => by omega⟩)) (And.intro rfl (And.intro rfl (And.intro rfl (True.intro))))
    · refine l_aload_n rfl rfl ?_
      refine l_iload rfl rfl ?_
      refine l_aload_n rfl rfl ?_
      refine l_gfr rfl rfl rfl rfl rfl (hH.r 904 122 973 rfl) ?_
      refine l_iload_n rfl rfl ?_
      refine l_iaload (n := 2400) rfl rfl (by omega) (by omega) (by unfold rg; omega) ?_
      have w70 : -2147483648 ≤ (Xi S 973 ((q).toNat)) ∧ (Xi S 973 ((q).toNat)) ≤ 2147483647 := Xi_rgI
      have a78 : (0 ≤ (Xi S 973 ((q).toNat)) ∧ (Xi S 973 ((q).toNat)) < Xi S 904 23) ∨ (100 ≤ (Xi S 973 ((q).toNat)) ∧ (Xi S 973 ((q).toNat)) % 100 < Xi S 904 32 ∧ (Xi S 973 ((q).toNat)) ≤ 6411) := hk.2.2.1 (by omega)
      refine l_iload rfl rfl ?_
      refine l_callV rfl rfl rfl (hrec hH z9 (Xi S 973 ((q).toNat)) depth ⟨by omega, by omega⟩ ⟨by omega, by omega⟩ ⟨by omega, by omega⟩ (hk.2.2.1 (by omega)) (by first | assumption | exact (ABV_FR hF rfl (by assumption : ABV S))) (by first | assumption | exact (TXM_FR hF rfl (by assumption : TXM S))) (by first | assumption | exact (DEFM_FR hF rfl (by assumption : DEFM S))) (by first | assumption | omega) (by omega)) ?_
      rintro _ T3 ⟨hHT3, w73, z72, rfl, w72, q81⟩
      have hFT3 : FR md_mo_tested__q S T3 := FR.tr hF w73 rfl
      show Rl _ _ _ _ _ [iv z72] _ _
      refine l_istore rfl rfl rfl ?_
      refine l_goto rfl rfl ?_
      exact Rl_weak (C288 T3 hHT3 hFT3 (z72) (by omega) (by omega) (by first | exact trv_3 (by omega) W8 q81 | (have t := q264; exact trv_t (by omega) (by omega) W8 q155 l155 (q264.trans (by rw [sameR_x (XE.f (by assumption : FR md_mo_numberOf__q S _) rfl), x257, x263]))) | exact trv_1 (by omega) W8 q155 (by omega) | exact trv_2 (by omega) W8 q155 (by omega) | exact trv_0 (by omega) (by omega) W8 q155 (by omega) | exact trv_4 (by omega) W8 ⟨fun _ => W130, by omega, by omega⟩ | exact trv_4 (b := 0) (by omega) W8 ⟨fun h => absurd h (by omega), fun h => absurd h.1 (by omega), fun _ => by omega⟩)) (And.intro rfl (And.intro rfl (And.intro rfl (True.intro))))
  · refine l_aload_n rfl rfl ?_
    refine l_gfr rfl rfl rfl rfl rfl (hH.r 904 46 940 rfl) ?_
    refine l_sipush rfl rfl ?_
    refine l_aload_n rfl rfl ?_
    refine l_gfr rfl rfl rfl rfl rfl (hH.r 904 121 972 rfl) ?_
    refine l_iload_n rfl rfl ?_
    refine l_iaload (n := 2400) rfl rfl (by omega) (by omega) (by unfold rg; omega) ?_
    have w74 : -1 ≤ (Xi S 972 ((q).toNat)) ∧ (Xi S 972 ((q).toNat)) ≤ 11 := hH.c _ _
    refine l_imul rfl ?_
    refine l_bipush rfl rfl ?_
    refine l_iload rfl rfl ?_
    refine l_imul rfl ?_
    refine l_iadd rfl ?_
    refine l_aload_n rfl rfl ?_
    refine l_gfr rfl rfl rfl rfl rfl (hH.r 904 124 975 rfl) ?_
    refine l_iload_n rfl rfl ?_
    refine l_iaload (n := 2400) rfl rfl (by omega) (by omega) (by unfold rg; omega) ?_
    have w75 : -9 ≤ (Xi S 975 ((q).toNat)) ∧ (Xi S 975 ((q).toNat)) ≤ 23 := hH.c _ _
    refine l_iload_n rfl rfl ?_
    refine l_iload_n rfl rfl ?_
    refine l_callS rfl rfl (by decide) rfl (t_mo_thingIs hH (Xi S 975 ((q).toNat)) it noun ⟨by omega, by omega⟩ ⟨by omega, by omega⟩ ⟨by omega, by omega⟩ _) ?_
    rintro _ _ ⟨rfl, z76, rfl, w76, p54x⟩
    show Rl _ _ _ _ _ [iv z76, iv ((576 * (Xi S 972 ((q).toNat))) + (24 * z9)), .ref 940] _ _
    have o54 : 0 ≤ z76 ∧ z76 < Xi S 904 19 := thk_i (hk.2.1 (by omega)).1 (fun h => h) (fun h => h) h1 h2 (by assumption)
    have p54 : 0 ≤ Xi S 972 q.toNat ∧ Xi S 972 q.toNat ≤ 5 := (hk.2.1 (by omega)).2
    have W54 : thR it noun (Xi S 975 q.toNat) = z76 := thR_i p54x
    refine l_iadd rfl ?_
    refine l_baload (n := 3456) rfl rfl rfl (by decide) (by omega) (by omega) (by unfold rg; omega) ?_
    have w77 : 0 ≤ (Xi S 940 (((((576 * (Xi S 972 ((q).toNat))) + (24 * z9)) + z76)).toNat)) ∧ (Xi S 940 (((((576 * (Xi S 972 ((q).toNat))) + (24 * z9)) + z76)).toNat)) ≤ 1 := hH.c _ _
    have K58 : True := trivial
    refine l_ireturn rfl (retI_z (by omega)) ?_
    exact ⟨hH, hF, _, rfl, ⟨by omega, by omega⟩, (by first | (have t := K58; exact teR_5 (by omega) W8 W54 rfl) | exact teR_i (by omega) t288 (by omega))⟩
theorem k_mhq (n : Nat) : ∀ (d : Nat) {S : sS} (_ : HI S) (o : Int) (a : Int) (dp : Int) (ho : 0 ≤ o ∧ o ≤ 23) (ha : 0 ≤ a ∧ a ≤ 6411) (hdp : 0 ≤ dp ∧ dp ≤ 8) (haa : ADM S a) (hB : ABV S) (hX : TXM S) (hD : DEFM S) (hoo : o < Xi S 904 19), (8 - dp).toNat = n → Mt lay0 (d + 2 * n + 9) m_mo_holds [.ref 904, iv o, iv a, iv dp] S (Q_mo_holds__q S o a dp) := by
  induction n with
  | zero => intro d S hH o a dp ho ha hdp haa hB hX hD hoo hm; exact u_mo_holds__q hH o a dp ho ha hdp haa hB hX hD hoo d (fun {_} _ _ _ _ _ _ _ _ _ _ _ _ _ _ _ hlt => absurd hlt.1 (by omega))
  | succ n ih =>
    intro d S hH o a dp ho ha hdp haa hB hX hD hoo hm
    have t := u_mo_holds__q hH o a dp ho ha hdp haa hB hX hD hoo (d + 2 * n + 2) (fun {S} hH xq xit xnoun xdepth xhq xhit xhnoun xhdepth xhk xhB xhX xhD xh1 xh2 hlt => u_mo_tested__q hH xq xit xnoun xdepth xhq xhit xhnoun xhdepth xhk xhB xhX xhD xh1 xh2 (d + 2 * n + 2) (fun {S} hH2 yo ya ydp yho yha yhdp yhaa yhB yhX yhD yhoo he => by
      have t := ih d hH2 yo ya ydp yho yha yhdp yhaa yhB yhX yhD yhoo (by omega)
      rw [show d + 2 * n + 9 = d + 2 * n + 2 + 7 by omega] at t
      exact t))
    rw [show d + 2 * n + 2 + 9 = d + 2 * (n + 1) + 9 by omega] at t
    exact t
theorem t_mo_holds__q {S : sS} (hH : HI S) (o : Int) (a : Int) (dp : Int) (ho : 0 ≤ o ∧ o ≤ 23) (ha : 0 ≤ a ∧ a ≤ 6411) (hdp : 0 ≤ dp ∧ dp ≤ 8) (haa : ADM S a) (hB : ABV S) (hX : TXM S) (hD : DEFM S) (hoo : o < Xi S 904 19) (d : Nat) : Mt lay0 (d + 25) m_mo_holds [.ref 904, iv o, iv a, iv dp] S (Q_mo_holds__q S o a dp) := by
  have t := k_mhq (8 - dp).toNat (d + (16 - 2 * (8 - dp).toNat)) hH o a dp ho ha hdp haa hB hX hD hoo rfl
  rw [show d + (16 - 2 * (8 - dp).toNat) + 2 * (8 - dp).toNat + 9 = d + 25 by omega] at t
  exact t
theorem t_mo_tested__q {S : sS} (hH : HI S) (q : Int) (it : Int) (noun : Int) (depth : Int) (hq : 0 ≤ q ∧ q ≤ 2399) (hit : -1 ≤ it ∧ it ≤ 23) (hnoun : -1 ≤ noun ∧ noun ≤ 23) (hdepth : 0 ≤ depth ∧ depth ≤ 8) (hk : TQ S (0 ≤ it) (0 ≤ noun) q.toNat) (hB : ABV S) (hX : TXM S) (hD : DEFM S) (h1 : it < Xi S 904 19) (h2 : noun < Xi S 904 19) (d : Nat) : Mt lay0 (d + 26) m_mo_tested [.ref 904, iv q, iv it, iv noun, iv depth] S (Q_mo_tested__q S q it noun depth) :=
  u_mo_tested__q hH q it noun depth hq hit hnoun hdepth hk hB hX hD h1 h2 (d + 18) (fun {S} hH2 yo ya ydp yho yha yhdp yhaa yhB yhX yhD yhoo he => t_mo_holds__q hH2 yo ya ydp yho yha yhdp yhaa yhB yhX yhD yhoo d)

def md_mo_is__q : List rec := [(904, 905, 154, 155)]
abbrev Q_mo_is__q (S : sS) (o : Int) (a : Int) : pst := fun r S1 => HI S1 ∧ FR md_mo_is__q S S1 ∧ (∃ z : Int, r = some (iv z) ∧ (-1 ≤ z ∧ z ≤ 1) ∧ (((o < 0 ∨ Xi S 904 19 ≤ o ∨ a < 0 ∨ Xi S 904 23 ≤ a) → z = -1) ∧ (0 ≤ o → o < Xi S 904 19 → 0 ≤ a → a < Xi S 904 23 → (blR S (Xi S 918 o.toNat) (Xi S 921 a.toNat) = 0 → z = -1) ∧ (blR S (Xi S 918 o.toNat) (Xi S 921 a.toNat) ≠ 0 → (hoR S 8 o a = 0 → z = 0) ∧ (hoR S 8 o a ≠ 0 → z = 1)))))
set_option maxRecDepth 100000 in
theorem t_mo_is__q {S : sS} (hH : HI S) (o : Int) (a : Int) (ho : -2147483648 ≤ o ∧ o ≤ 2147483647) (ha : -2147483648 ≤ a ∧ a ≤ 2147483647) (hB : ABV S) (hX : TXM S) (hD : DEFM S) (d : Nat) : Mt lay0 (d + 26) m_mo_is [.ref 904, iv o, iv a] S (Q_mo_is__q S o a) := by
  refine Mt_R rfl rfl ?_
  have hF : FR md_mo_is__q S S := FR.rf
  have w1 : 0 ≤ Xi S 904 19 ∧ Xi S 904 19 ≤ 24 := hH.c _ _
  have w2 : 0 ≤ Xi S 904 23 ∧ Xi S 904 23 ≤ 24 := hH.c _ _
  have hc3 : 0 ≤ Xi S 904 23 ∧ Xi S 904 23 ≤ 24 := hH.c _ _
  have hc19 : 0 ≤ Xi S 904 19 ∧ Xi S 904 19 ≤ 24 := hH.c _ _
  have hc32 : 0 ≤ Xi S 904 32 ∧ Xi S 904 32 ≤ 12 := hH.c _ _
  refine l_iload_n rfl rfl ?_
  refine l_iconst rfl ?_
  refine l_aload_n rfl rfl ?_
  refine l_gfi rfl rfl rfl rfl rfl ?_
  refine l_iconst rfl ?_
  refine l_isub rfl ?_
  refine l_callS rfl rfl (by decide) rfl (t_mo_in hH o 0 ((Xi S 904 19) - 1) ⟨by omega, by omega⟩ ⟨by omega, by omega⟩ ⟨by omega, by omega⟩ _) ?_
  rintro _ _ ⟨rfl, z4, rfl, w4, w3⟩
  show Rl _ _ _ _ _ [iv z4] _ _
  refine l_if_eq rfl rfl (by unfold rg; omega) (fun w5 => ?_) (fun w6 => ?_)
  · refine l_iconst rfl ?_
    refine l_ireturn rfl rfl ?_
    exact ⟨hH, hF, _, rfl, ⟨by omega, by omega⟩, (by first | omega | (have t := KH; rw [show (8 - (0 : Int)).toNat = 8 by rfl] at qh; omega))⟩
  · refine l_iload_n rfl rfl ?_
    refine l_iconst rfl ?_
    refine l_aload_n rfl rfl ?_
    refine l_gfi rfl rfl rfl rfl rfl ?_
    refine l_iconst rfl ?_
    refine l_isub rfl ?_
    refine l_callS rfl rfl (by decide) rfl (t_mo_in hH a 0 ((Xi S 904 23) - 1) ⟨by omega, by omega⟩ ⟨by omega, by omega⟩ ⟨by omega, by omega⟩ _) ?_
    rintro _ _ ⟨rfl, z8, rfl, w8, w7⟩
    show Rl _ _ _ _ _ [iv z8] _ _
    refine l_if_eq rfl rfl (by unfold rg; omega) (fun w9 => ?_) (fun w10 => ?_)
    · refine l_iconst rfl ?_
      refine l_ireturn rfl rfl ?_
      exact ⟨hH, hF, _, rfl, ⟨by omega, by omega⟩, (by first | omega | (have t := KH; rw [show (8 - (0 : Int)).toNat = 8 by rfl] at qh; omega))⟩
    · refine l_aload_n rfl rfl ?_
      refine l_aload_n rfl rfl ?_
      refine l_gfr rfl rfl rfl rfl rfl (hH.r 904 20 918 rfl) ?_
      refine l_iload_n rfl rfl ?_
      refine l_iaload (n := 24) rfl rfl (by omega) (by omega) (by unfold rg; omega) ?_
      have w11 : 0 ≤ (Xi S 918 ((o).toNat)) ∧ (Xi S 918 ((o).toNat)) ≤ 15 := hH.c _ _
      refine l_aload_n rfl rfl ?_
      refine l_gfr rfl rfl rfl rfl rfl (hH.r 904 24 921 rfl) ?_
      refine l_iload_n rfl rfl ?_
      refine l_iaload (n := 24) rfl rfl (by omega) (by omega) (by unfold rg; omega) ?_
      have w12 : 0 ≤ (Xi S 921 ((a).toNat)) ∧ (Xi S 921 ((a).toNat)) ≤ 15 := hH.c _ _
      refine l_callV rfl rfl rfl (t_mo_isBelow__2 hH (Xi S 918 ((o).toNat)) (Xi S 921 ((a).toNat)) ⟨by omega, by omega⟩ ⟨by omega, by omega⟩ (by first | assumption | exact (ABV_FR hF rfl (by assumption : ABV S))) _) ?_
      rintro _ _ ⟨rfl, z15, rfl, w15, w13, w14⟩
      show Rl _ _ _ _ _ [iv z15] _ _
      refine l_if_ne rfl rfl (by unfold rg; omega) (fun w16 => ?_) (fun w17 => ?_)
      · refine l_aload_n rfl rfl ?_
        refine l_iload_n rfl rfl ?_
        refine l_iload_n rfl rfl ?_
        refine l_iconst rfl ?_
        refine l_callV rfl rfl rfl (t_mo_holds__q hH o a 0 ⟨by omega, by omega⟩ ⟨by omega, by omega⟩ ⟨by omega, by omega⟩ (Or.inl (by omega)) (by first | assumption | exact (ABV_FR hF rfl (by assumption : ABV S))) (by first | assumption | exact (TXM_FR hF rfl (by assumption : TXM S))) (by first | assumption | exact (DEFM_FR hF rfl (by assumption : DEFM S))) (by omega) _) ?_
        rintro _ T1 ⟨hHT1, w20, z19, rfl, w19, qh⟩
        have hFT1 : FR md_mo_is__q S T1 := FR.tr hF w20 rfl
        show Rl _ _ _ _ _ [iv z19] _ _
        have KH : True := trivial
        refine l_if_eq rfl rfl (by unfold rg; omega) (fun w21 => ?_) (fun w22 => ?_)
        · refine l_iconst rfl ?_
          refine l_ireturn rfl rfl ?_
          exact ⟨hHT1, hFT1, _, rfl, ⟨by omega, by omega⟩, (by first | omega | (have t := KH; rw [show (8 - (0 : Int)).toNat = 8 by rfl] at qh; omega))⟩
        · refine l_iconst rfl ?_
          refine l_goto rfl rfl ?_
          refine l_ireturn rfl rfl ?_
          exact ⟨hHT1, hFT1, _, rfl, ⟨by omega, by omega⟩, (by first | omega | (have t := KH; rw [show (8 - (0 : Int)).toNat = 8 by rfl] at qh; omega))⟩
      · refine l_iconst rfl ?_
        refine l_ireturn rfl rfl ?_
        exact ⟨hH, hF, _, rfl, ⟨by omega, by omega⟩, (by first | omega | (have t := KH; rw [show (8 - (0 : Int)).toNat = 8 by rfl] at qh; omega))⟩
end
