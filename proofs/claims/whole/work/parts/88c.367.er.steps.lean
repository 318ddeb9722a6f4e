section
/-! PHRASES and rules of both, one after another -/
theorem blR_k {S T : sS} (x : ∀ j, Xi T 917 j = Xi S 917 j) (k o : Int) : blR T k o = blR S k o := by
  have e : ∀ (n : Nat) (i : Int), blN T o n i = blN S o n i := fun n => by
    induction n with
    | zero => intro i; rfl
    | succ n ih => intro i; unfold blN; rw [x, ih]
  exact e 17 k
theorem nko_k {S T : sS} {r : Nat} {o : Int} (q : KEP cBS2 cBw S T) (h : NKO S r o) : NKO T r o := by
  have b := blR_k (q.x 917 rfl)
  unfold NKO nM nkR at h ⊢
  rw [q.x 979 rfl, q.x 980 rfl, q.x 981 rfl, q.x 942 rfl, q.x 918 rfl, q.x 918 rfl, b]
  exact h
theorem nnr_k {U V : sS} {a no o : Int} (q : KEP cBU cBv U V) (h : NNR U a no o) : NNR V a no o := by
  unfold NNR at h ⊢
  rw [q.x 5 rfl, q.x 19 rfl]
  exact h
noncomputable def PHW (U : sS) (r n : Nat) (no : Int) : sS × Int := phC (trC n) no (Xi U (248 + r) 6 - 0).toNat (Xi U (248 + r) 7 + Xi U (248 + r) 4 + Xi U (248 + r) 5 + 0).toNat U 0
def RNX (S T : sS) (r n : Nat) (o k : Int) : Prop := ∀ (U : sS) (no : Int), RT U S → (r : Int) < Xi U 246 2 → NNR U (Xi S 979 r) no o → NKO S r o → ∃ V : sS, RT V T ∧ KEP cBU cBv U V ∧ PHW U r n no = phC (trC n) no (Xi U (248 + r) 6 - k).toNat (Xi U (248 + r) 7 + Xi U (248 + r) 4 + Xi U (248 + r) 5 + k).toNat V 0
def RNF (S T : sS) (r n : Nat) (o z : Int) : Prop := ∀ (U : sS) (no : Int), RT U S → (r : Int) < Xi U 246 2 → NNR U (Xi S 979 r) no o → NKO S r o → ∃ (V : sS) (st : Int), RT V T ∧ KEP cBU cBv U V ∧ PHW U r n no = (V, st) ∧ (Xi V 900 6 = 0 → (st ≠ 0 ↔ z ≠ 0))
theorem rnx_0 {S : sS} {r n : Nat} {o : Int} : RNX S S r n o 0 := fun U _ h _ _ _ => ⟨U, h, kep_rf, rfl⟩
theorem ru_c {U S : sS} {r : Nat} (a : RLB U S) (hr : (r : Int) < Xi U 246 2) : Xi U (248 + r) 6 = Xi S 987 r ∧ Xi U (248 + r) 5 = Xi S 985 r ∧ 0 ≤ Xi S 985 r ∧ 0 ≤ Xi U (248 + r) 7 ∧ 0 ≤ Xi U (248 + r) 4 := by
  obtain ⟨_, _, u5, u6, u7, _⟩ := a.2.2.2.2.2 r hr
  exact ⟨u6.1, u5.1, u5.2.1, u7.1, u7.2.1⟩
theorem ru_k {U V : sS} {r j : Nat} (k : KEP cBU cBv U V) (hr : r < 24) : Xi V (248 + r) j = Xi U (248 + r) j := k.x (248 + r) (inK_i (a := 221) (b := 876) (by decide) (by omega) (by omega)) j
theorem r24 {U S : sS} {r : Nat} (a : RLB U S) (hr : (r : Int) < Xi U 246 2) : r < 24 := by have := a.2.2.2.1.2.2.2.1; omega
theorem rnx_e {S T : sS} {r n : Nat} {o k z : Int} (h : RNX S T r n o k) (e : Xi S 987 r ≤ k ∨ Xi T 904 162 ≠ 0) (hz : z = 0) : RNF S T r n o z := fun U no a hr hn nk => by
  obtain ⟨V, v1, v2, v3⟩ := h U no a hr hn nk
  refine ⟨V, 0, v1, v2, ?_, fun _ => by omega⟩
  rw [v3]
  exact ph_e (by
    rcases e with e | e
    · exact Or.inl (by rw [(ru_c a.1 hr).1]; exact e)
    · exact Or.inr (Or.inr (fun q => e (v1.2.2.1.1.1 q))))
theorem rnx_3 {S T A : sS} {r n : Nat} {o k z : Int} (h : RNX S T r n o k) (h0 : 0 ≤ k) (hk : k < Xi S 987 r) (ne : Xi T 904 162 = 0) (hd : Xi T 904 161 = 300) (e : A = uI T 904 162 (Int32.ofInt 1)) (hz : z = 0) : RNF S A r n o z := fun U no a hr hn nk => by
  obtain ⟨V, v1, v2, v3⟩ := h U no a hr hn nk
  obtain ⟨w1, w2, w3⟩ := rt_e v1 ne hd e
  have c := ru_c a.1 hr
  have s := ph_s (tr := trC n) (noun := no) (c := Xi U (248 + r) 6) (v := k) (a := Xi U (248 + r) 7 + Xi U (248 + r) 4 + Xi U (248 + r) 5) (st := 0) (f := if Xi (phI V) (276 + (Xi U (248 + r) 7 + Xi U (248 + r) 4 + Xi U (248 + r) 5 + k).toNat) 0 = 11 then 1 else 0) (cl := (Xi U (248 + r) 7 + Xi U (248 + r) 4 + Xi U (248 + r) 5 + k).toNat) (S := V) (T := phI V) (by omega) (by omega) rfl (v1.2.2.1.1.2 ne) (by omega) (ps_1 rfl w3) (by split <;> omega)
  exact ⟨phI V, _, w1, v2.tr w2, by rw [v3, s]; exact ph_e (Or.inr (Or.inr w3)), fun q => absurd q w3⟩
/-- which form a phrase has -/
theorem rph_m {U S : sS} {r k : Nat} (a : RLB U S) (hr : (r : Int) < Xi U 246 2) (hk : (k : Int) < Xi S 987 r) : (Xi S 976 ((Xi S 986 r).toNat + k) = 0 → Xi U (276 + clP U S r k) 0 = 7) ∧ (Xi S 976 ((Xi S 986 r).toNat + k) ≠ 0 → Xi U (276 + clP U S r k) 0 ≠ 7) ∧ (Xi S 976 ((Xi S 986 r).toNat + k) = 6 → Xi U (276 + clP U S r k) 0 = 11) ∧ (Xi S 976 ((Xi S 986 r).toNat + k) ≠ 6 → Xi U (276 + clP U S r k) 0 ≠ 11) ∧ 0 ≤ Xi S 976 ((Xi S 986 r).toNat + k) ∧ Xi S 976 ((Xi S 986 r).toNat + k) ≤ 6 := by
  obtain ⟨fm, n, w, hh, t, g, m, c, p1, p2⟩ := rph_q a hr hk
  have c0 := c.1
  rw [c0]
  rcases p2 with ⟨x, _, _, f⟩ | ⟨x, y, _⟩ | ⟨x, y, _⟩ | ⟨x, y, _⟩ | ⟨x, y, _⟩ | ⟨x, y⟩
  · have e : fm ≠ 7 ∧ fm ≠ 11 := by
      rcases f with ⟨k0, _⟩ | ⟨k0, _⟩ | ⟨k0, _⟩ | ⟨k0, _⟩ | ⟨k0, _⟩ | ⟨k0, _⟩ | ⟨k0, _⟩ <;> omega
    omega
  all_goals omega
/-- one phrase more -/
theorem rnx_g {S T A B : sS} {r n : Nat} {o k : Int} (h : RNX S T r n o k) (q : KEP cBS2 cBw S T) (h0 : 0 ≤ k) (hk : k < Xi S 987 r) (ne : Xi T 904 162 = 0) (hd : 0 ≤ Xi T 904 161 ∧ Xi T 904 161 < 300) (eA : A = uI T 904 161 (Int32.ofInt (Xi T 904 161 + 1))) (h6 : Xi A 976 ((Xi A 986 r).toNat + k.toNat) ≠ 6)
    (act : ∀ (V : sS) (no : Int), RT V A → (r : Int) < Xi V 246 2 → NNR V (Xi A 979 r) no o → NKO A r o → (k.toNat : Int) < Xi A 987 r → ∃ W : sS, RT W B ∧ KEP cBU cBv V W ∧ (Xi V (276 + clP V A r k.toNat) 0 = 7 → W = wlF V (syA V (clP V A r k.toNat) no ++ [10])) ∧ (Xi V (276 + clP V A r k.toNat) 0 ≠ 7 → W = pfF (trC n) V (clP V A r k.toNat) no)) : RNX S B r n o (k + 1) := fun U no a hr hn nk => by
  obtain ⟨V, v1, v2, v3⟩ := h U no a hr hn nk
  obtain ⟨w1, w2, w3⟩ := rt_p v1 ne hd eA
  have r4 := r24 a.1 hr
  have kA : KEP cBS2 cBw T A := by rw [eA]; exact (FR.wI FR.rf rfl : FR [(904, 905, 161, 162)] T _).kep rfl
  have kU := v2.tr w2
  have hr1 : (r : Int) < Xi (phI V) 246 2 := by rw [kU.x 246 (by decide)]; exact hr
  have e979 : Xi A 979 r = Xi S 979 r := (kA.x 979 rfl r).trans (q.x 979 rfl r)
  have e987 : Xi A 987 r = Xi S 987 r := (kA.x 987 rfl r).trans (q.x 987 rfl r)
  obtain ⟨W, x1, x2, x3, x4⟩ := act (phI V) no w1 hr1 (by rw [e979]; exact nnr_k kU hn) (nko_k (q.tr kA) nk) (by omega)
  have cU := ru_c a.1 hr
  have cV := ru_c w1.1 hr1
  have ecl : (Xi U (248 + r) 7 + Xi U (248 + r) 4 + Xi U (248 + r) 5 + k).toNat = clP (phI V) A r k.toNat := by
    unfold clP
    have y7 := ru_k (j := 7) kU r4
    have y4 := ru_k (j := 4) kU r4
    have y5 := ru_k (j := 5) kU r4
    omega
  have ph : W = phS (trC n) no V (clP (phI V) A r k.toNat) := by
    by_cases f : Xi (phI V) (276 + clP (phI V) A r k.toNat) 0 = 7
    · exact ps_2 rfl w3 f (x3 f)
    · exact ps_3 rfl w3 f (x4 f)
  have f11 := (rph_m (k := k.toNat) w1.1 hr1 (by omega)).2.2.2.1 h6
  have s := ph_s (tr := trC n) (noun := no) (c := Xi U (248 + r) 6) (v := k) (a := Xi U (248 + r) 7 + Xi U (248 + r) 4 + Xi U (248 + r) 5) (st := 0) (f := 0) (cl := clP (phI V) A r k.toNat) (S := V) (T := W) (by omega) (by omega) rfl (v1.2.2.1.1.2 ne) (by omega) ph (Or.inr ⟨f11, rfl⟩)
  exact ⟨W, x1, kU.tr x2, by rw [v3, s]⟩
/-- stop the action -/
theorem rnx_6 {S T A : sS} {r n : Nat} {o k z : Int} (h : RNX S T r n o k) (q : KEP cBS2 cBw S T) (h0 : 0 ≤ k) (hk : k < Xi S 987 r) (ne : Xi T 904 162 = 0) (hd : 0 ≤ Xi T 904 161 ∧ Xi T 904 161 < 300) (eA : A = uI T 904 161 (Int32.ofInt (Xi T 904 161 + 1))) (h6 : ¬ (0 ≤ Xi A 976 ((Xi A 986 r).toNat + k.toNat) ∧ Xi A 976 ((Xi A 986 r).toNat + k.toNat) ≤ 5)) (hz : z = 1) : RNF S A r n o z := fun U no a hr hn nk => by
  obtain ⟨V, v1, v2, v3⟩ := h U no a hr hn nk
  obtain ⟨w1, w2, w3⟩ := rt_p v1 ne hd eA
  have r4 := r24 a.1 hr
  have kA : KEP cBS2 cBw T A := by rw [eA]; exact (FR.wI FR.rf rfl : FR [(904, 905, 161, 162)] T _).kep rfl
  have kU := v2.tr w2
  have hr1 : (r : Int) < Xi (phI V) 246 2 := by rw [kU.x 246 (by decide)]; exact hr
  have e987 : Xi A 987 r = Xi S 987 r := (kA.x 987 rfl r).trans (q.x 987 rfl r)
  have cU := ru_c a.1 hr
  have cV := ru_c w1.1 hr1
  have ecl : (Xi U (248 + r) 7 + Xi U (248 + r) 4 + Xi U (248 + r) 5 + k).toNat = clP (phI V) A r k.toNat := by
    unfold clP
    have y7 := ru_k (j := 7) kU r4
    have y4 := ru_k (j := 4) kU r4
    have y5 := ru_k (j := 5) kU r4
    omega
  have ff := rph_m (k := k.toNat) w1.1 hr1 (by omega)
  have f11 := ff.2.2.1 (by omega)
  have ph : phI V = phS (trC n) no V (clP (phI V) A r k.toNat) := ps_3 rfl w3 (by omega) (pf_n (by omega))
  have s := ph_s (tr := trC n) (noun := no) (c := Xi U (248 + r) 6) (v := k) (a := Xi U (248 + r) 7 + Xi U (248 + r) 4 + Xi U (248 + r) 5) (st := 0) (f := 1) (cl := clP (phI V) A r k.toNat) (S := V) (T := phI V) (by omega) (by omega) rfl (v1.2.2.1.1.2 ne) (by omega) ph (Or.inl ⟨f11, rfl⟩)
  exact ⟨phI V, 1, w1, kU, by rw [v3, s]; exact ph_e (Or.inr (Or.inl (by decide))), fun _ => by omega⟩
/-- TRY -/
def TRX (S T : sS) (q : Nat) (o : Int) (n : Nat) : Prop := ∀ (U : sS) (x : Int), RT U S → ((Xi S 970 q ≠ 0 ∧ x = -1 ∧ Xi U 19 (Xi S 972 q).toNat = -1) ∨ (Xi S 970 q = 0 ∧ x = thR (-1) o (Xi S 971 q) ∧ (0 ≤ x ∧ x < Xi U 5 2) ∧ 0 ≤ Xi U 19 (Xi S 972 q).toNat)) → RT (trC n U (Xi S 972 q) x) T ∧ KEP cBU cBv U (trC n U (Xi S 972 q) x)
theorem pa_try {U S T : sS} {r k n : Nat} {no o : Int} (h : RT U S) (hr : (r : Int) < Xi U 246 2) (hk : (k : Int) < Xi S 987 r) (h6 : Xi S 976 ((Xi S 986 r).toNat + k) = 5) (hn : NNR U (Xi S 979 r) no o) (pq : PQ S (nM S r) ((Xi S 986 r).toNat + k)) {q : Nat} (hq : (q : Int) = Xi S 977 ((Xi S 986 r).toNat + k)) (z : TRX S T q o n) : RT (pfF (trC n) U (clP U S r k) no) T ∧ KEP cBU cBv U (pfF (trC n) U (clP U S r k) no) := by
  obtain ⟨a, _⟩ := id h
  obtain ⟨fm, n1, w, hh, t, g, m, c, p1, p2⟩ := rph_q a hr hk
  have eq : q = (Xi S 984 r + Xi S 985 r).toNat + k := by omega
  subst eq
  obtain ⟨c0, c1, c2, c3, c4, c5, c6⟩ := c
  rcases p2 with ⟨x, _⟩ | ⟨x, _⟩ | ⟨x, _⟩ | ⟨x, _⟩ | ⟨_, e10, f2, f3, f4⟩ | ⟨x, _⟩
  · omega
  · omega
  · omega
  · omega
  · have key : pfF (trC n) U (clP U S r k) no = trC n U hh (whU no w) := (pf_10 (tr := trC n) (by omega) (by rw [c2]) (by rw [c3])).symm
    rw [key, ← f2]
    refine z U (whU no w) h ?_
    rcases f4 with ⟨g1, g2, g3⟩ | ⟨g1, g2, g3⟩
    · exact Or.inl ⟨by omega, by rw [g2]; rfl, by rw [f2]; exact g3⟩
    · have n2 := (pq.2.2.2.2.2 h6).2.1
      rw [p1, show ((((Xi S 984 r + Xi S 985 r).toNat + k : Nat) : Int)).toNat = (Xi S 984 r + Xi S 985 r).toNat + k by omega] at n2
      have w2 : w = -2 → no = o ∧ 0 ≤ no ∧ no < Xi U 5 2 := fun q => nno a hr hn g2 (n2 g1) q
      refine Or.inr ⟨g1, ?_, tmk_lt g2 (fun q => (w2 q).2), by rw [f2]; exact g3⟩
      rw [thR_n (no := no) (fun q => (w2 (tmk_2 g2 q)).1)]
      exact tmk_w g2 (by rw [if_neg (by decide)])
  · omega
/-- actions, in both -/
def ACX (S T : sS) (a o : Int) (n : Nat) (z : Int) : Prop := ∀ U : sS, RT U S → (Xi S 942 a.toNat = -2 → 0 ≤ o ∧ o < 6) → ∃ (V : sS) (y : Int), doC (trC n) U a o = (V, y) ∧ RT V T ∧ KEP cBU cBv U V ∧ (Xi V 900 6 = 0 → y = z)
theorem trx_8 {S : sS} {q : Nat} {o dq : Int} (h : dq = 8) : TRX S S q o (8 - dq).toNat := fun U x a _ => by
  rw [show (8 - dq).toNat = 0 by omega]
  exact ⟨a, kep_rf⟩
theorem trx_1 {S T : sS} {q : Nat} {o dq z : Int} (hd : 0 ≤ dq ∧ dq < 8) (hq : 0 ≤ Xi S 972 q ∧ Xi S 972 q < Xi S 904 49) (h : Xi S 970 q ≠ 0) (ac : ACX S T (Xi S 972 q) (-1) (8 - (dq + 1)).toNat z) : TRX S T q o (8 - dq).toNat := fun U x a c => by
  rcases c with ⟨_, c1, c2⟩ | ⟨c, _⟩
  · have c8 := a.1.1.2.2.1.2.2.2.2.2.2.2.2
    have k2 := a.1.1.2.2.2.2.2.2.2.2.1.2 (Xi S 972 q).toNat (by omega)
    obtain ⟨V, y, v1, v2, v3, _⟩ := ac U a (fun e => by omega)
    rw [← c1] at v1
    have t := tr_1 (w := x) hd.2 (Or.inl c2) v1.symm
    rw [← t]
    exact ⟨v2, v3⟩
  · exact absurd c h
theorem trx_2 {S T : sS} {q : Nat} {o dq z x0 : Int} (hd : 0 ≤ dq ∧ dq < 8) (h : Xi S 970 q = 0) (e : thR (-1) o (Xi S 971 q) = x0) (hq : 0 ≤ Xi S 972 q ∧ Xi S 972 q < Xi S 904 49) (b : blR S (Xi S 918 x0.toNat) (Xi S 942 (Xi S 972 q).toNat) ≠ 0) (ac : ACX S T (Xi S 972 q) x0 (8 - (dq + 1)).toNat z) : TRX S T q o (8 - dq).toNat := fun U x a c => by
  rcases c with ⟨c, _⟩ | ⟨_, c1, c2, c3⟩
  · exact absurd h c
  · have k1 := a.1.1.2.2.2.2.2.2.2.2.2.1.1.2 x.toNat (by omega)
    have c8 := a.1.1.2.2.1.2.2.2.2.2.2.2.2
    have k2 := a.1.1.2.2.2.2.2.2.2.2.1.2 (Xi S 972 q).toNat (by omega)
    obtain ⟨V, y, v1, v2, v3, _⟩ := ac U a (fun e => by omega)
    rw [← e, ← c1] at v1
    have ek : isK U (Xi U 21 x.toNat) (Xi U 19 (Xi S 972 q).toNat) = blR S (Xi S 918 x.toNat) (Xi S 942 (Xi S 972 q).toNat) := by rw [k1.1, k2.1]; exact isK_bl a.1.1.2.2.2.1 k1.2.2
    have t := tr_1 (w := x) hd.2 (Or.inr (by rw [ek, c1, e]; exact b)) v1.symm
    rw [← t]
    exact ⟨v2, v3⟩
theorem trx_3 {S : sS} {q : Nat} {o dq x0 : Int} (h : Xi S 970 q = 0) (e : thR (-1) o (Xi S 971 q) = x0) (hq : 0 ≤ Xi S 972 q ∧ Xi S 972 q < Xi S 904 49) (b : blR S (Xi S 918 x0.toNat) (Xi S 942 (Xi S 972 q).toNat) = 0) : TRX S S q o (8 - dq).toNat := fun U x a c => by
  rcases c with ⟨c, _⟩ | ⟨_, c1, c2, c3⟩
  · exact absurd h c
  · have k1 := a.1.1.2.2.2.2.2.2.2.2.2.1.1.2 x.toNat (by omega)
    have c8 := a.1.1.2.2.1.2.2.2.2.2.2.2.2
    have k2 := a.1.1.2.2.2.2.2.2.2.2.1.2 (Xi S 972 q).toNat (by omega)
    have ek : isK U (Xi U 21 x.toNat) (Xi U 19 (Xi S 972 q).toNat) = blR S (Xi S 918 x.toNat) (Xi S 942 (Xi S 972 q).toNat) := by rw [k1.1, k2.1]; exact isK_bl a.1.1.2.2.2.1 k1.2.2
    rw [← tr_0 (dq := dq) (w := x) (Or.inr ⟨by omega, by rw [ek, c1, e]; exact b⟩)]
    exact ⟨a, kep_rf⟩
/-- predicates that rows carry -/
def DR0 (S : sS) : Prop := Xi S 904 157 = 0
theorem DR0_FR {l : List rec} {S T : sS} (h : FR l S T) (e : (mdf l 904 157 == false) = true) (d : DR0 S) : DR0 T := by
  unfold DR0 at d ⊢
  rw [h.x 904 157 (by simpa using e)]; exact d
theorem NMWD_FR {l : List rec} {S T : sS} (h : FR l S T) (e : (kdis l [(912, 917)] && mD l [15]) = true) (d : NMWD S) : NMWD T := by
  rw [Bool.and_eq_true] at e
  have k := h.smk e.1
  intro i i1 i2
  rw [mD_x h e.2 15 (by decide)] at i1
  rw [k.x 914 rfl] at i2
  exact wdx_f (k.x 912 rfl) (fun j => by unfold Xj; rw [(k 913 j rfl).2.1]) (k.x 916 rfl) (d i i1 i2)
end
section
abbrev Q_mo_keyOf__b (S : sS) (w : Int) : pst := fun r S1 => S = S1 ∧ (∃ z : Int, r = some (iv z) ∧ (0 ≤ z ∧ z ≤ 154) ∧ (rgL w → z = kyr S w))
theorem t_mo_keyOf__b {S : sS} (hH : HI S) (w : Int) (d : Nat) : Mt lay0 (d + 1) m_mo_keyOf [.ref 904, jw w] S (Q_mo_keyOf__b S w) := by
  refine Mt_m (Mt_i (P := rgL w) (t_mo_keyOf hH w d) (fun hp => t_mo_keyOf__p hH.1 w hp d)) (fun r S1 h => ?_)
  obtain ⟨⟨h1, z, e, rz⟩, g0⟩ := h
  have G0 : rgL w → z = kyr S w := fun hp => by
    obtain ⟨_, z2, e2, rz2, q0⟩ := g0 hp
    have ez : z2 = z := iv_i (e2.symm.trans e) (by unfold rg; omega) (by unfold rg; omega)
    subst ez
    exact q0
  exact ⟨h1, z, e, rz, G0⟩

def md_mo_words__b : List rec := [(904, 905, 160, 161), (994, 995, 0, 100000)]
abbrev Q_mo_words__b (S : sS) (from_ : Int) (end_ : Int) : pst := fun r S1 => HI S1 ∧ FR md_mo_words__b S S1 ∧ (∃ z : Int, r = some (iv z) ∧ (-1 ≤ z ∧ z ≤ 5000) ∧ (z ≠ -1 → from_ < z ∧ z ≤ end_) ∧ (from_ ≤ end_ → RWO S S1 from_ end_ z))
theorem t_mo_words__b {S : sS} (hH : HI S) (from_ : Int) (end_ : Int) (hfrom_ : 0 ≤ from_ ∧ from_ ≤ 5000) (hend_ : 0 ≤ end_ ∧ end_ ≤ 5000) (d : Nat) : Mt lay0 (d + 4) m_mo_words [.ref 904, iv from_, iv end_] S (Q_mo_words__b S from_ end_) := by
  refine Mt_m (Mt_i (P := from_ ≤ end_) (t_mo_words hH from_ end_ hfrom_ hend_ d) (fun hp => t_mo_words__p hH.1 from_ end_ hfrom_ hend_ (hi_by hH) hp d)) (fun r S1 h => ?_)
  obtain ⟨⟨h1, h2, z, e, rz, p0⟩, g0⟩ := h
  have G0 : from_ ≤ end_ → RWO S S1 from_ end_ z := fun hp => by
    obtain ⟨_, fr, z2, e2, rz2, q0, q1, q2⟩ := g0 hp
    have ez : z2 = z := iv_i (e2.symm.trans e) (by unfold rg; omega) (by unfold rg; omega)
    subst ez
    exact q0
  exact ⟨h1, h2, z, e, rz, p0, G0⟩

abbrev Q_mo_foundIn__b (S : sS) (from_ : Int) (n : Int) : pst := fun r S1 => S = S1 ∧ (∃ z : Int, r = some (iv z) ∧ (-1 ≤ z ∧ z ≤ 299) ∧ (z ≠ -1 → z < Xi S 904 15) ∧ (True → z = fiR S from_ n))
theorem t_mo_foundIn__b {S : sS} (hH : HI S) (from_ : Int) (n : Int) (hfrom_ : 0 ≤ from_ ∧ from_ ≤ 64) (hn : -64 ≤ n ∧ n ≤ 64) (hn : from_ + n ≤ 64) (d : Nat) : Mt lay0 (d + 2) m_mo_foundIn [.ref 904, iv from_, iv n] S (Q_mo_foundIn__b S from_ n) := by
  refine Mt_m (Mt_i (P := True) (t_mo_foundIn hH from_ n hfrom_ (by omega) hn d) (fun hp => t_mo_foundIn__p hH.1 from_ n hfrom_ (by omega) hn (hi_ls hH) (by have t := hH.c 904 15; exact t.1) d)) (fun r S1 h => ?_)
  obtain ⟨⟨h1, z, e, rz, p0⟩, g0⟩ := h
  have G0 : True → z = fiR S from_ n := fun hp => by
    obtain ⟨_, z2, e2, rz2, q0⟩ := g0 hp
    have ez : z2 = z := iv_i (e2.symm.trans e) (by unfold rg; omega) (by unfold rg; omega)
    subst ez
    exact q0
  exact ⟨h1, z, e, rz, p0, G0⟩

abbrev Q_mo_isArt__q (S : sS) (k : Int) : pst := fun r S1 => S = S1 ∧ (∃ z : Int, r = some (iv z) ∧ (0 ≤ z ∧ z ≤ 1) ∧ (z = 1 → 100 ≤ k ∧ k ≤ 103) ∧ (z = 0 → ¬ (100 ≤ k ∧ k ≤ 103)))
set_option maxRecDepth 100000 in
theorem t_mo_isArt__q {S : sS} (hH : HI S) (k : Int) (hk : -2147483648 ≤ k ∧ k ≤ 2147483647) (d : Nat) : Mt lay0 (d + 1) m_mo_isArt [iv k] S (Q_mo_isArt__q S k) := by
  refine Mt_R rfl rfl ?_
  refine l_iload_n rfl rfl ?_
  refine l_bipush rfl rfl ?_
  refine l_icmp_lt rfl rfl (by unfold rg; omega) (by unfold rg; omega) (fun w1 => ?_) (fun w2 => ?_)
  · refine l_iconst rfl ?_
    refine l_ireturn rfl rfl ?_
    exact ⟨rfl, _, rfl, ⟨by omega, by omega⟩, (by first | assumption | omega), (by omega)⟩
  · refine l_iload_n rfl rfl ?_
    refine l_bipush rfl rfl ?_
    refine l_icmp_gt rfl rfl (by unfold rg; omega) (by unfold rg; omega) (fun w3 => ?_) (fun w4 => ?_)
    · refine l_iconst rfl ?_
      refine l_ireturn rfl rfl ?_
      exact ⟨rfl, _, rfl, ⟨by omega, by omega⟩, (by first | assumption | omega), (by omega)⟩
    · refine l_iconst rfl ?_
      refine l_goto rfl rfl ?_
      refine l_ireturn rfl rfl ?_
      exact ⟨rfl, _, rfl, ⟨by omega, by omega⟩, (by first | assumption | omega), (by omega)⟩
/-! SAY: things in [ ], when they are written -/
def ITW (S : sS) (a z : Int) : Prop := (itW S a ≠ -2 → z = itW S a) ∧ (itW S a = -2 → Xi S 904 158 ≠ -1 → z = -2)
theorem itw_1 {S : sS} {a : Int} (h : 0 < Xi S 904 160 - a ∧ ikR S (Xi S 904 160 - 1) = 153) (g : Xi S 904 160 - a = 1 ∨ (Xi S 904 160 - a = 2 ∧ ikR S a = 102)) : itW S a = -2 := by unfold itW; rw [if_pos h, if_pos g]
theorem itw_2 {S : sS} {a : Int} (h : 0 < Xi S 904 160 - a ∧ ikR S (Xi S 904 160 - 1) = 153) (g : ¬ (Xi S 904 160 - a = 1 ∨ (Xi S 904 160 - a = 2 ∧ ikR S a = 102))) : itW S a = -9 := by unfold itW; rw [if_pos h, if_neg g]
theorem itw_3 {S : sS} {a f k z : Int} (h : ¬ (0 < Xi S 904 160 - a ∧ ikR S (Xi S 904 160 - 1) = 153)) (hf : f = (if 0 < Xi S 904 160 - a ∧ 100 ≤ ikR S a ∧ ikR S a ≤ 103 then a + 1 else a)) (hk : k = fiR S f (Xi S 904 160 - f)) (hz : z = (if k ≠ -1 ∧ Xi S 914 k.toNat = 4 then Xi S 915 k.toNat else -9)) : z = itW S a := by
  unfold itW; rw [if_neg h, ← hf, ← hk]; exact hz
theorem iw_1 {S : sS} {a : Int} (e : itW S a = -2) : ITW S a (-2) := ⟨fun q => absurd e q, fun _ _ => rfl⟩
theorem iw_2 {S : sS} {a z : Int} (e : itW S a = -2) (h : Xi S 904 158 = -1) : ITW S a z := ⟨fun q => absurd e q, fun _ q => absurd h q⟩
theorem iw_3 {S : sS} {a z : Int} (e : z = itW S a) : ITW S a z := ⟨fun _ => e, fun q _ => by rw [e]; exact q⟩

abbrev Q_mo_insideThing__q (S : sS) (from_ : Int) : pst := fun r S1 => S = S1 ∧ (∃ z : Int, r = some (iv z) ∧ (-9 ≤ z ∧ z ≤ 23) ∧ (z ≠ -9 → z ≠ -2 → 0 ≤ z ∧ z < Xi S 904 19) ∧ (z = -2 → Xi S 904 157 = 0 → Xi S 904 158 ≠ -1) ∧ (ITW S from_ z))
set_option maxRecDepth 100000 in
theorem t_mo_insideThing__q {S : sS} (hH : HI S) (from_ : Int) (hfrom_ : 0 ≤ from_ ∧ from_ ≤ 64) (hM : LXM S) (hdy : DR0 S) (d : Nat) : Mt lay0 (d + 3) m_mo_insideThing [.ref 904, iv from_] S (Q_mo_insideThing__q S from_) := by
  refine Mt_R rfl rfl ?_
  have w1 : 0 ≤ Xi S 904 157 ∧ Xi S 904 157 ≤ 1 := hH.c _ _
  have w2 : -1 ≤ Xi S 904 158 ∧ Xi S 904 158 ≤ 23 := hH.c _ _
  have w3 : 0 ≤ Xi S 904 19 ∧ Xi S 904 19 ≤ 24 := hH.c _ _
  have hc19 : 0 ≤ Xi S 904 19 ∧ Xi S 904 19 ≤ 24 := hH.c _ _
  have hd0 : Xi S 904 157 = 0 := hdy
  have h160 : 0 ≤ Xi S 904 160 ∧ Xi S 904 160 ≤ 64 := hH.c _ _
  refine l_aload_n rfl rfl ?_
  refine l_gfi rfl rfl rfl rfl rfl ?_
  have w4 : 0 ≤ (Xi S 904 160) ∧ (Xi S 904 160) ≤ 64 := hH.c _ _
  refine l_iload_n rfl rfl ?_
  refine l_isub rfl ?_
  refine l_istore_n rfl rfl rfl ?_
  refine l_iload_n rfl rfl ?_
  refine l_if_le rfl rfl (by unfold rg; omega) (fun w5 => ?_) (fun w6 => ?_)
  · refine l_iload_n rfl rfl ?_
    have N101 : ¬ (0 < Xi S 904 160 - from_ ∧ ikR S (Xi S 904 160 - 1) = 153) := by first | (have t := x23; rw [← x23]; omega) | omega
    refine l_if_le rfl rfl (by unfold rg; omega) (fun w7 => ?_) (fun w8 => ?_)
    · refine l_iload_n rfl rfl ?_
      refine l_istore_n rfl rfl rfl ?_
      refine l_aload_n rfl rfl ?_
      have F129 : from_ = (if 0 < Xi S 904 160 - from_ ∧ 100 ≤ ikR S from_ ∧ ikR S from_ ≤ 103 then from_ + 1 else from_) := by first | (have t := x112; rw [← x112]; first | exact (if_pos (by omega)).symm | exact (if_neg (by omega)).symm) | exact (if_neg (by omega)).symm
      refine l_iload_n rfl rfl ?_
      refine l_aload_n rfl rfl ?_
      refine l_gfi rfl rfl rfl rfl rfl ?_
      refine l_iload_n rfl rfl ?_
      refine l_isub rfl ?_
      have w9 : 0 ≤ Xi S 904 15 ∧ Xi S 904 15 ≤ 300 := hH.c _ _
      refine l_callV rfl rfl rfl (t_mo_foundIn__b hH from_ ((Xi S 904 160) - from_) ⟨by omega, by omega⟩ ⟨by omega, by omega⟩ (by first | assumption | omega) _) ?_
      rintro _ _ ⟨rfl, z11, rfl, w11, w10, f137⟩
      show Rl _ _ _ _ _ [iv z11] _ _
      refine l_istore rfl rfl rfl ?_
      refine l_iload rfl rfl ?_
      refine l_iconst rfl ?_
      refine l_icmp_eq rfl rfl (by unfold rg; omega) (by unfold rg; omega) (fun w12 => ?_) (fun w13 => ?_)
      · refine l_bipush rfl rfl ?_
        refine l_ireturn rfl rfl ?_
        exact ⟨rfl, _, rfl, ⟨by omega, by omega⟩, (by first | assumption | omega), (by first | assumption | omega), (by first | (have t := hd0; exfalso; omega) | (have u := g93; exact iw_1 (itw_1 (by omega) (by omega))) | (have u := x23; first | exact iw_2 (itw_1 (by omega) (by omega)) (by omega) | exact iw_3 (itw_2 (by omega) (by omega)).symm) | exact iw_3 (itw_3 N101 F129 (f137 trivial) (by first | exact (if_pos ⟨by omega, by omega⟩).symm | exact (if_neg (by omega)).symm)))⟩
      · refine l_aload_n rfl rfl ?_
        refine l_gfr rfl rfl rfl rfl rfl (hH.r 904 12 914 rfl) ?_
        refine l_iload rfl rfl ?_
        refine l_iaload (n := 300) rfl rfl (by omega) (by omega) (by unfold rg; omega) ?_
        have w14 : 0 ≤ (Xi S 914 ((z11).toNat)) ∧ (Xi S 914 ((z11).toNat)) ≤ 12 := hH.c _ _
        refine l_iconst rfl ?_
        refine l_icmp_ne rfl rfl (by unfold rg; omega) (by unfold rg; omega) (fun w15 => ?_) (fun w16 => ?_)
        · refine l_bipush rfl rfl ?_
          refine l_ireturn rfl rfl ?_
          exact ⟨rfl, _, rfl, ⟨by omega, by omega⟩, (by first | assumption | omega), (by first | assumption | omega), (by first | (have t := hd0; exfalso; omega) | (have u := g93; exact iw_1 (itw_1 (by omega) (by omega))) | (have u := x23; first | exact iw_2 (itw_1 (by omega) (by omega)) (by omega) | exact iw_3 (itw_2 (by omega) (by omega)).symm) | exact iw_3 (itw_3 N101 F129 (f137 trivial) (by first | exact (if_pos ⟨by omega, by omega⟩).symm | exact (if_neg (by omega)).symm)))⟩
        · refine l_aload_n rfl rfl ?_
          refine l_gfr rfl rfl rfl rfl rfl (hH.r 904 13 915 rfl) ?_
          refine l_iload rfl rfl ?_
          refine l_iaload (n := 300) rfl rfl (by omega) (by omega) (by unfold rg; omega) ?_
          have w17 : 0 ≤ (Xi S 915 ((z11).toNat)) ∧ (Xi S 915 ((z11).toNat)) ≤ 63 := hH.c _ _
          have x165 : (Xi S 915 ((z11).toNat)) < Xi S 904 19 := by have t := lxm (s := 4) hM (k := z11) (by omega) (by omega) (by omega); rw [cM4] at t; exact t
          refine l_goto rfl rfl ?_
          refine l_ireturn rfl rfl ?_
          exact ⟨rfl, _, rfl, ⟨by omega, by omega⟩, (by first | assumption | omega), (by first | assumption | omega), (by first | (have t := hd0; exfalso; omega) | (have u := g93; exact iw_1 (itw_1 (by omega) (by omega))) | (have u := x23; first | exact iw_2 (itw_1 (by omega) (by omega)) (by omega) | exact iw_3 (itw_2 (by omega) (by omega)).symm) | exact iw_3 (itw_3 N101 F129 (f137 trivial) (by first | exact (if_pos ⟨by omega, by omega⟩).symm | exact (if_neg (by omega)).symm)))⟩
    · refine l_aload_n rfl rfl ?_
      refine l_aload_n rfl rfl ?_
      refine l_gfr rfl rfl rfl rfl rfl (hH.r 904 159 994 rfl) ?_
      refine l_iload_n rfl rfl ?_
      refine l_laload (n := 64) rfl rfl (by omega) (by omega) (by unfold rg; omega) ?_
      have w18 : -9223372036854775808 ≤ (Xj S 994 ((from_).toNat)) ∧ (Xj S 994 ((from_).toNat)) < 9223372036854775808 := Xj_rg
      refine l_callV rfl rfl rfl (t_mo_keyOf__b hH (Xj S 994 ((from_).toNat)) _) ?_
      rintro _ _ ⟨rfl, z19, rfl, w19, f112⟩
      show Rl _ _ _ _ _ [iv z19] _ _
      have x112 : z19 = ikR S from_ := by unfold ikR; exact f112 Xj_rg
      refine l_callS rfl rfl (by decide) rfl (t_mo_isArt__q hH z19 ⟨by omega, by omega⟩ _) ?_
      rintro _ _ ⟨rfl, z22, rfl, w22, w20, w21⟩
      show Rl _ _ _ _ _ [iv z22] _ _
      refine l_if_eq rfl rfl (by unfold rg; omega) (fun w23 => ?_) (fun w24 => ?_)
      · refine l_iload_n rfl rfl ?_
        refine l_istore_n rfl rfl rfl ?_
        refine l_aload_n rfl rfl ?_
        have F129 : from_ = (if 0 < Xi S 904 160 - from_ ∧ 100 ≤ ikR S from_ ∧ ikR S from_ ≤ 103 then from_ + 1 else from_) := by first | (have t := x112; rw [← x112]; first | exact (if_pos (by omega)).symm | exact (if_neg (by omega)).symm) | exact (if_neg (by omega)).symm
        refine l_iload_n rfl rfl ?_
        refine l_aload_n rfl rfl ?_
        refine l_gfi rfl rfl rfl rfl rfl ?_
        refine l_iload_n rfl rfl ?_
        refine l_isub rfl ?_
        have w25 : 0 ≤ Xi S 904 15 ∧ Xi S 904 15 ≤ 300 := hH.c _ _
        refine l_callV rfl rfl rfl (t_mo_foundIn__b hH from_ ((Xi S 904 160) - from_) ⟨by omega, by omega⟩ ⟨by omega, by omega⟩ (by first | assumption | omega) _) ?_
        rintro _ _ ⟨rfl, z27, rfl, w27, w26, f137⟩
        show Rl _ _ _ _ _ [iv z27] _ _
        refine l_istore rfl rfl rfl ?_
        refine l_iload rfl rfl ?_
        refine l_iconst rfl ?_
        refine l_icmp_eq rfl rfl (by unfold rg; omega) (by unfold rg; omega) (fun w28 => ?_) (fun w29 => ?_)
        · refine l_bipush rfl rfl ?_
          refine l_ireturn rfl rfl ?_
          exact ⟨rfl, _, rfl, ⟨by omega, by omega⟩, (by first | assumption | omega), (by first | assumption | omega), (by first | (have t := hd0; exfalso; omega) | (have u := g93; exact iw_1 (itw_1 (by omega) (by omega))) | (have u := x23; first | exact iw_2 (itw_1 (by omega) (by omega)) (by omega) | exact iw_3 (itw_2 (by omega) (by omega)).symm) | exact iw_3 (itw_3 N101 F129 (f137 trivial) (by first | exact (if_pos ⟨by omega, by omega⟩).symm | exact (if_neg (by omega)).symm)))⟩
        · refine l_aload_n rfl rfl ?_
          refine l_gfr rfl rfl rfl rfl rfl (hH.r 904 12 914 rfl) ?_
          refine l_iload rfl rfl ?_
          refine l_iaload (n := 300) rfl rfl (by omega) (by omega) (by unfold rg; omega) ?_
          have w30 : 0 ≤ (Xi S 914 ((z27).toNat)) ∧ (Xi S 914 ((z27).toNat)) ≤ 12 := hH.c _ _
          refine l_iconst rfl ?_
          refine l_icmp_ne rfl rfl (by unfold rg; omega) (by unfold rg; omega) (fun w31 => ?_) (fun w32 => ?_)
          · refine l_bipush rfl rfl ?_
            refine l_ireturn rfl rfl ?_
            exact ⟨rfl, _, rfl, ⟨by omega, by omega⟩, (by first | assumption | omega), (by first | assumption | omega), (by first | (have t := hd0; exfalso; omega) | (have u := g93; exact iw_1 (itw_1 (by omega) (by omega))) | (have u := x23; first | exact iw_2 (itw_1 (by omega) (by omega)) (by omega) | exact iw_3 (itw_2 (by omega) (by omega)).symm) | exact iw_3 (itw_3 N101 F129 (f137 trivial) (by first | exact (if_pos ⟨by omega, by omega⟩).symm | exact (if_neg (by omega)).symm)))⟩
          · refine l_aload_n rfl rfl ?_
            refine l_gfr rfl rfl rfl rfl rfl (hH.r 904 13 915 rfl) ?_
            refine l_iload rfl rfl ?_
            refine l_iaload (n := 300) rfl rfl (by omega) (by omega) (by unfold rg; omega) ?_
            have w33 : 0 ≤ (Xi S 915 ((z27).toNat)) ∧ (Xi S 915 ((z27).toNat)) ≤ 63 := hH.c _ _
            have x165 : (Xi S 915 ((z27).toNat)) < Xi S 904 19 := by have t := lxm (s := 4) hM (k := z27) (by omega) (by omega) (by omega); rw [cM4] at t; exact t
            refine l_goto rfl rfl ?_
            refine l_ireturn rfl rfl ?_
            exact ⟨rfl, _, rfl, ⟨by omega, by omega⟩, (by first | assumption | omega), (by first | assumption | omega), (by first | (have t := hd0; exfalso; omega) | (have u := g93; exact iw_1 (itw_1 (by omega) (by omega))) | (have u := x23; first | exact iw_2 (itw_1 (by omega) (by omega)) (by omega) | exact iw_3 (itw_2 (by omega) (by omega)).symm) | exact iw_3 (itw_3 N101 F129 (f137 trivial) (by first | exact (if_pos ⟨by omega, by omega⟩).symm | exact (if_neg (by omega)).symm)))⟩
      · refine l_iload_n rfl rfl ?_
        refine l_iconst rfl ?_
        refine l_iadd rfl ?_
        refine l_goto rfl rfl ?_
        refine l_istore_n rfl rfl rfl ?_
        refine l_aload_n rfl rfl ?_
        have F129 : (from_ + 1) = (if 0 < Xi S 904 160 - from_ ∧ 100 ≤ ikR S from_ ∧ ikR S from_ ≤ 103 then from_ + 1 else from_) := by first | (have t := x112; rw [← x112]; first | exact (if_pos (by omega)).symm | exact (if_neg (by omega)).symm) | exact (if_neg (by omega)).symm
        refine l_iload_n rfl rfl ?_
        refine l_aload_n rfl rfl ?_
        refine l_gfi rfl rfl rfl rfl rfl ?_
        refine l_iload_n rfl rfl ?_
        refine l_isub rfl ?_
        have w34 : 0 ≤ Xi S 904 15 ∧ Xi S 904 15 ≤ 300 := hH.c _ _
        refine l_callV rfl rfl rfl (t_mo_foundIn__b hH (from_ + 1) ((Xi S 904 160) - (from_ + 1)) ⟨by omega, by omega⟩ ⟨by omega, by omega⟩ (by first | assumption | omega) _) ?_
        rintro _ _ ⟨rfl, z36, rfl, w36, w35, f137⟩
        show Rl _ _ _ _ _ [iv z36] _ _
        refine l_istore rfl rfl rfl ?_
        refine l_iload rfl rfl ?_
        refine l_iconst rfl ?_
        refine l_icmp_eq rfl rfl (by unfold rg; omega) (by unfold rg; omega) (fun w37 => ?_) (fun w38 => ?_)
        · refine l_bipush rfl rfl ?_
          refine l_ireturn rfl rfl ?_
          exact ⟨rfl, _, rfl, ⟨by omega, by omega⟩, (by first | assumption | omega), (by first | assumption | omega), (by first | (have t := hd0; exfalso; omega) | (have u := g93; exact iw_1 (itw_1 (by omega) (by omega))) | (have u := x23; first | exact iw_2 (itw_1 (by omega) (by omega)) (by omega) | exact iw_3 (itw_2 (by omega) (by omega)).symm) | exact iw_3 (itw_3 N101 F129 (f137 trivial) (by first | exact (if_pos ⟨by omega, by omega⟩).symm | exact (if_neg (by omega)).symm)))⟩
        · refine l_aload_n rfl rfl ?_
          refine l_gfr rfl rfl rfl rfl rfl (hH.r 904 12 914 rfl) ?_
          refine l_iload rfl rfl ?_
          refine l_iaload (n := 300) rfl rfl (by omega) (by omega) (by unfold rg; omega) ?_
          have w39 : 0 ≤ (Xi S 914 ((z36).toNat)) ∧ (Xi S 914 ((z36).toNat)) ≤ 12 := hH.c _ _
          refine l_iconst rfl ?_
          refine l_icmp_ne rfl rfl (by unfold rg; omega) (by unfold rg; omega) (fun w40 => ?_) (fun w41 => ?_)
          · refine l_bipush rfl rfl ?_
            refine l_ireturn rfl rfl ?_
            exact ⟨rfl, _, rfl, ⟨by omega, by omega⟩, (by first | assumption | omega), (by first | assumption | omega), (by first | (have t := hd0; exfalso; omega) | (have u := g93; exact iw_1 (itw_1 (by omega) (by omega))) | (have u := x23; first | exact iw_2 (itw_1 (by omega) (by omega)) (by omega) | exact iw_3 (itw_2 (by omega) (by omega)).symm) | exact iw_3 (itw_3 N101 F129 (f137 trivial) (by first | exact (if_pos ⟨by omega, by omega⟩).symm | exact (if_neg (by omega)).symm)))⟩
          · refine l_aload_n rfl rfl ?_
            refine l_gfr rfl rfl rfl rfl rfl (hH.r 904 13 915 rfl) ?_
            refine l_iload rfl rfl ?_
            refine l_iaload (n := 300) rfl rfl (by omega) (by omega) (by unfold rg; omega) ?_
            have w42 : 0 ≤ (Xi S 915 ((z36).toNat)) ∧ (Xi S 915 ((z36).toNat)) ≤ 63 := hH.c _ _
            have x165 : (Xi S 915 ((z36).toNat)) < Xi S 904 19 := by have t := lxm (s := 4) hM (k := z36) (by omega) (by omega) (by omega); rw [cM4] at t; exact t
            refine l_goto rfl rfl ?_
            refine l_ireturn rfl rfl ?_
            exact ⟨rfl, _, rfl, ⟨by omega, by omega⟩, (by first | assumption | omega), (by first | assumption | omega), (by first | (have t := hd0; exfalso; omega) | (have u := g93; exact iw_1 (itw_1 (by omega) (by omega))) | (have u := x23; first | exact iw_2 (itw_1 (by omega) (by omega)) (by omega) | exact iw_3 (itw_2 (by omega) (by omega)).symm) | exact iw_3 (itw_3 N101 F129 (f137 trivial) (by first | exact (if_pos ⟨by omega, by omega⟩).symm | exact (if_neg (by omega)).symm)))⟩
  · refine l_aload_n rfl rfl ?_
    refine l_aload_n rfl rfl ?_
    refine l_gfr rfl rfl rfl rfl rfl (hH.r 904 159 994 rfl) ?_
    refine l_aload_n rfl rfl ?_
    refine l_gfi rfl rfl rfl rfl rfl ?_
    refine l_iconst rfl ?_
    refine l_isub rfl ?_
    refine l_laload (n := 64) rfl rfl (by omega) (by omega) (by unfold rg; omega) ?_
    have w43 : -9223372036854775808 ≤ (Xj S 994 ((((Xi S 904 160) - 1)).toNat)) ∧ (Xj S 994 ((((Xi S 904 160) - 1)).toNat)) < 9223372036854775808 := Xj_rg
    refine l_callV rfl rfl rfl (t_mo_keyOf__b hH (Xj S 994 ((((Xi S 904 160) - 1)).toNat)) _) ?_
    rintro _ _ ⟨rfl, z44, rfl, w44, f23⟩
    show Rl _ _ _ _ _ [iv z44] _ _
    have x23 : z44 = ikR S (Xi S 904 160 - 1) := by unfold ikR; exact f23 Xj_rg
    refine l_sipush rfl rfl ?_
    refine l_icmp_ne rfl rfl (by unfold rg; omega) (by unfold rg; omega) (fun w45 => ?_) (fun w46 => ?_)
    · refine l_iload_n rfl rfl ?_
      have N101 : ¬ (0 < Xi S 904 160 - from_ ∧ ikR S (Xi S 904 160 - 1) = 153) := by first | (have t := x23; rw [← x23]; omega) | omega
      refine l_if_le rfl rfl (by unfold rg; omega) (fun w47 => ?_) (fun w48 => ?_)
      · refine l_iload_n rfl rfl ?_
        refine l_istore_n rfl rfl rfl ?_
        refine l_aload_n rfl rfl ?_
        have F129 : from_ = (if 0 < Xi S 904 160 - from_ ∧ 100 ≤ ikR S from_ ∧ ikR S from_ ≤ 103 then from_ + 1 else from_) := by first | (have t := x112; rw [← x112]; first | exact (if_pos (by omega)).symm | exact (if_neg (by omega)).symm) | exact (if_neg (by omega)).symm
        refine l_iload_n rfl rfl ?_
        refine l_aload_n rfl rfl ?_
        refine l_gfi rfl rfl rfl rfl rfl ?_
        refine l_iload_n rfl rfl ?_
        refine l_isub rfl ?_
        have w49 : 0 ≤ Xi S 904 15 ∧ Xi S 904 15 ≤ 300 := hH.c _ _
        refine l_callV rfl rfl rfl (t_mo_foundIn__b hH from_ ((Xi S 904 160) - from_) ⟨by omega, by omega⟩ ⟨by omega, by omega⟩ (by first | assumption | omega) _) ?_
        rintro _ _ ⟨rfl, z51, rfl, w51, w50, f137⟩
        show Rl _ _ _ _ _ [iv z51] _ _
        refine l_istore rfl rfl rfl ?_
        refine l_iload rfl rfl ?_
        refine l_iconst rfl ?_
        refine l_icmp_eq rfl rfl (by unfold rg; omega) (by unfold rg; omega) (fun w52 => ?_) (fun w53 => ?_)
        · refine l_bipush rfl rfl ?_
          refine l_ireturn rfl rfl ?_
          exact ⟨rfl, _, rfl, ⟨by omega, by omega⟩, (by first | assumption | omega), (by first | assumption | omega), (by first | (have t := hd0; exfalso; omega) | (have u := g93; exact iw_1 (itw_1 (by omega) (by omega))) | (have u := x23; first | exact iw_2 (itw_1 (by omega) (by omega)) (by omega) | exact iw_3 (itw_2 (by omega) (by omega)).symm) | exact iw_3 (itw_3 N101 F129 (f137 trivial) (by first | exact (if_pos ⟨by omega, by omega⟩).symm | exact (if_neg (by omega)).symm)))⟩
        · refine l_aload_n rfl rfl ?_
          refine l_gfr rfl rfl rfl rfl rfl (hH.r 904 12 914 rfl) ?_
          refine l_iload rfl rfl ?_
          refine l_iaload (n := 300) rfl rfl (by omega) (by omega) (by unfold rg; omega) ?_
          have w54 : 0 ≤ (Xi S 914 ((z51).toNat)) ∧ (Xi S 914 ((z51).toNat)) ≤ 12 := hH.c _ _
          refine l_iconst rfl ?_
          refine l_icmp_ne rfl rfl (by unfold rg; omega) (by unfold rg; omega) (fun w55 => ?_) (fun w56 => ?_)
          · refine l_bipush rfl rfl ?_
            refine l_ireturn rfl rfl ?_
            exact ⟨rfl, _, rfl, ⟨by omega, by omega⟩, (by first | assumption | omega), (by first | assumption | omega), (by first | (have t := hd0; exfalso; omega) | (have u := g93; exact iw_1 (itw_1 (by omega) (by omega))) | (have u := x23; first | exact iw_2 (itw_1 (by omega) (by omega)) (by omega) | exact iw_3 (itw_2 (by omega) (by omega)).symm) | exact iw_3 (itw_3 N101 F129 (f137 trivial) (by first | exact (if_pos ⟨by omega, by omega⟩).symm | exact (if_neg (by omega)).symm)))⟩
          · refine l_aload_n rfl rfl ?_
            refine l_gfr rfl rfl rfl rfl rfl (hH.r 904 13 915 rfl) ?_
            refine l_iload rfl rfl ?_
            refine l_iaload (n := 300) rfl rfl (by omega) (by omega) (by unfold rg; omega) ?_
            have w57 : 0 ≤ (Xi S 915 ((z51).toNat)) ∧ (Xi S 915 ((z51).toNat)) ≤ 63 := hH.c _ _
            have x165 : (Xi S 915 ((z51).toNat)) < Xi S 904 19 := by have t := lxm (s := 4) hM (k := z51) (by omega) (by omega) (by omega); rw [cM4] at t; exact t
            refine l_goto rfl rfl ?_
            refine l_ireturn rfl rfl ?_
            exact ⟨rfl, _, rfl, ⟨by omega, by omega⟩, (by first | assumption | omega), (by first | assumption | omega), (by first | (have t := hd0; exfalso; omega) | (have u := g93; exact iw_1 (itw_1 (by omega) (by omega))) | (have u := x23; first | exact iw_2 (itw_1 (by omega) (by omega)) (by omega) | exact iw_3 (itw_2 (by omega) (by omega)).symm) | exact iw_3 (itw_3 N101 F129 (f137 trivial) (by first | exact (if_pos ⟨by omega, by omega⟩).symm | exact (if_neg (by omega)).symm)))⟩
      · refine l_aload_n rfl rfl ?_
        refine l_aload_n rfl rfl ?_
        refine l_gfr rfl rfl rfl rfl rfl (hH.r 904 159 994 rfl) ?_
        refine l_iload_n rfl rfl ?_
        refine l_laload (n := 64) rfl rfl (by omega) (by omega) (by unfold rg; omega) ?_
        have w58 : -9223372036854775808 ≤ (Xj S 994 ((from_).toNat)) ∧ (Xj S 994 ((from_).toNat)) < 9223372036854775808 := Xj_rg
        refine l_callV rfl rfl rfl (t_mo_keyOf__b hH (Xj S 994 ((from_).toNat)) _) ?_
        rintro _ _ ⟨rfl, z59, rfl, w59, f112⟩
        show Rl _ _ _ _ _ [iv z59] _ _
        have x112 : z59 = ikR S from_ := by unfold ikR; exact f112 Xj_rg
        refine l_callS rfl rfl (by decide) rfl (t_mo_isArt__q hH z59 ⟨by omega, by omega⟩ _) ?_
        rintro _ _ ⟨rfl, z62, rfl, w62, w60, w61⟩
        show Rl _ _ _ _ _ [iv z62] _ _
        refine l_if_eq rfl rfl (by unfold rg; omega) (fun w63 => ?_) (fun w64 => ?_)
        · refine l_iload_n rfl rfl ?_
          refine l_istore_n rfl rfl rfl ?_
          refine l_aload_n rfl rfl ?_
          have F129 : from_ = (if 0 < Xi S 904 160 - from_ ∧ 100 ≤ ikR S from_ ∧ ikR S from_ ≤ 103 then from_ + 1 else from_) := by first | (have t := x112; rw [← x112]; first | exact (if_pos (by omega)).symm | exact (if_neg (by omega)).symm) | exact (if_neg (by omega)).symm
          refine l_iload_n rfl rfl ?_
          refine l_aload_n rfl rfl ?_
          refine l_gfi rfl rfl rfl rfl rfl ?_
          refine l_iload_n rfl rfl ?_
          refine l_isub rfl ?_
          have w65 : 0 ≤ Xi S 904 15 ∧ Xi S 904 15 ≤ 300 := hH.c _ _
          refine l_callV rfl rfl rfl (t_mo_foundIn__b hH from_ ((Xi S 904 160) - from_) ⟨by omega, by omega⟩ ⟨by omega, by omega⟩ (by first | assumption | omega) _) ?_
          rintro _ _ ⟨rfl, z67, rfl, w67, w66, f137⟩
          show Rl _ _ _ _ _ [iv z67] _ _
          refine l_istore rfl rfl rfl ?_
          refine l_iload rfl rfl ?_
          refine l_iconst rfl ?_
          refine l_icmp_eq rfl rfl (by unfold rg; omega) (by unfold rg; omega) (fun w68 => ?_) (fun w69 => ?_)
          · refine l_bipush rfl rfl ?_
            refine l_ireturn rfl rfl ?_
            exact ⟨rfl, _, rfl, ⟨by omega, by omega⟩, (by first | assumption | omega), (by first | assumption | omega), (by first | (have t := hd0; exfalso; omega) | (have u := g93; exact iw_1 (itw_1 (by omega) (by omega))) | (have u := x23; first | exact iw_2 (itw_1 (by omega) (by omega)) (by omega) | exact iw_3 (itw_2 (by omega) (by omega)).symm) | exact iw_3 (itw_3 N101 F129 (f137 trivial) (by first | exact (if_pos ⟨by omega, by omega⟩).symm | exact (if_neg (by omega)).symm)))⟩
          · refine l_aload_n rfl rfl ?_
            refine l_gfr rfl rfl rfl rfl rfl (hH.r 904 12 914 rfl) ?_
            refine l_iload rfl rfl ?_
            refine l_iaload (n := 300) rfl rfl (by omega) (by omega) (by unfold rg; omega) ?_
            have w70 : 0 ≤ (Xi S 914 ((z67).toNat)) ∧ (Xi S 914 ((z67).toNat)) ≤ 12 := hH.c _ _
            refine l_iconst rfl ?_
            refine l_icmp_ne rfl rfl (by unfold rg; omega) (by unfold rg; omega) (fun w71 => ?_) (fun w72 => ?_)
            · refine l_bipush rfl rfl ?_
              refine l_ireturn rfl rfl ?_
              exact ⟨rfl, _, rfl, ⟨by omega, by omega⟩, (by first | assumption | omega), (by first | assumption | omega), (by first | (have t := hd0; exfalso; omega) | (have u := g93; exact iw_1 (itw_1 (by omega) (by omega))) | (have u := x23; first | exact iw_2 (itw_1 (by omega) (by omega)) (by omega) | exact iw_3 (itw_2 (by omega) (by omega)).symm) | exact iw_3 (itw_3 N101 F129 (f137 trivial) (by first | exact (if_pos ⟨by omega, by omega⟩).symm | exact (if_neg (by omega)).symm)))⟩
            · refine l_aload_n rfl rfl ?_
              refine l_gfr rfl rfl rfl rfl rfl (hH.r 904 13 915 rfl) ?_
              refine l_iload rfl rfl ?_
              refine l_iaload (n := 300) rfl rfl (by omega) (by omega) (by unfold rg; omega) ?_
              have w73 : 0 ≤ (Xi S 915 ((z67).toNat)) ∧ (Xi S 915 ((z67).toNat)) ≤ 63 := hH.c _ _
              have x165 : (Xi S 915 ((z67).toNat)) < Xi S 904 19 := by have t := lxm (s := 4) hM (k := z67) (by omega) (by omega) (by omega); rw [cM4] at t; exact t
              refine l_goto rfl rfl ?_
              refine l_ireturn rfl rfl ?_
              exact ⟨rfl, _, rfl, ⟨by omega, by omega⟩, (by first | assumption | omega), (by first | assumption | omega), (by first | (have t := hd0; exfalso; omega) | (have u := g93; exact iw_1 (itw_1 (by omega) (by omega))) | (have u := x23; first | exact iw_2 (itw_1 (by omega) (by omega)) (by omega) | exact iw_3 (itw_2 (by omega) (by omega)).symm) | exact iw_3 (itw_3 N101 F129 (f137 trivial) (by first | exact (if_pos ⟨by omega, by omega⟩).symm | exact (if_neg (by omega)).symm)))⟩
        · refine l_iload_n rfl rfl ?_
          refine l_iconst rfl ?_
          refine l_iadd rfl ?_
          refine l_goto rfl rfl ?_
          refine l_istore_n rfl rfl rfl ?_
          refine l_aload_n rfl rfl ?_
          have F129 : (from_ + 1) = (if 0 < Xi S 904 160 - from_ ∧ 100 ≤ ikR S from_ ∧ ikR S from_ ≤ 103 then from_ + 1 else from_) := by first | (have t := x112; rw [← x112]; first | exact (if_pos (by omega)).symm | exact (if_neg (by omega)).symm) | exact (if_neg (by omega)).symm
          refine l_iload_n rfl rfl ?_
          refine l_aload_n rfl rfl ?_
          refine l_gfi rfl rfl rfl rfl rfl ?_
          refine l_iload_n rfl rfl ?_
          refine l_isub rfl ?_
          have w74 : 0 ≤ Xi S 904 15 ∧ Xi S 904 15 ≤ 300 := hH.c _ _
          refine l_callV rfl rfl rfl (t_mo_foundIn__b hH (from_ + 1) ((Xi S 904 160) - (from_ + 1)) ⟨by omega, by omega⟩ ⟨by omega, by omega⟩ (by first | assumption | omega) _) ?_
          rintro _ _ ⟨rfl, z76, rfl, w76, w75, f137⟩
          show Rl _ _ _ _ _ [iv z76] _ _
          refine l_istore rfl rfl rfl ?_
          refine l_iload rfl rfl ?_
          refine l_iconst rfl ?_
          refine l_icmp_eq rfl rfl (by unfold rg; omega) (by unfold rg; omega) (fun w77 => ?_) (fun w78 => ?_)
          · refine l_bipush rfl rfl ?_
            refine l_ireturn rfl rfl ?_
            exact ⟨rfl, _, rfl, ⟨by omega, by omega⟩, (by first | assumption | omega), (by first | assumption | omega), (by first | (have t := hd0; exfalso; omega) | (have u := g93; exact iw_1 (itw_1 (by omega) (by omega))) | (have u := x23; first | exact iw_2 (itw_1 (by omega) (by omega)) (by omega) | exact iw_3 (itw_2 (by omega) (by omega)).symm) | exact iw_3 (itw_3 N101 F129 (f137 trivial) (by first | exact (if_pos ⟨by omega, by omega⟩).symm | exact (if_neg (by omega)).symm)))⟩
          · refine l_aload_n rfl rfl ?_
            refine l_gfr rfl rfl rfl rfl rfl (hH.r 904 12 914 rfl) ?_
            refine l_iload rfl rfl ?_
            refine l_iaload (n := 300) rfl rfl (by omega) (by omega) (by unfold rg; omega) ?_
            have w79 : 0 ≤ (Xi S 914 ((z76).toNat)) ∧ (Xi S 914 ((z76).toNat)) ≤ 12 := hH.c _ _
            refine l_iconst rfl ?_
            refine l_icmp_ne rfl rfl (by unfold rg; omega) (by unfold rg; omega) (fun w80 => ?_) (fun w81 => ?_)
            · refine l_bipush rfl rfl ?_
              refine l_ireturn rfl rfl ?_
              exact ⟨rfl, _, rfl, ⟨by omega, by omega⟩, (by first | assumption | omega), (by first | assumption | omega), (by first | (have t := hd0; exfalso; omega) | (have u := g93; exact iw_1 (itw_1 (by omega) (by omega))) | (have u := x23; first | exact iw_2 (itw_1 (by omega) (by omega)) (by omega) | exact iw_3 (itw_2 (by omega) (by omega)).symm) | exact iw_3 (itw_3 N101 F129 (f137 trivial) (by first | exact (if_pos ⟨by omega, by omega⟩).symm | exact (if_neg (by omega)).symm)))⟩
            · refine l_aload_n rfl rfl ?_
              refine l_gfr rfl rfl rfl rfl rfl (hH.r 904 13 915 rfl) ?_
              refine l_iload rfl rfl ?_
              refine l_iaload (n := 300) rfl rfl (by omega) (by omega) (by unfold rg; omega) ?_
              have w82 : 0 ≤ (Xi S 915 ((z76).toNat)) ∧ (Xi S 915 ((z76).toNat)) ≤ 63 := hH.c _ _
              have x165 : (Xi S 915 ((z76).toNat)) < Xi S 904 19 := by have t := lxm (s := 4) hM (k := z76) (by omega) (by omega) (by omega); rw [cM4] at t; exact t
              refine l_goto rfl rfl ?_
              refine l_ireturn rfl rfl ?_
              exact ⟨rfl, _, rfl, ⟨by omega, by omega⟩, (by first | assumption | omega), (by first | assumption | omega), (by first | (have t := hd0; exfalso; omega) | (have u := g93; exact iw_1 (itw_1 (by omega) (by omega))) | (have u := x23; first | exact iw_2 (itw_1 (by omega) (by omega)) (by omega) | exact iw_3 (itw_2 (by omega) (by omega)).symm) | exact iw_3 (itw_3 N101 F129 (f137 trivial) (by first | exact (if_pos ⟨by omega, by omega⟩).symm | exact (if_neg (by omega)).symm)))⟩
    · refine l_iload_n rfl rfl ?_
      refine l_iconst rfl ?_
      refine l_icmp_eq rfl rfl (by unfold rg; omega) (by unfold rg; omega) (fun w83 => ?_) (fun w84 => ?_)
      · refine l_iconst rfl ?_
        refine l_goto rfl rfl ?_
        refine l_istore_n rfl rfl rfl ?_
        refine l_iload_n rfl rfl ?_
        refine l_if_eq rfl rfl (by unfold rg; omega) (fun w85 => absurd w85 (by omega)) (fun w86 => ?_)
        · refine l_aload_n rfl rfl ?_
          refine l_gfi rfl rfl rfl rfl rfl ?_
          refine l_if_eq rfl rfl (by unfold rg; omega) (fun w87 => ?_) (fun w88 => ?_)
          · refine l_aload_n rfl rfl ?_
            refine l_gfi rfl rfl rfl rfl rfl ?_
            refine l_iconst rfl ?_
            refine l_icmp_eq rfl rfl (by unfold rg; omega) (by unfold rg; omega) (fun w89 => ?_) (fun w90 => ?_)
            · refine l_bipush rfl rfl ?_
              refine l_ireturn rfl rfl ?_
              exact ⟨rfl, _, rfl, ⟨by omega, by omega⟩, (by first | assumption | omega), (by first | assumption | omega), (by first | (have t := hd0; exfalso; omega) | (have u := g93; exact iw_1 (itw_1 (by omega) (by omega))) | (have u := x23; first | exact iw_2 (itw_1 (by omega) (by omega)) (by omega) | exact iw_3 (itw_2 (by omega) (by omega)).symm) | exact iw_3 (itw_3 N101 F129 (f137 trivial) (by first | exact (if_pos ⟨by omega, by omega⟩).symm | exact (if_neg (by omega)).symm)))⟩
            · refine l_bipush rfl rfl ?_
              have g93 : True := trivial
              refine l_goto rfl rfl ?_
              refine l_ireturn rfl rfl ?_
              exact ⟨rfl, _, rfl, ⟨by omega, by omega⟩, (by first | assumption | omega), (by first | assumption | omega), (by first | (have t := hd0; exfalso; omega) | (have u := g93; exact iw_1 (itw_1 (by omega) (by omega))) | (have u := x23; first | exact iw_2 (itw_1 (by omega) (by omega)) (by omega) | exact iw_3 (itw_2 (by omega) (by omega)).symm) | exact iw_3 (itw_3 N101 F129 (f137 trivial) (by first | exact (if_pos ⟨by omega, by omega⟩).symm | exact (if_neg (by omega)).symm)))⟩
          · refine l_aload_n rfl rfl ?_
            refine l_gfi rfl rfl rfl rfl rfl ?_
            have w91 : -1 ≤ (Xi S 904 116) ∧ (Xi S 904 116) ≤ 15 := hH.c _ _
            refine l_iconst rfl ?_
            refine l_icmp_eq rfl rfl (by unfold rg; omega) (by unfold rg; omega) (fun w92 => ?_) (fun w93 => ?_)
            · refine l_bipush rfl rfl ?_
              refine l_ireturn rfl rfl ?_
              exact ⟨rfl, _, rfl, ⟨by omega, by omega⟩, (by first | assumption | omega), (by first | assumption | omega), (by first | (have t := hd0; exfalso; omega) | (have u := g93; exact iw_1 (itw_1 (by omega) (by omega))) | (have u := x23; first | exact iw_2 (itw_1 (by omega) (by omega)) (by omega) | exact iw_3 (itw_2 (by omega) (by omega)).symm) | exact iw_3 (itw_3 N101 F129 (f137 trivial) (by first | exact (if_pos ⟨by omega, by omega⟩).symm | exact (if_neg (by omega)).symm)))⟩
            · refine l_goto rfl rfl ?_
              refine l_bipush rfl rfl ?_
              have g93 : True := trivial
              refine l_goto rfl rfl ?_
              refine l_ireturn rfl rfl ?_
              exact ⟨rfl, _, rfl, ⟨by omega, by omega⟩, (by first | assumption | omega), (by first | assumption | omega), (by first | (have t := hd0; exfalso; omega) | (have u := g93; exact iw_1 (itw_1 (by omega) (by omega))) | (have u := x23; first | exact iw_2 (itw_1 (by omega) (by omega)) (by omega) | exact iw_3 (itw_2 (by omega) (by omega)).symm) | exact iw_3 (itw_3 N101 F129 (f137 trivial) (by first | exact (if_pos ⟨by omega, by omega⟩).symm | exact (if_neg (by omega)).symm)))⟩
      · refine l_iload_n rfl rfl ?_
        refine l_iconst rfl ?_
        refine l_icmp_ne rfl rfl (by unfold rg; omega) (by unfold rg; omega) (fun w94 => ?_) (fun w95 => ?_)
        · refine l_iconst rfl ?_
          refine l_istore_n rfl rfl rfl ?_
          refine l_iload_n rfl rfl ?_
          refine l_if_eq rfl rfl (by unfold rg; omega) (fun w96 => ?_) (fun w97 => absurd w97 (by omega))
          · refine l_bipush rfl rfl ?_
            refine l_ireturn rfl rfl ?_
            exact ⟨rfl, _, rfl, ⟨by omega, by omega⟩, (by first | assumption | omega), (by first | assumption | omega), (by first | (have t := hd0; exfalso; omega) | (have u := g93; exact iw_1 (itw_1 (by omega) (by omega))) | (have u := x23; first | exact iw_2 (itw_1 (by omega) (by omega)) (by omega) | exact iw_3 (itw_2 (by omega) (by omega)).symm) | exact iw_3 (itw_3 N101 F129 (f137 trivial) (by first | exact (if_pos ⟨by omega, by omega⟩).symm | exact (if_neg (by omega)).symm)))⟩
        · refine l_aload_n rfl rfl ?_
          refine l_aload_n rfl rfl ?_
          refine l_gfr rfl rfl rfl rfl rfl (hH.r 904 159 994 rfl) ?_
          refine l_iload_n rfl rfl ?_
          refine l_laload (n := 64) rfl rfl (by omega) (by omega) (by unfold rg; omega) ?_
          have w98 : -9223372036854775808 ≤ (Xj S 994 ((from_).toNat)) ∧ (Xj S 994 ((from_).toNat)) < 9223372036854775808 := Xj_rg
          refine l_callV rfl rfl rfl (t_mo_keyOf__b hH (Xj S 994 ((from_).toNat)) _) ?_
          rintro _ _ ⟨rfl, z99, rfl, w99, f49⟩
          show Rl _ _ _ _ _ [iv z99] _ _
          have x49 : z99 = ikR S from_ := by unfold ikR; exact f49 Xj_rg
          refine l_bipush rfl rfl ?_
          refine l_icmp_ne rfl rfl (by unfold rg; omega) (by unfold rg; omega) (fun w100 => ?_) (fun w101 => ?_)
          · refine l_iconst rfl ?_
            refine l_istore_n rfl rfl rfl ?_
            refine l_iload_n rfl rfl ?_
            refine l_if_eq rfl rfl (by unfold rg; omega) (fun w102 => ?_) (fun w103 => absurd w103 (by omega))
            · refine l_bipush rfl rfl ?_
              refine l_ireturn rfl rfl ?_
              exact ⟨rfl, _, rfl, ⟨by omega, by omega⟩, (by first | assumption | omega), (by first | assumption | omega), (by first | (have t := hd0; exfalso; omega) | (have u := g93; exact iw_1 (itw_1 (by omega) (by omega))) | (have u := x23; first | exact iw_2 (itw_1 (by omega) (by omega)) (by omega) | exact iw_3 (itw_2 (by omega) (by omega)).symm) | exact iw_3 (itw_3 N101 F129 (f137 trivial) (by first | exact (if_pos ⟨by omega, by omega⟩).symm | exact (if_neg (by omega)).symm)))⟩
          · refine l_iconst rfl ?_
            refine l_goto rfl rfl ?_
            refine l_istore_n rfl rfl rfl ?_
            refine l_iload_n rfl rfl ?_
            refine l_if_eq rfl rfl (by unfold rg; omega) (fun w104 => absurd w104 (by omega)) (fun w105 => ?_)
            · refine l_aload_n rfl rfl ?_
              refine l_gfi rfl rfl rfl rfl rfl ?_
              refine l_if_eq rfl rfl (by unfold rg; omega) (fun w106 => ?_) (fun w107 => ?_)
              · refine l_aload_n rfl rfl ?_
                refine l_gfi rfl rfl rfl rfl rfl ?_
                refine l_iconst rfl ?_
                refine l_icmp_eq rfl rfl (by unfold rg; omega) (by unfold rg; omega) (fun w108 => ?_) (fun w109 => ?_)
                · refine l_bipush rfl rfl ?_
                  refine l_ireturn rfl rfl ?_
                  exact ⟨rfl, _, rfl, ⟨by omega, by omega⟩, (by first | assumption | omega), (by first | assumption | omega), (by first | (have t := hd0; exfalso; omega) | (have u := g93; exact iw_1 (itw_1 (by omega) (by omega))) | (have u := x23; first | exact iw_2 (itw_1 (by omega) (by omega)) (by omega) | exact iw_3 (itw_2 (by omega) (by omega)).symm) | exact iw_3 (itw_3 N101 F129 (f137 trivial) (by first | exact (if_pos ⟨by omega, by omega⟩).symm | exact (if_neg (by omega)).symm)))⟩
                · refine l_bipush rfl rfl ?_
                  have g93 : True := trivial
                  refine l_goto rfl rfl ?_
                  refine l_ireturn rfl rfl ?_
                  exact ⟨rfl, _, rfl, ⟨by omega, by omega⟩, (by first | assumption | omega), (by first | assumption | omega), (by first | (have t := hd0; exfalso; omega) | (have u := g93; exact iw_1 (itw_1 (by omega) (by omega))) | (have u := x23; first | exact iw_2 (itw_1 (by omega) (by omega)) (by omega) | exact iw_3 (itw_2 (by omega) (by omega)).symm) | exact iw_3 (itw_3 N101 F129 (f137 trivial) (by first | exact (if_pos ⟨by omega, by omega⟩).symm | exact (if_neg (by omega)).symm)))⟩
              · refine l_aload_n rfl rfl ?_
                refine l_gfi rfl rfl rfl rfl rfl ?_
                have w110 : -1 ≤ (Xi S 904 116) ∧ (Xi S 904 116) ≤ 15 := hH.c _ _
                refine l_iconst rfl ?_
                refine l_icmp_eq rfl rfl (by unfold rg; omega) (by unfold rg; omega) (fun w111 => ?_) (fun w112 => ?_)
                · refine l_bipush rfl rfl ?_
                  refine l_ireturn rfl rfl ?_
                  exact ⟨rfl, _, rfl, ⟨by omega, by omega⟩, (by first | assumption | omega), (by first | assumption | omega), (by first | (have t := hd0; exfalso; omega) | (have u := g93; exact iw_1 (itw_1 (by omega) (by omega))) | (have u := x23; first | exact iw_2 (itw_1 (by omega) (by omega)) (by omega) | exact iw_3 (itw_2 (by omega) (by omega)).symm) | exact iw_3 (itw_3 N101 F129 (f137 trivial) (by first | exact (if_pos ⟨by omega, by omega⟩).symm | exact (if_neg (by omega)).symm)))⟩
                · refine l_goto rfl rfl ?_
                  refine l_bipush rfl rfl ?_
                  have g93 : True := trivial
                  refine l_goto rfl rfl ?_
                  refine l_ireturn rfl rfl ?_
                  exact ⟨rfl, _, rfl, ⟨by omega, by omega⟩, (by first | assumption | omega), (by first | assumption | omega), (by first | (have t := hd0; exfalso; omega) | (have u := g93; exact iw_1 (itw_1 (by omega) (by omega))) | (have u := x23; first | exact iw_2 (itw_1 (by omega) (by omega)) (by omega) | exact iw_3 (itw_2 (by omega) (by omega)).symm) | exact iw_3 (itw_3 N101 F129 (f137 trivial) (by first | exact (if_pos ⟨by omega, by omega⟩).symm | exact (if_neg (by omega)).symm)))⟩
end
section
/-! SAY: what stands in [ ] is written -/
def SIW (S T : sS) (z : Int) : Prop := ∀ (t p : Int) (P : List Int), INT S t p → PCE S t p (Xi S 904 158) P → z = 1 ∧ OUP 993 904 156 S T P
theorem siw_t {S : sS} {a z t p : Int} {P : List Int} (w : ITW S a z) (e : itW S a = t) (c : PCE S t p (Xi S 904 158) P) : z = t := by
  by_cases q : t = -2
  · have h := c.1.1
    rw [q] at h
    have h2 : whU (Xi S 904 158) (-2) = Xi S 904 158 := rfl
    rw [h2] at h
    rw [q]
    exact w.2 (e.trans q) (by omega)
  · rw [← e]; exact w.1 (by rw [e]; exact q)
theorem siw_y {S : sS} {z a : Int} (hO : isO S) (ha : a = ofR S + 1) (w : ITW S a z) {t p : Int} {P : List Int} (i : INT S t p) (c : PCE S t p (Xi S 904 158) P) : z = t ∧ ipR S = p ∧ p ≠ -1 ∧ t ≠ -9 := by
  obtain ⟨i1, _, i3⟩ := i
  obtain ⟨j1, j2, j3⟩ := i1 hO
  rw [ha] at w
  exact ⟨siw_t w j1 c, j2, j3, i3⟩
theorem siw_n {S : sS} {z : Int} (hO : ¬ isO S) (w : ITW S 0 z) {t p : Int} {P : List Int} (i : INT S t p) (c : PCE S t p (Xi S 904 158) P) : z = t ∧ p = -1 ∧ t ≠ -9 := by
  obtain ⟨_, i2, i3⟩ := i
  obtain ⟨j1, j2⟩ := i2 hO
  exact ⟨siw_t w j1 c, j2, i3⟩
theorem nml_o {S T : sS} {so ix : Int} {P : List Int} (h : NML S so ix P) (n : NMRL S T so ix) : OUP 993 904 156 S T P := by
  rcases h with ⟨k, k1, k2, k3, k4, k5⟩ | ⟨h1, h2⟩
  · rw [k5]; exact n.1 k k1 k2 k3 k4
  · rw [h2]; exact n.2 h1
theorem prp_o {S T : sS} {w p : Int} {P : List Int} (h : PRP S w p P) (n : PRLO S T w p) : OUP 993 904 156 S T P := by
  obtain ⟨h0, h1, h2⟩ := h
  obtain ⟨n0, n1, n2⟩ := n
  by_cases q0 : Xi S 928 p.toNat = 0
  · rw [h0 q0]; exact n0 q0
  · by_cases q1 : Xi S 928 p.toNat = 1
    · rw [h1 q1]; exact n1 q1
    · obtain ⟨a1, a2⟩ := h2 q0 q1
      obtain ⟨b1, b2⟩ := n2 q0 q1
      by_cases z : nuR S w p = -1
      · rw [a1 z]; exact b1 z
      · exact nml_o (a2 z) (b2 z)
theorem whu_e {S : sS} {z l t : Int} (h : (z = -2 ∧ l = Xi S 904 158) ∨ (z ≠ -2 ∧ l = z)) (e : z = t) : l = whU (Xi S 904 158) t := by
  unfold whU
  rcases h with ⟨x, y⟩ | ⟨x, y⟩
  · rw [if_pos (by omega), y]
  · rw [if_neg (by omega), y, e]

def md_mo_saysInside__q : List rec := [(904, 905, 154, 155), (904, 905, 156, 157), (993, 994, 0, 100000)]
abbrev Q_mo_saysInside__q (S : sS) : pst := fun r S1 => HI S1 ∧ FR md_mo_saysInside__q S S1 ∧ (∃ z : Int, r = some (iv z) ∧ (0 ≤ z ∧ z ≤ 1) ∧ (SIW S S1 z))
set_option maxRecDepth 100000 in
theorem t_mo_saysInside__q {S : sS} (hH : HI S) (hM : LXM S) (hB : ABV S) (hX : TXM S) (hno : Xi S 904 158 < Xi S 904 19) (hnw : NMWD S) (hdy : DR0 S) (d : Nat) : Mt lay0 (d + 5) m_mo_saysInside [.ref 904] S (Q_mo_saysInside__q S) := by
  refine Mt_R rfl rfl ?_
  have hF : FR md_mo_saysInside__q S S := FR.rf
  have w1 : -1 ≤ Xi S 904 158 ∧ Xi S 904 158 ≤ 23 := hH.c _ _
  have w2 : 0 ≤ Xi S 904 19 ∧ Xi S 904 19 ≤ 24 := hH.c _ _
  have hc19 : 0 ≤ Xi S 904 19 ∧ Xi S 904 19 ≤ 24 := hH.c _ _
  have hc32 : 0 ≤ Xi S 904 32 ∧ Xi S 904 32 ≤ 12 := hH.c _ _
  have hd0 : Xi S 904 157 = 0 := hdy
  have h160 : 0 ≤ Xi S 904 160 ∧ Xi S 904 160 ≤ 64 := hH.c _ _
  have C2 : ∀ (n2 : Nat) (v1 : Int), (1 ≤ v1 ∧ v1 ≤ 64) → (ofR S = ofF S (66 - v1).toNat v1) → n2 = (65 - v1).toNat → Rl lay0 (d + 4) m_mo_saysInside 2 [(0, .ref 904), (1, iv v1)] [] S (Q_mo_saysInside__q S) := by
    intro n2
    induction n2 using Nat.strongRecOn with
    | ind n2 ih2 =>
      intro v1 w3 o2 hm2
      have C30 : ∀  (v1 : Int), (1 ≤ v1 ∧ v1 ≤ 64) → (v1 = ofR S) → Rl lay0 (d + 4) m_mo_saysInside 30 [(0, .ref 904), (1, iv v1)] [] S (Q_mo_saysInside__q S) := by
        intro v1 w4 o30
        refine l_aload_n rfl rfl ?_
        refine l_gfi rfl rfl rfl rfl rfl ?_
        have w5 : 0 ≤ (Xi S 904 160) ∧ (Xi S 904 160) ≤ 64 := hH.c _ _
        refine l_if_le rfl rfl (by unfold rg; omega) (fun w6 => ?_) (fun w7 => ?_)
        · refine l_iconst rfl ?_
          refine l_istore_n rfl rfl rfl ?_
          have O85 : (0 = 1 → isO S) ∧ (0 = 0 → ¬ isO S) := by first | exact ⟨fun _ => ⟨by omega, by omega, by omega, by omega, by rw [← o30]; omega⟩, fun q => absurd q (by omega)⟩ | exact ⟨fun q => absurd q (by omega), fun _ w => by obtain ⟨w1, w2, w3, w4, w5⟩ := w; rw [← o30] at w3 w4 w5; omega⟩
          refine l_aload_n rfl rfl ?_
          refine l_iload_n rfl rfl ?_
          refine l_if_eq rfl rfl (by unfold rg; omega) (fun w8 => ?_) (fun w9 => absurd w9 (by omega))
          · refine l_iconst rfl ?_
            have w10 : 0 ≤ Xi S 904 157 ∧ Xi S 904 157 ≤ 1 := hH.c _ _
            refine l_callV rfl rfl rfl (t_mo_insideThing__q hH 0 ⟨by omega, by omega⟩ (by first | assumption | exact (LXM_FR hF rfl (by assumption : LXM S))) (by first | assumption | exact (DR0_FR hF rfl (by assumption : DR0 S))) _) ?_
            rintro _ _ ⟨rfl, z15, rfl, w15, w13, w14, w98⟩
            show Rl _ _ _ _ _ [iv z15] _ _
            refine l_istore_n rfl rfl rfl ?_
            refine l_iload_n rfl rfl ?_
            refine l_bipush rfl rfl ?_
            refine l_icmp_ne rfl rfl (by unfold rg; omega) (by unfold rg; omega) (fun w16 => ?_) (fun w17 => ?_)
            · refine l_iload_n rfl rfl ?_
              refine l_bipush rfl rfl ?_
              refine l_icmp_ne rfl rfl (by unfold rg; omega) (by unfold rg; omega) (fun w18 => ?_) (fun w19 => ?_)
              · refine l_iload_n rfl rfl ?_
                refine l_istore rfl rfl rfl ?_
                have E124 : (z15 = -2 ∧ z15 = Xi S 904 158) ∨ (z15 ≠ -2 ∧ z15 = z15) := by omega
                refine l_iload_n rfl rfl ?_
                refine l_if_ne rfl rfl (by unfold rg; omega) (fun w20 => absurd w20 (by omega)) (fun w21 => ?_)
                · refine l_aload_n rfl rfl ?_
                  refine l_gfi rfl rfl rfl rfl rfl ?_
                  have w22 : 0 ≤ (Xi S 904 157) ∧ (Xi S 904 157) ≤ 1 := hH.c _ _
                  refine l_if_ne rfl rfl (by unfold rg; omega) (fun w23 => ?_) (fun w24 => ?_)
                  · refine l_iconst rfl ?_
                    refine l_ireturn rfl rfl ?_
                    exact ⟨hH, hF, _, rfl, ⟨by omega, by omega⟩, (by first | (have t := K145; exact Y145) | (have t := K246; exact Y246) | (have t := hd0; exfalso; omega) | (have t := K226; exact B226 (by omega)) | (have t := p191; exact fun t p P i c => by have u := siw_y (O85.1 (by omega)) (by omega) w98 i c; exfalso; omega) | exact fun t p P i c => by first | (have u := siw_y (O85.1 (by omega)) (by omega) w98 i c; exfalso; omega) | (have u := siw_n (O85.2 (by omega)) w98 i c; exfalso; omega))⟩
                  · refine l_aload_n rfl rfl ?_
                    refine l_aload_n rfl rfl ?_
                    refine l_iconst rfl ?_
                    refine l_iload rfl rfl ?_
                    have w25 : 0 ≤ Xi S 904 15 ∧ Xi S 904 15 ≤ 300 := hH.c _ _
                    refine l_callV rfl rfl rfl (t_mo_lexOf__2 hH 4 z15 ⟨by omega, by omega⟩ ⟨by omega, by omega⟩ _) ?_
                    rintro _ _ ⟨rfl, z26, rfl, w26, p142, n142, y142⟩
                    show Rl _ _ _ _ _ [iv z26, .ref 904] _ _
                    have X142 : z26 ≠ -1 → WDX S z26 := fun q => (by have t := hnw (z26).toNat (by have := p142 q; omega) (Or.inl (y142 q).1); rw [show (((z26).toNat : Nat) : Int) = z26 by omega] at t; exact t)
                    refine l_callV rfl rfl rfl (t_mo_putLex__q hH z26 ⟨by omega, by omega⟩ (X142) (hd0) _) ?_
                    rintro _ T1 ⟨hHT1, w29, rfl, o145, e145⟩
                    have hFT1 : FR md_mo_saysInside__q S T1 := FR.tr hF w29 rfl
                    show Rl _ _ _ _ _ [] _ _
                    have K145 : True := trivial
                    have Y145 : SIW S T1 1 := fun t p P i c => by have u := siw_n (O85.2 (by omega)) w98 i c; have v := c.2.1 u.2.1; rw [← whu_e E124 u.1] at v; exact ⟨rfl, nml_o v (nmr_i (by omega) n142 (fun q => ⟨p142 q, y142 q⟩) o145 e145)⟩
                    refine l_iconst rfl ?_
                    refine l_ireturn rfl rfl ?_
                    exact ⟨hHT1, hFT1, _, rfl, ⟨by omega, by omega⟩, (by first | (have t := K145; exact Y145) | (have t := K246; exact Y246) | (have t := hd0; exfalso; omega) | (have t := K226; exact B226 (by omega)) | (have t := p191; exact fun t p P i c => by have u := siw_y (O85.1 (by omega)) (by omega) w98 i c; exfalso; omega) | exact fun t p P i c => by first | (have u := siw_y (O85.1 (by omega)) (by omega) w98 i c; exfalso; omega) | (have u := siw_n (O85.2 (by omega)) w98 i c; exfalso; omega))⟩
              · refine l_aload_n rfl rfl ?_
                refine l_gfi rfl rfl rfl rfl rfl ?_
                refine l_goto rfl rfl ?_
                refine l_istore rfl rfl rfl ?_
                have E124 : (z15 = -2 ∧ (Xi S 904 158) = Xi S 904 158) ∨ (z15 ≠ -2 ∧ (Xi S 904 158) = z15) := by omega
                refine l_iload_n rfl rfl ?_
                refine l_if_ne rfl rfl (by unfold rg; omega) (fun w30 => absurd w30 (by omega)) (fun w31 => ?_)
                · refine l_aload_n rfl rfl ?_
                  refine l_gfi rfl rfl rfl rfl rfl ?_
                  have w32 : 0 ≤ (Xi S 904 157) ∧ (Xi S 904 157) ≤ 1 := hH.c _ _
                  refine l_if_ne rfl rfl (by unfold rg; omega) (fun w33 => ?_) (fun w34 => ?_)
                  · refine l_iconst rfl ?_
                    refine l_ireturn rfl rfl ?_
                    exact ⟨hH, hF, _, rfl, ⟨by omega, by omega⟩, (by first | (have t := K145; exact Y145) | (have t := K246; exact Y246) | (have t := hd0; exfalso; omega) | (have t := K226; exact B226 (by omega)) | (have t := p191; exact fun t p P i c => by have u := siw_y (O85.1 (by omega)) (by omega) w98 i c; exfalso; omega) | exact fun t p P i c => by first | (have u := siw_y (O85.1 (by omega)) (by omega) w98 i c; exfalso; omega) | (have u := siw_n (O85.2 (by omega)) w98 i c; exfalso; omega))⟩
                  · refine l_aload_n rfl rfl ?_
                    refine l_aload_n rfl rfl ?_
                    refine l_iconst rfl ?_
                    refine l_iload rfl rfl ?_
                    have w35 : 0 ≤ Xi S 904 15 ∧ Xi S 904 15 ≤ 300 := hH.c _ _
                    refine l_callV rfl rfl rfl (t_mo_lexOf__2 hH 4 (Xi S 904 158) ⟨by omega, by omega⟩ ⟨by omega, by omega⟩ _) ?_
                    rintro _ _ ⟨rfl, z36, rfl, w36, p142, n142, y142⟩
                    show Rl _ _ _ _ _ [iv z36, .ref 904] _ _
                    have X142 : z36 ≠ -1 → WDX S z36 := fun q => (by have t := hnw (z36).toNat (by have := p142 q; omega) (Or.inl (y142 q).1); rw [show (((z36).toNat : Nat) : Int) = z36 by omega] at t; exact t)
                    refine l_callV rfl rfl rfl (t_mo_putLex__q hH z36 ⟨by omega, by omega⟩ (X142) (hd0) _) ?_
                    rintro _ T2 ⟨hHT2, w39, rfl, o145, e145⟩
                    have hFT2 : FR md_mo_saysInside__q S T2 := FR.tr hF w39 rfl
                    show Rl _ _ _ _ _ [] _ _
                    have K145 : True := trivial
                    have Y145 : SIW S T2 1 := fun t p P i c => by have u := siw_n (O85.2 (by omega)) w98 i c; have v := c.2.1 u.2.1; rw [← whu_e E124 u.1] at v; exact ⟨rfl, nml_o v (nmr_i (by omega) n142 (fun q => ⟨p142 q, y142 q⟩) o145 e145)⟩
                    refine l_iconst rfl ?_
                    refine l_ireturn rfl rfl ?_
                    exact ⟨hHT2, hFT2, _, rfl, ⟨by omega, by omega⟩, (by first | (have t := K145; exact Y145) | (have t := K246; exact Y246) | (have t := hd0; exfalso; omega) | (have t := K226; exact B226 (by omega)) | (have t := p191; exact fun t p P i c => by have u := siw_y (O85.1 (by omega)) (by omega) w98 i c; exfalso; omega) | exact fun t p P i c => by first | (have u := siw_y (O85.1 (by omega)) (by omega) w98 i c; exfalso; omega) | (have u := siw_n (O85.2 (by omega)) w98 i c; exfalso; omega))⟩
            · refine l_iconst rfl ?_
              refine l_ireturn rfl rfl ?_
              exact ⟨hH, hF, _, rfl, ⟨by omega, by omega⟩, (by first | (have t := K145; exact Y145) | (have t := K246; exact Y246) | (have t := hd0; exfalso; omega) | (have t := K226; exact B226 (by omega)) | (have t := p191; exact fun t p P i c => by have u := siw_y (O85.1 (by omega)) (by omega) w98 i c; exfalso; omega) | exact fun t p P i c => by first | (have u := siw_y (O85.1 (by omega)) (by omega) w98 i c; exfalso; omega) | (have u := siw_n (O85.2 (by omega)) w98 i c; exfalso; omega))⟩
        · refine l_aload_n rfl rfl ?_
          refine l_aload_n rfl rfl ?_
          refine l_gfr rfl rfl rfl rfl rfl (hH.r 904 159 994 rfl) ?_
          refine l_iconst rfl ?_
          refine l_laload (n := 64) rfl rfl (by omega) (by omega) (by unfold rg; omega) ?_
          have w40 : -9223372036854775808 ≤ (Xj S 994 ((0 : Int).toNat)) ∧ (Xj S 994 ((0 : Int).toNat)) < 9223372036854775808 := Xj_rg
          refine l_callV rfl rfl rfl (t_mo_keyOf__b hH (Xj S 994 ((0 : Int).toNat)) _) ?_
          rintro _ _ ⟨rfl, z41, rfl, w41, f44⟩
          show Rl _ _ _ _ _ [iv z41] _ _
          have x44 : z41 = ikR S 0 := by unfold ikR; exact f44 Xj_rg
          refine l_bipush rfl rfl ?_
          refine l_icmp_ne rfl rfl (by unfold rg; omega) (by unfold rg; omega) (fun w42 => ?_) (fun w43 => ?_)
          · refine l_iconst rfl ?_
            refine l_istore_n rfl rfl rfl ?_
            have O85 : (0 = 1 → isO S) ∧ (0 = 0 → ¬ isO S) := by first | exact ⟨fun _ => ⟨by omega, by omega, by omega, by omega, by rw [← o30]; omega⟩, fun q => absurd q (by omega)⟩ | exact ⟨fun q => absurd q (by omega), fun _ w => by obtain ⟨w1, w2, w3, w4, w5⟩ := w; rw [← o30] at w3 w4 w5; omega⟩
            refine l_aload_n rfl rfl ?_
            refine l_iload_n rfl rfl ?_
            refine l_if_eq rfl rfl (by unfold rg; omega) (fun w44 => ?_) (fun w45 => absurd w45 (by omega))
            · refine l_iconst rfl ?_
              have w46 : 0 ≤ Xi S 904 157 ∧ Xi S 904 157 ≤ 1 := hH.c _ _
              refine l_callV rfl rfl rfl (t_mo_insideThing__q hH 0 ⟨by omega, by omega⟩ (by first | assumption | exact (LXM_FR hF rfl (by assumption : LXM S))) (by first | assumption | exact (DR0_FR hF rfl (by assumption : DR0 S))) _) ?_
              rintro _ _ ⟨rfl, z51, rfl, w51, w49, w50, w98⟩
              show Rl _ _ _ _ _ [iv z51] _ _
              refine l_istore_n rfl rfl rfl ?_
              refine l_iload_n rfl rfl ?_
              refine l_bipush rfl rfl ?_
              refine l_icmp_ne rfl rfl (by unfold rg; omega) (by unfold rg; omega) (fun w52 => ?_) (fun w53 => ?_)
              · refine l_iload_n rfl rfl ?_
                refine l_bipush rfl rfl ?_
                refine l_icmp_ne rfl rfl (by unfold rg; omega) (by unfold rg; omega) (fun w54 => ?_) (fun w55 => ?_)
                · refine l_iload_n rfl rfl ?_
                  refine l_istore rfl rfl rfl ?_
                  have E124 : (z51 = -2 ∧ z51 = Xi S 904 158) ∨ (z51 ≠ -2 ∧ z51 = z51) := by omega
                  refine l_iload_n rfl rfl ?_
                  refine l_if_ne rfl rfl (by unfold rg; omega) (fun w56 => absurd w56 (by omega)) (fun w57 => ?_)
                  · refine l_aload_n rfl rfl ?_
                    refine l_gfi rfl rfl rfl rfl rfl ?_
                    have w58 : 0 ≤ (Xi S 904 157) ∧ (Xi S 904 157) ≤ 1 := hH.c _ _
                    refine l_if_ne rfl rfl (by unfold rg; omega) (fun w59 => ?_) (fun w60 => ?_)
                    · refine l_iconst rfl ?_
                      refine l_ireturn rfl rfl ?_
                      exact ⟨hH, hF, _, rfl, ⟨by omega, by omega⟩, (by first | (have t := K145; exact Y145) | (have t := K246; exact Y246) | (have t := hd0; exfalso; omega) | (have t := K226; exact B226 (by omega)) | (have t := p191; exact fun t p P i c => by have u := siw_y (O85.1 (by omega)) (by omega) w98 i c; exfalso; omega) | exact fun t p P i c => by first | (have u := siw_y (O85.1 (by omega)) (by omega) w98 i c; exfalso; omega) | (have u := siw_n (O85.2 (by omega)) w98 i c; exfalso; omega))⟩
                    · refine l_aload_n rfl rfl ?_
                      refine l_aload_n rfl rfl ?_
                      refine l_iconst rfl ?_
                      refine l_iload rfl rfl ?_
                      have w61 : 0 ≤ Xi S 904 15 ∧ Xi S 904 15 ≤ 300 := hH.c _ _
                      refine l_callV rfl rfl rfl (t_mo_lexOf__2 hH 4 z51 ⟨by omega, by omega⟩ ⟨by omega, by omega⟩ _) ?_
                      rintro _ _ ⟨rfl, z62, rfl, w62, p142, n142, y142⟩
                      show Rl _ _ _ _ _ [iv z62, .ref 904] _ _
                      have X142 : z62 ≠ -1 → WDX S z62 := fun q => (by have t := hnw (z62).toNat (by have := p142 q; omega) (Or.inl (y142 q).1); rw [show (((z62).toNat : Nat) : Int) = z62 by omega] at t; exact t)
                      refine l_callV rfl rfl rfl (t_mo_putLex__q hH z62 ⟨by omega, by omega⟩ (X142) (hd0) _) ?_
                      rintro _ T3 ⟨hHT3, w65, rfl, o145, e145⟩
                      have hFT3 : FR md_mo_saysInside__q S T3 := FR.tr hF w65 rfl
                      show Rl _ _ _ _ _ [] _ _
                      have K145 : True := trivial
                      have Y145 : SIW S T3 1 := fun t p P i c => by have u := siw_n (O85.2 (by omega)) w98 i c; have v := c.2.1 u.2.1; rw [← whu_e E124 u.1] at v; exact ⟨rfl, nml_o v (nmr_i (by omega) n142 (fun q => ⟨p142 q, y142 q⟩) o145 e145)⟩
                      refine l_iconst rfl ?_
                      refine l_ireturn rfl rfl ?_
                      exact ⟨hHT3, hFT3, _, rfl, ⟨by omega, by omega⟩, (by first | (have t := K145; exact Y145) | (have t := K246; exact Y246) | (have t := hd0; exfalso; omega) | (have t := K226; exact B226 (by omega)) | (have t := p191; exact fun t p P i c => by have u := siw_y (O85.1 (by omega)) (by omega) w98 i c; exfalso; omega) | exact fun t p P i c => by first | (have u := siw_y (O85.1 (by omega)) (by omega) w98 i c; exfalso; omega) | (have u := siw_n (O85.2 (by omega)) w98 i c; exfalso; omega))⟩
                · refine l_aload_n rfl rfl ?_
                  refine l_gfi rfl rfl rfl rfl rfl ?_
                  refine l_goto rfl rfl ?_
                  refine l_istore rfl rfl rfl ?_
                  have E124 : (z51 = -2 ∧ (Xi S 904 158) = Xi S 904 158) ∨ (z51 ≠ -2 ∧ (Xi S 904 158) = z51) := by omega
                  refine l_iload_n rfl rfl ?_
                  refine l_if_ne rfl rfl (by unfold rg; omega) (fun w66 => absurd w66 (by omega)) (fun w67 => ?_)
                  · refine l_aload_n rfl rfl ?_
                    refine l_gfi rfl rfl rfl rfl rfl ?_
                    have w68 : 0 ≤ (Xi S 904 157) ∧ (Xi S 904 157) ≤ 1 := hH.c _ _
                    refine l_if_ne rfl rfl (by unfold rg; omega) (fun w69 => ?_) (fun w70 => ?_)
                    · refine l_iconst rfl ?_
                      refine l_ireturn rfl rfl ?_
                      exact ⟨hH, hF, _, rfl, ⟨by omega, by omega⟩, (by first | (have t := K145; exact Y145) | (have t := K246; exact Y246) | (have t := hd0; exfalso; omega) | (have t := K226; exact B226 (by omega)) | (have t := p191; exact fun t p P i c => by have u := siw_y (O85.1 (by omega)) (by omega) w98 i c; exfalso; omega) | exact fun t p P i c => by first | (have u := siw_y (O85.1 (by omega)) (by omega) w98 i c; exfalso; omega) | (have u := siw_n (O85.2 (by omega)) w98 i c; exfalso; omega))⟩
                    · refine l_aload_n rfl rfl ?_
                      refine l_aload_n rfl rfl ?_
                      refine l_iconst rfl ?_
                      refine l_iload rfl rfl ?_
                      have w71 : 0 ≤ Xi S 904 15 ∧ Xi S 904 15 ≤ 300 := hH.c _ _
                      refine l_callV rfl rfl rfl (t_mo_lexOf__2 hH 4 (Xi S 904 158) ⟨by omega, by omega⟩ ⟨by omega, by omega⟩ _) ?_
                      rintro _ _ ⟨rfl, z72, rfl, w72, p142, n142, y142⟩
                      show Rl _ _ _ _ _ [iv z72, .ref 904] _ _
                      have X142 : z72 ≠ -1 → WDX S z72 := fun q => (by have t := hnw (z72).toNat (by have := p142 q; omega) (Or.inl (y142 q).1); rw [show (((z72).toNat : Nat) : Int) = z72 by omega] at t; exact t)
                      refine l_callV rfl rfl rfl (t_mo_putLex__q hH z72 ⟨by omega, by omega⟩ (X142) (hd0) _) ?_
                      rintro _ T4 ⟨hHT4, w75, rfl, o145, e145⟩
                      have hFT4 : FR md_mo_saysInside__q S T4 := FR.tr hF w75 rfl
                      show Rl _ _ _ _ _ [] _ _
                      have K145 : True := trivial
                      have Y145 : SIW S T4 1 := fun t p P i c => by have u := siw_n (O85.2 (by omega)) w98 i c; have v := c.2.1 u.2.1; rw [← whu_e E124 u.1] at v; exact ⟨rfl, nml_o v (nmr_i (by omega) n142 (fun q => ⟨p142 q, y142 q⟩) o145 e145)⟩
                      refine l_iconst rfl ?_
                      refine l_ireturn rfl rfl ?_
                      exact ⟨hHT4, hFT4, _, rfl, ⟨by omega, by omega⟩, (by first | (have t := K145; exact Y145) | (have t := K246; exact Y246) | (have t := hd0; exfalso; omega) | (have t := K226; exact B226 (by omega)) | (have t := p191; exact fun t p P i c => by have u := siw_y (O85.1 (by omega)) (by omega) w98 i c; exfalso; omega) | exact fun t p P i c => by first | (have u := siw_y (O85.1 (by omega)) (by omega) w98 i c; exfalso; omega) | (have u := siw_n (O85.2 (by omega)) w98 i c; exfalso; omega))⟩
              · refine l_iconst rfl ?_
                refine l_ireturn rfl rfl ?_
                exact ⟨hH, hF, _, rfl, ⟨by omega, by omega⟩, (by first | (have t := K145; exact Y145) | (have t := K246; exact Y246) | (have t := hd0; exfalso; omega) | (have t := K226; exact B226 (by omega)) | (have t := p191; exact fun t p P i c => by have u := siw_y (O85.1 (by omega)) (by omega) w98 i c; exfalso; omega) | exact fun t p P i c => by first | (have u := siw_y (O85.1 (by omega)) (by omega) w98 i c; exfalso; omega) | (have u := siw_n (O85.2 (by omega)) w98 i c; exfalso; omega))⟩
          · refine l_iload_n rfl rfl ?_
            refine l_iconst rfl ?_
            refine l_icmp_le rfl rfl (by unfold rg; omega) (by unfold rg; omega) (fun w76 => ?_) (fun w77 => ?_)
            · refine l_iconst rfl ?_
              refine l_istore_n rfl rfl rfl ?_
              have O85 : (0 = 1 → isO S) ∧ (0 = 0 → ¬ isO S) := by first | exact ⟨fun _ => ⟨by omega, by omega, by omega, by omega, by rw [← o30]; omega⟩, fun q => absurd q (by omega)⟩ | exact ⟨fun q => absurd q (by omega), fun _ w => by obtain ⟨w1, w2, w3, w4, w5⟩ := w; rw [← o30] at w3 w4 w5; omega⟩
              refine l_aload_n rfl rfl ?_
              refine l_iload_n rfl rfl ?_
              refine l_if_eq rfl rfl (by unfold rg; omega) (fun w78 => ?_) (fun w79 => absurd w79 (by omega))
              · refine l_iconst rfl ?_
                have w80 : 0 ≤ Xi S 904 157 ∧ Xi S 904 157 ≤ 1 := hH.c _ _
                refine l_callV rfl rfl rfl (t_mo_insideThing__q hH 0 ⟨by omega, by omega⟩ (by first | assumption | exact (LXM_FR hF rfl (by assumption : LXM S))) (by first | assumption | exact (DR0_FR hF rfl (by assumption : DR0 S))) _) ?_
                rintro _ _ ⟨rfl, z85, rfl, w85, w83, w84, w98⟩
                show Rl _ _ _ _ _ [iv z85] _ _
                refine l_istore_n rfl rfl rfl ?_
                refine l_iload_n rfl rfl ?_
                refine l_bipush rfl rfl ?_
                refine l_icmp_ne rfl rfl (by unfold rg; omega) (by unfold rg; omega) (fun w86 => ?_) (fun w87 => ?_)
                · refine l_iload_n rfl rfl ?_
                  refine l_bipush rfl rfl ?_
                  refine l_icmp_ne rfl rfl (by unfold rg; omega) (by unfold rg; omega) (fun w88 => ?_) (fun w89 => ?_)
                  · refine l_iload_n rfl rfl ?_
                    refine l_istore rfl rfl rfl ?_
                    have E124 : (z85 = -2 ∧ z85 = Xi S 904 158) ∨ (z85 ≠ -2 ∧ z85 = z85) := by omega
                    refine l_iload_n rfl rfl ?_
                    refine l_if_ne rfl rfl (by unfold rg; omega) (fun w90 => absurd w90 (by omega)) (fun w91 => ?_)
                    · refine l_aload_n rfl rfl ?_
                      refine l_gfi rfl rfl rfl rfl rfl ?_
                      have w92 : 0 ≤ (Xi S 904 157) ∧ (Xi S 904 157) ≤ 1 := hH.c _ _
                      refine l_if_ne rfl rfl (by unfold rg; omega) (fun w93 => ?_) (fun w94 => ?_)
                      · refine l_iconst rfl ?_
                        refine l_ireturn rfl rfl ?_
                        exact ⟨hH, hF, _, rfl, ⟨by omega, by omega⟩, (by first | (have t := K145; exact Y145) | (have t := K246; exact Y246) | (have t := hd0; exfalso; omega) | (have t := K226; exact B226 (by omega)) | (have t := p191; exact fun t p P i c => by have u := siw_y (O85.1 (by omega)) (by omega) w98 i c; exfalso; omega) | exact fun t p P i c => by first | (have u := siw_y (O85.1 (by omega)) (by omega) w98 i c; exfalso; omega) | (have u := siw_n (O85.2 (by omega)) w98 i c; exfalso; omega))⟩
                      · refine l_aload_n rfl rfl ?_
                        refine l_aload_n rfl rfl ?_
                        refine l_iconst rfl ?_
                        refine l_iload rfl rfl ?_
                        have w95 : 0 ≤ Xi S 904 15 ∧ Xi S 904 15 ≤ 300 := hH.c _ _
                        refine l_callV rfl rfl rfl (t_mo_lexOf__2 hH 4 z85 ⟨by omega, by omega⟩ ⟨by omega, by omega⟩ _) ?_
                        rintro _ _ ⟨rfl, z96, rfl, w96, p142, n142, y142⟩
                        show Rl _ _ _ _ _ [iv z96, .ref 904] _ _
                        have X142 : z96 ≠ -1 → WDX S z96 := fun q => (by have t := hnw (z96).toNat (by have := p142 q; omega) (Or.inl (y142 q).1); rw [show (((z96).toNat : Nat) : Int) = z96 by omega] at t; exact t)
                        refine l_callV rfl rfl rfl (t_mo_putLex__q hH z96 ⟨by omega, by omega⟩ (X142) (hd0) _) ?_
                        rintro _ T5 ⟨hHT5, w99, rfl, o145, e145⟩
                        have hFT5 : FR md_mo_saysInside__q S T5 := FR.tr hF w99 rfl
                        show Rl _ _ _ _ _ [] _ _
                        have K145 : True := trivial
                        have Y145 : SIW S T5 1 := fun t p P i c => by have u := siw_n (O85.2 (by omega)) w98 i c; have v := c.2.1 u.2.1; rw [← whu_e E124 u.1] at v; exact ⟨rfl, nml_o v (nmr_i (by omega) n142 (fun q => ⟨p142 q, y142 q⟩) o145 e145)⟩
                        refine l_iconst rfl ?_
                        refine l_ireturn rfl rfl ?_
                        exact ⟨hHT5, hFT5, _, rfl, ⟨by omega, by omega⟩, (by first | (have t := K145; exact Y145) | (have t := K246; exact Y246) | (have t := hd0; exfalso; omega) | (have t := K226; exact B226 (by omega)) | (have t := p191; exact fun t p P i c => by have u := siw_y (O85.1 (by omega)) (by omega) w98 i c; exfalso; omega) | exact fun t p P i c => by first | (have u := siw_y (O85.1 (by omega)) (by omega) w98 i c; exfalso; omega) | (have u := siw_n (O85.2 (by omega)) w98 i c; exfalso; omega))⟩
                  · refine l_aload_n rfl rfl ?_
                    refine l_gfi rfl rfl rfl rfl rfl ?_
                    refine l_goto rfl rfl ?_
                    refine l_istore rfl rfl rfl ?_
                    have E124 : (z85 = -2 ∧ (Xi S 904 158) = Xi S 904 158) ∨ (z85 ≠ -2 ∧ (Xi S 904 158) = z85) := by omega
                    refine l_iload_n rfl rfl ?_
                    refine l_if_ne rfl rfl (by unfold rg; omega) (fun w100 => absurd w100 (by omega)) (fun w101 => ?_)
                    · refine l_aload_n rfl rfl ?_
                      refine l_gfi rfl rfl rfl rfl rfl ?_
                      have w102 : 0 ≤ (Xi S 904 157) ∧ (Xi S 904 157) ≤ 1 := hH.c _ _
                      refine l_if_ne rfl rfl (by unfold rg; omega) (fun w103 => ?_) (fun w104 => ?_)
                      · refine l_iconst rfl ?_
                        refine l_ireturn rfl rfl ?_
                        exact ⟨hH, hF, _, rfl, ⟨by omega, by omega⟩, (by first | (have t := K145; exact Y145) | (have t := K246; exact Y246) | (have t := hd0; exfalso; omega) | (have t := K226; exact B226 (by omega)) | (have t := p191; exact fun t p P i c => by have u := siw_y (O85.1 (by omega)) (by omega) w98 i c; exfalso; omega) | exact fun t p P i c => by first | (have u := siw_y (O85.1 (by omega)) (by omega) w98 i c; exfalso; omega) | (have u := siw_n (O85.2 (by omega)) w98 i c; exfalso; omega))⟩
                      · refine l_aload_n rfl rfl ?_
                        refine l_aload_n rfl rfl ?_
                        refine l_iconst rfl ?_
                        refine l_iload rfl rfl ?_
                        have w105 : 0 ≤ Xi S 904 15 ∧ Xi S 904 15 ≤ 300 := hH.c _ _
                        refine l_callV rfl rfl rfl (t_mo_lexOf__2 hH 4 (Xi S 904 158) ⟨by omega, by omega⟩ ⟨by omega, by omega⟩ _) ?_
                        rintro _ _ ⟨rfl, z106, rfl, w106, p142, n142, y142⟩
                        show Rl _ _ _ _ _ [iv z106, .ref 904] _ _
                        have X142 : z106 ≠ -1 → WDX S z106 := fun q => (by have t := hnw (z106).toNat (by have := p142 q; omega) (Or.inl (y142 q).1); rw [show (((z106).toNat : Nat) : Int) = z106 by omega] at t; exact t)
                        refine l_callV rfl rfl rfl (t_mo_putLex__q hH z106 ⟨by omega, by omega⟩ (X142) (hd0) _) ?_
                        rintro _ T6 ⟨hHT6, w109, rfl, o145, e145⟩
                        have hFT6 : FR md_mo_saysInside__q S T6 := FR.tr hF w109 rfl
                        show Rl _ _ _ _ _ [] _ _
                        have K145 : True := trivial
                        have Y145 : SIW S T6 1 := fun t p P i c => by have u := siw_n (O85.2 (by omega)) w98 i c; have v := c.2.1 u.2.1; rw [← whu_e E124 u.1] at v; exact ⟨rfl, nml_o v (nmr_i (by omega) n142 (fun q => ⟨p142 q, y142 q⟩) o145 e145)⟩
                        refine l_iconst rfl ?_
                        refine l_ireturn rfl rfl ?_
                        exact ⟨hHT6, hFT6, _, rfl, ⟨by omega, by omega⟩, (by first | (have t := K145; exact Y145) | (have t := K246; exact Y246) | (have t := hd0; exfalso; omega) | (have t := K226; exact B226 (by omega)) | (have t := p191; exact fun t p P i c => by have u := siw_y (O85.1 (by omega)) (by omega) w98 i c; exfalso; omega) | exact fun t p P i c => by first | (have u := siw_y (O85.1 (by omega)) (by omega) w98 i c; exfalso; omega) | (have u := siw_n (O85.2 (by omega)) w98 i c; exfalso; omega))⟩
                · refine l_iconst rfl ?_
                  refine l_ireturn rfl rfl ?_
                  exact ⟨hH, hF, _, rfl, ⟨by omega, by omega⟩, (by first | (have t := K145; exact Y145) | (have t := K246; exact Y246) | (have t := hd0; exfalso; omega) | (have t := K226; exact B226 (by omega)) | (have t := p191; exact fun t p P i c => by have u := siw_y (O85.1 (by omega)) (by omega) w98 i c; exfalso; omega) | exact fun t p P i c => by first | (have u := siw_y (O85.1 (by omega)) (by omega) w98 i c; exfalso; omega) | (have u := siw_n (O85.2 (by omega)) w98 i c; exfalso; omega))⟩
            · refine l_iload_n rfl rfl ?_
              refine l_aload_n rfl rfl ?_
              refine l_gfi rfl rfl rfl rfl rfl ?_
              refine l_icmp_ge rfl rfl (by unfold rg; omega) (by unfold rg; omega) (fun w110 => ?_) (fun w111 => ?_)
              · refine l_iconst rfl ?_
                refine l_istore_n rfl rfl rfl ?_
                have O85 : (0 = 1 → isO S) ∧ (0 = 0 → ¬ isO S) := by first | exact ⟨fun _ => ⟨by omega, by omega, by omega, by omega, by rw [← o30]; omega⟩, fun q => absurd q (by omega)⟩ | exact ⟨fun q => absurd q (by omega), fun _ w => by obtain ⟨w1, w2, w3, w4, w5⟩ := w; rw [← o30] at w3 w4 w5; omega⟩
                refine l_aload_n rfl rfl ?_
                refine l_iload_n rfl rfl ?_
                refine l_if_eq rfl rfl (by unfold rg; omega) (fun w112 => ?_) (fun w113 => absurd w113 (by omega))
                · refine l_iconst rfl ?_
                  have w114 : 0 ≤ Xi S 904 157 ∧ Xi S 904 157 ≤ 1 := hH.c _ _
                  refine l_callV rfl rfl rfl (t_mo_insideThing__q hH 0 ⟨by omega, by omega⟩ (by first | assumption | exact (LXM_FR hF rfl (by assumption : LXM S))) (by first | assumption | exact (DR0_FR hF rfl (by assumption : DR0 S))) _) ?_
                  rintro _ _ ⟨rfl, z119, rfl, w119, w117, w118, w98⟩
                  show Rl _ _ _ _ _ [iv z119] _ _
                  refine l_istore_n rfl rfl rfl ?_
                  refine l_iload_n rfl rfl ?_
                  refine l_bipush rfl rfl ?_
                  refine l_icmp_ne rfl rfl (by unfold rg; omega) (by unfold rg; omega) (fun w120 => ?_) (fun w121 => ?_)
                  · refine l_iload_n rfl rfl ?_
                    refine l_bipush rfl rfl ?_
                    refine l_icmp_ne rfl rfl (by unfold rg; omega) (by unfold rg; omega) (fun w122 => ?_) (fun w123 => ?_)
                    · refine l_iload_n rfl rfl ?_
                      refine l_istore rfl rfl rfl ?_
                      have E124 : (z119 = -2 ∧ z119 = Xi S 904 158) ∨ (z119 ≠ -2 ∧ z119 = z119) := by omega
                      refine l_iload_n rfl rfl ?_
                      refine l_if_ne rfl rfl (by unfold rg; omega) (fun w124 => absurd w124 (by omega)) (fun w125 => ?_)
                      · refine l_aload_n rfl rfl ?_
                        refine l_gfi rfl rfl rfl rfl rfl ?_
                        have w126 : 0 ≤ (Xi S 904 157) ∧ (Xi S 904 157) ≤ 1 := hH.c _ _
                        refine l_if_ne rfl rfl (by unfold rg; omega) (fun w127 => ?_) (fun w128 => ?_)
                        · refine l_iconst rfl ?_
                          refine l_ireturn rfl rfl ?_
                          exact ⟨hH, hF, _, rfl, ⟨by omega, by omega⟩, (by first | (have t := K145; exact Y145) | (have t := K246; exact Y246) | (have t := hd0; exfalso; omega) | (have t := K226; exact B226 (by omega)) | (have t := p191; exact fun t p P i c => by have u := siw_y (O85.1 (by omega)) (by omega) w98 i c; exfalso; omega) | exact fun t p P i c => by first | (have u := siw_y (O85.1 (by omega)) (by omega) w98 i c; exfalso; omega) | (have u := siw_n (O85.2 (by omega)) w98 i c; exfalso; omega))⟩
                        · refine l_aload_n rfl rfl ?_
                          refine l_aload_n rfl rfl ?_
                          refine l_iconst rfl ?_
                          refine l_iload rfl rfl ?_
                          have w129 : 0 ≤ Xi S 904 15 ∧ Xi S 904 15 ≤ 300 := hH.c _ _
                          refine l_callV rfl rfl rfl (t_mo_lexOf__2 hH 4 z119 ⟨by omega, by omega⟩ ⟨by omega, by omega⟩ _) ?_
                          rintro _ _ ⟨rfl, z130, rfl, w130, p142, n142, y142⟩
                          show Rl _ _ _ _ _ [iv z130, .ref 904] _ _
                          have X142 : z130 ≠ -1 → WDX S z130 := fun q => (by have t := hnw (z130).toNat (by have := p142 q; omega) (Or.inl (y142 q).1); rw [show (((z130).toNat : Nat) : Int) = z130 by omega] at t; exact t)
                          refine l_callV rfl rfl rfl (t_mo_putLex__q hH z130 ⟨by omega, by omega⟩ (X142) (hd0) _) ?_
                          rintro _ T7 ⟨hHT7, w133, rfl, o145, e145⟩
                          have hFT7 : FR md_mo_saysInside__q S T7 := FR.tr hF w133 rfl
                          show Rl _ _ _ _ _ [] _ _
                          have K145 : True := trivial
                          have Y145 : SIW S T7 1 := fun t p P i c => by have u := siw_n (O85.2 (by omega)) w98 i c; have v := c.2.1 u.2.1; rw [← whu_e E124 u.1] at v; exact ⟨rfl, nml_o v (nmr_i (by omega) n142 (fun q => ⟨p142 q, y142 q⟩) o145 e145)⟩
                          refine l_iconst rfl ?_
                          refine l_ireturn rfl rfl ?_
                          exact ⟨hHT7, hFT7, _, rfl, ⟨by omega, by omega⟩, (by first | (have t := K145; exact Y145) | (have t := K246; exact Y246) | (have t := hd0; exfalso; omega) | (have t := K226; exact B226 (by omega)) | (have t := p191; exact fun t p P i c => by have u := siw_y (O85.1 (by omega)) (by omega) w98 i c; exfalso; omega) | exact fun t p P i c => by first | (have u := siw_y (O85.1 (by omega)) (by omega) w98 i c; exfalso; omega) | (have u := siw_n (O85.2 (by omega)) w98 i c; exfalso; omega))⟩
                    · refine l_aload_n rfl rfl ?_
                      refine l_gfi rfl rfl rfl rfl rfl ?_
                      refine l_goto rfl rfl ?_
                      refine l_istore rfl rfl rfl ?_
                      have E124 : (z119 = -2 ∧ (Xi S 904 158) = Xi S 904 158) ∨ (z119 ≠ -2 ∧ (Xi S 904 158) = z119) := by omega
                      refine l_iload_n rfl rfl ?_
                      refine l_if_ne rfl rfl (by unfold rg; omega) (fun w134 => absurd w134 (by omega)) (fun w135 => ?_)
                      · refine l_aload_n rfl rfl ?_
                        refine l_gfi rfl rfl rfl rfl rfl ?_
                        have w136 : 0 ≤ (Xi S 904 157) ∧ (Xi S 904 157) ≤ 1 := hH.c _ _
                        refine l_if_ne rfl rfl (by unfold rg; omega) (fun w137 => ?_) (fun w138 => ?_)
                        · refine l_iconst rfl ?_
                          refine l_ireturn rfl rfl ?_
                          exact ⟨hH, hF, _, rfl, ⟨by omega, by omega⟩, (by first | (have t := K145; exact Y145) | (have t := K246; exact Y246) | (have t := hd0; exfalso; omega) | (have t := K226; exact B226 (by omega)) | (have t := p191; exact fun t p P i c => by have u := siw_y (O85.1 (by omega)) (by omega) w98 i c; exfalso; omega) | exact fun t p P i c => by first | (have u := siw_y (O85.1 (by omega)) (by omega) w98 i c; exfalso; omega) | (have u := siw_n (O85.2 (by omega)) w98 i c; exfalso; omega))⟩
                        · refine l_aload_n rfl rfl ?_
                          refine l_aload_n rfl rfl ?_
                          refine l_iconst rfl ?_
                          refine l_iload rfl rfl ?_
                          have w139 : 0 ≤ Xi S 904 15 ∧ Xi S 904 15 ≤ 300 := hH.c _ _
                          refine l_callV rfl rfl rfl (t_mo_lexOf__2 hH 4 (Xi S 904 158) ⟨by omega, by omega⟩ ⟨by omega, by omega⟩ _) ?_
                          rintro _ _ ⟨rfl, z140, rfl, w140, p142, n142, y142⟩
                          show Rl _ _ _ _ _ [iv z140, .ref 904] _ _
                          have X142 : z140 ≠ -1 → WDX S z140 := fun q => (by have t := hnw (z140).toNat (by have := p142 q; omega) (Or.inl (y142 q).1); rw [show (((z140).toNat : Nat) : Int) = z140 by omega] at t; exact t)
                          refine l_callV rfl rfl rfl (t_mo_putLex__q hH z140 ⟨by omega, by omega⟩ (X142) (hd0) _) ?_
                          rintro _ T8 ⟨hHT8, w143, rfl, o145, e145⟩
                          have hFT8 : FR md_mo_saysInside__q S T8 := FR.tr hF w143 rfl
                          show Rl _ _ _ _ _ [] _ _
                          have K145 : True := trivial
                          have Y145 : SIW S T8 1 := fun t p P i c => by have u := siw_n (O85.2 (by omega)) w98 i c; have v := c.2.1 u.2.1; rw [← whu_e E124 u.1] at v; exact ⟨rfl, nml_o v (nmr_i (by omega) n142 (fun q => ⟨p142 q, y142 q⟩) o145 e145)⟩
                          refine l_iconst rfl ?_
                          refine l_ireturn rfl rfl ?_
                          exact ⟨hHT8, hFT8, _, rfl, ⟨by omega, by omega⟩, (by first | (have t := K145; exact Y145) | (have t := K246; exact Y246) | (have t := hd0; exfalso; omega) | (have t := K226; exact B226 (by omega)) | (have t := p191; exact fun t p P i c => by have u := siw_y (O85.1 (by omega)) (by omega) w98 i c; exfalso; omega) | exact fun t p P i c => by first | (have u := siw_y (O85.1 (by omega)) (by omega) w98 i c; exfalso; omega) | (have u := siw_n (O85.2 (by omega)) w98 i c; exfalso; omega))⟩
                  · refine l_iconst rfl ?_
                    refine l_ireturn rfl rfl ?_
                    exact ⟨hH, hF, _, rfl, ⟨by omega, by omega⟩, (by first | (have t := K145; exact Y145) | (have t := K246; exact Y246) | (have t := hd0; exfalso; omega) | (have t := K226; exact B226 (by omega)) | (have t := p191; exact fun t p P i c => by have u := siw_y (O85.1 (by omega)) (by omega) w98 i c; exfalso; omega) | exact fun t p P i c => by first | (have u := siw_y (O85.1 (by omega)) (by omega) w98 i c; exfalso; omega) | (have u := siw_n (O85.2 (by omega)) w98 i c; exfalso; omega))⟩
              · refine l_aload_n rfl rfl ?_
                refine l_aload_n rfl rfl ?_
                refine l_gfr rfl rfl rfl rfl rfl (hH.r 904 159 994 rfl) ?_
                refine l_iload_n rfl rfl ?_
                refine l_laload (n := 64) rfl rfl (by omega) (by omega) (by unfold rg; omega) ?_
                have w144 : -9223372036854775808 ≤ (Xj S 994 ((v1).toNat)) ∧ (Xj S 994 ((v1).toNat)) < 9223372036854775808 := Xj_rg
                refine l_callV rfl rfl rfl (t_mo_keyOf__b hH (Xj S 994 ((v1).toNat)) _) ?_
                rintro _ _ ⟨rfl, z145, rfl, w145, f72⟩
                show Rl _ _ _ _ _ [iv z145] _ _
                have x72 : z145 = ikR S v1 := by unfold ikR; exact f72 Xj_rg
                refine l_bipush rfl rfl ?_
                refine l_icmp_ne rfl rfl (by unfold rg; omega) (by unfold rg; omega) (fun w146 => ?_) (fun w147 => ?_)
                · refine l_iconst rfl ?_
                  refine l_istore_n rfl rfl rfl ?_
                  have O85 : (0 = 1 → isO S) ∧ (0 = 0 → ¬ isO S) := by first | exact ⟨fun _ => ⟨by omega, by omega, by omega, by omega, by rw [← o30]; omega⟩, fun q => absurd q (by omega)⟩ | exact ⟨fun q => absurd q (by omega), fun _ w => by obtain ⟨w1, w2, w3, w4, w5⟩ := w; rw [← o30] at w3 w4 w5; omega⟩
                  refine l_aload_n rfl rfl ?_
                  refine l_iload_n rfl rfl ?_
                  refine l_if_eq rfl rfl (by unfold rg; omega) (fun w148 => ?_) (fun w149 => absurd w149 (by omega))
                  · refine l_iconst rfl ?_
                    have w150 : 0 ≤ Xi S 904 157 ∧ Xi S 904 157 ≤ 1 := hH.c _ _
                    refine l_callV rfl rfl rfl (t_mo_insideThing__q hH 0 ⟨by omega, by omega⟩ (by first | assumption | exact (LXM_FR hF rfl (by assumption : LXM S))) (by first | assumption | exact (DR0_FR hF rfl (by assumption : DR0 S))) _) ?_
                    rintro _ _ ⟨rfl, z155, rfl, w155, w153, w154, w98⟩
                    show Rl _ _ _ _ _ [iv z155] _ _
                    refine l_istore_n rfl rfl rfl ?_
                    refine l_iload_n rfl rfl ?_
                    refine l_bipush rfl rfl ?_
                    refine l_icmp_ne rfl rfl (by unfold rg; omega) (by unfold rg; omega) (fun w156 => ?_) (fun w157 => ?_)
                    · refine l_iload_n rfl rfl ?_
                      refine l_bipush rfl rfl ?_
                      refine l_icmp_ne rfl rfl (by unfold rg; omega) (by unfold rg; omega) (fun w158 => ?_) (fun w159 => ?_)
                      · refine l_iload_n rfl rfl ?_
                        refine l_istore rfl rfl rfl ?_
                        have E124 : (z155 = -2 ∧ z155 = Xi S 904 158) ∨ (z155 ≠ -2 ∧ z155 = z155) := by omega
                        refine l_iload_n rfl rfl ?_
                        refine l_if_ne rfl rfl (by unfold rg; omega) (fun w160 => absurd w160 (by omega)) (fun w161 => ?_)
                        · refine l_aload_n rfl rfl ?_
                          refine l_gfi rfl rfl rfl rfl rfl ?_
                          have w162 : 0 ≤ (Xi S 904 157) ∧ (Xi S 904 157) ≤ 1 := hH.c _ _
                          refine l_if_ne rfl rfl (by unfold rg; omega) (fun w163 => ?_) (fun w164 => ?_)
                          · refine l_iconst rfl ?_
                            refine l_ireturn rfl rfl ?_
                            exact ⟨hH, hF, _, rfl, ⟨by omega, by omega⟩, (by first | (have t := K145; exact Y145) | (have t := K246; exact Y246) | (have t := hd0; exfalso; omega) | (have t := K226; exact B226 (by omega)) | (have t := p191; exact fun t p P i c => by have u := siw_y (O85.1 (by omega)) (by omega) w98 i c; exfalso; omega) | exact fun t p P i c => by first | (have u := siw_y (O85.1 (by omega)) (by omega) w98 i c; exfalso; omega) | (have u := siw_n (O85.2 (by omega)) w98 i c; exfalso; omega))⟩
                          · refine l_aload_n rfl rfl ?_
                            refine l_aload_n rfl rfl ?_
                            refine l_iconst rfl ?_
                            refine l_iload rfl rfl ?_
                            have w165 : 0 ≤ Xi S 904 15 ∧ Xi S 904 15 ≤ 300 := hH.c _ _
                            refine l_callV rfl rfl rfl (t_mo_lexOf__2 hH 4 z155 ⟨by omega, by omega⟩ ⟨by omega, by omega⟩ _) ?_
                            rintro _ _ ⟨rfl, z166, rfl, w166, p142, n142, y142⟩
                            show Rl _ _ _ _ _ [iv z166, .ref 904] _ _
                            have X142 : z166 ≠ -1 → WDX S z166 := fun q => (by have t := hnw (z166).toNat (by have := p142 q; omega) (Or.inl (y142 q).1); rw [show (((z166).toNat : Nat) : Int) = z166 by omega] at t; exact t)
                            refine l_callV rfl rfl rfl (t_mo_putLex__q hH z166 ⟨by omega, by omega⟩ (X142) (hd0) _) ?_
                            rintro _ T9 ⟨hHT9, w169, rfl, o145, e145⟩
                            have hFT9 : FR md_mo_saysInside__q S T9 := FR.tr hF w169 rfl
                            show Rl _ _ _ _ _ [] _ _
                            have K145 : True := trivial
                            have Y145 : SIW S T9 1 := fun t p P i c => by have u := siw_n (O85.2 (by omega)) w98 i c; have v := c.2.1 u.2.1; rw [← whu_e E124 u.1] at v; exact ⟨rfl, nml_o v (nmr_i (by omega) n142 (fun q => ⟨p142 q, y142 q⟩) o145 e145)⟩
                            refine l_iconst rfl ?_
                            refine l_ireturn rfl rfl ?_
                            exact ⟨hHT9, hFT9, _, rfl, ⟨by omega, by omega⟩, (by first | (have t := K145; exact Y145) | (have t := K246; exact Y246) | (have t := hd0; exfalso; omega) | (have t := K226; exact B226 (by omega)) | (have t := p191; exact fun t p P i c => by have u := siw_y (O85.1 (by omega)) (by omega) w98 i c; exfalso; omega) | exact fun t p P i c => by first | (have u := siw_y (O85.1 (by omega)) (by omega) w98 i c; exfalso; omega) | (have u := siw_n (O85.2 (by omega)) w98 i c; exfalso; omega))⟩
                      · refine l_aload_n rfl rfl ?_
                        refine l_gfi rfl rfl rfl rfl rfl ?_
                        refine l_goto rfl rfl ?_
                        refine l_istore rfl rfl rfl ?_
                        have E124 : (z155 = -2 ∧ (Xi S 904 158) = Xi S 904 158) ∨ (z155 ≠ -2 ∧ (Xi S 904 158) = z155) := by omega
                        refine l_iload_n rfl rfl ?_
                        refine l_if_ne rfl rfl (by unfold rg; omega) (fun w170 => absurd w170 (by omega)) (fun w171 => ?_)
                        · refine l_aload_n rfl rfl ?_
                          refine l_gfi rfl rfl rfl rfl rfl ?_
                          have w172 : 0 ≤ (Xi S 904 157) ∧ (Xi S 904 157) ≤ 1 := hH.c _ _
                          refine l_if_ne rfl rfl (by unfold rg; omega) (fun w173 => ?_) (fun w174 => ?_)
                          · refine l_iconst rfl ?_
                            refine l_ireturn rfl rfl ?_
                            exact ⟨hH, hF, _, rfl, ⟨by omega, by omega⟩, (by first | (have t := K145; exact Y145) | (have t := K246; exact Y246) | (have t := hd0; exfalso; omega) | (have t := K226; exact B226 (by omega)) | (have t := p191; exact fun t p P i c => by have u := siw_y (O85.1 (by omega)) (by omega) w98 i c; exfalso; omega) | exact fun t p P i c => by first | (have u := siw_y (O85.1 (by omega)) (by omega) w98 i c; exfalso; omega) | (have u := siw_n (O85.2 (by omega)) w98 i c; exfalso; omega))⟩
                          · refine l_aload_n rfl rfl ?_
                            refine l_aload_n rfl rfl ?_
                            refine l_iconst rfl ?_
                            refine l_iload rfl rfl ?_
                            have w175 : 0 ≤ Xi S 904 15 ∧ Xi S 904 15 ≤ 300 := hH.c _ _
                            refine l_callV rfl rfl rfl (t_mo_lexOf__2 hH 4 (Xi S 904 158) ⟨by omega, by omega⟩ ⟨by omega, by omega⟩ _) ?_
                            rintro _ _ ⟨rfl, z176, rfl, w176, p142, n142, y142⟩
                            show Rl _ _ _ _ _ [iv z176, .ref 904] _ _
                            have X142 : z176 ≠ -1 → WDX S z176 := fun q => (by have t := hnw (z176).toNat (by have := p142 q; omega) (Or.inl (y142 q).1); rw [show (((z176).toNat : Nat) : Int) = z176 by omega] at t; exact t)
                            refine l_callV rfl rfl rfl (t_mo_putLex__q hH z176 ⟨by omega, by omega⟩ (X142) (hd0) _) ?_
                            rintro _ T10 ⟨hHT10, w179, rfl, o145, e145⟩
                            have hFT10 : FR md_mo_saysInside__q S T10 := FR.tr hF w179 rfl
                            show Rl _ _ _ _ _ [] _ _
                            have K145 : True := trivial
                            have Y145 : SIW S T10 1 := fun t p P i c => by have u := siw_n (O85.2 (by omega)) w98 i c; have v := c.2.1 u.2.1; rw [← whu_e E124 u.1] at v; exact ⟨rfl, nml_o v (nmr_i (by omega) n142 (fun q => ⟨p142 q, y142 q⟩) o145 e145)⟩
                            refine l_iconst rfl ?_
                            refine l_ireturn rfl rfl ?_
                            exact ⟨hHT10, hFT10, _, rfl, ⟨by omega, by omega⟩, (by first | (have t := K145; exact Y145) | (have t := K246; exact Y246) | (have t := hd0; exfalso; omega) | (have t := K226; exact B226 (by omega)) | (have t := p191; exact fun t p P i c => by have u := siw_y (O85.1 (by omega)) (by omega) w98 i c; exfalso; omega) | exact fun t p P i c => by first | (have u := siw_y (O85.1 (by omega)) (by omega) w98 i c; exfalso; omega) | (have u := siw_n (O85.2 (by omega)) w98 i c; exfalso; omega))⟩
                    · refine l_iconst rfl ?_
                      refine l_ireturn rfl rfl ?_
                      exact ⟨hH, hF, _, rfl, ⟨by omega, by omega⟩, (by first | (have t := K145; exact Y145) | (have t := K246; exact Y246) | (have t := hd0; exfalso; omega) | (have t := K226; exact B226 (by omega)) | (have t := p191; exact fun t p P i c => by have u := siw_y (O85.1 (by omega)) (by omega) w98 i c; exfalso; omega) | exact fun t p P i c => by first | (have u := siw_y (O85.1 (by omega)) (by omega) w98 i c; exfalso; omega) | (have u := siw_n (O85.2 (by omega)) w98 i c; exfalso; omega))⟩
                · refine l_iconst rfl ?_
                  refine l_goto rfl rfl ?_
                  refine l_istore_n rfl rfl rfl ?_
                  have O85 : (1 = 1 → isO S) ∧ (1 = 0 → ¬ isO S) := by first | exact ⟨fun _ => ⟨by omega, by omega, by omega, by omega, by rw [← o30]; omega⟩, fun q => absurd q (by omega)⟩ | exact ⟨fun q => absurd q (by omega), fun _ w => by obtain ⟨w1, w2, w3, w4, w5⟩ := w; rw [← o30] at w3 w4 w5; omega⟩
                  refine l_aload_n rfl rfl ?_
                  refine l_iload_n rfl rfl ?_
                  refine l_if_eq rfl rfl (by unfold rg; omega) (fun w180 => absurd w180 (by omega)) (fun w181 => ?_)
                  · refine l_iload_n rfl rfl ?_
                    refine l_iconst rfl ?_
                    refine l_iadd rfl ?_
                    refine l_goto rfl rfl ?_
                    have w182 : 0 ≤ Xi S 904 157 ∧ Xi S 904 157 ≤ 1 := hH.c _ _
                    refine l_callV rfl rfl rfl (t_mo_insideThing__q hH (v1 + 1) ⟨by omega, by omega⟩ (by first | assumption | exact (LXM_FR hF rfl (by assumption : LXM S))) (by first | assumption | exact (DR0_FR hF rfl (by assumption : DR0 S))) _) ?_
                    rintro _ _ ⟨rfl, z187, rfl, w187, w185, w186, w98⟩
                    show Rl _ _ _ _ _ [iv z187] _ _
                    refine l_istore_n rfl rfl rfl ?_
                    refine l_iload_n rfl rfl ?_
                    refine l_bipush rfl rfl ?_
                    refine l_icmp_ne rfl rfl (by unfold rg; omega) (by unfold rg; omega) (fun w188 => ?_) (fun w189 => ?_)
                    · refine l_iload_n rfl rfl ?_
                      refine l_bipush rfl rfl ?_
                      refine l_icmp_ne rfl rfl (by unfold rg; omega) (by unfold rg; omega) (fun w190 => ?_) (fun w191 => ?_)
                      · refine l_iload_n rfl rfl ?_
                        refine l_istore rfl rfl rfl ?_
                        have E124 : (z187 = -2 ∧ z187 = Xi S 904 158) ∨ (z187 ≠ -2 ∧ z187 = z187) := by omega
                        refine l_iload_n rfl rfl ?_
                        refine l_if_ne rfl rfl (by unfold rg; omega) (fun w192 => ?_) (fun w193 => absurd w193 (by omega))
                        · refine l_aload_n rfl rfl ?_
                          refine l_iconst rfl ?_
                          refine l_iload_n rfl rfl ?_
                          refine l_iconst rfl ?_
                          refine l_isub rfl ?_
                          have w194 : 0 ≤ Xi S 904 15 ∧ Xi S 904 15 ≤ 300 := hH.c _ _
                          refine l_callV rfl rfl rfl (t_mo_foundIn__b hH 1 (v1 - 1) ⟨by omega, by omega⟩ ⟨by omega, by omega⟩ (by first | assumption | omega) _) ?_
                          rintro _ _ ⟨rfl, z196, rfl, w196, w195, f155⟩
                          show Rl _ _ _ _ _ [iv z196] _ _
                          refine l_istore rfl rfl rfl ?_
                          refine l_iload rfl rfl ?_
                          refine l_iconst rfl ?_
                          refine l_icmp_eq rfl rfl (by unfold rg; omega) (by unfold rg; omega) (fun w197 => ?_) (fun w198 => ?_)
                          · refine l_iconst rfl ?_
                            refine l_istore rfl rfl rfl ?_
                            refine l_aload_n rfl rfl ?_
                            have p191 : (-1) = ipR S := by unfold ipR; rw [← o30, ← f155 trivial]; first | exact (if_pos ⟨by omega, by omega⟩).symm | exact (if_neg (by omega)).symm
                            refine l_gfi rfl rfl rfl rfl rfl ?_
                            have w199 : 0 ≤ (Xi S 904 157) ∧ (Xi S 904 157) ≤ 1 := hH.c _ _
                            refine l_if_eq rfl rfl (by unfold rg; omega) (fun w200 => ?_) (fun w201 => ?_)
                            · refine l_aload_n rfl rfl ?_
                              refine l_gfr rfl rfl rfl rfl rfl (hH.r 904 20 918 rfl) ?_
                              refine l_iload rfl rfl ?_
                              refine l_iaload (n := 24) rfl rfl (by omega) (by omega) (by unfold rg; omega) ?_
                              have w202 : 0 ≤ (Xi S 918 ((z187).toNat)) ∧ (Xi S 918 ((z187).toNat)) ≤ 15 := hH.c _ _
                              refine l_istore rfl rfl rfl ?_
                              refine l_iload rfl rfl ?_
                              refine l_iconst rfl ?_
                              refine l_icmp_eq rfl rfl (by unfold rg; omega) (by unfold rg; omega) (fun w203 => ?_) (fun w204 => absurd w204 (by omega))
                              · refine l_iconst rfl ?_
                                refine l_ireturn rfl rfl ?_
                                exact ⟨hH, hF, _, rfl, ⟨by omega, by omega⟩, (by first | (have t := K145; exact Y145) | (have t := K246; exact Y246) | (have t := hd0; exfalso; omega) | (have t := K226; exact B226 (by omega)) | (have t := p191; exact fun t p P i c => by have u := siw_y (O85.1 (by omega)) (by omega) w98 i c; exfalso; omega) | exact fun t p P i c => by first | (have u := siw_y (O85.1 (by omega)) (by omega) w98 i c; exfalso; omega) | (have u := siw_n (O85.2 (by omega)) w98 i c; exfalso; omega))⟩
                            · refine l_aload_n rfl rfl ?_
                              refine l_iload_n rfl rfl ?_
                              refine l_callV rfl rfl rfl (t_mo_kindOfThing hH z187 ⟨by omega, by omega⟩ (by first | assumption | omega) _) ?_
                              rintro _ _ ⟨rfl, z205, rfl, w205⟩
                              show Rl _ _ _ _ _ [iv z205] _ _
                              refine l_goto rfl rfl ?_
                              refine l_istore rfl rfl rfl ?_
                              refine l_iload rfl rfl ?_
                              refine l_iconst rfl ?_
                              refine l_icmp_eq rfl rfl (by unfold rg; omega) (by unfold rg; omega) (fun w206 => ?_) (fun w207 => absurd w207 (by omega))
                              · refine l_iconst rfl ?_
                                refine l_ireturn rfl rfl ?_
                                exact ⟨hH, hF, _, rfl, ⟨by omega, by omega⟩, (by first | (have t := K145; exact Y145) | (have t := K246; exact Y246) | (have t := hd0; exfalso; omega) | (have t := K226; exact B226 (by omega)) | (have t := p191; exact fun t p P i c => by have u := siw_y (O85.1 (by omega)) (by omega) w98 i c; exfalso; omega) | exact fun t p P i c => by first | (have u := siw_y (O85.1 (by omega)) (by omega) w98 i c; exfalso; omega) | (have u := siw_n (O85.2 (by omega)) w98 i c; exfalso; omega))⟩
                          · refine l_aload_n rfl rfl ?_
                            refine l_gfr rfl rfl rfl rfl rfl (hH.r 904 12 914 rfl) ?_
                            refine l_iload rfl rfl ?_
                            refine l_iaload (n := 300) rfl rfl (by omega) (by omega) (by unfold rg; omega) ?_
                            have w208 : 0 ≤ (Xi S 914 ((z196).toNat)) ∧ (Xi S 914 ((z196).toNat)) ≤ 12 := hH.c _ _
                            refine l_bipush rfl rfl ?_
                            refine l_icmp_ne rfl rfl (by unfold rg; omega) (by unfold rg; omega) (fun w209 => ?_) (fun w210 => ?_)
                            · refine l_iconst rfl ?_
                              refine l_istore rfl rfl rfl ?_
                              refine l_aload_n rfl rfl ?_
                              have p191 : (-1) = ipR S := by unfold ipR; rw [← o30, ← f155 trivial]; first | exact (if_pos ⟨by omega, by omega⟩).symm | exact (if_neg (by omega)).symm
                              refine l_gfi rfl rfl rfl rfl rfl ?_
                              have w211 : 0 ≤ (Xi S 904 157) ∧ (Xi S 904 157) ≤ 1 := hH.c _ _
                              refine l_if_eq rfl rfl (by unfold rg; omega) (fun w212 => ?_) (fun w213 => ?_)
                              · refine l_aload_n rfl rfl ?_
                                refine l_gfr rfl rfl rfl rfl rfl (hH.r 904 20 918 rfl) ?_
                                refine l_iload rfl rfl ?_
                                refine l_iaload (n := 24) rfl rfl (by omega) (by omega) (by unfold rg; omega) ?_
                                have w214 : 0 ≤ (Xi S 918 ((z187).toNat)) ∧ (Xi S 918 ((z187).toNat)) ≤ 15 := hH.c _ _
                                refine l_istore rfl rfl rfl ?_
                                refine l_iload rfl rfl ?_
                                refine l_iconst rfl ?_
                                refine l_icmp_eq rfl rfl (by unfold rg; omega) (by unfold rg; omega) (fun w215 => ?_) (fun w216 => absurd w216 (by omega))
                                · refine l_iconst rfl ?_
                                  refine l_ireturn rfl rfl ?_
                                  exact ⟨hH, hF, _, rfl, ⟨by omega, by omega⟩, (by first | (have t := K145; exact Y145) | (have t := K246; exact Y246) | (have t := hd0; exfalso; omega) | (have t := K226; exact B226 (by omega)) | (have t := p191; exact fun t p P i c => by have u := siw_y (O85.1 (by omega)) (by omega) w98 i c; exfalso; omega) | exact fun t p P i c => by first | (have u := siw_y (O85.1 (by omega)) (by omega) w98 i c; exfalso; omega) | (have u := siw_n (O85.2 (by omega)) w98 i c; exfalso; omega))⟩
                              · refine l_aload_n rfl rfl ?_
                                refine l_iload_n rfl rfl ?_
                                refine l_callV rfl rfl rfl (t_mo_kindOfThing hH z187 ⟨by omega, by omega⟩ (by first | assumption | omega) _) ?_
                                rintro _ _ ⟨rfl, z217, rfl, w217⟩
                                show Rl _ _ _ _ _ [iv z217] _ _
                                refine l_goto rfl rfl ?_
                                refine l_istore rfl rfl rfl ?_
                                refine l_iload rfl rfl ?_
                                refine l_iconst rfl ?_
                                refine l_icmp_eq rfl rfl (by unfold rg; omega) (by unfold rg; omega) (fun w218 => ?_) (fun w219 => absurd w219 (by omega))
                                · refine l_iconst rfl ?_
                                  refine l_ireturn rfl rfl ?_
                                  exact ⟨hH, hF, _, rfl, ⟨by omega, by omega⟩, (by first | (have t := K145; exact Y145) | (have t := K246; exact Y246) | (have t := hd0; exfalso; omega) | (have t := K226; exact B226 (by omega)) | (have t := p191; exact fun t p P i c => by have u := siw_y (O85.1 (by omega)) (by omega) w98 i c; exfalso; omega) | exact fun t p P i c => by first | (have u := siw_y (O85.1 (by omega)) (by omega) w98 i c; exfalso; omega) | (have u := siw_n (O85.2 (by omega)) w98 i c; exfalso; omega))⟩
                            · refine l_aload_n rfl rfl ?_
                              refine l_gfr rfl rfl rfl rfl rfl (hH.r 904 13 915 rfl) ?_
                              refine l_iload rfl rfl ?_
                              refine l_iaload (n := 300) rfl rfl (by omega) (by omega) (by unfold rg; omega) ?_
                              have w220 : 0 ≤ (Xi S 915 ((z196).toNat)) ∧ (Xi S 915 ((z196).toNat)) ≤ 63 := hH.c _ _
                              have x184 : (Xi S 915 ((z196).toNat)) < Xi S 904 32 := by have t := lxm (s := 7) hM (k := z196) (by omega) (by omega) (by omega); rw [cM7] at t; exact t
                              refine l_goto rfl rfl ?_
                              refine l_istore rfl rfl rfl ?_
                              refine l_aload_n rfl rfl ?_
                              have p191 : (Xi S 915 ((z196).toNat)) = ipR S := by unfold ipR; rw [← o30, ← f155 trivial]; first | exact (if_pos ⟨by omega, by omega⟩).symm | exact (if_neg (by omega)).symm
                              refine l_gfi rfl rfl rfl rfl rfl ?_
                              have w221 : 0 ≤ (Xi S 904 157) ∧ (Xi S 904 157) ≤ 1 := hH.c _ _
                              refine l_if_eq rfl rfl (by unfold rg; omega) (fun w222 => ?_) (fun w223 => ?_)
                              · refine l_aload_n rfl rfl ?_
                                refine l_gfr rfl rfl rfl rfl rfl (hH.r 904 20 918 rfl) ?_
                                refine l_iload rfl rfl ?_
                                refine l_iaload (n := 24) rfl rfl (by omega) (by omega) (by unfold rg; omega) ?_
                                have w224 : 0 ≤ (Xi S 918 ((z187).toNat)) ∧ (Xi S 918 ((z187).toNat)) ≤ 15 := hH.c _ _
                                refine l_istore rfl rfl rfl ?_
                                refine l_iload rfl rfl ?_
                                refine l_iconst rfl ?_
                                refine l_icmp_eq rfl rfl (by unfold rg; omega) (by unfold rg; omega) (fun w225 => ?_) (fun w226 => ?_)
                                · refine l_iconst rfl ?_
                                  refine l_ireturn rfl rfl ?_
                                  exact ⟨hH, hF, _, rfl, ⟨by omega, by omega⟩, (by first | (have t := K145; exact Y145) | (have t := K246; exact Y246) | (have t := hd0; exfalso; omega) | (have t := K226; exact B226 (by omega)) | (have t := p191; exact fun t p P i c => by have u := siw_y (O85.1 (by omega)) (by omega) w98 i c; exfalso; omega) | exact fun t p P i c => by first | (have u := siw_y (O85.1 (by omega)) (by omega) w98 i c; exfalso; omega) | (have u := siw_n (O85.2 (by omega)) w98 i c; exfalso; omega))⟩
                                · refine l_aload_n rfl rfl ?_
                                  refine l_iload rfl rfl ?_
                                  refine l_iload rfl rfl ?_
                                  refine l_callV rfl rfl rfl (t_mo_has__2 hH (Xi S 918 ((z187).toNat)) (Xi S 915 ((z196).toNat)) ⟨by omega, by omega⟩ ⟨by omega, by omega⟩ (by first | assumption | exact (ABV_FR hF rfl (by assumption : ABV S))) _) ?_
                                  rintro _ _ ⟨rfl, z228, rfl, w228, w227, f226⟩
                                  show Rl _ _ _ _ _ [iv z228] _ _
                                  have K226 : True := trivial
                                  have B226 : z228 = 0 → SIW S S 0 := fun q t p P i c => by have u := siw_y (O85.1 (by omega)) (by omega) w98 i c; have v := (c.2.2 u.2.2.1).2.1; rw [← whu_e E124 u.1, ← u.2.1, ← p191] at v; first | exact absurd (f226.symm.trans q) v | (exfalso; omega)
                                  refine l_if_ne rfl rfl (by unfold rg; omega) (fun w229 => ?_) (fun w230 => ?_)
                                  · refine l_aload_n rfl rfl ?_
                                    refine l_gfi rfl rfl rfl rfl rfl ?_
                                    refine l_if_ne rfl rfl (by unfold rg; omega) (fun w231 => ?_) (fun w232 => ?_)
                                    · refine l_iconst rfl ?_
                                      refine l_ireturn rfl rfl ?_
                                      exact ⟨hH, hF, _, rfl, ⟨by omega, by omega⟩, (by first | (have t := K145; exact Y145) | (have t := K246; exact Y246) | (have t := hd0; exfalso; omega) | (have t := K226; exact B226 (by omega)) | (have t := p191; exact fun t p P i c => by have u := siw_y (O85.1 (by omega)) (by omega) w98 i c; exfalso; omega) | exact fun t p P i c => by first | (have u := siw_y (O85.1 (by omega)) (by omega) w98 i c; exfalso; omega) | (have u := siw_n (O85.2 (by omega)) w98 i c; exfalso; omega))⟩
                                    · refine l_aload_n rfl rfl ?_
                                      refine l_iload rfl rfl ?_
                                      refine l_iload rfl rfl ?_
                                      refine l_callV rfl rfl rfl (t_mo_putProperty__q hH z187 (Xi S 915 ((z196).toNat)) ⟨by omega, by omega⟩ ⟨by omega, by omega⟩ (by first | assumption | exact (ABV_FR hF rfl (by assumption : ABV S))) (by first | assumption | exact (TXM_FR hF rfl (by assumption : TXM S))) (by first | assumption | omega) (by first | assumption | exact (NMWD_FR hF rfl (by assumption : NMWD S))) (hd0) _) ?_
                                      rintro _ T11 ⟨hHT11, w236, rfl, o246⟩
                                      have hFT11 : FR md_mo_saysInside__q S T11 := FR.tr hF w236 rfl
                                      show Rl _ _ _ _ _ [] _ _
                                      have K246 : True := trivial
                                      have Y246 : SIW S T11 1 := fun t p P i c => by have u := siw_y (O85.1 (by omega)) (by omega) w98 i c; have v := (c.2.2 u.2.2.1).2.2; rw [← whu_e E124 u.1, ← u.2.1, ← p191] at v; exact ⟨rfl, prp_o v o246⟩
                                      refine l_iconst rfl ?_
                                      refine l_ireturn rfl rfl ?_
                                      exact ⟨hHT11, hFT11, _, rfl, ⟨by omega, by omega⟩, (by first | (have t := K145; exact Y145) | (have t := K246; exact Y246) | (have t := hd0; exfalso; omega) | (have t := K226; exact B226 (by omega)) | (have t := p191; exact fun t p P i c => by have u := siw_y (O85.1 (by omega)) (by omega) w98 i c; exfalso; omega) | exact fun t p P i c => by first | (have u := siw_y (O85.1 (by omega)) (by omega) w98 i c; exfalso; omega) | (have u := siw_n (O85.2 (by omega)) w98 i c; exfalso; omega))⟩
                                  · refine l_iconst rfl ?_
                                    refine l_ireturn rfl rfl ?_
                                    exact ⟨hH, hF, _, rfl, ⟨by omega, by omega⟩, (by first | (have t := K145; exact Y145) | (have t := K246; exact Y246) | (have t := hd0; exfalso; omega) | (have t := K226; exact B226 (by omega)) | (have t := p191; exact fun t p P i c => by have u := siw_y (O85.1 (by omega)) (by omega) w98 i c; exfalso; omega) | exact fun t p P i c => by first | (have u := siw_y (O85.1 (by omega)) (by omega) w98 i c; exfalso; omega) | (have u := siw_n (O85.2 (by omega)) w98 i c; exfalso; omega))⟩
                              · refine l_aload_n rfl rfl ?_
                                refine l_iload_n rfl rfl ?_
                                refine l_callV rfl rfl rfl (t_mo_kindOfThing hH z187 ⟨by omega, by omega⟩ (by first | assumption | omega) _) ?_
                                rintro _ _ ⟨rfl, z237, rfl, w237⟩
                                show Rl _ _ _ _ _ [iv z237] _ _
                                refine l_goto rfl rfl ?_
                                refine l_istore rfl rfl rfl ?_
                                refine l_iload rfl rfl ?_
                                refine l_iconst rfl ?_
                                refine l_icmp_eq rfl rfl (by unfold rg; omega) (by unfold rg; omega) (fun w238 => ?_) (fun w239 => ?_)
                                · refine l_iconst rfl ?_
                                  refine l_ireturn rfl rfl ?_
                                  exact ⟨hH, hF, _, rfl, ⟨by omega, by omega⟩, (by first | (have t := K145; exact Y145) | (have t := K246; exact Y246) | (have t := hd0; exfalso; omega) | (have t := K226; exact B226 (by omega)) | (have t := p191; exact fun t p P i c => by have u := siw_y (O85.1 (by omega)) (by omega) w98 i c; exfalso; omega) | exact fun t p P i c => by first | (have u := siw_y (O85.1 (by omega)) (by omega) w98 i c; exfalso; omega) | (have u := siw_n (O85.2 (by omega)) w98 i c; exfalso; omega))⟩
                                · refine l_aload_n rfl rfl ?_
                                  refine l_iload rfl rfl ?_
                                  refine l_iload rfl rfl ?_
                                  refine l_callV rfl rfl rfl (t_mo_has__2 hH z237 (Xi S 915 ((z196).toNat)) ⟨by omega, by omega⟩ ⟨by omega, by omega⟩ (by first | assumption | exact (ABV_FR hF rfl (by assumption : ABV S))) _) ?_
                                  rintro _ _ ⟨rfl, z241, rfl, w241, w240, f226⟩
                                  show Rl _ _ _ _ _ [iv z241] _ _
                                  have K226 : True := trivial
                                  have B226 : z241 = 0 → SIW S S 0 := fun q t p P i c => by have u := siw_y (O85.1 (by omega)) (by omega) w98 i c; have v := (c.2.2 u.2.2.1).2.1; rw [← whu_e E124 u.1, ← u.2.1, ← p191] at v; first | exact absurd (f226.symm.trans q) v | (exfalso; omega)
                                  refine l_if_ne rfl rfl (by unfold rg; omega) (fun w242 => ?_) (fun w243 => ?_)
                                  · refine l_aload_n rfl rfl ?_
                                    refine l_gfi rfl rfl rfl rfl rfl ?_
                                    refine l_if_ne rfl rfl (by unfold rg; omega) (fun w244 => ?_) (fun w245 => ?_)
                                    · refine l_iconst rfl ?_
                                      refine l_ireturn rfl rfl ?_
                                      exact ⟨hH, hF, _, rfl, ⟨by omega, by omega⟩, (by first | (have t := K145; exact Y145) | (have t := K246; exact Y246) | (have t := hd0; exfalso; omega) | (have t := K226; exact B226 (by omega)) | (have t := p191; exact fun t p P i c => by have u := siw_y (O85.1 (by omega)) (by omega) w98 i c; exfalso; omega) | exact fun t p P i c => by first | (have u := siw_y (O85.1 (by omega)) (by omega) w98 i c; exfalso; omega) | (have u := siw_n (O85.2 (by omega)) w98 i c; exfalso; omega))⟩
                                    · refine l_aload_n rfl rfl ?_
                                      refine l_iload rfl rfl ?_
                                      refine l_iload rfl rfl ?_
                                      refine l_callV rfl rfl rfl (t_mo_putProperty__q hH z187 (Xi S 915 ((z196).toNat)) ⟨by omega, by omega⟩ ⟨by omega, by omega⟩ (by first | assumption | exact (ABV_FR hF rfl (by assumption : ABV S))) (by first | assumption | exact (TXM_FR hF rfl (by assumption : TXM S))) (by first | assumption | omega) (by first | assumption | exact (NMWD_FR hF rfl (by assumption : NMWD S))) (hd0) _) ?_
                                      rintro _ T12 ⟨hHT12, w249, rfl, o246⟩
                                      have hFT12 : FR md_mo_saysInside__q S T12 := FR.tr hF w249 rfl
                                      show Rl _ _ _ _ _ [] _ _
                                      have K246 : True := trivial
                                      have Y246 : SIW S T12 1 := fun t p P i c => by have u := siw_y (O85.1 (by omega)) (by omega) w98 i c; have v := (c.2.2 u.2.2.1).2.2; rw [← whu_e E124 u.1, ← u.2.1, ← p191] at v; exact ⟨rfl, prp_o v o246⟩
                                      refine l_iconst rfl ?_
                                      refine l_ireturn rfl rfl ?_
                                      exact ⟨hHT12, hFT12, _, rfl, ⟨by omega, by omega⟩, (by first | (have t := K145; exact Y145) | (have t := K246; exact Y246) | (have t := hd0; exfalso; omega) | (have t := K226; exact B226 (by omega)) | (have t := p191; exact fun t p P i c => by have u := siw_y (O85.1 (by omega)) (by omega) w98 i c; exfalso; omega) | exact fun t p P i c => by first | (have u := siw_y (O85.1 (by omega)) (by omega) w98 i c; exfalso; omega) | (have u := siw_n (O85.2 (by omega)) w98 i c; exfalso; omega))⟩
                                  · refine l_iconst rfl ?_
                                    refine l_ireturn rfl rfl ?_
                                    exact ⟨hH, hF, _, rfl, ⟨by omega, by omega⟩, (by first | (have t := K145; exact Y145) | (have t := K246; exact Y246) | (have t := hd0; exfalso; omega) | (have t := K226; exact B226 (by omega)) | (have t := p191; exact fun t p P i c => by have u := siw_y (O85.1 (by omega)) (by omega) w98 i c; exfalso; omega) | exact fun t p P i c => by first | (have u := siw_y (O85.1 (by omega)) (by omega) w98 i c; exfalso; omega) | (have u := siw_n (O85.2 (by omega)) w98 i c; exfalso; omega))⟩
                      · refine l_aload_n rfl rfl ?_
                        refine l_gfi rfl rfl rfl rfl rfl ?_
                        refine l_goto rfl rfl ?_
                        refine l_istore rfl rfl rfl ?_
                        have E124 : (z187 = -2 ∧ (Xi S 904 158) = Xi S 904 158) ∨ (z187 ≠ -2 ∧ (Xi S 904 158) = z187) := by omega
                        refine l_iload_n rfl rfl ?_
                        refine l_if_ne rfl rfl (by unfold rg; omega) (fun w250 => ?_) (fun w251 => absurd w251 (by omega))
                        · refine l_aload_n rfl rfl ?_
                          refine l_iconst rfl ?_
                          refine l_iload_n rfl rfl ?_
                          refine l_iconst rfl ?_
                          refine l_isub rfl ?_
                          have w252 : 0 ≤ Xi S 904 15 ∧ Xi S 904 15 ≤ 300 := hH.c _ _
                          refine l_callV rfl rfl rfl (t_mo_foundIn__b hH 1 (v1 - 1) ⟨by omega, by omega⟩ ⟨by omega, by omega⟩ (by first | assumption | omega) _) ?_
                          rintro _ _ ⟨rfl, z254, rfl, w254, w253, f155⟩
                          show Rl _ _ _ _ _ [iv z254] _ _
                          refine l_istore rfl rfl rfl ?_
                          refine l_iload rfl rfl ?_
                          refine l_iconst rfl ?_
                          refine l_icmp_eq rfl rfl (by unfold rg; omega) (by unfold rg; omega) (fun w255 => ?_) (fun w256 => ?_)
                          · refine l_iconst rfl ?_
                            refine l_istore rfl rfl rfl ?_
                            refine l_aload_n rfl rfl ?_
                            have p191 : (-1) = ipR S := by unfold ipR; rw [← o30, ← f155 trivial]; first | exact (if_pos ⟨by omega, by omega⟩).symm | exact (if_neg (by omega)).symm
                            refine l_gfi rfl rfl rfl rfl rfl ?_
                            have w257 : 0 ≤ (Xi S 904 157) ∧ (Xi S 904 157) ≤ 1 := hH.c _ _
                            refine l_if_eq rfl rfl (by unfold rg; omega) (fun w258 => ?_) (fun w259 => ?_)
                            · refine l_aload_n rfl rfl ?_
                              refine l_gfr rfl rfl rfl rfl rfl (hH.r 904 20 918 rfl) ?_
                              refine l_iload rfl rfl ?_
                              refine l_iaload (n := 24) rfl rfl (by omega) (by omega) (by unfold rg; omega) ?_
                              have w260 : 0 ≤ (Xi S 918 (((Xi S 904 158)).toNat)) ∧ (Xi S 918 (((Xi S 904 158)).toNat)) ≤ 15 := hH.c _ _
                              refine l_istore rfl rfl rfl ?_
                              refine l_iload rfl rfl ?_
                              refine l_iconst rfl ?_
                              refine l_icmp_eq rfl rfl (by unfold rg; omega) (by unfold rg; omega) (fun w261 => ?_) (fun w262 => absurd w262 (by omega))
                              · refine l_iconst rfl ?_
                                refine l_ireturn rfl rfl ?_
                                exact ⟨hH, hF, _, rfl, ⟨by omega, by omega⟩, (by first | (have t := K145; exact Y145) | (have t := K246; exact Y246) | (have t := hd0; exfalso; omega) | (have t := K226; exact B226 (by omega)) | (have t := p191; exact fun t p P i c => by have u := siw_y (O85.1 (by omega)) (by omega) w98 i c; exfalso; omega) | exact fun t p P i c => by first | (have u := siw_y (O85.1 (by omega)) (by omega) w98 i c; exfalso; omega) | (have u := siw_n (O85.2 (by omega)) w98 i c; exfalso; omega))⟩
                            · refine l_aload_n rfl rfl ?_
                              refine l_iload_n rfl rfl ?_
                              refine l_callV rfl rfl rfl (t_mo_kindOfThing hH z187 ⟨by omega, by omega⟩ (by first | assumption | omega) _) ?_
                              rintro _ _ ⟨rfl, z263, rfl, w263⟩
                              show Rl _ _ _ _ _ [iv z263] _ _
                              refine l_goto rfl rfl ?_
                              refine l_istore rfl rfl rfl ?_
                              refine l_iload rfl rfl ?_
                              refine l_iconst rfl ?_
                              refine l_icmp_eq rfl rfl (by unfold rg; omega) (by unfold rg; omega) (fun w264 => ?_) (fun w265 => absurd w265 (by omega))
                              · refine l_iconst rfl ?_
                                refine l_ireturn rfl rfl ?_
                                exact ⟨hH, hF, _, rfl, ⟨by omega, by omega⟩, (by first | (have t := K145; exact Y145) | (have t := K246; exact Y246) | (have t := hd0; exfalso; omega) | (have t := K226; exact B226 (by omega)) | (have t := p191; exact fun t p P i c => by have u := siw_y (O85.1 (by omega)) (by omega) w98 i c; exfalso; omega) | exact fun t p P i c => by first | (have u := siw_y (O85.1 (by omega)) (by omega) w98 i c; exfalso; omega) | (have u := siw_n (O85.2 (by omega)) w98 i c; exfalso; omega))⟩
                          · refine l_aload_n rfl rfl ?_
                            refine l_gfr rfl rfl rfl rfl rfl (hH.r 904 12 914 rfl) ?_
                            refine l_iload rfl rfl ?_
                            refine l_iaload (n := 300) rfl rfl (by omega) (by omega) (by unfold rg; omega) ?_
                            have w266 : 0 ≤ (Xi S 914 ((z254).toNat)) ∧ (Xi S 914 ((z254).toNat)) ≤ 12 := hH.c _ _
                            refine l_bipush rfl rfl ?_
                            refine l_icmp_ne rfl rfl (by unfold rg; omega) (by unfold rg; omega) (fun w267 => ?_) (fun w268 => ?_)
                            · refine l_iconst rfl ?_
                              refine l_istore rfl rfl rfl ?_
                              refine l_aload_n rfl rfl ?_
                              have p191 : (-1) = ipR S := by unfold ipR; rw [← o30, ← f155 trivial]; first | exact (if_pos ⟨by omega, by omega⟩).symm | exact (if_neg (by omega)).symm
                              refine l_gfi rfl rfl rfl rfl rfl ?_
                              have w269 : 0 ≤ (Xi S 904 157) ∧ (Xi S 904 157) ≤ 1 := hH.c _ _
                              refine l_if_eq rfl rfl (by unfold rg; omega) (fun w270 => ?_) (fun w271 => ?_)
                              · refine l_aload_n rfl rfl ?_
                                refine l_gfr rfl rfl rfl rfl rfl (hH.r 904 20 918 rfl) ?_
                                refine l_iload rfl rfl ?_
                                refine l_iaload (n := 24) rfl rfl (by omega) (by omega) (by unfold rg; omega) ?_
                                have w272 : 0 ≤ (Xi S 918 (((Xi S 904 158)).toNat)) ∧ (Xi S 918 (((Xi S 904 158)).toNat)) ≤ 15 := hH.c _ _
                                refine l_istore rfl rfl rfl ?_
                                refine l_iload rfl rfl ?_
                                refine l_iconst rfl ?_
                                refine l_icmp_eq rfl rfl (by unfold rg; omega) (by unfold rg; omega) (fun w273 => ?_) (fun w274 => absurd w274 (by omega))
                                · refine l_iconst rfl ?_
                                  refine l_ireturn rfl rfl ?_
                                  exact ⟨hH, hF, _, rfl, ⟨by omega, by omega⟩, (by first | (have t := K145; exact Y145) | (have t := K246; exact Y246) | (have t := hd0; exfalso; omega) | (have t := K226; exact B226 (by omega)) | (have t := p191; exact fun t p P i c => by have u := siw_y (O85.1 (by omega)) (by omega) w98 i c; exfalso; omega) | exact fun t p P i c => by first | (have u := siw_y (O85.1 (by omega)) (by omega) w98 i c; exfalso; omega) | (have u := siw_n (O85.2 (by omega)) w98 i c; exfalso; omega))⟩
                              · refine l_aload_n rfl rfl ?_
                                refine l_iload_n rfl rfl ?_
                                refine l_callV rfl rfl rfl (t_mo_kindOfThing hH z187 ⟨by omega, by omega⟩ (by first | assumption | omega) _) ?_
                                rintro _ _ ⟨rfl, z275, rfl, w275⟩
                                show Rl _ _ _ _ _ [iv z275] _ _
                                refine l_goto rfl rfl ?_
                                refine l_istore rfl rfl rfl ?_
                                refine l_iload rfl rfl ?_
                                refine l_iconst rfl ?_
                                refine l_icmp_eq rfl rfl (by unfold rg; omega) (by unfold rg; omega) (fun w276 => ?_) (fun w277 => absurd w277 (by omega))
                                · refine l_iconst rfl ?_
                                  refine l_ireturn rfl rfl ?_
                                  exact ⟨hH, hF, _, rfl, ⟨by omega, by omega⟩, (by first | (have t := K145; exact Y145) | (have t := K246; exact Y246) | (have t := hd0; exfalso; omega) | (have t := K226; exact B226 (by omega)) | (have t := p191; exact fun t p P i c => by have u := siw_y (O85.1 (by omega)) (by omega) w98 i c; exfalso; omega) | exact fun t p P i c => by first | (have u := siw_y (O85.1 (by omega)) (by omega) w98 i c; exfalso; omega) | (have u := siw_n (O85.2 (by omega)) w98 i c; exfalso; omega))⟩
                            · refine l_aload_n rfl rfl ?_
                              refine l_gfr rfl rfl rfl rfl rfl (hH.r 904 13 915 rfl) ?_
                              refine l_iload rfl rfl ?_
                              refine l_iaload (n := 300) rfl rfl (by omega) (by omega) (by unfold rg; omega) ?_
                              have w278 : 0 ≤ (Xi S 915 ((z254).toNat)) ∧ (Xi S 915 ((z254).toNat)) ≤ 63 := hH.c _ _
                              have x184 : (Xi S 915 ((z254).toNat)) < Xi S 904 32 := by have t := lxm (s := 7) hM (k := z254) (by omega) (by omega) (by omega); rw [cM7] at t; exact t
                              refine l_goto rfl rfl ?_
                              refine l_istore rfl rfl rfl ?_
                              refine l_aload_n rfl rfl ?_
                              have p191 : (Xi S 915 ((z254).toNat)) = ipR S := by unfold ipR; rw [← o30, ← f155 trivial]; first | exact (if_pos ⟨by omega, by omega⟩).symm | exact (if_neg (by omega)).symm
                              refine l_gfi rfl rfl rfl rfl rfl ?_
                              have w279 : 0 ≤ (Xi S 904 157) ∧ (Xi S 904 157) ≤ 1 := hH.c _ _
                              refine l_if_eq rfl rfl (by unfold rg; omega) (fun w280 => ?_) (fun w281 => ?_)
                              · refine l_aload_n rfl rfl ?_
                                refine l_gfr rfl rfl rfl rfl rfl (hH.r 904 20 918 rfl) ?_
                                refine l_iload rfl rfl ?_
                                refine l_iaload (n := 24) rfl rfl (by omega) (by omega) (by unfold rg; omega) ?_
                                have w282 : 0 ≤ (Xi S 918 (((Xi S 904 158)).toNat)) ∧ (Xi S 918 (((Xi S 904 158)).toNat)) ≤ 15 := hH.c _ _
                                refine l_istore rfl rfl rfl ?_
                                refine l_iload rfl rfl ?_
                                refine l_iconst rfl ?_
                                refine l_icmp_eq rfl rfl (by unfold rg; omega) (by unfold rg; omega) (fun w283 => ?_) (fun w284 => ?_)
                                · refine l_iconst rfl ?_
                                  refine l_ireturn rfl rfl ?_
                                  exact ⟨hH, hF, _, rfl, ⟨by omega, by omega⟩, (by first | (have t := K145; exact Y145) | (have t := K246; exact Y246) | (have t := hd0; exfalso; omega) | (have t := K226; exact B226 (by omega)) | (have t := p191; exact fun t p P i c => by have u := siw_y (O85.1 (by omega)) (by omega) w98 i c; exfalso; omega) | exact fun t p P i c => by first | (have u := siw_y (O85.1 (by omega)) (by omega) w98 i c; exfalso; omega) | (have u := siw_n (O85.2 (by omega)) w98 i c; exfalso; omega))⟩
                                · refine l_aload_n rfl rfl ?_
                                  refine l_iload rfl rfl ?_
                                  refine l_iload rfl rfl ?_
                                  refine l_callV rfl rfl rfl (t_mo_has__2 hH (Xi S 918 (((Xi S 904 158)).toNat)) (Xi S 915 ((z254).toNat)) ⟨by omega, by omega⟩ ⟨by omega, by omega⟩ (by first | assumption | exact (ABV_FR hF rfl (by assumption : ABV S))) _) ?_
                                  rintro _ _ ⟨rfl, z286, rfl, w286, w285, f226⟩
                                  show Rl _ _ _ _ _ [iv z286] _ _
                                  have K226 : True := trivial
                                  have B226 : z286 = 0 → SIW S S 0 := fun q t p P i c => by have u := siw_y (O85.1 (by omega)) (by omega) w98 i c; have v := (c.2.2 u.2.2.1).2.1; rw [← whu_e E124 u.1, ← u.2.1, ← p191] at v; first | exact absurd (f226.symm.trans q) v | (exfalso; omega)
                                  refine l_if_ne rfl rfl (by unfold rg; omega) (fun w287 => ?_) (fun w288 => ?_)
                                  · refine l_aload_n rfl rfl ?_
                                    refine l_gfi rfl rfl rfl rfl rfl ?_
                                    refine l_if_ne rfl rfl (by unfold rg; omega) (fun w289 => ?_) (fun w290 => ?_)
                                    · refine l_iconst rfl ?_
                                      refine l_ireturn rfl rfl ?_
                                      exact ⟨hH, hF, _, rfl, ⟨by omega, by omega⟩, (by first | (have t := K145; exact Y145) | (have t := K246; exact Y246) | (have t := hd0; exfalso; omega) | (have t := K226; exact B226 (by omega)) | (have t := p191; exact fun t p P i c => by have u := siw_y (O85.1 (by omega)) (by omega) w98 i c; exfalso; omega) | exact fun t p P i c => by first | (have u := siw_y (O85.1 (by omega)) (by omega) w98 i c; exfalso; omega) | (have u := siw_n (O85.2 (by omega)) w98 i c; exfalso; omega))⟩
                                    · refine l_aload_n rfl rfl ?_
                                      refine l_iload rfl rfl ?_
                                      refine l_iload rfl rfl ?_
                                      refine l_callV rfl rfl rfl (t_mo_putProperty__q hH (Xi S 904 158) (Xi S 915 ((z254).toNat)) ⟨by omega, by omega⟩ ⟨by omega, by omega⟩ (by first | assumption | exact (ABV_FR hF rfl (by assumption : ABV S))) (by first | assumption | exact (TXM_FR hF rfl (by assumption : TXM S))) (by first | assumption | omega) (by first | assumption | exact (NMWD_FR hF rfl (by assumption : NMWD S))) (hd0) _) ?_
                                      rintro _ T13 ⟨hHT13, w294, rfl, o246⟩
                                      have hFT13 : FR md_mo_saysInside__q S T13 := FR.tr hF w294 rfl
                                      show Rl _ _ _ _ _ [] _ _
                                      have K246 : True := trivial
                                      have Y246 : SIW S T13 1 := fun t p P i c => by have u := siw_y (O85.1 (by omega)) (by omega) w98 i c; have v := (c.2.2 u.2.2.1).2.2; rw [← whu_e E124 u.1, ← u.2.1, ← p191] at v; exact ⟨rfl, prp_o v o246⟩
                                      refine l_iconst rfl ?_
                                      refine l_ireturn rfl rfl ?_
                                      exact ⟨hHT13, hFT13, _, rfl, ⟨by omega, by omega⟩, (by first | (have t := K145; exact Y145) | (have t := K246; exact Y246) | (have t := hd0; exfalso; omega) | (have t := K226; exact B226 (by omega)) | (have t := p191; exact fun t p P i c => by have u := siw_y (O85.1 (by omega)) (by omega) w98 i c; exfalso; omega) | exact fun t p P i c => by first | (have u := siw_y (O85.1 (by omega)) (by omega) w98 i c; exfalso; omega) | (have u := siw_n (O85.2 (by omega)) w98 i c; exfalso; omega))⟩
                                  · refine l_iconst rfl ?_
                                    refine l_ireturn rfl rfl ?_
                                    exact ⟨hH, hF, _, rfl, ⟨by omega, by omega⟩, (by first | (have t := K145; exact Y145) | (have t := K246; exact Y246) | (have t := hd0; exfalso; omega) | (have t := K226; exact B226 (by omega)) | (have t := p191; exact fun t p P i c => by have u := siw_y (O85.1 (by omega)) (by omega) w98 i c; exfalso; omega) | exact fun t p P i c => by first | (have u := siw_y (O85.1 (by omega)) (by omega) w98 i c; exfalso; omega) | (have u := siw_n (O85.2 (by omega)) w98 i c; exfalso; omega))⟩
                              · refine l_aload_n rfl rfl ?_
                                refine l_iload_n rfl rfl ?_
                                refine l_callV rfl rfl rfl (t_mo_kindOfThing hH z187 ⟨by omega, by omega⟩ (by first | assumption | omega) _) ?_
                                rintro _ _ ⟨rfl, z295, rfl, w295⟩
                                show Rl _ _ _ _ _ [iv z295] _ _
                                refine l_goto rfl rfl ?_
                                refine l_istore rfl rfl rfl ?_
                                refine l_iload rfl rfl ?_
                                refine l_iconst rfl ?_
                                refine l_icmp_eq rfl rfl (by unfold rg; omega) (by unfold rg; omega) (fun w296 => ?_) (fun w297 => ?_)
                                · refine l_iconst rfl ?_
                                  refine l_ireturn rfl rfl ?_
                                  exact ⟨hH, hF, _, rfl, ⟨by omega, by omega⟩, (by first | (have t := K145; exact Y145) | (have t := K246; exact Y246) | (have t := hd0; exfalso; omega) | (have t := K226; exact B226 (by omega)) | (have t := p191; exact fun t p P i c => by have u := siw_y (O85.1 (by omega)) (by omega) w98 i c; exfalso; omega) | exact fun t p P i c => by first | (have u := siw_y (O85.1 (by omega)) (by omega) w98 i c; exfalso; omega) | (have u := siw_n (O85.2 (by omega)) w98 i c; exfalso; omega))⟩
                                · refine l_aload_n rfl rfl ?_
                                  refine l_iload rfl rfl ?_
                                  refine l_iload rfl rfl ?_
                                  refine l_callV rfl rfl rfl (t_mo_has__2 hH z295 (Xi S 915 ((z254).toNat)) ⟨by omega, by omega⟩ ⟨by omega, by omega⟩ (by first | assumption | exact (ABV_FR hF rfl (by assumption : ABV S))) _) ?_
                                  rintro _ _ ⟨rfl, z299, rfl, w299, w298, f226⟩
                                  show Rl _ _ _ _ _ [iv z299] _ _
                                  have K226 : True := trivial
                                  have B226 : z299 = 0 → SIW S S 0 := fun q t p P i c => by have u := siw_y (O85.1 (by omega)) (by omega) w98 i c; have v := (c.2.2 u.2.2.1).2.1; rw [← whu_e E124 u.1, ← u.2.1, ← p191] at v; first | exact absurd (f226.symm.trans q) v | (exfalso; omega)
                                  refine l_if_ne rfl rfl (by unfold rg; omega) (fun w300 => ?_) (fun w301 => ?_)
                                  · refine l_aload_n rfl rfl ?_
                                    refine l_gfi rfl rfl rfl rfl rfl ?_
                                    refine l_if_ne rfl rfl (by unfold rg; omega) (fun w302 => ?_) (fun w303 => ?_)
                                    · refine l_iconst rfl ?_
                                      refine l_ireturn rfl rfl ?_
                                      exact ⟨hH, hF, _, rfl, ⟨by omega, by omega⟩, (by first | (have t := K145; exact Y145) | (have t := K246; exact Y246) | (have t := hd0; exfalso; omega) | (have t := K226; exact B226 (by omega)) | (have t := p191; exact fun t p P i c => by have u := siw_y (O85.1 (by omega)) (by omega) w98 i c; exfalso; omega) | exact fun t p P i c => by first | (have u := siw_y (O85.1 (by omega)) (by omega) w98 i c; exfalso; omega) | (have u := siw_n (O85.2 (by omega)) w98 i c; exfalso; omega))⟩
                                    · refine l_aload_n rfl rfl ?_
                                      refine l_iload rfl rfl ?_
                                      refine l_iload rfl rfl ?_
                                      refine l_callV rfl rfl rfl (t_mo_putProperty__q hH (Xi S 904 158) (Xi S 915 ((z254).toNat)) ⟨by omega, by omega⟩ ⟨by omega, by omega⟩ (by first | assumption | exact (ABV_FR hF rfl (by assumption : ABV S))) (by first | assumption | exact (TXM_FR hF rfl (by assumption : TXM S))) (by first | assumption | omega) (by first | assumption | exact (NMWD_FR hF rfl (by assumption : NMWD S))) (hd0) _) ?_
                                      rintro _ T14 ⟨hHT14, w307, rfl, o246⟩
                                      have hFT14 : FR md_mo_saysInside__q S T14 := FR.tr hF w307 rfl
                                      show Rl _ _ _ _ _ [] _ _
                                      have K246 : True := trivial
                                      have Y246 : SIW S T14 1 := fun t p P i c => by have u := siw_y (O85.1 (by omega)) (by omega) w98 i c; have v := (c.2.2 u.2.2.1).2.2; rw [← whu_e E124 u.1, ← u.2.1, ← p191] at v; exact ⟨rfl, prp_o v o246⟩
                                      refine l_iconst rfl ?_
                                      refine l_ireturn rfl rfl ?_
                                      exact ⟨hHT14, hFT14, _, rfl, ⟨by omega, by omega⟩, (by first | (have t := K145; exact Y145) | (have t := K246; exact Y246) | (have t := hd0; exfalso; omega) | (have t := K226; exact B226 (by omega)) | (have t := p191; exact fun t p P i c => by have u := siw_y (O85.1 (by omega)) (by omega) w98 i c; exfalso; omega) | exact fun t p P i c => by first | (have u := siw_y (O85.1 (by omega)) (by omega) w98 i c; exfalso; omega) | (have u := siw_n (O85.2 (by omega)) w98 i c; exfalso; omega))⟩
                                  · refine l_iconst rfl ?_
                                    refine l_ireturn rfl rfl ?_
                                    exact ⟨hH, hF, _, rfl, ⟨by omega, by omega⟩, (by first | (have t := K145; exact Y145) | (have t := K246; exact Y246) | (have t := hd0; exfalso; omega) | (have t := K226; exact B226 (by omega)) | (have t := p191; exact fun t p P i c => by have u := siw_y (O85.1 (by omega)) (by omega) w98 i c; exfalso; omega) | exact fun t p P i c => by first | (have u := siw_y (O85.1 (by omega)) (by omega) w98 i c; exfalso; omega) | (have u := siw_n (O85.2 (by omega)) w98 i c; exfalso; omega))⟩
                    · refine l_iconst rfl ?_
                      refine l_ireturn rfl rfl ?_
                      exact ⟨hH, hF, _, rfl, ⟨by omega, by omega⟩, (by first | (have t := K145; exact Y145) | (have t := K246; exact Y246) | (have t := hd0; exfalso; omega) | (have t := K226; exact B226 (by omega)) | (have t := p191; exact fun t p P i c => by have u := siw_y (O85.1 (by omega)) (by omega) w98 i c; exfalso; omega) | exact fun t p P i c => by first | (have u := siw_y (O85.1 (by omega)) (by omega) w98 i c; exfalso; omega) | (have u := siw_n (O85.2 (by omega)) w98 i c; exfalso; omega))⟩
      refine l_iload_n rfl rfl ?_
      refine l_aload_n rfl rfl ?_
      refine l_gfi rfl rfl rfl rfl rfl ?_
      have w308 : 0 ≤ (Xi S 904 160) ∧ (Xi S 904 160) ≤ 64 := hH.c _ _
      refine l_icmp_ge rfl rfl (by unfold rg; omega) (by unfold rg; omega) (fun w309 => ?_) (fun w310 => ?_)
      · exact Rl_weak (C30 (v1) (by omega) (by rw [o2]; exact (ofF_e (S := S) (i := v1) (n := (66 - v1).toNat) (by first | (have t := x17; intro q; have := q.2; omega) | omega)).symm)) (And.intro rfl (And.intro rfl (True.intro)))
      · refine l_aload_n rfl rfl ?_
        refine l_aload_n rfl rfl ?_
        refine l_gfr rfl rfl rfl rfl rfl (hH.r 904 159 994 rfl) ?_
        refine l_iload_n rfl rfl ?_
        refine l_laload (n := 64) rfl rfl (by omega) (by omega) (by unfold rg; omega) ?_
        have w311 : -9223372036854775808 ≤ (Xj S 994 ((v1).toNat)) ∧ (Xj S 994 ((v1).toNat)) < 9223372036854775808 := Xj_rg
        refine l_callV rfl rfl rfl (t_mo_keyOf__b hH (Xj S 994 ((v1).toNat)) _) ?_
        rintro _ _ ⟨rfl, z312, rfl, w312, f17⟩
        show Rl _ _ _ _ _ [iv z312] _ _
        have x17 : z312 = ikR S v1 := by unfold ikR; exact f17 Xj_rg
        refine l_iconst rfl ?_
        refine l_icmp_ne rfl rfl (by unfold rg; omega) (by unfold rg; omega) (fun w313 => ?_) (fun w314 => ?_)
        · exact Rl_weak (C30 (v1) (by omega) (by rw [o2]; exact (ofF_e (S := S) (i := v1) (n := (66 - v1).toNat) (by first | (have t := x17; intro q; have := q.2; omega) | omega)).symm)) (And.intro rfl (And.intro rfl (True.intro)))
        · refine l_iinc rfl rfl rfl rfl ?_
          refine l_goto rfl rfl ?_
          exact Rl_weak (ih2 _ (by omega) ((v1 + 1)) (by omega) (by first | rfl | exact o2.trans (ofF_s (by omega) (by omega) (by omega) (by omega))) rfl) (And.intro rfl (And.intro rfl (True.intro)))
  refine l_iconst rfl ?_
  refine l_istore_n rfl rfl rfl ?_
  exact Rl_weak (C2 _ (1) (by omega) (by first | rfl | exact o2.trans (ofF_s (by omega) (by omega) (by omega) (by omega))) rfl) (And.intro rfl (And.intro rfl (True.intro)))
end
section
/-! SAY: what is written changes nothing that a text speaks of -/
def XP (S T : sS) : Prop := ∀ c j : Nat, c ≠ 993 → c ≠ 994 → (c ≠ 904 ∨ (j ≠ 154 ∧ j ≠ 156 ∧ j ≠ 160)) → Xi T c j = Xi S c j ∧ Xj T c j = Xj S c j
theorem XP.rf {S : sS} : XP S S := fun _ _ _ _ _ => ⟨rfl, rfl⟩
theorem XP.tr {S T W : sS} (h : XP S T) (g : XP T W) : XP S W := fun c j a b d => ⟨(g c j a b d).1.trans (h c j a b d).1, (g c j a b d).2.trans (h c j a b d).2⟩
theorem XP.f {l : List rec} {S T : sS} (F : FR l S T) (e : l = [(904, 905, 154, 155), (904, 905, 156, 157), (904, 905, 160, 161), (993, 994, 0, 100000), (994, 995, 0, 100000)]) : XP S T := fun c j a b d => by
  rw [e] at F
  have k : mdf [(904, 905, 154, 155), (904, 905, 156, 157), (904, 905, 160, 161), (993, 994, 0, 100000), (994, 995, 0, 100000)] c j = false := by
    cases h : mdf [(904, 905, 154, 155), (904, 905, 156, 157), (904, 905, 160, 161), (993, 994, 0, 100000), (994, 995, 0, 100000)] c j with
    | false => rfl
    | true =>
      exfalso
      unfold mdf at h
      simp only [List.any_cons, List.any_nil, Bool.or_false, inR, Bool.and_eq_true, Bool.or_eq_true, Nat.blt, Nat.ble_eq] at h
      omega
  exact ⟨F.x c j k, F.xj c j k⟩
theorem XP.i {S T : sS} (h : XP S T) {c j : Nat} (a : c < 993 ∧ c ≠ 904) : Xi T c j = Xi S c j := (h c j (by omega) (by omega) (Or.inl a.2)).1
theorem XP.g {S T : sS} (h : XP S T) {j : Nat} (a : j ≠ 154 ∧ j ≠ 156 ∧ j ≠ 160) : Xi T 904 j = Xi S 904 j := (h 904 j (by omega) (by omega) (Or.inr a)).1
theorem XP.j {S T : sS} (h : XP S T) {c j : Nat} (a : c < 993 ∧ c ≠ 904) : Xj T c j = Xj S c j := (h c j (by omega) (by omega) (Or.inl a.2)).2
theorem chN_p {S T : sS} {c : Nat} {m q : Int} (h : XP S T) (hc : c < 993 ∧ c ≠ 904) : ∀ (f : Nat) (k : Int), chN T c m q f k = chN S c m q f k
  | 0, _ => rfl
  | f + 1, k => by unfold chN; rw [h.i hc, h.i (c := 917) (by omega), chN_p h hc f]
theorem fvR_p {S T : sS} {t : Int} (h : XP S T) : fvR T t = fvR S t := by
  have : ∀ (n : Nat) (i : Int), fvRn T t n i = fvRn S t n i := by
    intro n
    induction n with
    | zero => intro i; rfl
    | succ n ih => intro i; unfold fvRn; rw [h.i (c := 927) (by omega), ih]
  unfold fvR; rw [h.g (j := 30) (by omega), this]
theorem nuR_p {S T : sS} {o p : Int} (h : XP S T) : nuR T o p = nuR S o p := by
  unfold nuR chR; rw [h.i (c := 930) (by omega), h.i (c := 931) (by omega), h.i (c := 928) (by omega), h.i (c := 918) (by omega), chN_p h (by omega), h.i (c := 934) (by omega), fvR_p h]
theorem nlR_p {S T : sS} {o p : Int} (h : XP S T) : nlR T o p = nlR S o p := by
  unfold nlR chR; rw [h.i (c := 930) (by omega), h.i (c := 932) (by omega), h.i (c := 918) (by omega), chN_p h (by omega), h.i (c := 935) (by omega)]
theorem byR_p {S T : sS} {lex k : Int} (h : XP S T) : byR T lex k = byR S lex k := byR_f (fun _ => h.i (by omega)) (fun _ => h.j (by omega))
theorem nml_p {S T : sS} {so ix : Int} {P : List Int} (h : XP S T) (n : NML S so ix P) : NML T so ix P := by
  have e15 := h.g (j := 15) (by omega)
  rcases n with ⟨k, k1, k2, k3, k4, k5⟩ | ⟨n1, n2⟩
  rotate_left
  · exact Or.inr ⟨fun x => n1 (by obtain ⟨k, x1, x2, x3⟩ := x; exact ⟨k, by rw [← e15]; exact x1, by rw [← h.i (c := 914) (by omega)]; exact x2, by rw [← h.i (c := 915) (by omega)]; exact x3⟩), n2⟩
  refine Or.inl ⟨k, by rw [e15]; exact k1, by rw [h.i (by omega)]; exact k2, by rw [h.i (by omega)]; exact k3, fun l a b c => k4 l (by rw [← e15]; exact a) (by rw [← h.i (c := 914) (by omega)]; exact b) (by rw [← h.i (c := 915) (by omega)]; exact c), ?_⟩
  have e : (fun i : Nat => byR T (k : Int) (i : Int)) = (fun i : Nat => byR S (k : Int) (i : Int)) := funext (fun i => byR_p h)
  rw [e]; exact k5
theorem txL_p {S T : sS} {a : Int} {n : Nat} (h : XP S T) : txL T 906 a n = txL S 906 a n := by
  unfold txL
  exact List.map_congr_left (fun i _ => h.i (by omega))
theorem prp_p {S T : sS} {w p : Int} {P : List Int} (h : XP S T) (n : PRP S w p P) : PRP T w p P := by
  unfold PRP
  rw [h.i (c := 928) (by omega), nuR_p h, nlR_p h, txL_p h]
  exact ⟨n.1, n.2.1, fun a b => ⟨(n.2.2 a b).1, fun c => nml_p h ((n.2.2 a b).2 c)⟩⟩
theorem pce_p {S T : sS} {t p o : Int} {P : List Int} (h : XP S T) (hs : ∀ k q : Int, hsR T k q = hsR S k q) (n : PCE S t p o P) : PCE T t p o P := by
  obtain ⟨n1, n2, n3⟩ := n
  refine ⟨by rw [h.g (by omega)]; exact n1, fun q => nml_p h (n2 q), fun q => ?_⟩
  obtain ⟨a, b, c⟩ := n3 q
  exact ⟨by rw [h.g (by omega)]; exact a, by rw [hs, h.i (by omega)]; exact b, prp_p h c⟩
end
