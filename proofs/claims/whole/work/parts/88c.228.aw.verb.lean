section
/-! class and reference: words with an s; 7 -/
/-- two rows of one call hold together -/
theorem Mp_and {lay : Nat → Nat × Nat} {d : Nat} {q : mT} {av : List Value} {S : sS} {Q1 Q2 : pst} (h1 : Mp lay d q av S Q1) (h2 : Mp lay d q av S Q2) : Mp lay d q av S (fun r S1 => Q1 r S1 ∧ Q2 r S1) := fun G r S1 e => ⟨h1 G r S1 e, h2 G r S1 e⟩
theorem cvN_s : ∀ (n : Nat) (w : Int), 0 ≤ w → w < 27 ^ n → cvN (n + 1) w = cvN n w
  | 0, w, h0, h => by
    rw [Int.pow_zero] at h
    have e : w = 0 := by omega
    subst e
    rfl
  | n + 1, w, h0, h => by
    rw [Int.pow_succ] at h
    have t := cvN_s n (w / 27) (by omega) (by omega)
    show cvN (n + 1) (w / 27) * 32 + w % 27 = cvN n (w / 27) * 32 + w % 27
    rw [t]
theorem cvN_lo : ∀ (n : Nat) (w : Int), 27 ^ n ≤ w → w < 27 ^ (n + 1) → 32 ^ n ≤ cvN (n + 1) w
  | 0, w, h0, h => by
    rw [Int.pow_zero] at h0
    rw [show (27 : Int) ^ (0 + 1) = 27 by decide] at h
    show (32 : Int) ^ 0 ≤ 0 * 32 + w % 27
    rw [Int.pow_zero]
    omega
  | n + 1, w, h0, h => by
    rw [Int.pow_succ] at h h0
    have t := cvN_lo n (w / 27) (by omega) (by omega)
    show (32 : Int) ^ (n + 1) ≤ cvN (n + 1) (w / 27) * 32 + w % 27
    rw [Int.pow_succ]
    omega
theorem cv_12 {w : Int} (h : wdC w) : cv w = cvN 12 w := cvN_s 12 w (by have := h.1; omega) (by rw [show (27 : Int) ^ 12 = 150094635296999121 by decide]; exact h.2)
theorem cv_rg {w : Int} (h : wdC w) : 0 ≤ cv w ∧ cv w < 1152921504606846976 := by
  have t := cvN_r 12 w (by have := h.1; omega) (by rw [show (27 : Int) ^ 12 = 150094635296999121 by decide]; exact h.2)
  rw [show (32 : Int) ^ 12 = 1152921504606846976 by decide, ← cv_12 h] at t
  exact t
/-- twelve letters or fewer -/
theorem cv_sh {w : Int} (h : wdC w) (q : w < 5559060566555523) : cv w < 36028797018963968 := by
  have q' : w < 27 ^ 11 := by rw [show (27 : Int) ^ 11 = 5559060566555523 by decide]; exact q
  have t := cvN_r 11 w (by have := h.1; omega) q'
  rw [cv_12 h, cvN_s 11 w (by have := h.1; omega) q']
  rw [show (32 : Int) ^ 11 = 36028797018963968 by decide] at t
  exact t.2
theorem cv_lo {w : Int} (h : wdC w) (q : 5559060566555523 ≤ w) : 36028797018963968 ≤ cv w := by
  have t := cvN_lo 11 w (by rw [show (27 : Int) ^ 11 = 5559060566555523 by decide]; exact q) (by rw [show (27 : Int) ^ (11 + 1) = 150094635296999121 by decide]; exact h.2)
  rw [show (32 : Int) ^ 11 = 36028797018963968 by decide] at t
  rw [cv_12 h]
  exact t
theorem cv_s {w : Int} (h : wdC w) : cv (w * 27 + 19) = cv w * 32 + 19 := by
  rw [cv_12 h]
  show cvN 12 ((w * 27 + 19) / 27) * 32 + (w * 27 + 19) % 27 = _
  rw [show (w * 27 + 19) / 27 = w by omega, show (w * 27 + 19) % 27 = 19 by omega]
theorem sr55 {x : Int} (h0 : 0 ≤ x) (h1 : x < 9223372036854775808) : lshrF x 55 = x / 36028797018963968 := by
  unfold lshrF
  have s : (Int64.ofInt x >>> ((Int32.ofInt 55).toInt64 &&& 63)).toBitVec = (BitVec.ofInt 64 x).sshiftRight 55 := rfl
  have e : (Int64.ofInt x >>> ((Int32.ofInt 55).toInt64 &&& 63)).toInt = ((BitVec.ofInt 64 x).sshiftRight 55).toInt := by rw [← s]; rfl
  rw [e, BitVec.toInt_sshiftRight]
  have b : (BitVec.ofInt 64 x).toInt = x := by
    have t : (Int64.ofInt x).toInt = x := toJ ⟨by omega, by omega⟩
    exact t
  rw [b, Int.shiftRight_eq_div_pow]
  rfl
/-- a word of thirteen letters has its own word before it -/
def LW1 (U : sS) : Prop := ∀ i : Nat, (i : Int) < Xi U 1 3 → ∀ w : Int, 5559060566555523 ≤ w → mtC U (w * 27 + 19) 0 0 i → ∃ j : Nat, (j : Int) < Xi U 1 3 ∧ mtC U w 0 0 j
theorem msc_yy {U : sS} {a b c : Int} (hC : CEN U) {i : Nat} (hi : mtC U a b c i) (hl : (i : Int) < Xi U 1 3) : mnF U a b c ≠ -1 := fun e => msc_ne hC (Xi U 1 3).toNat 0 (by omega) e i (by omega) (by omega) hi
theorem ws_same {U S : sS} {w : Int} (h : VOC U S) (hC : CEN U) (hx : LXR S) (hl : LW1 U) (hw : wdC w) (hn : mnF U w 0 0 = -1) : mnF U (w * 27 + 19) 0 0 = -1 ↔ (lshrF (cv w) 55 ≠ 0 ∨ fdR S (lorF (lshlF (cv w) 5) 19) 0 0 1 (Xi S 904 15).toNat = -1) := by
  have r := cv_rg hw
  have s := sr55 r.1 (by omega)
  by_cases q : w < 5559060566555523
  · have g := cv_sh hw q
    have e : lorF (lshlF (cv w) 5) 19 = cv (w * 27 + 19) := by rw [lw5 r.1 g (by omega) (by omega), cv_s hw]
    have u := voc_m (x := w * 27 + 19) (y := 0) (z := 0) (n := 1) h (by omega) ⟨by have := hw.1; omega, by omega⟩ (fun c => absurd c (by omega)) (fun c => absurd c (by omega))
    simp only [if_neg (show ¬ ((1 : Int) < 1) by decide), if_neg (show ¬ ((2 : Int) < 1) by decide)] at u
    rw [e, u, s]
    by_cases c : fdR S (cv (w * 27 + 19)) 0 0 1 (Xi S 904 15).toNat = -1
    · rw [if_pos c]
      exact ⟨fun _ => Or.inr c, fun _ => rfl⟩
    · rw [if_neg c]
      obtain ⟨v, v1, v2, _⟩ := fdR_is _ c
      rw [v1, show ((v : Int)).toNat = v by omega]
      obtain ⟨i, i1, i2⟩ := h.2.2.1 v (by have := h.1; omega)
      have k := hC i i1
      rw [i2.1, i2.2.1]
      constructor
      · intro y; omega
      · rintro (y | y)
        · exact absurd (by omega) y
        · omega
  · have g := cv_lo hw (by omega)
    rw [s]
    refine ⟨fun _ => Or.inl (by omega), fun _ => ?_⟩
    refine msc_n _ _ (fun j _ b m => ?_)
    obtain ⟨i, i1, i2⟩ := hl j (by omega) w (by omega) m
    exact msc_yy hC i2 i1 hn
/-- 7 -/
theorem vb_same {U U1 S : sS} {f : Nat} {z e a t : Int} {x : Int × Int × Int} (h : SRL U S f) (v : VOC U S) (hC : CEN U) (hl : LW1 U) (k0 : RNR U S f 0 3 e) (k1 : RNR U S f 1 a t) (w3 : wdC (Xj U 879 3) ∧ Xj S 910 (f + 3) = cv (Xj U 879 3)) (hx : LXR S) (h15 : 0 ≤ Xi S 904 15) (hn : Xi U 891 9 = 0) (hc : Xi U 5 7 = Xi S 904 47) (tc : TVB U U1 z e a t) (rc : RVB S x) : SFT U1 z x := by
  have fk : fnd U 6 a t = rnR S 1 8 := rn_fnd (s := 8) h k1 hx h15 (by omega)
  have p0 := rn_pc h k0
  have wv : Xj S 910 (Xi S 950 0).toNat = cv (Xj U 879 3) := by
    have t := k0.2.2.2.1
    rw [show ((0 : Int).toNat) = 0 from rfl] at t
    rw [t, show ((f : Int) + 3).toNat = f + 3 by omega]
    exact w3.2
  have l0 : Xi S 951 0 = e - 3 := k0.2.2.2.2.1
  have iff : vbR S ↔ vbC U e ∧ nwC U 3 4 := by
    unfold vbR vbC wsR
    rw [wv, l0]
    constructor
    · rintro ⟨a1, a2, a3⟩
      have e4 : e = 4 := by omega
      subst e4
      have nw := (rn_new h k0 hx h15 hn).2 a2
      have m : mnF U (Xj U 879 3) 0 0 = -1 := nw.1
      exact ⟨⟨rfl, (ws_same v hC hx hl w3.1 m).2 a3⟩, nw⟩
    · rintro ⟨⟨e4, a2⟩, nw⟩
      subst e4
      have m : mnF U (Xj U 879 3) 0 0 = -1 := nw.1
      exact ⟨by omega, (rn_new h k0 hx h15 hn).1 nw, (ws_same v hC hx hl w3.1 m).1 a2⟩
  obtain ⟨t1, t2, t3, t4, t5⟩ := tc
  obtain ⟨r1, r2, r3, r4⟩ := rc
  by_cases b : vbC U e
  · by_cases n : nwC U 3 4
    · have y := iff.2 ⟨b, n⟩
      by_cases c : 8 ≤ Xi U 5 7
      · exact sft_f (S := S) (t3 b n c) p0 (r2 y (by omega))
      · by_cases k : fnd U 6 a t = -1
        · exact sft_f (S := S) (t4 b n (by omega) k) (rn_pc h k1) (r3 y (by omega) (by rw [← fk]; exact k))
        · obtain ⟨z1, z2, _⟩ := t5 b n (by omega) k
          exact Or.inr ⟨z1, r4 y (by omega) (by rw [← fk]; exact k), z2⟩
    · exact sft_f (S := S) (t2 b n) p0 (r1 (fun y => n (iff.1 y).2))
  · exact sft_f (S := S) (t1 b) p0 (r1 (fun y => b (iff.1 y).1))
end
section
/-! class and reference: 17, 0 -/
/-- two stages: the asking's fault, or the doing's -/
def SF2 (U1 : sS) (z : Int) (x y : Int × Int × Int) : Prop := (x.1 ≠ 0 ∧ SFT U1 z x) ∨ (x.1 = 0 ∧ SFT U1 z y)
theorem sf2_f {U U1 S : sS} {c r p z : Int} {x y : Int × Int × Int} (h : z = 0 ∧ FTO U U1 c r) (e : pc7 U r = p) (n : NTB x c p) (hc : c ≠ 0) : SF2 U1 z x y := Or.inl ⟨by rw [n.1]; exact hc, sft_f (S := S) h e n⟩
theorem sf2_d {U U1 S : sS} {c r p z : Int} {x y : Int × Int × Int} (h : z = 0 ∧ FTO U U1 c r) (e : pc7 U r = p) (x0 : x.1 = 0) (n : NTB y c p) : SF2 U1 z x y := Or.inr ⟨x0, sft_f (S := S) h e n⟩
theorem sf2_y {U1 : sS} {z : Int} {x y : Int × Int × Int} (h : z = 1) (g : Xi U1 876 8 = 0) (x0 : x.1 = 0) (y0 : y.1 = 0) : SF2 U1 z x y := Or.inr ⟨x0, Or.inr ⟨h, y0, g⟩⟩
theorem fnd_m1 {U : sS} {s a b : Int} (hs : 0 ≤ s) (h : mnV U a b = -1) : fnd U s a b = -1 := by
  unfold fnd
  rw [h, if_neg (by omega)]
theorem rn_tm {U S : sS} {f : Nat} {r a b : Int} (h : SRL U S f) (k : RNR U S f r a b) (hx : LXR S) (h15 : 0 ≤ Xi S 904 15) : tmC U a b = r2R S r 2 3 :=
  tm_r2 (by rw [k.2.2.2.1, k.2.2.2.2.1]; exact h.1 a b k.1 k.2.2.1 k.2.2.2.2.2) hx h15
theorem rn_mn {U S : sS} {f : Nat} {r a b : Int} (h : SRL U S f) (k : RNR U S f r a b) (hx : LXR S) (h15 : 0 ≤ Xi S 904 15) : mnV U a b = -1 ↔ rmR S r = -1 := by
  have m := mn_no (h.1 a b k.1 k.2.2.1 k.2.2.2.2.2) hx h15
  unfold rmR
  rw [k.2.2.2.1, k.2.2.2.2.1]
  exact m
/-- 17 -/
theorem has_same {U U1 S S1 : sS} {f : Nat} {z nm e a o l t : Int} {x : Int × Int × Int} (h : SRL U S f) (k0 : RNR U S f 0 nm e) (k1 : RNR U S f 1 a o) (k2 : RNR U S f 2 l t) (hx : LXR S) (h15 : 0 ≤ Xi S 904 15) (hn : Xi U 891 9 = 0) (hc : Xi U 5 5 = Xi S 904 32) (ht : fnd U 5 l t ≠ -1 → Xi U 9 (fnd U 5 l t).toNat = Xi S 928 (fnd U 5 l t).toNat) (tc : THAS U U1 z nm e a o l t) (rc : RHAS S x) (rd : x.1 = 0 → RD17 S S1) : SF2 U1 z x (NT3 S1) := by
  have fk : fnd U 0 nm e = rnR S 0 0 := rn_fnd (s := 0) h k0 hx h15 (by omega)
  have pk : fnd U 5 l t = rnR S 2 7 := rn_fnd (s := 7) h k2 hx h15 (by omega)
  have tk := rn_tm h k1 hx h15
  have mk := rn_mn h k2 hx h15
  have n2 := rn_new h k2 hx h15 hn
  obtain ⟨t1, t2, t3, t4, t5, t6, t7, t8⟩ := tc
  obtain ⟨r1, r2, r3, r4, r5, r6⟩ := rc
  by_cases q : fnd U 0 nm e = -1
  · exact sf2_f (S := S) (t1 q) (rn_pc h k0) (r1 (by rw [← fk]; exact q)) (by decide)
  have q' : rnR S 0 0 ≠ -1 := by rw [← fk]; exact q
  by_cases w : tmC U a o = -1
  · exact sf2_f (S := S) (t2 q w) (rn_pc h k1) (r2 q' (by rw [← tk]; exact w)) (by decide)
  have w' : r2R S 1 2 3 ≠ -1 := by rw [← tk]; exact w
  by_cases m : mnV U l t = -1
  · have m' := mk.1 m
    have p1 : fnd U 5 l t = -1 := fnd_m1 (by omega) m
    by_cases n : nwC U l t
    · have n' := n2.1 n
      by_cases c : 12 ≤ Xi U 5 5
      · exact sf2_f (S := S) (t4 q w m n c) (rn_pc h k2) (r4 q' w' m' n' (by omega)) (by decide)
      · have x0 := r6 q' w' (fun _ => ⟨n', by omega⟩) (fun y => absurd m' y)
        obtain ⟨z1, z2, _⟩ := t8 q w m n (by omega)
        have d := (rd x0).1 (by rw [← pk]; exact p1)
        exact sf2_y z1 z2 x0 d.1
    · exact sf2_f (S := S) (t3 q w m n) (rn_pc h k2) (r3 q' w' m' (fun y => n (n2.2 y))) (by decide)
  · have m' : rmR S 2 ≠ -1 := fun y => m (mk.2 y)
    by_cases p : fnd U 5 l t = -1
    · exact sf2_f (S := S) (t5 q w m p) (rn_pc h k2) (r5 q' w' m' (by rw [← pk]; exact p)) (by decide)
    · have p' : rnR S 2 7 ≠ -1 := by rw [← pk]; exact p
      have x0 := r6 q' w' (fun y => absurd y m') (fun _ => p')
      have ty := ht p
      by_cases g : Xi U 9 (fnd U 5 l t).toNat = tmC U a o
      · obtain ⟨z1, z2, _⟩ := t7 q w p g
        have d := (rd x0).2.2 p' (by rw [← pk, ← ty, g, tk])
        exact sf2_y z1 z2 x0 d.1
      · exact sf2_d (S := S) (t6 q w p g) (rn_pc h k0) x0 ((rd x0).2.1 p' (by rw [← pk, ← ty, ← tk]; exact g))
end
section
/-! class and reference: lists of new names; 11, 10 -/
/-- the names of a LIST are the runs from F on -/
def LRN (U S : sS) (f : Nat) (F : Int) (n : Nat) : Prop := ∀ i : Nat, i < n → RNR U S f (F + i) (kr7 (ty7 U) i) (re7 (ty7 U) (kr7 (ty7 U) i))
theorem nwl_r {U S : sS} {f i n : Nat} {F : Int} (h : SRL U S f) (l : LRN U S f F n) (hx : LXR S) (h15 : 0 ≤ Xi S 904 15) (hi : i < n) : NWL U i ↔ NWR S F i := by
  have k := l i hi
  have m := rn_mn h k hx h15
  have e : Xi S 951 (F + i).toNat = re7 (ty7 U) (kr7 (ty7 U) i) - kr7 (ty7 U) i := k.2.2.2.2.1
  unfold NWL NWR nwR0
  rw [m, e]
  constructor
  · rintro ⟨a, b, c⟩
    exact ⟨⟨b, a⟩, fun j hj y => c j hj ((rn_al h (l j (by omega)) k).2 y)⟩
  · rintro ⟨⟨b, a⟩, c⟩
    exact ⟨a, b, fun j hj y => c j hj ((rn_al h (l j (by omega)) k).1 y)⟩
theorem lok_r {U S : sS} {f n m : Nat} {F c M : Int} (h : SRL U S f) (l : LRN U S f F n) (hx : LXR S) (h15 : 0 ≤ Xi S 904 15) (hm : m ≤ n) : LOK U c M m ↔ LKR S F c M m :=
  ⟨fun a i hi => ⟨(nwl_r h l hx h15 (by omega)).1 (a i hi).1, (a i hi).2⟩, fun a i hi => ⟨(nwl_r h l hx h15 (by omega)).2 (a i hi).1, (a i hi).2⟩⟩
theorem lok_n {U : sS} {c M : Int} : ∀ n : Nat, ¬ LOK U c M n → ∃ k : Nat, k < n ∧ LOK U c M k ∧ (¬ NWL U k ∨ (NWL U k ∧ M ≤ c + k))
  | 0, h => absurd (fun i hi => absurd hi (by omega)) h
  | n + 1, h => by
    by_cases q : LOK U c M n
    · refine ⟨n, by omega, q, ?_⟩
      by_cases w : NWL U n
      · refine Or.inr ⟨w, ?_⟩
        apply Classical.byContradiction
        intro v
        refine h (fun i hi => ?_)
        by_cases e : i = n
        · subst e; exact ⟨w, by omega⟩
        · exact q i (by omega)
      · exact Or.inl w
    · obtain ⟨k, a, b⟩ := lok_n n q
      exact ⟨k, by omega, b⟩
theorem ls_same {U U1 S : sS} {f n : Nat} {F c M z : Int} {x : Int × Int × Int} (h : SRL U S f) (l : LRN U S f F n) (hx : LXR S) (h15 : 0 ≤ Xi S 904 15) (t : TLS U U1 z c M n) (r : RLF S F c M n x) (q : ¬ LOK U c M n) : SFT U1 z x ∧ x.1 ≠ 0 := by
  obtain ⟨k, k1, k2, k3⟩ := lok_n n q
  have k2' := (lok_r h l hx h15 (by omega)).1 k2
  have w := nwl_r h l hx h15 k1
  rcases k3 with v | ⟨v, g⟩
  · have y := (r k k1 k2').1 (fun y => v (w.2 y))
    exact ⟨sft_f (S := S) ((t k k1 k2).1 v) (rn_pc h (l k k1)) y, by rw [y.1]; decide⟩
  · have y := (r k k1 k2').2 (w.1 v) g
    exact ⟨sft_f (S := S) ((t k k1 k2).2 v g) (rn_pc h (l k k1)) y, by rw [y.1]; decide⟩
/-- 11 -/
theorem act_same {U U1 S : sS} {f : Nat} {z : Int} {x : Int × Int × Int} (h : SRL U S f) (l : LRN U S f (Xi S 904 71) (nL U)) (hx : LXR S) (h15 : 0 ≤ Xi S 904 15) (n72 : (Xi S 904 72).toNat = nL U) (hs : Xi S 904 70 = 11) (hc : Xi U 5 8 = Xi S 904 49) (kw : ty7 U (Xi U 890 3 + 3) = 28 → Xi S 904 78 ≠ -1 ∧ RNR U S f (Xi S 904 78) (Xi U 890 3 + 6) (re7 (ty7 U) (Xi U 890 3 + 6))) (kn : ty7 U (Xi U 890 3 + 3) ≠ 28 → Xi S 904 78 = -1) (tc : TACT U U1 z) (rc : RKD S (Xi S 904 71) (cK S) (mK S) (Xi S 904 72).toNat (wK S) x) : SFT U1 z x := by
  have ec : cK S = Xi U 5 8 := by unfold cK; rw [if_pos hs]; exact hc.symm
  have em : mK S = 12 := by unfold mK; rw [if_pos hs]
  have ew : wK S = Xi S 904 78 := by unfold wK; rw [if_neg (by omega)]
  rw [ec, em, ew, n72] at rc
  obtain ⟨t1, t2, t3⟩ := tc
  obtain ⟨r1, r2, r3⟩ := rc
  by_cases q : LOK U (Xi U 5 8) 12 (nL U)
  · have q' := (lok_r h l hx h15 (Nat.le_refl _)).1 q
    by_cases w : ty7 U (Xi U 890 3 + 3) = 28
    · obtain ⟨w1, w2⟩ := kw w
      have fk : fnd U 0 (Xi U 890 3 + 6) (re7 (ty7 U) (Xi U 890 3 + 6)) = rnR S (Xi S 904 78) 0 := rn_fnd (s := 0) h w2 hx h15 (by omega)
      have ek : kd11 U = rnR S (Xi S 904 78) 0 := by unfold kd11; rw [if_pos w]; exact fk
      by_cases v : kd11 U = -1
      · exact sft_f (S := S) (t2 q w v) (rn_pc h w2) (r2 q' w1 (by rw [← ek]; exact v))
      · obtain ⟨z1, z2, _⟩ := t3 q (fun y => v y.2)
        exact Or.inr ⟨z1, r3 q' (fun _ => by rw [← ek]; exact v), z2⟩
    · obtain ⟨z1, z2, _⟩ := t3 q (fun y => w y.1)
      exact Or.inr ⟨z1, r3 q' (fun y => absurd (kn w) y), z2⟩
  · exact (ls_same h l hx h15 t1 r1 q).1
/-- 10 -/
theorem kn_same {U U1 S : sS} {f : Nat} {z : Int} {x : Int × Int × Int} (h : SRL U S f) (l : LRN U S f (Xi S 904 71) (nL U)) (hx : LXR S) (h15 : 0 ≤ Xi S 904 15) (n72 : (Xi S 904 72).toNat = nL U) (hs : Xi S 904 70 = 10) (hc0 : Xi U 5 0 = Xi S 904 16) (hc1 : Xi U 5 1 = Xi S 904 18) (k1 : tyB U = 1 ↔ Xi S 904 78 = -2) (k2 : ofB U = 1 → tyB U = 0 → Xi S 904 78 ≠ -1 ∧ RNR U S f (Xi S 904 78) (r10 U) (re7 (ty7 U) (r10 U))) (k3 : ofB U = 0 → Xi S 904 78 = -1) (tc : TKN U U1 z) (rc : RKD S (Xi S 904 71) (cK S) (mK S) (Xi S 904 72).toNat (wK S) x) : SFT U1 z x := by
  have ty : tyB U = 0 ∨ tyB U = 1 := by unfold tyB; by_cases q : ty7 U (Xi U 890 3 + 3) = 7 ∧ ty7 U (Xi U 890 3 + 4) = 20 <;> simp [q]
  have of_ : ofB U = 0 ∨ ofB U = 1 := by unfold ofB; by_cases q : ty7 U (Xi U 890 3 + 3) = 7 <;> simp [q]
  have ec : cK S = c10 U ∧ mK S = 16 - 8 * tyB U := by
    unfold cK mK c10
    have n11 : ¬ Xi S 904 70 = 11 := by omega
    rw [if_neg n11, if_neg n11]
    rcases ty with q | q
    · have v : ¬ (Xi S 904 70 = 10 ∧ Xi S 904 78 = -2) := fun y => by have := k1.2 y.2; omega
      rw [if_neg v, if_neg v, q]
      exact ⟨hc0.symm, by omega⟩
    · have v : Xi S 904 70 = 10 ∧ Xi S 904 78 = -2 := ⟨hs, k1.1 q⟩
      rw [if_pos v, if_pos v, q]
      exact ⟨hc1.symm, by omega⟩
  rw [ec.1, ec.2, n72] at rc
  obtain ⟨t1, t2, t3⟩ := tc
  obtain ⟨r1, r2, r3⟩ := rc
  by_cases q : LOK U (c10 U) (16 - 8 * tyB U) (nL U)
  · have q' := (lok_r h l hx h15 (Nat.le_refl _)).1 q
    by_cases w : ofB U = 1 ∧ tyB U = 0
    · obtain ⟨w1, w2⟩ := k2 w.1 w.2
      have ew : wK S = Xi S 904 78 := by unfold wK; rw [if_neg (fun y => by have := k1.2 y.2; omega)]
      rw [ew] at r2 r3
      have fk : fnd U 0 (r10 U) (re7 (ty7 U) (r10 U)) = rnR S (Xi S 904 78) 0 := rn_fnd (s := 0) h w2 hx h15 (by omega)
      have ek : ab10 U = rnR S (Xi S 904 78) 0 := by unfold ab10; rw [if_pos w]; exact fk
      by_cases v : ab10 U = -1
      · exact sft_f (S := S) (t2 q v) (rn_pc h w2) (r2 q' w1 (by rw [← ek]; exact v))
      · obtain ⟨z1, z2, _⟩ := t3 q v
        exact Or.inr ⟨z1, r3 q' (fun _ => by rw [← ek]; exact v), z2⟩
    · have ek : ab10 U = 0 := by unfold ab10; rw [if_neg w]
      have ew : wK S = -1 := by
        unfold wK
        rcases of_ with a | a
        · rw [if_neg (fun y => by have := k3 a; omega)]; exact k3 a
        · rw [if_pos ⟨hs, k1.1 (by omega)⟩]
      obtain ⟨z1, z2, _⟩ := t3 q (by omega)
      exact Or.inr ⟨z1, r3 q' (fun y => absurd ew y), z2⟩
  · exact (ls_same h l hx h15 t1 r1 q).1
end
section
/-! class and reference: objects; 14 (the asking) -/
/-- objects have the same kinds -/
def OBK (U S : sS) : Prop := Xi U 5 2 = Xi S 904 19 ∧ ∀ o : Nat, (o : Int) < Xi U 5 2 → Xi U 21 o = Xi S 918 o ∧ 0 ≤ Xi S 918 o ∧ Xi S 918 o < Xi U 5 0
/-- what an object's name means is an object -/
def OBM (U : sS) : Prop := ∀ i : Nat, (i : Int) < Xi U 1 3 → Xi U 3 i = 2 → Xi U 4 i < Xi U 5 2
theorem msc_is {U : sS} {a b c : Int} : ∀ (m s : Nat), msc U a b c m s ≠ -1 → ∃ j : Nat, s ≤ j ∧ j < s + m ∧ msc U a b c m s = Xi U 3 j * 256 + Xi U 4 j
  | 0, s, h => absurd rfl h
  | m + 1, s, h => by
    unfold msc at h ⊢
    by_cases q : mtC U a b c s
    · rw [if_pos q]; exact ⟨s, by omega, by omega, rfl⟩
    · rw [if_neg q] at h ⊢
      obtain ⟨j, x, y, e⟩ := msc_is m (s + 1) h
      exact ⟨j, by omega, by omega, e⟩
theorem mnV_is {U : sS} {a b : Int} (h : mnV U a b ≠ -1) : ∃ j : Nat, (j : Int) < Xi U 1 3 ∧ mnV U a b = Xi U 3 j * 256 + Xi U 4 j := by
  unfold mnV at h ⊢
  by_cases q : 1 ≤ b - a ∧ b - a ≤ 3 ∧ 0 ≤ a ∧ b ≤ 5130
  · rw [if_pos q] at h ⊢
    unfold mnR mnF at h ⊢
    obtain ⟨j, _, y, e⟩ := msc_is _ _ h
    exact ⟨j, by omega, e⟩
  · rw [if_neg q] at h
    exact absurd rfl h
theorem fnd_is {U : sS} {s a b : Int} (hs : 0 ≤ s) (hC : CEN U) (h : fnd U s a b ≠ -1) : ∃ j : Nat, (j : Int) < Xi U 1 3 ∧ Xi U 3 j = s ∧ fnd U s a b = Xi U 4 j := by
  unfold fnd at h ⊢
  by_cases q : mnV U a b / 256 = s
  · rw [if_pos q] at h ⊢
    by_cases w : mnV U a b = -1
    · rw [w] at q
      omega
    · obtain ⟨j, x, e⟩ := mnV_is w
      have c := hC j x
      exact ⟨j, x, by omega, by omega⟩
  · rw [if_neg q] at h
    exact absurd rfl h
theorem ob_lt {U : sS} {a b : Int} (hC : CEN U) (hm : OBM U) (h : fnd U 2 a b ≠ -1) : 0 ≤ fnd U 2 a b ∧ fnd U 2 a b < Xi U 5 2 := by
  obtain ⟨j, x, y, e⟩ := fnd_is (by omega) hC h
  have c := hC j x
  have d := hm j x y
  omega
theorem ok_r {U S : sS} {f : Nat} {r a b k : Int} (h : SRL U S f) (kk : RNR U S f r a b) (hx : LXR S) (h15 : 0 ≤ Xi S 904 15) (hC : CEN U) (hm : OBM U) (kd : KND U S) (ob : OBK U S) : (fnd U 2 a b ≠ -1 ∧ isK U (Xi U 21 (fnd U 2 a b).toNat) k = 1) ↔ OKR S r k := by
  have fk : fnd U 2 a b = rnR S r 4 := rn_fnd (s := 4) h kk hx h15 (by omega)
  unfold OKR
  rw [← fk]
  constructor
  · rintro ⟨q, w⟩
    have t := ob_lt hC hm q
    have o := ob.2 (fnd U 2 a b).toNat (by omega)
    rw [o.1, isK_bl kd o.2.2] at w
    exact ⟨q, w⟩
  · rintro ⟨q, w⟩
    have t := ob_lt hC hm q
    have o := ob.2 (fnd U 2 a b).toNat (by omega)
    rw [o.1, isK_bl kd o.2.2]
    exact ⟨q, w⟩
/-- 14: the asking -/
theorem way_ask {U U1 S : sS} {f : Nat} {z : Int} {x : Int × Int × Int} (h : SRL U S f) (hx : LXR S) (h15 : 0 ≤ Xi S 904 15) (hn : Xi U 891 9 = 0) (hC : CEN U) (hm : OBM U) (kd : KND U S) (ob : OBK U S) (k0 : RNR U S f (Xi S 904 71) (n14 U) (e14 U)) (s1 : 1 < Xi S 904 72 → sn2 U ≠ -1 ∧ pc7 U (sn2 U) = pR S (Xi S 904 71 + 1)) (s2 : Xi S 904 72 ≤ 1 → sn2 U = -1) (k1 : RNR U S f (Xi S 904 78) (Xi U 890 3 + 1) (o14 U)) (k2 : RNR U S f (Xi S 904 74) (l14 U) (re7 (ty7 U) (l14 U))) (tc : TW14 U U1 z) (rc : RW14 S x) : (x.1 ≠ 0 ∧ SFT U1 z x) ∨ (x.1 = 0 ∧ OKW U 1 ∧ sn2 U = -1 ∧ d14 U ≠ -1 ∧ OKS U) := by
  have mk := rn_mn h k0 hx h15
  have nk := rn_new h k0 hx h15 hn
  have dk : d14 U = rnR S (Xi S 904 78) 12 := rn_fnd (s := 12) h k1 hx h15 (by omega)
  have oa : OKA U (n14 U) (e14 U) 1 ↔ OKR S (Xi S 904 71) 1 := by
    rw [← ok_r h k0 hx h15 hC hm kd ob]
    unfold OKA
    exact ⟨fun y => ⟨y.1, y.2.resolve_left (by decide)⟩, fun y => ⟨y.1, Or.inr y.2⟩⟩
  have os : OKS U ↔ OKR S (Xi S 904 74) 1 := ok_r h k2 hx h15 hC hm kd ob
  have ow : OKW U 1 ↔ OWR S := by
    unfold OKW OWR
    rw [mk, nk, oa, ob.1, Ne, Ne, mk]
  obtain ⟨t1, t2, t3, t4, t5, t6, _⟩ := tc
  obtain ⟨r1, r2, r3, r4, r5, r6, r7⟩ := rc
  have ff : ∀ {c r p : Int}, (z = 0 ∧ FTO U U1 c r) → pc7 U r = p → NTB x c p → c ≠ 0 → (x.1 ≠ 0 ∧ SFT U1 z x) := fun a b c d => ⟨by rw [c.1]; exact d, sft_f (S := S) a b c⟩
  by_cases w : OKW U 1
  · have w' := ow.1 w
    by_cases s : 1 < Xi S 904 72
    · exact Or.inl (ff (t4 w (s1 s).1) (s1 s).2 (r4 w' s) (by decide))
    · have e := s2 (by omega)
      by_cases d : d14 U = -1
      · exact Or.inl (ff (t5 w e d) (rn_pc h k1) (r5 w' (by omega) (by rw [← dk]; exact d)) (by decide))
      · by_cases o : OKS U
        · exact Or.inr ⟨r7 w' (by omega) (by rw [← dk]; exact d) (os.1 o), w, e, d, o⟩
        · exact Or.inl (ff (t6 w e d o) (rn_pc h k2) (r6 w' (by omega) (by rw [← dk]; exact d) (fun y => o (os.2 y))) (by decide))
  · by_cases m : mnV U (n14 U) (e14 U) = -1
    · by_cases n : nwC U (n14 U) (e14 U)
      · have g : 24 ≤ Xi U 5 2 := by
          apply Classical.byContradiction
          intro c
          exact w (Or.inl ⟨m, n, by omega⟩)
        exact Or.inl (ff (t2 m n g) (rn_pc h k0) (r2 (mk.1 m) (nk.1 n) (by have := ob.1; omega)) (by decide))
      · exact Or.inl (ff (t1 m n) (rn_pc h k0) (r1 (mk.1 m) (fun y => n (nk.2 y))) (by decide))
    · exact Or.inl (ff (t3 m (fun y => w (Or.inr ⟨m, y⟩))) (rn_pc h k0) (r3 (fun y => m (mk.2 y)) (fun y => w (Or.inr ⟨m, oa.2 y⟩))) (by decide))
end
section
/-! class and reference: texts, told properties -/
/-- the text (a, n) of the class has the bytes of the text (b, m) of the reference -/
def TXQ (U S : sS) (a n b m : Int) : Prop := n = m ∧ ∀ i : Int, 0 ≤ i → i < n → Xi U (txr U) (a + i).toNat = Xi S 906 (b + i).toNat
theorem smn_r {U S : sS} {a a2 b b2 N : Int} (h1 : ∀ i : Int, 0 ≤ i → i < N → Xi U (txr U) (a + i).toNat = Xi S 906 (b + i).toNat) (h2 : ∀ i : Int, 0 ≤ i → i < N → Xi U (txr U) (a2 + i).toNat = Xi S 906 (b2 + i).toNat) : ∀ (n : Nat) (i : Int), 0 ≤ i → i + n ≤ N → smn U (txr U) a a2 n i = smR S 906 b b2 n i
  | 0, i, _, _ => rfl
  | n + 1, i, h0, hn => by
    unfold smn smR
    rw [h1 i h0 (by omega), h2 i h0 (by omega), smn_r h1 h2 n (i + 1) (by omega) (by omega)]
theorem smn_01 {U : sS} {t : Nat} {a b : Int} : ∀ (n : Nat) (i : Int), smn U t a b n i = 0 ∨ smn U t a b n i = 1
  | 0, _ => Or.inr rfl
  | n + 1, i => by
    unfold smn
    by_cases q : Xi U t (a + i).toNat = Xi U t (b + i).toNat
    · rw [if_pos q]; exact smn_01 n (i + 1)
    · rw [if_neg q]; exact Or.inl rfl
theorem smT_r {U S : sS} {a n b m a2 n2 b2 m2 : Int} (h : TXQ U S a n b m) (k : TXQ U S a2 n2 b2 m2) : smT U a n a2 n2 = sameR S b m b2 m2 := by
  obtain ⟨e, h⟩ := h
  obtain ⟨g, k⟩ := k
  subst e
  subst g
  unfold smT sameR
  by_cases q : n = n2
  · subst q
    rw [if_pos rfl, if_pos rfl]
    by_cases p : 0 ≤ n
    · exact smn_r h k _ 0 (by omega) (by omega)
    · rw [show n.toNat = 0 by omega]; rfl
  · rw [if_neg q, if_neg q]
/-- what is told of property p (row r of the class; k of the reference's c, c + 1, c + 2) -/
def PVR (U S : sS) (c : Nat) (r p k : Int) : Prop := (Xi U (66 + r.toNat) p.toNat = 0 ↔ Xi S c k.toNat = 0) ∧ (Xi S c k.toNat ≠ 0 → (Xi S 928 p.toNat = 1 → TXQ U S (Xi U (107 + r.toNat) p.toNat) (Xi U (148 + r.toNat) p.toNat) (Xi S (c + 1) k.toNat) (Xi S (c + 2) k.toNat)) ∧ (Xi S 928 p.toNat ≠ 1 → Xi U (107 + r.toNat) p.toNat = Xi S (c + 1) k.toNat))
/-- a value told to both -/
def VLQ (U S : sS) (p v l v2 l2 : Int) : Prop := (Xi S 928 p.toNat = 1 → TXQ U S v l v2 l2) ∧ (Xi S 928 p.toNat ≠ 1 → v = v2)
theorem tpc_r {U A S B : sS} {z y r r2 p v l v2 l2 : Int} {c : Nat} (h : PVR U S c r p (12 * r2 + p)) (hv : VLQ U S p v l v2 l2) (h9 : Xi U 9 p.toNat = Xi S 928 p.toNat) (t : TPC U A z r p v l) (u : TPR1 S B y c r2 p v2 l2) : z = y ∧ (z = 0 ∨ z = 1) ∧ ((Xi S c (12 * r2 + p).toNat = 0 → z = 1)) := by
  obtain ⟨t1, t2, t3⟩ := t
  obtain ⟨u1, u2⟩ := u
  obtain ⟨h1, h2⟩ := h
  by_cases q : Xi S c (12 * r2 + p).toNat = 0
  · have a := (t1 (h1.2 q)).1
    have b := (u2 (fun w => w.1 q)).1
    exact ⟨by omega, Or.inr a, fun _ => a⟩
  · have q' : Xi U (66 + r.toNat) p.toNat ≠ 0 := fun w => q (h1.1 w)
    by_cases g : Xi S 928 p.toNat = 1
    · have a := (t2 q' (by rw [h9]; exact g)).1
      rw [smT_r ((h2 q).1 g) (hv.1 g)] at a
      have s01 : z = 0 ∨ z = 1 := by
        rw [← smT_r ((h2 q).1 g) (hv.1 g)] at a
        unfold smT at a
        by_cases e : Xi U (148 + r.toNat) p.toNat = l
        · rw [if_pos e] at a; rw [a]; exact smn_01 _ _
        · rw [if_neg e] at a; exact Or.inl a
      by_cases o : sameR S (Xi S (c + 1) (12 * r2 + p).toNat) (Xi S (c + 2) (12 * r2 + p).toNat) v2 l2 = 0
      · have b := (u1 ⟨q, fun _ => o, fun w => absurd g w⟩).1
        exact ⟨by omega, s01, fun w => absurd w q⟩
      · have b := (u2 (fun w => o (w.2.1 g))).1
        exact ⟨by omega, s01, fun w => absurd w q⟩
    · have a := (t3 q' (by rw [h9]; exact g)).1
      rw [(h2 q).2 g, hv.2 g] at a
      by_cases o : Xi S (c + 1) (12 * r2 + p).toNat = v2
      · rw [if_pos o] at a
        have b := (u2 (fun w => w.2.2 g o)).1
        exact ⟨by omega, Or.inr a, fun w => absurd w q⟩
      · rw [if_neg o] at a
        have b := (u1 ⟨q, fun w => absurd w g, fun _ => o⟩).1
        exact ⟨by omega, Or.inl a, fun w => absurd w q⟩
/-- 0 -/
theorem de_same {U U1 S T S1 : sS} {z first : Int} (k : Xi U 891 10 = Xi S 904 60) (tc : TDE U U1 z) (ra : RA0 S T) (st : Xi T 904 60 = Xi S 904 60 ∧ Xi T 904 81 = Xi S 904 81 ∧ ∀ j, Xi T 908 j = Xi S 908 j) (hp : pc7 U 0 = Xi S 908 (Xi S 904 81).toNat ∧ pc7 U 0 = Xi S 908 first.toNat) (h : Xi U 891 10 ≠ -1 → PVR U T 930 (Xi U 891 10) 0 (12 * Xi T 904 60 + 0)) (hv : VLQ U T 0 (pc7 U 0 + 1) (Xj U 879 0) (Xi T 908 (Xi T 904 81).toNat + 1) (Xi T 909 (Xi T 904 81).toNat)) (h9 : Xi U 9 0 = Xi T 928 0) (f0 : Xi U 876 8 = 0) (h40 : Xi U 891 10 ≤ 40) (rd : (NT3 T).1 = 0 → RD0 T S1 first) : SF2 U1 z (NT3 T) (NT3 S1) := by
  obtain ⟨t1, t2⟩ := tc
  obtain ⟨r1, r2⟩ := ra
  by_cases q : Xi U 891 10 = -1
  · exact sf2_f (S := S) (t1 q) hp.1 (r1 (by omega)) (by decide)
  · have x0 := r2 (by omega)
    obtain ⟨A, y, a1, a2, a3⟩ := t2 q
    obtain ⟨B, w, b1, b2⟩ := rd x0
    have e := tpc_r (h q) hv h9 a1 b1
    rcases b2 with ⟨b2, b3⟩ | ⟨b2, b3⟩
    · have c := a2 (by omega)
      have n0 : (NT3 S1).1 = 0 := by
        have m := b1.2 (fun v => by have := (b1.1 v).1; omega)
        rw [b3, m.2]
        unfold tPR
        show Xi _ 904 106 = 0
        rw [Xi_ne (by omega), Xi_ne (by omega), Xi_ne (by omega)]
        exact x0
      have g0 : Xi U1 876 8 = 0 := by
        rw [c.2]
        by_cases s : Xi U (66 + (Xi U 891 10).toNat) (0 : Int).toNat = 0
        · rw [(a1.1 s).2]
          unfold stP
          by_cases v : (Xi U 891 10).toNat ≤ 40
          · rw [Xi_ne (by omega), Xi_ne (by omega), Xi_ne (by omega)]; exact f0
          · omega
        · by_cases v : Xi U 9 (0 : Int).toNat = 1
          · rw [(a1.2.1 s v).2]; exact f0
          · rw [(a1.2.2 s v).2]; exact f0
      exact sf2_y c.1 g0 x0 n0
    · exact sf2_d (S := S) (a3 (by omega)) hp.2 x0 (by rw [st.2.2] at b3; exact b3)
end
section
/-! class and reference: told adjectives -/
/-- the class's 1, -1, 0 are the reference's 1, 2, 0 -/
def AV3 (u s : Int) : Prop := (u = 1 ∧ s = 1) ∨ (u = -1 ∧ s = 2) ∨ (u = 0 ∧ s = 0)
def ADV (U S : sS) (c : Nat) (r b : Int) : Prop := ∀ a : Nat, a < 24 → AV3 (Xi U (25 + r.toNat) a) (Xi S c (b + a).toNat)
theorem tad_r {U A S B : sS} {z y r b a h i : Int} {c : Nat} (v : ADV U S c r b) (ha : 0 ≤ a ∧ a < 24) (hi : h = 0 ↔ i = 0) (t : TADC U A z r a h) (u : TISR S B y c b a i) : z = y ∧ ((z = 0 ∧ A = U ∧ B = S) ∨ (z = 1 ∧ A = stAd U r a h ∧ B = rIs S c b a i)) := by
  obtain ⟨t1, t2⟩ := t
  obtain ⟨u1, u2⟩ := u
  have w := v a.toNat (by omega)
  rw [show ((a.toNat : Nat) : Int) = a by omega] at w
  have e : Xi U (25 + r.toNat) a.toNat = (if h = 0 then 1 else -1) ↔ Xi S c (b + a).toNat = (if i = 0 then 1 else 2) := by
    unfold AV3 at w
    by_cases q : h = 0
    · rw [if_pos q, if_pos (hi.1 q)]
      constructor <;> intro x <;> omega
    · rw [if_neg q, if_neg (fun x => q (hi.2 x))]
      constructor <;> intro x <;> omega
  by_cases q : Xi U (25 + r.toNat) a.toNat = (if h = 0 then 1 else -1)
  · have x := t1 q
    have x2 := u1 (e.1 q)
    exact ⟨by omega, Or.inl ⟨x.1, x.2, x2.2⟩⟩
  · have x := t2 q
    have x2 := u2 (fun y => q (e.2 y))
    exact ⟨by omega, Or.inr ⟨x.1, x.2, x2.2⟩⟩
theorem adv_1 {U S : sS} {r b a x s : Int} {c : Nat} (v : ADV U S c r b) (hb : 0 ≤ b) (ha : 0 ≤ a ∧ a < 24) (h : AV3 x s) : ADV (uI U (25 + r.toNat) a.toNat (Int32.ofInt x)) (uI S c (b + a).toNat (Int32.ofInt s)) c r b := fun j hj => by
  by_cases q : j = a.toNat
  · subst q
    rw [show ((a.toNat : Nat) : Int) = a by omega, Xi_same (by unfold AV3 at h; unfold rg; omega), Xi_same (by unfold AV3 at h; unfold rg; omega)]
    exact h
  · rw [Xi_ne (by omega), Xi_ne (by omega)]
    exact v j hj
end
section
/-! class and reference: what holds of both between sentences -/
/-- cells and fields that stay -/
def KEP (ks fs : List (Nat × Nat)) (S S1 : sS) : Prop := SMK ks S S1 ∧ ∀ f ∈ fs, S1.1 f.1 f.2 = S.1 f.1 f.2 ∧ S1.2.1 f.1 f.2 = S.2.1 f.1 f.2 ∧ S1.2.2 f.1 f.2 = S.2.2 f.1 f.2
def kepC (l : List rec) (ks fs : List (Nat × Nat)) : Bool := kdis l ks && fs.all (fun f => !(mdf l f.1 f.2))
theorem FR.kep {l : List rec} {ks fs : List (Nat × Nat)} {S S1 : sS} (h : FR l S S1) (e : kepC l ks fs = true) : KEP ks fs S S1 := by
  unfold kepC at e
  rw [Bool.and_eq_true] at e
  refine ⟨h.smk e.1, fun f hf => h f.1 f.2 ?_⟩
  have t := List.all_eq_true.mp e.2 f hf
  cases q : mdf l f.1 f.2 with
  | false => rfl
  | true => rw [q] at t; cases t
theorem KEP.x {ks fs : List (Nat × Nat)} {S S1 : sS} (h : KEP ks fs S S1) (k : Nat) (e : inK ks k = true) (j : Nat) : Xi S1 k j = Xi S k j := h.1.x k e j
theorem KEP.j {ks fs : List (Nat × Nat)} {S S1 : sS} (h : KEP ks fs S S1) (k : Nat) (e : inK ks k = true) (j : Nat) : Xj S1 k j = Xj S k j := h.1.xj k e j
theorem KEP.f {ks fs : List (Nat × Nat)} {S S1 : sS} (h : KEP ks fs S S1) (k j : Nat) (e : (k, j) ∈ fs) : Xi S1 k j = Xi S k j := by unfold Xi; rw [(h.2 (k, j) e).1]
theorem KEP.rf {ks fs : List (Nat × Nat)} {S : sS} : KEP ks fs S S := ⟨fun _ _ _ => ⟨rfl, rfl, rfl⟩, fun _ _ => ⟨rfl, rfl, rfl⟩⟩
theorem KEP.tr {ks fs : List (Nat × Nat)} {S T V : sS} (h : KEP ks fs S T) (k : KEP ks fs T V) : KEP ks fs S V :=
  ⟨fun c j e => ⟨(k.1 c j e).1.trans (h.1 c j e).1, (k.1 c j e).2.1.trans (h.1 c j e).2.1, (k.1 c j e).2.2.trans (h.1 c j e).2.2⟩, fun f e => ⟨(k.2 f e).1.trans (h.2 f e).1, (k.2 f e).2.1.trans (h.2 f e).2.1, (k.2 f e).2.2.trans (h.2 f e).2.2⟩⟩
def inKs (ks ls : List (Nat × Nat)) : Bool := ls.all (fun a => ks.any (fun b => Nat.ble b.1 a.1 && Nat.ble a.2 b.2))
theorem inKs_ok {ks ls : List (Nat × Nat)} {k : Nat} (h : inKs ks ls = true) (e : inK ls k = true) : inK ks k = true := by
  obtain ⟨a, ha, e1⟩ := List.any_eq_true.mp e
  obtain ⟨b, hb, e2⟩ := List.any_eq_true.mp (List.all_eq_true.mp h a ha)
  refine List.any_eq_true.mpr ⟨b, hb, ?_⟩
  rw [Bool.and_eq_true] at e1 e2 ⊢
  have x1 := Nat.le_of_ble_eq_true e1.1
  have x2 := Nat.le_of_ble_eq_true e1.2
  have y1 := Nat.le_of_ble_eq_true e2.1
  have y2 := Nat.le_of_ble_eq_true e2.2
  exact ⟨Nat.ble_eq_true_of_le (by omega), Nat.ble_eq_true_of_le (by omega)⟩
theorem KEP.le {ks fs ls gs : List (Nat × Nat)} {S S1 : sS} (h : KEP ks fs S S1) (e : inKs ks ls = true) (g : ∀ f, f ∈ gs → f ∈ fs) : KEP ls gs S S1 := ⟨fun c j q => h.1 c j (inKs_ok e q), fun f q => h.2 f (g f q)⟩
/-- how many there are of what an entry's sort is of -/
def wcU (U : sS) (s : Int) : Int := if s = 11 then Xi U 5 0 else if s = 12 then Xi U 5 1 else if s = 13 then Xi U 5 7 else if s = 14 then 6 else if s = 9 ∨ s = 10 then 0 else Xi U 5 s.toNat
def WHC (U : sS) : Prop := ∀ i : Nat, (i : Int) < Xi U 1 3 → Xi U 4 i < wcU U (Xi U 3 i)
/-- an entry whose last word has thirteen letters: without its s it is one too, of a kind, a TYPE or a verb -/
def LWE (U : sS) (a b c : Int) : Prop := ∃ j : Nat, (j : Int) < Xi U 1 3 ∧ mtC U a b c j ∧ (Xi U 3 j = 0 ∨ Xi U 3 j = 1 ∨ Xi U 3 j = 7)
def LW3 (U : sS) : Prop := ∀ i : Nat, (i : Int) < Xi U 1 3 → ∀ w x y : Int, 5559060566555523 ≤ w → (mtC U (w * 27 + 19) 0 0 i → LWE U w 0 0) ∧ (mtC U x (w * 27 + 19) 0 i → LWE U x w 0) ∧ (mtC U x y (w * 27 + 19) i → LWE U x y w)
theorem lw_1 {U : sS} (h : LW3 U) : LW1 U := fun i hi w hw m => by
  obtain ⟨j, a, b, _⟩ := (h i hi w 0 0 hw).1 m
  exact ⟨j, a, b⟩
/-- words -/
def RVO (U S : sS) : Prop := VOC U S ∧ USW U ∧ CEN U ∧ LXR S ∧ LW3 U
/-- counts -/
def RCT (U S : sS) : Prop := (Xi U 5 0 = Xi S 904 16 ∧ 5 ≤ Xi U 5 0 ∧ Xi U 5 0 ≤ 16) ∧ (Xi U 5 1 = Xi S 904 18 ∧ 2 ≤ Xi U 5 1 ∧ Xi U 5 1 ≤ 8) ∧ (Xi U 5 2 = Xi S 904 19 ∧ 1 ≤ Xi U 5 2 ∧ Xi U 5 2 ≤ 24) ∧ (Xi U 5 3 = Xi S 904 23 ∧ 2 ≤ Xi U 5 3 ∧ Xi U 5 3 ≤ 24) ∧ (Xi U 5 4 = Xi S 904 30 ∧ 0 ≤ Xi U 5 4 ∧ Xi U 5 4 ≤ 48) ∧ (Xi U 5 5 = Xi S 904 32 ∧ 1 ≤ Xi U 5 5 ∧ Xi U 5 5 ≤ 12) ∧ (Xi U 5 6 = Xi S 904 41 ∧ 0 ≤ Xi U 5 6 ∧ Xi U 5 6 ≤ 6) ∧ (Xi U 5 7 = Xi S 904 47 ∧ 0 ≤ Xi U 5 7 ∧ Xi U 5 7 ≤ 8) ∧ (Xi U 5 8 = Xi S 904 49 ∧ 5 ≤ Xi U 5 8 ∧ Xi U 5 8 ≤ 12)
/-- TYPES of values and properties; what kinds have -/
def RTY (U S : sS) : Prop := (∀ i : Nat, (i : Int) < Xi U 5 4 → Xi U 8 i = Xi S 927 i ∧ 2 ≤ Xi U 8 i ∧ Xi U 8 i < Xi U 5 1) ∧ (∀ i : Nat, (i : Int) < Xi U 5 5 → Xi U 9 i = Xi S 928 i ∧ 0 ≤ Xi U 9 i ∧ Xi U 9 i < Xi U 5 1) ∧ (∀ k p : Nat, (k : Int) < Xi U 5 0 → p < 12 → Xi S 929 (12 * k + p) ≠ 0 → (p : Int) < Xi U 5 5) ∧ ∀ t : Int, vals U t ≤ 8
/-- adjectives -/
def RAJ (U S : sS) : Prop := ∀ a : Nat, (a : Int) < Xi U 5 3 → (Xi U 10 a = Xi S 921 a ∧ 0 ≤ Xi U 10 a ∧ Xi U 10 a < Xi U 5 0) ∧ (Xi U 11 a = Xi S 922 a ∧ -1 ≤ Xi U 11 a ∧ Xi U 11 a < Xi U 5 3) ∧ (Xi U 11 a = -1 ↔ Xi S 924 a ≠ 0) ∧ 0 ≤ Xi S 924 a ∧ (Xi U 11 a = -1 → Xi U 13 a = Xi S 924 a)
/-- relations -/
def RRE (U S : sS) : Prop := ∀ r : Nat, (r : Int) < Xi U 5 6 → (Xi U 14 r = Xi S 936 r ∧ Xi U 15 r = Xi S 937 r) ∧ (0 ≤ Xi U 14 r ∧ Xi U 14 r < Xi U 5 0 ∧ 0 ≤ Xi U 15 r ∧ Xi U 15 r < Xi U 5 0) ∧ (Xi U 16 r = 0 ↔ Xi S 938 r = 0) ∧ (Xi U 17 r = 0 ↔ Xi S 939 r = 0)
def RBT (U S : sS) : Prop := ∀ r a b : Nat, r < 6 → a < 24 → b < 32 → (gb (Xi U (189 + r) a) b = true → (a : Int) < Xi U 5 2 ∧ (b : Int) < Xi U 5 2) ∧ (b < 24 → (gb (Xi U (189 + r) a) b = true ↔ Xi S 940 (576 * r + 24 * a + b) ≠ 0))
/-- verbs, actions -/
def RVA (U S : sS) : Prop := (∀ i : Nat, (i : Int) < Xi U 5 7 → Xi U 18 i = Xi S 941 i ∧ 0 ≤ Xi U 18 i ∧ Xi U 18 i < Xi U 5 6) ∧ ∀ i : Nat, (i : Int) < Xi U 5 8 → Xi U 19 i = Xi S 942 i ∧ -2 ≤ Xi U 19 i ∧ Xi U 19 i < Xi U 5 0
/-- objects, where they are -/
def ROB (U S : sS) : Prop := OBK U S ∧ ∀ o : Nat, (o : Int) < Xi U 5 2 → (Xi U 22 o = Xi S 919 o ∧ Xi U 23 o = Xi S 920 o) ∧ (0 ≤ Xi U 22 o ∧ Xi U 22 o ≤ 5) ∧ (Xi U 22 o = 0 ↔ Xi U 23 o = -1) ∧ -1 ≤ Xi U 23 o ∧ Xi U 23 o < Xi U 5 2
/-- no object is within itself -/
def ACY (U : sS) : Prop := ∃ rk : Nat → Nat, ∀ o : Nat, (o : Int) < Xi U 5 2 → 0 ≤ Xi U 23 o → rk (Xi U 23 o).toNat < rk o
/-- adjectives that were told -/
def RAQ (U S : sS) : Prop := (∀ o : Nat, (o : Int) < Xi U 5 2 → ADV U S 925 o (24 * o)) ∧ (∀ k : Nat, (k : Int) < Xi U 5 0 → ADV U S 926 (24 + k) (24 * k)) ∧ (∀ o : Nat, o < 24 → Xi U 5 2 ≤ (o : Int) → ∀ a : Nat, a < 24 → Xi U (25 + o) a = 0) ∧ ∀ k : Nat, k < 16 → Xi U 5 0 ≤ (k : Int) → ∀ a : Nat, a < 24 → Xi U (49 + k) a = 0
/-- properties that were told -/
def RPR (U S : sS) : Prop := (∀ o p : Nat, (o : Int) < Xi U 5 2 → p < 12 → PVR U S 930 o p (12 * o + p) ∧ (Xi S 930 (12 * o + p) ≠ 0 → (p : Int) < Xi U 5 5)) ∧ (∀ k p : Nat, (k : Int) < Xi U 5 0 → p < 12 → PVR U S 933 (24 + k) p (12 * k + p) ∧ (Xi S 933 (12 * k + p) ≠ 0 → (p : Int) < Xi U 5 5)) ∧ (∀ o : Nat, o < 24 → Xi U 5 2 ≤ (o : Int) → ∀ p : Nat, p < 12 → Xi U (66 + o) p = 0) ∧ ∀ k : Nat, k < 16 → Xi U 5 0 ≤ (k : Int) → ∀ p : Nat, p < 12 → Xi U (90 + k) p = 0
/-- ways -/
def RWY (U S : sS) : Prop := (Xi U 20 12 = Xi S 904 51 ∧ 0 ≤ Xi U 20 12 ∧ Xi U 20 12 ≤ 144) ∧ (∀ k : Nat, (k : Int) < Xi S 904 51 → (0 ≤ Xi S 943 k ∧ Xi S 943 k < Xi U 5 2) ∧ (0 ≤ Xi S 944 k ∧ Xi S 944 k < 6) ∧ (0 ≤ Xi S 945 k ∧ Xi S 945 k < Xi U 5 2) ∧ Xi U (196 + (Xi S 943 k).toNat) (Xi S 944 k).toNat = Xi S 945 k ∧ Xi U (221 + (Xi S 943 k).toNat) (Xi S 944 k).toNat = k) ∧ ∀ r d : Nat, r < 24 → d < 6 → Xi U (196 + r) d ≠ -1 → ∃ k : Nat, (k : Int) < Xi S 904 51 ∧ Xi S 943 k = r ∧ Xi S 944 k = d
/-- the latest object -/
def RSB (U S : sS) : Prop := Xi U 891 10 = Xi S 904 60 ∧ -1 ≤ Xi U 891 10 ∧ Xi U 891 10 < Xi U 5 2
/-- the story's bytes -/
def RST (U S : sS) : Prop := SRX U ∧ ∀ j : Nat, (j : Int) < Xi U 876 5 → Xi U (txr U) j = Xi S 906 j
theorem RVO.k {U U1 S S1 : sS} (h : RVO U S) (a : KEP [(2, 5)] [(1, 3)] U U1) (b : KEP [(912, 917)] [(904, 15)] S S1) : RVO U1 S1 := by
  have u0 : ∀ j, Xj U1 2 j = Xj U 2 j := a.j 2 rfl
  have u1 : ∀ j, Xi U1 3 j = Xi U 3 j := a.x 3 rfl
  have u2 : ∀ j, Xi U1 4 j = Xi U 4 j := a.x 4 rfl
  have u3 : Xi U1 1 3 = Xi U 1 3 := a.f 1 3 (by decide)
  have s0 : ∀ j, Xi S1 912 j = Xi S 912 j := b.x 912 rfl
  have s1 : ∀ j, Xj S1 913 j = Xj S 913 j := b.j 913 rfl
  have s2 : ∀ j, Xi S1 914 j = Xi S 914 j := b.x 914 rfl
  have s3 : ∀ j, Xi S1 915 j = Xi S 915 j := b.x 915 rfl
  have s4 : ∀ j, Xi S1 916 j = Xi S 916 j := b.x 916 rfl
  have s5 : Xi S1 904 15 = Xi S 904 15 := b.f 904 15 (by decide)
  unfold RVO VOC WE UNW USW CEN LXR LW3 LWE mtC
  unfold RVO VOC WE UNW USW CEN LXR LW3 LWE mtC at h
  simp only [u0, u1, u2, u3, s0, s1, s2, s3, s4, s5]
  exact h
theorem RCT.k {U U1 S S1 : sS} (h : RCT U S) (a : KEP [(5, 6)] [] U U1) (b : KEP [] [(904, 16), (904, 18), (904, 19), (904, 23), (904, 30), (904, 32), (904, 41), (904, 47), (904, 49)] S S1) : RCT U1 S1 := by
  have u0 : ∀ j, Xi U1 5 j = Xi U 5 j := a.x 5 rfl
  have s0 : Xi S1 904 16 = Xi S 904 16 := b.f 904 16 (by decide)
  have s1 : Xi S1 904 18 = Xi S 904 18 := b.f 904 18 (by decide)
  have s2 : Xi S1 904 19 = Xi S 904 19 := b.f 904 19 (by decide)
  have s3 : Xi S1 904 23 = Xi S 904 23 := b.f 904 23 (by decide)
  have s4 : Xi S1 904 30 = Xi S 904 30 := b.f 904 30 (by decide)
  have s5 : Xi S1 904 32 = Xi S 904 32 := b.f 904 32 (by decide)
  have s6 : Xi S1 904 41 = Xi S 904 41 := b.f 904 41 (by decide)
  have s7 : Xi S1 904 47 = Xi S 904 47 := b.f 904 47 (by decide)
  have s8 : Xi S1 904 49 = Xi S 904 49 := b.f 904 49 (by decide)
  unfold RCT
  simp only [u0, s0, s1, s2, s3, s4, s5, s6, s7, s8]
  exact h
theorem KND.k {U U1 S S1 : sS} (h : KND U S) (c0 : Xi U1 5 0 = Xi U 5 0) (a : KEP [(6, 8)] [] U U1) (b : KEP [(917, 918), (929, 930)] [(904, 16)] S S1) : KND U1 S1 := by
  have u0 : ∀ j, Xi U1 6 j = Xi U 6 j := a.x 6 rfl
  have u1 : ∀ j, Xi U1 7 j = Xi U 7 j := a.x 7 rfl
  have s0 : ∀ j, Xi S1 917 j = Xi S 917 j := b.x 917 rfl
  have s1 : ∀ j, Xi S1 929 j = Xi S 929 j := b.x 929 rfl
  have s2 : Xi S1 904 16 = Xi S 904 16 := b.f 904 16 (by decide)
  unfold KND
  simp only [c0, u0, u1, s0, s1, s2]
  exact h
theorem valn_k {U U1 : sS} {t : Int} (h : ∀ j, Xi U1 8 j = Xi U 8 j) : ∀ (n : Nat) (i a : Int), valn U1 t n i a = valn U t n i a
  | 0, _, _ => rfl
  | n + 1, i, a => by
    unfold valn
    rw [h, valn_k h n]
theorem RTY.k {U U1 S S1 : sS} (h : RTY U S) (c0 : Xi U1 5 0 = Xi U 5 0) (c4 : Xi U1 5 4 = Xi U 5 4) (c5 : Xi U1 5 5 = Xi U 5 5) (c1 : Xi U 5 1 ≤ Xi U1 5 1) (a : KEP [(8, 10)] [] U U1) (b : KEP [(927, 930)] [] S S1) : RTY U1 S1 := by
  have u0 : ∀ j, Xi U1 8 j = Xi U 8 j := a.x 8 rfl
  have u1 : ∀ j, Xi U1 9 j = Xi U 9 j := a.x 9 rfl
  have s0 : ∀ j, Xi S1 927 j = Xi S 927 j := b.x 927 rfl
  have s1 : ∀ j, Xi S1 928 j = Xi S 928 j := b.x 928 rfl
  have s2 : ∀ j, Xi S1 929 j = Xi S 929 j := b.x 929 rfl
  unfold RTY vals
  simp only [c0, c4, c5, u0, u1, s0, s1, s2, valn_k u0]
  obtain ⟨h1, h2, h3, h4⟩ := h
  exact ⟨fun i q => by have t := h1 i q; omega, fun i q => by have t := h2 i q; omega, h3, h4⟩
theorem RAJ.k {U U1 S S1 : sS} (h : RAJ U S) (c3 : Xi U1 5 3 = Xi U 5 3) (c0 : Xi U 5 0 ≤ Xi U1 5 0) (a : KEP [(10, 12), (13, 14)] [] U U1) (b : KEP [(921, 923), (924, 925)] [] S S1) : RAJ U1 S1 := by
  have u0 : ∀ j, Xi U1 10 j = Xi U 10 j := a.x 10 rfl
  have u1 : ∀ j, Xi U1 11 j = Xi U 11 j := a.x 11 rfl
  have u2 : ∀ j, Xi U1 13 j = Xi U 13 j := a.x 13 rfl
  have s0 : ∀ j, Xi S1 921 j = Xi S 921 j := b.x 921 rfl
  have s1 : ∀ j, Xi S1 922 j = Xi S 922 j := b.x 922 rfl
  have s2 : ∀ j, Xi S1 924 j = Xi S 924 j := b.x 924 rfl
  unfold RAJ
  simp only [c3, u0, u1, u2, s0, s1, s2]
  exact fun i q => by obtain ⟨x, y⟩ := h i q; exact ⟨by omega, y⟩
theorem RRE.k {U U1 S S1 : sS} (h : RRE U S) (c6 : Xi U1 5 6 = Xi U 5 6) (c0 : Xi U 5 0 ≤ Xi U1 5 0) (a : KEP [(14, 18)] [] U U1) (b : KEP [(936, 940)] [] S S1) : RRE U1 S1 := by
  have u0 : ∀ j, Xi U1 14 j = Xi U 14 j := a.x 14 rfl
  have u1 : ∀ j, Xi U1 15 j = Xi U 15 j := a.x 15 rfl
  have u2 : ∀ j, Xi U1 16 j = Xi U 16 j := a.x 16 rfl
  have u3 : ∀ j, Xi U1 17 j = Xi U 17 j := a.x 17 rfl
  have s0 : ∀ j, Xi S1 936 j = Xi S 936 j := b.x 936 rfl
  have s1 : ∀ j, Xi S1 937 j = Xi S 937 j := b.x 937 rfl
  have s2 : ∀ j, Xi S1 938 j = Xi S 938 j := b.x 938 rfl
  have s3 : ∀ j, Xi S1 939 j = Xi S 939 j := b.x 939 rfl
  unfold RRE
  simp only [c6, u0, u1, u2, u3, s0, s1, s2, s3]
  exact fun i q => by obtain ⟨x, y, z⟩ := h i q; exact ⟨x, by omega, z⟩
theorem RVA.k {U U1 S S1 : sS} (h : RVA U S) (c7 : Xi U1 5 7 = Xi U 5 7) (c8 : Xi U1 5 8 = Xi U 5 8) (c6 : Xi U 5 6 ≤ Xi U1 5 6) (c0 : Xi U 5 0 ≤ Xi U1 5 0) (a : KEP [(18, 20)] [] U U1) (b : KEP [(941, 943)] [] S S1) : RVA U1 S1 := by
  have u0 : ∀ j, Xi U1 18 j = Xi U 18 j := a.x 18 rfl
  have u1 : ∀ j, Xi U1 19 j = Xi U 19 j := a.x 19 rfl
  have s0 : ∀ j, Xi S1 941 j = Xi S 941 j := b.x 941 rfl
  have s1 : ∀ j, Xi S1 942 j = Xi S 942 j := b.x 942 rfl
  unfold RVA
  simp only [c7, c8, u0, u1, s0, s1]
  exact ⟨fun i q => by have t := h.1 i q; omega, fun i q => by have t := h.2 i q; omega⟩
theorem ROB.k {U U1 S S1 : sS} (h : ROB U S) (c2 : Xi U1 5 2 = Xi U 5 2) (c0 : Xi U 5 0 ≤ Xi U1 5 0) (a : KEP [(21, 24)] [] U U1) (b : KEP [(918, 921)] [(904, 19)] S S1) : ROB U1 S1 := by
  have u0 : ∀ j, Xi U1 21 j = Xi U 21 j := a.x 21 rfl
  have u1 : ∀ j, Xi U1 22 j = Xi U 22 j := a.x 22 rfl
  have u2 : ∀ j, Xi U1 23 j = Xi U 23 j := a.x 23 rfl
  have s0 : ∀ j, Xi S1 918 j = Xi S 918 j := b.x 918 rfl
  have s1 : ∀ j, Xi S1 919 j = Xi S 919 j := b.x 919 rfl
  have s2 : ∀ j, Xi S1 920 j = Xi S 920 j := b.x 920 rfl
  have s3 : Xi S1 904 19 = Xi S 904 19 := b.f 904 19 (by decide)
  unfold ROB OBK
  simp only [c2, u0, u1, u2, s0, s1, s2, s3]
  exact ⟨⟨h.1.1, fun i q => by have t := h.1.2 i q; omega⟩, h.2⟩
theorem RSB.k {U U1 S S1 : sS} (h : RSB U S) (c2 : Xi U 5 2 ≤ Xi U1 5 2) (a : KEP [] [(891, 10)] U U1) (b : KEP [] [(904, 60)] S S1) : RSB U1 S1 := by
  have u0 : Xi U1 891 10 = Xi U 891 10 := a.f 891 10 (by decide)
  have s0 : Xi S1 904 60 = Xi S 904 60 := b.f 904 60 (by decide)
  unfold RSB
  simp only [u0, s0]
  exact ⟨h.1, h.2.1, by have t := h.2.2; omega⟩
theorem WHC.k {U U1 : sS} (h : WHC U) (a : KEP [(3, 6)] [(1, 3)] U U1) : WHC U1 := by
  have u0 : ∀ j, Xi U1 3 j = Xi U 3 j := a.x 3 rfl
  have u1 : ∀ j, Xi U1 4 j = Xi U 4 j := a.x 4 rfl
  have u2 : ∀ j, Xi U1 5 j = Xi U 5 j := a.x 5 rfl
  have u3 : Xi U1 1 3 = Xi U 1 3 := a.f 1 3 (by decide)
  unfold WHC wcU
  simp only [u0, u1, u2, u3]
  exact h
theorem ACY.k {U U1 : sS} (h : ACY U) (u0 : Xi U1 5 2 = Xi U 5 2) (a : KEP [(23, 24)] [] U U1) : ACY U1 := by
  have u1 : ∀ j, Xi U1 23 j = Xi U 23 j := a.x 23 rfl
  unfold ACY
  simp only [u0, u1]
  exact h
theorem RBT.k {U U1 S S1 : sS} (h : RBT U S) (c2 : Xi U 5 2 ≤ Xi U1 5 2) (a : KEP [(189, 195)] [] U U1) (b : KEP [(940, 941)] [] S S1) : RBT U1 S1 := fun r x y hr hx hy => by
  rw [b.x 940 rfl, a.x (189 + r) (by unfold inK; simp; omega)]
  obtain ⟨p, q⟩ := h r x y hr hx hy
  exact ⟨fun w => by have t := p w; omega, q⟩
theorem ADV.k {U U1 S S1 : sS} {c : Nat} {r b : Int} (h : ADV U S c r b) (a : ∀ j, Xi U1 (25 + r.toNat) j = Xi U (25 + r.toNat) j) (e : ∀ j, Xi S1 c j = Xi S c j) : ADV U1 S1 c r b := fun x hx => by rw [a, e]; exact h x hx
theorem RAQ.k {U U1 S S1 : sS} (h : RAQ U S) (c : RCT U S) (u2 : Xi U1 5 2 = Xi U 5 2) (u0 : Xi U1 5 0 = Xi U 5 0) (a : KEP [(25, 65)] [] U U1) (b : KEP [(925, 927)] [] S S1) : RAQ U1 S1 := by
  have uc : ∀ k j : Nat, k < 40 → Xi U1 (25 + k) j = Xi U (25 + k) j := fun k j hk => a.x (25 + k) (by unfold inK; simp; omega) j
  have s5 : ∀ j, Xi S1 925 j = Xi S 925 j := b.x 925 rfl
  have s6 : ∀ j, Xi S1 926 j = Xi S 926 j := b.x 926 rfl
  obtain ⟨h1, h2, h3, h4⟩ := h
  have c0 := c.1
  have c2 := c.2.2.1
  refine ⟨fun o ho => ?_, fun k hk => ?_, fun o h0 ho x hx => ?_, fun k h0 hk x hx => ?_⟩
  · rw [u2] at ho
    exact (h1 o ho).k (fun j => uc _ j (by omega)) s5
  · rw [u0] at hk
    exact (h2 k hk).k (fun j => uc _ j (by omega)) s6
  · rw [u2] at ho
    rw [uc o x (by omega)]; exact h3 o h0 ho x hx
  · rw [u0] at hk
    have t := uc (24 + k) x (by omega)
    rw [show 25 + (24 + k) = 49 + k by omega] at t
    rw [t]; exact h4 k h0 hk x hx
/-- where texts lie, and their bytes, stay -/
theorem txr_k {U U1 : sS} {ks fs : List (Nat × Nat)} (a : KEP ks fs U U1) (e : (20, 1) ∈ fs) : txr U1 = txr U := by unfold txr; rw [(a.2 (20, 1) e).2.2]
theorem TXQ.k {U U1 S S1 : sS} {x n y m : Int} (h : TXQ U S x n y m) (t : txr U1 = txr U) (a : ∀ j, Xi U1 (txr U) j = Xi U (txr U) j) (b : ∀ j, Xi S1 906 j = Xi S 906 j) : TXQ U1 S1 x n y m := ⟨h.1, fun i h0 h1 => by rw [t, a, b]; exact h.2 i h0 h1⟩
theorem PVR.k {U U1 S S1 : sS} {c : Nat} {r p k : Int} (h : PVR U S c r p k) (t : txr U1 = txr U) (a : ∀ j, Xi U1 (txr U) j = Xi U (txr U) j) (a1 : ∀ j, Xi U1 (66 + r.toNat) j = Xi U (66 + r.toNat) j) (a2 : ∀ j, Xi U1 (107 + r.toNat) j = Xi U (107 + r.toNat) j) (a3 : ∀ j, Xi U1 (148 + r.toNat) j = Xi U (148 + r.toNat) j) (b : ∀ j, Xi S1 906 j = Xi S 906 j) (b8 : Xi S c k.toNat ≠ 0 → Xi S1 928 p.toNat = Xi S 928 p.toNat) (b0 : ∀ j, Xi S1 c j = Xi S c j) (b1 : ∀ j, Xi S1 (c + 1) j = Xi S (c + 1) j) (b2 : ∀ j, Xi S1 (c + 2) j = Xi S (c + 2) j) : PVR U1 S1 c r p k := by
  unfold PVR
  rw [a1, a2, a3, b0, b1, b2]
  refine ⟨h.1, fun q => ?_⟩
  obtain ⟨x, y⟩ := h.2 q
  rw [b8 q]
  exact ⟨fun w => (x w).k t a b, y⟩
/-- texts of the class lie in one of three rows -/
def TX3 (U : sS) : Prop := txr U = 245 ∨ txr U = 902 ∨ txr U = 903
theorem tx_k {U U1 : sS} {ks fs : List (Nat × Nat)} (h : TX3 U) (a : KEP ks fs U U1) (e : inK ks 245 = true) (e1 : inK ks 902 = true) (e2 : inK ks 903 = true) (j : Nat) : Xi U1 (txr U) j = Xi U (txr U) j := by
  rcases h with q | q | q <;> rw [q]
  · exact a.x _ e j
  · exact a.x _ e1 j
  · exact a.x _ e2 j
theorem RPR.k {U U1 S S1 : sS} (h : RPR U S) (c : RCT U S) (t3 : TX3 U) (c2 : Xi U1 5 2 = Xi U 5 2) (c0 : Xi U1 5 0 = Xi U 5 0) (c5 : Xi U 5 5 ≤ Xi U1 5 5) (a : KEP [(66, 106), (107, 147), (148, 188), (245, 246), (902, 904)] [(20, 1)] U U1) (b : KEP [(906, 907), (930, 936)] [] S S1) (b8 : ∀ p : Nat, (p : Int) < Xi U 5 5 → Xi S1 928 p = Xi S 928 p) : RPR U1 S1 := by
  have t := txr_k a (by decide)
  have ta := tx_k t3 a rfl rfl rfl
  have u1 : ∀ k j : Nat, k < 40 → Xi U1 (66 + k) j = Xi U (66 + k) j := fun k j hk => a.x (66 + k) (by unfold inK; simp; omega) j
  have u2 : ∀ k j : Nat, k < 40 → Xi U1 (107 + k) j = Xi U (107 + k) j := fun k j hk => a.x (107 + k) (by unfold inK; simp; omega) j
  have u3 : ∀ k j : Nat, k < 40 → Xi U1 (148 + k) j = Xi U (148 + k) j := fun k j hk => a.x (148 + k) (by unfold inK; simp; omega) j
  obtain ⟨h1, h2, h3, h4⟩ := h
  have d0 := c.1
  have d2 := c.2.2.1
  refine ⟨fun o p ho hp => ?_, fun k p hk hp => ?_, fun o h0 ho x hx => ?_, fun k h0 hk x hx => ?_⟩
  · rw [c2] at ho
    rw [b.x 930 rfl]
    exact ⟨(h1 o p ho hp).1.k t ta (fun j => u1 _ j (by omega)) (fun j => u2 _ j (by omega)) (fun j => u3 _ j (by omega)) (b.x 906 rfl) (fun q => b8 _ ((h1 o p ho hp).2 q)) (b.x 930 rfl) (b.x 931 rfl) (b.x 932 rfl), fun q => by have w := (h1 o p ho hp).2 q; omega⟩
  · rw [c0] at hk
    rw [b.x 933 rfl]
    exact ⟨(h2 k p hk hp).1.k t ta (fun j => u1 _ j (by omega)) (fun j => u2 _ j (by omega)) (fun j => u3 _ j (by omega)) (b.x 906 rfl) (fun q => b8 _ ((h2 k p hk hp).2 q)) (b.x 933 rfl) (b.x 934 rfl) (b.x 935 rfl), fun q => by have w := (h2 k p hk hp).2 q; omega⟩
  · rw [c2] at ho
    rw [u1 o x (by omega)]; exact h3 o h0 ho x hx
  · rw [c0] at hk
    have w := u1 (24 + k) x (by omega)
    rw [show 66 + (24 + k) = 90 + k by omega] at w
    rw [w]; exact h4 k h0 hk x hx
theorem RWY.k {U U1 S S1 : sS} (h : RWY U S) (c : RCT U S) (c2 : Xi U 5 2 ≤ Xi U1 5 2) (a : KEP [(196, 220), (221, 245)] [(20, 12)] U U1) (b : KEP [(943, 946)] [(904, 51)] S S1) : RWY U1 S1 := by
  have u0 : Xi U1 20 12 = Xi U 20 12 := a.f 20 12 (by decide)
  have s0 : Xi S1 904 51 = Xi S 904 51 := b.f 904 51 (by decide)
  have s1 : ∀ j, Xi S1 943 j = Xi S 943 j := b.x 943 rfl
  have s2 : ∀ j, Xi S1 944 j = Xi S 944 j := b.x 944 rfl
  have s3 : ∀ j, Xi S1 945 j = Xi S 945 j := b.x 945 rfl
  have u1 : ∀ k j : Nat, k < 24 → Xi U1 (196 + k) j = Xi U (196 + k) j := fun k j hk => a.x (196 + k) (by unfold inK; simp; omega) j
  have u2 : ∀ k j : Nat, k < 24 → Xi U1 (221 + k) j = Xi U (221 + k) j := fun k j hk => a.x (221 + k) (by unfold inK; simp; omega) j
  obtain ⟨h1, h2, h3⟩ := h
  have d2 := c.2.2.1
  refine ⟨by rw [u0, s0]; exact h1, fun k hk => ?_, fun r d hr hd q => ?_⟩
  · rw [s0] at hk
    have w := h2 k hk
    rw [s1, s2, s3, u1 _ _ (by omega), u2 _ _ (by omega)]
    exact ⟨by omega, w.2.1, by omega, w.2.2.2⟩
  · rw [u1 r d hr] at q
    obtain ⟨k, x, y, z⟩ := h3 r d hr hd q
    exact ⟨k, by rw [s0]; exact x, by rw [s1]; exact y, by rw [s2]; exact z⟩
/-- words, counts, the world -/
def RLW (U S : sS) : Prop := RVO U S ∧ WHC U ∧ RCT U S ∧ KND U S ∧ RTY U S ∧ RAJ U S ∧ RRE U S ∧ RBT U S ∧ RVA U S ∧ ROB U S ∧ ACY U ∧ RAQ U S ∧ RPR U S ∧ RWY U S ∧ RSB U S
/-- the cells of the class, and of the reference, that this speaks of -/
def cUk : List (Nat × Nat) := [(2, 12), (13, 20), (21, 24), (25, 65), (66, 106), (107, 147), (148, 188), (189, 195), (196, 220), (221, 245), (245, 246), (902, 904)]
def cUf : List (Nat × Nat) := [(1, 3), (20, 1), (20, 12), (891, 10)]
def cSk : List (Nat × Nat) := [(906, 907), (912, 923), (924, 946)]
def cSf : List (Nat × Nat) := [(904, 15), (904, 16), (904, 18), (904, 19), (904, 23), (904, 30), (904, 32), (904, 41), (904, 47), (904, 49), (904, 51), (904, 60)]
theorem RLW.k {U U1 S S1 : sS} (h : RLW U S) (t3 : TX3 U) (a : KEP cUk cUf U U1) (b : KEP cSk cSf S S1) : RLW U1 S1 := by
  obtain ⟨h1, h2, h3, h4, h5, h6, h7, h8, h9, h10, h11, h12, h13, h14, h15⟩ := h
  have c : ∀ j, Xi U1 5 j = Xi U 5 j := a.x 5 rfl
  have d : ∀ j, Xi U 5 j ≤ Xi U1 5 j := fun j => by rw [c]; exact Int.le_refl _
  exact ⟨h1.k (a.le rfl (by decide)) (b.le rfl (by decide)), h2.k (a.le rfl (by decide)), h3.k (a.le rfl (by decide)) (b.le rfl (by decide)), h4.k (c 0) (a.le rfl (by decide)) (b.le rfl (by decide)), h5.k (c 0) (c 4) (c 5) (d 1) (a.le rfl (by decide)) (b.le rfl (by decide)), h6.k (c 3) (d 0) (a.le rfl (by decide)) (b.le rfl (by decide)), h7.k (c 6) (d 0) (a.le rfl (by decide)) (b.le rfl (by decide)), h8.k (d 2) (a.le rfl (by decide)) (b.le rfl (by decide)), h9.k (c 7) (c 8) (d 6) (d 0) (a.le rfl (by decide)) (b.le rfl (by decide)), h10.k (c 2) (d 0) (a.le rfl (by decide)) (b.le rfl (by decide)), h11.k (c 2) (a.le rfl (by decide)), h12.k h3 (c 2) (c 0) (a.le rfl (by decide)) (b.le rfl (by decide)), h13.k h3 t3 (c 2) (c 0) (d 5) (a.le rfl (by decide)) (b.le rfl (by decide)) (fun p _ => b.x 928 rfl p), h14.k h3 (d 2) (a.le rfl (by decide)) (b.le rfl (by decide)), h15.k (d 2) (a.le rfl (by decide)) (b.le rfl (by decide))⟩
end
section
/-! class and reference: the words grow alike -/
def NOE (U : sS) (a b c : Int) : Prop := ∀ j : Nat, (j : Int) < Xi U 1 3 → ¬ mtC U a b c j
theorem noe_mn {U : sS} {a b c : Int} (hC : CEN U) : NOE U a b c ↔ mnF U a b c = -1 :=
  ⟨fun h => msc_n _ _ (fun j _ q => h j (by omega)), fun h j hj => msc_ne hC (Xi U 1 3).toNat 0 (by omega) h j (by omega) (by omega)⟩
/-- an entry that is the last one -/
theorem nmi_new {U U1 : sS} {i : Nat} {so wh a b c : Int} (t : NMI U U1 i so wh a b c) (fr : ∀ j : Nat, (j : Int) < Xi U 1 3 → Xi U 3 j = so → Xi U 4 j ≠ wh) : Xi U1 1 3 = Xi U 1 3 + 1 ∧ (i : Int) = Xi U 1 3 := by
  rcases t.2.2 with ⟨_, q1, q2, q3⟩ | ⟨q1, q2, _⟩
  · exact absurd q3 (fr i q1 q2)
  · exact ⟨q1, q2⟩
theorem mt_k {U U1 : sS} {a b c : Int} {j : Nat} (h : ∀ t, t < 3 → Xj U1 2 (3 * j + t) = Xj U 2 (3 * j + t)) : mtC U1 a b c j ↔ mtC U a b c j := by
  unfold mtC
  have e0 := h 0 (by omega)
  rw [Nat.add_zero] at e0
  rw [e0, h 1 (by omega), h 2 (by omega)]
theorem noe_add {U U1 : sS} {i : Nat} {so wh a b c x y z : Int} (t : NMI U U1 i so wh a b c) (fr : ∀ j : Nat, (j : Int) < Xi U 1 3 → Xi U 3 j = so → Xi U 4 j ≠ wh) (h : NOE U x y z) (d : ¬ (a = x ∧ b = y ∧ c = z)) : NOE U1 x y z := fun j hj m => by
  obtain ⟨e1, e2⟩ := nmi_new t fr
  by_cases q : j = i
  · subst q
    obtain ⟨_, _, o3, o4, o5⟩ := t.1
    exact d ⟨o3.symm.trans m.1, o4.symm.trans m.2.1, o5.symm.trans m.2.2⟩
  · exact h j (by omega) ((mt_k (t.2.1 j q).2.2).1 m)
/-- what the reference's entry N holds -/
def ENR (S1 : sS) (N : Nat) (rs ix a b c n g : Int) : Prop := Xi S1 914 N = rs ∧ Xi S1 915 N = ix ∧ Xi S1 912 N = n ∧ Xi S1 916 N = g ∧ Xj S1 913 (3 * N) = a ∧ Xj S1 913 (3 * N + 1) = b ∧ Xj S1 913 (3 * N + 2) = c
def KRN (S S1 : sS) (N : Nat) : Prop := ∀ j : Nat, j ≠ N → Xi S1 914 j = Xi S 914 j ∧ Xi S1 915 j = Xi S 915 j ∧ Xi S1 912 j = Xi S 912 j ∧ Xi S1 916 j = Xi S 916 j ∧ ∀ t, t < 3 → Xj S1 913 (3 * j + t) = Xj S 913 (3 * j + t)
/-- n words of the class, of the reference; g: the last one has thirteen letters -/
def WDS (w0 w1 w2 x y z n g : Int) : Prop := (1 ≤ n ∧ n ≤ 3) ∧ (0 < w0 ∧ 0 ≤ w1 ∧ 0 ≤ w2) ∧ (cd7 w0 ∧ cd7 w1 ∧ cd7 w2) ∧ (1 < n ↔ 0 < w1) ∧ (2 < n ↔ 0 < w2) ∧ (g = 0 → x = cv w0 ∧ (1 < n → y = cv w1) ∧ (2 < n → z = cv w2)) ∧ (g ≠ 0 → (n = 1 → 150094635296999121 ≤ w0) ∧ (n = 2 → 150094635296999121 ≤ w1) ∧ (n = 3 → 150094635296999121 ≤ w2))
/-- thirteen letters: the words without the s -/
def WLW (w0 w1 w2 x y z n : Int) : Prop := (n = 1 → w0 % 27 = 19 ∧ x = cv (w0 / 27)) ∧ (n = 2 → w1 % 27 = 19 ∧ x = cv w0 ∧ y = cv (w1 / 27) ∧ w0 < 150094635296999121) ∧ (n = 3 → w2 % 27 = 19 ∧ x = cv w0 ∧ y = cv w1 ∧ z = cv (w2 / 27) ∧ w0 < 150094635296999121 ∧ w1 < 150094635296999121)
def LNGW (rs w0 w1 w2 x y z n : Int) : Prop := rs = 10 ∨ ((rs = 1 ∨ rs = 3) ∧ WLW w0 w1 w2 x y z n)
/-- thirteen letters: the same without the s was there before -/
def LWN (U : sS) (w0 w1 w2 : Int) : Prop := ∀ w x y : Int, 5559060566555523 ≤ w → (w0 = w * 27 + 19 → w1 = 0 → w2 = 0 → LWE U w 0 0) ∧ (w0 = x → w1 = w * 27 + 19 → w2 = 0 → LWE U x w 0) ∧ (w0 = x → w1 = y → w2 = w * 27 + 19 → LWE U x y w)
theorem lwe_k {U U1 : sS} {N : Nat} {a b c : Int} (hN : (N : Int) = Xi U 1 3) (cU : Xi U1 1 3 = Xi U 1 3 + 1) (k : ∀ j : Nat, j ≠ N → Xi U1 3 j = Xi U 3 j ∧ Xi U1 4 j = Xi U 4 j ∧ ∀ t, t < 3 → Xj U1 2 (3 * j + t) = Xj U 2 (3 * j + t)) (h : LWE U a b c) : LWE U1 a b c := by
  obtain ⟨j, a1, a2, a3⟩ := h
  have q : j ≠ N := by omega
  exact ⟨j, by omega, (mt_k (k j q).2.2).2 a2, by rw [(k j q).1]; exact a3⟩
theorem rvo_add {U U1 S S1 : sS} {i : Nat} {so wh w0 w1 w2 rs x y z n g : Int} (h : RVO U S) (t : NMI U U1 i so wh w0 w1 w2) (fr : ∀ j : Nat, (j : Int) < Xi U 1 3 → Xi U 3 j = so → Xi U 4 j ≠ wh) (e : ENR S1 i rs wh x y z n g) (k : (i : Int) = Xi S 904 15 → KRN S S1 i) (c : Xi S1 904 15 = Xi S 904 15 + 1) (hs : so = sg7 rs) (hr : 0 ≤ rs ∧ rs ≤ 12) (hw : 0 ≤ wh ∧ wh ≤ 63) (ws : WDS w0 w1 w2 x y z n g) (no : NOE U w0 w1 w2) (lw : LWN U w0 w1 w2) (lg : (g ≠ 0 → LNGW rs w0 w1 w2 x y z n) ∧ (g = 0 → w0 < 150094635296999121 ∧ w1 < 150094635296999121 ∧ w2 < 150094635296999121)) : RVO U1 S1 ∧ Xi U1 1 3 = Xi U 1 3 + 1 ∧ (i : Int) = Xi U 1 3 := by
  obtain ⟨hv, us, hC, hx, l3⟩ := h
  obtain ⟨c1, c2⟩ := nmi_new t fr
  have e15 := hv.1.1
  have kS := k (by omega)
  obtain ⟨o1, o2, o3, o4, o5⟩ := t.1
  obtain ⟨m1, m2, m3, m4, m5, m6, m7⟩ := e
  obtain ⟨s1, s2, s3, s4, s5, s6, s7⟩ := ws
  have us7 := (ug_sg hr).2
  have wj : ∀ (P : Nat → Int → Prop), P 0 w0 → P 1 w1 → P 2 w2 → ∀ j : Nat, j < 3 → P j (Xj U1 2 (3 * i + j)) := fun P p0 p1 p2 j hj => by
    have d : j = 0 ∨ j = 1 ∨ j = 2 := by omega
    rcases d with d | d | d <;> subst d
    · rw [Nat.add_zero, o3]; exact p0
    · rw [o4]; exact p1
    · rw [o5]; exact p2
  have we : WE U1 S1 i i := by
    refine ⟨by rw [m1, o1, hs], by rw [m2, o2], by rw [m3]; exact s1, ?_, ?_, ?_⟩
    · rw [m3]
      refine wj (fun j v => cd7 v ∧ ((j : Int) < n → 0 < v) ∧ (n ≤ (j : Int) → v = 0)) ⟨s3.1, fun _ => s2.1, fun q => by omega⟩ ⟨s3.2.1, fun q => s4.1 (by omega), fun q => ?_⟩ ⟨s3.2.2, fun q => s5.1 (by omega), fun q => ?_⟩
      · have := s4.2; omega
      · have := s5.2; omega
    · rw [m4, m3]
      intro q
      obtain ⟨q0, q1, q2⟩ := s6 q
      have w := wj (fun j v => (j : Int) < n → Xj S1 913 (3 * i + j) = cv v) (fun _ => by rw [Nat.add_zero, m5]; exact q0) (fun r => by rw [m6]; exact q1 (by omega)) (fun r => by rw [m7]; exact q2 (by omega))
      exact fun j hj => w j (by omega) hj
    · rw [m4, m3, m1]
      refine ⟨fun q => ?_, fun q => wj (fun _ v => v < 150094635296999121) (lg.2 q).1 (lg.2 q).2.1 (lg.2 q).2.2⟩
      obtain ⟨q0, q1, q2⟩ := s7 q
      have d : n = 1 ∨ n = 2 ∨ n = 3 := by omega
      have L := lg.1 q
      rcases d with d | d | d <;> subst d
      · refine ⟨by show _ ≤ Xj U1 2 (3 * i + 0); rw [Nat.add_zero, o3]; exact q0 rfl, ?_⟩
        rcases L with L | ⟨L0, L⟩
        · exact Or.inl L
        · right
          obtain ⟨l1, l2⟩ := L.1 rfl
          refine ⟨L0, by show Xj U1 2 (3 * i + 0) % 27 = 19; rw [Nat.add_zero, o3]; exact l1, fun j hj => ?_⟩
          have j0 : j = 0 := by omega
          subst j0
          rw [if_pos (by omega), Nat.add_zero, m5, o3]; exact ⟨l2, fun c => absurd c (by omega)⟩
      · refine ⟨by show _ ≤ Xj U1 2 (3 * i + 1); rw [o4]; exact q1 rfl, ?_⟩
        rcases L with L | ⟨L0, L⟩
        · exact Or.inl L
        · right
          obtain ⟨l1, l2, l3, l5⟩ := L.2.1 rfl
          refine ⟨L0, by show Xj U1 2 (3 * i + 1) % 27 = 19; rw [o4]; exact l1, fun j hj => ?_⟩
          have j0 : j = 0 ∨ j = 1 := by omega
          rcases j0 with j0 | j0 <;> subst j0
          · rw [if_neg (by omega), Nat.add_zero, m5, o3]; exact ⟨l2, fun _ => l5⟩
          · rw [if_pos (by omega), m6, o4]; exact ⟨l3, fun c => absurd c (by omega)⟩
      · refine ⟨by show _ ≤ Xj U1 2 (3 * i + 2); rw [o5]; exact q2 rfl, ?_⟩
        rcases L with L | ⟨L0, L⟩
        · exact Or.inl L
        · right
          obtain ⟨l1, l2, l3, l4, l5, l6⟩ := L.2.2 rfl
          refine ⟨L0, by show Xj U1 2 (3 * i + 2) % 27 = 19; rw [o5]; exact l1, fun j hj => ?_⟩
          have j0 : j = 0 ∨ j = 1 ∨ j = 2 := by omega
          rcases j0 with j0 | j0 | j0 <;> subst j0
          · rw [if_neg (by omega), Nat.add_zero, m5, o3]; exact ⟨l2, fun _ => l5⟩
          · rw [if_neg (by omega), m6, o4]; exact ⟨l3, fun _ => l6⟩
          · rw [if_pos (by omega), m7, o5]; exact ⟨l4, fun c => absurd c (by omega)⟩
  refine ⟨⟨voc_add hv c2 c1 c t.2.1 kS we (fun j hj a => no j (by omega) ⟨by have u := a 0 (by omega); rw [Nat.add_zero, Nat.add_zero] at u; rw [u]; exact o3, by rw [a 1 (by omega)]; exact o4, by rw [a 2 (by omega)]; exact o5⟩), usw_add us c2 c1 (fun j q => ⟨(t.2.1 j q).1, (t.2.1 j q).2.1⟩) (fun j hj a => by rw [o2]; exact fr j hj (by rw [a, o1])), fun j hj => ?_, fun j hj => ?_, fun j hj w x y h27 => ?_⟩, c1, c2⟩
  · by_cases q : j = i
    · subst q; rw [o1, o2]; omega
    · rw [(t.2.1 j q).1, (t.2.1 j q).2.1]; exact hC j (by omega)
  · by_cases q : j = i
    · subst q; rw [m1, m2]; omega
    · rw [(kS j q).1, (kS j q).2.1]; exact hx j (by omega)
  · by_cases q : j = i
    · subst q
      obtain ⟨l1, l2, l4⟩ := lw w x y h27
      exact ⟨fun m => lwe_k c2 c1 t.2.1 (l1 (o3.symm.trans m.1) (o4.symm.trans m.2.1) (o5.symm.trans m.2.2)), fun m => lwe_k c2 c1 t.2.1 (l2 (o3.symm.trans m.1) (o4.symm.trans m.2.1) (o5.symm.trans m.2.2)), fun m => lwe_k c2 c1 t.2.1 (l4 (o3.symm.trans m.1) (o4.symm.trans m.2.1) (o5.symm.trans m.2.2))⟩
    · obtain ⟨l1, l2, l4⟩ := l3 j (by omega) w x y h27
      exact ⟨fun m => lwe_k c2 c1 t.2.1 (l1 ((mt_k (t.2.1 j q).2.2).1 m)), fun m => lwe_k c2 c1 t.2.1 (l2 ((mt_k (t.2.1 j q).2.2).1 m)), fun m => lwe_k c2 c1 t.2.1 (l4 ((mt_k (t.2.1 j q).2.2).1 m))⟩
/-- rows a to b of the class and tokens of the reference from t on are the same words -/
theorem wds_of {U S : sS} {a b t : Int} (hn : 1 ≤ b - a ∧ b - a ≤ 3) (ha : 0 ≤ a) (w : RWD U S a b t) : WDS (wRw U 879 a b 0) (wRw U 879 a b 1) (wRw U 879 a b 2) (Xj S 910 t.toNat) (if 1 < b - a then Xj S 910 (t + 1).toNat else 0) (if 2 < b - a then Xj S 910 (t + 2).toNat else 0) (b - a) 0 := by
  have w0 := w 0 (by omega) (by omega)
  rw [Int.add_zero, Int.add_zero] at w0
  have e0 : wRw U 879 a b 0 = Xj U 879 a.toNat := by unfold wRw; rw [if_pos (by omega), Int.add_zero]
  have y : ∀ j : Int, 0 ≤ j → j < b - a → wRw U 879 a b j = Xj U 879 (a + j).toNat := fun j _ h => by unfold wRw; rw [if_pos (by omega)]
  have no : ∀ j : Int, b - a ≤ j → wRw U 879 a b j = 0 := fun j h => by unfold wRw; rw [if_neg (by omega)]
  have z0 : cd7 0 := ⟨by decide, by decide⟩
  have p1 : cd7 (wRw U 879 a b 1) ∧ 0 ≤ wRw U 879 a b 1 ∧ (1 < b - a ↔ 0 < wRw U 879 a b 1) ∧ (1 < b - a → Xj S 910 (t + 1).toNat = cv (wRw U 879 a b 1)) := by
    by_cases q : 1 < b - a
    · have u := w 1 (by omega) q
      rw [y 1 (by omega) q]
      exact ⟨wd_cd u.1, by have := u.1.1; omega, ⟨fun _ => u.1.1, fun _ => q⟩, fun _ => u.2⟩
    · rw [no 1 (by omega)]
      exact ⟨z0, by decide, ⟨fun c => absurd c q, fun c => absurd c (by decide)⟩, fun c => absurd c q⟩
  have p2 : cd7 (wRw U 879 a b 2) ∧ 0 ≤ wRw U 879 a b 2 ∧ (2 < b - a ↔ 0 < wRw U 879 a b 2) ∧ (2 < b - a → Xj S 910 (t + 2).toNat = cv (wRw U 879 a b 2)) := by
    by_cases q : 2 < b - a
    · have u := w 2 (by omega) q
      rw [y 2 (by omega) q]
      exact ⟨wd_cd u.1, by have := u.1.1; omega, ⟨fun _ => u.1.1, fun _ => q⟩, fun _ => u.2⟩
    · rw [no 2 (by omega)]
      exact ⟨z0, by decide, ⟨fun c => absurd c q, fun c => absurd c (by decide)⟩, fun c => absurd c q⟩
  refine ⟨hn, ⟨by rw [e0]; exact w0.1.1, p1.2.1, p2.2.1⟩, ⟨by rw [e0]; exact wd_cd w0.1, p1.1, p2.1⟩, p1.2.2.1, p2.2.2.1, fun _ => ⟨by rw [e0]; exact w0.2, fun q => ?_, fun q => ?_⟩, fun q => absurd rfl q⟩
  · rw [if_pos q]; exact p1.2.2.2 q
  · rw [if_pos q]; exact p2.2.2.2 q
theorem wrl_lt {U S : sS} {a b t : Int} (w : RWD U S a b t) (j : Int) (h0 : 0 ≤ j) : wRw U 879 a b j < 150094635296999121 := by
  unfold wRw
  by_cases q : a + j < b
  · rw [if_pos q]; exact (w j h0 (by omega)).1.2
  · rw [if_neg q]; decide
/-- words of a sentence have twelve letters at most -/
theorem lwn_of {U S V : sS} {a b t : Int} (hn : 1 ≤ b - a ∧ b - a ≤ 3) (ha : 0 ≤ a) (w : RWD U S a b t) : LWN V (wRw U 879 a b 0) (wRw U 879 a b 1) (wRw U 879 a b 2) := by
  have lt : ∀ j : Int, 0 ≤ j → wRw U 879 a b j < 150094635296999121 := fun j h0 => by
    unfold wRw
    by_cases q : a + j < b
    · rw [if_pos q]; exact (w j h0 (by omega)).1.2
    · rw [if_neg q]; decide
  have l0 := lt 0 (by omega)
  have l1 := lt 1 (by omega)
  have l2 := lt 2 (by omega)
  intro w x y hw
  exact ⟨fun q _ _ => by omega, fun _ q _ => by omega, fun _ _ q => by omega⟩
theorem enr_tlr {S S1 : sS} {rs ix a b c n : Int} {i : Nat} (h : TLR S S1 rs ix a b c n) (e : (i : Int) = Xi S 904 15) : ENR S1 i rs ix a b c n 0 ∧ KRN S S1 i ∧ Xi S1 904 15 = Xi S 904 15 + 1 := by
  have q : (Xi S 904 15).toNat = i := by omega
  unfold TLR at h
  rw [q] at h
  exact h
theorem enr_tlx {S S1 : sS} {rs ix a b c n g : Int} {i : Nat} (h : TLX S S1 rs ix a b c n g) (e : (i : Int) = Xi S 904 15) : ENR S1 i rs ix a b c n g ∧ KRN S S1 i ∧ Xi S1 904 15 = Xi S 904 15 + 1 := by
  have q : (Xi S 904 15).toNat = i := by omega
  obtain ⟨W, h1, h2, h3, h4, h5, h6⟩ := h
  obtain ⟨⟨l1, l2, l3, l4, l5, l6, l7⟩, k, l⟩ := enr_tlr h1 e
  rw [q] at h5 h6
  refine ⟨⟨by rw [h2 914 _ (by omega)]; exact l1, by rw [h2 915 _ (by omega)]; exact l2, by rw [h2 912 _ (by omega)]; exact l3, h5, by rw [h3]; exact l5, by rw [h3]; exact l6, by rw [h3]; exact l7⟩, fun j hj => ?_, by rw [h4]; exact l⟩
  obtain ⟨k1, k2, k3, k4, k5⟩ := k j hj
  exact ⟨by rw [h2 914 _ (by omega)]; exact k1, by rw [h2 915 _ (by omega)]; exact k2, by rw [h2 912 _ (by omega)]; exact k3, by rw [h6 j hj]; exact k4, fun t ht => by rw [h3]; exact k5 t ht⟩
/-- no entry has that sort and number -/
def FRS (U : sS) (so wh : Int) : Prop := ∀ j : Nat, (j : Int) < Xi U 1 3 → Xi U 3 j = so → Xi U 4 j ≠ wh
/-- numbers of entries are below c of their sort -/
def WHG (c : Int → Int) (U : sS) : Prop := ∀ i : Nat, (i : Int) < Xi U 1 3 → Xi U 4 i < c (Xi U 3 i)
theorem whc_fr {U : sS} {so wh : Int} (h : WHC U) (e : wcU U so ≤ wh) : FRS U so wh := fun j hj q w => by
  have t := h j hj
  rw [q, w] at t
  omega
theorem frs_add {U U1 : sS} {i : Nat} {so wh so1 wh1 a b c : Int} (t : NMI U U1 i so1 wh1 a b c) (f1 : FRS U so1 wh1) (f2 : FRS U so wh) (d : ¬ (so1 = so ∧ wh1 = wh)) : FRS U1 so wh := fun j hj q w => by
  obtain ⟨c1, c2⟩ := nmi_new t f1
  by_cases e : j = i
  · subst e
    rw [t.1.1] at q
    rw [t.1.2.1] at w
    exact d ⟨q, w⟩
  · rw [(t.2.1 j e).1] at q
    rw [(t.2.1 j e).2.1] at w
    exact f2 j (by omega) q w
theorem whg_add {U U1 : sS} {i : Nat} {so wh a b e : Int} {c : Int → Int} (h : WHG c U) (t : NMI U U1 i so wh a b e) (fr : FRS U so wh) (w : wh < c so) : WHG c U1 := fun j hj => by
  obtain ⟨c1, c2⟩ := nmi_new t fr
  by_cases q : j = i
  · subst q
    rw [t.1.1, t.1.2.1]; exact w
  · rw [(t.2.1 j q).1, (t.2.1 j q).2.1]
    exact h j (by omega)
theorem whg_up {U : sS} {c d : Int → Int} (h : WHG c U) (g : ∀ s, c s ≤ d s) : WHG d U := fun j hj => by
  have t := h j hj
  have u := g (Xi U 3 j)
  omega
theorem wcU_k {U U1 : sS} (h : ∀ j : Nat, Xi U 5 j ≤ Xi U1 5 j) (s : Int) : wcU U s ≤ wcU U1 s := by
  unfold wcU
  by_cases q1 : s = 11
  · rw [if_pos q1, if_pos q1]; exact h 0
  rw [if_neg q1, if_neg q1]
  by_cases q2 : s = 12
  · rw [if_pos q2, if_pos q2]; exact h 1
  rw [if_neg q2, if_neg q2]
  by_cases q3 : s = 13
  · rw [if_pos q3, if_pos q3]; exact h 7
  rw [if_neg q3, if_neg q3]
  by_cases q4 : s = 14
  · rw [if_pos q4, if_pos q4]; exact Int.le_refl _
  rw [if_neg q4, if_neg q4]
  by_cases q5 : s = 9 ∨ s = 10
  · rw [if_pos q5, if_pos q5]; exact Int.le_refl _
  rw [if_neg q5, if_neg q5]
  exact h s.toNat
/-- the tokens of a sentence in both -/
def SCX (U S : sS) (f : Nat) : Prop := (∀ r : Nat, (r : Int) < Xi U 876 7 → TKW U S f r) ∧ Xi U 876 7 ≤ 5130
theorem scx_w {U S : sS} {f : Nat} {a b : Int} (h : SCX U S f) (k : ∀ i : Int, a ≤ i → i < b → ty7 U i = 100) : RWD U S a b (f + a) := fun j h0 h1 => by
  obtain ⟨x, y, z⟩ := ty_row (k (a + j) (by omega) (by omega))
  have u := (h.1 (a + j).toNat (by omega)).2.2.1 z
  rw [show ((f : Int) + a + j).toNat = f + (a + j).toNat by omega]
  exact u
theorem scx_s {U S : sS} {f : Nat} (h : SCX U S f) (v : RVO U S) : SRL U S f := srl_of v.1 h.1 h.2
/-- a run's words, told to both; words of the sentence (U0, S0) -/
theorem rvo_run {U0 S0 U U1 S S1 : sS} {f i : Nat} {r a b so rs wh : Int} (h : RVO U S) (sc : SCX U0 S0 f) (k : RNR U0 S0 f r a b) (n3 : b - a ≤ 3) (t : NMI U U1 i so wh (wRw U0 879 a b 0) (wRw U0 879 a b 1) (wRw U0 879 a b 2)) (tl : TLW S S1 S0 rs wh r) (fr : FRS U so wh) (hs : so = sg7 rs) (hr : 0 ≤ rs ∧ rs ≤ 12) (hw : 0 ≤ wh ∧ wh ≤ 63) (no : NOE U (wRw U0 879 a b 0) (wRw U0 879 a b 1) (wRw U0 879 a b 2)) : RVO U1 S1 ∧ Xi U1 1 3 = Xi U 1 3 + 1 ∧ (i : Int) = Xi U 1 3 := by
  have w := scx_w sc k.2.2.2.2.2
  have hn : 1 ≤ b - a ∧ b - a ≤ 3 := by have := k.2.1; omega
  have c2 := (nmi_new t fr).2
  have e15 := h.1.1.1
  unfold TLW at tl
  rw [k.2.2.2.1, k.2.2.2.2.1] at tl
  obtain ⟨e, kr, c⟩ := enr_tlr tl (by omega : (i : Int) = Xi S 904 15)
  exact rvo_add h t fr e (fun _ => kr) c hs hr hw (wds_of hn k.1 w) no (lwn_of hn k.1 w) ⟨fun q => absurd rfl q, fun _ => ⟨wrl_lt w 0 (by omega), wrl_lt w 1 (by omega), wrl_lt w 2 (by omega)⟩⟩
theorem RVO.s {U U1 S S1 : sS} (h : RVO U S) (a : SMV U U1) (b : SMR S S1) : RVO U1 S1 := by
  obtain ⟨a1, a2, a3, a4, _⟩ := a
  have b2 : ∀ j, Xi S1 912 j = Xi S 912 j := fun j => b.2.1 912 j (by omega)
  have b4 : ∀ j, Xi S1 914 j = Xi S 914 j := fun j => b.2.1 914 j (by omega)
  have b5 : ∀ j, Xi S1 915 j = Xi S 915 j := fun j => b.2.1 915 j (by omega)
  have b6 : ∀ j, Xi S1 916 j = Xi S 916 j := fun j => b.2.1 916 j (by omega)
  have b3 := b.2.2.2
  have b1 := b.1
  unfold RVO VOC WE UNW USW CEN LXR LW3 LWE mtC
  simp only [a1, a2, a3, a4, b1, b2, b3, b4, b5, b6]
  exact h
/-- words that are alike are the same rows' words -/
theorem al_wd {U S : sS} {a b c d t u : Int} (hn : 1 ≤ b - a ∧ b - a ≤ 3) (hm : 1 ≤ d - c ∧ d - c ≤ 3) (ha : 0 ≤ a) (hc : 0 ≤ c) (w : RWD U S a b t) (v : RWD U S c d u) (e0 : wRw U 879 a b 0 = wRw U 879 c d 0) (e1 : wRw U 879 a b 1 = wRw U 879 c d 1) (e2 : wRw U 879 a b 2 = wRw U 879 c d 2) : alC U a b c d := by
  have p := wds_of hn ha w
  have q := wds_of hm hc v
  obtain ⟨_, _, _, p4, p5, _⟩ := p
  obtain ⟨_, _, _, q4, q5, _⟩ := q
  rw [e1] at p4
  rw [e2] at p5
  have l : b - a = d - c := by omega
  have y : ∀ (s t j : Int), j < t - s → wRw U 879 s t j = Xj U 879 (s + j).toNat := fun s t j h => by unfold wRw; rw [if_pos (by omega)]
  refine ⟨l, fun j hj => ?_⟩
  have z : (j : Int) = 0 ∨ (j : Int) = 1 ∨ (j : Int) = 2 := by omega
  rcases z with z | z | z
  · rw [z, ← y a b 0 (by omega), ← y c d 0 (by omega)]; exact e0
  · rw [z, ← y a b 1 (by omega), ← y c d 1 (by omega)]; exact e1
  · rw [z, ← y a b 2 (by omega), ← y c d 2 (by omega)]; exact e2
theorem noe_run {U S : sS} {f : Nat} {r a b : Int} (hC : CEN U) (h0 : 0 ≤ Xi U 1 3) (k : RNR U S f r a b) (hr : Xi U 876 7 ≤ 5130) (n3 : b - a ≤ 3) (h : mnV U a b = -1) : NOE U (wRw U 879 a b 0) (wRw U 879 a b 1) (wRw U 879 a b 2) :=
  new_ne hC h0 ⟨k.1, by have := k.2.2.1; omega⟩ ⟨by have := k.2.1; omega, n3⟩ h
/-- names of a LIST, told to both -/
theorem rvo_list {U S : sS} {f N : Nat} {F so rs c : Int} (h : RVO U S) (sc : SCX U S f) (l : LRN U S f F N) (ok : ∀ i : Nat, i < N → NWL U i) (fr : ∀ w, c ≤ w → FRS U so w) (hs : so = sg7 rs) (hr : 0 ≤ rs ∧ rs ≤ 12) (hc : 0 ≤ c ∧ c + N ≤ 64) : ∀ (n : Nat) (V V1 : sS), n ≤ N → TNL U so c n V → TLL S rs c F n V1 → RVO V V1 ∧ (∀ w, c + n ≤ w → FRS V so w) ∧ (∀ s w, s ≠ so → FRS U s w → FRS V s w) ∧ (∀ x y z, NOE U x y z → (∀ i : Nat, i < n → ¬ (wRw U 879 (kr7 (ty7 U) i) (re7 (ty7 U) (kr7 (ty7 U) i)) 0 = x ∧ wRw U 879 (kr7 (ty7 U) i) (re7 (ty7 U) (kr7 (ty7 U) i)) 1 = y ∧ wRw U 879 (kr7 (ty7 U) i) (re7 (ty7 U) (kr7 (ty7 U) i)) 2 = z)) → NOE V x y z) ∧ Xi V 1 3 = Xi U 1 3 + n ∧ (∀ d : Int → Int, WHG d U → (∀ i : Nat, i < n → c + i < d so) → WHG d V) ∧ (∀ i : Nat, i < n → ∃ j : Nat, (j : Int) < Xi V 1 3 ∧ mtC V (wRw U 879 (kr7 (ty7 U) i) (re7 (ty7 U) (kr7 (ty7 U) i)) 0) (wRw U 879 (kr7 (ty7 U) i) (re7 (ty7 U) (kr7 (ty7 U) i)) 1) (wRw U 879 (kr7 (ty7 U) i) (re7 (ty7 U) (kr7 (ty7 U) i)) 2) j ∧ Xi V 3 j = so)
  | 0, V, V1, _, t, u => by
    have t0 : SMV U V := t
    have u0 : SMR S V1 := u
    have fk : ∀ s w, FRS U s w → FRS V s w := fun s w q j hj e => by
      rw [t0.1] at hj
      rw [t0.2.2.1] at e
      rw [t0.2.2.2.1]
      exact q j hj e
    refine ⟨h.s t0 u0, fun w hw => fk so w (fr w (by omega)), fun s w _ q => fk s w q, fun x y z q _ j hj m => ?_, by rw [t0.1]; omega, fun d q _ j hj => ?_, fun i hi => absurd hi (by omega)⟩
    · rw [t0.1] at hj
      exact q j hj ((mt_k (fun a _ => t0.2.1 _)).1 m)
    · rw [t0.1] at hj
      rw [t0.2.2.1, t0.2.2.2.1]
      exact q j hj
  | n + 1, V, V1, hn, t, u => by
    obtain ⟨W, i, t1, t2⟩ := t
    obtain ⟨W1, u1, u2⟩ := u
    obtain ⟨r1, r2, r2b, r3, r4, r5, r6⟩ := rvo_list h sc l ok fr hs hr hc n W W1 (by omega) t1 u1
    have k := l n (by omega)
    have nw := ok n (by omega)
    have f1 : FRS W so (c + n) := r2 _ (Int.le_refl _)
    have hC := h.2.2.1
    have h0 := h.1.1.2
    have no := noe_run hC h0 k sc.2 nw.2.1 nw.1
    have df : ∀ j : Nat, j < n → ¬ (wRw U 879 (kr7 (ty7 U) j) (re7 (ty7 U) (kr7 (ty7 U) j)) 0 = wRw U 879 (kr7 (ty7 U) n) (re7 (ty7 U) (kr7 (ty7 U) n)) 0 ∧ wRw U 879 (kr7 (ty7 U) j) (re7 (ty7 U) (kr7 (ty7 U) j)) 1 = wRw U 879 (kr7 (ty7 U) n) (re7 (ty7 U) (kr7 (ty7 U) n)) 1 ∧ wRw U 879 (kr7 (ty7 U) j) (re7 (ty7 U) (kr7 (ty7 U) j)) 2 = wRw U 879 (kr7 (ty7 U) n) (re7 (ty7 U) (kr7 (ty7 U) n)) 2) := fun j hj e => by
      have kj := l j (by omega)
      exact nw.2.2 j hj (al_wd ⟨by have := kj.2.1; omega, (ok j (by omega)).2.1⟩ ⟨by have := k.2.1; omega, nw.2.1⟩ kj.1 k.1 (scx_w sc kj.2.2.2.2.2) (scx_w sc k.2.2.2.2.2) e.1 e.2.1 e.2.2)
    obtain ⟨g1, g2, g3⟩ := rvo_run r1 sc k nw.2.1 t2 u2 f1 hs hr (by omega) (r3 _ _ _ no df)
    refine ⟨g1, fun w hw => frs_add t2 f1 (r2 w (by omega)) (fun e => by omega), fun s w q v => frs_add t2 f1 (r2b s w q v) (fun e => q e.1.symm), fun x y z q d => ?_, by omega, fun d q v => whg_add (r5 d q (fun j hj => v j (by omega))) t2 f1 (v n (by omega)), fun j hj => ?_⟩
    · exact noe_add t2 f1 (r3 x y z q (fun j hj => d j (by omega))) (d n (by omega))
    · by_cases e : j = n
      · subst e
        exact ⟨i, by omega, ⟨t2.1.2.2.1, t2.1.2.2.2.1, t2.1.2.2.2.2⟩, t2.1.1⟩
      · obtain ⟨m, m1, m2, m3⟩ := r6 j (by omega)
        have q : m ≠ i := by omega
        exact ⟨m, by omega, (mt_k (t2.2.1 m q).2.2).2 m2, by rw [(t2.2.1 m q).1]; exact m3⟩
end
section
/-! class and reference: a sentence, told to both -/
theorem SCX.kS {U S T : sS} {f : Nat} (h : SCX U S f) (b : KEP [(907, 911)] [] S T) : SCX U T f := ⟨fun r hr => by
  have t := h.1 r hr
  unfold TKW
  rw [b.x 907 rfl, b.x 908 rfl, b.x 909 rfl, b.j 910 rfl]
  exact t, h.2⟩
theorem RNR.kS {U S T : sS} {f : Nat} {r x y : Int} (h : RNR U S f r x y) (b : KEP [(950, 952)] [] S T) : RNR U T f r x y := by
  unfold RNR
  rw [b.x 950 rfl, b.x 951 rfl]
  exact h
theorem LRN.kS {U S T : sS} {f n : Nat} {F : Int} (h : LRN U S f F n) (b : KEP [(950, 952)] [] S T) : LRN U T f F n := fun i hi => (h i hi).kS b
/-- both tell the same fault, or go on alike -/
def STP (U1 T S1 : sS) : Prop := (Xi U1 876 8 ≠ 0 ∧ (NTB (NT3 T) (Xi U1 876 8) (Xi U1 876 9) ∨ ((NT3 T).1 = 0 ∧ NTB (NT3 S1) (Xi U1 876 8) (Xi U1 876 9)))) ∨ (Xi U1 876 8 = 0 ∧ (NT3 T).1 = 0 ∧ (NT3 S1).1 = 0 ∧ RLW U1 S1)
theorem stp_1 {U1 T S1 : sS} {z : Int} (h : SFT U1 z (NT3 T)) (zf : z = 0 → Xi U1 876 8 ≠ 0) (g : (NT3 T).1 = 0 → (NT3 S1).1 = 0 ∧ (z = 1 → RLW U1 S1)) : STP U1 T S1 := by
  rcases h with ⟨a, b⟩ | ⟨a, b, c⟩
  · exact Or.inl ⟨zf a, Or.inl b⟩
  · obtain ⟨g1, g2⟩ := g b
    exact Or.inr ⟨c, b, g1, g2 a⟩
theorem stp_2 {U1 T S1 : sS} {z : Int} (h : SF2 U1 z (NT3 T) (NT3 S1)) (zf : z = 0 → Xi U1 876 8 ≠ 0) (g : (NT3 T).1 = 0 → (NT3 S1).1 = 0 → z = 1 → RLW U1 S1) : STP U1 T S1 := by
  rcases h with ⟨x0, h⟩ | ⟨x0, h⟩
  · rcases h with ⟨a, b⟩ | ⟨a, b, c⟩
    · exact Or.inl ⟨zf a, Or.inl b⟩
    · exact absurd b x0
  · rcases h with ⟨a, b⟩ | ⟨a, b, c⟩
    · exact Or.inl ⟨zf a, Or.inr ⟨x0, b⟩⟩
    · exact Or.inr ⟨c, x0, b, g x0 b a⟩
theorem nt_k {T S1 : sS} {fs ks : List (Nat × Nat)} (b : KEP ks fs T S1) (e : (904, 106) ∈ fs) (h : (NT3 T).1 = 0) : (NT3 S1).1 = 0 := by
  show Xi S1 904 106 = 0
  rw [b.f 904 106 e]; exact h
/-- what a name of a sort means is below the count -/
theorem fnd_wc {U : sS} {s a b : Int} (hs : 0 ≤ s) (hC : CEN U) (w : WHC U) (h : fnd U s a b ≠ -1) : 0 ≤ fnd U s a b ∧ fnd U s a b < wcU U s := by
  obtain ⟨j, x, y, e⟩ := fnd_is hs hC h
  have c := hC j x
  have d := w j x
  rw [y] at d
  omega
theorem km_lt {U : sS} {a b : Int} (hC : CEN U) (w : WHC U) (h : kmC U a b ≠ -1) : 0 ≤ kmC U a b ∧ kmC U a b < Xi U 5 0 := by
  unfold kmC at h ⊢
  by_cases q : mnV U a b / 256 = 0 ∨ mnV U a b / 256 = 11
  · rw [if_pos q] at h ⊢
    rcases q with q | q
    · have t := fnd_wc (a := a) (b := b) (by omega) hC w (show fnd U 0 a b ≠ -1 by unfold fnd; rw [if_pos q]; omega)
      unfold fnd at t
      rw [if_pos q] at t
      exact t
    · have t := fnd_wc (a := a) (b := b) (by omega) hC w (show fnd U 11 a b ≠ -1 by unfold fnd; rw [if_pos q]; omega)
      unfold fnd at t
      rw [if_pos q] at t
      exact t
  · rw [if_neg q] at h; exact absurd rfl h
theorem tm_lt {U : sS} {a b : Int} (hC : CEN U) (w : WHC U) (h : tmC U a b ≠ -1) : 0 ≤ tmC U a b ∧ tmC U a b < Xi U 5 1 := by
  unfold tmC at h ⊢
  by_cases q : mnV U a b / 256 = 1 ∨ mnV U a b / 256 = 12
  · rw [if_pos q] at h ⊢
    rcases q with q | q
    · have t := fnd_wc (a := a) (b := b) (by omega) hC w (show fnd U 1 a b ≠ -1 by unfold fnd; rw [if_pos q]; omega)
      unfold fnd at t
      rw [if_pos q] at t
      exact t
    · have t := fnd_wc (a := a) (b := b) (by omega) hC w (show fnd U 12 a b ≠ -1 by unfold fnd; rw [if_pos q]; omega)
      unfold fnd at t
      rw [if_pos q] at t
      exact t
  · rw [if_neg q] at h; exact absurd rfl h
theorem wc_s {U : sS} {s : Int} (h : 0 ≤ s ∧ s ≤ 8) : wcU U s = Xi U 5 s.toNat := by
  unfold wcU
  rw [if_neg (by omega), if_neg (by omega), if_neg (by omega), if_neg (by omega), if_neg (by omega)]
theorem whg_of {U U1 : sS} (h : WHC U) (g : ∀ j : Nat, Xi U 5 j ≤ Xi U1 5 j) : WHG (wcU U1) U := whg_up (c := wcU U) h (wcU_k g)
theorem frs_s {U : sS} {s w : Int} (h : WHC U) (hs : 0 ≤ s ∧ s ≤ 8) (e : Xi U 5 s.toNat ≤ w) : FRS U s w := whc_fr h (by rw [wc_s hs]; exact e)
/-- counts grow at one place -/
theorem cnt_le {U U1 : sS} {c : Nat} {n : Int} (h : Xi U1 5 c = Xi U 5 c + n) (hn : 0 ≤ n) (k : ∀ j, j ≠ c → Xi U1 5 j = Xi U 5 j) (j : Nat) : Xi U 5 j ≤ Xi U1 5 j := by
  by_cases q : j = c
  · subst q; omega
  · rw [k j q]; exact Int.le_refl _
/-- 18, the good case -/
theorem tcan_g {U U1 : sS} {z nm e a o t : Int} (tc : TCAN U U1 z nm e a o t) (hz : z = 1) (h24 : Xi U 5 3 ≤ 24) : fnd U 0 nm e ≠ -1 ∧ nwC U a o ∧ nw1 U a o (o + 1) t ∧ Xi U 5 3 < 23 := by
  obtain ⟨t1, t2, t3, t4, t5, _⟩ := tc
  by_cases q1 : fnd U 0 nm e = -1
  · have := (t1 q1).1; omega
  by_cases q2 : nwC U a o
  · by_cases q3 : 24 ≤ Xi U 5 3
    · have := (t3 q1 q2 q3).1; omega
    by_cases q4 : nw1 U a o (o + 1) t
    · by_cases q5 : Xi U 5 3 = 23
      · have := (t5 q1 q2 q4 q5).1; omega
      · exact ⟨q1, q2, q4, by omega⟩
    · have := (t4 q1 q2 (by omega) q4).1; omega
  · have := (t2 q1 q2).1; omega
theorem st_18 {U U1 S T S1 : sS} {f : Nat} {z nm e a o t : Int} (h : RLW U S) (t3 : TX3 U) (sc : SCX U S f) (k0 : RNR U S f 0 nm e) (k1 : RNR U S f 1 a o) (k2 : RNR U S f 2 (o + 1) t) (hn : Xi U 891 9 = 0) (zf : z = 0 → Xi U1 876 8 ≠ 0) (tc : TCAN U U1 z nm e a o t) (Fc : FR md_re_tellCan__p U U1) (rc : RCAN S (NT3 T)) (Fa : FR md_mo_asked__18f S T) (rd : (NT3 T).1 = 0 → RD18 T S1 ∧ FR md_mo_does__18f T S1) : STP U1 T S1 := by
  have c := h.2.2.1
  have c3 := c.2.2.2.1
  have hx := h.1.2.2.2.1
  have h15 : 0 ≤ Xi S 904 15 := by have := h.1.1.1; omega
  refine stp_1 (can_same (scx_s sc h.1) k0 k1 k2 hx h15 hn c3.1 c3.2.2 tc rc) zf (fun x0 => ?_)
  obtain ⟨rd, Fd⟩ := rd x0
  refine ⟨nt_k (ks := []) (fs := [(904, 106)]) (Fd.kep rfl) (by decide) x0, fun hz => ?_⟩
  obtain ⟨g1, g2, g3, g4⟩ := tcan_g tc hz c3.2.2
  obtain ⟨_, _, ⟨V, i, j, n1, n2⟩, cn, ck, mc⟩ := tc.2.2.2.2.2 g1 g2 g3 g4
  have hT : RLW U T := h.k t3 KEP.rf (Fa.kep rfl)
  have sT := sc.kS (Fa.kep rfl : KEP [(907, 911)] [] S T)
  have k0 := k0.kS (Fa.kep rfl : KEP [(950, 952)] [] S T)
  have k1 := k1.kS (Fa.kep rfl : KEP [(950, 952)] [] S T)
  have k2 := k2.kS (Fa.kep rfl : KEP [(950, 952)] [] S T)
  obtain ⟨h1, h2, h3, h4, h5, h6, h7, h8, h9, h10, h11, h12, h13, h14, h15x⟩ := hT
  have c3 := h3.2.2.2.1
  obtain ⟨r0, ⟨W, l1, l2⟩, r1, r2, r3⟩ := rd
  have fk : fnd U 0 nm e = rnR T 0 0 := rn_fnd (s := 0) (scx_s sT h1) k0 h1.2.2.2.1 (by have := h1.1.1; omega) (by omega)
  have kl : 0 ≤ fnd U 0 nm e ∧ fnd U 0 nm e < Xi U 5 0 := fnd_wc (by omega) h1.2.2.1 h2 g1
  have cl := cnt_le cn (by omega) ck
  have f1 : FRS U 3 (Xi U 5 3) := frs_s h2 (by omega) (Int.le_refl _)
  have f2 : FRS V 3 (Xi U 5 3 + 1) := frs_add n1 f1 (frs_s h2 (by omega) (show Xi U 5 3 ≤ Xi U 5 3 + 1 by omega)) (by omega)
  have o1 := noe_run h1.2.2.1 h1.1.1.2 k1 sT.2 g2.2.1 g2.1
  have o2 := noe_run h1.2.2.1 h1.1.1.2 k2 sT.2 g3.2.1 g3.1
  have e3 : Xi T 904 23 = Xi U 5 3 := c3.1.symm
  rw [e3] at l1 l2 r0 r1 r2 r3
  obtain ⟨v1, v2, v3⟩ := rvo_run h1 sT k1 g2.2.1 n1 l1 f1 (by decide) (by omega) (by omega) o1
  obtain ⟨w1, w2, w3⟩ := rvo_run v1 sT k2 g3.2.1 n2 l2 f2 (by decide) (by omega) (by omega) (noe_add n1 f1 o2 (fun y => g3.2.2 (al_wd ⟨by have := k1.2.1; omega, g2.2.1⟩ ⟨by have := k2.2.1; omega, g3.2.1⟩ k1.1 k2.1 (scx_w sT k1.2.2.2.2.2) (scx_w sT k2.2.2.2.2.2) y.1 y.2.1 y.2.2)))
  have cc : ∀ j, j ≠ 3 → Xi U1 5 j = Xi U 5 j := ck
  have s5 : ∀ j, j ∈ [16, 18, 19, 30, 32, 41, 47, 49] → Xi S1 904 j = Xi T 904 j := fun j hj => (Fd.kep rfl : KEP [] [(904, 16), (904, 18), (904, 19), (904, 30), (904, 32), (904, 41), (904, 47), (904, 49)] T S1).f 904 j (by revert hj; simp)
  refine ⟨w1, ?_, ?_, h4.k (cc 0 (by omega)) (Fc.kep rfl) (Fd.kep rfl), h5.k (cc 0 (by omega)) (cc 4 (by omega)) (cc 5 (by omega)) (cl 1) (Fc.kep rfl) (Fd.kep rfl), ?_, h7.k (cc 6 (by omega)) (cl 0) (Fc.kep rfl) (Fd.kep rfl), h8.k (cl 2) (Fc.kep rfl) (Fd.kep rfl), h9.k (cc 7 (by omega)) (cc 8 (by omega)) (cl 6) (cl 0) (Fc.kep rfl) (Fd.kep rfl), h10.k (cc 2 (by omega)) (cl 0) (Fc.kep rfl) (Fd.kep rfl), h11.k (cc 2 (by omega)) (Fc.kep rfl), h12.k h3 (cc 2 (by omega)) (cc 0 (by omega)) (Fc.kep rfl) (Fd.kep rfl), h13.k h3 t3 (cc 2 (by omega)) (cc 0 (by omega)) (cl 5) (Fc.kep rfl) (Fd.kep rfl) (fun p _ => (Fd.kep rfl : KEP [(928, 929)] [] T S1).x 928 rfl p), h14.k h3 (cl 2) (Fc.kep rfl) (Fd.kep rfl), h15x.k (cl 2) (Fc.kep rfl) (Fd.kep rfl)⟩
  · have c1 : wcU U1 3 = Xi U 5 3 + 2 := by rw [wc_s (by omega)]; exact cn
    exact whg_add (whg_add (whg_of h2 cl) n1 f1 (by rw [c1]; omega)) n2 f2 (by rw [c1]; omega)
  · obtain ⟨d0, d1, d2, d3, d4, d5, d6, d7, d8⟩ := h3
    unfold RCT
    rw [cn, r0, cc 0 (by omega), cc 1 (by omega), cc 2 (by omega), cc 4 (by omega), cc 5 (by omega), cc 6 (by omega), cc 7 (by omega), cc 8 (by omega), s5 16 (by decide), s5 18 (by decide), s5 19 (by decide), s5 30 (by decide), s5 32 (by decide), s5 41 (by decide), s5 47 (by decide), s5 49 (by decide)]
    exact ⟨d0, d1, d2, by omega, d4, d5, d6, d7, d8⟩
  · intro x hxx
    rw [cn] at hxx
    rw [cn, cc 0 (by omega), (Fc.kep rfl : KEP [(13, 14)] [] U U1).x 13 rfl]
    obtain ⟨⟨m1, m2, m3, m4⟩, m5⟩ := mc
    by_cases q : x = (Xi U 5 3).toNat
    · subst q
      rw [m1, m3, r1.1, r1.2.1, r1.2.2]
      refine ⟨⟨fk, by omega, by omega⟩, ⟨rfl, by omega, by omega⟩, ⟨fun y => by omega, fun y => absurd rfl y⟩, by omega, fun y => by omega⟩
    · by_cases q2 : x = (Xi U 5 3 + 1).toNat
      · subst q2
        rw [m2, m4, r2.1, r2.2.1, r2.2.2]
        refine ⟨⟨fk, by omega, by omega⟩, ⟨rfl, by omega, by omega⟩, ⟨fun y => by omega, fun y => absurd rfl y⟩, by omega, fun y => by omega⟩
      · rw [(m5 x q q2).1, (m5 x q q2).2, (r3 x q q2).1, (r3 x q q2).2.1, (r3 x q q2).2.2]
        obtain ⟨y1, y2, y3⟩ := h6 x (by omega)
        exact ⟨y1, by omega, y3⟩
end
section
/-! class and reference: 19, 17 keep the relation -/
theorem trel_g {U U1 : sS} {z nm e a o l m x y : Int} (tc : TREL U U1 z nm e a o l m x y) (hz : z = 1) : nwC U nm e ∧ Xi U 5 6 < 6 ∧ kmC U a o ≠ -1 ∧ kmC U l m ≠ -1 := by
  obtain ⟨t1, t2, t3, t4, _⟩ := tc
  by_cases q1 : nwC U nm e
  · by_cases q2 : 6 ≤ Xi U 5 6
    · have := (t2 q1 q2).1; omega
    by_cases q3 : kmC U a o = -1
    · have := (t3 q1 (by omega) q3).1; omega
    by_cases q4 : kmC U l m = -1
    · have := (t4 q1 (by omega) q3 q4).1; omega
    exact ⟨q1, by omega, q3, q4⟩
  · have := (t1 q1).1; omega
theorem st_19 {U U1 S T S1 : sS} {f : Nat} {z nm e a o l m x y : Int} (h : RLW U S) (t3 : TX3 U) (sc : SCX U S f) (k0 : RNR U S f 0 nm e) (k1 : RNR U S f 1 a o) (k2 : RNR U S f 2 l m) (hn : Xi U 891 9 = 0) (q1 : x = 22 ↔ Xi S 904 79 ≠ 0) (q2 : y = 22 ↔ Xi S 904 80 ≠ 0) (zf : z = 0 → Xi U1 876 8 ≠ 0) (tc : TREL U U1 z nm e a o l m x y) (Fc : FR md_re_tellRelation__p U U1) (rc : RREL S (NT3 T)) (Fa : FR md_mo_asked__19f S T) (rd : (NT3 T).1 = 0 → RD19 T S1 ∧ FR md_mo_does__19f T S1) : STP U1 T S1 := by
  have c6 := h.2.2.1.2.2.2.2.2.2.1
  have hx := h.1.2.2.2.1
  have h15 : 0 ≤ Xi S 904 15 := by have := h.1.1.1; omega
  refine stp_1 (rel_same (scx_s sc h.1) k0 k1 k2 hx h15 hn c6.1 tc rc) zf (fun x0 => ?_)
  obtain ⟨rd, Fd⟩ := rd x0
  refine ⟨nt_k (ks := []) (fs := [(904, 106)]) (Fd.kep rfl) (by decide) x0, fun hz => ?_⟩
  obtain ⟨g1, g2, g3, g4⟩ := trel_g tc hz
  obtain ⟨_, _, ⟨i, n1⟩, cn, cc, rl, rk⟩ := tc.2.2.2.2 g1 g2 g3 g4
  have hT : RLW U T := h.k t3 KEP.rf (Fa.kep rfl)
  have sT := sc.kS (Fa.kep rfl : KEP [(907, 911)] [] S T)
  have bT : KEP [(950, 952)] [] S T := Fa.kep rfl
  obtain ⟨h1, h2, h3, h4, h5, h6, h7, h8, h9, h10, h11, h12, h13, h14, h15x⟩ := hT
  have hxT := h1.2.2.2.1
  have h15T : 0 ≤ Xi T 904 15 := by have := h1.1.1; omega
  have rT := scx_s sT h1
  have k0 := k0.kS bT
  have k1 := k1.kS bT
  have k2 := k2.kS bT
  have c6 := h3.2.2.2.2.2.2.1
  obtain ⟨r0, l1, r1, r3⟩ := rd
  have m1 := rn_km rT k1 hxT h15T
  have m2 := rn_km rT k2 hxT h15T
  have b1 := km_lt h1.2.2.1 h2 g3
  have b2 := km_lt h1.2.2.1 h2 g4
  have cl := cnt_le cn (by omega) cc
  have f1 : FRS U 6 (Xi U 5 6) := frs_s h2 (by omega) (Int.le_refl _)
  have e6 : Xi T 904 41 = Xi U 5 6 := c6.1.symm
  rw [e6] at l1 r0 r1 r3
  have e79 : Xi T 904 79 = Xi S 904 79 := Fa.x 904 79 rfl
  have e80 : Xi T 904 80 = Xi S 904 80 := Fa.x 904 80 rfl
  rw [e79, e80] at r1
  have w1 := rvo_run h1 sT k0 g1.2.1 n1 l1 f1 (by decide) (by omega) (by omega) (noe_run h1.2.2.1 h1.1.1.2 k0 sT.2 g1.2.1 g1.1)
  refine ⟨w1.1, ?_, ?_, h4.k (cc 0 (by omega)) (Fc.kep rfl) (Fd.kep rfl), h5.k (cc 0 (by omega)) (cc 4 (by omega)) (cc 5 (by omega)) (cl 1) (Fc.kep rfl) (Fd.kep rfl), h6.k (cc 3 (by omega)) (cl 0) (Fc.kep rfl) (Fd.kep rfl), ?_, h8.k (cl 2) (Fc.kep rfl) (Fd.kep rfl), h9.k (cc 7 (by omega)) (cc 8 (by omega)) (cl 6) (cl 0) (Fc.kep rfl) (Fd.kep rfl), h10.k (cc 2 (by omega)) (cl 0) (Fc.kep rfl) (Fd.kep rfl), h11.k (cc 2 (by omega)) (Fc.kep rfl), h12.k h3 (cc 2 (by omega)) (cc 0 (by omega)) (Fc.kep rfl) (Fd.kep rfl), h13.k h3 t3 (cc 2 (by omega)) (cc 0 (by omega)) (cl 5) (Fc.kep rfl) (Fd.kep rfl) (fun p _ => (Fd.kep rfl : KEP [(928, 929)] [] T S1).x 928 rfl p), h14.k h3 (cl 2) (Fc.kep rfl) (Fd.kep rfl), h15x.k (cl 2) (Fc.kep rfl) (Fd.kep rfl)⟩
  · have c1 : wcU U1 6 = Xi U 5 6 + 1 := by rw [wc_s (by omega)]; exact cn
    exact whg_add (whg_of h2 cl) n1 f1 (by rw [c1]; omega)
  · obtain ⟨d0, d1, d2, d3, d4, d5, d6, d7, d8⟩ := h3
    have s5 : ∀ j, j ∈ [16, 18, 19, 23, 30, 32, 47, 49] → Xi S1 904 j = Xi T 904 j := fun j hj => (Fd.kep rfl : KEP [] [(904, 16), (904, 18), (904, 19), (904, 23), (904, 30), (904, 32), (904, 47), (904, 49)] T S1).f 904 j (by revert hj; simp)
    unfold RCT
    rw [cn, r0, cc 0 (by omega), cc 1 (by omega), cc 2 (by omega), cc 3 (by omega), cc 4 (by omega), cc 5 (by omega), cc 7 (by omega), cc 8 (by omega), s5 16 (by decide), s5 18 (by decide), s5 19 (by decide), s5 23 (by decide), s5 30 (by decide), s5 32 (by decide), s5 47 (by decide), s5 49 (by decide)]
    exact ⟨d0, d1, d2, d3, d4, d5, by omega, d7, d8⟩
  · intro r hr
    rw [cn] at hr
    rw [cc 0 (by omega)]
    by_cases q : r = (Xi U 5 6).toNat
    · subst q
      rw [rl.1, rl.2.1, rl.2.2.1, rl.2.2.2, r1.1, r1.2.1, r1.2.2.1, r1.2.2.2]
      refine ⟨⟨m1, m2⟩, ⟨by omega, by omega, by omega, by omega⟩, ?_, ?_⟩
      · by_cases w : x = 22
        · rw [if_pos w]; exact ⟨fun v => absurd v (by decide), fun v => absurd v (q1.1 w)⟩
        · rw [if_neg w]; exact ⟨fun _ => Classical.byContradiction (fun v => w (q1.2 v)), fun _ => rfl⟩
      · by_cases w : y = 22
        · rw [if_pos w]; exact ⟨fun v => absurd v (by decide), fun v => absurd v (q2.1 w)⟩
        · rw [if_neg w]; exact ⟨fun _ => Classical.byContradiction (fun v => w (q2.2 v)), fun _ => rfl⟩
    · obtain ⟨y1, y2, y3, y4⟩ := rk r q
      obtain ⟨s1, s2, s3, s4⟩ := r3 r q
      rw [y1, y2, y3, y4, s1, s2, s3, s4]
      exact h7 r (by omega)
/-- a property more: TYPES of properties, what kinds have -/
theorem thas_g {U U1 : sS} {z nm e a o l t : Int} (tc : THAS U U1 z nm e a o l t) (hz : z = 1) : fnd U 0 nm e ≠ -1 ∧ tmC U a o ≠ -1 ∧ ((fnd U 5 l t ≠ -1 ∧ Xi U 9 (fnd U 5 l t).toNat = tmC U a o) ∨ (mnV U l t = -1 ∧ nwC U l t ∧ Xi U 5 5 < 12)) := by
  obtain ⟨t1, t2, t3, t4, t5, t6, _⟩ := tc
  by_cases q1 : fnd U 0 nm e = -1
  · have := (t1 q1).1; omega
  by_cases q2 : tmC U a o = -1
  · have := (t2 q1 q2).1; omega
  refine ⟨q1, q2, ?_⟩
  by_cases q3 : mnV U l t = -1
  · by_cases q4 : nwC U l t
    · by_cases q5 : 12 ≤ Xi U 5 5
      · have := (t4 q1 q2 q3 q4 q5).1; omega
      · exact Or.inr ⟨q3, q4, by omega⟩
    · have := (t3 q1 q2 q3 q4).1; omega
  · by_cases q4 : fnd U 5 l t = -1
    · have := (t5 q1 q2 q3 q4).1; omega
    · by_cases q5 : Xi U 9 (fnd U 5 l t).toNat = tmC U a o
      · exact Or.inl ⟨q4, q5⟩
      · have := (t6 q1 q2 q4 q5).1; omega
theorem khr_p {U S1 T : sS} {k p : Int} {n : Int} (h3 : ∀ k p : Nat, (k : Int) < Xi U 5 0 → p < 12 → Xi T 929 (12 * k + p) ≠ 0 → (p : Int) < Xi U 5 5) (hp : 0 ≤ p ∧ p < n) (hk : 0 ≤ k) (h12 : p < 12) (g : Xi U 5 5 ≤ n) (b : KHR T S1 k p) : ∀ j q : Nat, (j : Int) < Xi U 5 0 → q < 12 → Xi S1 929 (12 * j + q) ≠ 0 → (q : Int) < n := fun j q hj hq w => by
  by_cases e : 12 * j + q = (12 * k + p).toNat
  · omega
  · rw [b.2 _ e] at w
    have t := h3 j q hj hq w
    omega
theorem st_17 {U U1 S T S1 : sS} {f : Nat} {z nm e a o l t : Int} (h : RLW U S) (t3 : TX3 U) (sc : SCX U S f) (k0 : RNR U S f 0 nm e) (k1 : RNR U S f 1 a o) (k2 : RNR U S f 2 l t) (hn : Xi U 891 9 = 0) (zf : z = 0 → Xi U1 876 8 ≠ 0) (tc : THAS U U1 z nm e a o l t) (Fc : FR md_re_tellHas__p U U1) (rc : RHAS S (NT3 T)) (Fa : FR md_mo_asked__17f S T) (rd : (NT3 T).1 = 0 → RD17 T S1 ∧ FR md_mo_does__17f T S1) : STP U1 T S1 := by
  have c5 := h.2.2.1.2.2.2.2.2.1
  have hx := h.1.2.2.2.1
  have h15 : 0 ≤ Xi S 904 15 := by have := h.1.1.1; omega
  have sm : SMR S T := SMR_FR Fa rfl rfl
  have pl : fnd U 5 l t ≠ -1 → 0 ≤ fnd U 5 l t ∧ fnd U 5 l t < Xi U 5 5 := fun q => fnd_wc (by omega) h.1.2.2.1 h.2.1 q
  refine stp_2 (has_same (scx_s sc h.1) k0 k1 k2 hx h15 hn c5.1 (fun q => (h.2.2.2.2.1.2.1 _ (by have := pl q; omega)).1) tc rc (fun x0 => RD17_sm sm (Fa.x 904 32 rfl) ((Fa.kep rfl : KEP [(928, 930)] [] S T).x 928 rfl) ((Fa.kep rfl : KEP [(928, 930)] [] S T).x 929 rfl) (rd x0).1)) zf (fun x0 y0 hz => ?_)
  obtain ⟨rd, Fd⟩ := rd x0
  obtain ⟨g1, g2, g3⟩ := thas_g tc hz
  have hT : RLW U T := h.k t3 KEP.rf (Fa.kep rfl)
  have sT := sc.kS (Fa.kep rfl : KEP [(907, 911)] [] S T)
  have bT : KEP [(950, 952)] [] S T := Fa.kep rfl
  obtain ⟨h1, h2, h3, h4, h5, h6, h7, h8, h9, h10, h11, h12, h13, h14, h15x⟩ := hT
  have hxT := h1.2.2.2.1
  have h15T : 0 ≤ Xi T 904 15 := by have := h1.1.1; omega
  have rT := scx_s sT h1
  have k0 := k0.kS bT
  have k1 := k1.kS bT
  have k2 := k2.kS bT
  have c5 := h3.2.2.2.2.2.1
  have fk : fnd U 0 nm e = rnR T 0 0 := rn_fnd (s := 0) rT k0 hxT h15T (by omega)
  have kl : 0 ≤ fnd U 0 nm e ∧ fnd U 0 nm e < Xi U 5 0 := fnd_wc (by omega) h1.2.2.1 h2 g1
  have pk : fnd U 5 l t = rnR T 2 7 := rn_fnd (s := 7) rT k2 hxT h15T (by omega)
  have tk := rn_tm rT k1 hxT h15T
  have tb := tm_lt h1.2.2.1 h2 g2
  rcases g3 with ⟨g3, g4⟩ | ⟨g3, g4, g5⟩
  · obtain ⟨_, _, sv, cx, c9, kh⟩ := tc.2.2.2.2.2.2.1 g1 g2 g3 g4
    have pl := pl g3
    have ty := h5.2.1 (fnd U 5 l t).toNat (by omega)
    obtain ⟨_, sm2, r0, r8, kr⟩ := rd.2.2 (by rw [← pk]; exact g3) (by rw [← pk, ← tk, ← ty.1]; exact g4)
    rw [← fk, ← pk] at kr
    have cc : ∀ j, j ≠ 99 → Xi U1 5 j = Xi U 5 j := fun j _ => cx j
    have cl : ∀ j, Xi U 5 j ≤ Xi U1 5 j := fun j => by rw [cx]; exact Int.le_refl _
    have r16 : Xi S1 904 16 = Xi T 904 16 := Fd.x 904 16 rfl
    have e5 : ∀ j, j ∈ [16, 18, 19, 23, 30, 41, 47, 49] → Xi S1 904 j = Xi T 904 j := fun j hj => (Fd.kep rfl : KEP [] [(904, 16), (904, 18), (904, 19), (904, 23), (904, 30), (904, 41), (904, 47), (904, 49)] T S1).f 904 j (by revert hj; simp)
    refine ⟨h1.s sv sm2, ?_, ?_, knd_has h4 kl (by omega) kh kr (cx 0) r16 ((Fc.kep rfl : KEP [(6, 7)] [] U U1).x 6 rfl) ((Fd.kep rfl : KEP [(917, 918)] [] T S1).x 917 rfl), ?_, h6.k (cc 3 (by omega)) (cl 0) (Fc.kep rfl) (Fd.kep rfl), h7.k (cc 6 (by omega)) (cl 0) (Fc.kep rfl) (Fd.kep rfl), h8.k (cl 2) (Fc.kep rfl) (Fd.kep rfl), h9.k (cc 7 (by omega)) (cc 8 (by omega)) (cl 6) (cl 0) (Fc.kep rfl) (Fd.kep rfl), h10.k (cc 2 (by omega)) (cl 0) (Fc.kep rfl) (Fd.kep rfl), h11.k (cc 2 (by omega)) (Fc.kep rfl), h12.k h3 (cc 2 (by omega)) (cc 0 (by omega)) (Fc.kep rfl) (Fd.kep rfl), h13.k h3 t3 (cx 2) (cx 0) (cl 5) (Fc.kep rfl) (Fd.kep rfl) (fun p _ => r8 p), h14.k h3 (cl 2) (Fc.kep rfl) (Fd.kep rfl), h15x.k (cl 2) (Fc.kep rfl) (Fd.kep rfl)⟩
    · intro j hj
      rw [sv.1] at hj
      rw [sv.2.2.1, sv.2.2.2.1]
      have u := h2 j hj
      have v := wcU_k cl (Xi U 3 j)
      omega
    · unfold RCT
      rw [r0, e5 16 (by decide), e5 18 (by decide), e5 19 (by decide), e5 23 (by decide), e5 30 (by decide), e5 41 (by decide), e5 47 (by decide), e5 49 (by decide)]
      simp only [cx]
      exact h3
    · obtain ⟨u1, u2, u3, u4⟩ := h5
      have v8 : ∀ j, Xi U1 8 j = Xi U 8 j := (Fc.kep rfl : KEP [(8, 9)] [] U U1).x 8 rfl
      have v7 : ∀ j, Xi S1 927 j = Xi T 927 j := (Fd.kep rfl : KEP [(927, 928)] [] T S1).x 927 rfl
      refine ⟨?_, ?_, ?_, ?_⟩
      · simp only [cx, v8, v7]; exact u1
      · simp only [cx, c9, r8]; exact u2
      · simp only [cx]; exact khr_p u3 pl kl.1 (by omega) (Int.le_refl _) kr
      · unfold vals; simp only [cx, valn_k v8]; exact u4
  · obtain ⟨_, _, ⟨i, n1⟩, cn, cc, ⟨n9, k9⟩, kh⟩ := tc.2.2.2.2.2.2.2 g1 g2 g3 g4 g5
    obtain ⟨_, r0, l1, ⟨r8, k8⟩, kr⟩ := rd.1 (by rw [← pk]; exact fnd_m1 (by omega) g3)
    have e5 : Xi T 904 32 = Xi U 5 5 := c5.1.symm
    rw [e5] at l1 r0 r8 k8 kr
    rw [← fk] at kr
    have cl := cnt_le cn (by omega) cc
    have f1 : FRS U 5 (Xi U 5 5) := frs_s h2 (by omega) (Int.le_refl _)
    have w1 := rvo_run h1 sT k2 g4.2.1 n1 l1 f1 (by decide) (by omega) (by omega) (noe_run h1.2.2.1 h1.1.1.2 k2 sT.2 g4.2.1 g4.1)
    have r16 : Xi S1 904 16 = Xi T 904 16 := Fd.x 904 16 rfl
    refine ⟨w1.1, ?_, ?_, knd_has h4 kl (by omega) kh kr (cc 0 (by omega)) r16 ((Fc.kep rfl : KEP [(6, 7)] [] U U1).x 6 rfl) ((Fd.kep rfl : KEP [(917, 918)] [] T S1).x 917 rfl), ?_, h6.k (cc 3 (by omega)) (cl 0) (Fc.kep rfl) (Fd.kep rfl), h7.k (cc 6 (by omega)) (cl 0) (Fc.kep rfl) (Fd.kep rfl), h8.k (cl 2) (Fc.kep rfl) (Fd.kep rfl), h9.k (cc 7 (by omega)) (cc 8 (by omega)) (cl 6) (cl 0) (Fc.kep rfl) (Fd.kep rfl), h10.k (cc 2 (by omega)) (cl 0) (Fc.kep rfl) (Fd.kep rfl), h11.k (cc 2 (by omega)) (Fc.kep rfl), h12.k h3 (cc 2 (by omega)) (cc 0 (by omega)) (Fc.kep rfl) (Fd.kep rfl), h13.k h3 t3 (cc 2 (by omega)) (cc 0 (by omega)) (cl 5) (Fc.kep rfl) (Fd.kep rfl) (fun p hp => k8 p (by omega)), h14.k h3 (cl 2) (Fc.kep rfl) (Fd.kep rfl), h15x.k (cl 2) (Fc.kep rfl) (Fd.kep rfl)⟩
    · have c1 : wcU U1 5 = Xi U 5 5 + 1 := by rw [wc_s (by omega)]; exact cn
      exact whg_add (whg_of h2 cl) n1 f1 (by rw [c1]; omega)
    · obtain ⟨d0, d1, d2, d3, d4, d5, d6, d7, d8⟩ := h3
      have s5 : ∀ j, j ∈ [16, 18, 19, 23, 30, 41, 47, 49] → Xi S1 904 j = Xi T 904 j := fun j hj => (Fd.kep rfl : KEP [] [(904, 16), (904, 18), (904, 19), (904, 23), (904, 30), (904, 41), (904, 47), (904, 49)] T S1).f 904 j (by revert hj; simp)
      unfold RCT
      rw [cn, r0, cc 0 (by omega), cc 1 (by omega), cc 2 (by omega), cc 3 (by omega), cc 4 (by omega), cc 6 (by omega), cc 7 (by omega), cc 8 (by omega), s5 16 (by decide), s5 18 (by decide), s5 19 (by decide), s5 23 (by decide), s5 30 (by decide), s5 41 (by decide), s5 47 (by decide), s5 49 (by decide)]
      exact ⟨d0, d1, d2, d3, d4, by omega, d6, d7, d8⟩
    · obtain ⟨u1, u2, u3, u4⟩ := h5
      have v8 : ∀ j, Xi U1 8 j = Xi U 8 j := (Fc.kep rfl : KEP [(8, 9)] [] U U1).x 8 rfl
      have v7 : ∀ j, Xi S1 927 j = Xi T 927 j := (Fd.kep rfl : KEP [(927, 928)] [] T S1).x 927 rfl
      refine ⟨?_, ?_, ?_, ?_⟩
      · rw [cc 4 (by omega), cc 1 (by omega)]; simp only [v8, v7]; exact u1
      · rw [cn, cc 1 (by omega)]
        intro x hx
        by_cases q : x = (Xi U 5 5).toNat
        · subst q
          rw [n9, r8]
          exact ⟨tk, tb⟩
        · rw [k9 x q, k8 x q]; exact u2 x (by omega)
      · rw [cc 0 (by omega), cn]
        exact khr_p u3 (by omega) kl.1 (by omega) (by omega) kr
      · unfold vals; rw [cc 4 (by omega)]; simp only [valn_k v8]; exact u4
end
section
/-! class and reference: 11, 7, 8 keep the relation -/
theorem lst_dec {U U1 : sS} {z c M : Int} {n : Nat} (t : TLS U U1 z c M n) (hz : z = 1) : LOK U c M n := by
  apply Classical.byContradiction
  intro q
  obtain ⟨k, k1, k2, k3⟩ := lok_n n q
  rcases k3 with v | ⟨v, g⟩
  · have := ((t k k1 k2).1 v).1; omega
  · have := ((t k k1 k2).2 v g).1; omega
theorem st_11 {U U1 S T S1 : sS} {f : Nat} {z : Int} (h : RLW U S) (t3 : TX3 U) (sc : SCX U S f) (l : LRN U S f (Xi S 904 71) (nL U)) (n72 : (Xi S 904 72).toNat = nL U) (hs : Xi S 904 70 = 11) (kw : ty7 U (Xi U 890 3 + 3) = 28 → Xi S 904 78 ≠ -1 ∧ RNR U S f (Xi S 904 78) (Xi U 890 3 + 6) (re7 (ty7 U) (Xi U 890 3 + 6))) (kn : ty7 U (Xi U 890 3 + 3) ≠ 28 → Xi S 904 78 = -1) (hn : Xi U 891 9 = 0) (zf : z = 0 → Xi U1 876 8 ≠ 0) (tc : TACT U U1 z) (Fc : FR md_re_tellActions__p U U1) (rc : RKD S (Xi S 904 71) (cK S) (mK S) (Xi S 904 72).toNat (wK S) (NT3 T)) (Fa : FR md_mo_asked__11f S T) (rd : (NT3 T).1 = 0 → RD11 T S1 ∧ FR md_mo_does__11f T S1) : STP U1 T S1 := by
  have c8 := h.2.2.1.2.2.2.2.2.2.2.2
  have hx := h.1.2.2.2.1
  have h15 : 0 ≤ Xi S 904 15 := by have := h.1.1.1; omega
  refine stp_1 (act_same (scx_s sc h.1) l hx h15 n72 hs c8.1 kw kn tc rc) zf (fun x0 => ?_)
  obtain ⟨rd, Fd⟩ := rd x0
  refine ⟨nt_k (ks := []) (fs := [(904, 106)]) (Fd.kep rfl) (by decide) x0, fun hz => ?_⟩
  have ok := lst_dec tc.1 hz
  have nk : ¬ (ty7 U (Xi U 890 3 + 3) = 28 ∧ kd11 U = -1) := fun q => by have := (tc.2.1 ok q.1 q.2).1; omega
  obtain ⟨_, _, tn, cn, cc, ar⟩ := tc.2.2 ok nk
  have hT : RLW U T := h.k t3 KEP.rf (Fa.kep rfl)
  have sT := sc.kS (Fa.kep rfl : KEP [(907, 911)] [] S T)
  have bT : KEP [(950, 952)] [] S T := Fa.kep rfl
  obtain ⟨h1, h2, h3, h4, h5, h6, h7, h8, h9, h10, h11, h12, h13, h14, h15x⟩ := hT
  have hxT := h1.2.2.2.1
  have h15T : 0 ≤ Xi T 904 15 := by have := h1.1.1; omega
  have rT := scx_s sT h1
  have l := l.kS bT
  have c8 := h3.2.2.2.2.2.2.2.2
  obtain ⟨r0, tl, ar2⟩ := rd
  have f71 : Xi T 904 71 = Xi S 904 71 := Fa.x 904 71 rfl
  have f72 : Xi T 904 72 = Xi S 904 72 := Fa.x 904 72 rfl
  have f78 : Xi T 904 78 = Xi S 904 78 := Fa.x 904 78 rfl
  have e8 : Xi T 904 49 = Xi U 5 8 := c8.1.symm
  rw [f72, n72, e8] at r0 tl ar2
  rw [f71] at tl
  have kd : kdW T = kd11 U ∧ -2 ≤ kd11 U ∧ kd11 U < Xi U 5 0 := by
    unfold kdW
    rw [f78]
    by_cases w : ty7 U (Xi U 890 3 + 3) = 28
    · obtain ⟨w1, w2⟩ := kw w
      have fk : fnd U 0 (Xi U 890 3 + 6) (re7 (ty7 U) (Xi U 890 3 + 6)) = rnR T (Xi S 904 78) 0 := rn_fnd (s := 0) rT (w2.kS bT) hxT h15T (by omega)
      have ek : kd11 U = fnd U 0 (Xi U 890 3 + 6) (re7 (ty7 U) (Xi U 890 3 + 6)) := by unfold kd11; rw [if_pos w]
      have ne : kd11 U ≠ -1 := fun q => nk ⟨w, q⟩
      have kl : 0 ≤ fnd U 0 (Xi U 890 3 + 6) (re7 (ty7 U) (Xi U 890 3 + 6)) ∧ fnd U 0 (Xi U 890 3 + 6) (re7 (ty7 U) (Xi U 890 3 + 6)) < Xi U 5 0 := fnd_wc (by omega) h1.2.2.1 h2 (by rw [← ek]; exact ne)
      rw [if_neg w1, ek, fk]
      rw [fk] at kl
      exact ⟨rfl, by omega, by omega⟩
    · have ek : kd11 U = -1 := by unfold kd11; rw [if_neg w]
      have d0 := h3.1
      rw [if_pos (kn w), ek]
      exact ⟨rfl, by omega, by omega⟩
  have nb : Xi U 5 8 + nL U ≤ 12 := by
    by_cases q : nL U = 0
    · rw [q]; omega
    · have t := (ok (nL U - 1) (by omega)).2; omega
  have cl := cnt_le cn (by omega) cc
  have lf := rvo_list h1 sT l (fun i hi => (ok i hi).1) (so := 8) (rs := 11) (c := Xi U 5 8) (fun w hw => frs_s h2 (by omega) hw) (by decide) (by omega) (by omega) (nL U) U1 S1 (Nat.le_refl _) tn tl
  refine ⟨lf.1, ?_, ?_, h4.k (cc 0 (by omega)) (Fc.kep rfl) (Fd.kep rfl), h5.k (cc 0 (by omega)) (cc 4 (by omega)) (cc 5 (by omega)) (cl 1) (Fc.kep rfl) (Fd.kep rfl), h6.k (cc 3 (by omega)) (cl 0) (Fc.kep rfl) (Fd.kep rfl), h7.k (cc 6 (by omega)) (cl 0) (Fc.kep rfl) (Fd.kep rfl), h8.k (cl 2) (Fc.kep rfl) (Fd.kep rfl), ?_, h10.k (cc 2 (by omega)) (cl 0) (Fc.kep rfl) (Fd.kep rfl), h11.k (cc 2 (by omega)) (Fc.kep rfl), h12.k h3 (cc 2 (by omega)) (cc 0 (by omega)) (Fc.kep rfl) (Fd.kep rfl), h13.k h3 t3 (cc 2 (by omega)) (cc 0 (by omega)) (cl 5) (Fc.kep rfl) (Fd.kep rfl) (fun p _ => (Fd.kep rfl : KEP [(928, 929)] [] T S1).x 928 rfl p), h14.k h3 (cl 2) (Fc.kep rfl) (Fd.kep rfl), h15x.k (cl 2) (Fc.kep rfl) (Fd.kep rfl)⟩
  · have c1 : wcU U1 8 = Xi U 5 8 + (nL U : Nat) := by rw [wc_s (by omega)]; exact cn
    exact lf.2.2.2.2.2.1 _ (whg_of h2 cl) (fun i hi => by rw [c1]; omega)
  · obtain ⟨d0, d1, d2, d3, d4, d5, d6, d7, d8⟩ := h3
    have s5 : ∀ j, j ∈ [16, 18, 19, 23, 30, 32, 41, 47] → Xi S1 904 j = Xi T 904 j := fun j hj => (Fd.kep rfl : KEP [] [(904, 16), (904, 18), (904, 19), (904, 23), (904, 30), (904, 32), (904, 41), (904, 47)] T S1).f 904 j (by revert hj; simp)
    unfold RCT
    rw [cn, r0, cc 0 (by omega), cc 1 (by omega), cc 2 (by omega), cc 3 (by omega), cc 4 (by omega), cc 5 (by omega), cc 6 (by omega), cc 7 (by omega), s5 16 (by decide), s5 18 (by decide), s5 19 (by decide), s5 23 (by decide), s5 30 (by decide), s5 32 (by decide), s5 41 (by decide), s5 47 (by decide)]
    exact ⟨d0, d1, d2, d3, d4, d5, d6, d7, by omega⟩
  · refine ⟨?_, fun x hx => ?_⟩
    · have v8 : ∀ j, Xi U1 18 j = Xi U 18 j := (Fc.kep rfl : KEP [(18, 19)] [] U U1).x 18 rfl
      have v1 : ∀ j, Xi S1 941 j = Xi T 941 j := (Fd.kep rfl : KEP [(941, 942)] [] T S1).x 941 rfl
      rw [cc 7 (by omega), cc 6 (by omega)]
      simp only [v8, v1]
      exact h9.1
    · rw [cn] at hx
      rw [cc 0 (by omega)]
      by_cases q : (x : Int) < Xi U 5 8
      · rw [ar.2 x q, ar2.2 x q]; exact h9.2 x q
      · have a1 := ar.1 (x - (Xi U 5 8).toNat) (by omega)
        have a2 := ar2.1 (x - (Xi U 5 8).toNat) (by omega)
        rw [show (Xi U 5 8 + ((x - (Xi U 5 8).toNat : Nat) : Int)).toNat = x by omega] at a1 a2
        rw [a1, a2]
        exact ⟨kd.1.symm, kd.2⟩
/-- 7, the good case -/
theorem tvb_g {U U1 : sS} {z e a t : Int} (tc : TVB U U1 z e a t) (hz : z = 1) : vbC U e ∧ nwC U 3 4 ∧ Xi U 5 7 < 8 ∧ fnd U 6 a t ≠ -1 := by
  obtain ⟨t1, t2, t3, t4, _⟩ := tc
  by_cases q1 : vbC U e
  · by_cases q2 : nwC U 3 4
    · by_cases q3 : 8 ≤ Xi U 5 7
      · have := (t3 q1 q2 q3).1; omega
      by_cases q4 : fnd U 6 a t = -1
      · have := (t4 q1 q2 (by omega) q4).1; omega
      exact ⟨q1, q2, by omega, q4⟩
    · have := (t2 q1 q2).1; omega
  · have := (t1 q1).1; omega
/-- a word with an s, told to both -/
theorem wds_s {w : Int} (hw : wdC w) : WDS (w * 27 + 19) 0 0 (lorF (lshlF (cv w) 5) 19) 0 0 1 (if lshrF (cv w) 55 = 0 then 0 else 1) := by
  have r := cv_rg hw
  have s := sr55 r.1 (by omega)
  have z0 : cd7 0 := ⟨by decide, by decide⟩
  have p13 : (27 : Int) ^ 13 = 4052555153018976267 := by decide
  refine ⟨by omega, ⟨by have := hw.1; omega, by omega, by omega⟩, ⟨⟨by have := hw.1; omega, by rw [p13]; have := hw.2; omega⟩, z0, z0⟩, by omega, by omega, fun q => ?_, fun q => ⟨fun _ => ?_, fun c => absurd c (by decide), fun c => absurd c (by decide)⟩⟩
  · by_cases g : w < 5559060566555523
    · have c := cv_sh hw g
      exact ⟨by rw [lw5 r.1 c (by omega) (by omega), cv_s hw], fun c => absurd c (by decide), fun c => absurd c (by decide)⟩
    · have c := cv_lo hw (by omega)
      rw [if_neg (by rw [s]; omega)] at q
      exact absurd q (by decide)
  · by_cases g : w < 5559060566555523
    · have c := cv_sh hw g
      rw [if_pos (by rw [s]; omega)] at q
      exact absurd rfl q
    · omega
theorem wds_b {w : Int} (hw : wdC w) (q : (if lshrF (cv w) 55 = 0 then (0 : Int) else 1) = 0) : w * 27 + 19 < 150094635296999121 := by
  have r := cv_rg hw
  have s := sr55 r.1 (by omega)
  by_cases g : w < 5559060566555523
  · omega
  · have c := cv_lo hw (by omega)
    rw [if_neg (by rw [s]; omega)] at q
    exact absurd q (by decide)
theorem st_7 {U U1 S T S1 : sS} {f : Nat} {z e a t : Int} (h : RLW U S) (t3 : TX3 U) (sc : SCX U S f) (k0 : RNR U S f 0 3 e) (k1 : RNR U S f 1 a t) (hn : Xi U 891 9 = 0) (zf : z = 0 → Xi U1 876 8 ≠ 0) (tc : TVB U U1 z e a t) (Fc : FR md_re_tellVerb__p U U1) (rc : RVB S (NT3 T)) (Fa : FR md_mo_asked__7f S T) (rd : (NT3 T).1 = 0 → RD7 T S1 ∧ FR md_mo_does__7f T S1) : STP U1 T S1 := by
  have c7 := h.2.2.1.2.2.2.2.2.2.2.1
  have hx := h.1.2.2.2.1
  have h15 : 0 ≤ Xi S 904 15 := by have := h.1.1.1; omega
  have w3 : wdC (Xj U 879 3) ∧ Xj S 910 (f + 3) = cv (Xj U 879 3) := by
    have w := scx_w sc k0.2.2.2.2.2 0 (by omega) (by have := k0.2.1; omega)
    rw [Int.add_zero, Int.add_zero, show ((f : Int) + 3).toNat = f + 3 by omega] at w
    exact w
  refine stp_1 (vb_same (scx_s sc h.1) h.1.1 h.1.2.2.1 (lw_1 h.1.2.2.2.2) k0 k1 w3 hx h15 hn c7.1 tc rc) zf (fun x0 => ?_)
  obtain ⟨rd, Fd⟩ := rd x0
  refine ⟨nt_k (ks := []) (fs := [(904, 106)]) (Fd.kep rfl) (by decide) x0, fun hz => ?_⟩
  obtain ⟨g1, g2, g3, g4⟩ := tvb_g tc hz
  obtain ⟨_, _, ⟨V, i, j, n1, n2⟩, cn, cc, v8, k8⟩ := tc.2.2.2.2 g1 g2 g3 g4
  have e4 := g1.1
  subst e4
  have hT : RLW U T := h.k t3 KEP.rf (Fa.kep rfl)
  have sT := sc.kS (Fa.kep rfl : KEP [(907, 911)] [] S T)
  have bT : KEP [(950, 952)] [] S T := Fa.kep rfl
  obtain ⟨h1, h2, h3, h4, h5, h6, h7, h8, h9, h10, h11, h12, h13, h14, h15x⟩ := hT
  have hxT := h1.2.2.2.1
  have h15T : 0 ≤ Xi T 904 15 := by have := h1.1.1; omega
  have rT := scx_s sT h1
  have k0 := k0.kS bT
  have k1 := k1.kS bT
  have c7 := h3.2.2.2.2.2.2.2.1
  obtain ⟨r0, ⟨W, l1, l2⟩, r1, r3⟩ := rd
  have e7 : Xi T 904 47 = Xi U 5 7 := c7.1.symm
  rw [e7] at l1 l2 r0 r1 r3
  have fk : fnd U 6 a t = rnR T 1 8 := rn_fnd (s := 8) rT k1 hxT h15T (by omega)
  have fl : 0 ≤ fnd U 6 a t ∧ fnd U 6 a t < Xi U 5 6 := fnd_wc (by omega) h1.2.2.1 h2 g4
  have x95 : Xi T 950 0 = f + 3 := k0.2.2.2.1
  have j91 : Xj T 910 (Xi T 950 0).toNat = cv (Xj U 879 3) := by
    rw [x95, show ((f : Int) + 3).toNat = f + 3 by omega, (Fa.kep rfl : KEP [(910, 911)] [] S T).j 910 rfl]; exact w3.2
  have cl := cnt_le cn (by omega) cc
  have f1 : FRS U 7 (Xi U 5 7) := frs_s h2 (by omega) (Int.le_refl _)
  have f2 : FRS V 13 (Xi U 5 7) := frs_add n1 f1 (whc_fr h2 (Int.le_refl _)) (by omega)
  have u0 : wRw U 879 3 4 0 = Xj U 879 3 := rfl
  have u1 : wRw U 879 3 4 1 = 0 := rfl
  have u2 : wRw U 879 3 4 2 = 0 := rfl
  have o1 := noe_run h1.2.2.1 h1.1.1.2 k0 sT.2 g2.2.1 g2.1
  have o2 : NOE U (Xj U 879 3 * 27 + 19) 0 0 := (noe_mn h1.2.2.1).2 g1.2
  have l1' : TLW T W T 9 (Xi U 5 7) 0 := by
    unfold TLW
    rw [show Xi T 951 (0 : Int).toNat = 1 from k0.2.2.2.2.1]
    exact l1
  obtain ⟨v1, v2, v3⟩ := rvo_run h1 sT k0 (by omega) n1 l1' f1 (by decide) (by omega) (by omega) o1
  have i2 := (nmi_new n2 f2).2
  have e15 := v1.1.1.1
  obtain ⟨p1, p2, p3⟩ := enr_tlx l2 (by omega : (j : Int) = Xi W 904 15)
  unfold wsR at p1
  rw [j91] at p1
  have o3 : NOE V (Xj U 879 3 * 27 + 19) 0 0 := noe_add n1 f1 o2 (fun y => by rw [u0] at y; have := w3.1.1; omega)
  have w1 := rvo_add v1 n2 f2 p1 (fun _ => p2) p3 (by decide) (by omega) (by omega) (wds_s w3.1) o3 (fun w x y hw => ⟨fun q _ _ => ⟨i, by omega, ⟨by rw [n1.1.2.2.1, u0]; omega, by rw [n1.1.2.2.2.1, u1], by rw [n1.1.2.2.2.2, u2]⟩, Or.inr (Or.inr n1.1.1)⟩, fun _ q => by omega, fun _ _ q => by omega⟩) ⟨fun _ => Or.inl rfl, fun q => ⟨wds_b w3.1 q, by decide, by decide⟩⟩
  refine ⟨w1.1, ?_, ?_, h4.k (cc 0 (by omega)) (Fc.kep rfl) (Fd.kep rfl), h5.k (cc 0 (by omega)) (cc 4 (by omega)) (cc 5 (by omega)) (cl 1) (Fc.kep rfl) (Fd.kep rfl), h6.k (cc 3 (by omega)) (cl 0) (Fc.kep rfl) (Fd.kep rfl), h7.k (cc 6 (by omega)) (cl 0) (Fc.kep rfl) (Fd.kep rfl), h8.k (cl 2) (Fc.kep rfl) (Fd.kep rfl), ?_, h10.k (cc 2 (by omega)) (cl 0) (Fc.kep rfl) (Fd.kep rfl), h11.k (cc 2 (by omega)) (Fc.kep rfl), h12.k h3 (cc 2 (by omega)) (cc 0 (by omega)) (Fc.kep rfl) (Fd.kep rfl), h13.k h3 t3 (cc 2 (by omega)) (cc 0 (by omega)) (cl 5) (Fc.kep rfl) (Fd.kep rfl) (fun p _ => (Fd.kep rfl : KEP [(928, 929)] [] T S1).x 928 rfl p), h14.k h3 (cl 2) (Fc.kep rfl) (Fd.kep rfl), h15x.k (cl 2) (Fc.kep rfl) (Fd.kep rfl)⟩
  · have c1 : wcU U1 7 = Xi U 5 7 + 1 := by rw [wc_s (by omega)]; exact cn
    have c2 : wcU U1 13 = Xi U 5 7 + 1 := cn
    exact whg_add (whg_add (whg_of h2 cl) n1 f1 (by rw [c1]; omega)) n2 f2 (by rw [c2]; omega)
  · obtain ⟨d0, d1, d2, d3, d4, d5, d6, d7, d8⟩ := h3
    have s5 : ∀ j, j ∈ [16, 18, 19, 23, 30, 32, 41, 49] → Xi S1 904 j = Xi T 904 j := fun j hj => (Fd.kep rfl : KEP [] [(904, 16), (904, 18), (904, 19), (904, 23), (904, 30), (904, 32), (904, 41), (904, 49)] T S1).f 904 j (by revert hj; simp)
    unfold RCT
    rw [cn, r0, cc 0 (by omega), cc 1 (by omega), cc 2 (by omega), cc 3 (by omega), cc 4 (by omega), cc 5 (by omega), cc 6 (by omega), cc 8 (by omega), s5 16 (by decide), s5 18 (by decide), s5 19 (by decide), s5 23 (by decide), s5 30 (by decide), s5 32 (by decide), s5 41 (by decide), s5 49 (by decide)]
    exact ⟨d0, d1, d2, d3, d4, d5, d6, by omega, d8⟩
  · refine ⟨fun x hx => ?_, ?_⟩
    · rw [cn] at hx
      rw [cc 6 (by omega)]
      by_cases q : x = (Xi U 5 7).toNat
      · subst q; rw [v8, r1]; exact ⟨fk, fl⟩
      · rw [k8 x q, r3 x q]; exact h9.1 x (by omega)
    · have y9 : ∀ j, Xi U1 19 j = Xi U 19 j := (Fc.kep rfl : KEP [(19, 20)] [] U U1).x 19 rfl
      have y2 : ∀ j, Xi S1 942 j = Xi T 942 j := (Fd.kep rfl : KEP [(942, 943)] [] T S1).x 942 rfl
      rw [cc 8 (by omega), cc 0 (by omega)]
      simp only [y9, y2]
      exact h9.2
end
section
/-! class and reference: 8 keeps the relation -/
/-- so many into so many, one to one: every one is met -/
theorem php_s {N : Nat} {f : Nat → Nat} (h1 : ∀ i, i < N → f i < N) (h2 : ∀ i j, i < N → j < N → f i = f j → i = j) (l : Nat) (hl : l < N) : ∃ i, i < N ∧ f i = l := by
  apply Classical.byContradiction
  intro c
  have d : ∀ i, i < N → f i ≠ l := fun i hi e => c ⟨i, hi, e⟩
  have t := php (N - 1) N (fun i => if l < f i then f i - 1 else f i) (fun i hi => by
    have a := h1 i hi
    have b := d i hi
    show (if l < f i then f i - 1 else f i) < N - 1
    by_cases q : l < f i
    · rw [if_pos q]; omega
    · rw [if_neg q]; omega) (fun i j hij hj e => by
    have a := d i (by omega)
    have b := d j hj
    have e : (if l < f i then f i - 1 else f i) = (if l < f j then f j - 1 else f j) := e
    have w : f i = f j := by
      by_cases q : l < f i
      · rw [if_pos q] at e
        by_cases r : l < f j
        · rw [if_pos r] at e; omega
        · rw [if_neg r] at e; omega
      · rw [if_neg q] at e
        by_cases r : l < f j
        · rw [if_pos r] at e; omega
        · rw [if_neg r] at e; exact e
    have := h2 i j (by omega) hj w
    omega)
  omega
theorem voc_us {U S : sS} (h : VOC U S) (us : USW U) : ∀ k l : Nat, (k : Int) < Xi S 904 15 → (l : Int) < Xi S 904 15 → Xi S 914 k = Xi S 914 l → Xi S 915 k = Xi S 915 l → k = l := by
  have e15 := h.1
  have ex : ∀ i : Nat, ∃ k : Nat, (i : Int) < Xi U 1 3 → (k : Int) < Xi U 1 3 ∧ WE U S i k := fun i => by
    by_cases q : (i : Int) < Xi U 1 3
    · obtain ⟨k, a, b⟩ := h.2.1 i q
      exact ⟨k, fun _ => ⟨a, b⟩⟩
    · exact ⟨0, fun c => absurd c q⟩
  have sp : ∀ i : Nat, (i : Int) < Xi U 1 3 → ((Classical.choose (ex i) : Nat) : Int) < Xi U 1 3 ∧ WE U S i (Classical.choose (ex i)) := fun i => Classical.choose_spec (ex i)
  have sj := php_s (N := (Xi U 1 3).toNat) (f := fun i => Classical.choose (ex i)) (fun i hi => by have := (sp i (by omega)).1; show Classical.choose (ex i) < _; omega) (fun i j hi hj e => by
    have a := (sp i (by omega)).2
    have b := (sp j (by omega)).2
    have e : Classical.choose (ex i) = Classical.choose (ex j) := e
    rw [e] at a
    exact us i j (by omega) (by omega) (by rw [← a.1, ← b.1]) (by rw [← a.2.1, ← b.2.1]))
  intro k l hk hl ha hb
  obtain ⟨i, i1, i2⟩ := sj k (by omega)
  obtain ⟨j, j1, j2⟩ := sj l (by omega)
  have i2 : Classical.choose (ex i) = k := i2
  have j2 : Classical.choose (ex j) = l := j2
  have a := (sp i (by omega)).2
  have b := (sp j (by omega)).2
  rw [i2] at a
  rw [j2] at b
  have e := us i j (by omega) (by omega) (by rw [← a.1, ← b.1, ha]) (by rw [← a.2.1, ← b.2.1, hb])
  rw [← i2, ← j2, e]
/-- an entry is named anew in both -/
theorem rvo_ren {U U1 S S1 : sS} {p q : Nat} {so wh w0 w1 w2 rs x y z n : Int} (h : RVO U S) (t : NMI U U1 p so wh w0 w1 w2) (o1 : Xi U1 1 3 = Xi U 1 3 ∧ (p : Int) < Xi U 1 3 ∧ Xi U 3 p = so ∧ Xi U 4 p = wh) (t2 : NMR S S1 q rs wh x y z n) (o2 : Xi S1 904 15 = Xi S 904 15 ∧ (q : Int) < Xi S 904 15 ∧ Xi S 914 q = rs ∧ Xi S 915 q = wh) (hs : so = sg7 rs) (hr : 0 ≤ rs ∧ rs ≤ 12) (hso : so = 11 ∨ so = 12) (ws : WDS w0 w1 w2 x y z n 0) (no : NOE U w0 w1 w2) (sh : w0 < 150094635296999121 ∧ w1 < 150094635296999121 ∧ w2 < 150094635296999121) : RVO U1 S1 := by
  obtain ⟨hv, us, hC, hx, l3⟩ := h
  obtain ⟨a1, a2, a3, a4⟩ := o1
  obtain ⟨b1, b2, b3, b4⟩ := o2
  have e15 := hv.1.1
  have uS := voc_us hv us
  obtain ⟨k, k1, k2⟩ := hv.2.1 p a2
  have kq : k = q := uS k q (by omega) b2 (by rw [b3]; exact sg_inj (hx k (by omega)).1 hr (by rw [k2.1, a3, hs])) (by rw [b4, k2.2.1, a4])
  subst kq
  obtain ⟨o1, o2, o3, o4, o5⟩ := t.1
  obtain ⟨m1, m2, m3, m4, m5, m6, m7⟩ := t2.1
  obtain ⟨s1, s2, s3, s4, s5, s6, _⟩ := ws
  obtain ⟨q0, q1, q2⟩ := s6 rfl
  have wj : ∀ (P : Nat → Int → Prop), P 0 w0 → P 1 w1 → P 2 w2 → ∀ j : Nat, j < 3 → P j (Xj U1 2 (3 * p + j)) := fun P p0 p1 p2 j hj => by
    have d : j = 0 ∨ j = 1 ∨ j = 2 := by omega
    rcases d with d | d | d <;> subst d
    · rw [Nat.add_zero, o3]; exact p0
    · rw [o4]; exact p1
    · rw [o5]; exact p2
  have we : WE U1 S1 p k := by
    refine ⟨by rw [m1, o1, hs], by rw [m2, o2], by rw [m3]; exact s1, ?_, ?_, fun c => absurd m4 c, fun _ => wj (fun _ v => v < 150094635296999121) sh.1 sh.2.1 sh.2.2⟩
    · rw [m3]
      refine wj (fun j v => cd7 v ∧ ((j : Int) < n → 0 < v) ∧ (n ≤ (j : Int) → v = 0)) ⟨s3.1, fun _ => s2.1, fun c => by omega⟩ ⟨s3.2.1, fun c => s4.1 (by omega), fun c => ?_⟩ ⟨s3.2.2, fun c => s5.1 (by omega), fun c => ?_⟩
      · have := s4.2; omega
      · have := s5.2; omega
    · rw [m3]
      intro _
      have w := wj (fun j v => (j : Int) < n → Xj S1 913 (3 * k + j) = cv v) (fun _ => by rw [Nat.add_zero, m5]; exact q0) (fun r => by rw [m6]; exact q1 (by omega)) (fun r => by rw [m7]; exact q2 (by omega))
      exact fun j hj => w j (by omega) hj
  have ke : ∀ j : Nat, j ≠ p → Xi U1 3 j = Xi U 3 j ∧ Xi U1 4 j = Xi U 4 j := fun j c => ⟨(t.2.1 j c).1, (t.2.1 j c).2.1⟩
  have pe : Xi U1 3 p = Xi U 3 p ∧ Xi U1 4 p = Xi U 4 p := ⟨by rw [o1, a3], by rw [o2, a4]⟩
  have al : ∀ j : Nat, Xi U1 3 j = Xi U 3 j ∧ Xi U1 4 j = Xi U 4 j := fun j => by
    by_cases c : j = p
    · subst c; exact pe
    · exact ke j c
  have lk : ∀ {a b c : Int}, LWE U a b c → LWE U1 a b c := fun g => by
    obtain ⟨j, g1, g2, g3⟩ := g
    have ne : j ≠ p := fun c => by subst c; omega
    exact ⟨j, by omega, (mt_k (t.2.1 j ne).2.2).2 g2, by rw [(al j).1]; exact g3⟩
  refine ⟨voc_ren hv us hx a2 (by omega) k2 a1 b1 t.2.1 t2.2.1 uS we (fun j hj c a => no j hj ⟨by have u := a 0 (by omega); rw [Nat.add_zero, Nat.add_zero] at u; rw [u]; exact o3, by rw [a 1 (by omega)]; exact o4, by rw [a 2 (by omega)]; exact o5⟩), fun i j hi hj c d => ?_, fun j hj => ?_, fun j hj => ?_, fun j hj w x y h27 => ?_⟩
  · rw [(al i).1, (al j).1] at c
    rw [(al i).2, (al j).2] at d
    exact us i j (by omega) (by omega) c d
  · rw [(al j).1, (al j).2]; exact hC j (by omega)
  · by_cases c : j = k
    · subst c; rw [m1, m2, ← b3, ← b4]; exact hx j (by omega)
    · rw [(t2.2.1 j c).1, (t2.2.1 j c).2.1]; exact hx j (by omega)
  · by_cases c : j = p
    · subst c
      exact ⟨fun m => by have := m.1; omega, fun m => by have := m.2.1; omega, fun m => by have := m.2.2; omega⟩
    · obtain ⟨l1, l2, l4⟩ := l3 j (by omega) w x y h27
      exact ⟨fun m => lk (l1 ((mt_k (t.2.1 j c).2.2).1 m)), fun m => lk (l2 ((mt_k (t.2.1 j c).2.2).1 m)), fun m => lk (l4 ((mt_k (t.2.1 j c).2.2).1 m))⟩
/-- words of a sentence, short -/
theorem wrw_lt {U S : sS} {a b t : Int} (w : RWD U S a b t) (j : Int) (h0 : 0 ≤ j) : wRw U 879 a b j < 150094635296999121 := by
  unfold wRw
  by_cases q : a + j < b
  · rw [if_pos q]; exact (w j h0 (by omega)).1.2
  · rw [if_neg q]; decide
/-- a plural, named anew or for the first time -/
theorem rvo_pl {U U1 S S1 : sS} {f : Nat} {r a b so rs wh : Int} (h : RVO U S) (hw2 : WHC U) (sc : SCX U S f) (k : RNR U S f r a b) (nw : nwC U a b) (t : TN1 U U1 so wh a b) (t2 : NMW S S1 rs wh r) (hs : so = sg7 rs) (hr : 0 ≤ rs ∧ rs ≤ 12) (hso : so = 11 ∨ so = 12) (hw : 0 ≤ wh ∧ wh ≤ 63) (cx : ∀ j, Xi U1 5 j = Xi U 5 j) (wl : wh < wcU U so) : RVO U1 S1 ∧ WHC U1 := by
  have w := scx_w sc k.2.2.2.2.2
  have hn : 1 ≤ b - a ∧ b - a ≤ 3 := ⟨by have := k.2.1; omega, nw.2.1⟩
  have no := noe_run h.2.2.1 h.1.1.2 k sc.2 nw.2.1 nw.1
  have ws := wds_of hn k.1 w
  obtain ⟨i, t⟩ := t
  obtain ⟨q, t2⟩ := t2
  rw [k.2.2.2.1, k.2.2.2.2.1] at t2
  have e15 := h.1.1.1
  have cw : ∀ s, wcU U1 s = wcU U s := fun s => by unfold wcU; simp only [cx]
  have sh : wRw U 879 a b 0 < 150094635296999121 ∧ wRw U 879 a b 1 < 150094635296999121 ∧ wRw U 879 a b 2 < 150094635296999121 := ⟨wrw_lt w 0 (by omega), wrw_lt w 1 (by omega), wrw_lt w 2 (by omega)⟩
  have c1 := t.2.2
  have c2 := t2.2.2
  rcases c1 with c1 | ⟨c1, c1b, c1c⟩
  · have o2 : Xi S1 904 15 = Xi S 904 15 ∧ (q : Int) < Xi S 904 15 ∧ Xi S 914 q = rs ∧ Xi S 915 q = wh := by
      rcases c2 with c2 | ⟨_, _, c2⟩
      · exact c2
      · obtain ⟨k, k1, k2⟩ := h.1.2.1 i c1.2.1
        exact absurd ⟨sg_inj (h.2.2.2.1 k (by omega)).1 hr (by rw [k2.1, c1.2.2.1, hs]), by rw [k2.2.1, c1.2.2.2]⟩ (c2 k (by omega))
    refine ⟨rvo_ren h t c1 t2 o2 hs hr hso ws no sh, fun j hj => ?_⟩
    rw [c1.1] at hj
    rw [cw]
    by_cases e : j = i
    · subst e; rw [t.1.1, t.1.2.1]; exact wl
    · rw [(t.2.1 j e).1, (t.2.1 j e).2.1]; exact hw2 j hj
  · rcases c2 with c2 | ⟨c2, c2b, _⟩
    · obtain ⟨k, k1, k2⟩ := h.1.2.2.1 q (by omega)
      exact absurd (by rw [← k2.2.1, c2.2.2.2]) (c1c k k1 (by rw [← k2.1, c2.2.2.1, hs]))
    · have iq : i = q := by omega
      subst iq
      have g := rvo_add h t c1c t2.1 (fun _ => t2.2.1) c2 hs hr hw ws no (lwn_of hn k.1 w) ⟨fun q => absurd rfl q, fun _ => sh⟩
      refine ⟨g.1, whg_add (c := wcU U1) (fun j hj => ?_) t c1c (by rw [cw]; exact wl)⟩
      rw [cw]; exact hw2 j hj
theorem tpl_g {U U1 : sS} {z g b a t : Int} (tc : TPL U U1 z g b a t) (hz : z = 1) : ¬ (kmC U g b = -1 ∧ tmC U g b = -1) ∧ nwC U a t := by
  obtain ⟨t1, t2, _⟩ := tc
  by_cases q1 : kmC U g b = -1 ∧ tmC U g b = -1
  · have := (t1 q1.1 q1.2).1; omega
  by_cases q2 : nwC U a t
  · exact ⟨q1, q2⟩
  · have := (t2 q1 q2).1; omega
theorem st_8 {U U1 S T S1 : sS} {f : Nat} {z g b a t : Int} (h : RLW U S) (t3 : TX3 U) (sc : SCX U S f) (k0 : RNR U S f 0 g b) (k1 : RNR U S f 1 a t) (hn : Xi U 891 9 = 0) (zf : z = 0 → Xi U1 876 8 ≠ 0) (tc : TPL U U1 z g b a t) (Fc : FR md_re_tellPlural__p U U1) (rc : RPL S (NT3 T)) (Fa : FR md_mo_asked__8f S T) (rd : (NT3 T).1 = 0 → RD8 T S1 ∧ FR md_mo_does__8f T S1) : STP U1 T S1 := by
  have hx := h.1.2.2.2.1
  have h15 : 0 ≤ Xi S 904 15 := by have := h.1.1.1; omega
  refine stp_1 (pl_same (scx_s sc h.1) k0 k1 hx h15 hn tc rc) zf (fun x0 => ?_)
  obtain ⟨rd, Fd⟩ := rd x0
  refine ⟨nt_k (ks := []) (fs := [(904, 106)]) (Fd.kep rfl) (by decide) x0, fun hz => ?_⟩
  obtain ⟨g1, g2⟩ := tpl_g tc hz
  have hT : RLW U T := h.k t3 KEP.rf (Fa.kep rfl)
  have sT := sc.kS (Fa.kep rfl : KEP [(907, 911)] [] S T)
  have bT : KEP [(950, 952)] [] S T := Fa.kep rfl
  obtain ⟨h1, h2, h3, h4, h5, h6, h7, h8, h9, h10, h11, h12, h13, h14, h15x⟩ := hT
  have hxT := h1.2.2.2.1
  have h15T : 0 ≤ Xi T 904 15 := by have := h1.1.1; omega
  have rT := scx_s sT h1
  have k0 := k0.kS bT
  have k1 := k1.kS bT
  have m0 := rn_km rT k0 hxT h15T
  have m2 := rn_tm rT k0 hxT h15T
  have d0 := h3.1
  have d1 := h3.2.1
  have w1 : RVO U1 S1 ∧ WHC U1 ∧ ∀ j, Xi U1 5 j = Xi U 5 j := by
    by_cases q : kmC U g b = -1
    · have q2 : tmC U g b ≠ -1 := fun y => g1 ⟨q, y⟩
      obtain ⟨_, _, tn, cx⟩ := tc.2.2.2 q q2 g2
      have r := rd.2 (by rw [← m0]; exact q)
      rw [← m2] at r
      have bl := tm_lt h1.2.2.1 h2 q2
      have w := rvo_pl h1 h2 sT k1 g2 tn r (by decide) (by omega) (Or.inr rfl) (by omega) cx bl.2
      exact ⟨w.1, w.2, cx⟩
    · obtain ⟨_, _, tn, cx⟩ := tc.2.2.1 q g2
      have r := rd.1 (by rw [← m0]; exact q)
      rw [← m0] at r
      have bl := km_lt h1.2.2.1 h2 q
      have w := rvo_pl h1 h2 sT k1 g2 tn r (by decide) (by omega) (Or.inl rfl) (by omega) cx bl.2
      exact ⟨w.1, w.2, cx⟩
  obtain ⟨w1, w2, cx⟩ := w1
  have cc : ∀ j, j ≠ 99 → Xi U1 5 j = Xi U 5 j := fun j _ => cx j
  have cl : ∀ j, Xi U 5 j ≤ Xi U1 5 j := fun j => by rw [cx]; exact Int.le_refl _
  have e5 : ∀ j, j ∈ [16, 18, 19, 23, 30, 32, 41, 47, 49] → Xi S1 904 j = Xi T 904 j := fun j hj => (Fd.kep rfl : KEP [] [(904, 16), (904, 18), (904, 19), (904, 23), (904, 30), (904, 32), (904, 41), (904, 47), (904, 49)] T S1).f 904 j (by revert hj; simp)
  refine ⟨w1, w2, ?_, h4.k (cc 0 (by omega)) (Fc.kep rfl) (Fd.kep rfl), h5.k (cc 0 (by omega)) (cc 4 (by omega)) (cc 5 (by omega)) (cl 1) (Fc.kep rfl) (Fd.kep rfl), h6.k (cc 3 (by omega)) (cl 0) (Fc.kep rfl) (Fd.kep rfl), h7.k (cc 6 (by omega)) (cl 0) (Fc.kep rfl) (Fd.kep rfl), h8.k (cl 2) (Fc.kep rfl) (Fd.kep rfl), h9.k (cc 7 (by omega)) (cc 8 (by omega)) (cl 6) (cl 0) (Fc.kep rfl) (Fd.kep rfl), h10.k (cc 2 (by omega)) (cl 0) (Fc.kep rfl) (Fd.kep rfl), h11.k (cc 2 (by omega)) (Fc.kep rfl), h12.k h3 (cc 2 (by omega)) (cc 0 (by omega)) (Fc.kep rfl) (Fd.kep rfl), h13.k h3 t3 (cc 2 (by omega)) (cc 0 (by omega)) (cl 5) (Fc.kep rfl) (Fd.kep rfl) (fun p _ => (Fd.kep rfl : KEP [(928, 929)] [] T S1).x 928 rfl p), h14.k h3 (cl 2) (Fc.kep rfl) (Fd.kep rfl), h15x.k (cl 2) (Fc.kep rfl) (Fd.kep rfl)⟩
  unfold RCT
  rw [e5 16 (by decide), e5 18 (by decide), e5 19 (by decide), e5 23 (by decide), e5 30 (by decide), e5 32 (by decide), e5 41 (by decide), e5 47 (by decide), e5 49 (by decide)]
  simp only [cx]
  exact h3
end
section
/-! class and reference: 10 keeps the relation -/
theorem pl_c {w : Int} (hw : wdC w) : (w < 5559060566555523 ∧ lshrF (cv w) 55 = 0 ∧ lorF (lshlF (cv w) 5) 19 = cv (w * 27 + 19)) ∨ (5559060566555523 ≤ w ∧ lshrF (cv w) 55 ≠ 0) := by
  have r := cv_rg hw
  have s := sr55 r.1 (by omega)
  by_cases g : w < 5559060566555523
  · have c := cv_sh hw g
    exact Or.inl ⟨g, by rw [s]; omega, by rw [lw5 r.1 c (by omega) (by omega), cv_s hw]⟩
  · have c := cv_lo hw (by omega)
    exact Or.inr ⟨by omega, by rw [s]; omega⟩
theorem cd_s {w : Int} (hw : wdC w) : cd7 (w * 27 + 19) ∧ 0 < w * 27 + 19 := by
  have p13 : (27 : Int) ^ 13 = 4052555153018976267 := by decide
  exact ⟨⟨by have := hw.1; omega, by rw [p13]; have := hw.2; omega⟩, by have := hw.1; omega⟩
/-- the words of a run with an s at the end, in both -/
theorem wds_p {U S : sS} {f : Nat} {r a b : Int} (sc : SCX U S f) (k : RNR U S f r a b) (n3 : b - a ≤ 3) : WDS (wSp U a b 0) (wSp U a b 1) (wSp U a b 2) (wPa S r) (wPb S r) (wPc S r) (b - a) (lgI S r) ∧ (lgI S r = 0 ∨ lgI S r = 1) ∧ (lgI S r = 0 → wSp U a b 0 < 150094635296999121 ∧ wSp U a b 1 < 150094635296999121 ∧ wSp U a b 2 < 150094635296999121) ∧ (∀ j : Int, 0 ≤ j → j < b - a - 1 → wSp U a b j = wRw U 879 a b j) ∧ wSp U a b (b - a - 1) = wRw U 879 a b (b - a - 1) * 27 + 19 ∧ (∀ j : Int, b - a ≤ j → wSp U a b j = 0 ∧ wRw U 879 a b j = 0) ∧ (lgI S r = 1 → 5559060566555523 ≤ wRw U 879 a b (b - a - 1)) := by
  have w := scx_w sc k.2.2.2.2.2
  have x5 := k.2.2.2.1
  have x1 := k.2.2.2.2.1
  have lt := k.2.1
  have ha := k.1
  have z0 : cd7 0 := ⟨by decide, by decide⟩
  have L := w (b - a - 1) (by omega) (by omega)
  have la : wLa S r = cv (Xj U 879 (a + (b - a - 1)).toNat) := by
    unfold wLa
    rw [x5, x1, show (f : Int) + a + (b - a) - 1 = f + a + (b - a - 1) by omega]; exact L.2
  have P := pl_c L.1
  have C := cd_s L.1
  have sl : ∀ j : Int, 0 ≤ j → j < b - a - 1 → wSp U a b j = Xj U 879 (a + j).toNat ∧ wRw U 879 a b j = Xj U 879 (a + j).toNat := fun j h0 h1 => by
    unfold wSp wRw
    rw [if_pos (by omega), if_neg (by omega), if_pos (by omega)]; exact ⟨rfl, rfl⟩
  have se : wSp U a b (b - a - 1) = Xj U 879 (a + (b - a - 1)).toNat * 27 + 19 ∧ wRw U 879 a b (b - a - 1) = Xj U 879 (a + (b - a - 1)).toNat := by
    unfold wSp wRw
    rw [if_pos (by omega), if_pos (by omega), if_pos (by omega)]; exact ⟨rfl, rfl⟩
  have so : ∀ j : Int, b - a ≤ j → wSp U a b j = 0 ∧ wRw U 879 a b j = 0 := fun j h => by
    unfold wSp wRw
    rw [if_neg (by omega), if_neg (by omega)]; exact ⟨rfl, rfl⟩
  have lg : (lgI S r = 0 ∧ Xj U 879 (a + (b - a - 1)).toNat < 5559060566555523 ∧ wPl S r = cv (wSp U a b (b - a - 1))) ∨ (lgI S r = 1 ∧ 5559060566555523 ≤ Xj U 879 (a + (b - a - 1)).toNat) := by
    have e : lgI S r = if lshrF (cv (Xj U 879 (a + (b - a - 1)).toNat)) 55 = 0 then 0 else 1 := by unfold lgI; rw [la]
    rcases P with ⟨p1, p2, p3⟩ | ⟨p1, p2⟩
    · rw [if_pos p2] at e
      refine Or.inl ⟨e, p1, ?_⟩
      unfold wPl
      rw [e, if_neg (by decide), la, p3, se.1]
    · rw [if_neg p2] at e
      exact Or.inr ⟨e, p1⟩
  refine ⟨?_, by omega, fun q => ?_, fun j h0 h1 => (sl j h0 h1).1.trans (sl j h0 h1).2.symm, by rw [se.1, se.2], so, fun q => by rw [se.2]; omega⟩
  · have n : b - a = 1 ∨ b - a = 2 ∨ b - a = 3 := by omega
    rcases n with n | n | n
    · rw [n] at se x1 lg
      have e0 : wSp U a b 0 = Xj U 879 (a + (1 - 1)).toNat * 27 + 19 := se.1
      have e1 := (so 1 (by omega)).1
      have e2 := (so 2 (by omega)).1
      rw [n] at C L
      rw [n, e1, e2, e0]
      refine ⟨by omega, ⟨C.2, by omega, by omega⟩, ⟨C.1, z0, z0⟩, by omega, by omega, fun q => ⟨?_, fun c => absurd c (by decide), fun c => absurd c (by decide)⟩, fun q => ⟨fun _ => by omega, fun c => absurd c (by decide), fun c => absurd c (by decide)⟩⟩
      rcases lg with ⟨_, _, l3⟩ | ⟨l1, _⟩
      · unfold wPa; rw [x1, if_pos rfl, l3, ← e0]; rfl
      · omega
    · rw [n] at se x1 lg
      have W0 := w 0 (by omega) (by omega)
      rw [Int.add_zero, Int.add_zero] at W0
      have e0 := (sl 0 (by omega) (by omega)).1
      rw [Int.add_zero] at e0
      have e1 : wSp U a b 1 = Xj U 879 (a + (2 - 1)).toNat * 27 + 19 := se.1
      have e2 := (so 2 (by omega)).1
      rw [n] at C L
      rw [n, e2, e0, e1]
      refine ⟨by omega, ⟨W0.1.1, by omega, by omega⟩, ⟨wd_cd W0.1, C.1, z0⟩, by omega, by omega, fun q => ⟨?_, fun c => ?_, fun c => absurd c (by decide)⟩, fun q => ⟨fun c => absurd c (by decide), fun _ => by omega, fun c => absurd c (by decide)⟩⟩
      · unfold wPa; rw [x1, if_neg (by decide), x5]; exact W0.2
      · rcases lg with ⟨_, _, l3⟩ | ⟨l1, _⟩
        · unfold wPb; rw [x1, if_pos rfl, l3, ← e1]; rfl
        · omega
    · rw [n] at se x1 lg
      have W0 := w 0 (by omega) (by omega)
      rw [Int.add_zero, Int.add_zero] at W0
      have W1 := w 1 (by omega) (by omega)
      have e0 := (sl 0 (by omega) (by omega)).1
      rw [Int.add_zero] at e0
      have e1 := (sl 1 (by omega) (by omega)).1
      have e2 : wSp U a b 2 = Xj U 879 (a + (3 - 1)).toNat * 27 + 19 := se.1
      rw [n] at C L
      rw [n, e2, e0, e1]
      refine ⟨by omega, ⟨W0.1.1, by have := W1.1.1; omega, by omega⟩, ⟨wd_cd W0.1, wd_cd W1.1, C.1⟩, ⟨fun _ => W1.1.1, fun _ => by omega⟩, by omega, fun q => ⟨?_, fun c => ?_, fun c => ?_⟩, fun q => ⟨fun c => absurd c (by decide), fun c => absurd c (by decide), fun _ => by omega⟩⟩
      · unfold wPa; rw [x1, if_neg (by decide), x5]; exact W0.2
      · unfold wPb; rw [x1, if_neg (by decide), if_pos (by decide), x5]; exact W1.2
      · rcases lg with ⟨_, _, l3⟩ | ⟨l1, _⟩
        · unfold wPc; rw [x1, if_pos rfl, l3, ← e2]; rfl
        · omega
  · have le : wSp U a b (b - a - 1) < 150094635296999121 := by
      rw [se.1]
      rcases lg with ⟨_, l2, _⟩ | ⟨l1, _⟩
      · omega
      · omega
    have all : ∀ j : Int, 0 ≤ j → wSp U a b j < 150094635296999121 := fun j h0 => by
      by_cases c1 : j < b - a - 1
      · rw [(sl j h0 c1).1]; exact (w j h0 (by omega)).1.2
      · by_cases c2 : j = b - a - 1
        · rw [c2]; exact le
        · rw [(so j (by omega)).1]; decide
    exact ⟨all 0 (by omega), all 1 (by omega), all 2 (by omega)⟩
theorem wds_l {U S : sS} {f : Nat} {r a b : Int} (sc : SCX U S f) (k : RNR U S f r a b) (n3 : b - a ≤ 3) (q : lgI S r ≠ 0) : WLW (wSp U a b 0) (wSp U a b 1) (wSp U a b 2) (wPa S r) (wPb S r) (wPc S r) (b - a) := by
  obtain ⟨_, g2, _, g4, g5, _⟩ := wds_p sc k n3
  have w := scx_w sc k.2.2.2.2.2
  have x5 := k.2.2.2.1
  have x1 := k.2.2.2.2.1
  have lt := k.2.1
  have rwj : ∀ j : Int, j < b - a → wRw U 879 a b j = Xj U 879 (a + j).toNat := fun j h => by unfold wRw; rw [if_pos (by omega)]
  have la : wPl S r = cv (wRw U 879 a b (b - a - 1)) := by
    unfold wPl
    rw [if_pos (by omega), rwj _ (by omega)]
    unfold wLa
    rw [x5, x1, show (f : Int) + a + (b - a) - 1 = f + a + (b - a - 1) by omega]; exact (w (b - a - 1) (by omega) (by omega)).2
  have dv : ∀ x : Int, (x * 27 + 19) % 27 = 19 ∧ (x * 27 + 19) / 27 = x := fun x => by omega
  have W0 := w 0 (by omega) (by omega)
  rw [Int.add_zero, Int.add_zero] at W0
  refine ⟨fun n => ?_, fun n => ?_, fun n => ?_⟩
  · rw [n] at x1 g5 la
    have e0 : wSp U a b 0 = wRw U 879 a b 0 * 27 + 19 := g5
    rw [e0]
    refine ⟨(dv _).1, ?_⟩
    rw [(dv _).2]; unfold wPa; rw [x1, if_pos rfl]; exact la
  · rw [n] at x1 g5 la
    have e1 : wSp U a b 1 = wRw U 879 a b 1 * 27 + 19 := g5
    rw [e1]
    refine ⟨(dv _).1, ?_, ?_, by rw [g4 0 (by omega) (by omega), rwj 0 (by omega), Int.add_zero]; exact W0.1.2⟩
    · rw [g4 0 (by omega) (by omega), rwj 0 (by omega), Int.add_zero]; unfold wPa; rw [x1, if_neg (by decide), x5]; exact W0.2
    · rw [(dv _).2]; unfold wPb; rw [x1, if_pos rfl]; exact la
  · have W1 := w 1 (by omega) (by omega)
    rw [n] at x1 g5 la
    have e2 : wSp U a b 2 = wRw U 879 a b 2 * 27 + 19 := g5
    rw [e2]
    refine ⟨(dv _).1, ?_, ?_, ?_, by rw [g4 0 (by omega) (by omega), rwj 0 (by omega), Int.add_zero]; exact W0.1.2, by rw [g4 1 (by omega) (by omega), rwj 1 (by omega)]; exact W1.1.2⟩
    · rw [g4 0 (by omega) (by omega), rwj 0 (by omega), Int.add_zero]; unfold wPa; rw [x1, if_neg (by decide), x5]; exact W0.2
    · rw [g4 1 (by omega) (by omega), rwj 1 (by omega)]; unfold wPb; rw [x1, if_neg (by decide), if_pos (by decide), x5]; exact W1.2
    · rw [(dv _).2]; unfold wPc; rw [x1, if_pos rfl]; exact la
/-- a triple is the words with an s of another one: the triples without it -/
theorem sp_inj {U S : sS} {f : Nat} {r q a b c d : Int} (sc : SCX U S f) (k : RNR U S f r a b) (l : RNR U S f q c d) (n3 : b - a ≤ 3) (m3 : d - c ≤ 3) (e0 : wSp U a b 0 = wSp U c d 0) (e1 : wSp U a b 1 = wSp U c d 1) (e2 : wSp U a b 2 = wSp U c d 2) : alC U a b c d := by
  obtain ⟨p1, _, _, p4, p5, p6, _⟩ := wds_p sc k n3
  obtain ⟨q1, _, _, q4, q5, q6, _⟩ := wds_p sc l m3
  have a4 := p1.2.2.2.1
  have a5 := p1.2.2.2.2.1
  have b4 := q1.2.2.2.1
  have b5 := q1.2.2.2.2.1
  rw [e1] at a4
  rw [e2] at a5
  have hk := k.2.1
  have hl := l.2.1
  have n : b - a = d - c := by omega
  have ev : ∀ j : Int, 0 ≤ j → wRw U 879 a b j = wRw U 879 c d j := fun j h0 => by
    by_cases g : b - a ≤ j
    · rw [(p6 j g).2, (q6 j (by omega)).2]
    · have es : wSp U a b j = wSp U c d j := by
        have z : j = 0 ∨ j = 1 ∨ j = 2 := by omega
        rcases z with z | z | z <;> subst z <;> assumption
      by_cases g2 : j = b - a - 1
      · subst g2
        rw [p5] at es
        rw [n, q5, ← n] at es
        omega
      · rw [p4 j h0 (by omega), q4 j h0 (by omega)] at es
        exact es
  exact al_wd ⟨by omega, n3⟩ ⟨by omega, m3⟩ k.1 l.1 (scx_w sc k.2.2.2.2.2) (scx_w sc l.2.2.2.2.2) (ev 0 (by omega)) (ev 1 (by omega)) (ev 2 (by omega))
/-- thirteen letters and an s: such an entry has the run itself as an entry -/
theorem lw_base {U V S : sS} {f : Nat} {r a b : Int} (sc : SCX U S f) (k : RNR U S f r a b) (n3 : b - a ≤ 3) (lg : lgI S r = 1) (l3 : LW3 V) {i : Nat} (hi : (i : Int) < Xi V 1 3) (m : mtC V (wSp U a b 0) (wSp U a b 1) (wSp U a b 2) i) : LWE V (wRw U 879 a b 0) (wRw U 879 a b 1) (wRw U 879 a b 2) := by
  obtain ⟨_, _, _, p4, p5, p6, p7⟩ := wds_p sc k n3
  have g := p7 lg
  have hk := k.2.1
  have n : b - a = 1 ∨ b - a = 2 ∨ b - a = 3 := by omega
  rcases n with n | n | n
  · rw [n] at g p5
    have p5 : wSp U a b 0 = wRw U 879 a b 0 * 27 + 19 := p5
    have g : 5559060566555523 ≤ wRw U 879 a b 0 := g
    have t := (l3 i hi (wRw U 879 a b 0) 0 0 g).1
    rw [p5, (p6 1 (by omega)).1, (p6 2 (by omega)).1] at m
    rw [(p6 1 (by omega)).2, (p6 2 (by omega)).2]
    exact t m
  · rw [n] at g p5
    have p5 : wSp U a b 1 = wRw U 879 a b 1 * 27 + 19 := p5
    have g : 5559060566555523 ≤ wRw U 879 a b 1 := g
    have t := (l3 i hi (wRw U 879 a b 1) (wRw U 879 a b 0) 0 g).2.1
    rw [p5, (p6 2 (by omega)).1, p4 0 (by omega) (by omega)] at m
    rw [(p6 2 (by omega)).2]
    exact t m
  · rw [n] at g p5
    have p5 : wSp U a b 2 = wRw U 879 a b 2 * 27 + 19 := p5
    have g : 5559060566555523 ≤ wRw U 879 a b 2 := g
    have t := (l3 i hi (wRw U 879 a b 2) (wRw U 879 a b 0) (wRw U 879 a b 1) g).2.2
    rw [p5, p4 0 (by omega) (by omega), p4 1 (by omega) (by omega)] at m
    exact t m
theorem lwn_p {U V S : sS} {f : Nat} {r a b : Int} (sc : SCX U S f) (k : RNR U S f r a b) (n3 : b - a ≤ 3) (e : LWE V (wRw U 879 a b 0) (wRw U 879 a b 1) (wRw U 879 a b 2)) : LWN V (wSp U a b 0) (wSp U a b 1) (wSp U a b 2) := by
  obtain ⟨p1, _, _, p4, p5, p6, _⟩ := wds_p sc k n3
  have hk := k.2.1
  have w := scx_w sc k.2.2.2.2.2
  have s0 := wrw_lt w 0 (by omega)
  have s1 := wrw_lt w 1 (by omega)
  have n : b - a = 1 ∨ b - a = 2 ∨ b - a = 3 := by omega
  intro v x y hv
  rcases n with n | n | n
  · rw [n] at p5
    have p5 : wSp U a b 0 = wRw U 879 a b 0 * 27 + 19 := p5
    rw [(p6 1 (by omega)).2, (p6 2 (by omega)).2] at e
    rw [p5, (p6 1 (by omega)).1, (p6 2 (by omega)).1]
    exact ⟨fun q _ _ => by rw [show v = wRw U 879 a b 0 by omega]; exact e, fun _ q _ => by omega, fun _ _ q => by omega⟩
  · rw [n] at p5
    have p5 : wSp U a b 1 = wRw U 879 a b 1 * 27 + 19 := p5
    have z1 := p1.2.2.2.1.1 (by omega)
    rw [(p6 2 (by omega)).2] at e
    rw [p5, (p6 2 (by omega)).1, p4 0 (by omega) (by omega)]
    exact ⟨fun q u _ => by omega, fun u q _ => by rw [show v = wRw U 879 a b 1 by omega, ← u]; exact e, fun _ _ q => by omega⟩
  · rw [n] at p5
    have p5 : wSp U a b 2 = wRw U 879 a b 2 * 27 + 19 := p5
    have z2 := p1.2.2.2.2.1.1 (by omega)
    rw [p5, p4 0 (by omega) (by omega), p4 1 (by omega) (by omega)]
    exact ⟨fun q u v => by omega, fun u q v => by omega, fun u1 u2 q => by rw [show v = wRw U 879 a b 2 by omega, ← u1, ← u2]; exact e⟩
/-- plurals of the names of a LIST, told to both -/
theorem rvo_plur {U S B B1 : sS} {f N : Nat} {F so rs c : Int} (hB : RVO B B1) (sc : SCX U S f) (l : LRN U S f F N) (ok : ∀ i : Nat, i < N → NWL U i) (fr : ∀ w, c ≤ w → FRS B so w) (hs : so = sg7 rs) (hr : 0 ≤ rs ∧ rs ≤ 12) (h13 : rs = 1 ∨ rs = 3) (hc : 0 ≤ c ∧ c + N ≤ 64) (bs : ∀ i : Nat, i < N → LWE B (wRw U 879 (kr7 (ty7 U) i) (re7 (ty7 U) (kr7 (ty7 U) i)) 0) (wRw U 879 (kr7 (ty7 U) i) (re7 (ty7 U) (kr7 (ty7 U) i)) 1) (wRw U 879 (kr7 (ty7 U) i) (re7 (ty7 U) (kr7 (ty7 U) i)) 2)) (nl : ∀ i : Nat, i < N → lgI S (F + i) = 1 → NOE B (wSp U (kr7 (ty7 U) i) (re7 (ty7 U) (kr7 (ty7 U) i)) 0) (wSp U (kr7 (ty7 U) i) (re7 (ty7 U) (kr7 (ty7 U) i)) 1) (wSp U (kr7 (ty7 U) i) (re7 (ty7 U) (kr7 (ty7 U) i)) 2)) : ∀ (n : Nat) (V V1 : sS), n ≤ N → TPS U so c B n V → TPR S rs c F B1 n V1 → RVO V V1 ∧ (∀ w, c + n ≤ w → FRS V so w) ∧ (∀ i : Nat, i < N → LWE V (wRw U 879 (kr7 (ty7 U) i) (re7 (ty7 U) (kr7 (ty7 U) i)) 0) (wRw U 879 (kr7 (ty7 U) i) (re7 (ty7 U) (kr7 (ty7 U) i)) 1) (wRw U 879 (kr7 (ty7 U) i) (re7 (ty7 U) (kr7 (ty7 U) i)) 2)) ∧ (∀ i : Nat, n ≤ i → i < N → lgI S (F + i) = 1 → NOE V (wSp U (kr7 (ty7 U) i) (re7 (ty7 U) (kr7 (ty7 U) i)) 0) (wSp U (kr7 (ty7 U) i) (re7 (ty7 U) (kr7 (ty7 U) i)) 1) (wSp U (kr7 (ty7 U) i) (re7 (ty7 U) (kr7 (ty7 U) i)) 2)) ∧ (∀ d : Int → Int, WHG d B → (∀ i : Nat, i < n → c + i < d so) → WHG d V)
  | 0, V, V1, _, t, u => by
    have t0 : SMV B V := t
    have u0 : SMR B1 V1 := u
    have mk : ∀ {x y z : Int} {j : Nat}, mtC V x y z j ↔ mtC B x y z j := mt_k (fun a _ => t0.2.1 _)
    refine ⟨hB.s t0 u0, fun w hw j hj e => ?_, fun i hi => ?_, fun i _ hi q j hj m => ?_, fun d q _ j hj => ?_⟩
    · rw [t0.1] at hj
      rw [t0.2.2.1] at e
      rw [t0.2.2.2.1]
      exact fr w (by omega) j hj e
    · obtain ⟨j, j1, j2, j3⟩ := bs i hi
      exact ⟨j, by rw [t0.1]; exact j1, mk.2 j2, by rw [t0.2.2.1]; exact j3⟩
    · rw [t0.1] at hj
      exact nl i hi q j hj (mk.1 m)
    · rw [t0.1] at hj
      rw [t0.2.2.1, t0.2.2.2.1]
      exact q j hj
  | n + 1, V, V1, hn, t, u => by
    obtain ⟨W, t1, t2⟩ := t
    obtain ⟨W1, u1, u2⟩ := u
    obtain ⟨r1, r2, r3, r4, r5⟩ := rvo_plur hB sc l ok fr hs hr h13 hc bs nl n W W1 (by omega) t1 u1
    have k := l n (by omega)
    have n3 := (ok n (by omega)).2.1
    obtain ⟨p1, p2, p3, _⟩ := wds_p sc k n3
    have x1 : Xi S 951 (F + n).toNat = re7 (ty7 U) (kr7 (ty7 U) n) - kr7 (ty7 U) n := k.2.2.2.2.1
    have f1 : FRS W so (c + n) := r2 _ (Int.le_refl _)
    have hC := r1.2.2.1
    have iff : mnF W (wSp U (kr7 (ty7 U) n) (re7 (ty7 U) (kr7 (ty7 U) n)) 0) (wSp U (kr7 (ty7 U) n) (re7 (ty7 U) (kr7 (ty7 U) n)) 1) (wSp U (kr7 (ty7 U) n) (re7 (ty7 U) (kr7 (ty7 U) n)) 2) = -1 ↔ (lgI S (F + n) = 1 ∨ fdR W1 (wPa S (F + n)) (wPb S (F + n)) (wPc S (F + n)) (Xi S 951 (F + n).toNat) (Xi W1 904 15).toNat = -1) := by
      rcases p2 with p2 | p2
      · obtain ⟨b0, b1, b2⟩ := p3 p2
        obtain ⟨s1, s2, s3, s4, s5, s6, _⟩ := p1
        obtain ⟨v0, v1, v2⟩ := s6 p2
        have hx : wdC (wSp U (kr7 (ty7 U) n) (re7 (ty7 U) (kr7 (ty7 U) n)) 0) := ⟨s2.1, b0⟩
        have z1 : (if 1 < re7 (ty7 U) (kr7 (ty7 U) n) - kr7 (ty7 U) n then wSp U (kr7 (ty7 U) n) (re7 (ty7 U) (kr7 (ty7 U) n)) 1 else 0) = wSp U (kr7 (ty7 U) n) (re7 (ty7 U) (kr7 (ty7 U) n)) 1 := by
          by_cases q : 1 < re7 (ty7 U) (kr7 (ty7 U) n) - kr7 (ty7 U) n
          · rw [if_pos q]
          · rw [if_neg q]; have := s4.2; omega
        have z2 : (if 2 < re7 (ty7 U) (kr7 (ty7 U) n) - kr7 (ty7 U) n then wSp U (kr7 (ty7 U) n) (re7 (ty7 U) (kr7 (ty7 U) n)) 2 else 0) = wSp U (kr7 (ty7 U) n) (re7 (ty7 U) (kr7 (ty7 U) n)) 2 := by
          by_cases q : 2 < re7 (ty7 U) (kr7 (ty7 U) n) - kr7 (ty7 U) n
          · rw [if_pos q]
          · rw [if_neg q]; have := s5.2; omega
        have y1 : (if 1 < re7 (ty7 U) (kr7 (ty7 U) n) - kr7 (ty7 U) n then cv (wSp U (kr7 (ty7 U) n) (re7 (ty7 U) (kr7 (ty7 U) n)) 1) else 0) = wPb S (F + n) := by
          by_cases q : 1 < re7 (ty7 U) (kr7 (ty7 U) n) - kr7 (ty7 U) n
          · rw [if_pos q, v1 q]
          · rw [if_neg q]; unfold wPb; rw [x1, if_neg (by omega), if_neg (by omega)]
        have y2 : (if 2 < re7 (ty7 U) (kr7 (ty7 U) n) - kr7 (ty7 U) n then cv (wSp U (kr7 (ty7 U) n) (re7 (ty7 U) (kr7 (ty7 U) n)) 2) else 0) = wPc S (F + n) := by
          by_cases q : 2 < re7 (ty7 U) (kr7 (ty7 U) n) - kr7 (ty7 U) n
          · rw [if_pos q, v2 q]
          · rw [if_neg q]; unfold wPc; rw [x1, if_neg (by omega)]
        have m := voc_m (n := re7 (ty7 U) (kr7 (ty7 U) n) - kr7 (ty7 U) n) r1.1 s1 hx (fun q => ⟨s4.1 q, b1⟩) (fun q => ⟨s5.1 q, b2⟩)
        rw [z1, z2, y1, y2, ← v0, ← x1] at m
        by_cases q : fdR W1 (wPa S (F + n)) (wPb S (F + n)) (wPc S (F + n)) (Xi S 951 (F + n).toNat) (Xi W1 904 15).toNat = -1
        · rw [if_pos q] at m
          exact ⟨fun _ => Or.inr q, fun _ => m⟩
        · rw [if_neg q] at m
          refine ⟨fun e => ?_, fun e => ?_⟩
          · obtain ⟨v, w1, w2, _⟩ := fdR_is _ q
            have g := r1.2.2.2.1 v (by omega)
            have g2 := (ug_sg g.1).2
            rw [m, w1, show ((v : Int)).toNat = v by omega] at e
            omega
          · rcases e with e | e
            · omega
            · exact absurd e q
      · exact ⟨fun _ => Or.inl p2, fun _ => (noe_mn hC).1 (r4 n (Nat.le_refl _) (by omega) p2)⟩
    by_cases q : mnF W (wSp U (kr7 (ty7 U) n) (re7 (ty7 U) (kr7 (ty7 U) n)) 0) (wSp U (kr7 (ty7 U) n) (re7 (ty7 U) (kr7 (ty7 U) n)) 1) (wSp U (kr7 (ty7 U) n) (re7 (ty7 U) (kr7 (ty7 U) n)) 2) = -1
    · obtain ⟨i, ni⟩ := t2.2 q
      have tx := u2.1 (iff.1 q)
      have i2 := (nmi_new ni f1).2
      have e15 := r1.1.1.1
      obtain ⟨a1, a2, a3⟩ := enr_tlx tx (by omega : (i : Int) = Xi W1 904 15)
      rw [x1] at a1
      have g := rvo_add r1 ni f1 a1 (fun _ => a2) a3 hs hr (by omega) p1 ((noe_mn hC).2 q) (lwn_p sc k n3 (r3 n (by omega))) ⟨fun q => Or.inr ⟨h13, wds_l sc k n3 q⟩, fun q => (wds_p sc k n3).2.2.1 q⟩
      refine ⟨g.1, fun w hw => frs_add ni f1 (r2 w (by omega)) (by omega), fun j hj => lwe_k g.2.2 g.2.1 ni.2.1 (r3 j hj), fun j h1 hj e => noe_add ni f1 (r4 j (by omega) hj e) (fun y => ?_), fun d w v => whg_add (r5 d w (fun j hj => v j (by omega))) ni f1 (v n (by omega))⟩
      have kj := l j hj
      exact (ok j hj).2.2 n (by omega) (sp_inj sc k kj n3 (ok j hj).2.1 y.1 y.2.1 y.2.2)
    · have t0 : SMV W V := t2.1 q
      have u0 : SMR W1 V1 := u2.2 (fun y => q (iff.2 y))
      have mk : ∀ {x y z : Int} {j : Nat}, mtC V x y z j ↔ mtC W x y z j := mt_k (fun a _ => t0.2.1 _)
      refine ⟨r1.s t0 u0, fun w hw j hj e => ?_, fun i hi => ?_, fun i h1 hi q j hj m => ?_, fun d q v j hj => ?_⟩
      · rw [t0.1] at hj
        rw [t0.2.2.1] at e
        rw [t0.2.2.2.1]
        exact r2 w (by omega) j hj e
      · obtain ⟨j, j1, j2, j3⟩ := r3 i hi
        exact ⟨j, by rw [t0.1]; exact j1, mk.2 j2, by rw [t0.2.2.1]; exact j3⟩
      · rw [t0.1] at hj
        exact r4 i (by omega) hi q j hj (mk.1 m)
      · rw [t0.1] at hj
        rw [t0.2.2.1, t0.2.2.2.1]
        exact r5 d q (fun i hi => v i (by omega)) j hj
end
