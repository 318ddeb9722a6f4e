section
/-- cells that the reference's meanings are read from -/
def SMR (S P : sS) : Prop := Xi P 904 15 = Xi S 904 15 ∧ (∀ k j : Nat, (k = 912 ∨ k = 914 ∨ k = 915 ∨ k = 916 ∨ k = 908 ∨ k = 950 ∨ k = 951) → Xi P k j = Xi S k j) ∧ (∀ j, Xj P 910 j = Xj S 910 j) ∧ ∀ j, Xj P 913 j = Xj S 913 j
theorem SMR_FR {l : List rec} {S T : sS} (h : FR l S T) (e1 : kdis l [(908, 909), (910, 911), (912, 917), (950, 952)] = true) (e2 : mdf l 904 15 = false) : SMR S T :=
  ⟨h.x 904 15 e2, fun k j hk => by rcases hk with q | q | q | q | q | q | q <;> rw [q] <;> exact (h.smk e1).x _ rfl j, fun j => (h.smk e1).xj 910 rfl j, fun j => (h.smk e1).xj 913 rfl j⟩
theorem SMR.tr {S U V : sS} (h : SMR S U) (k : SMR U V) : SMR S V :=
  ⟨k.1.trans h.1, fun a j q => (k.2.1 a j q).trans (h.2.1 a j q), fun j => (k.2.2.1 j).trans (h.2.2.1 j), fun j => (k.2.2.2 j).trans (h.2.2.2 j)⟩
theorem SMR.rf {S : sS} : SMR S S := ⟨rfl, fun _ _ _ => rfl, fun _ => rfl, fun _ => rfl⟩
theorem SMR_w {S P S1 : sS} {k j : Nat} {v : Int32} (h : SMR S P) (e : S1 = uI P k j v) (h1 : ¬ (k = 904 ∧ j = 15)) (h2 : k ≠ 912 ∧ k ≠ 914 ∧ k ≠ 915 ∧ k ≠ 916 ∧ k ≠ 908 ∧ k ≠ 950 ∧ k ≠ 951) : SMR S S1 :=
  h.tr ⟨by rw [e, Xi_ne (by omega)], fun a i q => by rw [e, Xi_ne (by omega)], fun i => by rw [e, Xj_I], fun i => by rw [e, Xj_I]⟩
theorem fdR_sm {S P : sS} {a b c n : Int} {m : Nat} (h : SMR S P) : fdR P a b c n m = fdR S a b c n m :=
  fdR_k m (fun k _ _ => ⟨h.2.1 _ _ (by omega), h.2.2.2 _, h.2.2.2 _, h.2.2.2 _, h.2.1 _ _ (by omega), h.2.1 _ _ (by omega), h.2.1 _ _ (by omega)⟩)
theorem nmR_sm {S P : sS} {t n : Int} (h : SMR S P) : nmR P t n = nmR S t n := by
  unfold nmR
  rw [fdR_sm h, h.1, h.2.2.1, h.2.2.1, h.2.2.1]
theorem msR_sm {S P : sS} {t n s : Int} (h : SMR S P) : msR P t n s = msR S t n s := by
  unfold msR
  rw [nmR_sm h, h.2.1 914 _ (by omega), h.2.1 915 _ (by omega)]
theorem rnR_sm {S P : sS} {r s : Int} (h : SMR S P) : rnR P r s = rnR S r s := by
  unfold rnR
  rw [msR_sm h, h.2.1 950 _ (by omega), h.2.1 951 _ (by omega)]
theorem rmR_sm {S P : sS} {r : Int} (h : SMR S P) : rmR P r = rmR S r := by
  unfold rmR
  rw [nmR_sm h, h.2.1 950 _ (by omega), h.2.1 951 _ (by omega)]
theorem r2R_sm {S P : sS} {r s u : Int} (h : SMR S P) : r2R P r s u = r2R S r s u := by
  unfold r2R
  rw [rnR_sm h, rnR_sm h]
theorem pR_sm {S P : sS} {r : Int} (h : SMR S P) : pR P r = pR S r := by
  unfold pR
  rw [h.2.1 950 _ (by omega), h.2.1 908 _ (by omega)]
theorem nwR0_sm {S P : sS} {r : Int} (h : SMR S P) : nwR0 P r ↔ nwR0 S r := by
  unfold nwR0
  rw [rmR_sm h, h.2.1 951 _ (by omega)]
theorem alR_sm {S P : sS} {r q : Int} (h : SMR S P) : alR P r q ↔ alR S r q := by
  unfold alR
  simp only [h.2.1 950 _ (show (950 = 912 ∨ 950 = 914 ∨ 950 = 915 ∨ 950 = 916 ∨ 950 = 908 ∨ 950 = 950 ∨ 950 = 951) by omega), h.2.1 951 _ (show (951 = 912 ∨ 951 = 914 ∨ 951 = 915 ∨ 951 = 916 ∨ 951 = 908 ∨ 951 = 950 ∨ 951 = 951) by omega), h.2.2.1]
/-- 7: the reference's word with an s; a good verb -/
def wsR (S : sS) : Int := lorF (lshlF (Xj S 910 (Xi S 950 0).toNat) 5) 19
def vbR (S : sS) : Prop := Xi S 951 0 = 1 ∧ nwR0 S 0 ∧ (lshrF (Xj S 910 (Xi S 950 0).toNat) 55 ≠ 0 ∨ fdR S (wsR S) 0 0 1 (Xi S 904 15).toNat = -1)
theorem vbR_sm {S P : sS} (h : SMR S P) : vbR P ↔ vbR S := by
  unfold vbR wsR
  rw [nwR0_sm h, fdR_sm h, h.1, h.2.1 950 _ (by omega), h.2.1 951 _ (by omega), h.2.2.1]
theorem vbr_a {S : sS} {v : Int} (h : Xi S 951 0 ≠ 1) (hv : v = 0) : (v = 1 → vbR S) ∧ (v = 0 → ¬ vbR S) := ⟨fun q => by omega, fun _ q => h q.1⟩
theorem vbr_b {S : sS} {v : Int} (h : ¬ nwR0 S 0) (hv : v = 0) : (v = 1 → vbR S) ∧ (v = 0 → ¬ vbR S) := ⟨fun q => by omega, fun _ q => h q.2.1⟩
theorem vbr_c {S : sS} {v : Int} (h : Xi S 951 0 = 1) (n : nwR0 S 0) (l : lshrF (Xj S 910 (Xi S 950 0).toNat) 55 ≠ 0) (hv : v = 1) : (v = 1 → vbR S) ∧ (v = 0 → ¬ vbR S) := ⟨fun _ => ⟨h, n, Or.inl l⟩, fun q => by omega⟩
theorem vbr_d {S : sS} {v z : Int} (h : Xi S 951 0 = 1) (n : nwR0 S 0) (l : lshrF (Xj S 910 (Xi S 950 0).toNat) 55 = 0) (hz : z = fdR S (wsR S) 0 0 1 (Xi S 904 15).toNat) (hv : (v = 1 ∧ z = -1) ∨ (v = 0 ∧ z ≠ -1)) : (v = 1 → vbR S) ∧ (v = 0 → ¬ vbR S) :=
  ⟨fun _ => ⟨h, n, Or.inr (by omega)⟩, fun _ q => by rcases q.2.2 with w | w <;> omega⟩
/-- 7: what the reference notes -/
def RVB (S : sS) (x : Int × Int × Int) : Prop :=
  (¬ vbR S → NTB x 3 (pR S 0)) ∧
  (vbR S → 8 ≤ Xi S 904 47 → NTB x 9 (pR S 0)) ∧
  (vbR S → Xi S 904 47 < 8 → rnR S 1 8 = -1 → NTB x 4 (pR S 1)) ∧
  (vbR S → Xi S 904 47 < 8 → rnR S 1 8 ≠ -1 → x.1 = 0)
theorem RVB_sm {S P : sS} {x : Int × Int × Int} (h : SMR S P) (e : Xi P 904 47 = Xi S 904 47) (r : RVB P x) : RVB S x := by
  unfold RVB at r ⊢
  rw [vbR_sm h, rnR_sm h, pR_sm h, pR_sm h, e] at r
  exact r
theorem rvb_of {S : sS} {x0 x1 x2 x3 : Int × Int × Int} (h0 : x0.1 = 0) (y1 : vbR S → x1 = x0) (n1 : ¬ vbR S → x1 = ntF x0 3 (pR S 0)) (y2 : vbR S → 8 ≤ Xi S 904 47 → x2 = ntF x1 9 (pR S 0)) (n2 : ¬ (vbR S ∧ 8 ≤ Xi S 904 47) → x2 = x1) (h3 : x3 = if rnR S 1 8 = -1 then ntF x2 4 (pR S 1) else x2) (p1 : pR S 0 < pR S 1) : RVB S x3 := by
  refine ⟨fun n => ?_, fun n a => ?_, fun n a b => ?_, fun n a b => ?_⟩
  · rw [h3, n2 (fun q => n q.1), n1 n]
    exact ntb_if (ntb_1 h0) (by decide) p1
  · rw [h3, y2 n a, y1 n]
    exact ntb_if (ntb_1 h0) (by decide) p1
  · rw [h3, if_pos b, n2 (fun q => by omega), y1 n]
    exact ntb_1 h0
  · rw [h3, if_neg b, n2 (fun q => by omega), y1 n]
    exact h0
/-- a word told with its mark -/
def TLX (S S1 : sS) (so ix a b c n g : Int) : Prop := ∃ W : sS, TLR S W so ix a b c n ∧ (∀ k j : Nat, (k = 912 ∨ k = 914 ∨ k = 915) → Xi S1 k j = Xi W k j) ∧ (∀ j, Xj S1 913 j = Xj W 913 j) ∧ Xi S1 904 15 = Xi W 904 15 ∧ Xi S1 916 (Xi S 904 15).toNat = g ∧ ∀ j : Nat, j ≠ (Xi S 904 15).toNat → Xi S1 916 j = Xi W 916 j
/-- 7: what the reference does -/
def RD7 (S S1 : sS) : Prop := Xi S1 904 47 = Xi S 904 47 + 1 ∧ (∃ V : sS, TLR S V 9 (Xi S 904 47) (Xj S 910 (Xi S 950 0).toNat) 0 0 1 ∧ TLX V S1 10 (Xi S 904 47) (wsR S) 0 0 1 (if lshrF (Xj S 910 (Xi S 950 0).toNat) 55 = 0 then 0 else 1)) ∧ Xi S1 941 (Xi S 904 47).toNat = rnR S 1 8 ∧ ∀ j : Nat, j ≠ (Xi S 904 47).toNat → Xi S1 941 j = Xi S 941 j
theorem rd7_of {S U A B U2 S1 : sS} {r g w w2 w3 : Int} {l1 l2 : List rec} (e1 : U = uI S 941 (Xi S 904 47).toNat (Int32.ofInt r)) (t1 : TLR U A 9 (Xi S 904 47) w 0 0 1) (F1 : FR l1 U A) (t2 : TLR A B 10 (Xi S 904 47) w2 0 0 1) (F2 : FR l2 A B) (e2 : U2 = uI B 916 (Xi B 904 15 - 1).toNat (Int32.ofInt g)) (e3 : S1 = uI U2 904 47 (Int32.ofInt (Xi S 904 47 + 1))) (h15 : 0 ≤ Xi S 904 15) (hw : w = Xj S 910 (Xi S 950 0).toNat) (hw2 : w2 = wsR S) (hr : r = rnR S 1 8) (hrr : rg r) (hc : 0 ≤ Xi S 904 47 ∧ Xi S 904 47 ≤ 8) (hg : (g = 0 ∧ lshrF w3 55 = 0) ∨ (g = 1 ∧ lshrF w3 55 ≠ 0)) (hw3 : w3 = Xj S 910 (Xi S 950 0).toNat) (a1 : kdis l1 [(941, 942)] = true := by rfl) (a2 : kdis l2 [(941, 942)] = true := by rfl) : RD7 S S1 := by
  have u : ∀ k j : Nat, k ≠ 941 → Xi U k j = Xi S k j := fun k j h => by rw [e1, Xi_ne (by omega)]
  have s : ∀ k j : Nat, k ≠ 916 → k ≠ 904 → Xi S1 k j = Xi B k j := fun k j h1 h2 => by rw [e3, Xi_ne (by omega), e2, Xi_ne (by omega)]
  have c15 : Xi A 904 15 = Xi S 904 15 + 1 := by rw [t1.2.2, u _ _ (by omega)]
  have d15 : Xi B 904 15 = Xi A 904 15 + 1 := t2.2.2
  have ix : (Xi B 904 15 - 1).toNat = (Xi A 904 15).toNat := by omega
  rw [ix] at e2
  refine ⟨?_, ⟨A, ?_, B, ?_, fun k j hk => ?_, fun j => ?_, ?_, ?_, fun j hj => ?_⟩, ?_, fun j hj => ?_⟩
  · rw [e3]; exact Xi_same (by unfold rg; omega)
  · rw [← hw]; exact TLR_pre t1 (fun k j hk => u k j (by omega)) (fun j => by rw [e1, Xj_I]) (u 904 15 (by omega))
  · rw [← hw2]; exact t2
  · exact s k j (by omega) (by omega)
  · rw [e3, Xj_I, e2, Xj_I]
  · rw [e3, Xi_ne (by omega), e2, Xi_ne (by omega)]
  · rw [e3, Xi_ne (by omega), e2, ← hw3]
    refine (Xi_same (by unfold rg; omega)).trans ?_
    rcases hg with ⟨q, q2⟩ | ⟨q, q2⟩
    · rw [if_pos q2, q]
    · rw [if_neg q2, q]
  · rw [e3, Xi_ne (by omega), e2, Xi_ne (by omega)]
  · rw [s _ _ (by omega) (by omega), (F2.smk a2).x 941 rfl, (F1.smk a1).x 941 rfl, e1, ← hr]; exact Xi_same hrr
  · rw [s _ _ (by omega) (by omega), (F2.smk a2).x 941 rfl, (F1.smk a1).x 941 rfl, e1, Xi_ne (by omega)]

theorem rnR_ix {S : sS} {r s : Int} (hx : LXR S) (h15 : 0 ≤ Xi S 904 15) : -1 ≤ rnR S r s ∧ rnR S r s ≤ 63 := by
  unfold rnR msR
  by_cases q : nmR S (Xi S 950 r.toNat) (Xi S 951 r.toNat) ≠ -1 ∧ Xi S 914 (nmR S (Xi S 950 r.toNat) (Xi S 951 r.toNat)).toNat = s
  · have g := nmR_rg (S := S) (t := Xi S 950 r.toNat) (n := Xi S 951 r.toNat) h15
    obtain ⟨_, x2⟩ := hx (nmR S (Xi S 950 r.toNat) (Xi S 951 r.toNat)).toNat (by have := q.1; omega)
    rw [if_pos q]; omega
  · rw [if_neg q]; omega
/-- 17: what the reference does: a new property, a fault, an old one -/
def KHR (S S1 : sS) (k p : Int) : Prop := Xi S1 929 (12 * k + p).toNat = 1 ∧ ∀ j : Nat, j ≠ (12 * k + p).toNat → Xi S1 929 j = Xi S 929 j
theorem khr_of {S P S1 : sS} {k p : Int} (e : S1 = uI P 929 (12 * k + p).toNat (Int32.ofInt 1)) (x : ∀ j, Xi P 929 j = Xi S 929 j) : KHR S S1 k p :=
  ⟨by rw [e]; exact Xi_same (by unfold rg; omega), fun j hj => by rw [e, Xi_ne (by omega)]; exact x j⟩
def RD17 (S S1 : sS) : Prop :=
  (rnR S 2 7 = -1 → Xi S1 904 106 = 0 ∧ Xi S1 904 32 = Xi S 904 32 + 1 ∧ TLW S S1 S 7 (Xi S 904 32) 2 ∧ (Xi S1 928 (Xi S 904 32).toNat = r2R S 1 2 3 ∧ ∀ j : Nat, j ≠ (Xi S 904 32).toNat → Xi S1 928 j = Xi S 928 j) ∧ KHR S S1 (rnR S 0 0) (Xi S 904 32)) ∧
  (rnR S 2 7 ≠ -1 → Xi S 928 (rnR S 2 7).toNat ≠ r2R S 1 2 3 → NTB (NT3 S1) 5 (pR S 0)) ∧
  (rnR S 2 7 ≠ -1 → Xi S 928 (rnR S 2 7).toNat = r2R S 1 2 3 → Xi S1 904 106 = 0 ∧ SMR S S1 ∧ Xi S1 904 32 = Xi S 904 32 ∧ (∀ j, Xi S1 928 j = Xi S 928 j) ∧ KHR S S1 (rnR S 0 0) (rnR S 2 7))
theorem RD17_sm {S P S1 : sS} (h : SMR S P) (e : Xi P 904 32 = Xi S 904 32) (a : ∀ j, Xi P 928 j = Xi S 928 j) (b : ∀ j, Xi P 929 j = Xi S 929 j) (r : RD17 P S1) : RD17 S S1 := by
  obtain ⟨r1, r2, r3⟩ := r
  rw [rnR_sm h, rnR_sm h, r2R_sm h, e] at r1
  rw [rnR_sm h, r2R_sm h, pR_sm h, a] at r2
  rw [rnR_sm h, rnR_sm h, r2R_sm h, e, a] at r3
  refine ⟨fun q => ?_, r2, fun q w => ?_⟩
  · obtain ⟨x1, x2, x3, x4, x5⟩ := r1 q
    refine ⟨x1, x2, ?_, ⟨x4.1, fun j hj => (x4.2 j hj).trans (a j)⟩, x5.1, fun j hj => (x5.2 j hj).trans (b j)⟩
    exact TLW_pre x3 (fun k j hk => h.2.1 k j (by omega)) h.2.2.2 h.1 h.2.2.1 (fun j => h.2.1 _ j (by omega)) (fun j => h.2.1 _ j (by omega))
  · obtain ⟨x1, x2, x3, x4, x5⟩ := r3 q w
    exact ⟨x1, h.tr x2, x3, fun j => (x4 j).trans (a j), x5.1, fun j hj => (x5.2 j hj).trans (b j)⟩
theorem rd17_w {S S1 : sS} (h : rnR S 2 7 ≠ -1) (h2 : Xi S 928 (rnR S 2 7).toNat ≠ r2R S 1 2 3) (w : NTB (NT3 S1) 5 (pR S 0)) : RD17 S S1 :=
  ⟨fun q => absurd q h, fun _ _ => w, fun _ q => absurd q h2⟩
theorem rd17_o {S S1 : sS} {k p : Int} (h : rnR S 2 7 ≠ -1) (h2 : Xi S 928 (rnR S 2 7).toNat = r2R S 1 2 3) (z : Xi S 904 106 = 0) (e : S1 = uI S 929 (12 * k + p).toNat (Int32.ofInt 1)) (hk : k = rnR S 0 0) (hp : p = rnR S 2 7) : RD17 S S1 := by
  subst hk; subst hp
  exact ⟨fun q => absurd q h, fun _ q => absurd h2 q, fun _ _ => ⟨by rw [e, Xi_ne (by omega)]; exact z, SMR_w SMR.rf e (by omega) (by omega), by rw [e, Xi_ne (by omega)], fun j => by rw [e, Xi_ne (by omega)], khr_of e (fun _ => rfl)⟩⟩
theorem rd17_n {S U T V S1 : sS} {k y : Int} {l1 : List rec} (h : rnR S 2 7 = -1) (e1 : U = uI S 928 (Xi S 904 32).toNat (Int32.ofInt y)) (t : TLW U T U 7 (Xi S 904 32) 2) (F : FR l1 U T) (e2 : V = uI T 904 32 (Int32.ofInt (Xi S 904 32 + 1))) (e3 : S1 = uI V 929 (12 * k + Xi S 904 32).toNat (Int32.ofInt 1)) (hk : k = rnR S 0 0) (hy : y = r2R S 1 2 3) (hc : 0 ≤ Xi S 904 32 ∧ Xi S 904 32 ≤ 12) (z : Xi T 904 106 = 0) (hr : rg y) (a1 : kdis l1 [(928, 930)] = true := by rfl) : RD17 S S1 := by
  have g : ∀ i j : Nat, i ≠ 904 → i ≠ 929 → Xi S1 i j = Xi T i j := fun i j h1 h2 => by rw [e3, Xi_ne (by omega), e2, Xi_ne (by omega)]
  have u : ∀ i j : Nat, i ≠ 928 → Xi U i j = Xi S i j := fun i j h1 => by rw [e1, Xi_ne (by omega)]
  refine ⟨fun _ => ⟨?_, ?_, ?_, ⟨?_, fun j hj => ?_⟩, ?_⟩, fun q => absurd h q, fun q => absurd h q⟩
  · rw [e3, Xi_ne (by omega), e2, Xi_ne (by omega)]; exact z
  · rw [e3, Xi_ne (by omega), e2]; exact Xi_same (by unfold rg; omega)
  · have w := TLW_pre (Z := S) t (fun k j hk => u k j (by omega)) (fun j => by rw [e1, Xj_I]) (u 904 15 (by omega)) (fun j => by rw [e1, Xj_I]) (fun j => u 950 j (by omega)) (fun j => u 951 j (by omega))
    exact TLR_post w (fun k j hk => g k j (by omega) (by omega)) (fun j => by rw [e3, Xj_I, e2, Xj_I]) (by rw [e3, Xi_ne (by omega), e2, Xi_ne (by omega)])
  · rw [g _ _ (by omega) (by omega), (F.smk a1).x 928 rfl, e1, ← hy]; exact Xi_same hr
  · rw [g _ _ (by omega) (by omega), (F.smk a1).x 928 rfl, e1, Xi_ne (by omega)]
  · rw [← hk]
    exact khr_of e3 (fun j => by rw [e2, Xi_ne (by omega), (F.smk a1).x 929 rfl, e1, Xi_ne (by omega)])

def md_mo_askVerb__p : List rec := [(904, 905, 104, 105), (904, 905, 105, 106), (904, 905, 106, 107)]
abbrev Q_mo_askVerb__p (S : sS) : pst := fun r S1 => RI S1 ∧ FR md_mo_askVerb__p S S1 ∧ (r = none ∧ (RVB S (NT3 S1)))
set_option maxRecDepth 100000 in
theorem t_mo_askVerb__p {S : sS} (hH : RI S) (hLS : LSP S) (h15 : 0 ≤ Xi S 904 15) (hRB : RBD S) (hz0 : Xi S 904 106 = 0 ∧ Xi S 904 108 = 0) (hp : pR S 0 < pR S 1) (ha : 0 ≤ Xi S 904 47 ∧ Xi S 904 47 ≤ 8) (d : Nat) : Mp lay0 (d + 5) m_mo_askVerb [.ref 904] S (Q_mo_askVerb__p S) := by
  refine Mp_R rfl rfl (fun fu => ?_)
  have hF : FR md_mo_askVerb__p S S := FR.rf
  have w1 : -2147483648 ≤ Xi S 904 104 ∧ Xi S 904 104 ≤ 2147483647 := Xi_rgI
  have w2 : -2147483648 ≤ Xi S 904 105 ∧ Xi S 904 105 ≤ 2147483647 := Xi_rgI
  have w3 : -2147483648 ≤ Xi S 904 106 ∧ Xi S 904 106 ≤ 2147483647 := Xi_rgI
  have w4 : -2147483648 ≤ Xi S 904 108 ∧ Xi S 904 108 ≤ 2147483647 := Xi_rgI
  have w5 : -2147483648 ≤ Xi S 904 15 ∧ Xi S 904 15 ≤ 2147483647 := Xi_rgI
  have w6 : -2147483648 ≤ Xi S 904 47 ∧ Xi S 904 47 ≤ 2147483647 := Xi_rgI
  have w7 : -2147483648 ≤ Xi S 950 0 ∧ Xi S 950 0 ≤ 2147483647 := Xi_rgI
  have C68 : ∀  (v1 : Int) (v2 : Int), (-2147483648 ≤ v1 ∧ v1 ≤ 2147483647) → (0 ≤ v2 ∧ v2 ≤ 1) → (0 ≤ v2 ∧ v2 ≤ 1) → (v1 = Xi S 950 0) → (Hid ((v2 = 1 → vbR S) ∧ (v2 = 0 → ¬ vbR S))) → Pl fu lay0 (d + 4) m_mo_askVerb 68 [(0, .ref 904), (1, iv v1), (2, iv v2)] [] S (Q_mo_askVerb__p S) := by
    intro v1 v2 w8 w9 w10 i68 g68
    refine y_aload_n rfl rfl ?_
    refine y_iload_n rfl rfl ?_
    refine y_iconst rfl ?_
    refine y_iload_n rfl rfl ?_
    refine y_callV rfl rfl rfl (t_mo_need__p hH v2 3 v1 ⟨by omega, by omega⟩ ⟨by omega, by omega⟩ ⟨by omega, by omega⟩ _) ?_
    rintro _ T1 ⟨hHT1, w12, rfl, nt72_⟩
    have hFT1 : FR md_mo_askVerb__p S T1 := FR.tr hF w12 rfl
    show Pl _ _ _ _ _ _ [] _ _
    have Y72 : Hid (vbR S → NT3 T1 = NT3 S) := fun q => by have t := nt72_; rw [if_neg (fun w => g68.o.2 w q)] at t; exact t
    have N72 : Hid (¬ vbR S → NT3 T1 = ntF (NT3 S) 3 (pR S 0)) := fun q => by have t := nt72_; rw [if_pos (by have u : v2 ≠ 1 := fun w => q (g68.o.1 w); omega), i68] at t; exact t
    clear nt72_
    refine y_aload_n rfl rfl ?_
    refine y_iload_n rfl rfl ?_
    refine y_if_eq rfl rfl (by unfold rg; omega) (fun w13 => ?_) (fun w14 => ?_)
    · refine y_iconst rfl ?_
      refine y_goto rfl rfl ?_
      refine y_bipush rfl rfl ?_
      refine y_iload_n rfl rfl ?_
      have w15 : Xi T1 904 108 = Xi S 904 108 := (show Xi T1 904 108 = Xi S 904 108 from w12.x _ _ rfl)
      have w16 : Xi T1 904 15 = Xi S 904 15 := (show Xi T1 904 15 = Xi S 904 15 from w12.x _ _ rfl)
      have w17 : Xi T1 904 47 = Xi S 904 47 := (show Xi T1 904 47 = Xi S 904 47 from w12.x _ _ rfl)
      refine y_callV rfl rfl rfl (t_mo_need__p hHT1 1 9 v1 ⟨by omega, by omega⟩ ⟨by omega, by omega⟩ ⟨by omega, by omega⟩ _) ?_
      rintro _ T2 ⟨hHT2, w19, rfl, nt97_⟩
      have hFT2 : FR md_mo_askVerb__p S T2 := FR.tr hFT1 w19 rfl
      show Pl _ _ _ _ _ _ [] _ _
      have y97 : Hid (vbR S → 8 ≤ Xi S 904 47 → NT3 T2 = ntF (NT3 T1) 9 (pR S 0)) := fun q w => by first | (have t := K93; have t := nt97_; rw [if_pos (show (0 : Int) = 0 from rfl), (hFT1.cx 908 rfl _).1, i68] at t; exact t) | (exfalso; have u : v2 ≠ 0 := fun w => g68.o.2 w q; omega)
      have m97 : Hid (¬ (vbR S ∧ 8 ≤ Xi S 904 47) → NT3 T2 = NT3 T1) := fun q => by first | (have t := K93; exact absurd ⟨g68.o.1 (by omega), by omega⟩ q) | (have t := nt97_; rw [if_neg (show ¬ (1 : Int) = 0 by decide)] at t; exact t)
      clear nt97_
      refine y_aload_n rfl rfl ?_
      refine y_aload_n rfl rfl ?_
      refine y_iconst rfl ?_
      refine y_bipush rfl rfl ?_
      have w20 : Xi T2 904 108 = Xi S 904 108 := (show Xi T2 904 108 = Xi T1 904 108 from w19.x _ _ rfl).trans ((show Xi T1 904 108 = Xi S 904 108 from w12.x _ _ rfl))
      have w21 : Xi T2 904 15 = Xi S 904 15 := (show Xi T2 904 15 = Xi T1 904 15 from w19.x _ _ rfl).trans ((show Xi T1 904 15 = Xi S 904 15 from w12.x _ _ rfl))
      have w22 : Xi T2 904 47 = Xi S 904 47 := (show Xi T2 904 47 = Xi T1 904 47 from w19.x _ _ rfl).trans ((show Xi T1 904 47 = Xi S 904 47 from w12.x _ _ rfl))
      refine y_callV rfl rfl rfl (t_mo_meansRun__p hHT2 1 8 ⟨by omega, by omega⟩ ⟨by omega, by omega⟩ (by first | assumption | exact (LSP_FR hFT2 rfl rfl (by assumption : LSP S))) (by first | assumption | omega) (by first | assumption | exact (RBD_FR hFT2 rfl (by assumption : RBD S))) _) ?_
      rintro _ _ ⟨rfl, z23, rfl, w23, f105⟩
      show Pl _ _ _ _ _ _ [iv z23, .ref 904] _ _
      have K105 : z23 = rnR S 1 8 := by have t := f105; rw [rnR_FR hFT2 rfl rfl] at t; exact t
      clear f105
      refine y_iconst rfl ?_
      refine y_icmp_eq rfl rfl (by unfold rg; omega) (by unfold rg; omega) (fun w24 => ?_) (fun w25 => ?_)
      · refine y_iconst rfl ?_
        refine y_iconst rfl ?_
        refine y_aload_n rfl rfl ?_
        refine y_gfr rfl rfl rfl rfl rfl (hHT2.r 904 67 950 rfl) ?_
        refine y_iconst rfl ?_
        refine y_ialoadP (n := 2600) rfl rfl (by unfold rg; omega) (fun w26 w27 => ?_)
        have w28 : -2147483648 ≤ (Xi T2 950 ((1 : Int).toNat)) ∧ (Xi T2 950 ((1 : Int).toNat)) ≤ 2147483647 := Xi_rgI
        have w29 : (Xi T2 950 ((1 : Int).toNat)) = Xi T2 950 1 := rfl
        refine y_callV rfl rfl rfl (t_mo_need__p hHT2 0 4 (Xi T2 950 ((1 : Int).toNat)) ⟨by omega, by omega⟩ ⟨by omega, by omega⟩ ⟨by omega, by omega⟩ _) ?_
        rintro _ T3 ⟨hHT3, w34, rfl, nt124_⟩
        have hFT3 : FR md_mo_askVerb__p S T3 := FR.tr hFT2 w34 rfl
        show Pl _ _ _ _ _ _ [] _ _
        have n124 : Hid (NT3 T3 = if rnR S 1 8 = -1 then ntF (NT3 T2) 4 (pR S 1) else NT3 T2) := by have t := nt124_; rw [(hFT2.cx 908 rfl _).1, (hFT2.cx 950 rfl _).1] at t; first | (rw [if_pos (show (0 : Int) = 0 from rfl)] at t; rw [if_pos (by omega)]; exact t) | (rw [if_neg (show ¬ (1 : Int) = 0 by decide)] at t; rw [if_neg (by omega)]; exact t)
        clear nt124_
        refine y_return rfl rfl ?_
        exact ⟨hHT3, hFT3, rfl, (rvb_of (S := S) (x0 := NT3 S) hz0.1 Y72.o N72.o y97.o m97.o n124.o hp)⟩
      · refine y_iconst rfl ?_
        refine y_goto rfl rfl ?_
        refine y_iconst rfl ?_
        refine y_aload_n rfl rfl ?_
        refine y_gfr rfl rfl rfl rfl rfl (hHT2.r 904 67 950 rfl) ?_
        refine y_iconst rfl ?_
        refine y_ialoadP (n := 2600) rfl rfl (by unfold rg; omega) (fun w38 w39 => ?_)
        have w40 : -2147483648 ≤ (Xi T2 950 ((1 : Int).toNat)) ∧ (Xi T2 950 ((1 : Int).toNat)) ≤ 2147483647 := Xi_rgI
        have w41 : (Xi T2 950 ((1 : Int).toNat)) = Xi T2 950 1 := rfl
        refine y_callV rfl rfl rfl (t_mo_need__p hHT2 1 4 (Xi T2 950 ((1 : Int).toNat)) ⟨by omega, by omega⟩ ⟨by omega, by omega⟩ ⟨by omega, by omega⟩ _) ?_
        rintro _ T4 ⟨hHT4, w46, rfl, nt124_⟩
        have hFT4 : FR md_mo_askVerb__p S T4 := FR.tr hFT2 w46 rfl
        show Pl _ _ _ _ _ _ [] _ _
        have n124 : Hid (NT3 T4 = if rnR S 1 8 = -1 then ntF (NT3 T2) 4 (pR S 1) else NT3 T2) := by have t := nt124_; rw [(hFT2.cx 908 rfl _).1, (hFT2.cx 950 rfl _).1] at t; first | (rw [if_pos (show (0 : Int) = 0 from rfl)] at t; rw [if_pos (by omega)]; exact t) | (rw [if_neg (show ¬ (1 : Int) = 0 by decide)] at t; rw [if_neg (by omega)]; exact t)
        clear nt124_
        refine y_return rfl rfl ?_
        exact ⟨hHT4, hFT4, rfl, (rvb_of (S := S) (x0 := NT3 S) hz0.1 Y72.o N72.o y97.o m97.o n124.o hp)⟩
    · refine y_aload_n rfl rfl ?_
      refine y_gfi rfl rfl rfl rfl rfl ?_
      have w50 : (Xi T1 904 47) = (Xi S 904 47) := (show Xi T1 904 47 = Xi S 904 47 from w12.x _ _ rfl)
      rw [w50]
      refine y_bipush rfl rfl ?_
      refine y_icmp_ge rfl rfl (by unfold rg; omega) (by unfold rg; omega) (fun w51 => ?_) (fun w52 => ?_)
      · refine y_iconst rfl ?_
        have K93 : True := trivial
        refine y_bipush rfl rfl ?_
        refine y_iload_n rfl rfl ?_
        have w53 : Xi T1 904 108 = Xi S 904 108 := (show Xi T1 904 108 = Xi S 904 108 from w12.x _ _ rfl)
        have w54 : Xi T1 904 15 = Xi S 904 15 := (show Xi T1 904 15 = Xi S 904 15 from w12.x _ _ rfl)
        have w55 : Xi T1 904 47 = Xi S 904 47 := (show Xi T1 904 47 = Xi S 904 47 from w12.x _ _ rfl)
        refine y_callV rfl rfl rfl (t_mo_need__p hHT1 0 9 v1 ⟨by omega, by omega⟩ ⟨by omega, by omega⟩ ⟨by omega, by omega⟩ _) ?_
        rintro _ T5 ⟨hHT5, w57, rfl, nt97_⟩
        have hFT5 : FR md_mo_askVerb__p S T5 := FR.tr hFT1 w57 rfl
        show Pl _ _ _ _ _ _ [] _ _
        have y97 : Hid (vbR S → 8 ≤ Xi S 904 47 → NT3 T5 = ntF (NT3 T1) 9 (pR S 0)) := fun q w => by first | (have t := K93; have t := nt97_; rw [if_pos (show (0 : Int) = 0 from rfl), (hFT1.cx 908 rfl _).1, i68] at t; exact t) | (exfalso; have u : v2 ≠ 0 := fun w => g68.o.2 w q; omega)
        have m97 : Hid (¬ (vbR S ∧ 8 ≤ Xi S 904 47) → NT3 T5 = NT3 T1) := fun q => by first | (have t := K93; exact absurd ⟨g68.o.1 (by omega), by omega⟩ q) | (have t := nt97_; rw [if_neg (show ¬ (1 : Int) = 0 by decide)] at t; exact t)
        clear nt97_
        refine y_aload_n rfl rfl ?_
        refine y_aload_n rfl rfl ?_
        refine y_iconst rfl ?_
        refine y_bipush rfl rfl ?_
        have w58 : Xi T5 904 108 = Xi S 904 108 := (show Xi T5 904 108 = Xi T1 904 108 from w57.x _ _ rfl).trans ((show Xi T1 904 108 = Xi S 904 108 from w12.x _ _ rfl))
        have w59 : Xi T5 904 15 = Xi S 904 15 := (show Xi T5 904 15 = Xi T1 904 15 from w57.x _ _ rfl).trans ((show Xi T1 904 15 = Xi S 904 15 from w12.x _ _ rfl))
        have w60 : Xi T5 904 47 = Xi S 904 47 := (show Xi T5 904 47 = Xi T1 904 47 from w57.x _ _ rfl).trans ((show Xi T1 904 47 = Xi S 904 47 from w12.x _ _ rfl))
        refine y_callV rfl rfl rfl (t_mo_meansRun__p hHT5 1 8 ⟨by omega, by omega⟩ ⟨by omega, by omega⟩ (by first | assumption | exact (LSP_FR hFT5 rfl rfl (by assumption : LSP S))) (by first | assumption | omega) (by first | assumption | exact (RBD_FR hFT5 rfl (by assumption : RBD S))) _) ?_
        rintro _ _ ⟨rfl, z61, rfl, w61, f105⟩
        show Pl _ _ _ _ _ _ [iv z61, .ref 904] _ _
        have K105 : z61 = rnR S 1 8 := by have t := f105; rw [rnR_FR hFT5 rfl rfl] at t; exact t
        clear f105
        refine y_iconst rfl ?_
        refine y_icmp_eq rfl rfl (by unfold rg; omega) (by unfold rg; omega) (fun w62 => ?_) (fun w63 => ?_)
        · refine y_iconst rfl ?_
          refine y_iconst rfl ?_
          refine y_aload_n rfl rfl ?_
          refine y_gfr rfl rfl rfl rfl rfl (hHT5.r 904 67 950 rfl) ?_
          refine y_iconst rfl ?_
          refine y_ialoadP (n := 2600) rfl rfl (by unfold rg; omega) (fun w64 w65 => ?_)
          have w66 : -2147483648 ≤ (Xi T5 950 ((1 : Int).toNat)) ∧ (Xi T5 950 ((1 : Int).toNat)) ≤ 2147483647 := Xi_rgI
          have w67 : (Xi T5 950 ((1 : Int).toNat)) = Xi T5 950 1 := rfl
          refine y_callV rfl rfl rfl (t_mo_need__p hHT5 0 4 (Xi T5 950 ((1 : Int).toNat)) ⟨by omega, by omega⟩ ⟨by omega, by omega⟩ ⟨by omega, by omega⟩ _) ?_
          rintro _ T6 ⟨hHT6, w72, rfl, nt124_⟩
          have hFT6 : FR md_mo_askVerb__p S T6 := FR.tr hFT5 w72 rfl
          show Pl _ _ _ _ _ _ [] _ _
          have n124 : Hid (NT3 T6 = if rnR S 1 8 = -1 then ntF (NT3 T5) 4 (pR S 1) else NT3 T5) := by have t := nt124_; rw [(hFT5.cx 908 rfl _).1, (hFT5.cx 950 rfl _).1] at t; first | (rw [if_pos (show (0 : Int) = 0 from rfl)] at t; rw [if_pos (by omega)]; exact t) | (rw [if_neg (show ¬ (1 : Int) = 0 by decide)] at t; rw [if_neg (by omega)]; exact t)
          clear nt124_
          refine y_return rfl rfl ?_
          exact ⟨hHT6, hFT6, rfl, (rvb_of (S := S) (x0 := NT3 S) hz0.1 Y72.o N72.o y97.o m97.o n124.o hp)⟩
        · refine y_iconst rfl ?_
          refine y_goto rfl rfl ?_
          refine y_iconst rfl ?_
          refine y_aload_n rfl rfl ?_
          refine y_gfr rfl rfl rfl rfl rfl (hHT5.r 904 67 950 rfl) ?_
          refine y_iconst rfl ?_
          refine y_ialoadP (n := 2600) rfl rfl (by unfold rg; omega) (fun w76 w77 => ?_)
          have w78 : -2147483648 ≤ (Xi T5 950 ((1 : Int).toNat)) ∧ (Xi T5 950 ((1 : Int).toNat)) ≤ 2147483647 := Xi_rgI
          have w79 : (Xi T5 950 ((1 : Int).toNat)) = Xi T5 950 1 := rfl
          refine y_callV rfl rfl rfl (t_mo_need__p hHT5 1 4 (Xi T5 950 ((1 : Int).toNat)) ⟨by omega, by omega⟩ ⟨by omega, by omega⟩ ⟨by omega, by omega⟩ _) ?_
          rintro _ T7 ⟨hHT7, w84, rfl, nt124_⟩
          have hFT7 : FR md_mo_askVerb__p S T7 := FR.tr hFT5 w84 rfl
          show Pl _ _ _ _ _ _ [] _ _
          have n124 : Hid (NT3 T7 = if rnR S 1 8 = -1 then ntF (NT3 T5) 4 (pR S 1) else NT3 T5) := by have t := nt124_; rw [(hFT5.cx 908 rfl _).1, (hFT5.cx 950 rfl _).1] at t; first | (rw [if_pos (show (0 : Int) = 0 from rfl)] at t; rw [if_pos (by omega)]; exact t) | (rw [if_neg (show ¬ (1 : Int) = 0 by decide)] at t; rw [if_neg (by omega)]; exact t)
          clear nt124_
          refine y_return rfl rfl ?_
          exact ⟨hHT7, hFT7, rfl, (rvb_of (S := S) (x0 := NT3 S) hz0.1 Y72.o N72.o y97.o m97.o n124.o hp)⟩
      · refine y_iconst rfl ?_
        refine y_goto rfl rfl ?_
        refine y_bipush rfl rfl ?_
        refine y_iload_n rfl rfl ?_
        have w88 : Xi T1 904 108 = Xi S 904 108 := (show Xi T1 904 108 = Xi S 904 108 from w12.x _ _ rfl)
        have w89 : Xi T1 904 15 = Xi S 904 15 := (show Xi T1 904 15 = Xi S 904 15 from w12.x _ _ rfl)
        have w90 : Xi T1 904 47 = Xi S 904 47 := (show Xi T1 904 47 = Xi S 904 47 from w12.x _ _ rfl)
        refine y_callV rfl rfl rfl (t_mo_need__p hHT1 1 9 v1 ⟨by omega, by omega⟩ ⟨by omega, by omega⟩ ⟨by omega, by omega⟩ _) ?_
        rintro _ T8 ⟨hHT8, w92, rfl, nt97_⟩
        have hFT8 : FR md_mo_askVerb__p S T8 := FR.tr hFT1 w92 rfl
        show Pl _ _ _ _ _ _ [] _ _
        have y97 : Hid (vbR S → 8 ≤ Xi S 904 47 → NT3 T8 = ntF (NT3 T1) 9 (pR S 0)) := fun q w => by first | (have t := K93; have t := nt97_; rw [if_pos (show (0 : Int) = 0 from rfl), (hFT1.cx 908 rfl _).1, i68] at t; exact t) | (exfalso; have u : v2 ≠ 0 := fun w => g68.o.2 w q; omega)
        have m97 : Hid (¬ (vbR S ∧ 8 ≤ Xi S 904 47) → NT3 T8 = NT3 T1) := fun q => by first | (have t := K93; exact absurd ⟨g68.o.1 (by omega), by omega⟩ q) | (have t := nt97_; rw [if_neg (show ¬ (1 : Int) = 0 by decide)] at t; exact t)
        clear nt97_
        refine y_aload_n rfl rfl ?_
        refine y_aload_n rfl rfl ?_
        refine y_iconst rfl ?_
        refine y_bipush rfl rfl ?_
        have w93 : Xi T8 904 108 = Xi S 904 108 := (show Xi T8 904 108 = Xi T1 904 108 from w92.x _ _ rfl).trans ((show Xi T1 904 108 = Xi S 904 108 from w12.x _ _ rfl))
        have w94 : Xi T8 904 15 = Xi S 904 15 := (show Xi T8 904 15 = Xi T1 904 15 from w92.x _ _ rfl).trans ((show Xi T1 904 15 = Xi S 904 15 from w12.x _ _ rfl))
        have w95 : Xi T8 904 47 = Xi S 904 47 := (show Xi T8 904 47 = Xi T1 904 47 from w92.x _ _ rfl).trans ((show Xi T1 904 47 = Xi S 904 47 from w12.x _ _ rfl))
        refine y_callV rfl rfl rfl (t_mo_meansRun__p hHT8 1 8 ⟨by omega, by omega⟩ ⟨by omega, by omega⟩ (by first | assumption | exact (LSP_FR hFT8 rfl rfl (by assumption : LSP S))) (by first | assumption | omega) (by first | assumption | exact (RBD_FR hFT8 rfl (by assumption : RBD S))) _) ?_
        rintro _ _ ⟨rfl, z96, rfl, w96, f105⟩
        show Pl _ _ _ _ _ _ [iv z96, .ref 904] _ _
        have K105 : z96 = rnR S 1 8 := by have t := f105; rw [rnR_FR hFT8 rfl rfl] at t; exact t
        clear f105
        refine y_iconst rfl ?_
        refine y_icmp_eq rfl rfl (by unfold rg; omega) (by unfold rg; omega) (fun w97 => ?_) (fun w98 => ?_)
        · refine y_iconst rfl ?_
          refine y_iconst rfl ?_
          refine y_aload_n rfl rfl ?_
          refine y_gfr rfl rfl rfl rfl rfl (hHT8.r 904 67 950 rfl) ?_
          refine y_iconst rfl ?_
          refine y_ialoadP (n := 2600) rfl rfl (by unfold rg; omega) (fun w99 w100 => ?_)
          have w101 : -2147483648 ≤ (Xi T8 950 ((1 : Int).toNat)) ∧ (Xi T8 950 ((1 : Int).toNat)) ≤ 2147483647 := Xi_rgI
          have w102 : (Xi T8 950 ((1 : Int).toNat)) = Xi T8 950 1 := rfl
          refine y_callV rfl rfl rfl (t_mo_need__p hHT8 0 4 (Xi T8 950 ((1 : Int).toNat)) ⟨by omega, by omega⟩ ⟨by omega, by omega⟩ ⟨by omega, by omega⟩ _) ?_
          rintro _ T9 ⟨hHT9, w107, rfl, nt124_⟩
          have hFT9 : FR md_mo_askVerb__p S T9 := FR.tr hFT8 w107 rfl
          show Pl _ _ _ _ _ _ [] _ _
          have n124 : Hid (NT3 T9 = if rnR S 1 8 = -1 then ntF (NT3 T8) 4 (pR S 1) else NT3 T8) := by have t := nt124_; rw [(hFT8.cx 908 rfl _).1, (hFT8.cx 950 rfl _).1] at t; first | (rw [if_pos (show (0 : Int) = 0 from rfl)] at t; rw [if_pos (by omega)]; exact t) | (rw [if_neg (show ¬ (1 : Int) = 0 by decide)] at t; rw [if_neg (by omega)]; exact t)
          clear nt124_
          refine y_return rfl rfl ?_
          exact ⟨hHT9, hFT9, rfl, (rvb_of (S := S) (x0 := NT3 S) hz0.1 Y72.o N72.o y97.o m97.o n124.o hp)⟩
        · refine y_iconst rfl ?_
          refine y_goto rfl rfl ?_
          refine y_iconst rfl ?_
          refine y_aload_n rfl rfl ?_
          refine y_gfr rfl rfl rfl rfl rfl (hHT8.r 904 67 950 rfl) ?_
          refine y_iconst rfl ?_
          refine y_ialoadP (n := 2600) rfl rfl (by unfold rg; omega) (fun w111 w112 => ?_)
          have w113 : -2147483648 ≤ (Xi T8 950 ((1 : Int).toNat)) ∧ (Xi T8 950 ((1 : Int).toNat)) ≤ 2147483647 := Xi_rgI
          have w114 : (Xi T8 950 ((1 : Int).toNat)) = Xi T8 950 1 := rfl
          refine y_callV rfl rfl rfl (t_mo_need__p hHT8 1 4 (Xi T8 950 ((1 : Int).toNat)) ⟨by omega, by omega⟩ ⟨by omega, by omega⟩ ⟨by omega, by omega⟩ _) ?_
          rintro _ T10 ⟨hHT10, w119, rfl, nt124_⟩
          have hFT10 : FR md_mo_askVerb__p S T10 := FR.tr hFT8 w119 rfl
          show Pl _ _ _ _ _ _ [] _ _
          have n124 : Hid (NT3 T10 = if rnR S 1 8 = -1 then ntF (NT3 T8) 4 (pR S 1) else NT3 T8) := by have t := nt124_; rw [(hFT8.cx 908 rfl _).1, (hFT8.cx 950 rfl _).1] at t; first | (rw [if_pos (show (0 : Int) = 0 from rfl)] at t; rw [if_pos (by omega)]; exact t) | (rw [if_neg (show ¬ (1 : Int) = 0 by decide)] at t; rw [if_neg (by omega)]; exact t)
          clear nt124_
          refine y_return rfl rfl ?_
          exact ⟨hHT10, hFT10, rfl, (rvb_of (S := S) (x0 := NT3 S) hz0.1 Y72.o N72.o y97.o m97.o n124.o hp)⟩
  refine y_aload_n rfl rfl ?_
  refine y_gfr rfl rfl rfl rfl rfl (hH.r 904 67 950 rfl) ?_
  refine y_iconst rfl ?_
  refine y_ialoadP (n := 2600) rfl rfl (by unfold rg; omega) (fun w123 w124 => ?_)
  have w125 : -2147483648 ≤ (Xi S 950 ((0 : Int).toNat)) ∧ (Xi S 950 ((0 : Int).toNat)) ≤ 2147483647 := Xi_rgI
  have w126 : (Xi S 950 ((0 : Int).toNat)) = Xi S 950 0 := rfl
  refine y_istore_n rfl rfl rfl ?_
  refine y_aload_n rfl rfl ?_
  refine y_gfr rfl rfl rfl rfl rfl (hH.r 904 68 951 rfl) ?_
  refine y_iconst rfl ?_
  refine y_ialoadP (n := 2600) rfl rfl (by unfold rg; omega) (fun w127 w128 => ?_)
  have w129 : -2147483648 ≤ (Xi S 951 ((0 : Int).toNat)) ∧ (Xi S 951 ((0 : Int).toNat)) ≤ 2147483647 := Xi_rgI
  have w130 : (Xi S 951 ((0 : Int).toNat)) = Xi S 951 0 := rfl
  refine y_iconst rfl ?_
  refine y_icmp_ne rfl rfl (by unfold rg; omega) (by unfold rg; omega) (fun w131 => ?_) (fun w132 => ?_)
  · refine y_iconst rfl ?_
    refine y_istore_n rfl rfl rfl ?_
    exact Pl_weak (C68 ((Xi S 950 ((0 : Int).toNat))) (0) (by omega) (by omega) (by omega) (by first | assumption | omega) (by first | (have t := K55; exact vbr_d (by omega) K25 (by omega : lshrF (Xj S 910 ((Xi S 950 ((0 : Int).toNat)).toNat)) 55 = 0) f55 (by omega)) | (have t := K25; exact vbr_c (by omega) K25 (by omega : lshrF (Xj S 910 ((Xi S 950 ((0 : Int).toNat)).toNat)) 55 ≠ 0) rfl) | (have t := K17; exact vbr_b (fun q => f19_.o.2 (by omega) (q19.o.2 q)) rfl) | exact vbr_a (by omega) rfl)) (by omega) (And.intro rfl (And.intro rfl (And.intro rfl (True.intro))))
  · refine y_aload_n rfl rfl ?_
    have K17 : True := trivial
    refine y_iconst rfl ?_
    refine y_callV rfl rfl rfl (t_mo_isNew__p hH 0 ⟨by omega, by omega⟩ (by first | assumption | exact (LSP_FR hF rfl rfl (by assumption : LSP S))) (by first | assumption | omega) (by first | assumption | exact (RBD_FR hF rfl (by assumption : RBD S))) (by first | assumption | omega) _) ?_
    rintro _ _ ⟨rfl, z133, rfl, w133, f19⟩
    show Pl _ _ _ _ _ _ [iv z133] _ _
    have q19 : Hid (nwR S 0 ↔ nwR0 S 0) := nwR_0 (fun _ => rfl) rfl hz0.2
    have f19_ : Hid _ := f19
    clear f19
    refine y_if_eq rfl rfl (by unfold rg; omega) (fun w134 => ?_) (fun w135 => ?_)
    · refine y_iconst rfl ?_
      refine y_istore_n rfl rfl rfl ?_
      exact Pl_weak (C68 ((Xi S 950 ((0 : Int).toNat))) (0) (by omega) (by omega) (by omega) (by first | assumption | omega) (by first | (have t := K55; exact vbr_d (by omega) K25 (by omega : lshrF (Xj S 910 ((Xi S 950 ((0 : Int).toNat)).toNat)) 55 = 0) f55 (by omega)) | (have t := K25; exact vbr_c (by omega) K25 (by omega : lshrF (Xj S 910 ((Xi S 950 ((0 : Int).toNat)).toNat)) 55 ≠ 0) rfl) | (have t := K17; exact vbr_b (fun q => f19_.o.2 (by omega) (q19.o.2 q)) rfl) | exact vbr_a (by omega) rfl)) (by omega) (And.intro rfl (And.intro rfl (And.intro rfl (True.intro))))
    · refine y_aload_n rfl rfl ?_
      have K25 : nwR0 S 0 := q19.o.1 (f19_.o.1 (by omega))
      refine y_gfr rfl rfl rfl rfl rfl (hH.r 904 7 910 rfl) ?_
      refine y_iload_n rfl rfl ?_
      refine y_laloadP (n := 5002) rfl rfl (by unfold rg; omega) (fun w136 w137 => ?_)
      have w138 : -9223372036854775808 ≤ (Xj S 910 (((Xi S 950 ((0 : Int).toNat))).toNat)) ∧ (Xj S 910 (((Xi S 950 ((0 : Int).toNat))).toNat)) < 9223372036854775808 := Xj_rg
      refine y_bipush rfl rfl ?_
      refine y_lshrF rfl ?_
      have w139 : rgL (lshrF (Xj S 910 (((Xi S 950 ((0 : Int).toNat))).toNat)) 55) := lshrF_rg
      refine y_lconst (z := 0) rfl rfl ?_
      refine y_lcmp rfl (by first | assumption | (unfold rgL; omega)) (by first | assumption | (unfold rgL; omega)) (fun c140 w140 w140a w140b w140c => ?_)
      refine y_if_ne rfl rfl (by unfold rg; omega) (fun w141 => ?_) (fun w142 => ?_)
      · refine y_iconst rfl ?_
        refine y_goto rfl rfl ?_
        refine y_istore_n rfl rfl rfl ?_
        exact Pl_weak (C68 ((Xi S 950 ((0 : Int).toNat))) (1) (by omega) (by omega) (by omega) (by first | assumption | omega) (by first | (have t := K55; exact vbr_d (by omega) K25 (by omega : lshrF (Xj S 910 ((Xi S 950 ((0 : Int).toNat)).toNat)) 55 = 0) f55 (by omega)) | (have t := K25; exact vbr_c (by omega) K25 (by omega : lshrF (Xj S 910 ((Xi S 950 ((0 : Int).toNat)).toNat)) 55 ≠ 0) rfl) | (have t := K17; exact vbr_b (fun q => f19_.o.2 (by omega) (q19.o.2 q)) rfl) | exact vbr_a (by omega) rfl)) (by omega) (And.intro rfl (And.intro rfl (And.intro rfl (True.intro))))
      · refine y_aload_n rfl rfl ?_
        refine y_aload_n rfl rfl ?_
        refine y_gfr rfl rfl rfl rfl rfl (hH.r 904 7 910 rfl) ?_
        refine y_iload_n rfl rfl ?_
        refine y_laloadP (n := 5002) rfl rfl (by unfold rg; omega) (fun w143 w144 => ?_)
        refine y_iconst rfl ?_
        refine y_lshlF rfl ?_
        have w146 : rgL (lshlF (Xj S 910 (((Xi S 950 ((0 : Int).toNat))).toNat)) 5) := lshlF_rg
        refine y_ldc2 (z := 19) rfl rfl ?_
        refine y_lorF rfl ?_
        have w147 : rgL (lorF (lshlF (Xj S 910 (((Xi S 950 ((0 : Int).toNat))).toNat)) 5) 19) := lorF_rg
        refine y_lconst (z := 0) rfl rfl ?_
        refine y_lconst (z := 0) rfl rfl ?_
        refine y_iconst rfl ?_
        refine y_callV rfl rfl rfl (t_mo_find__p hH (lorF (lshlF (Xj S 910 (((Xi S 950 ((0 : Int).toNat))).toNat)) 5) 19) 0 0 1 ⟨by omega, by omega⟩ (by first | assumption | exact Xj_rg | (unfold rgL; omega)) (by first | assumption | exact Xj_rg | (unfold rgL; omega)) (by first | assumption | exact Xj_rg | (unfold rgL; omega)) (by first | assumption | omega) (by first | assumption | exact (LSP_FR hF rfl rfl (by assumption : LSP S))) _) ?_
        rintro _ _ ⟨rfl, z148, rfl, w148, f55⟩
        show Pl _ _ _ _ _ _ [iv z148] _ _
        have K55 : True := trivial
        refine y_iconst rfl ?_
        refine y_icmp_ne rfl rfl (by unfold rg; omega) (by unfold rg; omega) (fun w149 => ?_) (fun w150 => ?_)
        · refine y_iconst rfl ?_
          refine y_istore_n rfl rfl rfl ?_
          exact Pl_weak (C68 ((Xi S 950 ((0 : Int).toNat))) (0) (by omega) (by omega) (by omega) (by first | assumption | omega) (by first | (have t := K55; exact vbr_d (by omega) K25 (by omega : lshrF (Xj S 910 ((Xi S 950 ((0 : Int).toNat)).toNat)) 55 = 0) f55 (by omega)) | (have t := K25; exact vbr_c (by omega) K25 (by omega : lshrF (Xj S 910 ((Xi S 950 ((0 : Int).toNat)).toNat)) 55 ≠ 0) rfl) | (have t := K17; exact vbr_b (fun q => f19_.o.2 (by omega) (q19.o.2 q)) rfl) | exact vbr_a (by omega) rfl)) (by omega) (And.intro rfl (And.intro rfl (And.intro rfl (True.intro))))
        · refine y_iconst rfl ?_
          refine y_goto rfl rfl ?_
          refine y_istore_n rfl rfl rfl ?_
          exact Pl_weak (C68 ((Xi S 950 ((0 : Int).toNat))) (1) (by omega) (by omega) (by omega) (by first | assumption | omega) (by first | (have t := K55; exact vbr_d (by omega) K25 (by omega : lshrF (Xj S 910 ((Xi S 950 ((0 : Int).toNat)).toNat)) 55 = 0) f55 (by omega)) | (have t := K25; exact vbr_c (by omega) K25 (by omega : lshrF (Xj S 910 ((Xi S 950 ((0 : Int).toNat)).toNat)) 55 ≠ 0) rfl) | (have t := K17; exact vbr_b (fun q => f19_.o.2 (by omega) (q19.o.2 q)) rfl) | exact vbr_a (by omega) rfl)) (by omega) (And.intro rfl (And.intro rfl (And.intro rfl (True.intro))))
def md_mo_asked__7 : List rec := [(904, 905, 64, 65), (904, 905, 104, 105), (904, 905, 105, 106), (904, 905, 106, 107), (904, 905, 108, 109), (904, 905, 109, 110), (904, 905, 110, 111), (904, 905, 112, 113), (904, 905, 113, 114), (904, 905, 115, 116), (904, 905, 116, 117), (904, 905, 117, 118), (904, 905, 125, 126), (904, 905, 128, 129), (904, 905, 129, 130), (904, 905, 130, 131), (904, 905, 142, 143), (904, 905, 144, 145), (904, 905, 146, 147), (904, 905, 147, 148), (904, 905, 150, 151), (904, 905, 151, 152), (904, 905, 153, 154), (904, 905, 154, 155), (904, 905, 156, 157), (904, 905, 157, 158), (904, 905, 158, 159), (904, 905, 160, 161), (966, 967, 0, 100000), (967, 968, 0, 100000), (968, 969, 0, 100000), (969, 970, 0, 100000), (970, 971, 0, 100000), (971, 972, 0, 100000), (972, 973, 0, 100000), (973, 974, 0, 100000), (974, 975, 0, 100000), (975, 976, 0, 100000), (976, 977, 0, 100000), (977, 978, 0, 100000), (978, 979, 0, 100000), (979, 980, 0, 100000), (980, 981, 0, 100000), (981, 982, 0, 100000), (982, 983, 0, 100000), (983, 984, 0, 100000), (984, 985, 0, 100000), (985, 986, 0, 100000), (986, 987, 0, 100000), (987, 988, 0, 100000), (988, 989, 0, 100000), (989, 990, 0, 100000), (990, 991, 0, 100000), (991, 992, 0, 100000), (992, 993, 0, 100000), (993, 994, 0, 100000), (994, 995, 0, 100000)]
abbrev Q_mo_asked__7 (S : sS) (first : Int) : pst := fun r S1 => RI S1 ∧ FR md_mo_asked__7 S S1 ∧ (r = none ∧ (RVB S (NT3 S1)))
set_option maxRecDepth 100000 in
theorem t_mo_asked__7 {S : sS} (hH : RI S) (first : Int) (hfirst : 0 ≤ first ∧ first ≤ 5001) (hLS : LSP S) (h15 : 0 ≤ Xi S 904 15) (hRB : RBD S) (hs : Xi S 904 70 = 7) (hp : pR S 0 < pR S 1) (ha : 0 ≤ Xi S 904 47 ∧ Xi S 904 47 ≤ 8) (d : Nat) : Mp lay0 (d + 13) m_mo_asked [.ref 904, iv first] S (Q_mo_asked__7 S first) := by
  refine Mp_R rfl rfl (fun fu => ?_)
  have hF : FR md_mo_asked__7 S S := FR.rf
  have w1 : -2147483648 ≤ Xi S 904 104 ∧ Xi S 904 104 ≤ 2147483647 := Xi_rgI
  have w2 : -2147483648 ≤ Xi S 904 105 ∧ Xi S 904 105 ≤ 2147483647 := Xi_rgI
  have w3 : -2147483648 ≤ Xi S 904 106 ∧ Xi S 904 106 ≤ 2147483647 := Xi_rgI
  have w4 : -2147483648 ≤ Xi S 904 108 ∧ Xi S 904 108 ≤ 2147483647 := Xi_rgI
  have w5 : -2147483648 ≤ Xi S 904 15 ∧ Xi S 904 15 ≤ 2147483647 := Xi_rgI
  have w6 : -2147483648 ≤ Xi S 904 47 ∧ Xi S 904 47 ≤ 2147483647 := Xi_rgI
  have w7 : -2147483648 ≤ Xi S 904 70 ∧ Xi S 904 70 ≤ 2147483647 := Xi_rgI
  refine y_aload_n rfl rfl ?_
  refine y_iconst rfl ?_
  refine y_pfi rfl rfl rfl rfl ?_
  obtain ⟨U1, eU1⟩ : ∃ T : sS, T = uI S 904 106 (Int32.ofInt 0) := ⟨_, rfl⟩
  rw [← eU1]
  have hHU1 : RI U1 := by rw [eU1]; exact RI_w hH
  have hFU1 : FR md_mo_asked__7 S U1 := by rw [eU1]; exact FR.wI hF (mdf_i (r := (904, 905, 106, 107)) (List.mem_of_getElem? (i := 3) rfl) (inR_i (by omega) (by omega) (by omega) (by omega)))
  have w8 : Xi U1 904 106 = 0 := by rw [eU1]; exact Xi_same (by unfold rg; omega)
  refine y_aload_n rfl rfl ?_
  refine y_iconst rfl ?_
  refine y_pfi rfl rfl rfl rfl ?_
  obtain ⟨U2, eU2⟩ : ∃ T : sS, T = uI U1 904 108 (Int32.ofInt 0) := ⟨_, rfl⟩
  rw [← eU2]
  have hHU2 : RI U2 := by rw [eU2]; exact RI_w hHU1
  have hFU2 : FR md_mo_asked__7 S U2 := by rw [eU2]; exact FR.wI hFU1 (mdf_i (r := (904, 905, 108, 109)) (List.mem_of_getElem? (i := 4) rfl) (inR_i (by omega) (by omega) (by omega) (by omega)))
  have w9 : Xi U2 904 108 = 0 := by rw [eU2]; exact Xi_same (by unfold rg; omega)
  refine y_aload_n rfl rfl ?_
  refine y_iconst rfl ?_
  refine y_pfi rfl rfl rfl rfl ?_
  obtain ⟨U3, eU3⟩ : ∃ T : sS, T = uI U2 904 115 (Int32.ofInt (-1)) := ⟨_, rfl⟩
  rw [← eU3]
  have hHU3 : RI U3 := by rw [eU3]; exact RI_w hHU2
  have hFU3 : FR md_mo_asked__7 S U3 := by rw [eU3]; exact FR.wI hFU2 (mdf_i (r := (904, 905, 115, 116)) (List.mem_of_getElem? (i := 9) rfl) (inR_i (by omega) (by omega) (by omega) (by omega)))
  have w10 : Xi U3 904 115 = (-1) := by rw [eU3]; exact Xi_same (by unfold rg; omega)
  refine y_aload_n rfl rfl ?_
  refine y_iconst rfl ?_
  refine y_pfi rfl rfl rfl rfl ?_
  obtain ⟨U4, eU4⟩ : ∃ T : sS, T = uI U3 904 116 (Int32.ofInt (-1)) := ⟨_, rfl⟩
  rw [← eU4]
  have hHU4 : RI U4 := by rw [eU4]; exact RI_w hHU3
  have hFU4 : FR md_mo_asked__7 S U4 := by rw [eU4]; exact FR.wI hFU3 (mdf_i (r := (904, 905, 116, 117)) (List.mem_of_getElem? (i := 10) rfl) (inR_i (by omega) (by omega) (by omega) (by omega)))
  have w11 : Xi U4 904 116 = (-1) := by rw [eU4]; exact Xi_same (by unfold rg; omega)
  refine y_aload_n rfl rfl ?_
  refine y_gfi rfl rfl rfl rfl rfl ?_
  have w12 : (Xi U4 904 70) = (Xi S 904 70) := (show Xi U4 904 70 = Xi U3 904 70 from by rw [eU4]; exact Xi_ne (by omega)).trans ( (show Xi U3 904 70 = Xi U2 904 70 from by rw [eU3]; exact Xi_ne (by omega)).trans ( (show Xi U2 904 70 = Xi U1 904 70 from by rw [eU2]; exact Xi_ne (by omega)).trans ((show Xi U1 904 70 = Xi S 904 70 from by rw [eU1]; exact Xi_ne (by omega)))))
  rw [w12]
  refine y_tsw rfl rfl rfl rfl (by unfold rg; omega) (fun w13 => ?_) (fun ii tt hii w13 => ?_)
  · exfalso; omega
  · match ii, hii with
    | 0, hii =>
      cases hii
      have w14 : (Xi S 904 70) = 0 := by simpa using w13
      exfalso; omega
    | 1, hii =>
      cases hii
      have w15 : (Xi S 904 70) = 1 := by simpa using w13
      exfalso; omega
    | 2, hii =>
      cases hii
      have w16 : (Xi S 904 70) = 2 := by simpa using w13
      exfalso; omega
    | 3, hii =>
      cases hii
      have w17 : (Xi S 904 70) = 3 := by simpa using w13
      exfalso; omega
    | 4, hii =>
      cases hii
      have w18 : (Xi S 904 70) = 4 := by simpa using w13
      exfalso; omega
    | 5, hii =>
      cases hii
      have w19 : (Xi S 904 70) = 5 := by simpa using w13
      exfalso; omega
    | 6, hii =>
      cases hii
      have w20 : (Xi S 904 70) = 6 := by simpa using w13
      exfalso; omega
    | 7, hii =>
      cases hii
      have w21 : (Xi S 904 70) = 7 := by simpa using w13
      refine y_aload_n rfl rfl ?_
      have w22 : Xi U4 904 104 = Xi S 904 104 := (show Xi U4 904 104 = Xi U3 904 104 from by rw [eU4]; exact Xi_ne (by omega)).trans ( (show Xi U3 904 104 = Xi U2 904 104 from by rw [eU3]; exact Xi_ne (by omega)).trans ( (show Xi U2 904 104 = Xi U1 904 104 from by rw [eU2]; exact Xi_ne (by omega)).trans ((show Xi U1 904 104 = Xi S 904 104 from by rw [eU1]; exact Xi_ne (by omega)))))
      have w23 : Xi U4 904 105 = Xi S 904 105 := (show Xi U4 904 105 = Xi U3 904 105 from by rw [eU4]; exact Xi_ne (by omega)).trans ( (show Xi U3 904 105 = Xi U2 904 105 from by rw [eU3]; exact Xi_ne (by omega)).trans ( (show Xi U2 904 105 = Xi U1 904 105 from by rw [eU2]; exact Xi_ne (by omega)).trans ((show Xi U1 904 105 = Xi S 904 105 from by rw [eU1]; exact Xi_ne (by omega)))))
      have w24 : Xi U4 904 106 = Xi U1 904 106 := (show Xi U4 904 106 = Xi U3 904 106 from by rw [eU4]; exact Xi_ne (by omega)).trans ( (show Xi U3 904 106 = Xi U2 904 106 from by rw [eU3]; exact Xi_ne (by omega)).trans ((show Xi U2 904 106 = Xi U1 904 106 from by rw [eU2]; exact Xi_ne (by omega))))
      have w25 : Xi U4 904 108 = Xi U2 904 108 := (show Xi U4 904 108 = Xi U3 904 108 from by rw [eU4]; exact Xi_ne (by omega)).trans ((show Xi U3 904 108 = Xi U2 904 108 from by rw [eU3]; exact Xi_ne (by omega)))
      have w26 : Xi U4 904 15 = Xi S 904 15 := (show Xi U4 904 15 = Xi U3 904 15 from by rw [eU4]; exact Xi_ne (by omega)).trans ( (show Xi U3 904 15 = Xi U2 904 15 from by rw [eU3]; exact Xi_ne (by omega)).trans ( (show Xi U2 904 15 = Xi U1 904 15 from by rw [eU2]; exact Xi_ne (by omega)).trans ((show Xi U1 904 15 = Xi S 904 15 from by rw [eU1]; exact Xi_ne (by omega)))))
      have w27 : Xi U4 904 47 = Xi S 904 47 := (show Xi U4 904 47 = Xi U3 904 47 from by rw [eU4]; exact Xi_ne (by omega)).trans ( (show Xi U3 904 47 = Xi U2 904 47 from by rw [eU3]; exact Xi_ne (by omega)).trans ( (show Xi U2 904 47 = Xi U1 904 47 from by rw [eU2]; exact Xi_ne (by omega)).trans ((show Xi U1 904 47 = Xi S 904 47 from by rw [eU1]; exact Xi_ne (by omega)))))
      have w28 : Xi U4 904 70 = Xi S 904 70 := (show Xi U4 904 70 = Xi U3 904 70 from by rw [eU4]; exact Xi_ne (by omega)).trans ( (show Xi U3 904 70 = Xi U2 904 70 from by rw [eU3]; exact Xi_ne (by omega)).trans ( (show Xi U2 904 70 = Xi U1 904 70 from by rw [eU2]; exact Xi_ne (by omega)).trans ((show Xi U1 904 70 = Xi S 904 70 from by rw [eU1]; exact Xi_ne (by omega)))))
      refine y_callV rfl rfl rfl (t_mo_askVerb__p hHU4 (by first | assumption | exact (LSP_FR hFU4 rfl rfl (by assumption : LSP S))) (by first | assumption | omega) (by first | assumption | exact (RBD_FR hFU4 rfl (by assumption : RBD S))) (⟨by omega, by omega⟩) (by rw [pR_sm (SMR_FR hFU4 rfl rfl), pR_sm (SMR_FR hFU4 rfl rfl)]; exact hp) (by first | assumption | omega) _) ?_
      rintro _ T5 ⟨hHT5, w30, rfl, o184⟩
      have hFT5 : FR md_mo_asked__7 S T5 := FR.tr hFU4 w30 rfl
      show Pl _ _ _ _ _ _ [] _ _
      have O184 : RVB S (NT3 T5) := RVB_sm (SMR_FR hFU4 rfl rfl) (hFU4.x 904 47 rfl) o184
      refine y_goto rfl rfl ?_
      refine y_return rfl rfl ?_
      exact ⟨hHT5, hFT5, rfl, (O184)⟩
    | 8, hii =>
      cases hii
      have w35 : (Xi S 904 70) = 8 := by simpa using w13
      exfalso; omega
    | 9, hii =>
      cases hii
      have w36 : (Xi S 904 70) = 9 := by simpa using w13
      exfalso; omega
    | 10, hii =>
      cases hii
      have w37 : (Xi S 904 70) = 10 := by simpa using w13
      exfalso; omega
    | 11, hii =>
      cases hii
      have w38 : (Xi S 904 70) = 11 := by simpa using w13
      exfalso; omega
    | 12, hii =>
      cases hii
      have w39 : (Xi S 904 70) = 12 := by simpa using w13
      exfalso; omega
    | 13, hii =>
      cases hii
      have w40 : (Xi S 904 70) = 13 := by simpa using w13
      exfalso; omega
    | 14, hii =>
      cases hii
      have w41 : (Xi S 904 70) = 14 := by simpa using w13
      exfalso; omega
    | 15, hii =>
      cases hii
      have w42 : (Xi S 904 70) = 15 := by simpa using w13
      exfalso; omega
    | 16, hii =>
      cases hii
      have w43 : (Xi S 904 70) = 16 := by simpa using w13
      exfalso; omega
    | 17, hii =>
      cases hii
      have w44 : (Xi S 904 70) = 17 := by simpa using w13
      exfalso; omega
    | 18, hii =>
      cases hii
      have w45 : (Xi S 904 70) = 18 := by simpa using w13
      exfalso; omega
    | 19, hii =>
      cases hii
      have w46 : (Xi S 904 70) = 19 := by simpa using w13
      exfalso; omega
    | 20, hii =>
      cases hii
      have w47 : (Xi S 904 70) = 20 := by simpa using w13
      exfalso; omega
    | n + 21, hii => exact absurd hii (by simp)
def md_mo_does__7 : List rec := [(904, 905, 15, 16), (904, 905, 16, 17), (904, 905, 18, 19), (904, 905, 19, 20), (904, 905, 23, 24), (904, 905, 30, 31), (904, 905, 32, 33), (904, 905, 41, 42), (904, 905, 47, 48), (904, 905, 49, 50), (904, 905, 51, 52), (904, 905, 55, 56), (904, 905, 60, 61), (904, 905, 64, 65), (904, 905, 73, 74), (904, 905, 105, 106), (904, 905, 106, 107), (904, 905, 113, 114), (904, 905, 117, 118), (912, 913, 0, 100000), (913, 914, 0, 100000), (914, 915, 0, 100000), (915, 916, 0, 100000), (916, 917, 0, 100000), (917, 918, 0, 100000), (918, 919, 0, 100000), (919, 920, 0, 100000), (920, 921, 0, 100000), (921, 922, 0, 100000), (922, 923, 0, 100000), (923, 924, 0, 100000), (924, 925, 0, 100000), (925, 926, 0, 100000), (926, 927, 0, 100000), (927, 928, 0, 100000), (928, 929, 0, 100000), (929, 930, 0, 100000), (930, 931, 0, 100000), (931, 932, 0, 100000), (932, 933, 0, 100000), (933, 934, 0, 100000), (934, 935, 0, 100000), (935, 936, 0, 100000), (936, 937, 0, 100000), (937, 938, 0, 100000), (938, 939, 0, 100000), (939, 940, 0, 100000), (940, 941, 0, 100000), (941, 942, 0, 100000), (942, 943, 0, 100000), (943, 944, 0, 100000), (944, 945, 0, 100000), (945, 946, 0, 100000), (946, 947, 0, 100000), (947, 948, 0, 100000), (948, 949, 0, 100000), (949, 950, 0, 100000)]
abbrev Q_mo_does__7 (S : sS) (first : Int) : pst := fun r S1 => RI S1 ∧ FR md_mo_does__7 S S1 ∧ (r = none ∧ (RD7 S S1))
set_option maxRecDepth 100000 in
theorem t_mo_does__7 {S : sS} (hH : RI S) (first : Int) (hfirst : 0 ≤ first ∧ first ≤ 5001) (hLS : LSP S) (h15 : 0 ≤ Xi S 904 15) (hRB : RBD S) (hs : Xi S 904 70 = 7) (ha : 0 ≤ Xi S 904 47 ∧ Xi S 904 47 ≤ 8) (d : Nat) : Mp lay0 (d + 8) m_mo_does [.ref 904, iv first] S (Q_mo_does__7 S first) := by
  refine Mp_R rfl rfl (fun fu => ?_)
  have hF : FR md_mo_does__7 S S := FR.rf
  have w1 : -2147483648 ≤ Xi S 904 15 ∧ Xi S 904 15 ≤ 2147483647 := Xi_rgI
  have w2 : -2147483648 ≤ Xi S 904 47 ∧ Xi S 904 47 ≤ 2147483647 := Xi_rgI
  have w3 : -2147483648 ≤ Xi S 904 70 ∧ Xi S 904 70 ≤ 2147483647 := Xi_rgI
  have C300 : ∀ (n300 : Nat) (_ : n300 ≤ fu) (T1 : sS) (_ : RI T1) (_ : FR md_mo_does__7 S T1) (v2 : Int), (-2147483648 ≤ v2 ∧ v2 ≤ 2147483647) → ((1 : Int) = 0) → Pl n300 lay0 (d + 7) m_mo_does 300 [(0, .ref 904), (2, iv v2)] [] T1 (Q_mo_does__7 S first) := by
    intro n300
    induction n300 with
    | zero => intros; exact Pl_0
    | succ n300 ih300 =>
      intro hm300 T1 hHT1 hFT1 v2 w4 w5
      have w6 : Xi T1 904 110 = Xi S 904 110 := hFT1.x _ _ rfl
      have w7 : Xi T1 904 112 = Xi S 904 112 := hFT1.x _ _ rfl
      have w8 : Xi T1 904 142 = Xi S 904 142 := hFT1.x _ _ rfl
      have w9 : Xi T1 904 69 = Xi S 904 69 := hFT1.x _ _ rfl
      have w10 : Xi T1 904 70 = Xi S 904 70 := hFT1.x _ _ rfl
      have w11 : Xi T1 904 71 = Xi S 904 71 := hFT1.x _ _ rfl
      have w12 : Xi T1 904 72 = Xi S 904 72 := hFT1.x _ _ rfl
      have w13 : Xi T1 904 74 = Xi S 904 74 := hFT1.x _ _ rfl
      have w14 : Xi T1 904 78 = Xi S 904 78 := hFT1.x _ _ rfl
      have w15 : Xi T1 904 94 = Xi S 904 94 := hFT1.x _ _ rfl
      have w16 : Xi T1 951 1 = Xi S 951 1 := hFT1.x _ _ rfl
      have w17 : Xi T1 951 2 = Xi S 951 2 := hFT1.x _ _ rfl
      have w18 : Xi T1 967 0 = Xi S 967 0 := hFT1.x _ _ rfl
      have w19 : -2147483648 ≤ Xi T1 904 15 ∧ Xi T1 904 15 ≤ 2147483647 := Xi_rgI
      have w20 : -2147483648 ≤ Xi T1 904 47 ∧ Xi T1 904 47 ≤ 2147483647 := Xi_rgI
      have w21 : -2147483648 ≤ Xi T1 904 70 ∧ Xi T1 904 70 ≤ 2147483647 := Xi_rgI
      exfalso; omega
  refine y_aload_n rfl rfl ?_
  refine y_gfi rfl rfl rfl rfl rfl ?_
  refine y_tsw rfl rfl rfl rfl (by unfold rg; omega) (fun w22 => ?_) (fun ii tt hii w22 => ?_)
  · refine y_return rfl rfl ?_
    exact ⟨hH, hF, rfl, (by first | (have t := K271; exact R271) | (exfalso; omega))⟩
  · match ii, hii with
    | 0, hii =>
      cases hii
      have w23 : (Xi S 904 70) = 0 := by simpa using w22
      exfalso; omega
    | 1, hii =>
      cases hii
      have w24 : (Xi S 904 70) = 1 := by simpa using w22
      exfalso; omega
    | 2, hii =>
      cases hii
      have w25 : (Xi S 904 70) = 2 := by simpa using w22
      exfalso; omega
    | 3, hii =>
      cases hii
      have w26 : (Xi S 904 70) = 3 := by simpa using w22
      refine y_return rfl rfl ?_
      exact ⟨hH, hF, rfl, (by first | (have t := K271; exact R271) | (exfalso; omega))⟩
    | 4, hii =>
      cases hii
      have w27 : (Xi S 904 70) = 4 := by simpa using w22
      refine y_return rfl rfl ?_
      exact ⟨hH, hF, rfl, (by first | (have t := K271; exact R271) | (exfalso; omega))⟩
    | 5, hii =>
      cases hii
      have w28 : (Xi S 904 70) = 5 := by simpa using w22
      refine y_return rfl rfl ?_
      exact ⟨hH, hF, rfl, (by first | (have t := K271; exact R271) | (exfalso; omega))⟩
    | 6, hii =>
      cases hii
      have w29 : (Xi S 904 70) = 6 := by simpa using w22
      refine y_return rfl rfl ?_
      exact ⟨hH, hF, rfl, (by first | (have t := K271; exact R271) | (exfalso; omega))⟩
    | 7, hii =>
      cases hii
      have w30 : (Xi S 904 70) = 7 := by simpa using w22
      refine y_aload_n rfl rfl ?_
      refine y_gfr rfl rfl rfl rfl rfl (hH.r 904 48 941 rfl) ?_
      refine y_aload_n rfl rfl ?_
      refine y_gfi rfl rfl rfl rfl rfl ?_
      refine y_aload_n rfl rfl ?_
      refine y_iconst rfl ?_
      refine y_bipush rfl rfl ?_
      refine y_callV rfl rfl rfl (t_mo_meansRun__p hH 1 8 ⟨by omega, by omega⟩ ⟨by omega, by omega⟩ (by first | assumption | exact (by assumption : LSP S)) (by first | assumption | omega) (by first | assumption | exact (RBD_FR hF rfl (by assumption : RBD S))) _) ?_
      rintro _ _ ⟨rfl, z31, rfl, w31, f171⟩
      show Pl _ _ _ _ _ _ [iv z31, iv (Xi S 904 47), .ref 941] _ _
      refine y_iastoreP (n := 8) rfl rfl (by unfold rg; omega) (fun w32 w33 => ?_)
      obtain ⟨U2, eU2⟩ : ∃ T : sS, T = uI S 941 (((Xi S 904 47)).toNat) (Int32.ofInt z31) := ⟨_, rfl⟩
      rw [← eU2]
      have hHU2 : RI U2 := by rw [eU2]; exact RI_w hH
      have hFU2 : FR md_mo_does__7 S U2 := by rw [eU2]; exact FR.wI hF (mdf_i (r := (941, 942, 0, 100000)) (List.mem_of_getElem? (i := 48) rfl) (inR_i (by omega) (by omega) (by omega) (by omega)))
      have w34 : Xi U2 941 (((Xi S 904 47)).toNat) = z31 := by rw [eU2]; exact Xi_same (by unfold rg; omega)
      have ee174 := eU2
      have m174 : Hid (SMR S U2) := SMR_w SMR.rf eU2 (by omega) (by omega)
      have a174 : Hid (∀ j, Xj U2 910 j = Xj S 910 j) := m174.o.2.2.1
      have i174 : Xi U2 950 ((0 : Int).toNat) = Xi S 950 0 := m174.o.2.1 950 _ (by omega)
      refine y_aload_n rfl rfl ?_
      refine y_bipush rfl rfl ?_
      refine y_aload_n rfl rfl ?_
      refine y_gfi rfl rfl rfl rfl rfl ?_
      have w35 : (Xi U2 904 47) = (Xi S 904 47) := (show Xi U2 904 47 = Xi S 904 47 from by rw [eU2]; exact Xi_ne (by omega))
      rw [w35]
      refine y_aload_n rfl rfl ?_
      refine y_gfr rfl rfl rfl rfl rfl (hHU2.r 904 7 910 rfl) ?_
      refine y_aload_n rfl rfl ?_
      refine y_gfr rfl rfl rfl rfl rfl (hHU2.r 904 67 950 rfl) ?_
      refine y_iconst rfl ?_
      refine y_ialoadP (n := 2600) rfl rfl (by unfold rg; omega) (fun w36 w37 => ?_)
      have w38 : -2147483648 ≤ (Xi U2 950 ((0 : Int).toNat)) ∧ (Xi U2 950 ((0 : Int).toNat)) ≤ 2147483647 := Xi_rgI
      have w39 : (Xi U2 950 ((0 : Int).toNat)) = Xi U2 950 0 := rfl
      refine y_laloadP (n := 5002) rfl rfl (by unfold rg; omega) (fun w40 w41 => ?_)
      have w42 : -9223372036854775808 ≤ (Xj U2 910 (((Xi U2 950 ((0 : Int).toNat))).toNat)) ∧ (Xj U2 910 (((Xi U2 950 ((0 : Int).toNat))).toNat)) < 9223372036854775808 := Xj_rg
      refine y_lconst (z := 0) rfl rfl ?_
      refine y_lconst (z := 0) rfl rfl ?_
      refine y_iconst rfl ?_
      have w43 : Xi U2 904 15 = Xi S 904 15 := (show Xi U2 904 15 = Xi S 904 15 from by rw [eU2]; exact Xi_ne (by omega))
      have w44 : Xi U2 904 47 = Xi S 904 47 := (show Xi U2 904 47 = Xi S 904 47 from by rw [eU2]; exact Xi_ne (by omega))
      have w45 : Xi U2 904 70 = Xi S 904 70 := (show Xi U2 904 70 = Xi S 904 70 from by rw [eU2]; exact Xi_ne (by omega))
      refine y_callV rfl rfl rfl (t_mo_tell__p hHU2 9 (Xi S 904 47) (Xj U2 910 (((Xi U2 950 ((0 : Int).toNat))).toNat)) 0 0 1 ⟨by omega, by omega⟩ ⟨by omega, by omega⟩ ⟨by omega, by omega⟩ (by first | assumption | exact Xj_rg | (unfold rgL; omega)) (by first | assumption | exact Xj_rg | (unfold rgL; omega)) (by first | assumption | exact Xj_rg | (unfold rgL; omega)) _) ?_
      rintro _ T3 ⟨hHT3, w47, rfl, e196⟩
      have hFT3 : FR md_mo_does__7 S T3 := FR.tr hFU2 w47 rfl
      show Pl _ _ _ _ _ _ [] _ _
      have F196 := (by assumption : FR md_mo_tell__p U2 T3)
      have l196 : Xi T3 904 15 = Xi U2 904 15 + 1 := e196.2.2
      have a196 : Hid (∀ j, Xj T3 910 j = Xj S 910 j) := fun j => ((F196.cx 910 rfl j).2).trans (a174.o j)
      refine y_aload_n rfl rfl ?_
      refine y_bipush rfl rfl ?_
      refine y_aload_n rfl rfl ?_
      refine y_gfi rfl rfl rfl rfl rfl ?_
      have w48 : (Xi T3 904 47) = (Xi S 904 47) := (show Xi T3 904 47 = Xi U2 904 47 from w47.x _ _ rfl).trans ((show Xi U2 904 47 = Xi S 904 47 from by rw [eU2]; exact Xi_ne (by omega)))
      rw [w48]
      refine y_aload_n rfl rfl ?_
      refine y_gfr rfl rfl rfl rfl rfl (hHT3.r 904 7 910 rfl) ?_
      refine y_aload_n rfl rfl ?_
      refine y_gfr rfl rfl rfl rfl rfl (hHT3.r 904 67 950 rfl) ?_
      refine y_iconst rfl ?_
      refine y_ialoadP (n := 2600) rfl rfl (by unfold rg; omega) (fun w49 w50 => ?_)
      have w51 : (Xi T3 950 ((0 : Int).toNat)) = (Xi U2 950 ((0 : Int).toNat)) := (show Xi T3 950 ((0 : Int).toNat) = Xi U2 950 ((0 : Int).toNat) from w47.x _ _ rfl)
      rw [w51]
      refine y_laloadP (n := 5002) rfl rfl (by unfold rg; omega) (fun w52 w53 => ?_)
      have w54 : -9223372036854775808 ≤ (Xj T3 910 (((Xi U2 950 ((0 : Int).toNat))).toNat)) ∧ (Xj T3 910 (((Xi U2 950 ((0 : Int).toNat))).toNat)) < 9223372036854775808 := Xj_rg
      refine y_iconst rfl ?_
      refine y_lshlF rfl ?_
      have w55 : rgL (lshlF (Xj T3 910 (((Xi U2 950 ((0 : Int).toNat))).toNat)) 5) := lshlF_rg
      refine y_ldc2 (z := 19) rfl rfl ?_
      refine y_lorF rfl ?_
      have w56 : rgL (lorF (lshlF (Xj T3 910 (((Xi U2 950 ((0 : Int).toNat))).toNat)) 5) 19) := lorF_rg
      refine y_lconst (z := 0) rfl rfl ?_
      refine y_lconst (z := 0) rfl rfl ?_
      refine y_iconst rfl ?_
      have w57 : Xi T3 904 47 = Xi S 904 47 := (show Xi T3 904 47 = Xi U2 904 47 from w47.x _ _ rfl).trans ((show Xi U2 904 47 = Xi S 904 47 from by rw [eU2]; exact Xi_ne (by omega)))
      have w58 : Xi T3 904 70 = Xi S 904 70 := (show Xi T3 904 70 = Xi U2 904 70 from w47.x _ _ rfl).trans ((show Xi U2 904 70 = Xi S 904 70 from by rw [eU2]; exact Xi_ne (by omega)))
      refine y_callV rfl rfl rfl (t_mo_tell__p hHT3 10 (Xi S 904 47) (lorF (lshlF (Xj T3 910 (((Xi U2 950 ((0 : Int).toNat))).toNat)) 5) 19) 0 0 1 ⟨by omega, by omega⟩ ⟨by omega, by omega⟩ ⟨by omega, by omega⟩ (by first | assumption | exact Xj_rg | (unfold rgL; omega)) (by first | assumption | exact Xj_rg | (unfold rgL; omega)) (by first | assumption | exact Xj_rg | (unfold rgL; omega)) _) ?_
      rintro _ T4 ⟨hHT4, w60, rfl, e226⟩
      have hFT4 : FR md_mo_does__7 S T4 := FR.tr hFT3 w60 rfl
      show Pl _ _ _ _ _ _ [] _ _
      have F226 := (by assumption : FR md_mo_tell__p T3 T4)
      have l226 : Xi T4 904 15 = Xi T3 904 15 + 1 := e226.2.2
      have a226 : Hid (∀ j, Xj T4 910 j = Xj S 910 j) := fun j => ((F226.cx 910 rfl j).2).trans (a196.o j)
      refine y_aload_n rfl rfl ?_
      refine y_gfr rfl rfl rfl rfl rfl (hHT4.r 904 14 916 rfl) ?_
      refine y_aload_n rfl rfl ?_
      refine y_gfi rfl rfl rfl rfl rfl ?_
      have w61 : -2147483648 ≤ (Xi T4 904 15) ∧ (Xi T4 904 15) ≤ 2147483647 := Xi_rgI
      refine y_iconst rfl ?_
      refine y_isub rfl ?_
      refine y_aload_n rfl rfl ?_
      refine y_gfr rfl rfl rfl rfl rfl (hHT4.r 904 7 910 rfl) ?_
      refine y_aload_n rfl rfl ?_
      refine y_gfr rfl rfl rfl rfl rfl (hHT4.r 904 67 950 rfl) ?_
      refine y_iconst rfl ?_
      refine y_ialoadP (n := 2600) rfl rfl (by unfold rg; omega) (fun w62 w63 => ?_)
      have w64 : (Xi T4 950 ((0 : Int).toNat)) = (Xi U2 950 ((0 : Int).toNat)) := (show Xi T4 950 ((0 : Int).toNat) = Xi T3 950 ((0 : Int).toNat) from w60.x _ _ rfl).trans ((show Xi T3 950 ((0 : Int).toNat) = Xi U2 950 ((0 : Int).toNat) from w47.x _ _ rfl))
      rw [w64]
      refine y_laloadP (n := 5002) rfl rfl (by unfold rg; omega) (fun w65 w66 => ?_)
      have w67 : -9223372036854775808 ≤ (Xj T4 910 (((Xi U2 950 ((0 : Int).toNat))).toNat)) ∧ (Xj T4 910 (((Xi U2 950 ((0 : Int).toNat))).toNat)) < 9223372036854775808 := Xj_rg
      refine y_bipush rfl rfl ?_
      refine y_lshrF rfl ?_
      have w68 : rgL (lshrF (Xj T4 910 (((Xi U2 950 ((0 : Int).toNat))).toNat)) 55) := lshrF_rg
      refine y_lconst (z := 0) rfl rfl ?_
      refine y_lcmp rfl (by first | assumption | (unfold rgL; omega)) (by first | assumption | (unfold rgL; omega)) (fun c69 w69 w69a w69b w69c => ?_)
      refine y_if_eq rfl rfl (by unfold rg; omega) (fun w70 => ?_) (fun w71 => ?_)
      · refine y_iconst rfl ?_
        refine y_bastoreZP (n := 300) rfl rfl (by unfold rg; omega) ⟨by omega, by omega⟩ (fun w72 w73 => ?_)
        obtain ⟨U5, eU5⟩ : ∃ T : sS, T = uI T4 916 ((((Xi T4 904 15) - 1)).toNat) (Int32.ofInt 0) := ⟨_, rfl⟩
        rw [← eU5]
        have hHU5 : RI U5 := by rw [eU5]; exact RI_w hHT4
        have hFU5 : FR md_mo_does__7 S U5 := by rw [eU5]; exact FR.wI hFT4 (mdf_i (r := (916, 917, 0, 100000)) (List.mem_of_getElem? (i := 23) rfl) (inR_i (by omega) (by omega) (by omega) (by omega)))
        have w74 : Xi U5 916 ((((Xi T4 904 15) - 1)).toNat) = 0 := by rw [eU5]; exact Xi_same (by unfold rg; omega)
        have ee263 := eU5
        refine y_aload_n rfl rfl ?_
        refine y_dup rfl rfl ?_
        refine y_gfi rfl rfl rfl rfl rfl ?_
        have w75 : (Xi U5 904 47) = (Xi S 904 47) := (show Xi U5 904 47 = Xi T4 904 47 from by rw [eU5]; exact Xi_ne (by omega)).trans ( (show Xi T4 904 47 = Xi T3 904 47 from w60.x _ _ rfl).trans ( (show Xi T3 904 47 = Xi U2 904 47 from w47.x _ _ rfl).trans ((show Xi U2 904 47 = Xi S 904 47 from by rw [eU2]; exact Xi_ne (by omega)))))
        rw [w75]
        refine y_iconst rfl ?_
        refine y_iadd rfl ?_
        refine y_pfi rfl rfl rfl rfl ?_
        obtain ⟨U6, eU6⟩ : ∃ T : sS, T = uI U5 904 47 (Int32.ofInt ((Xi S 904 47) + 1)) := ⟨_, rfl⟩
        rw [← eU6]
        have hHU6 : RI U6 := by rw [eU6]; exact RI_w hHU5
        have hFU6 : FR md_mo_does__7 S U6 := by rw [eU6]; exact FR.wI hFU5 (mdf_i (r := (904, 905, 47, 48)) (List.mem_of_getElem? (i := 8) rfl) (inR_i (by omega) (by omega) (by omega) (by omega)))
        have w76 : Xi U6 904 47 = ((Xi S 904 47) + 1) := by rw [eU6]; exact Xi_same (by unfold rg; omega)
        have K271 : True := trivial
        have R271 : RD7 S U6 := rd7_of (w3 := Xj T4 910 ((Xi U2 950 ((0 : Int).toNat)).toNat)) ee174 e196 F196 e226 F226 ee263 eU6 h15 (by rw [a174.o, i174]) (by unfold wsR; rw [a196.o, i174]) f171 (by unfold rg; omega) ha (by first | exact Or.inl ⟨rfl, by omega⟩ | exact Or.inr ⟨rfl, by omega⟩) (by rw [a226.o, i174])
        refine y_goto rfl rfl ?_
        refine y_return rfl rfl ?_
        exact ⟨hHU6, hFU6, rfl, (by first | (have t := K271; exact R271) | (exfalso; omega))⟩
      · refine y_iconst rfl ?_
        refine y_goto rfl rfl ?_
        refine y_bastoreZP (n := 300) rfl rfl (by unfold rg; omega) ⟨by omega, by omega⟩ (fun w79 w80 => ?_)
        obtain ⟨U7, eU7⟩ : ∃ T : sS, T = uI T4 916 ((((Xi T4 904 15) - 1)).toNat) (Int32.ofInt 1) := ⟨_, rfl⟩
        rw [← eU7]
        have hHU7 : RI U7 := by rw [eU7]; exact RI_w hHT4
        have hFU7 : FR md_mo_does__7 S U7 := by rw [eU7]; exact FR.wI hFT4 (mdf_i (r := (916, 917, 0, 100000)) (List.mem_of_getElem? (i := 23) rfl) (inR_i (by omega) (by omega) (by omega) (by omega)))
        have w81 : Xi U7 916 ((((Xi T4 904 15) - 1)).toNat) = 1 := by rw [eU7]; exact Xi_same (by unfold rg; omega)
        have ee263 := eU7
        refine y_aload_n rfl rfl ?_
        refine y_dup rfl rfl ?_
        refine y_gfi rfl rfl rfl rfl rfl ?_
        have w82 : (Xi U7 904 47) = (Xi S 904 47) := (show Xi U7 904 47 = Xi T4 904 47 from by rw [eU7]; exact Xi_ne (by omega)).trans ( (show Xi T4 904 47 = Xi T3 904 47 from w60.x _ _ rfl).trans ( (show Xi T3 904 47 = Xi U2 904 47 from w47.x _ _ rfl).trans ((show Xi U2 904 47 = Xi S 904 47 from by rw [eU2]; exact Xi_ne (by omega)))))
        rw [w82]
        refine y_iconst rfl ?_
        refine y_iadd rfl ?_
        refine y_pfi rfl rfl rfl rfl ?_
        obtain ⟨U8, eU8⟩ : ∃ T : sS, T = uI U7 904 47 (Int32.ofInt ((Xi S 904 47) + 1)) := ⟨_, rfl⟩
        rw [← eU8]
        have hHU8 : RI U8 := by rw [eU8]; exact RI_w hHU7
        have hFU8 : FR md_mo_does__7 S U8 := by rw [eU8]; exact FR.wI hFU7 (mdf_i (r := (904, 905, 47, 48)) (List.mem_of_getElem? (i := 8) rfl) (inR_i (by omega) (by omega) (by omega) (by omega)))
        have w83 : Xi U8 904 47 = ((Xi S 904 47) + 1) := by rw [eU8]; exact Xi_same (by unfold rg; omega)
        have K271 : True := trivial
        have R271 : RD7 S U8 := rd7_of (w3 := Xj T4 910 ((Xi U2 950 ((0 : Int).toNat)).toNat)) ee174 e196 F196 e226 F226 ee263 eU8 h15 (by rw [a174.o, i174]) (by unfold wsR; rw [a196.o, i174]) f171 (by unfold rg; omega) ha (by first | exact Or.inl ⟨rfl, by omega⟩ | exact Or.inr ⟨rfl, by omega⟩) (by rw [a226.o, i174])
        refine y_goto rfl rfl ?_
        refine y_return rfl rfl ?_
        exact ⟨hHU8, hFU8, rfl, (by first | (have t := K271; exact R271) | (exfalso; omega))⟩
    | 8, hii =>
      cases hii
      have w86 : (Xi S 904 70) = 8 := by simpa using w22
      exfalso; omega
    | 9, hii =>
      cases hii
      have w87 : (Xi S 904 70) = 9 := by simpa using w22
      exfalso; omega
    | 10, hii =>
      cases hii
      have w88 : (Xi S 904 70) = 10 := by simpa using w22
      exfalso; omega
    | 11, hii =>
      cases hii
      have w89 : (Xi S 904 70) = 11 := by simpa using w22
      exfalso; omega
    | 12, hii =>
      cases hii
      have w90 : (Xi S 904 70) = 12 := by simpa using w22
      exfalso; omega
    | 13, hii =>
      cases hii
      have w91 : (Xi S 904 70) = 13 := by simpa using w22
      exfalso; omega
    | 14, hii =>
      cases hii
      have w92 : (Xi S 904 70) = 14 := by simpa using w22
      exfalso; omega
    | 15, hii =>
      cases hii
      have w93 : (Xi S 904 70) = 15 := by simpa using w22
      exfalso; omega
    | 16, hii =>
      cases hii
      have w94 : (Xi S 904 70) = 16 := by simpa using w22
      exfalso; omega
    | 17, hii =>
      cases hii
      have w95 : (Xi S 904 70) = 17 := by simpa using w22
      exfalso; omega
    | 18, hii =>
      cases hii
      have w96 : (Xi S 904 70) = 18 := by simpa using w22
      exfalso; omega
    | 19, hii =>
      cases hii
      have w97 : (Xi S 904 70) = 19 := by simpa using w22
      exfalso; omega
    | 20, hii =>
      cases hii
      have w98 : (Xi S 904 70) = 20 := by simpa using w22
      exfalso; omega
    | n + 21, hii => exact absurd hii (by simp)
def md_mo_wrong__p : List rec := [(904, 905, 105, 106), (904, 905, 106, 107)]
abbrev Q_mo_wrong__p (S : sS) (f : Int) (t : Int) : pst := fun r S1 => RI S1 ∧ FR md_mo_wrong__p S S1 ∧ (r = none ∧ (Xi S 904 106 = 0 → NTB (NT3 S1) f (Xi S 908 t.toNat)) ∧ (Xi S 904 106 ≠ 0 → NT3 S1 = NT3 S))
set_option maxRecDepth 100000 in
theorem t_mo_wrong__p {S : sS} (hH : RI S) (f : Int) (t : Int) (hf : -2147483648 ≤ f ∧ f ≤ 2147483647) (ht : -2147483648 ≤ t ∧ t ≤ 2147483647) (d : Nat) : Mp lay0 (d + 1) m_mo_wrong [.ref 904, iv f, iv t] S (Q_mo_wrong__p S f t) := by
  refine Mp_R rfl rfl (fun fu => ?_)
  have hF : FR md_mo_wrong__p S S := FR.rf
  have w1 : -2147483648 ≤ Xi S 904 106 ∧ Xi S 904 106 ≤ 2147483647 := Xi_rgI
  refine y_aload_n rfl rfl ?_
  refine y_gfi rfl rfl rfl rfl rfl ?_
  refine y_if_ne rfl rfl (by unfold rg; omega) (fun w2 => ?_) (fun w3 => ?_)
  · refine y_return rfl rfl ?_
    exact ⟨hH, hF, rfl, (by first | (have t := K19; exact fun _ => ⟨by show Xi S 904 106 = f; omega, by show Xi S 904 105 = _; exact Y19⟩) | exact fun q => absurd q (by omega)), (by first | (have t := K19; exact fun q => absurd (by omega) q) | exact fun _ => rfl)⟩
  · refine y_aload_n rfl rfl ?_
    refine y_iload_n rfl rfl ?_
    refine y_pfi rfl rfl rfl rfl ?_
    obtain ⟨U1, eU1⟩ : ∃ T : sS, T = uI S 904 106 (Int32.ofInt f) := ⟨_, rfl⟩
    rw [← eU1]
    have hHU1 : RI U1 := by rw [eU1]; exact RI_w hH
    have hFU1 : FR md_mo_wrong__p S U1 := by rw [eU1]; exact FR.wI hF (mdf_i (r := (904, 905, 106, 107)) (List.mem_of_getElem? (i := 1) rfl) (inR_i (by omega) (by omega) (by omega) (by omega)))
    have w4 : Xi U1 904 106 = f := by rw [eU1]; exact Xi_same (by unfold rg; omega)
    refine y_aload_n rfl rfl ?_
    refine y_aload_n rfl rfl ?_
    refine y_gfr rfl rfl rfl rfl rfl (hHU1.r 904 5 908 rfl) ?_
    refine y_iload_n rfl rfl ?_
    refine y_ialoadP (n := 5002) rfl rfl (by unfold rg; omega) (fun w5 w6 => ?_)
    have w7 : -2147483648 ≤ (Xi U1 908 ((t).toNat)) ∧ (Xi U1 908 ((t).toNat)) ≤ 2147483647 := Xi_rgI
    refine y_pfi rfl rfl rfl rfl ?_
    obtain ⟨U2, eU2⟩ : ∃ T : sS, T = uI U1 904 105 (Int32.ofInt (Xi U1 908 ((t).toNat))) := ⟨_, rfl⟩
    rw [← eU2]
    have hHU2 : RI U2 := by rw [eU2]; exact RI_w hHU1
    have hFU2 : FR md_mo_wrong__p S U2 := by rw [eU2]; exact FR.wI hFU1 (mdf_i (r := (904, 905, 105, 106)) (List.mem_of_getElem? (i := 0) rfl) (inR_i (by omega) (by omega) (by omega) (by omega)))
    have w8 : Xi U2 904 105 = (Xi U1 908 ((t).toNat)) := by rw [eU2]; exact Xi_same (by unfold rg; omega)
    have K19 : True := trivial
    have Y19 : Xi U2 904 105 = Xi S 908 t.toNat := by rw [eU2]; exact (Xi_same (by unfold rg; omega)).trans (by first | rfl | (exact hFU1.x 908 _ rfl) | (rw [eU1, Xi_ne (by omega)]))
    refine y_return rfl rfl ?_
    have w9 : Xi U2 904 106 = Xi U1 904 106 := (show Xi U2 904 106 = Xi U1 904 106 from by rw [eU2]; exact Xi_ne (by omega))
    exact ⟨hHU2, hFU2, rfl, (by first | (have t := K19; exact fun _ => ⟨by show Xi U2 904 106 = f; omega, by show Xi U2 904 105 = _; exact Y19⟩) | exact fun q => absurd q (by omega)), (by first | (have t := K19; exact fun q => absurd (by omega) q) | exact fun _ => rfl)⟩
def md_mo_doHas__p : List rec := [(904, 905, 15, 16), (904, 905, 32, 33), (904, 905, 105, 106), (904, 905, 106, 107), (912, 913, 0, 100000), (913, 914, 0, 100000), (914, 915, 0, 100000), (915, 916, 0, 100000), (916, 917, 0, 100000), (928, 929, 0, 100000), (929, 930, 0, 100000)]
abbrev Q_mo_doHas__p (S : sS) : pst := fun r S1 => RI S1 ∧ FR md_mo_doHas__p S S1 ∧ (r = none ∧ (RD17 S S1))
set_option maxRecDepth 100000 in
theorem t_mo_doHas__p {S : sS} (hH : RI S) (hLS : LSP S) (h15 : 0 ≤ Xi S 904 15) (hRB : RBD S) (hLX : LXR S) (hz0 : Xi S 904 106 = 0) (hk : rnR S 0 0 ≠ -1) (ha : 0 ≤ Xi S 904 32 ∧ Xi S 904 32 ≤ 12) (d : Nat) : Mp lay0 (d + 6) m_mo_doHas [.ref 904] S (Q_mo_doHas__p S) := by
  refine Mp_R rfl rfl (fun fu => ?_)
  have hF : FR md_mo_doHas__p S S := FR.rf
  have w1 : -2147483648 ≤ Xi S 904 106 ∧ Xi S 904 106 ≤ 2147483647 := Xi_rgI
  have w2 : -2147483648 ≤ Xi S 904 15 ∧ Xi S 904 15 ≤ 2147483647 := Xi_rgI
  have w3 : -2147483648 ≤ Xi S 904 32 ∧ Xi S 904 32 ≤ 2147483647 := Xi_rgI
  have hkr := rnR_ix (r := 0) (s := 0) hLX h15
  have hpr := rnR_ix (r := 2) (s := 7) hLX h15
  refine y_aload_n rfl rfl ?_
  refine y_iconst rfl ?_
  refine y_iconst rfl ?_
  refine y_callV rfl rfl rfl (t_mo_meansRun__p hH 0 0 ⟨by omega, by omega⟩ ⟨by omega, by omega⟩ (by first | assumption | exact (by assumption : LSP S)) (by first | assumption | omega) (by first | assumption | exact (RBD_FR hF rfl (by assumption : RBD S))) _) ?_
  rintro _ _ ⟨rfl, z4, rfl, w4, f3⟩
  show Pl _ _ _ _ _ _ [iv z4] _ _
  refine y_istore_n rfl rfl rfl ?_
  refine y_aload_n rfl rfl ?_
  refine y_iconst rfl ?_
  refine y_callV rfl rfl rfl (t_mo_typeOrPlural__p hH 1 ⟨by omega, by omega⟩ (by first | assumption | exact (by assumption : LSP S)) (by first | assumption | omega) (by first | assumption | exact (RBD_FR hF rfl (by assumption : RBD S))) _) ?_
  rintro _ _ ⟨rfl, z5, rfl, w5, f9⟩
  show Pl _ _ _ _ _ _ [iv z5] _ _
  refine y_istore_n rfl rfl rfl ?_
  refine y_aload_n rfl rfl ?_
  refine y_iconst rfl ?_
  refine y_bipush rfl rfl ?_
  refine y_callV rfl rfl rfl (t_mo_meansRun__p hH 2 7 ⟨by omega, by omega⟩ ⟨by omega, by omega⟩ (by first | assumption | exact (by assumption : LSP S)) (by first | assumption | omega) (by first | assumption | exact (RBD_FR hF rfl (by assumption : RBD S))) _) ?_
  rintro _ _ ⟨rfl, z6, rfl, w6, f17⟩
  show Pl _ _ _ _ _ _ [iv z6] _ _
  refine y_istore_n rfl rfl rfl ?_
  refine y_iload_n rfl rfl ?_
  refine y_iconst rfl ?_
  refine y_icmp_ne rfl rfl (by unfold rg; omega) (by unfold rg; omega) (fun w7 => ?_) (fun w8 => ?_)
  · refine y_aload_n rfl rfl ?_
    refine y_gfr rfl rfl rfl rfl rfl (hH.r 904 33 928 rfl) ?_
    refine y_iload_n rfl rfl ?_
    refine y_ialoadP (n := 12) rfl rfl (by unfold rg; omega) (fun w9 w10 => ?_)
    have w11 : -2147483648 ≤ (Xi S 928 ((z6).toNat)) ∧ (Xi S 928 ((z6).toNat)) ≤ 2147483647 := Xi_rgI
    refine y_iload_n rfl rfl ?_
    refine y_icmp_eq rfl rfl (by unfold rg; omega) (by unfold rg; omega) (fun w12 => ?_) (fun w13 => ?_)
    · refine y_aload_n rfl rfl ?_
      refine y_gfr rfl rfl rfl rfl rfl (hH.r 904 34 929 rfl) ?_
      refine y_bipush rfl rfl ?_
      refine y_iload_n rfl rfl ?_
      refine y_imul rfl ?_
      refine y_iload_n rfl rfl ?_
      refine y_iadd rfl ?_
      refine y_iconst rfl ?_
      refine y_bastoreZP (n := 192) rfl rfl (by unfold rg; omega) ⟨by omega, by omega⟩ (fun w14 w15 => ?_)
      obtain ⟨U1, eU1⟩ : ∃ T : sS, T = uI S 929 ((((12 * z4) + z6)).toNat) (Int32.ofInt 1) := ⟨_, rfl⟩
      rw [← eU1]
      have hHU1 : RI U1 := by rw [eU1]; exact RI_w hH
      have hFU1 : FR md_mo_doHas__p S U1 := by rw [eU1]; exact FR.wI hF (mdf_i (r := (929, 930, 0, 100000)) (List.mem_of_getElem? (i := 10) rfl) (inR_i (by omega) (by omega) (by omega) (by omega)))
      have w16 : Xi U1 929 ((((12 * z4) + z6)).toNat) = 1 := by rw [eU1]; exact Xi_same (by unfold rg; omega)
      have K92 : True := trivial
      have R92 : RD17 S U1 := by first | (have t := K43; exact rd17_n (by omega) ee37 e43 F43 ee53 eU1 f3 f9 ha z43 (by unfold rg; omega)) | exact rd17_o (by omega) (by rw [← f17]; omega) hz0 eU1 f3 f17
      refine y_return rfl rfl ?_
      have w17 : Xi U1 904 106 = Xi S 904 106 := (show Xi U1 904 106 = Xi S 904 106 from by rw [eU1]; exact Xi_ne (by omega))
      have w18 : Xi U1 904 15 = Xi S 904 15 := (show Xi U1 904 15 = Xi S 904 15 from by rw [eU1]; exact Xi_ne (by omega))
      have w19 : Xi U1 904 32 = Xi S 904 32 := (show Xi U1 904 32 = Xi S 904 32 from by rw [eU1]; exact Xi_ne (by omega))
      exact ⟨hHU1, hFU1, rfl, (by first | (have t := K92; exact R92) | (have t := K77; exact rd17_w (by omega) (by rw [← f17]; omega) W77))⟩
    · refine y_aload_n rfl rfl ?_
      refine y_iconst rfl ?_
      refine y_aload_n rfl rfl ?_
      refine y_gfr rfl rfl rfl rfl rfl (hH.r 904 67 950 rfl) ?_
      refine y_iconst rfl ?_
      refine y_ialoadP (n := 2600) rfl rfl (by unfold rg; omega) (fun w20 w21 => ?_)
      have w22 : -2147483648 ≤ (Xi S 950 ((0 : Int).toNat)) ∧ (Xi S 950 ((0 : Int).toNat)) ≤ 2147483647 := Xi_rgI
      have w23 : (Xi S 950 ((0 : Int).toNat)) = Xi S 950 0 := rfl
      refine y_callV rfl rfl rfl (t_mo_wrong__p hH 5 (Xi S 950 ((0 : Int).toNat)) ⟨by omega, by omega⟩ ⟨by omega, by omega⟩ _) ?_
      rintro _ T2 ⟨hHT2, w25, rfl, w77, k77⟩
      have hFT2 : FR md_mo_doHas__p S T2 := FR.tr hF w25 rfl
      show Pl _ _ _ _ _ _ [] _ _
      have K77 : True := trivial
      have W77 : NTB (NT3 T2) 5 (pR S 0) := w77 hz0
      refine y_return rfl rfl ?_
      have w26 : Xi T2 904 15 = Xi S 904 15 := (show Xi T2 904 15 = Xi S 904 15 from w25.x _ _ rfl)
      have w27 : Xi T2 904 32 = Xi S 904 32 := (show Xi T2 904 32 = Xi S 904 32 from w25.x _ _ rfl)
      exact ⟨hHT2, hFT2, rfl, (by first | (have t := K92; exact R92) | (have t := K77; exact rd17_w (by omega) (by rw [← f17]; omega) W77))⟩
  · refine y_aload_n rfl rfl ?_
    refine y_gfi rfl rfl rfl rfl rfl ?_
    refine y_istore_n rfl rfl rfl ?_
    refine y_aload_n rfl rfl ?_
    refine y_gfr rfl rfl rfl rfl rfl (hH.r 904 33 928 rfl) ?_
    refine y_iload_n rfl rfl ?_
    refine y_iload_n rfl rfl ?_
    refine y_iastoreP (n := 12) rfl rfl (by unfold rg; omega) (fun w28 w29 => ?_)
    obtain ⟨U3, eU3⟩ : ∃ T : sS, T = uI S 928 (((Xi S 904 32)).toNat) (Int32.ofInt z5) := ⟨_, rfl⟩
    rw [← eU3]
    have hHU3 : RI U3 := by rw [eU3]; exact RI_w hH
    have hFU3 : FR md_mo_doHas__p S U3 := by rw [eU3]; exact FR.wI hF (mdf_i (r := (928, 929, 0, 100000)) (List.mem_of_getElem? (i := 9) rfl) (inR_i (by omega) (by omega) (by omega) (by omega)))
    have w30 : Xi U3 928 (((Xi S 904 32)).toNat) = z5 := by rw [eU3]; exact Xi_same (by unfold rg; omega)
    have ee37 := eU3
    refine y_aload_n rfl rfl ?_
    refine y_bipush rfl rfl ?_
    refine y_iload_n rfl rfl ?_
    refine y_iconst rfl ?_
    have w31 : Xi U3 904 106 = Xi S 904 106 := (show Xi U3 904 106 = Xi S 904 106 from by rw [eU3]; exact Xi_ne (by omega))
    have w32 : Xi U3 904 15 = Xi S 904 15 := (show Xi U3 904 15 = Xi S 904 15 from by rw [eU3]; exact Xi_ne (by omega))
    have w33 : Xi U3 904 32 = Xi S 904 32 := (show Xi U3 904 32 = Xi S 904 32 from by rw [eU3]; exact Xi_ne (by omega))
    refine y_callV rfl rfl rfl (t_mo_tellRun__p hHU3 7 (Xi S 904 32) 2 ⟨by omega, by omega⟩ ⟨by omega, by omega⟩ ⟨by omega, by omega⟩ (by first | assumption | exact (RBD_FR hFU3 rfl (by assumption : RBD S))) _) ?_
    rintro _ T4 ⟨hHT4, w35, rfl, e43⟩
    have hFT4 : FR md_mo_doHas__p S T4 := FR.tr hFU3 w35 rfl
    show Pl _ _ _ _ _ _ [] _ _
    have K43 : True := trivial
    have F43 := (by assumption : FR md_mo_tellRun__p U3 T4)
    have z43 : Xi T4 904 106 = 0 := by rw [F43.x 904 106 rfl, ee37, Xi_ne (by omega)]; exact hz0
    refine y_aload_n rfl rfl ?_
    refine y_dup rfl rfl ?_
    refine y_gfi rfl rfl rfl rfl rfl ?_
    have w36 : (Xi T4 904 32) = (Xi S 904 32) := (show Xi T4 904 32 = Xi U3 904 32 from w35.x _ _ rfl).trans ((show Xi U3 904 32 = Xi S 904 32 from by rw [eU3]; exact Xi_ne (by omega)))
    rw [w36]
    refine y_iconst rfl ?_
    refine y_iadd rfl ?_
    refine y_pfi rfl rfl rfl rfl ?_
    obtain ⟨U5, eU5⟩ : ∃ T : sS, T = uI T4 904 32 (Int32.ofInt ((Xi S 904 32) + 1)) := ⟨_, rfl⟩
    rw [← eU5]
    have hHU5 : RI U5 := by rw [eU5]; exact RI_w hHT4
    have hFU5 : FR md_mo_doHas__p S U5 := by rw [eU5]; exact FR.wI hFT4 (mdf_i (r := (904, 905, 32, 33)) (List.mem_of_getElem? (i := 1) rfl) (inR_i (by omega) (by omega) (by omega) (by omega)))
    have w37 : Xi U5 904 32 = ((Xi S 904 32) + 1) := by rw [eU5]; exact Xi_same (by unfold rg; omega)
    have ee53 := eU5
    refine y_goto rfl rfl ?_
    refine y_aload_n rfl rfl ?_
    refine y_gfr rfl rfl rfl rfl rfl (hHU5.r 904 34 929 rfl) ?_
    refine y_bipush rfl rfl ?_
    refine y_iload_n rfl rfl ?_
    refine y_imul rfl ?_
    refine y_iload_n rfl rfl ?_
    refine y_iadd rfl ?_
    refine y_iconst rfl ?_
    refine y_bastoreZP (n := 192) rfl rfl (by unfold rg; omega) ⟨by omega, by omega⟩ (fun w38 w39 => ?_)
    obtain ⟨U6, eU6⟩ : ∃ T : sS, T = uI U5 929 ((((12 * z4) + (Xi S 904 32))).toNat) (Int32.ofInt 1) := ⟨_, rfl⟩
    rw [← eU6]
    have hHU6 : RI U6 := by rw [eU6]; exact RI_w hHU5
    have hFU6 : FR md_mo_doHas__p S U6 := by rw [eU6]; exact FR.wI hFU5 (mdf_i (r := (929, 930, 0, 100000)) (List.mem_of_getElem? (i := 10) rfl) (inR_i (by omega) (by omega) (by omega) (by omega)))
    have w40 : Xi U6 929 ((((12 * z4) + (Xi S 904 32))).toNat) = 1 := by rw [eU6]; exact Xi_same (by unfold rg; omega)
    have K92 : True := trivial
    have R92 : RD17 S U6 := by first | (have t := K43; exact rd17_n (by omega) ee37 e43 F43 ee53 eU6 f3 f9 ha z43 (by unfold rg; omega)) | exact rd17_o (by omega) (by rw [← f17]; omega) hz0 eU6 f3 f17
    refine y_return rfl rfl ?_
    have w41 : Xi U6 904 106 = Xi S 904 106 := (show Xi U6 904 106 = Xi U5 904 106 from by rw [eU6]; exact Xi_ne (by omega)).trans ( (show Xi U5 904 106 = Xi T4 904 106 from by rw [eU5]; exact Xi_ne (by omega)).trans ( (show Xi T4 904 106 = Xi U3 904 106 from w35.x _ _ rfl).trans ((show Xi U3 904 106 = Xi S 904 106 from by rw [eU3]; exact Xi_ne (by omega)))))
    have w42 : Xi U6 904 15 = Xi T4 904 15 := (show Xi U6 904 15 = Xi U5 904 15 from by rw [eU6]; exact Xi_ne (by omega)).trans ((show Xi U5 904 15 = Xi T4 904 15 from by rw [eU5]; exact Xi_ne (by omega)))
    have w43 : Xi U6 904 32 = Xi U5 904 32 := (show Xi U6 904 32 = Xi U5 904 32 from by rw [eU6]; exact Xi_ne (by omega))
    exact ⟨hHU6, hFU6, rfl, (by first | (have t := K92; exact R92) | (have t := K77; exact rd17_w (by omega) (by rw [← f17]; omega) W77))⟩
def md_mo_does__17 : List rec := [(904, 905, 15, 16), (904, 905, 16, 17), (904, 905, 18, 19), (904, 905, 19, 20), (904, 905, 23, 24), (904, 905, 30, 31), (904, 905, 32, 33), (904, 905, 41, 42), (904, 905, 47, 48), (904, 905, 49, 50), (904, 905, 51, 52), (904, 905, 55, 56), (904, 905, 60, 61), (904, 905, 64, 65), (904, 905, 73, 74), (904, 905, 105, 106), (904, 905, 106, 107), (904, 905, 113, 114), (904, 905, 117, 118), (912, 913, 0, 100000), (913, 914, 0, 100000), (914, 915, 0, 100000), (915, 916, 0, 100000), (916, 917, 0, 100000), (917, 918, 0, 100000), (918, 919, 0, 100000), (919, 920, 0, 100000), (920, 921, 0, 100000), (921, 922, 0, 100000), (922, 923, 0, 100000), (923, 924, 0, 100000), (924, 925, 0, 100000), (925, 926, 0, 100000), (926, 927, 0, 100000), (927, 928, 0, 100000), (928, 929, 0, 100000), (929, 930, 0, 100000), (930, 931, 0, 100000), (931, 932, 0, 100000), (932, 933, 0, 100000), (933, 934, 0, 100000), (934, 935, 0, 100000), (935, 936, 0, 100000), (936, 937, 0, 100000), (937, 938, 0, 100000), (938, 939, 0, 100000), (939, 940, 0, 100000), (940, 941, 0, 100000), (941, 942, 0, 100000), (942, 943, 0, 100000), (943, 944, 0, 100000), (944, 945, 0, 100000), (945, 946, 0, 100000), (946, 947, 0, 100000), (947, 948, 0, 100000), (948, 949, 0, 100000), (949, 950, 0, 100000)]
abbrev Q_mo_does__17 (S : sS) (first : Int) : pst := fun r S1 => RI S1 ∧ FR md_mo_does__17 S S1 ∧ (r = none ∧ (RD17 S S1))
set_option maxRecDepth 100000 in
theorem t_mo_does__17 {S : sS} (hH : RI S) (first : Int) (hfirst : 0 ≤ first ∧ first ≤ 5001) (hLS : LSP S) (h15 : 0 ≤ Xi S 904 15) (hRB : RBD S) (hLX : LXR S) (hs : Xi S 904 70 = 17) (hz0 : Xi S 904 106 = 0) (hk : rnR S 0 0 ≠ -1) (ha : 0 ≤ Xi S 904 32 ∧ Xi S 904 32 ≤ 12) (d : Nat) : Mp lay0 (d + 8) m_mo_does [.ref 904, iv first] S (Q_mo_does__17 S first) := by
  refine Mp_R rfl rfl (fun fu => ?_)
  have hF : FR md_mo_does__17 S S := FR.rf
  have w1 : -2147483648 ≤ Xi S 904 106 ∧ Xi S 904 106 ≤ 2147483647 := Xi_rgI
  have w2 : -2147483648 ≤ Xi S 904 15 ∧ Xi S 904 15 ≤ 2147483647 := Xi_rgI
  have w3 : -2147483648 ≤ Xi S 904 32 ∧ Xi S 904 32 ≤ 2147483647 := Xi_rgI
  have w4 : -2147483648 ≤ Xi S 904 70 ∧ Xi S 904 70 ≤ 2147483647 := Xi_rgI
  have C300 : ∀ (n300 : Nat) (_ : n300 ≤ fu) (T1 : sS) (_ : RI T1) (_ : FR md_mo_does__17 S T1) (v2 : Int), (-2147483648 ≤ v2 ∧ v2 ≤ 2147483647) → ((1 : Int) = 0) → Pl n300 lay0 (d + 7) m_mo_does 300 [(0, .ref 904), (2, iv v2)] [] T1 (Q_mo_does__17 S first) := by
    intro n300
    induction n300 with
    | zero => intros; exact Pl_0
    | succ n300 ih300 =>
      intro hm300 T1 hHT1 hFT1 v2 w5 w6
      have w7 : Xi T1 904 110 = Xi S 904 110 := hFT1.x _ _ rfl
      have w8 : Xi T1 904 112 = Xi S 904 112 := hFT1.x _ _ rfl
      have w9 : Xi T1 904 142 = Xi S 904 142 := hFT1.x _ _ rfl
      have w10 : Xi T1 904 69 = Xi S 904 69 := hFT1.x _ _ rfl
      have w11 : Xi T1 904 70 = Xi S 904 70 := hFT1.x _ _ rfl
      have w12 : Xi T1 904 71 = Xi S 904 71 := hFT1.x _ _ rfl
      have w13 : Xi T1 904 72 = Xi S 904 72 := hFT1.x _ _ rfl
      have w14 : Xi T1 904 74 = Xi S 904 74 := hFT1.x _ _ rfl
      have w15 : Xi T1 904 78 = Xi S 904 78 := hFT1.x _ _ rfl
      have w16 : Xi T1 904 94 = Xi S 904 94 := hFT1.x _ _ rfl
      have w17 : Xi T1 951 1 = Xi S 951 1 := hFT1.x _ _ rfl
      have w18 : Xi T1 951 2 = Xi S 951 2 := hFT1.x _ _ rfl
      have w19 : Xi T1 967 0 = Xi S 967 0 := hFT1.x _ _ rfl
      have w20 : -2147483648 ≤ Xi T1 904 15 ∧ Xi T1 904 15 ≤ 2147483647 := Xi_rgI
      have w21 : -2147483648 ≤ Xi T1 904 32 ∧ Xi T1 904 32 ≤ 2147483647 := Xi_rgI
      have w22 : -2147483648 ≤ Xi T1 904 70 ∧ Xi T1 904 70 ≤ 2147483647 := Xi_rgI
      exfalso; omega
  refine y_aload_n rfl rfl ?_
  refine y_gfi rfl rfl rfl rfl rfl ?_
  refine y_tsw rfl rfl rfl rfl (by unfold rg; omega) (fun w23 => ?_) (fun ii tt hii w23 => ?_)
  · refine y_return rfl rfl ?_
    exact ⟨hH, hF, rfl, (by first | (have t := K376; exact o376) | (exfalso; omega))⟩
  · match ii, hii with
    | 0, hii =>
      cases hii
      have w24 : (Xi S 904 70) = 0 := by simpa using w23
      exfalso; omega
    | 1, hii =>
      cases hii
      have w25 : (Xi S 904 70) = 1 := by simpa using w23
      exfalso; omega
    | 2, hii =>
      cases hii
      have w26 : (Xi S 904 70) = 2 := by simpa using w23
      exfalso; omega
    | 3, hii =>
      cases hii
      have w27 : (Xi S 904 70) = 3 := by simpa using w23
      refine y_return rfl rfl ?_
      exact ⟨hH, hF, rfl, (by first | (have t := K376; exact o376) | (exfalso; omega))⟩
    | 4, hii =>
      cases hii
      have w28 : (Xi S 904 70) = 4 := by simpa using w23
      refine y_return rfl rfl ?_
      exact ⟨hH, hF, rfl, (by first | (have t := K376; exact o376) | (exfalso; omega))⟩
    | 5, hii =>
      cases hii
      have w29 : (Xi S 904 70) = 5 := by simpa using w23
      refine y_return rfl rfl ?_
      exact ⟨hH, hF, rfl, (by first | (have t := K376; exact o376) | (exfalso; omega))⟩
    | 6, hii =>
      cases hii
      have w30 : (Xi S 904 70) = 6 := by simpa using w23
      refine y_return rfl rfl ?_
      exact ⟨hH, hF, rfl, (by first | (have t := K376; exact o376) | (exfalso; omega))⟩
    | 7, hii =>
      cases hii
      have w31 : (Xi S 904 70) = 7 := by simpa using w23
      exfalso; omega
    | 8, hii =>
      cases hii
      have w32 : (Xi S 904 70) = 8 := by simpa using w23
      exfalso; omega
    | 9, hii =>
      cases hii
      have w33 : (Xi S 904 70) = 9 := by simpa using w23
      exfalso; omega
    | 10, hii =>
      cases hii
      have w34 : (Xi S 904 70) = 10 := by simpa using w23
      exfalso; omega
    | 11, hii =>
      cases hii
      have w35 : (Xi S 904 70) = 11 := by simpa using w23
      exfalso; omega
    | 12, hii =>
      cases hii
      have w36 : (Xi S 904 70) = 12 := by simpa using w23
      exfalso; omega
    | 13, hii =>
      cases hii
      have w37 : (Xi S 904 70) = 13 := by simpa using w23
      exfalso; omega
    | 14, hii =>
      cases hii
      have w38 : (Xi S 904 70) = 14 := by simpa using w23
      exfalso; omega
    | 15, hii =>
      cases hii
      have w39 : (Xi S 904 70) = 15 := by simpa using w23
      exfalso; omega
    | 16, hii =>
      cases hii
      have w40 : (Xi S 904 70) = 16 := by simpa using w23
      exfalso; omega
    | 17, hii =>
      cases hii
      have w41 : (Xi S 904 70) = 17 := by simpa using w23
      refine y_aload_n rfl rfl ?_
      refine y_callV rfl rfl rfl (t_mo_doHas__p hH (by first | assumption | exact (by assumption : LSP S)) (by first | assumption | omega) (by first | assumption | exact (RBD_FR hF rfl (by assumption : RBD S))) (by first | assumption | omega) (by first | assumption | omega) (by first | assumption | omega) (by first | assumption | omega) _) ?_
      rintro _ T2 ⟨hHT2, w43, rfl, o376⟩
      have hFT2 : FR md_mo_does__17 S T2 := FR.tr hF w43 rfl
      show Pl _ _ _ _ _ _ [] _ _
      have K376 : True := trivial
      refine y_goto rfl rfl ?_
      refine y_return rfl rfl ?_
      exact ⟨hHT2, hFT2, rfl, (by first | (have t := K376; exact o376) | (exfalso; omega))⟩
    | 18, hii =>
      cases hii
      have w45 : (Xi S 904 70) = 18 := by simpa using w23
      exfalso; omega
    | 19, hii =>
      cases hii
      have w46 : (Xi S 904 70) = 19 := by simpa using w23
      exfalso; omega
    | 20, hii =>
      cases hii
      have w47 : (Xi S 904 70) = 20 := by simpa using w23
      exfalso; omega
    | n + 21, hii => exact absurd hii (by simp)
end
section
/-! LISTS: the rows where a RUN begins, counted -/
abbrev bg7 (T : Int → Int) (r : Int) : Prop := T r = 100 ∧ (r = 0 ∨ T (r - 1) ≠ 100)
def cR (T : Int → Int) : Nat → Nat
  | 0 => 0
  | r + 1 => cR T r + (if bg7 T (r : Int) then 1 else 0)
/-- no FREE word from b on -/
def NF7 (T : Int → Int) (b : Int) : Prop := ∀ i : Int, b ≤ i → T i ≠ 100
theorem reF_x {T : Int → Int} {b : Int} (h : NF7 T b) : ∀ (n m : Nat) (a : Int), b ≤ a + n → b ≤ a + m → reF T n a = reF T m a
  | 0, m, a, h1, h2 => by
    have t := h a (by omega)
    exact (reF_n t).trans (reF_n t).symm
  | n + 1, 0, a, h1, h2 => by
    have t := h a (by omega)
    exact (reF_n t).trans (reF_n t).symm
  | n + 1, m + 1, a, h1, h2 => by
    show (if T a = 100 then reF T n (a + 1) else a) = (if T a = 100 then reF T m (a + 1) else a)
    rw [reF_x h n m (a + 1) (by omega) (by omega)]
theorem re7_s {T : Int → Int} {b a : Int} (h : NF7 T b) (hb : b ≤ 5130) (ha : 0 ≤ a) (t : T a = 100) : re7 T a = re7 T (a + 1) := by
  show (if T a = 100 then reF T 5130 (a + 1) else a) = reF T 5131 (a + 1)
  rw [if_pos t]
  exact reF_x h _ _ _ (by omega) (by omega)
theorem cR_c {T : Int → Int} {b : Int} (h : NF7 T b) (hb : b ≤ 5130) : ∀ r : Nat, r ≤ 5140 → ((r = 0 ∨ T ((r : Int) - 1) ≠ 100) → kr7 T (cR T r) = nf7 T r) ∧ (0 < r → T ((r : Int) - 1) = 100 → ∃ k, cR T r = k + 1 ∧ kr7 T k < r ∧ re7 T (kr7 T k) = re7 T r)
  | 0, _ => ⟨fun _ => rfl, fun q => by omega⟩
  | r + 1, hr => by
    obtain ⟨i1, i2⟩ := cR_c h hb r (by omega)
    have e : ((r + 1 : Nat) : Int) - 1 = r := by omega
    have ei : ((r + 1 : Nat) : Int) = (r : Int) + 1 := by omega
    rw [e, ei]
    by_cases t : T r = 100
    · refine ⟨fun q => by rcases q with q | q; omega; exact absurd t q, fun _ _ => ?_⟩
      have s := re7_s h hb (by omega) t
      by_cases q : r = 0 ∨ T ((r : Int) - 1) ≠ 100
      · refine ⟨cR T r, ?_, ?_, ?_⟩
        · show cR T r + (if bg7 T (r : Int) then 1 else 0) = _
          rw [if_pos ⟨t, by rcases q with q | q; exact Or.inl (by omega); exact Or.inr q⟩]
        · rw [i1 q, nf_y t (by omega)]; omega
        · rw [i1 q, nf_y t (by omega)]; exact s
      · obtain ⟨k, k1, k2, k3⟩ := i2 (by omega) (Classical.byContradiction (fun w => q (Or.inr w)))
        refine ⟨k, ?_, by omega, k3.trans s⟩
        show cR T r + (if bg7 T (r : Int) then 1 else 0) = _
        rw [if_neg (fun w => q (by rcases w.2 with z | z; exact Or.inl (by omega); exact Or.inr z))]
        exact k1
    · have c : cR T (r + 1) = cR T r := by
        show cR T r + (if bg7 T (r : Int) then 1 else 0) = _
        rw [if_neg (fun w => t w.1)]
        rfl
      refine ⟨fun _ => ?_, fun _ q => absurd q t⟩
      rw [c, nf_n t]
      by_cases q : r = 0 ∨ T ((r : Int) - 1) ≠ 100
      · exact i1 q
      · obtain ⟨k, k1, k2, k3⟩ := i2 (by omega) (Classical.byContradiction (fun w => q (Or.inr w)))
        rw [k1]
        show nf7 T (re7 T (kr7 T k)) = _
        rw [k3, re7_c.2 t]
/-- the row where a RUN begins is that of its number -/
theorem cR_b {T : Int → Int} {b r : Int} (h : NF7 T b) (hb : b ≤ 5130) (h0 : 0 ≤ r) (hr : r ≤ 5140) (g : bg7 T r) : kr7 T (cR T r.toNat) = r := by
  have t := (cR_c h hb r.toNat (by omega)).1 (by rcases g.2 with q | q; exact Or.inl (by omega); exact Or.inr (by rw [show ((r.toNat : Nat) : Int) = r by omega]; exact q))
  rw [t, show ((r.toNat : Nat) : Int) = r by omega]
  exact nf_y g.1 (by omega)
theorem cR_y {T : Int → Int} {r : Int} (h0 : 0 ≤ r) (g : bg7 T r) : cR T (r + 1).toNat = cR T r.toNat + 1 := by
  rw [show (r + 1).toNat = r.toNat + 1 by omega]
  show cR T r.toNat + (if bg7 T (r.toNat : Int) then 1 else 0) = _
  rw [show ((r.toNat : Nat) : Int) = r by omega, if_pos g]
theorem cR_n {T : Int → Int} {r : Int} (h0 : 0 ≤ r) (g : ¬ bg7 T r) : cR T (r + 1).toNat = cR T r.toNat := by
  rw [show (r + 1).toNat = r.toNat + 1 by omega]
  show cR T r.toNat + (if bg7 T (r.toNat : Int) then 1 else 0) = _
  rw [show ((r.toNat : Nat) : Int) = r by omega, if_neg g]
  rfl
theorem cR_m {T : Int → Int} {a b : Nat} (h : a ≤ b) : cR T a ≤ cR T b := by
  induction b with
  | zero => rw [show a = 0 by omega]; exact Nat.le_refl _
  | succ b ih =>
    by_cases q : a ≤ b
    · exact Nat.le_trans (ih q) (Nat.le_add_right _ _)
    · rw [show a = b + 1 by omega]; exact Nat.le_refl _
theorem ty_nf {S : sS} {b : Int} (h : Xi S 876 7 ≤ b) : NF7 (ty7 S) b := fun i hi => by
  rw [ty7_o (by omega)]; decide
/-! the class takes a LIST of new names -/
def NWL (S : sS) (i : Nat) : Prop := mnV S (kr7 (ty7 S) i) (re7 (ty7 S) (kr7 (ty7 S) i)) = -1 ∧ re7 (ty7 S) (kr7 (ty7 S) i) - kr7 (ty7 S) i ≤ 3 ∧ ∀ j : Nat, j < i → ¬ alC S (kr7 (ty7 S) j) (re7 (ty7 S) (kr7 (ty7 S) j)) (kr7 (ty7 S) i) (re7 (ty7 S) (kr7 (ty7 S) i))
def LOK (S : sS) (c M : Int) (n : Nat) : Prop := ∀ i : Nat, i < n → NWL S i ∧ c + i < M
def LNW (S U : sS) (n : Nat) : Prop := Xi U 891 9 = n ∧ ∀ i : Nat, i < n → Xi U 892 i = kr7 (ty7 S) i ∧ Xi U 893 i = re7 (ty7 S) (kr7 (ty7 S) i)
def TLS (S S1 : sS) (z c M : Int) (n : Nat) : Prop := ∀ k : Nat, k < n → LOK S c M k → (¬ NWL S k → z = 0 ∧ FTO S S1 3 (kr7 (ty7 S) k)) ∧ (NWL S k → M ≤ c + k → z = 0 ∧ FTO S S1 9 (kr7 (ty7 S) k))
theorem nwl_of {S U : sS} {n : Nat} {a b : Int} (h : SMV S U) (l : LNW S U n) (ha : a = kr7 (ty7 S) n) (hb : b = re7 (ty7 S) (kr7 (ty7 S) n)) : nwC U a b ↔ NWL S n := by
  unfold nwC NWL WNC
  rw [mnV_eq h, l.1, ha, hb]
  constructor
  · rintro ⟨h1, h2, h3⟩
    refine ⟨h1, h2, fun j hj w => h3 ⟨j, by omega, ?_⟩⟩
    rw [(l.2 j hj).1, (l.2 j hj).2, alC_eq h]
    exact w
  · rintro ⟨h1, h2, h3⟩
    refine ⟨h1, h2, fun ⟨j, hj, w⟩ => h3 j (by omega) ?_⟩
    rw [(l.2 j (by omega)).1, (l.2 j (by omega)).2, alC_eq h] at w
    exact w
theorem lnw_s {S U V : sS} {n : Nat} {a b : Int} (l : LNW S U n) (ha : a = kr7 (ty7 S) n) (hb : b = re7 (ty7 S) (kr7 (ty7 S) n)) (r : Xi V 891 9 = Xi U 891 9 + 1 ∧ Xi V 892 (Xi U 891 9).toNat = a ∧ Xi V 893 (Xi U 891 9).toNat = b ∧ ∀ j : Nat, (j : Int) < Xi U 891 9 → Xi V 892 j = Xi U 892 j ∧ Xi V 893 j = Xi U 893 j) : LNW S V (n + 1) := by
  obtain ⟨r1, r2, r3, r4⟩ := r
  rw [l.1] at r1 r2 r3 r4
  refine ⟨by rw [r1]; omega, fun i hi => ?_⟩
  by_cases q : i = n
  · rw [q]
    rw [show ((n : Int)).toNat = n by omega] at r2 r3
    exact ⟨r2.trans ha, r3.trans hb⟩
  · obtain ⟨w1, w2⟩ := r4 i (by omega)
    rw [w1, w2]
    exact l.2 i (by omega)
theorem lok_s {S : sS} {c M : Int} {n : Nat} (l : LOK S c M n) (h : NWL S n) (hc : c + n < M) : LOK S c M (n + 1) := fun i hi => by
  by_cases q : i = n
  · rw [q]; exact ⟨h, hc⟩
  · exact l i (by omega)
theorem lok_b {S : sS} {c M : Int} {n : Nat} (l : LOK S c M n) (h : 0 ≤ c) (hM : 0 ≤ M) : (n : Int) ≤ M := by
  by_cases q : n = 0
  · omega
  · have t := (l (n - 1) (by omega)).2; omega
/-- a fault in a LIST -/
theorem tls_f {S P S1 : sS} {z c M : Int} {n N : Nat} {X : Prop} {a b : Int} (l : LOK S c M n) (hw : nwC P a b ↔ NWL S n) (p : ∀ r, pc7 P r = pc7 S r) (ha : a = kr7 (ty7 S) n) (h9 : Xi P 891 9 = n) (n3 : ¬ nwC P a b → z = 0 ∧ FTO P S1 3 a) (n9 : nwC P a b → M ≤ c + Xi P 891 9 → z = 0 ∧ FTO P S1 9 a) (ok : nwC P a b → c + Xi P 891 9 < M → z = 1 ∧ X) (hz : z = 0) : TLS S S1 0 c M N := fun k hk lk => by
  rw [h9] at n9 ok
  rw [ha] at n3 n9
  by_cases q : k < n
  · obtain ⟨x1, x2⟩ := l k q
    exact ⟨fun w => absurd x1 w, fun _ w => by omega⟩
  · by_cases e : k = n
    · rw [e]
      exact ⟨fun w => ⟨rfl, fto_p (n3 (fun y => w (by rw [ha] at hw; exact hw.1 y))).2 p⟩, fun w v => ⟨rfl, fto_p (n9 (by rw [← ha]; exact hw.2 w) (by omega)).2 p⟩⟩
    · obtain ⟨x1, x2⟩ := lk n (by omega)
      have t := (ok (hw.2 x1) x2).1
      omega
theorem tls_y {S S1 : sS} {z c M : Int} {N : Nat} (l : LOK S c M N) : TLS S S1 z c M N := fun k hk _ => by
  obtain ⟨x1, x2⟩ := l k hk
  exact ⟨fun w => absurd x1 w, fun _ w => by omega⟩
/-- names of a LIST told one after the other -/
def TNL (S : sS) (so c : Int) : Nat → sS → Prop
  | 0, V => SMV S V
  | n + 1, V => ∃ (W : sS) (i : Nat), TNL S so c n W ∧ NMI W V i so (c + n) (wRw S 879 (kr7 (ty7 S) n) (re7 (ty7 S) (kr7 (ty7 S) n)) 0) (wRw S 879 (kr7 (ty7 S) n) (re7 (ty7 S) (kr7 (ty7 S) n)) 1) (wRw S 879 (kr7 (ty7 S) n) (re7 (ty7 S) (kr7 (ty7 S) n)) 2)
theorem tnl_p {S V V' : sS} {so c : Int} : ∀ {n : Nat}, TNL S so c n V → (∀ j, Xi V' 3 j = Xi V 3 j) → (∀ j, Xi V' 4 j = Xi V 4 j) → (∀ j, Xj V' 2 j = Xj V 2 j) → Xi V' 1 3 = Xi V 1 3 → (∀ j, Xj V' 879 j = Xj V 879 j) → TNL S so c n V'
  | 0, h, a, b, cc, d, e => SMV.tr h ⟨d, cc, a, b, e⟩
  | n + 1, ⟨W, i, h1, h2⟩, a, b, cc, d, _ => ⟨W, i, h1, NMI_post h2 a b cc d⟩
theorem tnl_s {S V V' : sS} {so c w a b : Int} {n : Nat} (h : TNL S so c n V) (e : ∃ i : Nat, NMI V V' i so w (wRw V 879 a b 0) (wRw V 879 a b 1) (wRw V 879 a b 2)) (k : ∀ j, Xj V 879 j = Xj S 879 j) (ha : a = kr7 (ty7 S) n) (hb : b = re7 (ty7 S) (kr7 (ty7 S) n)) (hw : w = c + n) : TNL S so c (n + 1) V' := by
  obtain ⟨i, hi⟩ := e
  have q : ∀ t, wRw V 879 a b t = wRw S 879 (kr7 (ty7 S) n) (re7 (ty7 S) (kr7 (ty7 S) n)) t := fun t => by unfold wRw; rw [k, ha, hb]
  rw [q, q, q, hw] at hi
  exact ⟨V, i, h, hi⟩
/-- while a LIST is taken only news are written -/
def LSU (S U : sS) (n : Nat) : Prop := LNW S U n ∧ NRB U ∧ Xi U 876 8 = 0 ∧ (∀ k j : Nat, k < 876 → Xi U k j = Xi S k j) ∧ (∀ k j : Nat, (k < 876 ∨ (877 ≤ k ∧ k < 890)) → Xj U k j = Xj S k j) ∧ (Xi U 876 7 = Xi S 876 7 ∧ Xi U 876 5 = Xi S 876 5 ∧ Xi U 890 3 = Xi S 890 3) ∧ ∀ k j : Nat, 877 ≤ k → k < 890 → Xi U k j = Xi S k j
theorem lsu_0 {S : sS} (h9 : Xi S 891 9 = 0) (hb : NRB S) (hf : Xi S 876 8 = 0) : LSU S S 0 :=
  ⟨⟨h9, fun i hi => by omega⟩, hb, hf, fun _ _ _ => rfl, fun _ _ _ => rfl, ⟨rfl, rfl, rfl⟩, fun _ _ _ _ => rfl⟩
theorem LSU.v {S U : sS} {n : Nat} (h : LSU S U n) : SMV S U := ⟨h.2.2.2.1 1 3 (by omega), fun j => h.2.2.2.2.1 2 j (by omega), fun j => h.2.2.2.1 3 j (by omega), fun j => h.2.2.2.1 4 j (by omega), fun j => h.2.2.2.2.1 879 j (by omega)⟩
theorem LSU.t {S U : sS} {n : Nat} (h : LSU S U n) : ty7 U = ty7 S := funext fun i => by
  unfold ty7
  rw [h.2.2.2.2.2.1.1, h.2.2.2.2.2.2 877 _ (by omega) (by omega)]
theorem LSU.p {S U : sS} {n : Nat} (h : LSU S U n) (r : Int) : pc7 U r = pc7 S r := by
  unfold pc7
  rw [h.2.2.2.2.2.1.1, h.2.2.2.2.2.1.2.1, h.2.2.2.2.2.2 878 _ (by omega) (by omega)]
theorem LSU.c {S U : sS} {n : Nat} (h : LSU S U n) (c : CEN S) : CEN U := fun i hi => by
  rw [h.2.2.2.1 1 3 (by omega)] at hi
  rw [h.2.2.2.1 3 i (by omega), h.2.2.2.1 4 i (by omega)]
  exact c i hi
theorem ink_a {k : Nat} (h : k < 876) : inK [(0, 876), (877, 891), (894, 904)] k = true := by
  unfold inK
  simp only [List.any_cons, Bool.or_eq_true, Bool.and_eq_true, Nat.ble_eq, Nat.blt_eq]
  omega
theorem ink_b {k : Nat} (h1 : 877 ≤ k) (h : k < 891) : inK [(0, 876), (877, 891), (894, 904)] k = true := by
  unfold inK
  simp only [List.any_cons, Bool.or_eq_true, Bool.and_eq_true, Nat.ble_eq, Nat.blt_eq]
  omega
theorem lsu_s {S U V : sS} {n : Nat} {a b : Int} {l : List rec} (g : LSU S U n) (F : FR l U V) (ha : a = kr7 (ty7 S) n) (hb : b = re7 (ty7 S) (kr7 (ty7 S) n)) (nb : NRB V) (r : Xi V 876 8 = 0 ∧ Xi V 891 9 = Xi U 891 9 + 1 ∧ Xi V 892 (Xi U 891 9).toNat = a ∧ Xi V 893 (Xi U 891 9).toNat = b ∧ ∀ j : Nat, (j : Int) < Xi U 891 9 → Xi V 892 j = Xi U 892 j ∧ Xi V 893 j = Xi U 893 j) (a1 : kdis l [(0, 876), (877, 891), (894, 904)] = true) (a2 : mdf l 876 7 = false) (a3 : mdf l 876 5 = false) : LSU S V (n + 1) := by
  obtain ⟨g1, g2, g3, g4, g5, g6, g7⟩ := g
  have m := F.smk a1
  refine ⟨lnw_s g1 ha hb r.2, nb, r.1, fun k j hk => ?_, fun k j hk => ?_, ⟨(F.x 876 7 a2).trans g6.1, (F.x 876 5 a3).trans g6.2.1, ?_⟩, fun k j h1 h2 => ?_⟩
  · exact (m.x k (ink_a hk) j).trans (g4 k j hk)
  · rcases hk with q | q
    · exact (m.xj k (ink_a q) j).trans (g5 k j (Or.inl q))
    · exact (m.xj k (ink_b q.1 (by omega)) j).trans (g5 k j (Or.inr q))
  · exact (m.x 890 (ink_b (by omega) (by omega)) 3).trans g6.2.2
  · exact (m.x k (ink_b h1 (by omega)) j).trans (g7 k j h1 h2)
/-- one row further in a LIST -/
theorem lsu_n {S U : sS} {c M v : Int} (g : LSU S U (cR (ty7 S) v.toNat)) (l : LOK S c M (cR (ty7 S) v.toNat)) (hb : ¬ bg7 (ty7 U) v) (hv : 0 ≤ v) : LSU S U (cR (ty7 S) (v + 1).toNat) ∧ LOK S c M (cR (ty7 S) (v + 1).toNat) := by
  rw [g.t] at hb
  rw [cR_n hv hb]
  exact ⟨g, l⟩
theorem lsu_t {S U V : sS} {c M v b z : Int} {l1 : List rec} (g : LSU S U (cR (ty7 S) v.toNat)) (l : LOK S c M (cR (ty7 S) v.toNat)) (hb : bg7 (ty7 U) v) (e : re7 (ty7 S) v = b) (hv : 0 ≤ v ∧ v ≤ 5130) (hr : Xi S 876 7 ≤ 5130) (F : FR l1 U V) (n3 : ¬ nwC U v b → z = 0 ∧ FTO U V 3 v) (n9 : nwC U v b → M ≤ c + Xi U 891 9 → z = 0 ∧ FTO U V 9 v) (ok : nwC U v b → c + Xi U 891 9 < M → z = 1 ∧ Xi V 876 8 = 0 ∧ Xi V 891 9 = Xi U 891 9 + 1 ∧ Xi V 892 (Xi U 891 9).toNat = v ∧ Xi V 893 (Xi U 891 9).toNat = b ∧ ∀ j : Nat, (j : Int) < Xi U 891 9 → Xi V 892 j = Xi U 892 j ∧ Xi V 893 j = Xi U 893 j) (nb : z = 1 → NRB V) (hz : z ≠ 0) (a1 : kdis l1 [(0, 876), (877, 891), (894, 904)] = true := by rfl) (a2 : mdf l1 876 7 = false := by rfl) (a3 : mdf l1 876 5 = false := by rfl) : LSU S V (cR (ty7 S) (v + 1).toNat) ∧ LOK S c M (cR (ty7 S) (v + 1).toNat) := by
  rw [g.t] at hb
  have k := cR_b (ty_nf hr) (by omega) hv.1 (by omega) hb
  have eb : b = re7 (ty7 S) (kr7 (ty7 S) (cR (ty7 S) v.toNat)) := by rw [k]; exact e.symm
  have w := nwl_of g.v g.1 k.symm eb
  rw [cR_y hv.1 hb]
  by_cases q : nwC U v b
  · by_cases m : c + Xi U 891 9 < M
    · have r := ok q m
      exact ⟨lsu_s g F k.symm eb (nb r.1) r.2 a1 a2 a3, lok_s l (w.1 q) (by have := g.1.1; omega)⟩
    · exact absurd (n9 q (by omega)).1 hz
  · exact absurd (n3 q).1 hz
theorem lsu_f {S U V : sS} {c M v b z : Int} {N : Nat} {X : Prop} (g : LSU S U (cR (ty7 S) v.toNat)) (l : LOK S c M (cR (ty7 S) v.toNat)) (hb : bg7 (ty7 U) v) (e : re7 (ty7 S) v = b) (hv : 0 ≤ v ∧ v ≤ 5130) (hr : Xi S 876 7 ≤ 5130) (n3 : ¬ nwC U v b → z = 0 ∧ FTO U V 3 v) (n9 : nwC U v b → M ≤ c + Xi U 891 9 → z = 0 ∧ FTO U V 9 v) (ok : nwC U v b → c + Xi U 891 9 < M → z = 1 ∧ X) (hz : z = 0) : TLS S V 0 c M N ∧ ((cR (ty7 S) v.toNat) < N → ¬ LOK S c M N) := by
  rw [g.t] at hb
  have k := cR_b (ty_nf hr) (by omega) hv.1 (by omega) hb
  have eb : b = re7 (ty7 S) (kr7 (ty7 S) (cR (ty7 S) v.toNat)) := by rw [k]; exact e.symm
  have w := nwl_of g.v g.1 k.symm eb
  refine ⟨tls_f l w g.p k.symm g.1.1 n3 n9 ok hz, fun hN q => ?_⟩
  obtain ⟨q1, q2⟩ := q _ hN
  have t := (ok (w.2 q1) (by have := g.1.1; omega)).1
  omega
theorem cR_l {T : Int → Int} {v b : Int} (h0 : 0 ≤ v) (hv : v < b) (g : bg7 T v) : cR T v.toNat < cR T b.toNat := by
  have t := cR_y h0 g
  have u := cR_m (T := T) (a := (v + 1).toNat) (b := b.toNat) (by omega)
  omega
theorem bgr_7 {S : sS} {r : Int} (h0 : 0 ≤ r) : (bgr S r 0 = 1 → bg7 (ty7 S) r) ∧ (bg7 (ty7 S) r → bgr S r 0 = 1) := by
  unfold bgr
  by_cases q : r < Xi S 876 7
  · have e := ty7_i h0 q
    constructor
    · intro h
      by_cases c : 0 ≤ r ∧ r < Xi S 876 7 ∧ Xi S 877 r.toNat = 100 ∧ (r = 0 ∨ Xi S 877 (r - 1).toNat ≠ 100)
      · refine ⟨by rw [e]; exact c.2.2.1, ?_⟩
        by_cases z : r = 0
        · exact Or.inl z
        · right
          rw [ty7_i (by omega) (by omega)]
          rcases c.2.2.2 with w | w
          · exact absurd w z
          · exact w
      · rw [if_neg c] at h; omega
    · intro h
      rw [if_pos]
      refine ⟨h0, q, by rw [← e]; exact h.1, ?_⟩
      by_cases z : r = 0
      · exact Or.inl z
      · right
        rcases h.2 with w | w
        · exact absurd w z
        · rw [ty7_i (by omega) (by omega)] at w; exact w
  · refine ⟨fun h => ?_, fun h => ?_⟩
    · rw [if_neg (fun z => q z.2.1)] at h; omega
    · have t := h.1; rw [ty7_o (by omega)] at t; omega
/-- 11: the kind, and what the class does -/
def kd11 (S : sS) : Int := if ty7 S (Xi S 890 3 + 3) = 28 then fnd S 0 (Xi S 890 3 + 6) (re7 (ty7 S) (Xi S 890 3 + 6)) else -1
abbrev nL (S : sS) : Nat := cR (ty7 S) (Xi S 890 3).toNat
def ARN (S S1 : sS) (k : Nat) (c v : Int) (n : Nat) : Prop := (∀ i : Nat, i < n → Xi S1 k (c + i).toNat = v) ∧ ∀ j : Nat, (j : Int) < c → Xi S1 k j = Xi S k j
def TACT (S S1 : sS) (z : Int) : Prop :=
  TLS S S1 z (Xi S 5 8) 12 (nL S) ∧
  (LOK S (Xi S 5 8) 12 (nL S) → ty7 S (Xi S 890 3 + 3) = 28 → kd11 S = -1 → z = 0 ∧ FTO S S1 4 (Xi S 890 3 + 6)) ∧
  (LOK S (Xi S 5 8) 12 (nL S) → ¬ (ty7 S (Xi S 890 3 + 3) = 28 ∧ kd11 S = -1) → z = 1 ∧ Xi S1 876 8 = 0 ∧ TNL S 8 (Xi S 5 8) (nL S) S1 ∧ Xi S1 5 8 = Xi S 5 8 + nL S ∧ (∀ j, j ≠ 8 → Xi S1 5 j = Xi S 5 j) ∧ ARN S S1 19 (Xi S 5 8) (kd11 S) (nL S))
theorem tact_1 {S S1 : sS} (h : TLS S S1 0 (Xi S 5 8) 12 (nL S)) (n : ¬ LOK S (Xi S 5 8) 12 (nL S)) : TACT S S1 0 := ⟨h, fun q => absurd q n, fun q => absurd q n⟩
theorem tact_2 {S S1 : sS} {z : Int} (l : LOK S (Xi S 5 8) 12 (nL S)) (h : ty7 S (Xi S 890 3 + 3) = 28) (k : kd11 S = -1) (hz : z = 0) (f : FTO S S1 4 (Xi S 890 3 + 6)) : TACT S S1 z := ⟨tls_y l, fun _ _ _ => ⟨hz, f⟩, fun _ q => absurd ⟨h, k⟩ q⟩
theorem tact_3 {S S1 : sS} (l : LOK S (Xi S 5 8) 12 (nL S)) (h : ¬ (ty7 S (Xi S 890 3 + 3) = 28 ∧ kd11 S = -1)) (r : Xi S1 876 8 = 0 ∧ TNL S 8 (Xi S 5 8) (nL S) S1 ∧ Xi S1 5 8 = Xi S 5 8 + nL S ∧ (∀ j, j ≠ 8 → Xi S1 5 j = Xi S 5 j) ∧ ARN S S1 19 (Xi S 5 8) (kd11 S) (nL S)) : TACT S S1 1 := ⟨tls_y l, fun _ a b => absurd ⟨a, b⟩ h, fun _ _ => ⟨rfl, r⟩⟩
theorem kd_y {S U : sS} {n : Nat} {b z : Int} (g : LSU S U n) (h : ty7 S (Xi S 890 3 + 3) = 28) (v : z = fnd U 0 (Xi S 890 3 + 6) b) (e : re7 (ty7 S) (Xi S 890 3 + 6) = b) : z = kd11 S := by
  unfold kd11
  rw [if_pos h, v, fnd_eq g.v, ← e]
theorem kd_n {S : sS} (h : ¬ ty7 S (Xi S 890 3 + 3) = 28) : (-1 : Int) = kd11 S := by unfold kd11; rw [if_neg h]
theorem arn_0 {S U : sS} {k : Nat} {c v : Int} (h : ∀ j, Xi U k j = Xi S k j) : ARN S U k c v 0 := ⟨fun i hi => by omega, fun j _ => h j⟩
theorem arn_s {S U V W : sS} {k : Nat} {c v x : Int} {n : Nat} (h : ARN S U k c v n) (f : ∀ j, Xi V k j = Xi U k j) (e : W = uI V k x.toNat (Int32.ofInt v)) (hx : x = c + n) (hc : 0 ≤ c) (hv : rg v) : ARN S W k c v (n + 1) := by
  refine ⟨fun i hi => ?_, fun j hj => ?_⟩
  · by_cases q : i = n
    · rw [q, ← hx, e]; exact Xi_same hv
    · rw [e, Xi_ne (by omega), f]; exact h.1 i (by omega)
  · rw [e, Xi_ne (by omega), f]; exact h.2 j hj
theorem lnw_k {S U V : sS} {n : Nat} (h : LNW S U n) (x : Xi V 891 9 = Xi U 891 9) (a : ∀ j, Xi V 892 j = Xi U 892 j) (b : ∀ j, Xi V 893 j = Xi U 893 j) : LNW S V n :=
  ⟨x.trans h.1, fun i hi => ⟨(a i).trans (h.2 i hi).1, (b i).trans (h.2 i hi).2⟩⟩
theorem arn_k {S U V : sS} {k : Nat} {c v : Int} {n : Nat} (h : ARN S U k c v n) (f : ∀ j, Xi V k j = Xi U k j) : ARN S V k c v n := ⟨fun i hi => (f _).trans (h.1 i hi), fun j hj => (f j).trans (h.2 j hj)⟩
theorem nrb_k {U V : sS} (h : NRB U) (x : Xi V 891 9 = Xi U 891 9) (a : ∀ j, Xi V 892 j = Xi U 892 j) (b : ∀ j, Xi V 893 j = Xi U 893 j) : NRB V := fun i hi => by rw [x] at hi; rw [a, b]; exact h i hi

/-! a name with an s -/
def wSp (S : sS) (f t i : Int) : Int := if f + i < t then (if f + i = t - 1 then Xj S 879 (f + i).toNat * 27 + 19 else Xj S 879 (f + i).toNat) else 0
def WDB (S : sS) (a b : Int) : Prop := ∀ j : Int, a ≤ j → j < b → 0 ≤ Xj S 879 j.toNat ∧ Xj S 879 j.toNat < 150094635296999121
def NWS (S V V1 : sS) (so wh f t : Int) : Prop := (mnF V (wSp S f t 0) (wSp S f t 1) (wSp S f t 2) ≠ -1 → SMV V V1) ∧ (mnF V (wSp S f t 0) (wSp S f t 1) (wSp S f t 2) = -1 → ∃ i : Nat, NMI V V1 i so wh (wSp S f t 0) (wSp S f t 1) (wSp S f t 2))
def SPL (S U : sS) (f v : Int) : Prop := ∀ k : Nat, (k : Int) < v → Xj U 894 k = Xj S 879 (f + k).toNat
theorem spl_s {S U V : sS} {f v : Int} {x : Int} (h : SPL S U f v) (e : V = uJ U 894 v.toNat (Int64.ofInt x)) (hx : x = Xj S 879 (f + v).toNat) (hr : rgL x) (h0 : 0 ≤ v) : SPL S V f (v + 1) := fun k hk => by
  rw [e]
  by_cases q : k = v.toNat
  · rw [q, Xj_same hr, hx, show ((v.toNat : Nat) : Int) = v by omega]
  · rw [Xj_ne (by omega)]; exact h k (by omega)
theorem sps_w {S U V : sS} {f t n x : Int} (h : SPL S U f n) (e : V = uJ U 894 (n - 1).toNat (Int64.ofInt x)) (hx : x = Xj U 894 (n - 1).toNat * 27 + 19) (hn : n = t - f) (h1 : 1 ≤ n ∧ n ≤ 3) (w : WDB S f t) (hf : 0 ≤ f) : ∀ i : Nat, (i : Int) < n → Xj V 894 i = wSp S f t i := fun i hi => by
  unfold wSp
  rw [if_pos (by omega), e]
  by_cases q : (i : Int) = n - 1
  · rw [if_pos (by omega), show i = (n - 1).toNat by omega]
    have a := h (n - 1).toNat (by omega)
    have b := w (f + ((n - 1).toNat : Int)) (by omega) (by omega)
    rw [hx, a]
    exact Xj_same (by unfold rgL; omega)
  · rw [if_neg (by omega), Xj_ne (by omega)]
    exact h i hi
theorem sps_m {S V V1 : sS} {f t n : Int} (h : ∀ i : Nat, (i : Int) < n → Xj V1 894 i = wSp S f t i) (s : SMV V V1) (hn : n = t - f) (h1 : 1 ≤ n ∧ n ≤ 3) : mnR V1 894 0 n.toNat = mnF V (wSp S f t 0) (wSp S f t 1) (wSp S f t 2) := by
  unfold mnR
  rw [mnF_eq s]
  have e0 : Xj V1 894 0 = wSp S f t 0 := h 0 (by omega)
  have e1 : (if 1 < n.toNat then Xj V1 894 (0 + 1) else 0) = wSp S f t 1 := by
    by_cases q : 1 < n.toNat
    · rw [if_pos q]; exact h 1 (by omega)
    · rw [if_neg q]; unfold wSp; rw [if_neg (by omega)]
  have e2 : (if 2 < n.toNat then Xj V1 894 (0 + 2) else 0) = wSp S f t 2 := by
    by_cases q : 2 < n.toNat
    · rw [if_pos q]; exact h 2 (by omega)
    · rw [if_neg q]; unfold wSp; rw [if_neg (by omega)]
  rw [e0, e1, e2]
theorem sps_r {S V1 : sS} {f t n : Int} (h : ∀ i : Nat, (i : Int) < n → Xj V1 894 i = wSp S f t i) (hn : n = t - f) (i : Nat) : wRw V1 894 0 n i = wSp S f t i := by
  unfold wRw
  by_cases q : 0 + (i : Int) < n
  · rw [if_pos q, show (0 + (i : Int)).toNat = i by omega]; exact h i (by omega)
  · rw [if_neg q]; unfold wSp; rw [if_neg (by omega)]
theorem nws_y {S V V1 : sS} {so wh f t n : Int} (h : ∀ i : Nat, (i : Int) < n → Xj V 894 i = wSp S f t i) (hn : n = t - f) (s : SMV S V) (e : ∃ i : Nat, NMI V V1 i so wh (wRw V 894 0 n 0) (wRw V 894 0 n 1) (wRw V 894 0 n 2)) (m : mnF S (wSp S f t 0) (wSp S f t 1) (wSp S f t 2) = -1) : NWS S S V1 so wh f t := by
  refine ⟨fun q => absurd m q, fun _ => ?_⟩
  obtain ⟨i, hi⟩ := e
  have a := sps_r h hn 0
  have b := sps_r h hn 1
  have c := sps_r h hn 2
  rw [show ((0 : Nat) : Int) = 0 from rfl] at a
  rw [show ((1 : Nat) : Int) = 1 from rfl] at b
  rw [show ((2 : Nat) : Int) = 2 from rfl] at c
  rw [a, b, c] at hi
  exact ⟨i, NMI_pre hi s.2.2.1 s.2.2.2.1 s.2.1 s.1⟩
theorem nws_n {S V1 : sS} {so wh f t : Int} (s : SMV S V1) (m : mnF S (wSp S f t 0) (wSp S f t 1) (wSp S f t 2) ≠ -1) : NWS S S V1 so wh f t := ⟨fun _ => s, fun q => absurd q m⟩

abbrev Q_to_beginsRun__p (S : sS) (row : Int) (from_ : Int) : pst := fun r S1 => S = S1 ∧ (∃ z : Int, r = some (iv z) ∧ (0 ≤ z ∧ z ≤ 1) ∧ (z = bgr S row from_))
set_option maxRecDepth 100000 in
theorem t_to_beginsRun__p {S : sS} (hH : RI S) (row : Int) (from_ : Int) (hrow : -2147483648 ≤ row ∧ row ≤ 2147483647) (hfrom_ : -2147483648 ≤ from_ ∧ from_ ≤ 2147483647) (d : Nat) : Mp lay0 (d + 1) m_to_beginsRun [.ref 876, iv row, iv from_] S (Q_to_beginsRun__p S row from_) := by
  refine Mp_R rfl rfl (fun fu => ?_)
  refine y_iload_n rfl rfl ?_
  refine y_iload_n rfl rfl ?_
  refine y_icmp_lt rfl rfl (by unfold rg; omega) (by unfold rg; omega) (fun w1 => ?_) (fun w2 => ?_)
  · refine y_iconst rfl ?_
    refine y_ireturn rfl rfl ?_
    exact ⟨rfl, _, rfl, ⟨by omega, by omega⟩, (by unfold bgr; first | exact (if_pos (by omega)).symm | exact (if_neg (by omega)).symm)⟩
  · refine y_iload_n rfl rfl ?_
    refine y_aload_n rfl rfl ?_
    refine y_gfi rfl rfl rfl rfl rfl ?_
    have w3 : -2147483648 ≤ (Xi S 876 7) ∧ (Xi S 876 7) ≤ 2147483647 := Xi_rgI
    refine y_icmp_ge rfl rfl (by unfold rg; omega) (by unfold rg; omega) (fun w4 => ?_) (fun w5 => ?_)
    · refine y_iconst rfl ?_
      refine y_ireturn rfl rfl ?_
      exact ⟨rfl, _, rfl, ⟨by omega, by omega⟩, (by unfold bgr; first | exact (if_pos (by omega)).symm | exact (if_neg (by omega)).symm)⟩
    · refine y_aload_n rfl rfl ?_
      refine y_gfr rfl rfl rfl rfl rfl (hH.r 876 0 877 rfl) ?_
      refine y_iload_n rfl rfl ?_
      refine y_ialoadP (n := 5130) rfl rfl (by unfold rg; omega) (fun w6 w7 => ?_)
      have w8 : -2147483648 ≤ (Xi S 877 ((row).toNat)) ∧ (Xi S 877 ((row).toNat)) ≤ 2147483647 := Xi_rgI
      refine y_bipush rfl rfl ?_
      refine y_icmp_ne rfl rfl (by unfold rg; omega) (by unfold rg; omega) (fun w9 => ?_) (fun w10 => ?_)
      · refine y_iconst rfl ?_
        refine y_ireturn rfl rfl ?_
        exact ⟨rfl, _, rfl, ⟨by omega, by omega⟩, (by unfold bgr; first | exact (if_pos (by omega)).symm | exact (if_neg (by omega)).symm)⟩
      · refine y_iload_n rfl rfl ?_
        refine y_iload_n rfl rfl ?_
        refine y_icmp_eq rfl rfl (by unfold rg; omega) (by unfold rg; omega) (fun w11 => ?_) (fun w12 => ?_)
        · refine y_iconst rfl ?_
          refine y_goto rfl rfl ?_
          refine y_ireturn rfl rfl ?_
          exact ⟨rfl, _, rfl, ⟨by omega, by omega⟩, (by unfold bgr; first | exact (if_pos (by omega)).symm | exact (if_neg (by omega)).symm)⟩
        · refine y_aload_n rfl rfl ?_
          refine y_gfr rfl rfl rfl rfl rfl (hH.r 876 0 877 rfl) ?_
          refine y_iload_n rfl rfl ?_
          refine y_iconst rfl ?_
          refine y_isub rfl ?_
          refine y_ialoadP (n := 5130) rfl rfl (by unfold rg; omega) (fun w13 w14 => ?_)
          have w15 : -2147483648 ≤ (Xi S 877 (((row - 1)).toNat)) ∧ (Xi S 877 (((row - 1)).toNat)) ≤ 2147483647 := Xi_rgI
          refine y_bipush rfl rfl ?_
          refine y_icmp_eq rfl rfl (by unfold rg; omega) (by unfold rg; omega) (fun w16 => ?_) (fun w17 => ?_)
          · refine y_iconst rfl ?_
            refine y_ireturn rfl rfl ?_
            exact ⟨rfl, _, rfl, ⟨by omega, by omega⟩, (by unfold bgr; first | exact (if_pos (by omega)).symm | exact (if_neg (by omega)).symm)⟩
          · refine y_iconst rfl ?_
            refine y_goto rfl rfl ?_
            refine y_ireturn rfl rfl ?_
            exact ⟨rfl, _, rfl, ⟨by omega, by omega⟩, (by unfold bgr; first | exact (if_pos (by omega)).symm | exact (if_neg (by omega)).symm)⟩
abbrev Q_re_beginsName__p (S : sS) (row : Int) : pst := fun r S1 => S = S1 ∧ (∃ z : Int, r = some (iv z) ∧ (0 ≤ z ∧ z ≤ 1) ∧ ((z = 1 → bg7 (ty7 S) row ∧ row < Xi S 890 3) ∧ (z = 0 → row < Xi S 890 3 → ¬ bg7 (ty7 S) row)))
set_option maxRecDepth 100000 in
theorem t_re_beginsName__p {S : sS} (hH : RI S) (row : Int) (hrow : 0 ≤ row ∧ row ≤ 6000) (d : Nat) : Mp lay0 (d + 2) m_re_beginsName [.ref 891, iv row] S (Q_re_beginsName__p S row) := by
  refine Mp_R rfl rfl (fun fu => ?_)
  have w1 : -2147483648 ≤ Xi S 890 3 ∧ Xi S 890 3 ≤ 2147483647 := Xi_rgI
  refine y_aload_n rfl rfl ?_
  refine y_gfr rfl rfl rfl rfl rfl (hH.r 891 0 876 rfl) ?_
  refine y_iload_n rfl rfl ?_
  refine y_iconst rfl ?_
  refine y_callV rfl rfl rfl (t_to_beginsRun__p hH row 0 ⟨by omega, by omega⟩ ⟨by omega, by omega⟩ _) ?_
  rintro _ _ ⟨rfl, z2, rfl, w2, v6⟩
  show Pl _ _ _ _ _ _ [iv z2] _ _
  refine y_if_eq rfl rfl (by unfold rg; omega) (fun w3 => ?_) (fun w4 => ?_)
  · refine y_iconst rfl ?_
    refine y_ireturn rfl rfl ?_
    exact ⟨rfl, _, rfl, ⟨by omega, by omega⟩, (by have t := bgr_7 (S := S) (r := row) (by omega); rw [← v6] at t; exact ⟨fun q => ⟨t.1 (by omega), by omega⟩, fun q h w => by first | (exfalso; omega) | (have u := t.2 w; omega)⟩)⟩
  · refine y_iload_n rfl rfl ?_
    refine y_aload_n rfl rfl ?_
    refine y_gfr rfl rfl rfl rfl rfl (hH.r 891 1 890 rfl) ?_
    refine y_gfi rfl rfl rfl rfl rfl ?_
    refine y_icmp_ge rfl rfl (by unfold rg; omega) (by unfold rg; omega) (fun w5 => ?_) (fun w6 => ?_)
    · refine y_iconst rfl ?_
      refine y_ireturn rfl rfl ?_
      exact ⟨rfl, _, rfl, ⟨by omega, by omega⟩, (by have t := bgr_7 (S := S) (r := row) (by omega); rw [← v6] at t; exact ⟨fun q => ⟨t.1 (by omega), by omega⟩, fun q h w => by first | (exfalso; omega) | (have u := t.2 w; omega)⟩)⟩
    · refine y_iconst rfl ?_
      refine y_goto rfl rfl ?_
      refine y_ireturn rfl rfl ?_
      exact ⟨rfl, _, rfl, ⟨by omega, by omega⟩, (by have t := bgr_7 (S := S) (r := row) (by omega); rw [← v6] at t; exact ⟨fun q => ⟨t.1 (by omega), by omega⟩, fun q h w => by first | (exfalso; omega) | (have u := t.2 w; omega)⟩)⟩
def md_re_tellActions__p : List rec := [(1, 2, 3, 4), (2, 3, 0, 100000), (3, 4, 0, 100000), (4, 5, 0, 100000), (5, 6, 0, 100000), (19, 20, 0, 100000), (876, 877, 8, 9), (876, 877, 9, 10), (891, 892, 9, 10), (892, 893, 0, 100000), (893, 894, 0, 100000)]
abbrev Q_re_tellActions__p (S : sS) : pst := fun r S1 => RI S1 ∧ FR md_re_tellActions__p S S1 ∧ (∃ z : Int, r = some (iv z) ∧ (0 ≤ z ∧ z ≤ 1) ∧ (TACT S S1 z))
set_option maxRecDepth 100000 in
theorem t_re_tellActions__p {S : sS} (hH : RI S) (h13 : 0 ≤ Xi S 1 3 ∧ Xi S 1 3 ≤ 200) (hCE : CEN S) (hNB : NRB S) (hf : Xi S 876 8 = 0) (hr : Xi S 876 7 ≤ 5130) (ht : 0 ≤ Xi S 890 3 ∧ Xi S 890 3 ≤ 5125) (hn0 : Xi S 891 9 = 0) (h2 : Xi S 1 3 < 199) (hc : 0 ≤ Xi S 5 8 ∧ Xi S 5 8 ≤ 12) (hE : Hid (LOK S (Xi S 5 8) 12 (nL S) → Xi S 1 3 + nL S ≤ 199)) (d : Nat) : Mp lay0 (d + 4) m_re_tellActions [.ref 891] S (Q_re_tellActions__p S) := by
  refine Mp_R rfl rfl (fun fu => ?_)
  have hF : FR md_re_tellActions__p S S := FR.rf
  have w1 : -2147483648 ≤ Xi S 1 3 ∧ Xi S 1 3 ≤ 2147483647 := Xi_rgI
  have w2 : -2147483648 ≤ Xi S 5 8 ∧ Xi S 5 8 ≤ 2147483647 := Xi_rgI
  have w3 : -2147483648 ≤ Xi S 876 7 ∧ Xi S 876 7 ≤ 2147483647 := Xi_rgI
  have w4 : -2147483648 ≤ Xi S 876 8 ∧ Xi S 876 8 ≤ 2147483647 := Xi_rgI
  have w5 : -2147483648 ≤ Xi S 890 3 ∧ Xi S 890 3 ≤ 2147483647 := Xi_rgI
  have w6 : -2147483648 ≤ Xi S 891 9 ∧ Xi S 891 9 ≤ 2147483647 := Xi_rgI
  have C10 : ∀ (n10 : Nat) (_ : n10 ≤ fu) (T1 : sS) (_ : RI T1) (_ : FR md_re_tellActions__p S T1) (v1 : Int) (v2 : Int), (0 ≤ v1 ∧ v1 ≤ 5125) → (-2147483648 ≤ v2 ∧ v2 ≤ 2147483647) → (v1 = Xi S 890 3) → (0 ≤ v2 ∧ v2 ≤ v1) → (Hid (LSU S T1 (cR (ty7 S) (v2).toNat))) → (Hid (LOK S (Xi S 5 8) 12 (cR (ty7 S) (v2).toNat))) → (Xi T1 876 8 = 0) → (Xi T1 5 8 = Xi S 5 8) → (Xi T1 890 3 = Xi S 890 3) → (Xi T1 876 7 = Xi S 876 7) → (Xi T1 1 3 = Xi S 1 3) → (0 ≤ Xi T1 891 9 ∧ Xi T1 891 9 ≤ 12) → Pl n10 lay0 (d + 3) m_re_tellActions 10 [(0, .ref 891), (1, iv v1), (2, iv v2)] [] T1 (Q_re_tellActions__p S) := by
    intro n10
    induction n10 with
    | zero => intros; exact Pl_0
    | succ n10 ih10 =>
      intro hm10 T1 hHT1 hFT1 v1 v2 w7 w8 w9 w10 G10 L10 w11 w12 w13 w14 w15 w16
      have w17 : Xi T1 876 7 = Xi S 876 7 := hFT1.x _ _ rfl
      have w18 : Xi T1 890 3 = Xi S 890 3 := hFT1.x _ _ rfl
      have w19 : -2147483648 ≤ Xi T1 1 3 ∧ Xi T1 1 3 ≤ 2147483647 := Xi_rgI
      have w20 : -2147483648 ≤ Xi T1 5 8 ∧ Xi T1 5 8 ≤ 2147483647 := Xi_rgI
      have w21 : -2147483648 ≤ Xi T1 876 7 ∧ Xi T1 876 7 ≤ 2147483647 := Xi_rgI
      have w22 : -2147483648 ≤ Xi T1 876 8 ∧ Xi T1 876 8 ≤ 2147483647 := Xi_rgI
      have w23 : -2147483648 ≤ Xi T1 890 3 ∧ Xi T1 890 3 ≤ 2147483647 := Xi_rgI
      have w24 : -2147483648 ≤ Xi T1 891 9 ∧ Xi T1 891 9 ≤ 2147483647 := Xi_rgI
      have C117 : ∀  (T2 : sS) (_ : RI T2) (_ : FR md_re_tellActions__p S T2) (v2 : Int), (-2147483648 ≤ v2 ∧ v2 ≤ 2147483647) → (Hid (LSU S T2 (nL S))) → (Hid (LOK S (Xi S 5 8) 12 (nL S))) → (v2 = kd11 S) → (Hid (¬ (ty7 S (Xi S 890 3 + 3) = 28 ∧ kd11 S = -1))) → (Xi T2 876 8 = 0) → (Xi T2 5 8 = Xi S 5 8) → (Xi T2 1 3 = Xi S 1 3) → (Xi T2 891 9 = nL S) → Pl n10 lay0 (d + 3) m_re_tellActions 117 [(0, .ref 891), (2, iv v2)] [] T2 (Q_re_tellActions__p S) := by
        intro T2 hHT2 hFT2 v2 w25 G117 L117 k117 R117 w26 w27 w28 w29
        have w30 : Xi T2 876 7 = Xi S 876 7 := hFT2.x _ _ rfl
        have w31 : Xi T2 890 3 = Xi S 890 3 := hFT2.x _ _ rfl
        have w32 : -2147483648 ≤ Xi T2 1 3 ∧ Xi T2 1 3 ≤ 2147483647 := Xi_rgI
        have w33 : -2147483648 ≤ Xi T2 5 8 ∧ Xi T2 5 8 ≤ 2147483647 := Xi_rgI
        have w34 : -2147483648 ≤ Xi T2 876 7 ∧ Xi T2 876 7 ≤ 2147483647 := Xi_rgI
        have w35 : -2147483648 ≤ Xi T2 876 8 ∧ Xi T2 876 8 ≤ 2147483647 := Xi_rgI
        have w36 : -2147483648 ≤ Xi T2 890 3 ∧ Xi T2 890 3 ≤ 2147483647 := Xi_rgI
        have w37 : -2147483648 ≤ Xi T2 891 9 ∧ Xi T2 891 9 ≤ 2147483647 := Xi_rgI
        have C119 : ∀ (n119 : Nat) (_ : n119 ≤ n10) (T3 : sS) (_ : RI T3) (_ : FR md_re_tellActions__p S T3) (v2 : Int) (v3 : Int), (-2147483648 ≤ v2 ∧ v2 ≤ 2147483647) → (0 ≤ v3 ∧ v3 ≤ 24) → (0 ≤ v3) → (v2 = kd11 S) → (Hid (LOK S (Xi S 5 8) 12 (nL S))) → (Hid (¬ (ty7 S (Xi S 890 3 + 3) = 28 ∧ kd11 S = -1))) → (Hid (LNW S T3 (nL S))) → (NRB T3) → (Hid (∀ j, Xj T3 879 j = Xj S 879 j)) → (Hid (TNL S 8 (Xi S 5 8) (v3).toNat T3)) → (Hid (∀ j, j ≠ 8 → Xi T3 5 j = Xi S 5 j)) → (Hid (ARN S T3 19 (Xi S 5 8) v2 (v3).toNat)) → (Xi T3 876 8 = 0) → (Xi T3 5 8 = Xi S 5 8 + v3) → (Xi T3 1 3 ≤ Xi S 1 3 + v3) → (0 ≤ Xi T3 1 3) → (v3 ≤ nL S) → (Xi T3 891 9 = nL S) → ((nL S : Int) ≤ 12) → (Xi S 1 3 + nL S ≤ 199) → Pl n119 lay0 (d + 3) m_re_tellActions 119 [(0, .ref 891), (2, iv v2), (3, iv v3)] [] T3 (Q_re_tellActions__p S) := by
          intro n119
          induction n119 with
          | zero => intros; exact Pl_0
          | succ n119 ih119 =>
            intro hm119 T3 hHT3 hFT3 v2 v3 w38 w39 w40 k119 L119 R119 N119 B119 J119 M119 O119 A119 w41 w42 w43 w44 w45 w46 b119 h119
            have w47 : Xi T3 876 7 = Xi S 876 7 := hFT3.x _ _ rfl
            have w48 : Xi T3 890 3 = Xi S 890 3 := hFT3.x _ _ rfl
            have w49 : -2147483648 ≤ Xi T3 1 3 ∧ Xi T3 1 3 ≤ 2147483647 := Xi_rgI
            have w50 : -2147483648 ≤ Xi T3 5 8 ∧ Xi T3 5 8 ≤ 2147483647 := Xi_rgI
            have w51 : -2147483648 ≤ Xi T3 876 7 ∧ Xi T3 876 7 ≤ 2147483647 := Xi_rgI
            have w52 : -2147483648 ≤ Xi T3 876 8 ∧ Xi T3 876 8 ≤ 2147483647 := Xi_rgI
            have w53 : -2147483648 ≤ Xi T3 890 3 ∧ Xi T3 890 3 ≤ 2147483647 := Xi_rgI
            have w54 : -2147483648 ≤ Xi T3 891 9 ∧ Xi T3 891 9 ≤ 2147483647 := Xi_rgI
            refine ys_iload_n rfl rfl ?_
            refine y_aload_n rfl rfl ?_
            refine y_gfi rfl rfl rfl rfl rfl ?_
            refine y_icmp_ge rfl rfl (by unfold rg; omega) (by unfold rg; omega) (fun w55 => ?_) (fun w56 => ?_)
            · refine y_iconst rfl ?_
              have K124 : True := trivial
              have b170 : (v3).toNat = nL S := by omega
              have R124 : TACT S T3 1 := tact_3 L119.o R119.o ⟨by omega, by have t := M119.o; rw [b170] at t; exact t, by omega, O119.o, by have t := A119.o; rw [b170, k119] at t; exact t⟩
              refine y_ireturn rfl rfl ?_
              exact ⟨hHT3, hFT3, _, rfl, ⟨by omega, by omega⟩, (by first | (have t := K124; exact R124) | (have t := K113; exact tact_2 L58.o t72 k113 (by omega) Y113) | (have t := K44; exact tact_1 (F50.o).1 ((F50.o).2 (cR_l (by omega) (by omega) (by have t := B17.o; rw [G10.o.t] at t; exact t)))))⟩
            · refine y_aload_n rfl rfl ?_
              have nb127 := B119 v3.toNat (by omega)
              refine y_gfr rfl rfl rfl rfl rfl (hHT3.r 891 2 1 rfl) ?_
              refine y_gfr rfl rfl rfl rfl rfl (hHT3.r 1 18 19 rfl) ?_
              refine y_aload_n rfl rfl ?_
              refine y_gfr rfl rfl rfl rfl rfl (hHT3.r 891 2 1 rfl) ?_
              refine y_bipush rfl rfl ?_
              refine y_aload_n rfl rfl ?_
              refine y_gfr rfl rfl rfl rfl rfl (hHT3.r 891 0 876 rfl) ?_
              refine y_gfr rfl rfl rfl rfl rfl (hHT3.r 876 2 879 rfl) ?_
              refine y_aload_n rfl rfl ?_
              refine y_gfr rfl rfl rfl rfl rfl (hHT3.r 891 7 892 rfl) ?_
              refine y_iload_n rfl rfl ?_
              refine y_ialoadP (n := 24) rfl rfl (by unfold rg; omega) (fun w57 w58 => ?_)
              have w59 : -2147483648 ≤ (Xi T3 892 ((v3).toNat)) ∧ (Xi T3 892 ((v3).toNat)) ≤ 2147483647 := Xi_rgI
              refine y_aload_n rfl rfl ?_
              refine y_gfr rfl rfl rfl rfl rfl (hHT3.r 891 8 893 rfl) ?_
              refine y_iload_n rfl rfl ?_
              refine y_ialoadP (n := 24) rfl rfl (by unfold rg; omega) (fun w60 w61 => ?_)
              have w62 : -2147483648 ≤ (Xi T3 893 ((v3).toNat)) ∧ (Xi T3 893 ((v3).toNat)) ≤ 2147483647 := Xi_rgI
              refine y_callV rfl rfl rfl (t_vo_tellNew__p hHT3 8 879 5130 (Xi T3 892 ((v3).toNat)) (Xi T3 893 ((v3).toNat)) ⟨by omega, by omega⟩ rfl ⟨by omega, by omega⟩ ⟨by omega, by omega⟩ ⟨by omega, by omega⟩ (by first | assumption | omega) (by first | assumption | omega) (Or.inl rfl) (⟨by show (0 : Int) ≤ Xi T3 5 8; omega, by show Xi T3 5 8 ≤ 62; omega⟩) _) ?_
              rintro _ T4 ⟨hHT4, w64, z63, rfl, w63, z159, c159, o159, e159⟩
              have hFT4 : FR md_re_tellActions__p S T4 := FR.tr hFT3 w64 rfl
              show Pl _ _ _ _ _ _ [iv z63, .ref 19] _ _
              have Z159 : z63 = Xi T3 5 8 := z159
              have C159 : Xi T4 5 8 = Xi T3 5 8 + 1 := c159
              have O159 : Hid (∀ j, j ≠ 8 → Xi T4 5 j = Xi T3 5 j) := o159
              have E159 := Hid.i e159
              have X159 := nmi_c E159.o
              have F159 := (by assumption : FR md_vo_tellNew__p T3 T4)
              clear z159 c159 o159 e159
              refine y_iload_n rfl rfl ?_
              refine y_iastoreP (n := 12) rfl rfl (by unfold rg; omega) (fun w65 w66 => ?_)
              obtain ⟨U5, eU5⟩ : ∃ T : sS, T = uI T4 19 ((z63).toNat) (Int32.ofInt v2) := ⟨_, rfl⟩
              rw [← eU5]
              have hHU5 : RI U5 := by rw [eU5]; exact RI_w hHT4
              have hFU5 : FR md_re_tellActions__p S U5 := by rw [eU5]; exact FR.wI hFT4 (mdf_i (r := (19, 20, 0, 100000)) (List.mem_of_getElem? (i := 5) rfl) (inR_i (by omega) (by omega) (by omega) (by omega)))
              have w67 : Xi U5 19 ((z63).toNat) = v2 := by rw [eU5]; exact Xi_same (by unfold rg; omega)
              have K163 : True := trivial
              have ee163 := eU5
              refine y_iinc rfl rfl rfl rfl ?_
              refine y_goto rfl rfl ?_
              have w68 : Xi U5 1 3 = Xi T4 1 3 := (show Xi U5 1 3 = Xi T4 1 3 from by rw [eU5]; exact Xi_ne (by omega))
              have w69 : Xi U5 5 8 = Xi T4 5 8 := (show Xi U5 5 8 = Xi T4 5 8 from by rw [eU5]; exact Xi_ne (by omega))
              have w70 : Xi U5 876 7 = Xi T3 876 7 := (show Xi U5 876 7 = Xi T4 876 7 from by rw [eU5]; exact Xi_ne (by omega)).trans ((show Xi T4 876 7 = Xi T3 876 7 from w64.x _ _ rfl))
              have w71 : Xi U5 876 8 = Xi T3 876 8 := (show Xi U5 876 8 = Xi T4 876 8 from by rw [eU5]; exact Xi_ne (by omega)).trans ((show Xi T4 876 8 = Xi T3 876 8 from w64.x _ _ rfl))
              have w72 : Xi U5 890 3 = Xi T3 890 3 := (show Xi U5 890 3 = Xi T4 890 3 from by rw [eU5]; exact Xi_ne (by omega)).trans ((show Xi T4 890 3 = Xi T3 890 3 from w64.x _ _ rfl))
              have w73 : Xi U5 891 9 = Xi T3 891 9 := (show Xi U5 891 9 = Xi T4 891 9 from by rw [eU5]; exact Xi_ne (by omega)).trans ((show Xi T4 891 9 = Xi T3 891 9 from w64.x _ _ rfl))
              exact Pl_weak (ih119 (by omega) U5 hHU5 hFU5 (v2) ((v3 + 1)) (by omega) (by omega) (by omega) (by first | exact k119 | exact k117) (by first | exact L119 | exact L117) (by first | exact R119 | exact R117) (by first | (have t := K163; exact lnw_k N119.o (by rw [ee163, Xi_ne (by omega), F159.x 891 9 rfl]) (fun j => by rw [ee163, Xi_ne (by omega), (F159.cx 892 rfl j).1]) (fun j => by rw [ee163, Xi_ne (by omega), (F159.cx 893 rfl j).1])) | exact G117.o.1) (by first | (have t := K163; exact nrb_k B119 (by rw [ee163, Xi_ne (by omega), F159.x 891 9 rfl]) (fun j => by rw [ee163, Xi_ne (by omega), (F159.cx 892 rfl j).1]) (fun j => by rw [ee163, Xi_ne (by omega), (F159.cx 893 rfl j).1])) | exact G117.o.2.1) (by first | (have t := K163; exact fun j => by rw [ee163, Xj_I, (F159.cx 879 rfl j).2]; exact J119.o j) | exact fun j => G117.o.2.2.2.2.1 879 j (by omega)) (by first | (have t := K163; have t := tnl_s M119.o E159.o J119.o (N119.o.2 v3.toNat (by omega)).1 (N119.o.2 v3.toNat (by omega)).2 (by omega); rw [show (v3 + 1).toNat = v3.toNat + 1 by omega]; exact tnl_p t (fun j => by rw [ee163, Xi_ne (by omega)]) (fun j => by rw [ee163, Xi_ne (by omega)]) (fun j => by rw [ee163, Xj_I]) (by rw [ee163, Xi_ne (by omega)]) (fun j => by rw [ee163, Xj_I])) | exact G117.o.v) (by first | (have t := K163; exact fun j hj => by rw [ee163, Xi_ne (by omega), O159.o j hj]; exact O119.o j hj) | exact fun j _ => G117.o.2.2.2.1 5 j (by omega)) (by first | (have t := K163; rw [show (v3 + 1).toNat = v3.toNat + 1 by omega]; exact arn_s A119.o (fun j => (F159.cx 19 rfl j).1) ee163 (by omega) (by omega) (by unfold rg; omega)) | exact arn_0 (fun j => G117.o.2.2.2.1 19 j (by omega))) (by omega) (by omega) (by omega) (by omega) (by omega) (by omega) (by first | exact b119 | exact lok_b L117.o (by omega) (by omega)) (by first | exact h119 | exact hE.o L117.o)) (by omega) (And.intro rfl (And.intro rfl (And.intro rfl (True.intro))))
        refine y_iconst rfl ?_
        refine y_istore_n rfl rfl rfl ?_
        exact Pl_weak (C119 n10 (by omega) T2 hHT2 hFT2 (v2) (0) (by omega) (by omega) (by omega) (by first | exact k119 | exact k117) (by first | exact L119 | exact L117) (by first | exact R119 | exact R117) (by first | (have t := K163; exact lnw_k N119.o (by rw [ee163, Xi_ne (by omega), F159.x 891 9 rfl]) (fun j => by rw [ee163, Xi_ne (by omega), (F159.cx 892 rfl j).1]) (fun j => by rw [ee163, Xi_ne (by omega), (F159.cx 893 rfl j).1])) | exact G117.o.1) (by first | (have t := K163; exact nrb_k B119 (by rw [ee163, Xi_ne (by omega), F159.x 891 9 rfl]) (fun j => by rw [ee163, Xi_ne (by omega), (F159.cx 892 rfl j).1]) (fun j => by rw [ee163, Xi_ne (by omega), (F159.cx 893 rfl j).1])) | exact G117.o.2.1) (by first | (have t := K163; exact fun j => by rw [ee163, Xj_I, (F159.cx 879 rfl j).2]; exact J119.o j) | exact fun j => G117.o.2.2.2.2.1 879 j (by omega)) (by first | (have t := K163; have t := tnl_s M119.o E159.o J119.o (N119.o.2 v3.toNat (by omega)).1 (N119.o.2 v3.toNat (by omega)).2 (by omega); rw [show (v3 + 1).toNat = v3.toNat + 1 by omega]; exact tnl_p t (fun j => by rw [ee163, Xi_ne (by omega)]) (fun j => by rw [ee163, Xi_ne (by omega)]) (fun j => by rw [ee163, Xj_I]) (by rw [ee163, Xi_ne (by omega)]) (fun j => by rw [ee163, Xj_I])) | exact G117.o.v) (by first | (have t := K163; exact fun j hj => by rw [ee163, Xi_ne (by omega), O159.o j hj]; exact O119.o j hj) | exact fun j _ => G117.o.2.2.2.1 5 j (by omega)) (by first | (have t := K163; rw [show (v3 + 1).toNat = v3.toNat + 1 by omega]; exact arn_s A119.o (fun j => (F159.cx 19 rfl j).1) ee163 (by omega) (by omega) (by unfold rg; omega)) | exact arn_0 (fun j => G117.o.2.2.2.1 19 j (by omega))) (by omega) (by omega) (by omega) (by omega) (by omega) (by omega) (by first | exact b119 | exact lok_b L117.o (by omega) (by omega)) (by first | exact h119 | exact hE.o L117.o)) (by omega) (And.intro rfl (And.intro rfl (And.intro rfl (True.intro))))
      refine ys_iload_n rfl rfl ?_
      refine y_iload_n rfl rfl ?_
      refine y_icmp_ge rfl rfl (by unfold rg; omega) (by unfold rg; omega) (fun w74 => ?_) (fun w75 => ?_)
      · refine y_iconst rfl ?_
        have b58 : v2 = Xi S 890 3 := by omega
        have G58 : Hid (LSU S T1 (nL S)) := by have t := G10; rw [b58] at t; exact t
        have L58 : Hid (LOK S (Xi S 5 8) 12 (nL S)) := by have t := L10; rw [b58] at t; exact t
        clear G10 L10
        have n58 : Xi T1 891 9 = nL S := G58.o.1.1
        refine y_istore_n rfl rfl rfl ?_
        refine y_aload_n rfl rfl ?_
        refine y_gfr rfl rfl rfl rfl rfl (hHT1.r 891 0 876 rfl) ?_
        refine y_iload_n rfl rfl ?_
        refine y_iconst rfl ?_
        refine y_iadd rfl ?_
        refine y_callV rfl rfl rfl (t_to_typeAt__p hHT1 (v1 + 3) ⟨by omega, by omega⟩ _) ?_
        rintro _ _ ⟨rfl, z78, rfl, w78, w76, w77⟩
        show Pl _ _ _ _ _ _ [iv z78] _ _
        have gq67 := w76
        rw [FRT hFT1 rfl rfl] at gq67
        clear w76
        have t67 : ty7 S (Xi S 890 3 + 3) = z78 := by have t := gq67; rw [show v1 = Xi S 890 3 by omega] at t; exact t
        refine y_bipush rfl rfl ?_
        refine y_icmp_ne rfl rfl (by unfold rg; omega) (by unfold rg; omega) (fun w79 => ?_) (fun w80 => ?_)
        · exact Pl_weak (C117 T1 hHT1 hFT1 ((-1)) (by omega) (G58) (L58) (by first | (have t := K95; omega) | exact kd_n (by omega)) (by first | (have t := K95; exact (fun q => by have u := q.2; omega)) | exact (fun q => by have u := q.1; omega)) (by omega) (by omega) (by omega) (by omega)) (by omega) (And.intro rfl (And.intro rfl (True.intro)))
        · refine y_aload_n rfl rfl ?_
          have t72 : ty7 S (Xi S 890 3 + 3) = 28 := by omega
          refine y_gfr rfl rfl rfl rfl rfl (hHT1.r 891 4 895 rfl) ?_
          refine y_iconst rfl ?_
          refine y_iload_n rfl rfl ?_
          refine y_bipush rfl rfl ?_
          refine y_iadd rfl ?_
          refine y_aload_n rfl rfl ?_
          refine y_gfr rfl rfl rfl rfl rfl (hHT1.r 891 0 876 rfl) ?_
          refine y_iload_n rfl rfl ?_
          refine y_bipush rfl rfl ?_
          refine y_iadd rfl ?_
          refine y_callV rfl rfl rfl (t_to_runEnd__p hHT1 (v1 + 6) ⟨by omega, by omega⟩ _) ?_
          rintro _ _ ⟨rfl, z83, rfl, w83, w81, w82⟩
          show Pl _ _ _ _ _ _ [iv z83, iv (v1 + 6), iv 0, .ref 895] _ _
          have gq92 := w81
          rw [FRT hFT1 rfl rfl] at gq92
          clear w81
          refine y_callV rfl rfl rfl (t_me_find__p hHT1 0 (v1 + 6) z83 ⟨by omega, by omega⟩ ⟨by omega, by omega⟩ ⟨by omega, by omega⟩ (by first | assumption | omega) (LSU.c G58.o hCE) _) ?_
          rintro _ _ ⟨rfl, z84, rfl, w84, v95⟩
          show Pl _ _ _ _ _ _ [iv z84] _ _
          have K95 : z84 = kd11 S := kd_y G58.o t72 (show z84 = fnd T1 0 (Xi S 890 3 + 6) _ from by rw [← show v1 = Xi S 890 3 by omega]; exact v95) (by rw [← show v1 = Xi S 890 3 by omega]; exact gq92)
          clear v95
          refine y_istore_n rfl rfl rfl ?_
          refine y_iload_n rfl rfl ?_
          refine y_iconst rfl ?_
          refine y_icmp_ne rfl rfl (by unfold rg; omega) (by unfold rg; omega) (fun w85 => ?_) (fun w86 => ?_)
          · exact Pl_weak (C117 T1 hHT1 hFT1 (z84) (by omega) (G58) (L58) (by first | (have t := K95; omega) | exact kd_n (by omega)) (by first | (have t := K95; exact (fun q => by have u := q.2; omega)) | exact (fun q => by have u := q.1; omega)) (by omega) (by omega) (by omega) (by omega)) (by omega) (And.intro rfl (And.intro rfl (True.intro)))
          · refine y_aload_n rfl rfl ?_
            refine y_gfr rfl rfl rfl rfl rfl (hHT1.r 891 0 876 rfl) ?_
            refine y_iconst rfl ?_
            refine y_iload_n rfl rfl ?_
            refine y_bipush rfl rfl ?_
            refine y_iadd rfl ?_
            refine y_callV rfl rfl rfl (t_to_wrong__p hHT1 4 (v1 + 6) ⟨by omega, by omega⟩ ⟨by omega, by omega⟩ _) ?_
            rintro _ T6 ⟨hHT6, w90, z89, rfl, w89, w87, f113, w88⟩
            have hFT6 : FR md_re_tellActions__p S T6 := FR.tr hFT1 w90 rfl
            show Pl _ _ _ _ _ _ [iv z89] _ _
            have K113 : True := trivial
            have k113 : kd11 S = -1 := by omega
            have Y113 : FTO S T6 4 (Xi S 890 3 + 6) := fto_p (by have t := f113 (by omega); rw [show v1 = Xi S 890 3 by omega] at t; exact t) G58.o.p
            refine y_ireturn rfl (retI_z (by omega)) ?_
            have w91 : Xi T6 1 3 = Xi T1 1 3 := (show Xi T6 1 3 = Xi T1 1 3 from w90.x _ _ rfl)
            have w92 : Xi T6 5 8 = Xi T1 5 8 := (show Xi T6 5 8 = Xi T1 5 8 from w90.x _ _ rfl)
            have w93 : Xi T6 876 7 = Xi T1 876 7 := (show Xi T6 876 7 = Xi T1 876 7 from w90.x _ _ rfl)
            have w94 : Xi T6 890 3 = Xi T1 890 3 := (show Xi T6 890 3 = Xi T1 890 3 from w90.x _ _ rfl)
            have w95 : Xi T6 891 9 = Xi T1 891 9 := (show Xi T6 891 9 = Xi T1 891 9 from w90.x _ _ rfl)
            exact ⟨hHT6, hFT6, _, rfl, ⟨by omega, by omega⟩, (by first | (have t := K124; exact R124) | (have t := K113; exact tact_2 L58.o t72 k113 (by omega) Y113) | (have t := K44; exact tact_1 (F50.o).1 ((F50.o).2 (cR_l (by omega) (by omega) (by have t := B17.o; rw [G10.o.t] at t; exact t)))))⟩
      · refine y_aload_n rfl rfl ?_
        refine y_iload_n rfl rfl ?_
        refine y_callV rfl rfl rfl (t_re_beginsName__p hHT1 v2 ⟨by omega, by omega⟩ _) ?_
        rintro _ _ ⟨rfl, z96, rfl, w96, v17⟩
        show Pl _ _ _ _ _ _ [iv z96] _ _
        have K17 : True := trivial
        refine y_if_eq rfl rfl (by unfold rg; omega) (fun w97 => ?_) (fun w98 => ?_)
        · refine y_iinc rfl rfl rfl rfl ?_
          have K52 : True := trivial
          have G52 : Hid (LSU S T1 (cR (ty7 S) (v2 + 1).toNat) ∧ LOK S (Xi S 5 8) 12 (cR (ty7 S) (v2 + 1).toNat)) := by first | (have t := K44; exact lsu_t G10.o L10.o B17.o gq30 (by omega) hr F44 m3_44.o m9_44.o mo_44.o mb_44.o (by omega)) | exact lsu_n G10.o L10.o (v17.2 (by omega) (by omega)) (by omega)
          have x52 : Xi T1 876 8 = 0 := G52.o.1.2.2.1
          have y52 : 0 ≤ Xi T1 891 9 ∧ Xi T1 891 9 ≤ 12 := by have a := G52.o.1.1.1; have b := lok_b G52.o.2 (by omega) (by omega); omega
          refine y_goto rfl rfl ?_
          exact Pl_weak (ih10 (by omega) T1 hHT1 hFT1 (v1) ((v2 + 1)) (by omega) (by omega) (by omega) (by omega) (by first | (have t := K52; exact G52.o.1) | exact lsu_0 hn0 hNB hf) (by first | (have t := K52; exact G52.o.2) | exact (fun i hi => absurd hi (Nat.not_lt_zero _))) (by omega) (by omega) (by omega) (by omega) (by omega) (by omega)) (by omega) (And.intro rfl (And.intro rfl (And.intro rfl (True.intro))))
        · refine y_aload_n rfl rfl ?_
          have B17 : Hid (bg7 (ty7 T1) v2) := (v17.1 (by omega)).1
          refine y_iload_n rfl rfl ?_
          refine y_aload_n rfl rfl ?_
          refine y_gfr rfl rfl rfl rfl rfl (hHT1.r 891 0 876 rfl) ?_
          refine y_iload_n rfl rfl ?_
          refine y_callV rfl rfl rfl (t_to_runEnd__p hHT1 v2 ⟨by omega, by omega⟩ _) ?_
          rintro _ _ ⟨rfl, z101, rfl, w101, w99, w100⟩
          show Pl _ _ _ _ _ _ [iv z101, iv v2, .ref 891] _ _
          have gq30 := w99
          rw [FRT hFT1 rfl rfl] at gq30
          clear w99
          refine y_aload_n rfl rfl ?_
          refine y_gfr rfl rfl rfl rfl rfl (hHT1.r 891 2 1 rfl) ?_
          refine y_bipush rfl rfl ?_
          refine y_callV rfl rfl rfl (t_vo_countOf__p hHT1 8 ⟨by omega, by omega⟩ _) ?_
          rintro _ _ ⟨rfl, z102, rfl, w102, p39⟩
          show Pl _ _ _ _ _ _ [iv z102, iv z101, iv v2, .ref 891] _ _
          have C39 : z102 = Xi S 5 8 := (p39 (by omega) (by omega)).trans (by show Xi T1 5 8 = _; omega)
          clear p39
          refine y_bipush rfl rfl ?_
          refine y_callV rfl rfl rfl (t_re_takeNew__p hHT1 v2 z101 z102 12 ⟨by omega, by omega⟩ ⟨by omega, by omega⟩ ⟨by omega, by omega⟩ ⟨by omega, by omega⟩ (by first | assumption | omega) (LSU.c G10.o hCE) (G10.o.2.1) (by first | assumption | omega) (Or.inl (by omega)) (by first | assumption | omega) (by omega) _) ?_
          rintro _ T7 ⟨hHT7, w104, z103, rfl, w103, n3_44, n9_44, ok_44, nb_44⟩
          have hFT7 : FR md_re_tellActions__p S T7 := FR.tr hFT1 w104 rfl
          show Pl _ _ _ _ _ _ [iv z103] _ _
          have K44 : True := trivial
          have F44 := (by assumption : FR md_re_takeNew__p T1 T7)
          rw [C39] at n9_44 ok_44
          have m3_44 := Hid.i n3_44
          have m9_44 := Hid.i n9_44
          have mo_44 := Hid.i ok_44
          have mb_44 := Hid.i nb_44
          clear n3_44 n9_44 ok_44 nb_44
          refine y_if_ne rfl rfl (by unfold rg; omega) (fun w105 => ?_) (fun w106 => ?_)
          · refine y_iinc rfl rfl rfl rfl ?_
            have K52 : True := trivial
            have G52 : Hid (LSU S T7 (cR (ty7 S) (v2 + 1).toNat) ∧ LOK S (Xi S 5 8) 12 (cR (ty7 S) (v2 + 1).toNat)) := by first | (have t := K44; exact lsu_t G10.o L10.o B17.o gq30 (by omega) hr F44 m3_44.o m9_44.o mo_44.o mb_44.o (by omega)) | exact lsu_n G10.o L10.o (v17.2 (by omega) (by omega)) (by omega)
            have x52 : Xi T7 876 8 = 0 := G52.o.1.2.2.1
            have y52 : 0 ≤ Xi T7 891 9 ∧ Xi T7 891 9 ≤ 12 := by have a := G52.o.1.1.1; have b := lok_b G52.o.2 (by omega) (by omega); omega
            refine y_goto rfl rfl ?_
            have w107 : Xi T7 1 3 = Xi T1 1 3 := (show Xi T7 1 3 = Xi T1 1 3 from w104.x _ _ rfl)
            have w108 : Xi T7 5 8 = Xi T1 5 8 := (show Xi T7 5 8 = Xi T1 5 8 from w104.x _ _ rfl)
            have w109 : Xi T7 876 7 = Xi T1 876 7 := (show Xi T7 876 7 = Xi T1 876 7 from w104.x _ _ rfl)
            have w110 : Xi T7 890 3 = Xi T1 890 3 := (show Xi T7 890 3 = Xi T1 890 3 from w104.x _ _ rfl)
            exact Pl_weak (ih10 (by omega) T7 hHT7 hFT7 (v1) ((v2 + 1)) (by omega) (by omega) (by omega) (by omega) (by first | (have t := K52; exact G52.o.1) | exact lsu_0 hn0 hNB hf) (by first | (have t := K52; exact G52.o.2) | exact (fun i hi => absurd hi (Nat.not_lt_zero _))) (by omega) (by omega) (by omega) (by omega) (by omega) (by omega)) (by omega) (And.intro rfl (And.intro rfl (And.intro rfl (True.intro))))
          · refine y_iconst rfl ?_
            have F50 := Hid.i (lsu_f (N := nL S) G10.o L10.o B17.o gq30 (by omega) hr m3_44.o m9_44.o mo_44.o (by omega))
            refine y_ireturn rfl rfl ?_
            have w111 : Xi T7 1 3 = Xi T1 1 3 := (show Xi T7 1 3 = Xi T1 1 3 from w104.x _ _ rfl)
            have w112 : Xi T7 5 8 = Xi T1 5 8 := (show Xi T7 5 8 = Xi T1 5 8 from w104.x _ _ rfl)
            have w113 : Xi T7 876 7 = Xi T1 876 7 := (show Xi T7 876 7 = Xi T1 876 7 from w104.x _ _ rfl)
            have w114 : Xi T7 890 3 = Xi T1 890 3 := (show Xi T7 890 3 = Xi T1 890 3 from w104.x _ _ rfl)
            exact ⟨hHT7, hFT7, _, rfl, ⟨by omega, by omega⟩, (by first | (have t := K124; exact R124) | (have t := K113; exact tact_2 L58.o t72 k113 (by omega) Y113) | (have t := K44; exact tact_1 (F50.o).1 ((F50.o).2 (cR_l (by omega) (by omega) (by have t := B17.o; rw [G10.o.t] at t; exact t)))))⟩
  refine y_aload_n rfl rfl ?_
  refine y_gfr rfl rfl rfl rfl rfl (hH.r 891 1 890 rfl) ?_
  refine y_gfi rfl rfl rfl rfl rfl ?_
  refine y_istore_n rfl rfl rfl ?_
  refine y_iconst rfl ?_
  refine y_istore_n rfl rfl rfl ?_
  exact Pl_weak (C10 fu (by omega) S hH hF ((Xi S 890 3)) (0) (by omega) (by omega) (by omega) (by omega) (by first | (have t := K52; exact G52.o.1) | exact lsu_0 hn0 hNB hf) (by first | (have t := K52; exact G52.o.2) | exact (fun i hi => absurd hi (Nat.not_lt_zero _))) (by omega) (by omega) (by omega) (by omega) (by omega) (by omega)) (by omega) (And.intro rfl (And.intro rfl (And.intro rfl (True.intro))))
def md_re_nameWithS__p : List rec := [(1, 2, 3, 4), (2, 3, 0, 100000), (3, 4, 0, 100000), (4, 5, 0, 100000), (894, 895, 0, 100000)]
abbrev Q_re_nameWithS__p (S : sS) (sort : Int) (which : Int) (from_ : Int) (to : Int) : pst := fun r S1 => RI S1 ∧ FR md_re_nameWithS__p S S1 ∧ (r = none ∧ (NWS S S S1 sort which from_ to) ∧ (∀ j, Xj S1 879 j = Xj S 879 j))
set_option maxRecDepth 100000 in
theorem t_re_nameWithS__p {S : sS} (hH : RI S) (sort : Int) (which : Int) (from_ : Int) (to : Int) (hsort : 0 ≤ sort ∧ sort ≤ 14) (hwhich : 0 ≤ which ∧ which ≤ 63) (hfrom_ : 0 ≤ from_ ∧ from_ ≤ 6000) (hto : 0 ≤ to ∧ to ≤ 6000) (h13 : 0 ≤ Xi S 1 3 ∧ Xi S 1 3 ≤ 200) (hCE : CEN S) (h2 : Xi S 1 3 < 200) (hn : 1 ≤ to - from_ ∧ to - from_ ≤ 3) (hw : WDB S from_ to) (d : Nat) : Mp lay0 (d + 3) m_re_nameWithS [.ref 891, iv sort, iv which, iv from_, iv to] S (Q_re_nameWithS__p S sort which from_ to) := by
  refine Mp_R rfl rfl (fun fu => ?_)
  have hF : FR md_re_nameWithS__p S S := FR.rf
  have w1 : -2147483648 ≤ Xi S 1 3 ∧ Xi S 1 3 ≤ 2147483647 := Xi_rgI
  have C9 : ∀ (n9 : Nat) (_ : n9 ≤ fu) (T1 : sS) (_ : RI T1) (_ : FR md_re_nameWithS__p S T1) (v5 : Int) (v6 : Int), (1 ≤ v5 ∧ v5 ≤ 3) → (0 ≤ v6 ∧ v6 ≤ 3) → (v5 = to - from_) → (0 ≤ v6 ∧ v6 ≤ v5) → (SMV S T1) → (Hid (SPL S T1 from_ v6)) → (CEN T1) → (Xi T1 1 3 = Xi S 1 3) → Pl n9 lay0 (d + 2) m_re_nameWithS 9 [(0, .ref 891), (1, iv sort), (2, iv which), (3, iv from_), (5, iv v5), (6, iv v6)] [] T1 (Q_re_nameWithS__p S sort which from_ to) := by
    intro n9
    induction n9 with
    | zero => intros; exact Pl_0
    | succ n9 ih9 =>
      intro hm9 T1 hHT1 hFT1 v5 v6 w2 w3 w4 w5 V9 P9 E9 w6
      have w7 : -2147483648 ≤ Xi T1 1 3 ∧ Xi T1 1 3 ≤ 2147483647 := Xi_rgI
      refine ys_iload rfl rfl ?_
      refine y_iload rfl rfl ?_
      refine y_icmp_ge rfl rfl (by unfold rg; omega) (by unfold rg; omega) (fun w8 => ?_) (fun w9 => ?_)
      · refine y_aload_n rfl rfl ?_
        refine y_gfr rfl rfl rfl rfl rfl (hHT1.r 891 13 894 rfl) ?_
        refine y_iload rfl rfl ?_
        refine y_iconst rfl ?_
        refine y_isub rfl ?_
        refine y_aload_n rfl rfl ?_
        refine y_gfr rfl rfl rfl rfl rfl (hHT1.r 891 13 894 rfl) ?_
        refine y_iload rfl rfl ?_
        refine y_iconst rfl ?_
        refine y_isub rfl ?_
        refine y_laloadP (n := 3) rfl rfl (by unfold rg; omega) (fun w10 w11 => ?_)
        have w12 : -9223372036854775808 ≤ (Xj T1 894 (((v5 - 1)).toNat)) ∧ (Xj T1 894 (((v5 - 1)).toNat)) < 9223372036854775808 := Xj_rg
        refine y_ldc2 (z := 27) rfl rfl ?_
        refine y_lmul rfl ?_
        refine y_ldc2 (z := 19) rfl rfl ?_
        refine y_ladd rfl ?_
        refine y_lastoreP (n := 3) rfl rfl (by unfold rg; omega) (fun w13 w14 => ?_)
        obtain ⟨U2, eU2⟩ : ∃ T : sS, T = uJ T1 894 (((v5 - 1)).toNat) (Int64.ofInt (((Xj T1 894 (((v5 - 1)).toNat)) * 27) + 19)) := ⟨_, rfl⟩
        rw [← eU2]
        have hHU2 : RI U2 := by rw [eU2]; exact RI_J hHT1
        have hFU2 : FR md_re_nameWithS__p S U2 := by rw [eU2]; exact FR.wJ hFT1 (mdf_i (r := (894, 895, 0, 100000)) (List.mem_of_getElem? (i := 4) rfl) (inR_i (by omega) (by omega) (by omega) (by omega)))
        have V66 : SMV S U2 := SMV_j V9 eU2 (by omega) (by omega)
        have W66 : Hid (∀ i : Nat, (i : Int) < v5 → Xj U2 894 i = wSp S from_ to i) := sps_w (by have t := P9.o; rw [show v6 = v5 by omega] at t; exact t) eU2 rfl (by omega) (by omega) hw (by omega)
        have D66 : CEN U2 := CEN_j eU2 (by assumption)
        have e66 : Xi U2 1 3 = Xi S 1 3 := V66.1
        refine y_aload_n rfl rfl ?_
        refine y_gfr rfl rfl rfl rfl rfl (hHU2.r 891 2 1 rfl) ?_
        refine y_aload_n rfl rfl ?_
        refine y_gfr rfl rfl rfl rfl rfl (hHU2.r 891 13 894 rfl) ?_
        refine y_iconst rfl ?_
        refine y_iload rfl rfl ?_
        have w15 : Xi U2 1 3 = Xi T1 1 3 := (show Xi U2 1 3 = Xi T1 1 3 from by rw [eU2]; rfl)
        refine y_callV rfl rfl rfl (t_vo_meaning__p hHU2 894 3 0 v5 rfl ⟨by omega, by omega⟩ ⟨by omega, by omega⟩ ⟨by omega, by omega⟩ (by first | assumption | omega) (by first | assumption | exact (CEN_FR (FR_J eU2) rfl rfl (by assumption : CEN T1))) _) ?_
        rintro _ _ ⟨rfl, z16, rfl, w16, f78, n78⟩
        show Pl _ _ _ _ _ _ [iv z16] _ _
        have K78 : z16 = mnF S (wSp S from_ to 0) (wSp S from_ to 1) (wSp S from_ to 2) := (f78 (by omega) (by omega) (by omega) (by omega)).trans (by rw [show (v5 - 0).toNat = v5.toNat by omega]; exact sps_m W66.o V66 (by omega) (by omega))
        clear f78 n78
        refine y_iconst rfl ?_
        refine y_icmp_ne rfl rfl (by unfold rg; omega) (by unfold rg; omega) (fun w17 => ?_) (fun w18 => ?_)
        · refine y_return rfl rfl ?_
          exact ⟨hHU2, hFU2, rfl, (by first | (have t := K98; exact nws_y W66.o (by omega) V66 e98 M78) | exact nws_n V66 (by omega)), (by first | (have t := K98; exact fun j => (((by assumption : FR md_vo_nameIt__p T1 U2).cx 879 rfl j).2).trans (V66.2.2.2.2 j)) | exact V66.2.2.2.2)⟩
        · refine y_aload_n rfl rfl ?_
          have M78 : mnF S (wSp S from_ to 0) (wSp S from_ to 1) (wSp S from_ to 2) = -1 := by omega
          refine y_gfr rfl rfl rfl rfl rfl (hHU2.r 891 2 1 rfl) ?_
          refine y_iload_n rfl rfl ?_
          refine y_iload_n rfl rfl ?_
          refine y_aload_n rfl rfl ?_
          refine y_gfr rfl rfl rfl rfl rfl (hHU2.r 891 13 894 rfl) ?_
          refine y_iconst rfl ?_
          refine y_iload rfl rfl ?_
          refine y_callV rfl rfl rfl (t_vo_nameIt__p hHU2 sort which 894 3 0 v5 ⟨by omega, by omega⟩ ⟨by omega, by omega⟩ rfl ⟨by omega, by omega⟩ ⟨by omega, by omega⟩ ⟨by omega, by omega⟩ (by first | assumption | omega) (by first | assumption | omega) (Or.inr rfl) _) ?_
          rintro _ T3 ⟨hHT3, w22, rfl, e98⟩
          have hFT3 : FR md_re_nameWithS__p S T3 := FR.tr hFU2 w22 rfl
          show Pl _ _ _ _ _ _ [] _ _
          have K98 : True := trivial
          refine y_return rfl rfl ?_
          exact ⟨hHT3, hFT3, rfl, (by first | (have t := K98; exact nws_y W66.o (by omega) V66 e98 M78) | exact nws_n V66 (by omega)), (by first | (have t := K98; exact fun j => (((by assumption : FR md_vo_nameIt__p U2 T3).cx 879 rfl j).2).trans (V66.2.2.2.2 j)) | exact V66.2.2.2.2)⟩
      · refine y_aload_n rfl rfl ?_
        refine y_gfr rfl rfl rfl rfl rfl (hHT1.r 891 13 894 rfl) ?_
        refine y_iload rfl rfl ?_
        refine y_aload_n rfl rfl ?_
        refine y_gfr rfl rfl rfl rfl rfl (hHT1.r 891 0 876 rfl) ?_
        refine y_gfr rfl rfl rfl rfl rfl (hHT1.r 876 2 879 rfl) ?_
        refine y_iload_n rfl rfl ?_
        refine y_iload rfl rfl ?_
        refine y_iadd rfl ?_
        refine y_laloadP (n := 5130) rfl rfl (by unfold rg; omega) (fun w23 w24 => ?_)
        have w25 : -9223372036854775808 ≤ (Xj T1 879 (((from_ + v6)).toNat)) ∧ (Xj T1 879 (((from_ + v6)).toNat)) < 9223372036854775808 := Xj_rg
        refine y_lastoreP (n := 3) rfl rfl (by unfold rg; omega) (fun w26 w27 => ?_)
        obtain ⟨U4, eU4⟩ : ∃ T : sS, T = uJ T1 894 ((v6).toNat) (Int64.ofInt (Xj T1 879 (((from_ + v6)).toNat))) := ⟨_, rfl⟩
        rw [← eU4]
        have hHU4 : RI U4 := by rw [eU4]; exact RI_J hHT1
        have hFU4 : FR md_re_nameWithS__p S U4 := by rw [eU4]; exact FR.wJ hFT1 (mdf_i (r := (894, 895, 0, 100000)) (List.mem_of_getElem? (i := 4) rfl) (inR_i (by omega) (by omega) (by omega) (by omega)))
        have K34 : True := trivial
        have ee34 := eU4
        refine y_iinc rfl rfl rfl rfl ?_
        refine y_goto rfl rfl ?_
        have w28 : Xi U4 1 3 = Xi T1 1 3 := (show Xi U4 1 3 = Xi T1 1 3 from by rw [eU4]; rfl)
        exact Pl_weak (ih9 (by omega) U4 hHU4 hFU4 (v5) ((v6 + 1)) (by omega) (by omega) (by omega) (by omega) (by first | (have t := K34; exact SMV_j V9 ee34 (by omega) (by omega)) | exact SMV.rf) (by first | (have t := K34; exact spl_s P9.o ee34 (V9.2.2.2.2 _) Xj_rg (by omega)) | exact fun k hk => absurd hk (by omega)) (by first | (have t := K34; exact CEN_j ee34 E9) | exact hCE) (by omega)) (by omega) (And.intro rfl (And.intro rfl (And.intro rfl (And.intro rfl (And.intro rfl (And.intro rfl (True.intro)))))))
  refine y_iload rfl rfl ?_
  refine y_iload_n rfl rfl ?_
  refine y_isub rfl ?_
  refine y_istore rfl rfl rfl ?_
  refine y_iconst rfl ?_
  refine y_istore rfl rfl rfl ?_
  exact Pl_weak (C9 fu (by omega) S hH hF ((to - from_)) (0) (by omega) (by omega) (by omega) (by omega) (by first | (have t := K34; exact SMV_j V9 ee34 (by omega) (by omega)) | exact SMV.rf) (by first | (have t := K34; exact spl_s P9.o ee34 (V9.2.2.2.2 _) Xj_rg (by omega)) | exact fun k hk => absurd hk (by omega)) (by first | (have t := K34; exact CEN_j ee34 E9) | exact hCE) (by omega)) (by omega) (And.intro rfl (And.intro rfl (And.intro rfl (And.intro rfl (And.intro rfl (And.intro rfl (True.intro)))))))
end
