section
/-! 8: a plural is told, or written over -/
def NMR (S S1 : sS) (i : Nat) (so ix a b c n : Int) : Prop := (Xi S1 914 i = so ∧ Xi S1 915 i = ix ∧ Xi S1 912 i = n ∧ Xi S1 916 i = 0 ∧ Xj S1 913 (3 * i) = a ∧ Xj S1 913 (3 * i + 1) = b ∧ Xj S1 913 (3 * i + 2) = c) ∧ (∀ j : Nat, j ≠ i → Xi S1 914 j = Xi S 914 j ∧ Xi S1 915 j = Xi S 915 j ∧ Xi S1 912 j = Xi S 912 j ∧ Xi S1 916 j = Xi S 916 j ∧ ∀ t, t < 3 → Xj S1 913 (3 * j + t) = Xj S 913 (3 * j + t)) ∧ ((Xi S1 904 15 = Xi S 904 15 ∧ (i : Int) < Xi S 904 15 ∧ Xi S 914 i = so ∧ Xi S 915 i = ix) ∨ (Xi S1 904 15 = Xi S 904 15 + 1 ∧ (i : Int) = Xi S 904 15 ∧ ∀ j : Nat, (j : Int) < Xi S 904 15 → ¬ (Xi S 914 j = so ∧ Xi S 915 j = ix)))
def NMW (S S1 : sS) (so ix r : Int) : Prop := ∃ i : Nat, NMR S S1 i so ix (Xj S 910 (Xi S 950 r.toNat).toNat) (if 1 < Xi S 951 r.toNat then Xj S 910 (Xi S 950 r.toNat + 1).toNat else 0) (if 2 < Xi S 951 r.toNat then Xj S 910 (Xi S 950 r.toNat + 2).toNat else 0) (Xi S 951 r.toNat)
theorem nmw_of {S U T S1 : sS} {so ix w l l2 r : Int} (e1 : U = uI S 904 15 (Int32.ofInt l)) (t : TLW U T U so ix r) (e2 : S1 = uI T 904 15 (Int32.ofInt l2)) (h : (w = -1 ∧ l = Xi S 904 15 ∧ l2 = Xi T 904 15) ∨ (w ≠ -1 ∧ l = w ∧ l2 = Xi S 904 15)) (n : w = -1 → ∀ k : Nat, (k : Int) < Xi S 904 15 → ¬ (Xi S 914 k = so ∧ Xi S 915 k = ix)) (y : w ≠ -1 → 0 ≤ w ∧ w < Xi S 904 15 ∧ Xi S 914 w.toNat = so ∧ Xi S 915 w.toNat = ix) (h15 : 0 ≤ Xi S 904 15 ∧ Xi S 904 15 ≤ 100000) : NMW S S1 so ix r := by
  have rl : rg l := by
    unfold rg
    rcases h with q | q
    · omega
    · have u := y q.1; omega
  have u15 : Xi U 904 15 = l := by rw [e1]; exact Xi_same rl
  have uo : ∀ k j : Nat, k ≠ 904 → Xi U k j = Xi S k j := fun k j hk => by rw [e1, Xi_ne (by omega)]
  have uj : ∀ k j : Nat, Xj U k j = Xj S k j := fun k j => by rw [e1, Xj_I]
  have so_ : ∀ k j : Nat, k ≠ 904 → Xi S1 k j = Xi T k j := fun k j hk => by rw [e2, Xi_ne (by omega)]
  have sj : ∀ k j : Nat, Xj S1 k j = Xj T k j := fun k j => by rw [e2, Xj_I]
  unfold TLW TLR at t
  rw [u15] at t
  simp only [uj, uo 950 _ (by omega), uo 951 _ (by omega), uo 914 _ (by omega), uo 915 _ (by omega), uo 912 _ (by omega), uo 916 _ (by omega)] at t
  obtain ⟨t1, t2, t3⟩ := t
  refine ⟨l.toNat, ?_, ?_, ?_⟩
  · rw [so_ 914 _ (by omega), so_ 915 _ (by omega), so_ 912 _ (by omega), so_ 916 _ (by omega), sj, sj, sj]
    exact t1
  · intro j hj
    rw [so_ 914 _ (by omega), so_ 915 _ (by omega), so_ 912 _ (by omega), so_ 916 _ (by omega)]
    simp only [sj]
    exact t2 j hj
  · rcases h with ⟨q1, q2, q3⟩ | ⟨q1, q2, q3⟩
    · right
      refine ⟨?_, by omega, n q1⟩
      rw [e2, q3]
      refine (Xi_same ?_).trans (by omega)
      unfold rg; omega
    · left
      obtain ⟨y1, y2, y3, y4⟩ := y q1
      refine ⟨?_, by omega, by rw [q2]; exact y3, by rw [q2]; exact y4⟩
      rw [e2, q3]
      exact Xi_same (by unfold rg; omega)
/-- 8: what the reference does -/
def RD8 (S S1 : sS) : Prop := (r2R S 0 0 1 ≠ -1 → NMW S S1 1 (r2R S 0 0 1) 1) ∧ (r2R S 0 0 1 = -1 → NMW S S1 3 (r2R S 0 2 3) 1)
/-! 10: kinds and types -/
theorem zro_t {S U V : sS} {k : Nat} {a m l : Int} (h : ZRO S U k a m) (g : ZRO U V k (a + m) l) (hm : 0 ≤ m) (hl : 0 ≤ l) : ZRO S V k a (m + l) := fun j => by
  have h1 := h j
  have g1 := g j
  refine ⟨fun q => ?_, fun q => ?_⟩
  · by_cases w : a + m ≤ (j : Int)
    · exact g1.1 (by omega)
    · rw [g1.2 (by omega)]; exact h1.1 (by omega)
  · rw [g1.2 (by omega)]; exact h1.2 (by omega)
def iT (S : sS) : Int := if Xi S 904 78 = -2 then 1 else 0
theorem it_rg {S : sS} : 0 ≤ iT S ∧ iT S ≤ 1 := by unfold iT; split <;> omega
noncomputable def pa10 (S : sS) : Int := if Xi S 904 78 = -2 ∨ Xi S 904 78 = -1 then 0 else rnR S (Xi S 904 78) 0
def cKR (S : sS) : Int := if Xi S 904 78 = -2 then Xi S 904 18 else Xi S 904 16
def KNR (S U : sS) (n : Nat) : Prop := (iT S = 1 → (Xi U 904 16 = Xi S 904 16 ∧ Xi U 904 18 = Xi S 904 18 + n) ∧ (∀ j, Xi U 917 j = Xi S 917 j) ∧ (∀ j, Xi U 929 j = Xi S 929 j) ∧ (∀ j, Xi U 933 j = Xi S 933 j) ∧ ∀ j, Xi U 926 j = Xi S 926 j) ∧ (iT S = 0 → (Xi U 904 18 = Xi S 904 18 ∧ Xi U 904 16 = Xi S 904 16 + n) ∧ ARN S U 917 (Xi S 904 16) (pa10 S) n ∧ ZRO S U 929 (12 * Xi S 904 16) (12 * n) ∧ ZRO S U 933 (12 * Xi S 904 16) (12 * n) ∧ ZRO S U 926 (24 * Xi S 904 16) (24 * n))
theorem knr_0 {S : sS} : KNR S S 0 := ⟨fun _ => ⟨⟨rfl, by omega⟩, fun _ => rfl, fun _ => rfl, fun _ => rfl, fun _ => rfl⟩, fun _ => ⟨⟨rfl, by omega⟩, arn_0 (fun _ => rfl), zro_0 (fun _ => rfl), zro_0 (fun _ => rfl), zro_0 (fun _ => rfl)⟩⟩
theorem knr_k {S U V : sS} {n : Nat} (h : KNR S U n) (a : Xi V 904 16 = Xi U 904 16) (b : Xi V 904 18 = Xi U 904 18) (c : ∀ k j : Nat, (k = 917 ∨ k = 929 ∨ k = 933 ∨ k = 926) → Xi V k j = Xi U k j) : KNR S V n := by
  refine ⟨fun q => ?_, fun q => ?_⟩
  · obtain ⟨h1, h2, h3, h4, h5⟩ := h.1 q
    exact ⟨⟨a.trans h1.1, b.trans h1.2⟩, fun j => (c _ j (by omega)).trans (h2 j), fun j => (c _ j (by omega)).trans (h3 j), fun j => (c _ j (by omega)).trans (h4 j), fun j => (c _ j (by omega)).trans (h5 j)⟩
  · obtain ⟨h1, h2, h3, h4, h5⟩ := h.2 q
    exact ⟨⟨b.trans h1.1, a.trans h1.2⟩, arn_k h2 (fun j => c _ j (by omega)), zro_k h3 (fun j => c _ j (by omega)), zro_k h4 (fun j => c _ j (by omega)), zro_k h5 (fun j => c _ j (by omega))⟩
theorem knr_t {S U V : sS} {n : Nat} (h : KNR S U n) (q : iT S = 1) (a : Xi V 904 16 = Xi U 904 16) (b : Xi V 904 18 = Xi U 904 18 + 1) (c : ∀ k j : Nat, (k = 917 ∨ k = 929 ∨ k = 933 ∨ k = 926) → Xi V k j = Xi U k j) : KNR S V (n + 1) := by
  refine ⟨fun _ => ?_, fun w => by omega⟩
  obtain ⟨h1, h2, h3, h4, h5⟩ := h.1 q
  exact ⟨⟨a.trans h1.1, by omega⟩, fun j => (c _ j (by omega)).trans (h2 j), fun j => (c _ j (by omega)).trans (h3 j), fun j => (c _ j (by omega)).trans (h4 j), fun j => (c _ j (by omega)).trans (h5 j)⟩
theorem knr_s {S U V : sS} {n : Nat} {p : Int} (h : KNR S U n) (q : iT S = 0) (k : AKN U V p) (hp : p = pa10 S) (b : Xi V 904 18 = Xi U 904 18) (h0 : 0 ≤ Xi S 904 16) : KNR S V (n + 1) := by
  refine ⟨fun w => by omega, fun _ => ?_⟩
  obtain ⟨h1, h2, h3, h4, h5⟩ := h.2 q
  obtain ⟨k1, k2, k3, k4, k5⟩ := k
  have e := h1.2
  rw [e] at k1 k2 k3 k4 k5
  refine ⟨⟨b.trans h1.1, by omega⟩, ⟨fun i hi => ?_, fun j hj => ?_⟩, ?_, ?_, ?_⟩
  · by_cases w : i = n
    · rw [w, ← hp]; exact k2.1
    · rw [k2.2 _ (by omega)]; exact h2.1 i (by omega)
  · rw [k2.2 _ (by omega)]; exact h2.2 j hj
  · rw [show 12 * (Xi S 904 16 + (n : Int)) = 12 * Xi S 904 16 + 12 * n by omega] at k3
    rw [show (12 : Int) * ((n + 1 : Nat) : Int) = 12 * n + 12 by omega]
    exact zro_t h3 k3 (by omega) (by omega)
  · rw [show 12 * (Xi S 904 16 + (n : Int)) = 12 * Xi S 904 16 + 12 * n by omega] at k4
    rw [show (12 : Int) * ((n + 1 : Nat) : Int) = 12 * n + 12 by omega]
    exact zro_t h4 k4 (by omega) (by omega)
  · rw [show 24 * (Xi S 904 16 + (n : Int)) = 24 * Xi S 904 16 + 24 * n by omega] at k5
    rw [show (24 : Int) * ((n + 1 : Nat) : Int) = 24 * n + 24 by omega]
    exact zro_t h5 k5 (by omega) (by omega)
/-- the words of a RUN with an s -/
def wLa (S : sS) (r : Int) : Int := Xj S 910 (Xi S 950 r.toNat + Xi S 951 r.toNat - 1).toNat
def lgI (S : sS) (r : Int) : Int := if lshrF (wLa S r) 55 = 0 then 0 else 1
def wPl (S : sS) (r : Int) : Int := if lgI S r = 1 then wLa S r else lorF (lshlF (wLa S r) 5) 19
def wPa (S : sS) (r : Int) : Int := if Xi S 951 r.toNat = 1 then wPl S r else Xj S 910 (Xi S 950 r.toNat).toNat
def wPb (S : sS) (r : Int) : Int := if Xi S 951 r.toNat = 2 then wPl S r else if 2 < Xi S 951 r.toNat then Xj S 910 (Xi S 950 r.toNat + 1).toNat else 0
def wPc (S : sS) (r : Int) : Int := if Xi S 951 r.toNat = 3 then wPl S r else 0
def PLR (S W V : sS) (so ix r : Int) : Prop := ((lgI S r = 1 ∨ fdR W (wPa S r) (wPb S r) (wPc S r) (Xi S 951 r.toNat) (Xi W 904 15).toNat = -1) → TLX W V so ix (wPa S r) (wPb S r) (wPc S r) (Xi S 951 r.toNat) (lgI S r)) ∧ (¬ (lgI S r = 1 ∨ fdR W (wPa S r) (wPb S r) (wPc S r) (Xi S 951 r.toNat) (Xi W 904 15).toNat = -1) → SMR W V)
def TPR (S : sS) (so c f : Int) (B : sS) : Nat → sS → Prop
  | 0, V => SMR B V
  | n + 1, V => ∃ W : sS, TPR S so c f B n W ∧ PLR S W V so (c + n) (f + n)
theorem tlx_of {W V U : sS} {so ix a b c n g : Int} (t : TLR W V so ix a b c n) (e : U = uI V 916 (Xi V 904 15 - 1).toNat (Int32.ofInt g)) (h15 : 0 ≤ Xi W 904 15) (hg : rg g) : TLX W U so ix a b c n g := by
  have i : (Xi V 904 15 - 1).toNat = (Xi W 904 15).toNat := by have q := t.2.2; omega
  rw [i] at e
  exact ⟨V, t, fun k j hk => by rw [e, Xi_ne (by omega)], fun j => by rw [e, Xj_I], by rw [e, Xi_ne (by omega)], by rw [e]; exact Xi_same hg, fun j hj => by rw [e, Xi_ne (by omega)]⟩
theorem LSP_tlx {A B : sS} {so ix a b c n g : Int} (t : TLX A B so ix a b c n g) (h0 : 0 ≤ Xi A 904 15) (hs : 0 ≤ so) (h : LSP A) : LSP B := by
  obtain ⟨W, w1, w2, w3, w4, _⟩ := t
  have l := LSP_tl w1 h0 hs h
  intro k hk
  rw [w2 914 k (by omega)]
  exact l k (by omega)
def RD10 (S S1 : sS) : Prop := (∃ B : sS, TLL S (2 * iT S) (cKR S) (Xi S 904 71) (Xi S 904 72).toNat B ∧ TPR S (1 + 2 * iT S) (cKR S) (Xi S 904 71) B (Xi S 904 72).toNat S1) ∧ KNR S S1 (Xi S 904 72).toNat
theorem lgi_y {S : sS} {r w : Int} (hw : w = wLa S r) (h : lshrF w 55 ≠ 0) : (1 : Int) = lgI S r := by unfold lgI; rw [← hw, if_neg h]
theorem lgi_n {S : sS} {r w : Int} (hw : w = wLa S r) (h : lshrF w 55 = 0) : (0 : Int) = lgI S r := by unfold lgI; rw [← hw, if_pos h]
theorem ckr_t {S : sS} (h : iT S = 1) : cKR S = Xi S 904 18 := by
  unfold iT at h; unfold cKR
  split at h
  · rw [if_pos (by assumption)]
  · omega
theorem ckr_k {S : sS} (h : iT S = 0) : cKR S = Xi S 904 16 := by
  unfold iT at h; unfold cKR
  split at h
  · omega
  · rw [if_neg (by assumption)]
theorem pa_rg {S : sS} (hx : LXR S) (h15 : 0 ≤ Xi S 904 15) : rg (pa10 S) := by
  unfold pa10
  have t := rnR_ix (r := Xi S 904 78) (s := 0) hx h15
  split
  · unfold rg; omega
  · unfold rg; omega

def md_re_tellKinds__p : List rec := [(1, 2, 3, 4), (2, 3, 0, 100000), (3, 4, 0, 100000), (4, 5, 0, 100000), (5, 6, 0, 100000), (6, 7, 0, 100000), (7, 8, 0, 100000), (876, 877, 8, 9), (876, 877, 9, 10), (891, 892, 9, 10), (892, 893, 0, 100000), (893, 894, 0, 100000), (894, 895, 0, 100000)]
abbrev Q_re_tellKinds__p (S : sS) : pst := fun r S1 => RI S1 ∧ FR md_re_tellKinds__p S S1 ∧ (∃ z : Int, r = some (iv z) ∧ (0 ≤ z ∧ z ≤ 1) ∧ (TKN S S1 z))
set_option maxRecDepth 100000 in
theorem t_re_tellKinds__p {S : sS} (hH : RI S) (h13 : 0 ≤ Xi S 1 3 ∧ Xi S 1 3 ≤ 200) (hCE : CEN S) (hNB : NRB S) (hf : Xi S 876 8 = 0) (hr : Xi S 876 7 ≤ 5130) (ht : 0 ≤ Xi S 890 3 ∧ Xi S 890 3 ≤ 5125) (hn0 : Xi S 891 9 = 0) (h2 : Xi S 1 3 < 199) (hc : 0 ≤ c10 S ∧ c10 S ≤ 16 - 8 * tyB S) (hwd : WRB S) (hE : Hid (LOK S (c10 S) (16 - 8 * tyB S)  (nL S) → Xi S 1 3 + 2 * nL S ≤ 199)) (d : Nat) : Mp lay0 (d + 4) m_re_tellKinds [.ref 891] S (Q_re_tellKinds__p S) := by
  refine Mp_R rfl rfl (fun fu => ?_)
  have hF : FR md_re_tellKinds__p S S := FR.rf
  have w1 : -2147483648 ≤ Xi S 1 3 ∧ Xi S 1 3 ≤ 2147483647 := Xi_rgI
  have w2 : -2147483648 ≤ Xi S 876 7 ∧ Xi S 876 7 ≤ 2147483647 := Xi_rgI
  have w3 : -2147483648 ≤ Xi S 876 8 ∧ Xi S 876 8 ≤ 2147483647 := Xi_rgI
  have w4 : -2147483648 ≤ Xi S 890 3 ∧ Xi S 890 3 ≤ 2147483647 := Xi_rgI
  have w5 : -2147483648 ≤ Xi S 891 9 ∧ Xi S 891 9 ≤ 2147483647 := Xi_rgI
  have tb := tyb_rg (S := S)
  have C68 : ∀ (n68 : Nat) (_ : n68 ≤ fu) (T1 : sS) (_ : RI T1) (_ : FR md_re_tellKinds__p S T1) (v1 : Int) (v2 : Int) (v3 : Int) (v4 : Int) (v5 : Int), (0 ≤ v1 ∧ v1 ≤ 5125) → (0 ≤ v2 ∧ v2 ≤ 1) → (0 ≤ v3 ∧ v3 ≤ 1) → (0 ≤ v4 ∧ v4 ≤ 1) → (-2147483648 ≤ v5 ∧ v5 ≤ 2147483647) → (v1 = Xi S 890 3) → (v2 = ofB S) → (v3 = tyB S) → (v4 = tyB S) → (0 ≤ v5 ∧ v5 ≤ v1) → (Hid (LSU S T1 (cR (ty7 S) (v5).toNat))) → (Hid (LOK S (c10 S) (16 - 8 * tyB S)  (cR (ty7 S) (v5).toNat))) → (Xi T1 876 8 = 0) → (Xi T1 890 3 = Xi S 890 3) → (Xi T1 876 7 = Xi S 876 7) → (Xi T1 1 3 = Xi S 1 3) → (0 ≤ Xi T1 891 9 ∧ Xi T1 891 9 ≤ 16) → Pl n68 lay0 (d + 3) m_re_tellKinds 68 [(0, .ref 891), (1, iv v1), (2, iv v2), (3, iv v3), (4, iv v4), (5, iv v5)] [] T1 (Q_re_tellKinds__p S) := by
    intro n68
    induction n68 with
    | zero => intros; exact Pl_0
    | succ n68 ih68 =>
      intro hm68 T1 hHT1 hFT1 v1 v2 v3 v4 v5 w6 w7 w8 w9 w10 i1 i2 i3 i4 w11 G68 L68 w12 w13 w14 w15 w16
      have w17 : Xi T1 876 7 = Xi S 876 7 := hFT1.x _ _ rfl
      have w18 : Xi T1 890 3 = Xi S 890 3 := hFT1.x _ _ rfl
      have w19 : -2147483648 ≤ Xi T1 1 3 ∧ Xi T1 1 3 ≤ 2147483647 := Xi_rgI
      have w20 : -2147483648 ≤ Xi T1 876 7 ∧ Xi T1 876 7 ≤ 2147483647 := Xi_rgI
      have w21 : -2147483648 ≤ Xi T1 876 8 ∧ Xi T1 876 8 ≤ 2147483647 := Xi_rgI
      have w22 : -2147483648 ≤ Xi T1 890 3 ∧ Xi T1 890 3 ≤ 2147483647 := Xi_rgI
      have w23 : -2147483648 ≤ Xi T1 891 9 ∧ Xi T1 891 9 ≤ 2147483647 := Xi_rgI
      have C190 : ∀  (T2 : sS) (_ : RI T2) (_ : FR md_re_tellKinds__p S T2) (v3 : Int) (v4 : Int) (v5 : Int), (0 ≤ v3 ∧ v3 ≤ 1) → (0 ≤ v4 ∧ v4 ≤ 1) → (-2147483648 ≤ v5 ∧ v5 ≤ 2147483647) → (v3 = tyB S) → (v4 = tyB S) → (v5 = ab10 S) → (ab10 S ≠ -1) → (Hid (LSU S T2 (nL S))) → (Hid (LOK S (c10 S) (16 - 8 * tyB S)  (nL S))) → (Xi T2 876 8 = 0) → (Xi T2 1 3 = Xi S 1 3) → (Xi T2 891 9 = nL S) → Pl n68 lay0 (d + 3) m_re_tellKinds 190 [(0, .ref 891), (3, iv v3), (4, iv v4), (5, iv v5)] [] T2 (Q_re_tellKinds__p S) := by
        intro T2 hHT2 hFT2 v3 v4 v5 w24 w25 w26 i3b i4b k190 R190 G190 L190 w27 w28 w29
        have w30 : Xi T2 876 7 = Xi S 876 7 := hFT2.x _ _ rfl
        have w31 : Xi T2 890 3 = Xi S 890 3 := hFT2.x _ _ rfl
        have w32 : -2147483648 ≤ Xi T2 1 3 ∧ Xi T2 1 3 ≤ 2147483647 := Xi_rgI
        have w33 : -2147483648 ≤ Xi T2 876 7 ∧ Xi T2 876 7 ≤ 2147483647 := Xi_rgI
        have w34 : -2147483648 ≤ Xi T2 876 8 ∧ Xi T2 876 8 ≤ 2147483647 := Xi_rgI
        have w35 : -2147483648 ≤ Xi T2 890 3 ∧ Xi T2 890 3 ≤ 2147483647 := Xi_rgI
        have w36 : -2147483648 ≤ Xi T2 891 9 ∧ Xi T2 891 9 ≤ 2147483647 := Xi_rgI
        have C204 : ∀ (n204 : Nat) (_ : n204 ≤ n68) (T3 : sS) (_ : RI T3) (_ : FR md_re_tellKinds__p S T3) (v3 : Int) (v4 : Int) (v5 : Int) (v6 : Int) (v7 : Int), (0 ≤ v3 ∧ v3 ≤ 1) → (0 ≤ v4 ∧ v4 ≤ 1) → (-2147483648 ≤ v5 ∧ v5 ≤ 2147483647) → (0 ≤ v6 ∧ v6 ≤ 63) → (0 ≤ v7 ∧ v7 ≤ 24) → (v3 = tyB S) → (v4 = tyB S) → (v5 = ab10 S) → (ab10 S ≠ -1) → (v6 = c10 S) → (0 ≤ v7) → (Hid (LOK S (c10 S) (16 - 8 * tyB S)  (nL S))) → (Hid (LNW S T3 (nL S))) → (NRB T3) → (CEN T3) → (Hid (∀ j, Xj T3 879 j = Xj S 879 j)) → (Hid (TNL S (tyB S) (c10 S) (v7).toNat T3)) → (Hid (∀ j, j ≠ (tyB S).toNat → Xi T3 5 j = Xi S 5 j)) → (Hid (KN7 S T3 (v7).toNat)) → (Xi T3 876 8 = 0) → (Xi T3 5 (tyB S).toNat = c10 S + v7) → (Xi T3 1 3 ≤ Xi S 1 3 + v7) → (0 ≤ Xi T3 1 3) → (v7 ≤ nL S) → (Xi T3 891 9 = nL S) → (c10 S + (nL S : Int) ≤ 16) → (Xi S 1 3 + 2 * nL S ≤ 199) → Pl n204 lay0 (d + 3) m_re_tellKinds 204 [(0, .ref 891), (3, iv v3), (4, iv v4), (5, iv v5), (6, iv v6), (7, iv v7)] [] T3 (Q_re_tellKinds__p S) := by
          intro n204
          induction n204 with
          | zero => intros; exact Pl_0
          | succ n204 ih204 =>
            intro hm204 T3 hHT3 hFT3 v3 v4 v5 v6 v7 w37 w38 w39 w40 w41 i3c i4c k204 R204 j6 w42 L204 N204 B204 E204 J204 M204 O204 A204 w43 c204 w44 w45 w46 w47 b204 h204
            have w48 : Xi T3 876 7 = Xi S 876 7 := hFT3.x _ _ rfl
            have w49 : Xi T3 890 3 = Xi S 890 3 := hFT3.x _ _ rfl
            have w50 : -2147483648 ≤ Xi T3 1 3 ∧ Xi T3 1 3 ≤ 2147483647 := Xi_rgI
            have w51 : -2147483648 ≤ Xi T3 876 7 ∧ Xi T3 876 7 ≤ 2147483647 := Xi_rgI
            have w52 : -2147483648 ≤ Xi T3 876 8 ∧ Xi T3 876 8 ≤ 2147483647 := Xi_rgI
            have w53 : -2147483648 ≤ Xi T3 890 3 ∧ Xi T3 890 3 ≤ 2147483647 := Xi_rgI
            have w54 : -2147483648 ≤ Xi T3 891 9 ∧ Xi T3 891 9 ≤ 2147483647 := Xi_rgI
            have C281 : ∀ (n281 : Nat) (_ : n281 ≤ n204) (T4 : sS) (_ : RI T4) (_ : FR md_re_tellKinds__p S T4) (v3 : Int) (v6 : Int) (v7 : Int), (0 ≤ v3 ∧ v3 ≤ 1) → (0 ≤ v6 ∧ v6 ≤ 63) → (0 ≤ v7 ∧ v7 ≤ 24) → (v3 = tyB S) → (v6 = c10 S) → (0 ≤ v7) → (ab10 S ≠ -1) → (Hid (LOK S (c10 S) (16 - 8 * tyB S)  (nL S))) → (Hid (LNW S T4 (nL S))) → (NRB T4) → (CEN T4) → (Hid (∀ j, Xj T4 879 j = Xj S 879 j)) → (Hid (∃ B : sS, TNL S (tyB S) (c10 S) (nL S) B ∧ TPS S (11 + tyB S) (c10 S) B (v7).toNat T4)) → (Hid (∀ j, j ≠ (tyB S).toNat → Xi T4 5 j = Xi S 5 j)) → (Hid (KN7 S T4 (nL S))) → (Xi T4 876 8 = 0) → (Xi T4 5 (tyB S).toNat = c10 S + nL S) → (Xi T4 1 3 ≤ Xi S 1 3 + nL S + v7) → (0 ≤ Xi T4 1 3) → (v7 ≤ nL S) → (Xi T4 891 9 = nL S) → (c10 S + (nL S : Int) ≤ 16) → (Xi S 1 3 + 2 * nL S ≤ 199) → Pl n281 lay0 (d + 3) m_re_tellKinds 281 [(0, .ref 891), (3, iv v3), (6, iv v6), (7, iv v7)] [] T4 (Q_re_tellKinds__p S) := by
              intro n281
              induction n281 with
              | zero => intros; exact Pl_0
              | succ n281 ih281 =>
                intro hm281 T4 hHT4 hFT4 v3 v6 v7 w55 w56 w57 i3d j6d w58 R281 L281 N281 B281 E281 J281 P281 O281 A281 w59 c281 w60 w61 w62 w63 b281 h281
                have w64 : Xi T4 876 7 = Xi S 876 7 := hFT4.x _ _ rfl
                have w65 : Xi T4 890 3 = Xi S 890 3 := hFT4.x _ _ rfl
                have w66 : -2147483648 ≤ Xi T4 1 3 ∧ Xi T4 1 3 ≤ 2147483647 := Xi_rgI
                have w67 : -2147483648 ≤ Xi T4 876 7 ∧ Xi T4 876 7 ≤ 2147483647 := Xi_rgI
                have w68 : -2147483648 ≤ Xi T4 876 8 ∧ Xi T4 876 8 ≤ 2147483647 := Xi_rgI
                have w69 : -2147483648 ≤ Xi T4 890 3 ∧ Xi T4 890 3 ≤ 2147483647 := Xi_rgI
                have w70 : -2147483648 ≤ Xi T4 891 9 ∧ Xi T4 891 9 ≤ 2147483647 := Xi_rgI
                refine ys_iload rfl rfl ?_
                refine y_aload_n rfl rfl ?_
                refine y_gfi rfl rfl rfl rfl rfl ?_
                refine y_icmp_ge rfl rfl (by unfold rg; omega) (by unfold rg; omega) (fun w71 => ?_) (fun w72 => ?_)
                · refine y_iconst rfl ?_
                  have K330 : True := trivial
                  have b330 : (v7).toNat = nL S := by omega
                  have R330 : TKN S T4 1 := tkn_3 L281.o R281 ⟨by omega, by have t := P281.o; rw [b330] at t; exact t, c281, O281.o, A281.o⟩
                  refine y_ireturn rfl rfl ?_
                  exact ⟨hHT4, hFT4, _, rfl, ⟨by omega, by omega⟩, (by first | (have t := K330; exact R330) | (have t := K186; exact tkn_2 L129.o k186 (by omega) Y186) | (have t := K115; exact tkn_1 (F121.o).1 ((F121.o).2 (cR_l (by omega) (by omega) (by have t := B77.o; rw [G68.o.t] at t; exact t)))))⟩
                · refine y_aload_n rfl rfl ?_
                  have nb290 := B281 v7.toNat (by omega)
                  have l290 := run_len L281.o (i := v7.toNat) (by omega) rfl hr (by omega)
                  have f290 : Xi T4 892 v7.toNat = kr7 (ty7 S) v7.toNat ∧ Xi T4 893 v7.toNat = re7 (ty7 S) (kr7 (ty7 S) v7.toNat) := N281.o.2 v7.toNat (by omega)
                  refine y_iload_n rfl rfl ?_
                  refine y_if_eq rfl rfl (by unfold rg; omega) (fun w73 => ?_) (fun w74 => ?_)
                  · refine y_bipush rfl rfl ?_
                    refine y_iload rfl rfl ?_
                    refine y_iload rfl rfl ?_
                    refine y_iadd rfl ?_
                    refine y_aload_n rfl rfl ?_
                    refine y_gfr rfl rfl rfl rfl rfl (hHT4.r 891 7 892 rfl) ?_
                    refine y_iload rfl rfl ?_
                    refine y_ialoadP (n := 24) rfl rfl (by unfold rg; omega) (fun w75 w76 => ?_)
                    have w77 : -2147483648 ≤ (Xi T4 892 ((v7).toNat)) ∧ (Xi T4 892 ((v7).toNat)) ≤ 2147483647 := Xi_rgI
                    refine y_aload_n rfl rfl ?_
                    refine y_gfr rfl rfl rfl rfl rfl (hHT4.r 891 8 893 rfl) ?_
                    refine y_iload rfl rfl ?_
                    refine y_ialoadP (n := 24) rfl rfl (by unfold rg; omega) (fun w78 w79 => ?_)
                    have w80 : -2147483648 ≤ (Xi T4 893 ((v7).toNat)) ∧ (Xi T4 893 ((v7).toNat)) ≤ 2147483647 := Xi_rgI
                    refine y_callV rfl rfl rfl (t_re_nameWithS__p hHT4 11 (v6 + v7) (Xi T4 892 ((v7).toNat)) (Xi T4 893 ((v7).toNat)) ⟨by omega, by omega⟩ ⟨by omega, by omega⟩ ⟨by omega, by omega⟩ ⟨by omega, by omega⟩ (by first | assumption | omega) (by first | assumption | exact (by assumption : CEN T4)) (by first | assumption | omega) (by rw [f290.2, f290.1]; exact l290) (by rw [f290.2, f290.1]; exact wrb_d hwd J281.o) _) ?_
                    rintro _ T5 ⟨hHT5, w82, rfl, o321, x321⟩
                    have hFT5 : FR md_re_tellKinds__p S T5 := FR.tr hFT4 w82 rfl
                    show Pl _ _ _ _ _ _ [] _ _
                    have K321 : True := trivial
                    have F321 := (by assumption : FR md_re_nameWithS__p T4 T5)
                    have b321 := nws_b o321
                    have D321 : CEN T5 := nws_c o321 E281 (by omega) (by omega)
                    have P321 : Hid (∃ B : sS, TNL S (tyB S) (c10 S) (nL S) B ∧ TPS S (11 + tyB S) (c10 S) B (v7.toNat + 1) T5) := by obtain ⟨B, b1, b2⟩ := P281.o; exact ⟨B, b1, tps_s b2 (by have t := o321; first | (rw [show (12 : Int) = 11 + tyB S by omega] at t; exact t) | (rw [show (11 : Int) = 11 + tyB S by omega] at t; exact t)) J281.o f290.1 f290.2 (by omega)⟩
                    have J321 : Hid (∀ j, Xj T5 879 j = Xj S 879 j) := fun j => (x321 j).trans (J281.o j)
                    have N321 : Hid (LNW S T5 (nL S)) := lnw_k N281.o (F321.x 891 9 rfl) (fun j => (F321.cx 892 rfl j).1) (fun j => (F321.cx 893 rfl j).1)
                    have B321 : NRB T5 := nrb_k B281 (F321.x 891 9 rfl) (fun j => (F321.cx 892 rfl j).1) (fun j => (F321.cx 893 rfl j).1)
                    have A321 : Hid (KN7 S T5 (nL S)) := kn7_k A281.o (fun j => (F321.cx 6 rfl j).1) (fun j => (F321.cx 7 rfl j).1)
                    have O321 : Hid (∀ j, j ≠ (tyB S).toNat → Xi T5 5 j = Xi S 5 j) := fun j hj => ((F321.cx 5 rfl j).1).trans (O281.o j hj)
                    have c321 : Xi T5 5 (tyB S).toNat = c10 S + nL S := ((F321.cx 5 rfl _).1).trans c281
                    refine y_iinc rfl rfl rfl rfl ?_
                    refine y_goto rfl rfl ?_
                    have w83 : Xi T5 876 7 = Xi T4 876 7 := (show Xi T5 876 7 = Xi T4 876 7 from w82.x _ _ rfl)
                    have w84 : Xi T5 876 8 = Xi T4 876 8 := (show Xi T5 876 8 = Xi T4 876 8 from w82.x _ _ rfl)
                    have w85 : Xi T5 890 3 = Xi T4 890 3 := (show Xi T5 890 3 = Xi T4 890 3 from w82.x _ _ rfl)
                    have w86 : Xi T5 891 9 = Xi T4 891 9 := (show Xi T5 891 9 = Xi T4 891 9 from w82.x _ _ rfl)
                    exact Pl_weak (ih281 (by omega) T5 hHT5 hFT5 (v3) (v6) ((v7 + 1)) (by omega) (by omega) (by omega) (by first | exact i3d | exact i3c) (by first | exact j6d | exact j6) (by omega) (by first | exact R281 | exact R204) (by first | exact L281 | exact L204) (by first | (have t := K321; exact N321) | exact N204) (by first | (have t := K321; exact B321) | exact B204) (by first | (have t := K321; exact D321) | exact E204) (by first | (have t := K321; exact J321) | exact J204) (by first | (have t := K321; rw [show (v7 + 1).toNat = v7.toNat + 1 by omega]; exact P321) | exact ⟨_, by have t := M204.o; rw [show (v7).toNat = nL S by omega] at t; exact t, SMV.rf⟩) (by first | (have t := K321; exact O321) | exact O204) (by first | (have t := K321; exact A321) | (have t := A204.o; rw [show (v7).toNat = nL S by omega] at t; exact t)) (by omega) (by first | (have t := K321; exact c321) | (have t := c204; omega)) (by omega) (by omega) (by omega) (by omega) (by first | exact b281 | exact b204) (by first | exact h281 | exact h204)) (by omega) (And.intro rfl (And.intro rfl (And.intro rfl (And.intro rfl (True.intro)))))
                  · refine y_bipush rfl rfl ?_
                    refine y_goto rfl rfl ?_
                    refine y_iload rfl rfl ?_
                    refine y_iload rfl rfl ?_
                    refine y_iadd rfl ?_
                    refine y_aload_n rfl rfl ?_
                    refine y_gfr rfl rfl rfl rfl rfl (hHT4.r 891 7 892 rfl) ?_
                    refine y_iload rfl rfl ?_
                    refine y_ialoadP (n := 24) rfl rfl (by unfold rg; omega) (fun w87 w88 => ?_)
                    have w89 : -2147483648 ≤ (Xi T4 892 ((v7).toNat)) ∧ (Xi T4 892 ((v7).toNat)) ≤ 2147483647 := Xi_rgI
                    refine y_aload_n rfl rfl ?_
                    refine y_gfr rfl rfl rfl rfl rfl (hHT4.r 891 8 893 rfl) ?_
                    refine y_iload rfl rfl ?_
                    refine y_ialoadP (n := 24) rfl rfl (by unfold rg; omega) (fun w90 w91 => ?_)
                    have w92 : -2147483648 ≤ (Xi T4 893 ((v7).toNat)) ∧ (Xi T4 893 ((v7).toNat)) ≤ 2147483647 := Xi_rgI
                    refine y_callV rfl rfl rfl (t_re_nameWithS__p hHT4 12 (v6 + v7) (Xi T4 892 ((v7).toNat)) (Xi T4 893 ((v7).toNat)) ⟨by omega, by omega⟩ ⟨by omega, by omega⟩ ⟨by omega, by omega⟩ ⟨by omega, by omega⟩ (by first | assumption | omega) (by first | assumption | exact (by assumption : CEN T4)) (by first | assumption | omega) (by rw [f290.2, f290.1]; exact l290) (by rw [f290.2, f290.1]; exact wrb_d hwd J281.o) _) ?_
                    rintro _ T6 ⟨hHT6, w94, rfl, o321, x321⟩
                    have hFT6 : FR md_re_tellKinds__p S T6 := FR.tr hFT4 w94 rfl
                    show Pl _ _ _ _ _ _ [] _ _
                    have K321 : True := trivial
                    have F321 := (by assumption : FR md_re_nameWithS__p T4 T6)
                    have b321 := nws_b o321
                    have D321 : CEN T6 := nws_c o321 E281 (by omega) (by omega)
                    have P321 : Hid (∃ B : sS, TNL S (tyB S) (c10 S) (nL S) B ∧ TPS S (11 + tyB S) (c10 S) B (v7.toNat + 1) T6) := by obtain ⟨B, b1, b2⟩ := P281.o; exact ⟨B, b1, tps_s b2 (by have t := o321; first | (rw [show (12 : Int) = 11 + tyB S by omega] at t; exact t) | (rw [show (11 : Int) = 11 + tyB S by omega] at t; exact t)) J281.o f290.1 f290.2 (by omega)⟩
                    have J321 : Hid (∀ j, Xj T6 879 j = Xj S 879 j) := fun j => (x321 j).trans (J281.o j)
                    have N321 : Hid (LNW S T6 (nL S)) := lnw_k N281.o (F321.x 891 9 rfl) (fun j => (F321.cx 892 rfl j).1) (fun j => (F321.cx 893 rfl j).1)
                    have B321 : NRB T6 := nrb_k B281 (F321.x 891 9 rfl) (fun j => (F321.cx 892 rfl j).1) (fun j => (F321.cx 893 rfl j).1)
                    have A321 : Hid (KN7 S T6 (nL S)) := kn7_k A281.o (fun j => (F321.cx 6 rfl j).1) (fun j => (F321.cx 7 rfl j).1)
                    have O321 : Hid (∀ j, j ≠ (tyB S).toNat → Xi T6 5 j = Xi S 5 j) := fun j hj => ((F321.cx 5 rfl j).1).trans (O281.o j hj)
                    have c321 : Xi T6 5 (tyB S).toNat = c10 S + nL S := ((F321.cx 5 rfl _).1).trans c281
                    refine y_iinc rfl rfl rfl rfl ?_
                    refine y_goto rfl rfl ?_
                    have w95 : Xi T6 876 7 = Xi T4 876 7 := (show Xi T6 876 7 = Xi T4 876 7 from w94.x _ _ rfl)
                    have w96 : Xi T6 876 8 = Xi T4 876 8 := (show Xi T6 876 8 = Xi T4 876 8 from w94.x _ _ rfl)
                    have w97 : Xi T6 890 3 = Xi T4 890 3 := (show Xi T6 890 3 = Xi T4 890 3 from w94.x _ _ rfl)
                    have w98 : Xi T6 891 9 = Xi T4 891 9 := (show Xi T6 891 9 = Xi T4 891 9 from w94.x _ _ rfl)
                    exact Pl_weak (ih281 (by omega) T6 hHT6 hFT6 (v3) (v6) ((v7 + 1)) (by omega) (by omega) (by omega) (by first | exact i3d | exact i3c) (by first | exact j6d | exact j6) (by omega) (by first | exact R281 | exact R204) (by first | exact L281 | exact L204) (by first | (have t := K321; exact N321) | exact N204) (by first | (have t := K321; exact B321) | exact B204) (by first | (have t := K321; exact D321) | exact E204) (by first | (have t := K321; exact J321) | exact J204) (by first | (have t := K321; rw [show (v7 + 1).toNat = v7.toNat + 1 by omega]; exact P321) | exact ⟨_, by have t := M204.o; rw [show (v7).toNat = nL S by omega] at t; exact t, SMV.rf⟩) (by first | (have t := K321; exact O321) | exact O204) (by first | (have t := K321; exact A321) | (have t := A204.o; rw [show (v7).toNat = nL S by omega] at t; exact t)) (by omega) (by first | (have t := K321; exact c321) | (have t := c204; omega)) (by omega) (by omega) (by omega) (by omega) (by first | exact b281 | exact b204) (by first | exact h281 | exact h204)) (by omega) (And.intro rfl (And.intro rfl (And.intro rfl (And.intro rfl (True.intro)))))
            refine ys_iload rfl rfl ?_
            refine y_aload_n rfl rfl ?_
            refine y_gfi rfl rfl rfl rfl rfl ?_
            refine y_icmp_ge rfl rfl (by unfold rg; omega) (by unfold rg; omega) (fun w99 => ?_) (fun w100 => ?_)
            · refine y_iconst rfl ?_
              refine y_istore rfl rfl rfl ?_
              exact Pl_weak (C281 n204 (by omega) T3 hHT3 hFT3 (v3) (v6) (0) (by omega) (by omega) (by omega) (by first | exact i3d | exact i3c) (by first | exact j6d | exact j6) (by omega) (by first | exact R281 | exact R204) (by first | exact L281 | exact L204) (by first | (have t := K321; exact N321) | exact N204) (by first | (have t := K321; exact B321) | exact B204) (by first | (have t := K321; exact D321) | exact E204) (by first | (have t := K321; exact J321) | exact J204) (by first | (have t := K321; rw [show (v7 + 1).toNat = v7.toNat + 1 by omega]; exact P321) | exact ⟨_, by have t := M204.o; rw [show (v7).toNat = nL S by omega] at t; exact t, SMV.rf⟩) (by first | (have t := K321; exact O321) | exact O204) (by first | (have t := K321; exact A321) | (have t := A204.o; rw [show (v7).toNat = nL S by omega] at t; exact t)) (by omega) (by first | (have t := K321; exact c321) | (have t := c204; omega)) (by omega) (by omega) (by omega) (by omega) (by first | exact b281 | exact b204) (by first | exact h281 | exact h204)) (by omega) (And.intro rfl (And.intro rfl (And.intro rfl (And.intro rfl (True.intro)))))
            · refine y_aload_n rfl rfl ?_
              have nb213 := B204 v7.toNat (by omega)
              refine y_gfr rfl rfl rfl rfl rfl (hHT3.r 891 2 1 rfl) ?_
              refine y_iload rfl rfl ?_
              refine y_aload_n rfl rfl ?_
              refine y_gfr rfl rfl rfl rfl rfl (hHT3.r 891 0 876 rfl) ?_
              refine y_gfr rfl rfl rfl rfl rfl (hHT3.r 876 2 879 rfl) ?_
              refine y_aload_n rfl rfl ?_
              refine y_gfr rfl rfl rfl rfl rfl (hHT3.r 891 7 892 rfl) ?_
              refine y_iload rfl rfl ?_
              refine y_ialoadP (n := 24) rfl rfl (by unfold rg; omega) (fun w101 w102 => ?_)
              have w103 : -2147483648 ≤ (Xi T3 892 ((v7).toNat)) ∧ (Xi T3 892 ((v7).toNat)) ≤ 2147483647 := Xi_rgI
              refine y_aload_n rfl rfl ?_
              refine y_gfr rfl rfl rfl rfl rfl (hHT3.r 891 8 893 rfl) ?_
              refine y_iload rfl rfl ?_
              refine y_ialoadP (n := 24) rfl rfl (by unfold rg; omega) (fun w104 w105 => ?_)
              have w106 : -2147483648 ≤ (Xi T3 893 ((v7).toNat)) ∧ (Xi T3 893 ((v7).toNat)) ≤ 2147483647 := Xi_rgI
              refine y_callV rfl rfl rfl (t_vo_tellNew__p hHT3 v4 879 5130 (Xi T3 892 ((v7).toNat)) (Xi T3 893 ((v7).toNat)) ⟨by omega, by omega⟩ rfl ⟨by omega, by omega⟩ ⟨by omega, by omega⟩ ⟨by omega, by omega⟩ (by first | assumption | omega) (by first | assumption | omega) (Or.inl rfl) (by rw [i4c, c204]; omega) _) ?_
              rintro _ T7 ⟨hHT7, w108, z107, rfl, w107, z240, c240, o240, e240⟩
              have hFT7 : FR md_re_tellKinds__p S T7 := FR.tr hFT3 w108 rfl
              show Pl _ _ _ _ _ _ [iv z107] _ _
              have K240 : True := trivial
              have Z240 : z107 = c10 S + v7 := by have t := z240; rw [i4c, c204] at t; exact t
              have C240 : Xi T7 5 (tyB S).toNat = c10 S + v7 + 1 := by have t := c240; rw [i4c, c204] at t; exact t
              have O240 : Hid (∀ j, j ≠ (tyB S).toNat → Xi T7 5 j = Xi T3 5 j) := by have t := o240; rw [i4c] at t; exact t
              have E240 : Hid (∃ i : Nat, NMI T3 T7 i (tyB S) z107 (wRw T3 879 (Xi T3 892 v7.toNat) (Xi T3 893 v7.toNat) 0) (wRw T3 879 (Xi T3 892 v7.toNat) (Xi T3 893 v7.toNat) 1) (wRw T3 879 (Xi T3 892 v7.toNat) (Xi T3 893 v7.toNat) 2)) := by have t := e240; rw [i4c] at t; exact t
              have X240 := nmi_c E240.o
              have F240 := (by assumption : FR md_vo_tellNew__p T3 T7)
              clear z240 c240 o240 e240
              have D240 : CEN T7 := cen_n E204 E240.o (by omega) (by omega)
              have M240 : Hid (TNL S (tyB S) (c10 S) (v7.toNat + 1) T7) := tnl_s M204.o E240.o J204.o (N204.o.2 v7.toNat (by omega)).1 (N204.o.2 v7.toNat (by omega)).2 (by omega)
              refine y_istore rfl rfl rfl ?_
              refine y_iload_n rfl rfl ?_
              refine y_if_ne rfl rfl (by unfold rg; omega) (fun w109 => ?_) (fun w110 => ?_)
              · refine y_iinc rfl rfl rfl rfl ?_
                have K272 : True := trivial
                have s272 : Hid ((∀ j, Xi T7 3 j = Xi T7 3 j) ∧ (∀ j, Xi T7 4 j = Xi T7 4 j) ∧ (∀ j, Xj T7 2 j = Xj T7 2 j) ∧ Xi T7 1 3 = Xi T7 1 3 ∧ (∀ j, Xj T7 879 j = Xj T7 879 j) ∧ (∀ j, Xi T7 5 j = Xi T7 5 j) ∧ Xi T7 891 9 = Xi T7 891 9 ∧ (∀ j, Xi T7 892 j = Xi T7 892 j) ∧ ∀ j, Xi T7 893 j = Xi T7 893 j) := by first | (have t := K271; exact ⟨fun j => g271 _ j (by omega) (by omega), fun j => g271 _ j (by omega) (by omega), fun j => j271 _ j, g271 _ _ (by omega) (by omega), fun j => j271 _ j, fun j => g271 _ j (by omega) (by omega), g271 _ _ (by omega) (by omega), fun j => g271 _ j (by omega) (by omega), fun j => g271 _ j (by omega) (by omega)⟩) | exact ⟨fun _ => rfl, fun _ => rfl, fun _ => rfl, rfl, fun _ => rfl, fun _ => rfl, rfl, fun _ => rfl, fun _ => rfl⟩
                have A272 : Hid (KN7 S T7 (v7.toNat + 1)) := by first | exact A271 | exact kn7_t A204.o (by omega) (fun j => (F240.cx 6 rfl j).1) (fun j => (F240.cx 7 rfl j).1)
                have M272 : Hid (TNL S (tyB S) (c10 S) (v7.toNat + 1) T7) := tnl_p M240.o s272.o.1 s272.o.2.1 s272.o.2.2.1 s272.o.2.2.2.1 s272.o.2.2.2.2.1
                have c272 : Xi T7 5 (tyB S).toNat = c10 S + (v7 + 1) := by rw [s272.o.2.2.2.2.2.1]; omega
                have e272 : Xi T7 1 3 = Xi T7 1 3 := s272.o.2.2.2.1
                have D272 : CEN T7 := fun i hi => by rw [s272.o.1, s272.o.2.1]; exact D240 i (by omega)
                have O272 : Hid (∀ j, j ≠ (tyB S).toNat → Xi T7 5 j = Xi S 5 j) := fun j hj => by rw [s272.o.2.2.2.2.2.1, O240.o j hj]; exact O204.o j hj
                have J272 : Hid (∀ j, Xj T7 879 j = Xj S 879 j) := fun j => by rw [s272.o.2.2.2.2.1, (F240.cx 879 rfl j).2]; exact J204.o j
                have N272 : Hid (LNW S T7 (nL S)) := lnw_k N204.o (by rw [s272.o.2.2.2.2.2.2.1, F240.x 891 9 rfl]) (fun j => by rw [s272.o.2.2.2.2.2.2.2.1, (F240.cx 892 rfl j).1]) (fun j => by rw [s272.o.2.2.2.2.2.2.2.2, (F240.cx 893 rfl j).1])
                have B272 : NRB T7 := nrb_k B204 (by rw [s272.o.2.2.2.2.2.2.1, F240.x 891 9 rfl]) (fun j => by rw [s272.o.2.2.2.2.2.2.2.1, (F240.cx 892 rfl j).1]) (fun j => by rw [s272.o.2.2.2.2.2.2.2.2, (F240.cx 893 rfl j).1])
                have n272 : Xi T7 891 9 = nL S := N272.o.1
                refine y_goto rfl rfl ?_
                have w111 : Xi T7 876 7 = Xi T3 876 7 := (show Xi T7 876 7 = Xi T3 876 7 from w108.x _ _ rfl)
                have w112 : Xi T7 876 8 = Xi T3 876 8 := (show Xi T7 876 8 = Xi T3 876 8 from w108.x _ _ rfl)
                have w113 : Xi T7 890 3 = Xi T3 890 3 := (show Xi T7 890 3 = Xi T3 890 3 from w108.x _ _ rfl)
                have w114 : Xi T7 891 9 = Xi T3 891 9 := (show Xi T7 891 9 = Xi T3 891 9 from w108.x _ _ rfl)
                exact Pl_weak (ih204 (by omega) T7 hHT7 hFT7 (v3) (v4) (v5) (v6) ((v7 + 1)) (by omega) (by omega) (by omega) (by omega) (by omega) (by first | exact i3c | exact i3b) (by first | exact i4c | exact i4b) (by first | exact k204 | exact k190) (by first | exact R204 | exact R190) (by first | exact j6 | exact C196) (by omega) (by first | exact L204 | exact L190) (by first | (have t := K272; exact N272) | exact G190.o.1) (by first | (have t := K272; exact B272) | exact G190.o.2.1) (by first | (have t := K272; exact D272) | exact LSU.c G190.o hCE) (by first | (have t := K272; exact J272) | exact fun j => G190.o.2.2.2.2.1 879 j (by omega)) (by first | (have t := K272; rw [show (v7 + 1).toNat = v7.toNat + 1 by omega]; exact M272) | exact G190.o.v) (by first | (have t := K272; exact O272) | exact fun j _ => G190.o.2.2.2.1 5 j (by omega)) (by first | (have t := K272; rw [show (v7 + 1).toNat = v7.toNat + 1 by omega]; exact A272) | exact kn7_0 (fun j => G190.o.2.2.2.1 6 j (by omega)) (fun j => G190.o.2.2.2.1 7 j (by omega))) (by omega) (by first | (have t := K272; exact c272) | (rw [G190.o.2.2.2.1 5 _ (by omega)]; show Xi S 5 (tyB S).toNat = Xi S 5 (tyB S).toNat + 0; omega)) (by omega) (by omega) (by omega) (by omega) (by first | exact b204 | exact Int.le_trans (lok_c L190.o (by omega) (by omega)) (by omega)) (by first | exact h204 | exact hE.o L190.o)) (by omega) (And.intro rfl (And.intro rfl (And.intro rfl (And.intro rfl (And.intro rfl (And.intro rfl (True.intro)))))))
              · refine y_aload_n rfl rfl ?_
                have t249 : tyB S = 0 := by omega
                refine y_gfr rfl rfl rfl rfl rfl (hHT7.r 891 2 1 rfl) ?_
                refine y_gfr rfl rfl rfl rfl rfl (hHT7.r 1 5 6 rfl) ?_
                refine y_iload rfl rfl ?_
                refine y_iload rfl rfl ?_
                refine y_iastoreP (n := 16) rfl rfl (by unfold rg; omega) (fun w115 w116 => ?_)
                obtain ⟨U8, eU8⟩ : ∃ T : sS, T = uI T7 6 ((z107).toNat) (Int32.ofInt v5) := ⟨_, rfl⟩
                rw [← eU8]
                have hHU8 : RI U8 := by rw [eU8]; exact RI_w hHT7
                have hFU8 : FR md_re_tellKinds__p S U8 := by rw [eU8]; exact FR.wI hFT7 (mdf_i (r := (6, 7, 0, 100000)) (List.mem_of_getElem? (i := 5) rfl) (inR_i (by omega) (by omega) (by omega) (by omega)))
                have w117 : Xi U8 6 ((z107).toNat) = v5 := by rw [eU8]; exact Xi_same (by unfold rg; omega)
                have ee260 := eU8
                refine y_aload_n rfl rfl ?_
                refine y_gfr rfl rfl rfl rfl rfl (hHU8.r 891 2 1 rfl) ?_
                refine y_gfr rfl rfl rfl rfl rfl (hHU8.r 1 6 7 rfl) ?_
                refine y_iload rfl rfl ?_
                refine y_iconst rfl ?_
                refine y_iastoreP (n := 16) rfl rfl (by unfold rg; omega) (fun w118 w119 => ?_)
                obtain ⟨U9, eU9⟩ : ∃ T : sS, T = uI U8 7 ((z107).toNat) (Int32.ofInt 0) := ⟨_, rfl⟩
                rw [← eU9]
                have hHU9 : RI U9 := by rw [eU9]; exact RI_w hHU8
                have hFU9 : FR md_re_tellKinds__p S U9 := by rw [eU9]; exact FR.wI hFU8 (mdf_i (r := (7, 8, 0, 100000)) (List.mem_of_getElem? (i := 6) rfl) (inR_i (by omega) (by omega) (by omega) (by omega)))
                have w120 : Xi U9 7 ((z107).toNat) = 0 := by rw [eU9]; exact Xi_same (by unfold rg; omega)
                have K271 : True := trivial
                have g271 : ∀ k j : Nat, k ≠ 6 → k ≠ 7 → Xi U9 k j = Xi T7 k j := fun k j h1 h2 => by rw [eU9, Xi_ne (by omega), ee260, Xi_ne (by omega)]
                have j271 : ∀ k j : Nat, Xj U9 k j = Xj T7 k j := fun k j => by rw [eU9, Xj_I, ee260, Xj_I]
                have A271 : Hid (KN7 S U9 (v7.toNat + 1)) := kn7_s A204.o t249 (fun j => (F240.cx 6 rfl j).1) (fun j => (F240.cx 7 rfl j).1) ee260 eU9 (by omega) k204 (by omega) (by unfold rg; omega)
                refine y_iinc rfl rfl rfl rfl ?_
                have K272 : True := trivial
                have s272 : Hid ((∀ j, Xi U9 3 j = Xi T7 3 j) ∧ (∀ j, Xi U9 4 j = Xi T7 4 j) ∧ (∀ j, Xj U9 2 j = Xj T7 2 j) ∧ Xi U9 1 3 = Xi T7 1 3 ∧ (∀ j, Xj U9 879 j = Xj T7 879 j) ∧ (∀ j, Xi U9 5 j = Xi T7 5 j) ∧ Xi U9 891 9 = Xi T7 891 9 ∧ (∀ j, Xi U9 892 j = Xi T7 892 j) ∧ ∀ j, Xi U9 893 j = Xi T7 893 j) := by first | (have t := K271; exact ⟨fun j => g271 _ j (by omega) (by omega), fun j => g271 _ j (by omega) (by omega), fun j => j271 _ j, g271 _ _ (by omega) (by omega), fun j => j271 _ j, fun j => g271 _ j (by omega) (by omega), g271 _ _ (by omega) (by omega), fun j => g271 _ j (by omega) (by omega), fun j => g271 _ j (by omega) (by omega)⟩) | exact ⟨fun _ => rfl, fun _ => rfl, fun _ => rfl, rfl, fun _ => rfl, fun _ => rfl, rfl, fun _ => rfl, fun _ => rfl⟩
                have A272 : Hid (KN7 S U9 (v7.toNat + 1)) := by first | exact A271 | exact kn7_t A204.o (by omega) (fun j => (F240.cx 6 rfl j).1) (fun j => (F240.cx 7 rfl j).1)
                have M272 : Hid (TNL S (tyB S) (c10 S) (v7.toNat + 1) U9) := tnl_p M240.o s272.o.1 s272.o.2.1 s272.o.2.2.1 s272.o.2.2.2.1 s272.o.2.2.2.2.1
                have c272 : Xi U9 5 (tyB S).toNat = c10 S + (v7 + 1) := by rw [s272.o.2.2.2.2.2.1]; omega
                have e272 : Xi U9 1 3 = Xi T7 1 3 := s272.o.2.2.2.1
                have D272 : CEN U9 := fun i hi => by rw [s272.o.1, s272.o.2.1]; exact D240 i (by omega)
                have O272 : Hid (∀ j, j ≠ (tyB S).toNat → Xi U9 5 j = Xi S 5 j) := fun j hj => by rw [s272.o.2.2.2.2.2.1, O240.o j hj]; exact O204.o j hj
                have J272 : Hid (∀ j, Xj U9 879 j = Xj S 879 j) := fun j => by rw [s272.o.2.2.2.2.1, (F240.cx 879 rfl j).2]; exact J204.o j
                have N272 : Hid (LNW S U9 (nL S)) := lnw_k N204.o (by rw [s272.o.2.2.2.2.2.2.1, F240.x 891 9 rfl]) (fun j => by rw [s272.o.2.2.2.2.2.2.2.1, (F240.cx 892 rfl j).1]) (fun j => by rw [s272.o.2.2.2.2.2.2.2.2, (F240.cx 893 rfl j).1])
                have B272 : NRB U9 := nrb_k B204 (by rw [s272.o.2.2.2.2.2.2.1, F240.x 891 9 rfl]) (fun j => by rw [s272.o.2.2.2.2.2.2.2.1, (F240.cx 892 rfl j).1]) (fun j => by rw [s272.o.2.2.2.2.2.2.2.2, (F240.cx 893 rfl j).1])
                have n272 : Xi U9 891 9 = nL S := N272.o.1
                refine y_goto rfl rfl ?_
                have w121 : Xi U9 1 3 = Xi T7 1 3 := (show Xi U9 1 3 = Xi U8 1 3 from by rw [eU9]; exact Xi_ne (by omega)).trans ((show Xi U8 1 3 = Xi T7 1 3 from by rw [eU8]; exact Xi_ne (by omega)))
                have w122 : Xi U9 876 7 = Xi T3 876 7 := (show Xi U9 876 7 = Xi U8 876 7 from by rw [eU9]; exact Xi_ne (by omega)).trans ( (show Xi U8 876 7 = Xi T7 876 7 from by rw [eU8]; exact Xi_ne (by omega)).trans ((show Xi T7 876 7 = Xi T3 876 7 from w108.x _ _ rfl)))
                have w123 : Xi U9 876 8 = Xi T3 876 8 := (show Xi U9 876 8 = Xi U8 876 8 from by rw [eU9]; exact Xi_ne (by omega)).trans ( (show Xi U8 876 8 = Xi T7 876 8 from by rw [eU8]; exact Xi_ne (by omega)).trans ((show Xi T7 876 8 = Xi T3 876 8 from w108.x _ _ rfl)))
                have w124 : Xi U9 890 3 = Xi T3 890 3 := (show Xi U9 890 3 = Xi U8 890 3 from by rw [eU9]; exact Xi_ne (by omega)).trans ( (show Xi U8 890 3 = Xi T7 890 3 from by rw [eU8]; exact Xi_ne (by omega)).trans ((show Xi T7 890 3 = Xi T3 890 3 from w108.x _ _ rfl)))
                have w125 : Xi U9 891 9 = Xi T3 891 9 := (show Xi U9 891 9 = Xi U8 891 9 from by rw [eU9]; exact Xi_ne (by omega)).trans ( (show Xi U8 891 9 = Xi T7 891 9 from by rw [eU8]; exact Xi_ne (by omega)).trans ((show Xi T7 891 9 = Xi T3 891 9 from w108.x _ _ rfl)))
                exact Pl_weak (ih204 (by omega) U9 hHU9 hFU9 (v3) (v4) (v5) (v6) ((v7 + 1)) (by omega) (by omega) (by omega) (by omega) (by omega) (by first | exact i3c | exact i3b) (by first | exact i4c | exact i4b) (by first | exact k204 | exact k190) (by first | exact R204 | exact R190) (by first | exact j6 | exact C196) (by omega) (by first | exact L204 | exact L190) (by first | (have t := K272; exact N272) | exact G190.o.1) (by first | (have t := K272; exact B272) | exact G190.o.2.1) (by first | (have t := K272; exact D272) | exact LSU.c G190.o hCE) (by first | (have t := K272; exact J272) | exact fun j => G190.o.2.2.2.2.1 879 j (by omega)) (by first | (have t := K272; rw [show (v7 + 1).toNat = v7.toNat + 1 by omega]; exact M272) | exact G190.o.v) (by first | (have t := K272; exact O272) | exact fun j _ => G190.o.2.2.2.1 5 j (by omega)) (by first | (have t := K272; rw [show (v7 + 1).toNat = v7.toNat + 1 by omega]; exact A272) | exact kn7_0 (fun j => G190.o.2.2.2.1 6 j (by omega)) (fun j => G190.o.2.2.2.1 7 j (by omega))) (by omega) (by first | (have t := K272; exact c272) | (rw [G190.o.2.2.2.1 5 _ (by omega)]; show Xi S 5 (tyB S).toNat = Xi S 5 (tyB S).toNat + 0; omega)) (by omega) (by omega) (by omega) (by omega) (by first | exact b204 | exact Int.le_trans (lok_c L190.o (by omega) (by omega)) (by omega)) (by first | exact h204 | exact hE.o L190.o)) (by omega) (And.intro rfl (And.intro rfl (And.intro rfl (And.intro rfl (And.intro rfl (And.intro rfl (True.intro)))))))
        refine y_aload_n rfl rfl ?_
        refine y_gfr rfl rfl rfl rfl rfl (hHT2.r 891 2 1 rfl) ?_
        refine y_iload rfl rfl ?_
        refine y_callV rfl rfl rfl (t_vo_countOf__p hHT2 v4 ⟨by omega, by omega⟩ _) ?_
        rintro _ _ ⟨rfl, z126, rfl, w126, p196⟩
        show Pl _ _ _ _ _ _ [iv z126] _ _
        have C196 : z126 = c10 S := by have t := p196 (by omega) (by omega); rw [G190.o.2.2.2.1 5 _ (by omega), i4b] at t; exact t
        clear p196
        refine y_istore rfl rfl rfl ?_
        refine y_iconst rfl ?_
        refine y_istore rfl rfl rfl ?_
        exact Pl_weak (C204 n68 (by omega) T2 hHT2 hFT2 (v3) (v4) (v5) (z126) (0) (by omega) (by omega) (by omega) (by omega) (by omega) (by first | exact i3c | exact i3b) (by first | exact i4c | exact i4b) (by first | exact k204 | exact k190) (by first | exact R204 | exact R190) (by first | exact j6 | exact C196) (by omega) (by first | exact L204 | exact L190) (by first | (have t := K272; exact N272) | exact G190.o.1) (by first | (have t := K272; exact B272) | exact G190.o.2.1) (by first | (have t := K272; exact D272) | exact LSU.c G190.o hCE) (by first | (have t := K272; exact J272) | exact fun j => G190.o.2.2.2.2.1 879 j (by omega)) (by first | (have t := K272; rw [show (v7 + 1).toNat = v7.toNat + 1 by omega]; exact M272) | exact G190.o.v) (by first | (have t := K272; exact O272) | exact fun j _ => G190.o.2.2.2.1 5 j (by omega)) (by first | (have t := K272; rw [show (v7 + 1).toNat = v7.toNat + 1 by omega]; exact A272) | exact kn7_0 (fun j => G190.o.2.2.2.1 6 j (by omega)) (fun j => G190.o.2.2.2.1 7 j (by omega))) (by omega) (by first | (have t := K272; exact c272) | (rw [G190.o.2.2.2.1 5 _ (by omega)]; show Xi S 5 (tyB S).toNat = Xi S 5 (tyB S).toNat + 0; omega)) (by omega) (by omega) (by omega) (by omega) (by first | exact b204 | exact Int.le_trans (lok_c L190.o (by omega) (by omega)) (by omega)) (by first | exact h204 | exact hE.o L190.o)) (by omega) (And.intro rfl (And.intro rfl (And.intro rfl (And.intro rfl (And.intro rfl (And.intro rfl (True.intro)))))))
      refine ys_iload rfl rfl ?_
      refine y_iload_n rfl rfl ?_
      refine y_icmp_ge rfl rfl (by unfold rg; omega) (by unfold rg; omega) (fun w127 => ?_) (fun w128 => ?_)
      · refine y_iconst rfl ?_
        have b129 : v5 = Xi S 890 3 := by omega
        have G129 : Hid (LSU S T1 (nL S)) := by have t := G68; rw [b129] at t; exact t
        have L129 : Hid (LOK S (c10 S) (16 - 8 * tyB S)  (nL S)) := by have t := L68; rw [b129] at t; exact t
        clear G68 L68
        have n129 : Xi T1 891 9 = nL S := G129.o.1.1
        refine y_istore rfl rfl rfl ?_
        refine y_iload_n rfl rfl ?_
        refine y_if_eq rfl rfl (by unfold rg; omega) (fun w129 => ?_) (fun w130 => ?_)
        · exact Pl_weak (C190 T1 hHT1 hFT1 (v3) (v4) (0) (by omega) (by omega) (by omega) (i3) (i4) (by first | (have t := K168; exact K168) | exact ab_n (by omega)) (by first | (have t := K168; omega) | (rw [← ab_n (by omega)]; omega)) (G129) (L129) (by omega) (by omega) (by omega)) (by omega) (And.intro rfl (And.intro rfl (And.intro rfl (And.intro rfl (True.intro)))))
        · refine y_iload_n rfl rfl ?_
          refine y_if_ne rfl rfl (by unfold rg; omega) (fun w131 => ?_) (fun w132 => ?_)
          · exact Pl_weak (C190 T1 hHT1 hFT1 (v3) (v4) (0) (by omega) (by omega) (by omega) (i3) (i4) (by first | (have t := K168; exact K168) | exact ab_n (by omega)) (by first | (have t := K168; omega) | (rw [← ab_n (by omega)]; omega)) (G129) (L129) (by omega) (by omega) (by omega)) (by omega) (And.intro rfl (And.intro rfl (And.intro rfl (And.intro rfl (True.intro)))))
          · refine y_aload_n rfl rfl ?_
            refine y_gfr rfl rfl rfl rfl rfl (hHT1.r 891 0 876 rfl) ?_
            refine y_iload_n rfl rfl ?_
            refine y_iconst rfl ?_
            refine y_iadd rfl ?_
            refine y_callV rfl rfl rfl (t_to_behindArt__p hHT1 (v1 + 4) ⟨by omega, by omega⟩ _) ?_
            rintro _ _ ⟨rfl, z135, rfl, w135, w133, w134⟩
            show Pl _ _ _ _ _ _ [iv z135] _ _
            have gq147 := w133
            rw [FRT hFT1 rfl rfl] at gq147
            clear w133
            have g147 : r10 S = z135 := by unfold r10; rw [← show v1 = Xi S 890 3 by omega]; exact gq147
            refine y_istore rfl rfl rfl ?_
            refine y_aload_n rfl rfl ?_
            refine y_gfr rfl rfl rfl rfl rfl (hHT1.r 891 4 895 rfl) ?_
            refine y_iconst rfl ?_
            refine y_iload rfl rfl ?_
            refine y_aload_n rfl rfl ?_
            refine y_gfr rfl rfl rfl rfl rfl (hHT1.r 891 0 876 rfl) ?_
            refine y_iload rfl rfl ?_
            refine y_callV rfl rfl rfl (t_to_runEnd__p hHT1 z135 ⟨by omega, by omega⟩ _) ?_
            rintro _ _ ⟨rfl, z138, rfl, w138, w136, w137⟩
            show Pl _ _ _ _ _ _ [iv z138, iv z135, iv 0, .ref 895] _ _
            have gq165 := w136
            rw [FRT hFT1 rfl rfl] at gq165
            clear w136
            refine y_callV rfl rfl rfl (t_me_find__p hHT1 0 z135 z138 ⟨by omega, by omega⟩ ⟨by omega, by omega⟩ ⟨by omega, by omega⟩ (by first | assumption | omega) (LSU.c G129.o hCE) _) ?_
            rintro _ _ ⟨rfl, z139, rfl, w139, v168⟩
            show Pl _ _ _ _ _ _ [iv z139] _ _
            have K168 : z139 = ab10 S := ab_y G129.o (by omega) (by omega) g147 gq165 v168
            clear v168
            refine y_istore rfl rfl rfl ?_
            refine y_iload rfl rfl ?_
            refine y_iconst rfl ?_
            refine y_icmp_ne rfl rfl (by unfold rg; omega) (by unfold rg; omega) (fun w140 => ?_) (fun w141 => ?_)
            · exact Pl_weak (C190 T1 hHT1 hFT1 (v3) (v4) (z139) (by omega) (by omega) (by omega) (i3) (i4) (by first | (have t := K168; exact K168) | exact ab_n (by omega)) (by first | (have t := K168; omega) | (rw [← ab_n (by omega)]; omega)) (G129) (L129) (by omega) (by omega) (by omega)) (by omega) (And.intro rfl (And.intro rfl (And.intro rfl (And.intro rfl (True.intro)))))
            · refine y_aload_n rfl rfl ?_
              refine y_gfr rfl rfl rfl rfl rfl (hHT1.r 891 0 876 rfl) ?_
              refine y_iconst rfl ?_
              refine y_iload rfl rfl ?_
              refine y_callV rfl rfl rfl (t_to_wrong__p hHT1 4 z135 ⟨by omega, by omega⟩ ⟨by omega, by omega⟩ _) ?_
              rintro _ T10 ⟨hHT10, w145, z144, rfl, w144, w142, f186, w143⟩
              have hFT10 : FR md_re_tellKinds__p S T10 := FR.tr hFT1 w145 rfl
              show Pl _ _ _ _ _ _ [iv z144] _ _
              have K186 : True := trivial
              have k186 : ab10 S = -1 := by omega
              have Y186 : FTO S T10 4 (r10 S) := fto_p (by rw [g147]; exact f186 (by omega)) G129.o.p
              refine y_ireturn rfl (retI_z (by omega)) ?_
              have w146 : Xi T10 1 3 = Xi T1 1 3 := (show Xi T10 1 3 = Xi T1 1 3 from w145.x _ _ rfl)
              have w147 : Xi T10 876 7 = Xi T1 876 7 := (show Xi T10 876 7 = Xi T1 876 7 from w145.x _ _ rfl)
              have w148 : Xi T10 890 3 = Xi T1 890 3 := (show Xi T10 890 3 = Xi T1 890 3 from w145.x _ _ rfl)
              have w149 : Xi T10 891 9 = Xi T1 891 9 := (show Xi T10 891 9 = Xi T1 891 9 from w145.x _ _ rfl)
              exact ⟨hHT10, hFT10, _, rfl, ⟨by omega, by omega⟩, (by first | (have t := K330; exact R330) | (have t := K186; exact tkn_2 L129.o k186 (by omega) Y186) | (have t := K115; exact tkn_1 (F121.o).1 ((F121.o).2 (cR_l (by omega) (by omega) (by have t := B77.o; rw [G68.o.t] at t; exact t)))))⟩
      · refine y_aload_n rfl rfl ?_
        refine y_iload rfl rfl ?_
        refine y_callV rfl rfl rfl (t_re_beginsName__p hHT1 v5 ⟨by omega, by omega⟩ _) ?_
        rintro _ _ ⟨rfl, z150, rfl, w150, v77⟩
        show Pl _ _ _ _ _ _ [iv z150] _ _
        have K77 : True := trivial
        refine y_if_eq rfl rfl (by unfold rg; omega) (fun w151 => ?_) (fun w152 => ?_)
        · refine y_iinc rfl rfl rfl rfl ?_
          have K123 : True := trivial
          have G123 : Hid (LSU S T1 (cR (ty7 S) (v5 + 1).toNat) ∧ LOK S (c10 S) (16 - 8 * tyB S)  (cR (ty7 S) (v5 + 1).toNat)) := by first | (have t := K115; exact lsu_t G68.o L68.o B77.o gq92 (by omega) hr F115 m3_115.o m9_115.o mo_115.o mb_115.o (by omega)) | exact lsu_n G68.o L68.o (v77.2 (by omega) (by omega)) (by omega)
          have x123 : Xi T1 876 8 = 0 := G123.o.1.2.2.1
          have y123 : 0 ≤ Xi T1 891 9 ∧ Xi T1 891 9 ≤ 16 := by have a := G123.o.1.1.1; have b := lok_b G123.o.2 (by omega) (by omega); omega
          refine y_goto rfl rfl ?_
          exact Pl_weak (ih68 (by omega) T1 hHT1 hFT1 (v1) (v2) (v3) (v4) ((v5 + 1)) (by omega) (by omega) (by omega) (by omega) (by omega) (by first | exact i1 | rfl) (by first | exact i2 | (unfold ofB; first | (rw [if_pos (by omega)]) | (rw [if_neg (by omega)]))) (by first | exact i3 | (unfold tyB; first | (rw [if_pos (by omega)]) | (rw [if_neg (by omega)]))) (by first | exact i4 | (unfold tyB; first | (rw [if_pos (by omega)]) | (rw [if_neg (by omega)]))) (by omega) (by first | (have t := K123; exact G123.o.1) | exact lsu_0 hn0 hNB hf) (by first | (have t := K123; exact G123.o.2) | exact (fun i hi => absurd hi (Nat.not_lt_zero _))) (by omega) (by omega) (by omega) (by omega) (by omega)) (by omega) (And.intro rfl (And.intro rfl (And.intro rfl (And.intro rfl (And.intro rfl (And.intro rfl (True.intro)))))))
        · refine y_aload_n rfl rfl ?_
          have B77 : Hid (bg7 (ty7 T1) v5) := (v77.1 (by omega)).1
          refine y_iload rfl rfl ?_
          refine y_aload_n rfl rfl ?_
          refine y_gfr rfl rfl rfl rfl rfl (hHT1.r 891 0 876 rfl) ?_
          refine y_iload rfl rfl ?_
          refine y_callV rfl rfl rfl (t_to_runEnd__p hHT1 v5 ⟨by omega, by omega⟩ _) ?_
          rintro _ _ ⟨rfl, z155, rfl, w155, w153, w154⟩
          show Pl _ _ _ _ _ _ [iv z155, iv v5, .ref 891] _ _
          have gq92 := w153
          rw [FRT hFT1 rfl rfl] at gq92
          clear w153
          refine y_aload_n rfl rfl ?_
          refine y_gfr rfl rfl rfl rfl rfl (hHT1.r 891 2 1 rfl) ?_
          refine y_iload rfl rfl ?_
          refine y_callV rfl rfl rfl (t_vo_countOf__p hHT1 v4 ⟨by omega, by omega⟩ _) ?_
          rintro _ _ ⟨rfl, z156, rfl, w156, p101⟩
          show Pl _ _ _ _ _ _ [iv z156, iv z155, iv v5, .ref 891] _ _
          have C101 : z156 = c10 S := by have t := p101 (by omega) (by omega); rw [G68.o.2.2.2.1 5 _ (by omega), i4] at t; exact t
          clear p101
          refine y_iload_n rfl rfl ?_
          refine y_if_eq rfl rfl (by unfold rg; omega) (fun w157 => ?_) (fun w158 => ?_)
          · refine y_bipush rfl rfl ?_
            refine y_callV rfl rfl rfl (t_re_takeNew__p hHT1 v5 z155 z156 16 ⟨by omega, by omega⟩ ⟨by omega, by omega⟩ ⟨by omega, by omega⟩ ⟨by omega, by omega⟩ (by first | assumption | omega) (LSU.c G68.o hCE) (G68.o.2.1) (by first | assumption | omega) (Or.inl (by omega)) (by first | assumption | omega) (by omega) _) ?_
            rintro _ T11 ⟨hHT11, w160, z159, rfl, w159, n3_115, n9_115, ok_115, nb_115⟩
            have hFT11 : FR md_re_tellKinds__p S T11 := FR.tr hFT1 w160 rfl
            show Pl _ _ _ _ _ _ [iv z159] _ _
            have K115 : True := trivial
            have F115 := (by assumption : FR md_re_takeNew__p T1 T11)
            rw [C101] at n9_115 ok_115
            have m3_115 := Hid.i n3_115
            have m9_115 : Hid (nwC T1 v5 _ → 16 - 8 * tyB S ≤ c10 S + Xi T1 891 9 → _) := fun a b => n9_115 a (by omega)
            have mo_115 : Hid (nwC T1 v5 _ → c10 S + Xi T1 891 9 < 16 - 8 * tyB S → _) := fun a b => ok_115 a (by omega)
            have mb_115 := Hid.i nb_115
            clear n3_115 n9_115 ok_115 nb_115
            refine y_if_ne rfl rfl (by unfold rg; omega) (fun w161 => ?_) (fun w162 => ?_)
            · refine y_iinc rfl rfl rfl rfl ?_
              have K123 : True := trivial
              have G123 : Hid (LSU S T11 (cR (ty7 S) (v5 + 1).toNat) ∧ LOK S (c10 S) (16 - 8 * tyB S)  (cR (ty7 S) (v5 + 1).toNat)) := by first | (have t := K115; exact lsu_t G68.o L68.o B77.o gq92 (by omega) hr F115 m3_115.o m9_115.o mo_115.o mb_115.o (by omega)) | exact lsu_n G68.o L68.o (v77.2 (by omega) (by omega)) (by omega)
              have x123 : Xi T11 876 8 = 0 := G123.o.1.2.2.1
              have y123 : 0 ≤ Xi T11 891 9 ∧ Xi T11 891 9 ≤ 16 := by have a := G123.o.1.1.1; have b := lok_b G123.o.2 (by omega) (by omega); omega
              refine y_goto rfl rfl ?_
              have w163 : Xi T11 1 3 = Xi T1 1 3 := (show Xi T11 1 3 = Xi T1 1 3 from w160.x _ _ rfl)
              have w164 : Xi T11 876 7 = Xi T1 876 7 := (show Xi T11 876 7 = Xi T1 876 7 from w160.x _ _ rfl)
              have w165 : Xi T11 890 3 = Xi T1 890 3 := (show Xi T11 890 3 = Xi T1 890 3 from w160.x _ _ rfl)
              exact Pl_weak (ih68 (by omega) T11 hHT11 hFT11 (v1) (v2) (v3) (v4) ((v5 + 1)) (by omega) (by omega) (by omega) (by omega) (by omega) (by first | exact i1 | rfl) (by first | exact i2 | (unfold ofB; first | (rw [if_pos (by omega)]) | (rw [if_neg (by omega)]))) (by first | exact i3 | (unfold tyB; first | (rw [if_pos (by omega)]) | (rw [if_neg (by omega)]))) (by first | exact i4 | (unfold tyB; first | (rw [if_pos (by omega)]) | (rw [if_neg (by omega)]))) (by omega) (by first | (have t := K123; exact G123.o.1) | exact lsu_0 hn0 hNB hf) (by first | (have t := K123; exact G123.o.2) | exact (fun i hi => absurd hi (Nat.not_lt_zero _))) (by omega) (by omega) (by omega) (by omega) (by omega)) (by omega) (And.intro rfl (And.intro rfl (And.intro rfl (And.intro rfl (And.intro rfl (And.intro rfl (True.intro)))))))
            · refine y_iconst rfl ?_
              have F121 := Hid.i (lsu_f (N := nL S) G68.o L68.o B77.o gq92 (by omega) hr m3_115.o m9_115.o mo_115.o (by omega))
              refine y_ireturn rfl rfl ?_
              have w166 : Xi T11 1 3 = Xi T1 1 3 := (show Xi T11 1 3 = Xi T1 1 3 from w160.x _ _ rfl)
              have w167 : Xi T11 876 7 = Xi T1 876 7 := (show Xi T11 876 7 = Xi T1 876 7 from w160.x _ _ rfl)
              have w168 : Xi T11 890 3 = Xi T1 890 3 := (show Xi T11 890 3 = Xi T1 890 3 from w160.x _ _ rfl)
              exact ⟨hHT11, hFT11, _, rfl, ⟨by omega, by omega⟩, (by first | (have t := K330; exact R330) | (have t := K186; exact tkn_2 L129.o k186 (by omega) Y186) | (have t := K115; exact tkn_1 (F121.o).1 ((F121.o).2 (cR_l (by omega) (by omega) (by have t := B77.o; rw [G68.o.t] at t; exact t)))))⟩
          · refine y_bipush rfl rfl ?_
            refine y_goto rfl rfl ?_
            refine y_callV rfl rfl rfl (t_re_takeNew__p hHT1 v5 z155 z156 8 ⟨by omega, by omega⟩ ⟨by omega, by omega⟩ ⟨by omega, by omega⟩ ⟨by omega, by omega⟩ (by first | assumption | omega) (LSU.c G68.o hCE) (G68.o.2.1) (by first | assumption | omega) (Or.inl (by omega)) (by first | assumption | omega) (by omega) _) ?_
            rintro _ T12 ⟨hHT12, w170, z169, rfl, w169, n3_115, n9_115, ok_115, nb_115⟩
            have hFT12 : FR md_re_tellKinds__p S T12 := FR.tr hFT1 w170 rfl
            show Pl _ _ _ _ _ _ [iv z169] _ _
            have K115 : True := trivial
            have F115 := (by assumption : FR md_re_takeNew__p T1 T12)
            rw [C101] at n9_115 ok_115
            have m3_115 := Hid.i n3_115
            have m9_115 : Hid (nwC T1 v5 _ → 16 - 8 * tyB S ≤ c10 S + Xi T1 891 9 → _) := fun a b => n9_115 a (by omega)
            have mo_115 : Hid (nwC T1 v5 _ → c10 S + Xi T1 891 9 < 16 - 8 * tyB S → _) := fun a b => ok_115 a (by omega)
            have mb_115 := Hid.i nb_115
            clear n3_115 n9_115 ok_115 nb_115
            refine y_if_ne rfl rfl (by unfold rg; omega) (fun w171 => ?_) (fun w172 => ?_)
            · refine y_iinc rfl rfl rfl rfl ?_
              have K123 : True := trivial
              have G123 : Hid (LSU S T12 (cR (ty7 S) (v5 + 1).toNat) ∧ LOK S (c10 S) (16 - 8 * tyB S)  (cR (ty7 S) (v5 + 1).toNat)) := by first | (have t := K115; exact lsu_t G68.o L68.o B77.o gq92 (by omega) hr F115 m3_115.o m9_115.o mo_115.o mb_115.o (by omega)) | exact lsu_n G68.o L68.o (v77.2 (by omega) (by omega)) (by omega)
              have x123 : Xi T12 876 8 = 0 := G123.o.1.2.2.1
              have y123 : 0 ≤ Xi T12 891 9 ∧ Xi T12 891 9 ≤ 16 := by have a := G123.o.1.1.1; have b := lok_b G123.o.2 (by omega) (by omega); omega
              refine y_goto rfl rfl ?_
              have w173 : Xi T12 1 3 = Xi T1 1 3 := (show Xi T12 1 3 = Xi T1 1 3 from w170.x _ _ rfl)
              have w174 : Xi T12 876 7 = Xi T1 876 7 := (show Xi T12 876 7 = Xi T1 876 7 from w170.x _ _ rfl)
              have w175 : Xi T12 890 3 = Xi T1 890 3 := (show Xi T12 890 3 = Xi T1 890 3 from w170.x _ _ rfl)
              exact Pl_weak (ih68 (by omega) T12 hHT12 hFT12 (v1) (v2) (v3) (v4) ((v5 + 1)) (by omega) (by omega) (by omega) (by omega) (by omega) (by first | exact i1 | rfl) (by first | exact i2 | (unfold ofB; first | (rw [if_pos (by omega)]) | (rw [if_neg (by omega)]))) (by first | exact i3 | (unfold tyB; first | (rw [if_pos (by omega)]) | (rw [if_neg (by omega)]))) (by first | exact i4 | (unfold tyB; first | (rw [if_pos (by omega)]) | (rw [if_neg (by omega)]))) (by omega) (by first | (have t := K123; exact G123.o.1) | exact lsu_0 hn0 hNB hf) (by first | (have t := K123; exact G123.o.2) | exact (fun i hi => absurd hi (Nat.not_lt_zero _))) (by omega) (by omega) (by omega) (by omega) (by omega)) (by omega) (And.intro rfl (And.intro rfl (And.intro rfl (And.intro rfl (And.intro rfl (And.intro rfl (True.intro)))))))
            · refine y_iconst rfl ?_
              have F121 := Hid.i (lsu_f (N := nL S) G68.o L68.o B77.o gq92 (by omega) hr m3_115.o m9_115.o mo_115.o (by omega))
              refine y_ireturn rfl rfl ?_
              have w176 : Xi T12 1 3 = Xi T1 1 3 := (show Xi T12 1 3 = Xi T1 1 3 from w170.x _ _ rfl)
              have w177 : Xi T12 876 7 = Xi T1 876 7 := (show Xi T12 876 7 = Xi T1 876 7 from w170.x _ _ rfl)
              have w178 : Xi T12 890 3 = Xi T1 890 3 := (show Xi T12 890 3 = Xi T1 890 3 from w170.x _ _ rfl)
              exact ⟨hHT12, hFT12, _, rfl, ⟨by omega, by omega⟩, (by first | (have t := K330; exact R330) | (have t := K186; exact tkn_2 L129.o k186 (by omega) Y186) | (have t := K115; exact tkn_1 (F121.o).1 ((F121.o).2 (cR_l (by omega) (by omega) (by have t := B77.o; rw [G68.o.t] at t; exact t)))))⟩
  refine y_aload_n rfl rfl ?_
  refine y_gfr rfl rfl rfl rfl rfl (hH.r 891 1 890 rfl) ?_
  refine y_gfi rfl rfl rfl rfl rfl ?_
  refine y_istore_n rfl rfl rfl ?_
  refine y_aload_n rfl rfl ?_
  refine y_gfr rfl rfl rfl rfl rfl (hH.r 891 0 876 rfl) ?_
  refine y_iload_n rfl rfl ?_
  refine y_iconst rfl ?_
  refine y_iadd rfl ?_
  refine y_callV rfl rfl rfl (t_to_typeAt__p hH ((Xi S 890 3) + 3) ⟨by omega, by omega⟩ _) ?_
  rintro _ _ ⟨rfl, z181, rfl, w181, w179, w180⟩
  show Pl _ _ _ _ _ _ [iv z181] _ _
  have gq15 := w179
  clear w179
  refine y_bipush rfl rfl ?_
  refine y_icmp_ne rfl rfl (by unfold rg; omega) (by unfold rg; omega) (fun w182 => ?_) (fun w183 => ?_)
  · refine y_iconst rfl ?_
    refine y_istore_n rfl rfl rfl ?_
    refine y_iload_n rfl rfl ?_
    refine y_if_eq rfl rfl (by unfold rg; omega) (fun w184 => ?_) (fun w185 => absurd w185 (by omega))
    · refine y_iconst rfl ?_
      refine y_istore_n rfl rfl rfl ?_
      refine y_iload_n rfl rfl ?_
      refine y_if_eq rfl rfl (by unfold rg; omega) (fun w186 => ?_) (fun w187 => absurd w187 (by omega))
      · refine y_iconst rfl ?_
        refine y_istore rfl rfl rfl ?_
        refine y_iconst rfl ?_
        refine y_istore rfl rfl rfl ?_
        exact Pl_weak (C68 fu (by omega) S hH hF ((Xi S 890 3)) (0) (0) (0) (0) (by omega) (by omega) (by omega) (by omega) (by omega) (by first | exact i1 | rfl) (by first | exact i2 | (unfold ofB; first | (rw [if_pos (by omega)]) | (rw [if_neg (by omega)]))) (by first | exact i3 | (unfold tyB; first | (rw [if_pos (by omega)]) | (rw [if_neg (by omega)]))) (by first | exact i4 | (unfold tyB; first | (rw [if_pos (by omega)]) | (rw [if_neg (by omega)]))) (by omega) (by first | (have t := K123; exact G123.o.1) | exact lsu_0 hn0 hNB hf) (by first | (have t := K123; exact G123.o.2) | exact (fun i hi => absurd hi (Nat.not_lt_zero _))) (by omega) (by omega) (by omega) (by omega) (by omega)) (by omega) (And.intro rfl (And.intro rfl (And.intro rfl (And.intro rfl (And.intro rfl (And.intro rfl (True.intro)))))))
  · refine y_iconst rfl ?_
    refine y_goto rfl rfl ?_
    refine y_istore_n rfl rfl rfl ?_
    refine y_iload_n rfl rfl ?_
    refine y_if_eq rfl rfl (by unfold rg; omega) (fun w188 => absurd w188 (by omega)) (fun w189 => ?_)
    · refine y_aload_n rfl rfl ?_
      refine y_gfr rfl rfl rfl rfl rfl (hH.r 891 0 876 rfl) ?_
      refine y_iload_n rfl rfl ?_
      refine y_iconst rfl ?_
      refine y_iadd rfl ?_
      refine y_callV rfl rfl rfl (t_to_typeAt__p hH ((Xi S 890 3) + 4) ⟨by omega, by omega⟩ _) ?_
      rintro _ _ ⟨rfl, z192, rfl, w192, w190, w191⟩
      show Pl _ _ _ _ _ _ [iv z192] _ _
      have gq40 := w190
      clear w190
      refine y_bipush rfl rfl ?_
      refine y_icmp_ne rfl rfl (by unfold rg; omega) (by unfold rg; omega) (fun w193 => ?_) (fun w194 => ?_)
      · refine y_iconst rfl ?_
        refine y_istore_n rfl rfl rfl ?_
        refine y_iload_n rfl rfl ?_
        refine y_if_eq rfl rfl (by unfold rg; omega) (fun w195 => ?_) (fun w196 => absurd w196 (by omega))
        · refine y_iconst rfl ?_
          refine y_istore rfl rfl rfl ?_
          refine y_iconst rfl ?_
          refine y_istore rfl rfl rfl ?_
          exact Pl_weak (C68 fu (by omega) S hH hF ((Xi S 890 3)) (1) (0) (0) (0) (by omega) (by omega) (by omega) (by omega) (by omega) (by first | exact i1 | rfl) (by first | exact i2 | (unfold ofB; first | (rw [if_pos (by omega)]) | (rw [if_neg (by omega)]))) (by first | exact i3 | (unfold tyB; first | (rw [if_pos (by omega)]) | (rw [if_neg (by omega)]))) (by first | exact i4 | (unfold tyB; first | (rw [if_pos (by omega)]) | (rw [if_neg (by omega)]))) (by omega) (by first | (have t := K123; exact G123.o.1) | exact lsu_0 hn0 hNB hf) (by first | (have t := K123; exact G123.o.2) | exact (fun i hi => absurd hi (Nat.not_lt_zero _))) (by omega) (by omega) (by omega) (by omega) (by omega)) (by omega) (And.intro rfl (And.intro rfl (And.intro rfl (And.intro rfl (And.intro rfl (And.intro rfl (True.intro)))))))
      · refine y_iconst rfl ?_
        refine y_goto rfl rfl ?_
        refine y_istore_n rfl rfl rfl ?_
        refine y_iload_n rfl rfl ?_
        refine y_if_eq rfl rfl (by unfold rg; omega) (fun w197 => absurd w197 (by omega)) (fun w198 => ?_)
        · refine y_iconst rfl ?_
          refine y_goto rfl rfl ?_
          refine y_istore rfl rfl rfl ?_
          refine y_iconst rfl ?_
          refine y_istore rfl rfl rfl ?_
          exact Pl_weak (C68 fu (by omega) S hH hF ((Xi S 890 3)) (1) (1) (1) (0) (by omega) (by omega) (by omega) (by omega) (by omega) (by first | exact i1 | rfl) (by first | exact i2 | (unfold ofB; first | (rw [if_pos (by omega)]) | (rw [if_neg (by omega)]))) (by first | exact i3 | (unfold tyB; first | (rw [if_pos (by omega)]) | (rw [if_neg (by omega)]))) (by first | exact i4 | (unfold tyB; first | (rw [if_pos (by omega)]) | (rw [if_neg (by omega)]))) (by omega) (by first | (have t := K123; exact G123.o.1) | exact lsu_0 hn0 hNB hf) (by first | (have t := K123; exact G123.o.2) | exact (fun i hi => absurd hi (Nat.not_lt_zero _))) (by omega) (by omega) (by omega) (by omega) (by omega)) (by omega) (And.intro rfl (And.intro rfl (And.intro rfl (And.intro rfl (And.intro rfl (And.intro rfl (True.intro)))))))
abbrev Q_mo_lexOf__p (S : sS) (sort : Int) (ix : Int) : pst := fun r S1 => S = S1 ∧ (∃ z : Int, r = some (iv z) ∧ (-2147483648 ≤ z ∧ z ≤ 2147483647) ∧ (z = -1 → ∀ k : Nat, (k : Int) < Xi S 904 15 → ¬ (Xi S 914 k = sort ∧ Xi S 915 k = ix)) ∧ (z ≠ -1 → 0 ≤ z ∧ z < Xi S 904 15 ∧ Xi S 914 z.toNat = sort ∧ Xi S 915 z.toNat = ix))
set_option maxRecDepth 100000 in
theorem t_mo_lexOf__p {S : sS} (hH : RI S) (sort : Int) (ix : Int) (hsort : -2147483648 ≤ sort ∧ sort ≤ 2147483647) (hix : -2147483648 ≤ ix ∧ ix ≤ 2147483647) (h15 : 0 ≤ Xi S 904 15) (d : Nat) : Mp lay0 (d + 1) m_mo_lexOf [.ref 904, iv sort, iv ix] S (Q_mo_lexOf__p S sort ix) := by
  refine Mp_R rfl rfl (fun fu => ?_)
  have w1 : -2147483648 ≤ Xi S 904 15 ∧ Xi S 904 15 ≤ 2147483647 := Xi_rgI
  have C2 : ∀ (n2 : Nat) (_ : n2 ≤ fu) (v3 : Int), (0 ≤ v3 ∧ v3 ≤ 2147483600) → (0 ≤ v3 ∧ v3 ≤ Xi S 904 15) → (Hid (∀ k : Nat, (k : Int) < v3 → ¬ (Xi S 914 k = sort ∧ Xi S 915 k = ix))) → Pl n2 lay0 (d + 0) m_mo_lexOf 2 [(0, .ref 904), (1, iv sort), (2, iv ix), (3, iv v3)] [] S (Q_mo_lexOf__p S sort ix) := by
    intro n2
    induction n2 with
    | zero => intros; exact Pl_0
    | succ n2 ih2 =>
      intro hm2 v3 w2 w3 n2
      refine ys_iload_n rfl rfl ?_
      refine y_aload_n rfl rfl ?_
      refine y_gfi rfl rfl rfl rfl rfl ?_
      refine y_icmp_ge rfl rfl (by unfold rg; omega) (by unfold rg; omega) (fun w4 => ?_) (fun w5 => ?_)
      · refine y_iconst rfl ?_
        refine y_ireturn rfl rfl ?_
        exact ⟨rfl, _, rfl, ⟨by omega, by omega⟩, (by first | (have t := K30; exact fun q => absurd q (by omega)) | exact fun _ k hk => n2.o k (by omega)), (by first | (have t := K30; exact fun _ => ⟨by omega, by omega, by omega, by omega⟩) | exact fun q => absurd rfl q)⟩
      · refine y_aload_n rfl rfl ?_
        refine y_gfr rfl rfl rfl rfl rfl (hH.r 904 12 914 rfl) ?_
        refine y_iload_n rfl rfl ?_
        refine y_ialoadP (n := 300) rfl rfl (by unfold rg; omega) (fun w6 w7 => ?_)
        have w8 : -2147483648 ≤ (Xi S 914 ((v3).toNat)) ∧ (Xi S 914 ((v3).toNat)) ≤ 2147483647 := Xi_rgI
        refine y_iload_n rfl rfl ?_
        refine y_icmp_ne rfl rfl (by unfold rg; omega) (by unfold rg; omega) (fun w9 => ?_) (fun w10 => ?_)
        · refine y_iinc rfl rfl rfl rfl ?_
          refine y_goto rfl rfl ?_
          exact Pl_weak (ih2 (by omega) ((v3 + 1)) (by omega) (by omega) (by first | (have t := n2; exact fun k hk => by by_cases q : k = v3.toNat; (rw [q]; omega); exact n2.o k (by omega)) | exact fun k hk => absurd hk (by omega))) (by omega) (And.intro rfl (And.intro rfl (And.intro rfl (And.intro rfl (True.intro)))))
        · refine y_aload_n rfl rfl ?_
          refine y_gfr rfl rfl rfl rfl rfl (hH.r 904 13 915 rfl) ?_
          refine y_iload_n rfl rfl ?_
          refine y_ialoadP (n := 300) rfl rfl (by unfold rg; omega) (fun w11 w12 => ?_)
          have w13 : -2147483648 ≤ (Xi S 915 ((v3).toNat)) ∧ (Xi S 915 ((v3).toNat)) ≤ 2147483647 := Xi_rgI
          refine y_iload_n rfl rfl ?_
          refine y_icmp_ne rfl rfl (by unfold rg; omega) (by unfold rg; omega) (fun w14 => ?_) (fun w15 => ?_)
          · refine y_iinc rfl rfl rfl rfl ?_
            refine y_goto rfl rfl ?_
            exact Pl_weak (ih2 (by omega) ((v3 + 1)) (by omega) (by omega) (by first | (have t := n2; exact fun k hk => by by_cases q : k = v3.toNat; (rw [q]; omega); exact n2.o k (by omega)) | exact fun k hk => absurd hk (by omega))) (by omega) (And.intro rfl (And.intro rfl (And.intro rfl (And.intro rfl (True.intro)))))
          · refine y_iload_n rfl rfl ?_
            have K30 : True := trivial
            refine y_ireturn rfl rfl ?_
            exact ⟨rfl, _, rfl, ⟨by omega, by omega⟩, (by first | (have t := K30; exact fun q => absurd q (by omega)) | exact fun _ k hk => n2.o k (by omega)), (by first | (have t := K30; exact fun _ => ⟨by omega, by omega, by omega, by omega⟩) | exact fun q => absurd rfl q)⟩
  refine y_iconst rfl ?_
  refine y_istore_n rfl rfl rfl ?_
  exact Pl_weak (C2 fu (by omega) (0) (by omega) (by omega) (by first | (have t := n2; exact fun k hk => by by_cases q : k = v3.toNat; (rw [q]; omega); exact n2.o k (by omega)) | exact fun k hk => absurd hk (by omega))) (by omega) (And.intro rfl (And.intro rfl (And.intro rfl (And.intro rfl (True.intro)))))
def md_mo_doPlural__p : List rec := [(904, 905, 15, 16), (912, 913, 0, 100000), (913, 914, 0, 100000), (914, 915, 0, 100000), (915, 916, 0, 100000), (916, 917, 0, 100000)]
abbrev Q_mo_doPlural__p (S : sS) : pst := fun r S1 => RI S1 ∧ FR md_mo_doPlural__p S S1 ∧ (r = none ∧ (RD8 S S1))
set_option maxRecDepth 100000 in
theorem t_mo_doPlural__p {S : sS} (hH : RI S) (hLS : LSP S) (h15 : 0 ≤ Xi S 904 15) (hRB : RBD S) (h15b : Xi S 904 15 ≤ 100000) (d : Nat) : Mp lay0 (d + 6) m_mo_doPlural [.ref 904] S (Q_mo_doPlural__p S) := by
  refine Mp_R rfl rfl (fun fu => ?_)
  have hF : FR md_mo_doPlural__p S S := FR.rf
  have w1 : -2147483648 ≤ Xi S 904 15 ∧ Xi S 904 15 ≤ 2147483647 := Xi_rgI
  refine y_aload_n rfl rfl ?_
  refine y_iconst rfl ?_
  refine y_callV rfl rfl rfl (t_mo_kindOrPlural__p hH 0 ⟨by omega, by omega⟩ (by first | assumption | exact (by assumption : LSP S)) (by first | assumption | omega) (by first | assumption | exact (RBD_FR hF rfl (by assumption : RBD S))) _) ?_
  rintro _ _ ⟨rfl, z2, rfl, w2, f2⟩
  show Pl _ _ _ _ _ _ [iv z2] _ _
  refine y_istore_n rfl rfl rfl ?_
  refine y_iload_n rfl rfl ?_
  refine y_iconst rfl ?_
  refine y_icmp_eq rfl rfl (by unfold rg; omega) (by unfold rg; omega) (fun w3 => ?_) (fun w4 => ?_)
  · refine y_iconst rfl ?_
    refine y_istore_n rfl rfl rfl ?_
    refine y_iload_n rfl rfl ?_
    refine y_iconst rfl ?_
    refine y_icmp_eq rfl rfl (by unfold rg; omega) (by unfold rg; omega) (fun w5 => ?_) (fun w6 => ?_)
    · refine y_aload_n rfl rfl ?_
      refine y_iconst rfl ?_
      refine y_callV rfl rfl rfl (t_mo_typeOrPlural__p hH 0 ⟨by omega, by omega⟩ (by first | assumption | exact (by assumption : LSP S)) (by first | assumption | omega) (by first | assumption | exact (RBD_FR hF rfl (by assumption : RBD S))) _) ?_
      rintro _ _ ⟨rfl, z7, rfl, w7, f28⟩
      show Pl _ _ _ _ _ _ [iv z7] _ _
      refine y_istore_n rfl rfl rfl ?_
      refine y_aload_n rfl rfl ?_
      refine y_iload_n rfl rfl ?_
      refine y_iload_n rfl rfl ?_
      refine y_callV rfl rfl rfl (t_mo_lexOf__p hH 3 z7 ⟨by omega, by omega⟩ ⟨by omega, by omega⟩ (by first | assumption | omega) _) ?_
      rintro _ _ ⟨rfl, z8, rfl, w8, n35, y35⟩
      show Pl _ _ _ _ _ _ [iv z8] _ _
      have n35_ := Hid.i n35
      have y35_ := Hid.i y35
      have r35 : Hid (z8 ≠ -1 → z8 < 100000) := fun q => by have t := y35 q; omega
      have s35 : -1 ≤ z8 ∧ z8 ≤ 100000 := by by_cases q : z8 = -1; omega; (have t := y35 q; omega)
      clear n35 y35
      refine y_istore rfl rfl rfl ?_
      refine y_aload_n rfl rfl ?_
      refine y_gfi rfl rfl rfl rfl rfl ?_
      refine y_istore rfl rfl rfl ?_
      refine y_aload_n rfl rfl ?_
      refine y_iload rfl rfl ?_
      refine y_iconst rfl ?_
      refine y_icmp_ne rfl rfl (by unfold rg; omega) (by unfold rg; omega) (fun w9 => ?_) (fun w10 => ?_)
      · refine y_iload rfl rfl ?_
        have K60 : True := trivial
        refine y_pfi rfl rfl rfl rfl ?_
        obtain ⟨U1, eU1⟩ : ∃ T : sS, T = uI S 904 15 (Int32.ofInt z8) := ⟨_, rfl⟩
        rw [← eU1]
        have hHU1 : RI U1 := by rw [eU1]; exact RI_w hH
        have hFU1 : FR md_mo_doPlural__p S U1 := by rw [eU1]; exact FR.wI hF (mdf_i (r := (904, 905, 15, 16)) (List.mem_of_getElem? (i := 0) rfl) (inR_i (by omega) (by omega) (by omega) (by omega)))
        have w11 : Xi U1 904 15 = z8 := by rw [eU1]; exact Xi_same (by unfold rg; omega)
        have ee62 := eU1
        refine y_aload_n rfl rfl ?_
        refine y_iload_n rfl rfl ?_
        refine y_iload_n rfl rfl ?_
        refine y_iconst rfl ?_
        refine y_callV rfl rfl rfl (t_mo_tellRun__p hHU1 3 z7 1 ⟨by omega, by omega⟩ ⟨by omega, by omega⟩ ⟨by omega, by omega⟩ (by first | assumption | exact (RBD_FR hFU1 rfl (by assumption : RBD S))) _) ?_
        rintro _ T2 ⟨hHT2, w13, rfl, e69⟩
        have hFT2 : FR md_mo_doPlural__p S T2 := FR.tr hFU1 w13 rfl
        show Pl _ _ _ _ _ _ [] _ _
        have F69 := (by assumption : FR md_mo_tellRun__p U1 T2)
        have l69 : Xi T2 904 15 = Xi U1 904 15 + 1 := e69.2.2
        refine y_aload_n rfl rfl ?_
        refine y_iload rfl rfl ?_
        refine y_iconst rfl ?_
        refine y_icmp_ne rfl rfl (by unfold rg; omega) (by unfold rg; omega) (fun w14 => ?_) (fun w15 => ?_)
        · refine y_iload rfl rfl ?_
          refine y_pfi rfl rfl rfl rfl ?_
          obtain ⟨U3, eU3⟩ : ∃ T : sS, T = uI T2 904 15 (Int32.ofInt (Xi S 904 15)) := ⟨_, rfl⟩
          rw [← eU3]
          have hHU3 : RI U3 := by rw [eU3]; exact RI_w hHT2
          have hFU3 : FR md_mo_doPlural__p S U3 := by rw [eU3]; exact FR.wI hFT2 (mdf_i (r := (904, 905, 15, 16)) (List.mem_of_getElem? (i := 0) rfl) (inR_i (by omega) (by omega) (by omega) (by omega)))
          have w16 : Xi U3 904 15 = (Xi S 904 15) := by rw [eU3]; exact Xi_same (by unfold rg; omega)
          have W88 : Hid (∀ so ix : Int, so = 3 → ix = z7 → NMW S U3 so ix 1) := fun so ix h1 h2 => by subst h1; subst h2; exact nmw_of (w := z8) ee62 e69 eU3 (by first | (have t := K60; exact Or.inr ⟨by omega, rfl, by omega⟩) | exact Or.inl ⟨by omega, by omega, by omega⟩) n35_.o y35_.o (by omega)
          have R88 : RD8 S U3 := by first | (have t := f28; exact ⟨fun q => absurd f2.symm (by omega), fun _ => W88.o _ _ rfl f28.symm⟩) | exact ⟨fun _ => W88.o _ _ rfl f2.symm, fun q => absurd f2 (by omega)⟩
          refine y_return rfl rfl ?_
          exact ⟨hHU3, hFU3, rfl, (R88)⟩
        · exfalso; omega
      · refine y_aload_n rfl rfl ?_
        refine y_gfi rfl rfl rfl rfl rfl ?_
        refine y_goto rfl rfl ?_
        refine y_pfi rfl rfl rfl rfl ?_
        obtain ⟨U4, eU4⟩ : ∃ T : sS, T = uI S 904 15 (Int32.ofInt (Xi S 904 15)) := ⟨_, rfl⟩
        rw [← eU4]
        have hHU4 : RI U4 := by rw [eU4]; exact RI_w hH
        have hFU4 : FR md_mo_doPlural__p S U4 := by rw [eU4]; exact FR.wI hF (mdf_i (r := (904, 905, 15, 16)) (List.mem_of_getElem? (i := 0) rfl) (inR_i (by omega) (by omega) (by omega) (by omega)))
        have w17 : Xi U4 904 15 = (Xi S 904 15) := by rw [eU4]; exact Xi_same (by unfold rg; omega)
        have ee62 := eU4
        refine y_aload_n rfl rfl ?_
        refine y_iload_n rfl rfl ?_
        refine y_iload_n rfl rfl ?_
        refine y_iconst rfl ?_
        refine y_callV rfl rfl rfl (t_mo_tellRun__p hHU4 3 z7 1 ⟨by omega, by omega⟩ ⟨by omega, by omega⟩ ⟨by omega, by omega⟩ (by first | assumption | exact (RBD_FR hFU4 rfl (by assumption : RBD S))) _) ?_
        rintro _ T5 ⟨hHT5, w19, rfl, e69⟩
        have hFT5 : FR md_mo_doPlural__p S T5 := FR.tr hFU4 w19 rfl
        show Pl _ _ _ _ _ _ [] _ _
        have F69 := (by assumption : FR md_mo_tellRun__p U4 T5)
        have l69 : Xi T5 904 15 = Xi U4 904 15 + 1 := e69.2.2
        refine y_aload_n rfl rfl ?_
        refine y_iload rfl rfl ?_
        refine y_iconst rfl ?_
        refine y_icmp_ne rfl rfl (by unfold rg; omega) (by unfold rg; omega) (fun w20 => ?_) (fun w21 => ?_)
        · exfalso; omega
        · refine y_aload_n rfl rfl ?_
          refine y_gfi rfl rfl rfl rfl rfl ?_
          have w22 : -2147483648 ≤ (Xi T5 904 15) ∧ (Xi T5 904 15) ≤ 2147483647 := Xi_rgI
          refine y_goto rfl rfl ?_
          refine y_pfi rfl rfl rfl rfl ?_
          obtain ⟨U6, eU6⟩ : ∃ T : sS, T = uI T5 904 15 (Int32.ofInt (Xi T5 904 15)) := ⟨_, rfl⟩
          rw [← eU6]
          have hHU6 : RI U6 := by rw [eU6]; exact RI_w hHT5
          have hFU6 : FR md_mo_doPlural__p S U6 := by rw [eU6]; exact FR.wI hFT5 (mdf_i (r := (904, 905, 15, 16)) (List.mem_of_getElem? (i := 0) rfl) (inR_i (by omega) (by omega) (by omega) (by omega)))
          have w23 : Xi U6 904 15 = (Xi T5 904 15) := by rw [eU6]; exact Xi_same (by unfold rg; omega)
          have W88 : Hid (∀ so ix : Int, so = 3 → ix = z7 → NMW S U6 so ix 1) := fun so ix h1 h2 => by subst h1; subst h2; exact nmw_of (w := z8) ee62 e69 eU6 (by first | (have t := K60; exact Or.inr ⟨by omega, rfl, by omega⟩) | exact Or.inl ⟨by omega, by omega, by omega⟩) n35_.o y35_.o (by omega)
          have R88 : RD8 S U6 := by first | (have t := f28; exact ⟨fun q => absurd f2.symm (by omega), fun _ => W88.o _ _ rfl f28.symm⟩) | exact ⟨fun _ => W88.o _ _ rfl f2.symm, fun q => absurd f2 (by omega)⟩
          refine y_return rfl rfl ?_
          exact ⟨hHU6, hFU6, rfl, (R88)⟩
    · exfalso; omega
  · refine y_iconst rfl ?_
    refine y_goto rfl rfl ?_
    refine y_istore_n rfl rfl rfl ?_
    refine y_iload_n rfl rfl ?_
    refine y_iconst rfl ?_
    refine y_icmp_eq rfl rfl (by unfold rg; omega) (by unfold rg; omega) (fun w24 => ?_) (fun w25 => ?_)
    · exfalso; omega
    · refine y_iload_n rfl rfl ?_
      refine y_goto rfl rfl ?_
      refine y_istore_n rfl rfl rfl ?_
      refine y_aload_n rfl rfl ?_
      refine y_iload_n rfl rfl ?_
      refine y_iload_n rfl rfl ?_
      refine y_callV rfl rfl rfl (t_mo_lexOf__p hH 1 z2 ⟨by omega, by omega⟩ ⟨by omega, by omega⟩ (by first | assumption | omega) _) ?_
      rintro _ _ ⟨rfl, z26, rfl, w26, n35, y35⟩
      show Pl _ _ _ _ _ _ [iv z26] _ _
      have n35_ := Hid.i n35
      have y35_ := Hid.i y35
      have r35 : Hid (z26 ≠ -1 → z26 < 100000) := fun q => by have t := y35 q; omega
      have s35 : -1 ≤ z26 ∧ z26 ≤ 100000 := by by_cases q : z26 = -1; omega; (have t := y35 q; omega)
      clear n35 y35
      refine y_istore rfl rfl rfl ?_
      refine y_aload_n rfl rfl ?_
      refine y_gfi rfl rfl rfl rfl rfl ?_
      refine y_istore rfl rfl rfl ?_
      refine y_aload_n rfl rfl ?_
      refine y_iload rfl rfl ?_
      refine y_iconst rfl ?_
      refine y_icmp_ne rfl rfl (by unfold rg; omega) (by unfold rg; omega) (fun w27 => ?_) (fun w28 => ?_)
      · refine y_iload rfl rfl ?_
        have K60 : True := trivial
        refine y_pfi rfl rfl rfl rfl ?_
        obtain ⟨U7, eU7⟩ : ∃ T : sS, T = uI S 904 15 (Int32.ofInt z26) := ⟨_, rfl⟩
        rw [← eU7]
        have hHU7 : RI U7 := by rw [eU7]; exact RI_w hH
        have hFU7 : FR md_mo_doPlural__p S U7 := by rw [eU7]; exact FR.wI hF (mdf_i (r := (904, 905, 15, 16)) (List.mem_of_getElem? (i := 0) rfl) (inR_i (by omega) (by omega) (by omega) (by omega)))
        have w29 : Xi U7 904 15 = z26 := by rw [eU7]; exact Xi_same (by unfold rg; omega)
        have ee62 := eU7
        refine y_aload_n rfl rfl ?_
        refine y_iload_n rfl rfl ?_
        refine y_iload_n rfl rfl ?_
        refine y_iconst rfl ?_
        refine y_callV rfl rfl rfl (t_mo_tellRun__p hHU7 1 z2 1 ⟨by omega, by omega⟩ ⟨by omega, by omega⟩ ⟨by omega, by omega⟩ (by first | assumption | exact (RBD_FR hFU7 rfl (by assumption : RBD S))) _) ?_
        rintro _ T8 ⟨hHT8, w31, rfl, e69⟩
        have hFT8 : FR md_mo_doPlural__p S T8 := FR.tr hFU7 w31 rfl
        show Pl _ _ _ _ _ _ [] _ _
        have F69 := (by assumption : FR md_mo_tellRun__p U7 T8)
        have l69 : Xi T8 904 15 = Xi U7 904 15 + 1 := e69.2.2
        refine y_aload_n rfl rfl ?_
        refine y_iload rfl rfl ?_
        refine y_iconst rfl ?_
        refine y_icmp_ne rfl rfl (by unfold rg; omega) (by unfold rg; omega) (fun w32 => ?_) (fun w33 => ?_)
        · refine y_iload rfl rfl ?_
          refine y_pfi rfl rfl rfl rfl ?_
          obtain ⟨U9, eU9⟩ : ∃ T : sS, T = uI T8 904 15 (Int32.ofInt (Xi S 904 15)) := ⟨_, rfl⟩
          rw [← eU9]
          have hHU9 : RI U9 := by rw [eU9]; exact RI_w hHT8
          have hFU9 : FR md_mo_doPlural__p S U9 := by rw [eU9]; exact FR.wI hFT8 (mdf_i (r := (904, 905, 15, 16)) (List.mem_of_getElem? (i := 0) rfl) (inR_i (by omega) (by omega) (by omega) (by omega)))
          have w34 : Xi U9 904 15 = (Xi S 904 15) := by rw [eU9]; exact Xi_same (by unfold rg; omega)
          have W88 : Hid (∀ so ix : Int, so = 1 → ix = z2 → NMW S U9 so ix 1) := fun so ix h1 h2 => by subst h1; subst h2; exact nmw_of (w := z26) ee62 e69 eU9 (by first | (have t := K60; exact Or.inr ⟨by omega, rfl, by omega⟩) | exact Or.inl ⟨by omega, by omega, by omega⟩) n35_.o y35_.o (by omega)
          have R88 : RD8 S U9 := by first | (have t := f28; exact ⟨fun q => absurd f2.symm (by omega), fun _ => W88.o _ _ rfl f28.symm⟩) | exact ⟨fun _ => W88.o _ _ rfl f2.symm, fun q => absurd f2 (by omega)⟩
          refine y_return rfl rfl ?_
          exact ⟨hHU9, hFU9, rfl, (R88)⟩
        · exfalso; omega
      · refine y_aload_n rfl rfl ?_
        refine y_gfi rfl rfl rfl rfl rfl ?_
        refine y_goto rfl rfl ?_
        refine y_pfi rfl rfl rfl rfl ?_
        obtain ⟨U10, eU10⟩ : ∃ T : sS, T = uI S 904 15 (Int32.ofInt (Xi S 904 15)) := ⟨_, rfl⟩
        rw [← eU10]
        have hHU10 : RI U10 := by rw [eU10]; exact RI_w hH
        have hFU10 : FR md_mo_doPlural__p S U10 := by rw [eU10]; exact FR.wI hF (mdf_i (r := (904, 905, 15, 16)) (List.mem_of_getElem? (i := 0) rfl) (inR_i (by omega) (by omega) (by omega) (by omega)))
        have w35 : Xi U10 904 15 = (Xi S 904 15) := by rw [eU10]; exact Xi_same (by unfold rg; omega)
        have ee62 := eU10
        refine y_aload_n rfl rfl ?_
        refine y_iload_n rfl rfl ?_
        refine y_iload_n rfl rfl ?_
        refine y_iconst rfl ?_
        refine y_callV rfl rfl rfl (t_mo_tellRun__p hHU10 1 z2 1 ⟨by omega, by omega⟩ ⟨by omega, by omega⟩ ⟨by omega, by omega⟩ (by first | assumption | exact (RBD_FR hFU10 rfl (by assumption : RBD S))) _) ?_
        rintro _ T11 ⟨hHT11, w37, rfl, e69⟩
        have hFT11 : FR md_mo_doPlural__p S T11 := FR.tr hFU10 w37 rfl
        show Pl _ _ _ _ _ _ [] _ _
        have F69 := (by assumption : FR md_mo_tellRun__p U10 T11)
        have l69 : Xi T11 904 15 = Xi U10 904 15 + 1 := e69.2.2
        refine y_aload_n rfl rfl ?_
        refine y_iload rfl rfl ?_
        refine y_iconst rfl ?_
        refine y_icmp_ne rfl rfl (by unfold rg; omega) (by unfold rg; omega) (fun w38 => ?_) (fun w39 => ?_)
        · exfalso; omega
        · refine y_aload_n rfl rfl ?_
          refine y_gfi rfl rfl rfl rfl rfl ?_
          have w40 : -2147483648 ≤ (Xi T11 904 15) ∧ (Xi T11 904 15) ≤ 2147483647 := Xi_rgI
          refine y_goto rfl rfl ?_
          refine y_pfi rfl rfl rfl rfl ?_
          obtain ⟨U12, eU12⟩ : ∃ T : sS, T = uI T11 904 15 (Int32.ofInt (Xi T11 904 15)) := ⟨_, rfl⟩
          rw [← eU12]
          have hHU12 : RI U12 := by rw [eU12]; exact RI_w hHT11
          have hFU12 : FR md_mo_doPlural__p S U12 := by rw [eU12]; exact FR.wI hFT11 (mdf_i (r := (904, 905, 15, 16)) (List.mem_of_getElem? (i := 0) rfl) (inR_i (by omega) (by omega) (by omega) (by omega)))
          have w41 : Xi U12 904 15 = (Xi T11 904 15) := by rw [eU12]; exact Xi_same (by unfold rg; omega)
          have W88 : Hid (∀ so ix : Int, so = 1 → ix = z2 → NMW S U12 so ix 1) := fun so ix h1 h2 => by subst h1; subst h2; exact nmw_of (w := z26) ee62 e69 eU12 (by first | (have t := K60; exact Or.inr ⟨by omega, rfl, by omega⟩) | exact Or.inl ⟨by omega, by omega, by omega⟩) n35_.o y35_.o (by omega)
          have R88 : RD8 S U12 := by first | (have t := f28; exact ⟨fun q => absurd f2.symm (by omega), fun _ => W88.o _ _ rfl f28.symm⟩) | exact ⟨fun _ => W88.o _ _ rfl f2.symm, fun q => absurd f2 (by omega)⟩
          refine y_return rfl rfl ?_
          exact ⟨hHU12, hFU12, rfl, (R88)⟩
def md_mo_does__8 : List rec := [(904, 905, 15, 16), (904, 905, 16, 17), (904, 905, 18, 19), (904, 905, 19, 20), (904, 905, 23, 24), (904, 905, 30, 31), (904, 905, 32, 33), (904, 905, 41, 42), (904, 905, 47, 48), (904, 905, 49, 50), (904, 905, 51, 52), (904, 905, 55, 56), (904, 905, 60, 61), (904, 905, 64, 65), (904, 905, 73, 74), (904, 905, 105, 106), (904, 905, 106, 107), (904, 905, 113, 114), (904, 905, 117, 118), (912, 913, 0, 100000), (913, 914, 0, 100000), (914, 915, 0, 100000), (915, 916, 0, 100000), (916, 917, 0, 100000), (917, 918, 0, 100000), (918, 919, 0, 100000), (919, 920, 0, 100000), (920, 921, 0, 100000), (921, 922, 0, 100000), (922, 923, 0, 100000), (923, 924, 0, 100000), (924, 925, 0, 100000), (925, 926, 0, 100000), (926, 927, 0, 100000), (927, 928, 0, 100000), (928, 929, 0, 100000), (929, 930, 0, 100000), (930, 931, 0, 100000), (931, 932, 0, 100000), (932, 933, 0, 100000), (933, 934, 0, 100000), (934, 935, 0, 100000), (935, 936, 0, 100000), (936, 937, 0, 100000), (937, 938, 0, 100000), (938, 939, 0, 100000), (939, 940, 0, 100000), (940, 941, 0, 100000), (941, 942, 0, 100000), (942, 943, 0, 100000), (943, 944, 0, 100000), (944, 945, 0, 100000), (945, 946, 0, 100000), (946, 947, 0, 100000), (947, 948, 0, 100000), (948, 949, 0, 100000), (949, 950, 0, 100000)]
abbrev Q_mo_does__8 (S : sS) (first : Int) : pst := fun r S1 => RI S1 ∧ FR md_mo_does__8 S S1 ∧ (r = none ∧ (RD8 S S1))
set_option maxRecDepth 100000 in
theorem t_mo_does__8 {S : sS} (hH : RI S) (first : Int) (hfirst : 0 ≤ first ∧ first ≤ 5001) (hLS : LSP S) (h15 : 0 ≤ Xi S 904 15) (hRB : RBD S) (hs : Xi S 904 70 = 8) (h15b : Xi S 904 15 ≤ 100000) (d : Nat) : Mp lay0 (d + 8) m_mo_does [.ref 904, iv first] S (Q_mo_does__8 S first) := by
  refine Mp_R rfl rfl (fun fu => ?_)
  have hF : FR md_mo_does__8 S S := FR.rf
  have w1 : -2147483648 ≤ Xi S 904 15 ∧ Xi S 904 15 ≤ 2147483647 := Xi_rgI
  have w2 : -2147483648 ≤ Xi S 904 70 ∧ Xi S 904 70 ≤ 2147483647 := Xi_rgI
  have C300 : ∀ (n300 : Nat) (_ : n300 ≤ fu) (T1 : sS) (_ : RI T1) (_ : FR md_mo_does__8 S T1) (v2 : Int), (-2147483648 ≤ v2 ∧ v2 ≤ 2147483647) → ((1 : Int) = 0) → Pl n300 lay0 (d + 7) m_mo_does 300 [(0, .ref 904), (2, iv v2)] [] T1 (Q_mo_does__8 S first) := by
    intro n300
    induction n300 with
    | zero => intros; exact Pl_0
    | succ n300 ih300 =>
      intro hm300 T1 hHT1 hFT1 v2 w3 w4
      have w5 : Xi T1 904 110 = Xi S 904 110 := hFT1.x _ _ rfl
      have w6 : Xi T1 904 112 = Xi S 904 112 := hFT1.x _ _ rfl
      have w7 : Xi T1 904 142 = Xi S 904 142 := hFT1.x _ _ rfl
      have w8 : Xi T1 904 69 = Xi S 904 69 := hFT1.x _ _ rfl
      have w9 : Xi T1 904 70 = Xi S 904 70 := hFT1.x _ _ rfl
      have w10 : Xi T1 904 71 = Xi S 904 71 := hFT1.x _ _ rfl
      have w11 : Xi T1 904 72 = Xi S 904 72 := hFT1.x _ _ rfl
      have w12 : Xi T1 904 74 = Xi S 904 74 := hFT1.x _ _ rfl
      have w13 : Xi T1 904 78 = Xi S 904 78 := hFT1.x _ _ rfl
      have w14 : Xi T1 904 94 = Xi S 904 94 := hFT1.x _ _ rfl
      have w15 : Xi T1 951 1 = Xi S 951 1 := hFT1.x _ _ rfl
      have w16 : Xi T1 951 2 = Xi S 951 2 := hFT1.x _ _ rfl
      have w17 : Xi T1 967 0 = Xi S 967 0 := hFT1.x _ _ rfl
      have w18 : -2147483648 ≤ Xi T1 904 15 ∧ Xi T1 904 15 ≤ 2147483647 := Xi_rgI
      have w19 : -2147483648 ≤ Xi T1 904 70 ∧ Xi T1 904 70 ≤ 2147483647 := Xi_rgI
      exfalso; omega
  refine y_aload_n rfl rfl ?_
  refine y_gfi rfl rfl rfl rfl rfl ?_
  refine y_tsw rfl rfl rfl rfl (by unfold rg; omega) (fun w20 => ?_) (fun ii tt hii w20 => ?_)
  · refine y_return rfl rfl ?_
    exact ⟨hH, hF, rfl, (by first | (have t := K278; exact o278) | (exfalso; omega))⟩
  · match ii, hii with
    | 0, hii =>
      cases hii
      have w21 : (Xi S 904 70) = 0 := by simpa using w20
      exfalso; omega
    | 1, hii =>
      cases hii
      have w22 : (Xi S 904 70) = 1 := by simpa using w20
      exfalso; omega
    | 2, hii =>
      cases hii
      have w23 : (Xi S 904 70) = 2 := by simpa using w20
      exfalso; omega
    | 3, hii =>
      cases hii
      have w24 : (Xi S 904 70) = 3 := by simpa using w20
      refine y_return rfl rfl ?_
      exact ⟨hH, hF, rfl, (by first | (have t := K278; exact o278) | (exfalso; omega))⟩
    | 4, hii =>
      cases hii
      have w25 : (Xi S 904 70) = 4 := by simpa using w20
      refine y_return rfl rfl ?_
      exact ⟨hH, hF, rfl, (by first | (have t := K278; exact o278) | (exfalso; omega))⟩
    | 5, hii =>
      cases hii
      have w26 : (Xi S 904 70) = 5 := by simpa using w20
      refine y_return rfl rfl ?_
      exact ⟨hH, hF, rfl, (by first | (have t := K278; exact o278) | (exfalso; omega))⟩
    | 6, hii =>
      cases hii
      have w27 : (Xi S 904 70) = 6 := by simpa using w20
      refine y_return rfl rfl ?_
      exact ⟨hH, hF, rfl, (by first | (have t := K278; exact o278) | (exfalso; omega))⟩
    | 7, hii =>
      cases hii
      have w28 : (Xi S 904 70) = 7 := by simpa using w20
      exfalso; omega
    | 8, hii =>
      cases hii
      have w29 : (Xi S 904 70) = 8 := by simpa using w20
      refine y_aload_n rfl rfl ?_
      refine y_callV rfl rfl rfl (t_mo_doPlural__p hH (by first | assumption | exact (by assumption : LSP S)) (by first | assumption | omega) (by first | assumption | exact (RBD_FR hF rfl (by assumption : RBD S))) (by first | assumption | omega) _) ?_
      rintro _ T2 ⟨hHT2, w31, rfl, o278⟩
      have hFT2 : FR md_mo_does__8 S T2 := FR.tr hF w31 rfl
      show Pl _ _ _ _ _ _ [] _ _
      have K278 : True := trivial
      refine y_goto rfl rfl ?_
      refine y_return rfl rfl ?_
      exact ⟨hHT2, hFT2, rfl, (by first | (have t := K278; exact o278) | (exfalso; omega))⟩
    | 9, hii =>
      cases hii
      have w33 : (Xi S 904 70) = 9 := by simpa using w20
      exfalso; omega
    | 10, hii =>
      cases hii
      have w34 : (Xi S 904 70) = 10 := by simpa using w20
      exfalso; omega
    | 11, hii =>
      cases hii
      have w35 : (Xi S 904 70) = 11 := by simpa using w20
      exfalso; omega
    | 12, hii =>
      cases hii
      have w36 : (Xi S 904 70) = 12 := by simpa using w20
      exfalso; omega
    | 13, hii =>
      cases hii
      have w37 : (Xi S 904 70) = 13 := by simpa using w20
      exfalso; omega
    | 14, hii =>
      cases hii
      have w38 : (Xi S 904 70) = 14 := by simpa using w20
      exfalso; omega
    | 15, hii =>
      cases hii
      have w39 : (Xi S 904 70) = 15 := by simpa using w20
      exfalso; omega
    | 16, hii =>
      cases hii
      have w40 : (Xi S 904 70) = 16 := by simpa using w20
      exfalso; omega
    | 17, hii =>
      cases hii
      have w41 : (Xi S 904 70) = 17 := by simpa using w20
      exfalso; omega
    | 18, hii =>
      cases hii
      have w42 : (Xi S 904 70) = 18 := by simpa using w20
      exfalso; omega
    | 19, hii =>
      cases hii
      have w43 : (Xi S 904 70) = 19 := by simpa using w20
      exfalso; omega
    | 20, hii =>
      cases hii
      have w44 : (Xi S 904 70) = 20 := by simpa using w20
      exfalso; omega
    | n + 21, hii => exact absurd hii (by simp)
end
