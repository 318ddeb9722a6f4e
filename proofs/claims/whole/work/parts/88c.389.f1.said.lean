section
section
/-! COMMANDS: the words that are typed (reference) -/
def sdW (S : sS) (x : Int × Int) : Int := c32 (Xi S 905) x.1.toNat (x.2 - x.1).toNat
def ISC (S T : sS) (to p : Int) : Prop := ∃ L : List (Int × Int), WLp (Xi S 905) to 0 L p ∧ L.length ≤ 50 ∧ Xi T 904 164 = L.length ∧ ∀ i : Nat, i < L.length → Xj T 995 i = sdW S (L.getD i (0, 0))
def ISO7 (S S1 : sS) (n z : Int) : Prop := (z = 1 → ISC S S1 n n) ∧ (z = 0 → ∃ (L : List (Int × Int)) (p : Int), WLp (Xi S 905) n 0 L p ∧ p < n ∧ Xi S 905 p.toNat ≠ 32 ∧ (we7 (Xi S 905) n p = p ∨ 12 < we7 (Xi S 905) n p - p ∨ L.length = 50))
theorem isc_0 {S T : sS} {to : Int} (h : 0 ≤ to) (e : T = uI S 904 164 (Int32.ofInt 0)) : ISC S T to 0 := by sorry
theorem isc_b {S T : sS} {to p : Int} (h : ISC S T to p) (hp : p < to) (hb : Xi S 905 p.toNat = 32) : ISC S T to (p + 1) := by sorry
theorem isc_w {S T P U : sS} {to p e w : Int} (h : ISC S T to p) (hp : p < to) (hb : Xi S 905 p.toNat ≠ 32) (he : e = we7 (Xi S 905) to p) (hn : e ≠ p) (h12 : e - p ≤ 12) (ht : e ≤ to) (h50 : Xi T 904 164 ≠ 50) (hw : w = c32 (Xi S 905) p.toNat (e - p).toNat) (hr : rgL w) (e1 : P = uJ T 995 (Xi T 904 164).toNat (Int64.ofInt w)) (e2 : U = uI P 904 164 (Int32.ofInt (Xi T 904 164 + 1))) : ISC S U to e := by sorry
theorem iso_y {S T : sS} {n p z : Int} (h : ISC S T n p) (hp : p = n) (hz : z = 1) : ISO7 S T n z := by sorry
theorem iso_n {S T U : sS} {n p e z : Int} (h : ISC S T n p) (hp : p < n) (hb : Xi S 905 p.toNat ≠ 32) (he : e = we7 (Xi S 905) n p) (hx : e = p ∨ 12 < e - p ∨ Xi T 904 164 = 50) (hz : z = 0) : ISO7 S U n z := by sorry
def md_mo_isSaid__p : List rec := [(904, 905, 164, 165), (995, 996, 0, 100000)]
abbrev Q_mo_isSaid__p (S : sS) : pst := fun r S1 => RI S1 ∧ FR md_mo_isSaid__p S S1 ∧ (∃ z : Int, r = some (iv z) ∧ (0 ≤ z ∧ z ≤ 1) ∧ (ISO7 S S1 (Xi S 904 1) z))
set_option maxRecDepth 100000 in
theorem t_mo_isSaid__p {S : sS} (hH : RI S) (hb5 : BYT S 905) (h1r : 0 ≤ Xi S 904 1 ∧ Xi S 904 1 ≤ 5000) (d : Nat) : Mp lay0 (d + 4) m_mo_isSaid [.ref 904] S (Q_mo_isSaid__p S) := by sorry
end
section
/-! COMMANDS: the words that are typed, in both -/
theorem wlq_p {B : Nat → Int} {to : Int} : ∀ (L : List (Int × Int)) (a p : Int), WLp B to a L p → WLq B to a L p := by sorry
theorem wlq_c {B C : Nat → Int} {to : Int} (be : BE B C to) : ∀ (L : List (Int × Int)) (a p : Int), 0 ≤ a → WLq B to a L p → WLq C to a L p := by sorry
/-- both go along the same words: the one that stands at a word of the other has gone as far -/
theorem wlq_x {B : Nat → Int} {to p : Int} (hp : p < to) (hb : B p.toNat ≠ 32) : ∀ (L L' : List (Int × Int)) (a : Int), WLq B to a L p → WLq B to a L' to → L.length < L'.length ∧ (∀ i : Nat, i < L.length → L'.getD i (0, 0) = L.getD i (0, 0)) ∧ L'.getD L.length (0, 0) = (p, we7 B to p) ∧ we7 B to p ≠ p := by sorry
theorem wlq_t {B : Nat → Int} {to : Int} : ∀ (L L' : List (Int × Int)) (a : Int), WLq B to a L to → WLq B to a L' to → L = L' := by sorry
/-- what both have of the words -/
theorem typ_s {U U1 S S1 : sS} {t : Nat} {n z y : Int} (be : BE (Xi U t) (Xi S 905) n) (n0 : 0 ≤ n) (hz : z = 0 ∨ z = 1) (hy : y = 0 ∨ y = 1) (c : TYO U U1 t n z) (r : ISO7 S S1 n y) : (y = 1 → z = 1 ∧ (Xi U1 882 12 = Xi S1 904 164 ∧ 0 ≤ Xi U1 882 12 ∧ Xi U1 882 12 ≤ 50) ∧ ∀ i : Nat, (i : Int) < Xi U1 882 12 → wdC (Xj U1 889 i) ∧ Xj S1 995 i = cv (Xj U1 889 i)) ∧ (y = 0 → z = 1 → ∃ i : Nat, (i : Int) < Xi U1 882 12 ∧ Xj U1 889 i = -1) := by sorry
end
section
/-- the noun that is meant fits the gap's kind -/
def FGK (S : sS) (kd mt : Int) : Prop := (kd = -2 → mt / 256 = 14) ∧ (kd ≠ -2 → mt / 256 = 2 ∧ isK S (Xi S 21 (mt % 256).toNat) kd = 1)
/-- what fitsGap leaves -/
def FTG (S S1 : sS) (z kd mt : Int) : Prop := S1 = uI S 882 13 (Int32.ofInt (mt % 256)) ∧ (z = 1 → FGK S kd mt) ∧ (z = 0 → ¬ FGK S kd mt)
theorem ftg_d {S S1 : sS} {z kd mt : Int} (e : S1 = uI S 882 13 (Int32.ofInt (mt % 256))) (k : kd = -2) (h : z = 1 → mt / 256 = 14) (h' : z = 0 → mt / 256 ≠ 14) : FTG S S1 z kd mt := by sorry
theorem ftg_n {S S1 : sS} {z kd mt : Int} (e : S1 = uI S 882 13 (Int32.ofInt (mt % 256))) (k : kd ≠ -2) (h : mt / 256 ≠ 2) (hz : z = 0) : FTG S S1 z kd mt := by sorry
theorem ftg_o {S S1 : sS} {z kd mt w : Int} (e : S1 = uI S 882 13 (Int32.ofInt (mt % 256))) (k : kd ≠ -2) (h : mt / 256 = 2) (hw : w = isK S (Xi S 21 (mt % 256).toNat) kd) (h1 : z = 1 → w = 1) (h0 : z = 0 → w ≠ 1) : FTG S S1 z kd mt := by sorry
/-- where the gap begins; a command without a gap: its end -/
def fst7 (S : sS) (i : Int) : Int := if Xi S 885 i.toNat = -1 then Xi S 884 i.toNat else Xi S 885 i.toNat
/-- as many words as the command asks for -/
def FOK (S : sS) (i : Int) : Prop := (Xi S 885 i.toNat = -1 → Xi S 882 12 = Xi S 884 i.toNat) ∧ (Xi S 885 i.toNat ≠ -1 → Xi S 884 i.toNat ≤ Xi S 882 12 ∧ Xi S 882 12 < Xi S 884 i.toNat + 3)
/-- the words below m, but for the gap, are typed -/
def FWD (S : sS) (i m : Int) : Prop := ∀ k : Int, 0 ≤ k → k < m → k ≠ Xi S 885 i.toNat → Xj S 887 (i * 8 + k).toNat = Xj S 889 (if k < fst7 S i then k else k + (Xi S 882 12 - Xi S 884 i.toNat)).toNat
/-- what is typed in the gap -/
def mt7 (S : sS) (i : Int) : Int := mnR S 889 (Xi S 885 i.toNat).toNat (Xi S 882 12 - Xi S 884 i.toNat + 1).toNat
def FTR (S : sS) (i : Int) : Prop := FOK S i ∧ FWD S i (Xi S 884 i.toNat) ∧ (Xi S 885 i.toNat ≠ -1 → FGK S (Xi S 886 i.toNat) (mt7 S i))
def FTC (S S1 : sS) (z i : Int) : Prop := (z = 1 → FTR S i ∧ Xi S1 882 13 = (if Xi S 885 i.toNat = -1 then -1 else mt7 S i % 256)) ∧ (z = 0 → ¬ FTR S i)
theorem fwd_0 {S : sS} {i : Int} : FWD S i 0 := by sorry
theorem fwd_e {S : sS} {i v w : Int} (h : FWD S i v) (e : v = w) : FWD S i w := by sorry
theorem fwd_g {S : sS} {i v : Int} (h : FWD S i v) (e : v = Xi S 885 i.toNat) : FWD S i (v + 1) := by sorry
theorem fwd_a {S : sS} {i v : Int} (h : FWD S i v) (hv : v < fst7 S i) (e : Xj S 887 (i * 8 + v).toNat = Xj S 889 v.toNat) : FWD S i (v + 1) := by sorry
theorem fwd_b {S : sS} {i v : Int} (h : FWD S i v) (hv : ¬ v < fst7 S i) (e : Xj S 887 (i * 8 + v).toNat = Xj S 889 (v + (Xi S 882 12 - Xi S 884 i.toNat)).toNat) : FWD S i (v + 1) := by sorry
theorem ftr_a {S : sS} {i v : Int} (h0 : 0 ≤ v) (h1 : v < Xi S 884 i.toNat) (hg : v ≠ Xi S 885 i.toNat) (hv : v < fst7 S i) (e : Xj S 887 (i * 8 + v).toNat ≠ Xj S 889 v.toNat) : ¬ FTR S i := by sorry
theorem ftr_b {S : sS} {i v : Int} (h0 : 0 ≤ v) (h1 : v < Xi S 884 i.toNat) (hg : v ≠ Xi S 885 i.toNat) (hv : ¬ v < fst7 S i) (e : Xj S 887 (i * 8 + v).toNat ≠ Xj S 889 (v + (Xi S 882 12 - Xi S 884 i.toNat)).toNat) : ¬ FTR S i := by sorry
theorem mnR_9 {S T : sS} (e1 : Xi T 1 3 = Xi S 1 3) (c : ∀ k : Nat, k = 2 ∨ k = 3 ∨ k = 4 ∨ k = 889 → ∀ j, Xi T k j = Xi S k j ∧ Xj T k j = Xj S k j) (f n : Nat) : mnR T 889 f n = mnR S 889 f n := by sorry
theorem fgk_e {S T : sS} {w : Int} (E : T = uI S 882 13 (Int32.ofInt w)) {kd mt : Int} : FGK T kd mt ↔ FGK S kd mt := by sorry
theorem ftc_g {S T S1 : sS} {z i kd mt w : Int} (E : T = uI S 882 13 (Int32.ofInt w)) (m : mt = mt7 S i) (k : kd = Xi S 886 i.toNat) (o : FTG T S1 z kd mt) (O : FOK S i) (W : FWD S i (Xi S 884 i.toNat)) (g : Xi S 885 i.toNat ≠ -1) : FTC S S1 z i := by sorry
theorem ftc_p {S S1 : sS} {z i : Int} (E : S1 = uI S 882 13 (Int32.ofInt (-1))) (O : FOK S i) (W : FWD S i (Xi S 884 i.toNat)) (g : Xi S 885 i.toNat = -1) (hz : z = 1) : FTC S S1 z i := by sorry
theorem ftc_n {S S1 : sS} {z i : Int} (n : ¬ FTR S i) (hz : z = 0) : FTC S S1 z i := by sorry
def md_co_fitsGap__p : List rec := [(882, 883, 13, 14)]
abbrev Q_co_fitsGap__p (S : sS) (kind : Int) (meant : Int) : pst := fun r S1 => RI S1 ∧ FR md_co_fitsGap__p S S1 ∧ (∃ z : Int, r = some (iv z) ∧ (0 ≤ z ∧ z ≤ 1) ∧ (FTG S S1 z kind meant))
set_option maxRecDepth 100000 in
theorem t_co_fitsGap__p {S : sS} (hH : RI S) (kind : Int) (meant : Int) (hkind : -2147483648 ≤ kind ∧ kind ≤ 2147483647) (hmeant : -2147483648 ≤ meant ∧ meant ≤ 2147483647) (d : Nat) : Mp lay0 (d + 3) m_co_fitsGap [.ref 882, iv kind, iv meant] S (Q_co_fitsGap__p S kind meant) := by sorry
def md_co_fits__p : List rec := [(882, 883, 13, 14)]
abbrev Q_co_fits__p (S : sS) (i : Int) : pst := fun r S1 => RI S1 ∧ FR md_co_fits__p S S1 ∧ (∃ z : Int, r = some (iv z) ∧ (0 ≤ z ∧ z ≤ 1) ∧ (FTC S S1 z i))
set_option maxRecDepth 100000 in
theorem t_co_fits__p {S : sS} (hH : RI S) (i : Int) (hi : 0 ≤ i ∧ i ≤ 19) (h13 : 0 ≤ Xi S 1 3 ∧ Xi S 1 3 ≤ 200) (hCE : CEN S) (hg : Xi S 885 i.toNat = -1 ∨ (0 ≤ Xi S 885 i.toNat ∧ Xi S 885 i.toNat < Xi S 884 i.toNat)) (hn : 0 ≤ Xi S 882 12 ∧ Xi S 882 12 ≤ 50) (hsz : 0 ≤ Xi S 884 i.toNat ∧ Xi S 884 i.toNat ≤ 8) (d : Nat) : Mp lay0 (d + 4) m_co_fits [.ref 882, iv i] S (Q_co_fits__p S i) := by sorry
end
section
/-- how many words stand in the gap -/
def fqm (S : sS) (c : Int) : Int := 1 + (Xi S 904 164 - Xi S 947 c.toNat)
/-- what is found for the words in the gap -/
noncomputable def fqe (S : sS) (c a : Int) : Int := fdR S (Xj S 995 a.toNat) (if 1 < fqm S c then Xj S 995 (a + 1).toNat else 0) (if 2 < fqm S c then Xj S 995 (a + 2).toNat else 0) (fqm S c) (Xi S 904 15).toNat
def FQE (S : sS) (c e : Int) : Prop := e ≠ -1 ∧ (Xi S 949 c.toNat = -2 → Xi S 914 e.toNat = 12) ∧ (Xi S 949 c.toNat ≠ -2 → Xi S 914 e.toNat = 4 ∧ blR S (Xi S 918 (Xi S 915 e.toNat).toNat) (Xi S 949 c.toNat) ≠ 0)
def FQS (S : sS) (c : Int) (j : Nat) (a n a' n' : Int) : Prop :=
  (Xj S 948 (8 * c + j).toNat ≠ 0 → a < Xi S 904 164 ∧ Xj S 995 a.toNat = Xj S 948 (8 * c + j).toNat ∧ a' = a + 1 ∧ n' = n) ∧
  (Xj S 948 (8 * c + j).toNat = 0 → (1 ≤ fqm S c ∧ fqm S c ≤ 3 ∧ a + fqm S c ≤ Xi S 904 164) ∧ FQE S c (fqe S c a) ∧ a' = a + fqm S c ∧ n' = Xi S 915 (fqe S c a).toNat)
/-- j words of the command are said: behind them a, the noun n -/
def FQC (S : sS) (c : Int) : Nat → Int → Int → Prop
  | 0, a, n => a = 0 ∧ n = -1
  | j + 1, a', n' => ∃ a n, FQC S c j a n ∧ FQS S c j a n a' n'
def FQO (S S1 : sS) (z c : Int) : Prop := (z = 1 → FQC S c (Xi S 947 c.toNat).toNat (Xi S 904 164) (Xi S1 904 165)) ∧ (z = 0 → ∀ n, ¬ FQC S c (Xi S 947 c.toNat).toNat (Xi S 904 164) n)
theorem fqs_det {S : sS} {c a n a1 n1 a2 n2 : Int} {j : Nat} (h : FQS S c j a n a1 n1) (g : FQS S c j a n a2 n2) : a1 = a2 ∧ n1 = n2 := by sorry
theorem fqc_det {S : sS} {c : Int} : ∀ (j : Nat) {a1 n1 a2 n2 : Int}, FQC S c j a1 n1 → FQC S c j a2 n2 → a1 = a2 ∧ n1 = n2 := by sorry
theorem fqc_no {S : sS} {c a n : Int} {j : Nat} (h : FQC S c j a n) (hn : ∀ a' n', ¬ FQS S c j a n a' n') : ∀ (k : Nat) (a' n' : Int), ¬ FQC S c (j + 1 + k) a' n' := by sorry
theorem fqc_n {S : sS} {c a n v w : Int} (h : FQC S c v.toNat a n) (h0 : 0 ≤ v) (hw : v < w) (hn : ∀ a' n', ¬ FQS S c v.toNat a n a' n') (b : Int) : ∀ m, ¬ FQC S c w.toNat b m := by sorry
theorem fqc_0 {S T : sS} {c : Int} (e : T = uI S 904 165 (Int32.ofInt (-1))) : FQC S c (0 : Int).toNat 0 (Xi T 904 165) := by sorry
theorem fqc_w {S : sS} {c a n v : Int} (h : FQC S c v.toNat a n) (h0 : 0 ≤ v) (hw : Xj S 948 (8 * c + v).toNat ≠ 0) (ha : a < Xi S 904 164) (e : Xj S 995 a.toNat = Xj S 948 (8 * c + v).toNat) : FQC S c (v + 1).toNat (a + 1) n := by sorry
theorem fqn_w {S : sS} {c a n v w : Int} (h : FQC S c v.toNat a n) (h0 : 0 ≤ v) (hv : v < w) (hw : Xj S 948 (8 * c + v).toNat ≠ 0) (e : Xi S 904 164 ≤ a ∨ Xj S 995 a.toNat ≠ Xj S 948 (8 * c + v).toNat) (b : Int) : ∀ m, ¬ FQC S c w.toNat b m := by sorry
theorem fqc_g {S T : sS} {c a n v x : Int} (h : FQC S c v.toNat a n) (h0 : 0 ≤ v) (hw : Xj S 948 (8 * c + v).toNat = 0) (hm : 1 ≤ fqm S c ∧ fqm S c ≤ 3 ∧ a + fqm S c ≤ Xi S 904 164) (e : FQE S c (fqe S c a)) (hx : x = a + fqm S c) (hT : Xi T 904 165 = Xi S 915 (fqe S c a).toNat) : FQC S c (v + 1).toNat x (Xi T 904 165) := by sorry
theorem fqn_g {S : sS} {c a n v w : Int} (h : FQC S c v.toNat a n) (h0 : 0 ≤ v) (hv : v < w) (hw : Xj S 948 (8 * c + v).toNat = 0) (e : ¬ ((1 ≤ fqm S c ∧ fqm S c ≤ 3 ∧ a + fqm S c ≤ Xi S 904 164) ∧ FQE S c (fqe S c a))) (b : Int) : ∀ m, ¬ FQC S c w.toNat b m := by sorry
theorem fqe_e {l : List rec} {S T : sS} {c a x y w m z : Int} (F : FR l S T) (k : kdis l [(912, 917)] = true) (k5 : Xi T 904 15 = Xi S 904 15) (hm : m = fqm S c) (f : z = fdR T x y w m (Xi T 904 15).toNat) (hx : x = Xj S 995 a.toNat) (hy : y = if 1 < fqm S c then Xj S 995 (a + 1).toNat else 0) (hw : w = if 2 < fqm S c then Xj S 995 (a + 2).toNat else 0) : z = fqe S c a := by sorry
def md_mo_fitsCommand__p : List rec := [(904, 905, 165, 166)]
abbrev Q_mo_fitsCommand__p (S : sS) (c : Int) : pst := fun r S1 => RI S1 ∧ FR md_mo_fitsCommand__p S S1 ∧ (∃ z : Int, r = some (iv z) ∧ (0 ≤ z ∧ z ≤ 1) ∧ (FQO S S1 z c))
set_option maxRecDepth 100000 in
theorem t_mo_fitsCommand__p {S : sS} (hH : RI S) (c : Int) (hc : 0 ≤ c ∧ c ≤ 19) (h15 : 0 ≤ Xi S 904 15) (hLS : LSP S) (hB : ABV S) (hk8 : ∀ j, -1 ≤ Xi S 918 j ∧ Xi S 918 j ≤ 15) (hn : 0 ≤ Xi S 904 164 ∧ Xi S 904 164 ≤ 50) (hsz : 0 ≤ Xi S 947 c.toNat ∧ Xi S 947 c.toNat ≤ 8) (d : Nat) : Mp lay0 (d + 2) m_mo_fitsCommand [.ref 904, iv c] S (Q_mo_fitsCommand__p S c) := by sorry
end
section
/-- what is typed is what is said -/
def WAL (U S : sS) : Prop := (Xi U 882 12 = Xi S 904 164 ∧ 0 ≤ Xi U 882 12 ∧ Xi U 882 12 ≤ 50) ∧ ∀ i : Nat, (i : Int) < Xi U 882 12 → wdC (Xj U 889 i) ∧ Xj S 995 i = cv (Xj U 889 i)
/-- the gap means the same to both -/
theorem mt_q {U S : sS} {i : Nat} (v : VOC U S) (w : WAL U S) (c : CM1 U S i) (g : Xi U 885 i ≠ -1) (o : Xi U 884 i ≤ Xi U 882 12 ∧ Xi U 882 12 < Xi U 884 i + 3) : mt7 U i = if fqe S i (Xi U 885 i) = -1 then -1 else sg7 (Xi S 914 (fqe S i (Xi U 885 i)).toNat) * 256 + Xi S 915 (fqe S i (Xi U 885 i)).toNat := by sorry
end
section
/-- an object that is meant is told -/
theorem mnf_o {U : sS} {a b c : Int} (hC : CEN U) (w : WHC U) (h : mnF U a b c / 256 = 2) : 0 ≤ mnF U a b c % 256 ∧ mnF U a b c % 256 < Xi U 5 2 := by sorry
/-- a direction that is meant is one of six -/
theorem mnf_d {U : sS} {a b c : Int} (hC : CEN U) (w : WHC U) (h : mnF U a b c / 256 = 14) : 0 ≤ mnF U a b c % 256 ∧ mnF U a b c % 256 ≤ 5 := by sorry
/-- what stands in the gap fits both or neither; it is the same noun -/
theorem gap_q {U S : sS} {i : Nat} (h : RLQ U S) (w : WAL U S) (c : CM1 U S i) (g : Xi U 885 i ≠ -1) (o : Xi U 884 i ≤ Xi U 882 12 ∧ Xi U 882 12 < Xi U 884 i + 3) : (FGK U (Xi U 886 i) (mt7 U i) ↔ FQE S i (fqe S i (Xi U 885 i))) ∧ (FGK U (Xi U 886 i) (mt7 U i) → mt7 U i % 256 = Xi S 915 (fqe S i (Xi U 885 i)).toNat) := by sorry
end
section
/-- where the reference stands behind j words, and with which noun -/
def fqa (U : sS) (i : Nat) (j : Int) : Int := if Xi U 885 i = -1 ∨ j ≤ Xi U 885 i then j else j + (Xi U 882 12 - Xi U 884 i)
def fqn (U : sS) (i : Nat) (j : Int) : Int := if Xi U 885 i = -1 ∨ j ≤ Xi U 885 i then -1 else mt7 U i % 256
/-- what fits the class fits the reference -/
theorem fit_1 {U S : sS} {i : Nat} (h : RLQ U S) (w : WAL U S) (c : CM1 U S i) (f : FTR U i) : ∀ j : Nat, (j : Int) ≤ Xi U 884 i → FQC S i j (fqa U i j) (fqn U i j) := by sorry
/-- what the reference has of j words -/
def FB7 (U S : sS) (i : Nat) (j a : Int) : Prop := a = fqa U i j ∧ FWD U i j ∧ (Xi U 885 i ≠ -1 → Xi U 885 i < j → (Xi U 884 i ≤ Xi U 882 12 ∧ Xi U 882 12 < Xi U 884 i + 3) ∧ FQE S i (fqe S i (Xi U 885 i)))
/-- what fits the reference fits the class -/
theorem fit_2 {U S : sS} {i : Nat} (w : WAL U S) (c : CM1 U S i) : ∀ (j : Nat) (a n : Int), (j : Int) ≤ Xi U 884 i → FQC S i j a n → FB7 U S i j a := by sorry
end
section
/-- a word that is no word fits no command: outside the gap -/
theorem nof_w {U S : sS} {i k : Nat} (c : CM1 U S i) (f : FTR U i) (hk : (k : Int) < Xi U 882 12) (e : Xj U 889 k = -1) : Xi U 885 i ≠ -1 ∧ Xi U 885 i ≤ k ∧ (k : Int) < Xi U 885 i + (Xi U 882 12 - Xi U 884 i + 1) := by sorry
end
end
