section
section
/-! class and reference: words with an s; 7 -/
/-- two rows of one call hold together -/
theorem Mp_and {lay : Nat → Nat × Nat} {d : Nat} {q : mT} {av : List Value} {S : sS} {Q1 Q2 : pst} (h1 : Mp lay d q av S Q1) (h2 : Mp lay d q av S Q2) : Mp lay d q av S (fun r S1 => Q1 r S1 ∧ Q2 r S1) := by sorry
theorem cvN_s : ∀ (n : Nat) (w : Int), 0 ≤ w → w < 27 ^ n → cvN (n + 1) w = cvN n w := by sorry
theorem cvN_lo : ∀ (n : Nat) (w : Int), 27 ^ n ≤ w → w < 27 ^ (n + 1) → 32 ^ n ≤ cvN (n + 1) w := by sorry
theorem cv_12 {w : Int} (h : wdC w) : cv w = cvN 12 w := by sorry
theorem cv_rg {w : Int} (h : wdC w) : 0 ≤ cv w ∧ cv w < 1152921504606846976 := by sorry
/-- twelve letters or fewer -/
theorem cv_sh {w : Int} (h : wdC w) (q : w < 5559060566555523) : cv w < 36028797018963968 := by sorry
theorem cv_lo {w : Int} (h : wdC w) (q : 5559060566555523 ≤ w) : 36028797018963968 ≤ cv w := by sorry
theorem cv_s {w : Int} (h : wdC w) : cv (w * 27 + 19) = cv w * 32 + 19 := by sorry
theorem sr55 {x : Int} (h0 : 0 ≤ x) (h1 : x < 9223372036854775808) : lshrF x 55 = x / 36028797018963968 := by sorry
/-- a word of thirteen letters has its own word before it -/
def LW1 (U : sS) : Prop := ∀ i : Nat, (i : Int) < Xi U 1 3 → ∀ w : Int, 5559060566555523 ≤ w → mtC U (w * 27 + 19) 0 0 i → ∃ j : Nat, (j : Int) < Xi U 1 3 ∧ mtC U w 0 0 j
theorem msc_yy {U : sS} {a b c : Int} (hC : CEN U) {i : Nat} (hi : mtC U a b c i) (hl : (i : Int) < Xi U 1 3) : mnF U a b c ≠ -1 := by sorry
theorem ws_same {U S : sS} {w : Int} (h : VOC U S) (hC : CEN U) (hx : LXR S) (hl : LW1 U) (hw : wdC w) (hn : mnF U w 0 0 = -1) : mnF U (w * 27 + 19) 0 0 = -1 ↔ (lshrF (cv w) 55 ≠ 0 ∨ fdR S (lorF (lshlF (cv w) 5) 19) 0 0 1 (Xi S 904 15).toNat = -1) := by sorry
/-- 7 -/
theorem vb_same {U U1 S : sS} {f : Nat} {z e a t : Int} {x : Int × Int × Int} (h : SRL U S f) (v : VOC U S) (hC : CEN U) (hl : LW1 U) (k0 : RNR U S f 0 3 e) (k1 : RNR U S f 1 a t) (w3 : wdC (Xj U 879 3) ∧ Xj S 910 (f + 3) = cv (Xj U 879 3)) (hx : LXR S) (h15 : 0 ≤ Xi S 904 15) (hn : Xi U 891 9 = 0) (hc : Xi U 5 7 = Xi S 904 47) (tc : TVB U U1 z e a t) (rc : RVB S x) : SFT U1 z x := by sorry
end
section
/-! class and reference: 17, 0 -/
/-- two stages: the asking's fault, or the doing's -/
def SF2 (U1 : sS) (z : Int) (x y : Int × Int × Int) : Prop := (x.1 ≠ 0 ∧ SFT U1 z x) ∨ (x.1 = 0 ∧ SFT U1 z y)
theorem sf2_f {U U1 S : sS} {c r p z : Int} {x y : Int × Int × Int} (h : z = 0 ∧ FTO U U1 c r) (e : pc7 U r = p) (n : NTB x c p) (hc : c ≠ 0) : SF2 U1 z x y := by sorry
theorem sf2_d {U U1 S : sS} {c r p z : Int} {x y : Int × Int × Int} (h : z = 0 ∧ FTO U U1 c r) (e : pc7 U r = p) (x0 : x.1 = 0) (n : NTB y c p) : SF2 U1 z x y := by sorry
theorem sf2_y {U1 : sS} {z : Int} {x y : Int × Int × Int} (h : z = 1) (g : Xi U1 876 8 = 0) (x0 : x.1 = 0) (y0 : y.1 = 0) : SF2 U1 z x y := by sorry
theorem fnd_m1 {U : sS} {s a b : Int} (hs : 0 ≤ s) (h : mnV U a b = -1) : fnd U s a b = -1 := by sorry
theorem rn_tm {U S : sS} {f : Nat} {r a b : Int} (h : SRL U S f) (k : RNR U S f r a b) (hx : LXR S) (h15 : 0 ≤ Xi S 904 15) : tmC U a b = r2R S r 2 3 := by sorry
theorem rn_mn {U S : sS} {f : Nat} {r a b : Int} (h : SRL U S f) (k : RNR U S f r a b) (hx : LXR S) (h15 : 0 ≤ Xi S 904 15) : mnV U a b = -1 ↔ rmR S r = -1 := by sorry
/-- 17 -/
theorem has_same {U U1 S S1 : sS} {f : Nat} {z nm e a o l t : Int} {x : Int × Int × Int} (h : SRL U S f) (k0 : RNR U S f 0 nm e) (k1 : RNR U S f 1 a o) (k2 : RNR U S f 2 l t) (hx : LXR S) (h15 : 0 ≤ Xi S 904 15) (hn : Xi U 891 9 = 0) (hc : Xi U 5 5 = Xi S 904 32) (ht : fnd U 5 l t ≠ -1 → Xi U 9 (fnd U 5 l t).toNat = Xi S 928 (fnd U 5 l t).toNat) (tc : THAS U U1 z nm e a o l t) (rc : RHAS S x) (rd : x.1 = 0 → RD17 S S1) : SF2 U1 z x (NT3 S1) := by sorry
end
section
/-! class and reference: lists of new names; 11, 10 -/
/-- the names of a LIST are the runs from F on -/
def LRN (U S : sS) (f : Nat) (F : Int) (n : Nat) : Prop := ∀ i : Nat, i < n → RNR U S f (F + i) (kr7 (ty7 U) i) (re7 (ty7 U) (kr7 (ty7 U) i))
theorem nwl_r {U S : sS} {f i n : Nat} {F : Int} (h : SRL U S f) (l : LRN U S f F n) (hx : LXR S) (h15 : 0 ≤ Xi S 904 15) (hi : i < n) : NWL U i ↔ NWR S F i := by sorry
theorem lok_r {U S : sS} {f n m : Nat} {F c M : Int} (h : SRL U S f) (l : LRN U S f F n) (hx : LXR S) (h15 : 0 ≤ Xi S 904 15) (hm : m ≤ n) : LOK U c M m ↔ LKR S F c M m := by sorry
theorem lok_n {U : sS} {c M : Int} : ∀ n : Nat, ¬ LOK U c M n → ∃ k : Nat, k < n ∧ LOK U c M k ∧ (¬ NWL U k ∨ (NWL U k ∧ M ≤ c + k)) := by sorry
theorem ls_same {U U1 S : sS} {f n : Nat} {F c M z : Int} {x : Int × Int × Int} (h : SRL U S f) (l : LRN U S f F n) (hx : LXR S) (h15 : 0 ≤ Xi S 904 15) (t : TLS U U1 z c M n) (r : RLF S F c M n x) (q : ¬ LOK U c M n) : SFT U1 z x ∧ x.1 ≠ 0 := by sorry
/-- 11 -/
theorem act_same {U U1 S : sS} {f : Nat} {z : Int} {x : Int × Int × Int} (h : SRL U S f) (l : LRN U S f (Xi S 904 71) (nL U)) (hx : LXR S) (h15 : 0 ≤ Xi S 904 15) (n72 : (Xi S 904 72).toNat = nL U) (hs : Xi S 904 70 = 11) (hc : Xi U 5 8 = Xi S 904 49) (kw : ty7 U (Xi U 890 3 + 3) = 28 → Xi S 904 78 ≠ -1 ∧ RNR U S f (Xi S 904 78) (Xi U 890 3 + 6) (re7 (ty7 U) (Xi U 890 3 + 6))) (kn : ty7 U (Xi U 890 3 + 3) ≠ 28 → Xi S 904 78 = -1) (tc : TACT U U1 z) (rc : RKD S (Xi S 904 71) (cK S) (mK S) (Xi S 904 72).toNat (wK S) x) : SFT U1 z x := by sorry
/-- 10 -/
theorem kn_same {U U1 S : sS} {f : Nat} {z : Int} {x : Int × Int × Int} (h : SRL U S f) (l : LRN U S f (Xi S 904 71) (nL U)) (hx : LXR S) (h15 : 0 ≤ Xi S 904 15) (n72 : (Xi S 904 72).toNat = nL U) (hs : Xi S 904 70 = 10) (hc0 : Xi U 5 0 = Xi S 904 16) (hc1 : Xi U 5 1 = Xi S 904 18) (k1 : tyB U = 1 ↔ Xi S 904 78 = -2) (k2 : ofB U = 1 → tyB U = 0 → Xi S 904 78 ≠ -1 ∧ RNR U S f (Xi S 904 78) (r10 U) (re7 (ty7 U) (r10 U))) (k3 : ofB U = 0 → Xi S 904 78 = -1) (tc : TKN U U1 z) (rc : RKD S (Xi S 904 71) (cK S) (mK S) (Xi S 904 72).toNat (wK S) x) : SFT U1 z x := by sorry
end
section
/-! class and reference: objects; 14 (the asking) -/
/-- objects have the same kinds -/
def OBK (U S : sS) : Prop := Xi U 5 2 = Xi S 904 19 ∧ ∀ o : Nat, (o : Int) < Xi U 5 2 → Xi U 21 o = Xi S 918 o ∧ 0 ≤ Xi S 918 o ∧ Xi S 918 o < Xi U 5 0
/-- what an object's name means is an object -/
def OBM (U : sS) : Prop := ∀ i : Nat, (i : Int) < Xi U 1 3 → Xi U 3 i = 2 → Xi U 4 i < Xi U 5 2
theorem msc_is {U : sS} {a b c : Int} : ∀ (m s : Nat), msc U a b c m s ≠ -1 → ∃ j : Nat, s ≤ j ∧ j < s + m ∧ msc U a b c m s = Xi U 3 j * 256 + Xi U 4 j := by sorry
theorem mnV_is {U : sS} {a b : Int} (h : mnV U a b ≠ -1) : ∃ j : Nat, (j : Int) < Xi U 1 3 ∧ mnV U a b = Xi U 3 j * 256 + Xi U 4 j := by sorry
theorem fnd_is {U : sS} {s a b : Int} (hs : 0 ≤ s) (hC : CEN U) (h : fnd U s a b ≠ -1) : ∃ j : Nat, (j : Int) < Xi U 1 3 ∧ Xi U 3 j = s ∧ fnd U s a b = Xi U 4 j := by sorry
theorem ob_lt {U : sS} {a b : Int} (hC : CEN U) (hm : OBM U) (h : fnd U 2 a b ≠ -1) : 0 ≤ fnd U 2 a b ∧ fnd U 2 a b < Xi U 5 2 := by sorry
theorem ok_r {U S : sS} {f : Nat} {r a b k : Int} (h : SRL U S f) (kk : RNR U S f r a b) (hx : LXR S) (h15 : 0 ≤ Xi S 904 15) (hC : CEN U) (hm : OBM U) (kd : KND U S) (ob : OBK U S) : (fnd U 2 a b ≠ -1 ∧ isK U (Xi U 21 (fnd U 2 a b).toNat) k = 1) ↔ OKR S r k := by sorry
/-- 14: the asking -/
theorem way_ask {U U1 S : sS} {f : Nat} {z : Int} {x : Int × Int × Int} (h : SRL U S f) (hx : LXR S) (h15 : 0 ≤ Xi S 904 15) (hn : Xi U 891 9 = 0) (hC : CEN U) (hm : OBM U) (kd : KND U S) (ob : OBK U S) (k0 : RNR U S f (Xi S 904 71) (n14 U) (e14 U)) (s1 : 1 < Xi S 904 72 → sn2 U ≠ -1 ∧ pc7 U (sn2 U) = pR S (Xi S 904 71 + 1)) (s2 : Xi S 904 72 ≤ 1 → sn2 U = -1) (k1 : RNR U S f (Xi S 904 78) (Xi U 890 3 + 1) (o14 U)) (k2 : RNR U S f (Xi S 904 74) (l14 U) (re7 (ty7 U) (l14 U))) (tc : TW14 U U1 z) (rc : RW14 S x) : (x.1 ≠ 0 ∧ SFT U1 z x) ∨ (x.1 = 0 ∧ OKW U 1 ∧ sn2 U = -1 ∧ d14 U ≠ -1 ∧ OKS U) := by sorry
end
section
/-! class and reference: texts, told properties -/
/-- the text (a, n) of the class has the bytes of the text (b, m) of the reference -/
def TXQ (U S : sS) (a n b m : Int) : Prop := n = m ∧ ∀ i : Int, 0 ≤ i → i < n → Xi U (txr U) (a + i).toNat = Xi S 906 (b + i).toNat
theorem smn_r {U S : sS} {a a2 b b2 N : Int} (h1 : ∀ i : Int, 0 ≤ i → i < N → Xi U (txr U) (a + i).toNat = Xi S 906 (b + i).toNat) (h2 : ∀ i : Int, 0 ≤ i → i < N → Xi U (txr U) (a2 + i).toNat = Xi S 906 (b2 + i).toNat) : ∀ (n : Nat) (i : Int), 0 ≤ i → i + n ≤ N → smn U (txr U) a a2 n i = smR S 906 b b2 n i := by sorry
theorem smn_01 {U : sS} {t : Nat} {a b : Int} : ∀ (n : Nat) (i : Int), smn U t a b n i = 0 ∨ smn U t a b n i = 1 := by sorry
theorem smT_r {U S : sS} {a n b m a2 n2 b2 m2 : Int} (h : TXQ U S a n b m) (k : TXQ U S a2 n2 b2 m2) : smT U a n a2 n2 = sameR S b m b2 m2 := by sorry
/-- what is told of property p (row r of the class; k of the reference's c, c + 1, c + 2) -/
def PVR (U S : sS) (c : Nat) (r p k : Int) : Prop := (Xi U (66 + r.toNat) p.toNat = 0 ↔ Xi S c k.toNat = 0) ∧ (Xi S c k.toNat ≠ 0 → (Xi S 928 p.toNat = 1 → TXQ U S (Xi U (107 + r.toNat) p.toNat) (Xi U (148 + r.toNat) p.toNat) (Xi S (c + 1) k.toNat) (Xi S (c + 2) k.toNat)) ∧ (Xi S 928 p.toNat ≠ 1 → Xi U (107 + r.toNat) p.toNat = Xi S (c + 1) k.toNat))
/-- a value told to both -/
def VLQ (U S : sS) (p v l v2 l2 : Int) : Prop := (Xi S 928 p.toNat = 1 → TXQ U S v l v2 l2) ∧ (Xi S 928 p.toNat ≠ 1 → v = v2)
theorem tpc_r {U A S B : sS} {z y r r2 p v l v2 l2 : Int} {c : Nat} (h : PVR U S c r p (12 * r2 + p)) (hv : VLQ U S p v l v2 l2) (h9 : Xi U 9 p.toNat = Xi S 928 p.toNat) (t : TPC U A z r p v l) (u : TPR1 S B y c r2 p v2 l2) : z = y ∧ (z = 0 ∨ z = 1) ∧ ((Xi S c (12 * r2 + p).toNat = 0 → z = 1)) := by sorry
/-- 0 -/
theorem de_same {U U1 S T S1 : sS} {z first : Int} (k : Xi U 891 10 = Xi S 904 60) (tc : TDE U U1 z) (ra : RA0 S T) (st : Xi T 904 60 = Xi S 904 60 ∧ Xi T 904 81 = Xi S 904 81 ∧ ∀ j, Xi T 908 j = Xi S 908 j) (hp : pc7 U 0 = Xi S 908 (Xi S 904 81).toNat ∧ pc7 U 0 = Xi S 908 first.toNat) (h : Xi U 891 10 ≠ -1 → PVR U T 930 (Xi U 891 10) 0 (12 * Xi T 904 60 + 0)) (hv : VLQ U T 0 (pc7 U 0 + 1) (Xj U 879 0) (Xi T 908 (Xi T 904 81).toNat + 1) (Xi T 909 (Xi T 904 81).toNat)) (h9 : Xi U 9 0 = Xi T 928 0) (f0 : Xi U 876 8 = 0) (h40 : Xi U 891 10 ≤ 40) (rd : (NT3 T).1 = 0 → RD0 T S1 first) : SF2 U1 z (NT3 T) (NT3 S1) := by sorry
end
section
/-! class and reference: told adjectives -/
/-- the class's 1, -1, 0 are the reference's 1, 2, 0 -/
def AV3 (u s : Int) : Prop := (u = 1 ∧ s = 1) ∨ (u = -1 ∧ s = 2) ∨ (u = 0 ∧ s = 0)
def ADV (U S : sS) (c : Nat) (r b : Int) : Prop := ∀ a : Nat, a < 24 → AV3 (Xi U (25 + r.toNat) a) (Xi S c (b + a).toNat)
theorem tad_r {U A S B : sS} {z y r b a h i : Int} {c : Nat} (v : ADV U S c r b) (ha : 0 ≤ a ∧ a < 24) (hi : h = 0 ↔ i = 0) (t : TADC U A z r a h) (u : TISR S B y c b a i) : z = y ∧ ((z = 0 ∧ A = U ∧ B = S) ∨ (z = 1 ∧ A = stAd U r a h ∧ B = rIs S c b a i)) := by sorry
theorem adv_1 {U S : sS} {r b a x s : Int} {c : Nat} (v : ADV U S c r b) (hb : 0 ≤ b) (ha : 0 ≤ a ∧ a < 24) (h : AV3 x s) : ADV (uI U (25 + r.toNat) a.toNat (Int32.ofInt x)) (uI S c (b + a).toNat (Int32.ofInt s)) c r b := by sorry
end
section
/-! class and reference: what holds of both between sentences -/
/-- cells and fields that stay -/
def KEP (ks fs : List (Nat × Nat)) (S S1 : sS) : Prop := SMK ks S S1 ∧ ∀ f ∈ fs, S1.1 f.1 f.2 = S.1 f.1 f.2 ∧ S1.2.1 f.1 f.2 = S.2.1 f.1 f.2 ∧ S1.2.2 f.1 f.2 = S.2.2 f.1 f.2
def kepC (l : List rec) (ks fs : List (Nat × Nat)) : Bool := kdis l ks && fs.all (fun f => !(mdf l f.1 f.2))
theorem FR.kep {l : List rec} {ks fs : List (Nat × Nat)} {S S1 : sS} (h : FR l S S1) (e : kepC l ks fs = true) : KEP ks fs S S1 := by sorry
theorem KEP.x {ks fs : List (Nat × Nat)} {S S1 : sS} (h : KEP ks fs S S1) (k : Nat) (e : inK ks k = true) (j : Nat) : Xi S1 k j = Xi S k j := by sorry
theorem KEP.j {ks fs : List (Nat × Nat)} {S S1 : sS} (h : KEP ks fs S S1) (k : Nat) (e : inK ks k = true) (j : Nat) : Xj S1 k j = Xj S k j := by sorry
theorem KEP.f {ks fs : List (Nat × Nat)} {S S1 : sS} (h : KEP ks fs S S1) (k j : Nat) (e : (k, j) ∈ fs) : Xi S1 k j = Xi S k j := by sorry
theorem KEP.rf {ks fs : List (Nat × Nat)} {S : sS} : KEP ks fs S S := by sorry
theorem KEP.tr {ks fs : List (Nat × Nat)} {S T V : sS} (h : KEP ks fs S T) (k : KEP ks fs T V) : KEP ks fs S V := by sorry
def inKs (ks ls : List (Nat × Nat)) : Bool := ls.all (fun a => ks.any (fun b => Nat.ble b.1 a.1 && Nat.ble a.2 b.2))
theorem inKs_ok {ks ls : List (Nat × Nat)} {k : Nat} (h : inKs ks ls = true) (e : inK ls k = true) : inK ks k = true := by sorry
theorem KEP.le {ks fs ls gs : List (Nat × Nat)} {S S1 : sS} (h : KEP ks fs S S1) (e : inKs ks ls = true) (g : ∀ f, f ∈ gs → f ∈ fs) : KEP ls gs S S1 := by sorry
/-- how many there are of what an entry's sort is of -/
def wcU (U : sS) (s : Int) : Int := if s = 11 then Xi U 5 0 else if s = 12 then Xi U 5 1 else if s = 13 then Xi U 5 7 else if s = 14 then 6 else if s = 9 ∨ s = 10 then 0 else Xi U 5 s.toNat
def WHC (U : sS) : Prop := ∀ i : Nat, (i : Int) < Xi U 1 3 → Xi U 4 i < wcU U (Xi U 3 i)
/-- an entry whose last word has thirteen letters: without its s it is one too, of a kind, a TYPE or a verb -/
def LWE (U : sS) (a b c : Int) : Prop := ∃ j : Nat, (j : Int) < Xi U 1 3 ∧ mtC U a b c j ∧ (Xi U 3 j = 0 ∨ Xi U 3 j = 1 ∨ Xi U 3 j = 7)
def LW3 (U : sS) : Prop := ∀ i : Nat, (i : Int) < Xi U 1 3 → ∀ w x y : Int, 5559060566555523 ≤ w → (mtC U (w * 27 + 19) 0 0 i → LWE U w 0 0) ∧ (mtC U x (w * 27 + 19) 0 i → LWE U x w 0) ∧ (mtC U x y (w * 27 + 19) i → LWE U x y w)
theorem lw_1 {U : sS} (h : LW3 U) : LW1 U := by sorry
/-- words -/
def RVO (U S : sS) : Prop := VOC U S ∧ USW U ∧ CEN U ∧ LXR S ∧ LW3 U
/-- counts -/
def RCT (U S : sS) : Prop := (Xi U 5 0 = Xi S 904 16 ∧ 5 ≤ Xi U 5 0 ∧ Xi U 5 0 ≤ 16) ∧ (Xi U 5 1 = Xi S 904 18 ∧ 2 ≤ Xi U 5 1 ∧ Xi U 5 1 ≤ 8) ∧ (Xi U 5 2 = Xi S 904 19 ∧ 1 ≤ Xi U 5 2 ∧ Xi U 5 2 ≤ 24) ∧ (Xi U 5 3 = Xi S 904 23 ∧ 2 ≤ Xi U 5 3 ∧ Xi U 5 3 ≤ 24) ∧ (Xi U 5 4 = Xi S 904 30 ∧ 0 ≤ Xi U 5 4 ∧ Xi U 5 4 ≤ 48) ∧ (Xi U 5 5 = Xi S 904 32 ∧ 1 ≤ Xi U 5 5 ∧ Xi U 5 5 ≤ 12) ∧ (Xi U 5 6 = Xi S 904 41 ∧ 0 ≤ Xi U 5 6 ∧ Xi U 5 6 ≤ 6) ∧ (Xi U 5 7 = Xi S 904 47 ∧ 0 ≤ Xi U 5 7 ∧ Xi U 5 7 ≤ 8) ∧ (Xi U 5 8 = Xi S 904 49 ∧ 5 ≤ Xi U 5 8 ∧ Xi U 5 8 ≤ 12)
/-- TYPES of values and properties; what kinds have -/
def RTY (U S : sS) : Prop := (∀ i : Nat, (i : Int) < Xi U 5 4 → Xi U 8 i = Xi S 927 i ∧ 2 ≤ Xi U 8 i ∧ Xi U 8 i < Xi U 5 1) ∧ (∀ i : Nat, (i : Int) < Xi U 5 5 → Xi U 9 i = Xi S 928 i ∧ 0 ≤ Xi U 9 i ∧ Xi U 9 i < Xi U 5 1) ∧ (∀ k p : Nat, (k : Int) < Xi U 5 0 → p < 12 → Xi S 929 (12 * k + p) ≠ 0 → (p : Int) < Xi U 5 5) ∧ ∀ t : Int, vals U t ≤ 8
/-- adjectives -/
def RAJ (U S : sS) : Prop := ∀ a : Nat, (a : Int) < Xi U 5 3 → (Xi U 10 a = Xi S 921 a ∧ 0 ≤ Xi U 10 a ∧ Xi U 10 a < Xi U 5 0) ∧ (Xi U 11 a = Xi S 922 a ∧ -1 ≤ Xi U 11 a ∧ Xi U 11 a < Xi U 5 3) ∧ (Xi U 11 a = -1 ↔ Xi S 924 a ≠ 0) ∧ 0 ≤ Xi S 924 a ∧ (Xi U 11 a = -1 → Xi U 13 a = Xi S 924 a)
/-- relations -/
def RRE (U S : sS) : Prop := ∀ r : Nat, (r : Int) < Xi U 5 6 → (Xi U 14 r = Xi S 936 r ∧ Xi U 15 r = Xi S 937 r) ∧ (0 ≤ Xi U 14 r ∧ Xi U 14 r < Xi U 5 0 ∧ 0 ≤ Xi U 15 r ∧ Xi U 15 r < Xi U 5 0) ∧ (Xi U 16 r = 0 ↔ Xi S 938 r = 0) ∧ (Xi U 17 r = 0 ↔ Xi S 939 r = 0)
def RBT (U S : sS) : Prop := ∀ r a b : Nat, r < 6 → a < 24 → b < 32 → (gb (Xi U (189 + r) a) b = true → (a : Int) < Xi U 5 2 ∧ (b : Int) < Xi U 5 2) ∧ (b < 24 → (gb (Xi U (189 + r) a) b = true ↔ Xi S 940 (576 * r + 24 * a + b) ≠ 0))
/-- verbs, actions -/
def RVA (U S : sS) : Prop := (∀ i : Nat, (i : Int) < Xi U 5 7 → Xi U 18 i = Xi S 941 i ∧ 0 ≤ Xi U 18 i ∧ Xi U 18 i < Xi U 5 6) ∧ ∀ i : Nat, (i : Int) < Xi U 5 8 → Xi U 19 i = Xi S 942 i ∧ -2 ≤ Xi U 19 i ∧ Xi U 19 i < Xi U 5 0
/-- objects, where they are -/
def ROB (U S : sS) : Prop := OBK U S ∧ ∀ o : Nat, (o : Int) < Xi U 5 2 → (Xi U 22 o = Xi S 919 o ∧ Xi U 23 o = Xi S 920 o) ∧ (0 ≤ Xi U 22 o ∧ Xi U 22 o ≤ 5) ∧ (Xi U 22 o = 0 ↔ Xi U 23 o = -1) ∧ -1 ≤ Xi U 23 o ∧ Xi U 23 o < Xi U 5 2
/-- no object is within itself -/
def ACY (U : sS) : Prop := ∃ rk : Nat → Nat, ∀ o : Nat, (o : Int) < Xi U 5 2 → 0 ≤ Xi U 23 o → rk (Xi U 23 o).toNat < rk o
/-- adjectives that were told -/
def RAQ (U S : sS) : Prop := (∀ o : Nat, (o : Int) < Xi U 5 2 → ADV U S 925 o (24 * o)) ∧ (∀ k : Nat, (k : Int) < Xi U 5 0 → ADV U S 926 (24 + k) (24 * k)) ∧ (∀ o : Nat, o < 24 → Xi U 5 2 ≤ (o : Int) → ∀ a : Nat, a < 24 → Xi U (25 + o) a = 0) ∧ ∀ k : Nat, k < 16 → Xi U 5 0 ≤ (k : Int) → ∀ a : Nat, a < 24 → Xi U (49 + k) a = 0
/-- properties that were told -/
def RPR (U S : sS) : Prop := (∀ o p : Nat, (o : Int) < Xi U 5 2 → p < 12 → PVR U S 930 o p (12 * o + p) ∧ (Xi S 930 (12 * o + p) ≠ 0 → (p : Int) < Xi U 5 5)) ∧ (∀ k p : Nat, (k : Int) < Xi U 5 0 → p < 12 → PVR U S 933 (24 + k) p (12 * k + p) ∧ (Xi S 933 (12 * k + p) ≠ 0 → (p : Int) < Xi U 5 5)) ∧ (∀ o : Nat, o < 24 → Xi U 5 2 ≤ (o : Int) → ∀ p : Nat, p < 12 → Xi U (66 + o) p = 0) ∧ ∀ k : Nat, k < 16 → Xi U 5 0 ≤ (k : Int) → ∀ p : Nat, p < 12 → Xi U (90 + k) p = 0
/-- ways -/
def RWY (U S : sS) : Prop := (Xi U 20 12 = Xi S 904 51 ∧ 0 ≤ Xi U 20 12 ∧ Xi U 20 12 ≤ 144) ∧ (∀ k : Nat, (k : Int) < Xi S 904 51 → (0 ≤ Xi S 943 k ∧ Xi S 943 k < Xi U 5 2) ∧ (0 ≤ Xi S 944 k ∧ Xi S 944 k < 6) ∧ (0 ≤ Xi S 945 k ∧ Xi S 945 k < Xi U 5 2) ∧ Xi U (196 + (Xi S 943 k).toNat) (Xi S 944 k).toNat = Xi S 945 k ∧ Xi U (221 + (Xi S 943 k).toNat) (Xi S 944 k).toNat = k) ∧ ∀ r d : Nat, r < 24 → d < 6 → Xi U (196 + r) d ≠ -1 → ∃ k : Nat, (k : Int) < Xi S 904 51 ∧ Xi S 943 k = r ∧ Xi S 944 k = d
/-- the latest object -/
def RSB (U S : sS) : Prop := Xi U 891 10 = Xi S 904 60 ∧ -1 ≤ Xi U 891 10 ∧ Xi U 891 10 < Xi U 5 2
/-- the story's bytes -/
def RST (U S : sS) : Prop := SRX U ∧ ∀ j : Nat, (j : Int) < Xi U 876 5 → Xi U (txr U) j = Xi S 906 j
theorem RVO.k {U U1 S S1 : sS} (h : RVO U S) (a : KEP [(2, 5)] [(1, 3)] U U1) (b : KEP [(912, 917)] [(904, 15)] S S1) : RVO U1 S1 := by sorry
theorem RCT.k {U U1 S S1 : sS} (h : RCT U S) (a : KEP [(5, 6)] [] U U1) (b : KEP [] [(904, 16), (904, 18), (904, 19), (904, 23), (904, 30), (904, 32), (904, 41), (904, 47), (904, 49)] S S1) : RCT U1 S1 := by sorry
theorem KND.k {U U1 S S1 : sS} (h : KND U S) (c0 : Xi U1 5 0 = Xi U 5 0) (a : KEP [(6, 8)] [] U U1) (b : KEP [(917, 918), (929, 930)] [(904, 16)] S S1) : KND U1 S1 := by sorry
theorem valn_k {U U1 : sS} {t : Int} (h : ∀ j, Xi U1 8 j = Xi U 8 j) : ∀ (n : Nat) (i a : Int), valn U1 t n i a = valn U t n i a := by sorry
theorem RTY.k {U U1 S S1 : sS} (h : RTY U S) (c0 : Xi U1 5 0 = Xi U 5 0) (c4 : Xi U1 5 4 = Xi U 5 4) (c5 : Xi U1 5 5 = Xi U 5 5) (c1 : Xi U 5 1 ≤ Xi U1 5 1) (a : KEP [(8, 10)] [] U U1) (b : KEP [(927, 930)] [] S S1) : RTY U1 S1 := by sorry
theorem RAJ.k {U U1 S S1 : sS} (h : RAJ U S) (c3 : Xi U1 5 3 = Xi U 5 3) (c0 : Xi U 5 0 ≤ Xi U1 5 0) (a : KEP [(10, 12), (13, 14)] [] U U1) (b : KEP [(921, 923), (924, 925)] [] S S1) : RAJ U1 S1 := by sorry
theorem RRE.k {U U1 S S1 : sS} (h : RRE U S) (c6 : Xi U1 5 6 = Xi U 5 6) (c0 : Xi U 5 0 ≤ Xi U1 5 0) (a : KEP [(14, 18)] [] U U1) (b : KEP [(936, 940)] [] S S1) : RRE U1 S1 := by sorry
theorem RVA.k {U U1 S S1 : sS} (h : RVA U S) (c7 : Xi U1 5 7 = Xi U 5 7) (c8 : Xi U1 5 8 = Xi U 5 8) (c6 : Xi U 5 6 ≤ Xi U1 5 6) (c0 : Xi U 5 0 ≤ Xi U1 5 0) (a : KEP [(18, 20)] [] U U1) (b : KEP [(941, 943)] [] S S1) : RVA U1 S1 := by sorry
theorem ROB.k {U U1 S S1 : sS} (h : ROB U S) (c2 : Xi U1 5 2 = Xi U 5 2) (c0 : Xi U 5 0 ≤ Xi U1 5 0) (a : KEP [(21, 24)] [] U U1) (b : KEP [(918, 921)] [(904, 19)] S S1) : ROB U1 S1 := by sorry
theorem RSB.k {U U1 S S1 : sS} (h : RSB U S) (c2 : Xi U 5 2 ≤ Xi U1 5 2) (a : KEP [] [(891, 10)] U U1) (b : KEP [] [(904, 60)] S S1) : RSB U1 S1 := by sorry
theorem WHC.k {U U1 : sS} (h : WHC U) (a : KEP [(3, 6)] [(1, 3)] U U1) : WHC U1 := by sorry
theorem ACY.k {U U1 : sS} (h : ACY U) (u0 : Xi U1 5 2 = Xi U 5 2) (a : KEP [(23, 24)] [] U U1) : ACY U1 := by sorry
theorem RBT.k {U U1 S S1 : sS} (h : RBT U S) (c2 : Xi U 5 2 ≤ Xi U1 5 2) (a : KEP [(189, 195)] [] U U1) (b : KEP [(940, 941)] [] S S1) : RBT U1 S1 := by sorry
theorem ADV.k {U U1 S S1 : sS} {c : Nat} {r b : Int} (h : ADV U S c r b) (a : ∀ j, Xi U1 (25 + r.toNat) j = Xi U (25 + r.toNat) j) (e : ∀ j, Xi S1 c j = Xi S c j) : ADV U1 S1 c r b := by sorry
theorem RAQ.k {U U1 S S1 : sS} (h : RAQ U S) (c : RCT U S) (u2 : Xi U1 5 2 = Xi U 5 2) (u0 : Xi U1 5 0 = Xi U 5 0) (a : KEP [(25, 65)] [] U U1) (b : KEP [(925, 927)] [] S S1) : RAQ U1 S1 := by sorry
/-- where texts lie, and their bytes, stay -/
theorem txr_k {U U1 : sS} {ks fs : List (Nat × Nat)} (a : KEP ks fs U U1) (e : (20, 1) ∈ fs) : txr U1 = txr U := by sorry
theorem TXQ.k {U U1 S S1 : sS} {x n y m : Int} (h : TXQ U S x n y m) (t : txr U1 = txr U) (a : ∀ j, Xi U1 (txr U) j = Xi U (txr U) j) (b : ∀ j, Xi S1 906 j = Xi S 906 j) : TXQ U1 S1 x n y m := by sorry
theorem PVR.k {U U1 S S1 : sS} {c : Nat} {r p k : Int} (h : PVR U S c r p k) (t : txr U1 = txr U) (a : ∀ j, Xi U1 (txr U) j = Xi U (txr U) j) (a1 : ∀ j, Xi U1 (66 + r.toNat) j = Xi U (66 + r.toNat) j) (a2 : ∀ j, Xi U1 (107 + r.toNat) j = Xi U (107 + r.toNat) j) (a3 : ∀ j, Xi U1 (148 + r.toNat) j = Xi U (148 + r.toNat) j) (b : ∀ j, Xi S1 906 j = Xi S 906 j) (b8 : Xi S c k.toNat ≠ 0 → Xi S1 928 p.toNat = Xi S 928 p.toNat) (b0 : ∀ j, Xi S1 c j = Xi S c j) (b1 : ∀ j, Xi S1 (c + 1) j = Xi S (c + 1) j) (b2 : ∀ j, Xi S1 (c + 2) j = Xi S (c + 2) j) : PVR U1 S1 c r p k := by sorry
/-- texts of the class lie in one of three rows -/
def TX3 (U : sS) : Prop := txr U = 245 ∨ txr U = 902 ∨ txr U = 903
theorem tx_k {U U1 : sS} {ks fs : List (Nat × Nat)} (h : TX3 U) (a : KEP ks fs U U1) (e : inK ks 245 = true) (e1 : inK ks 902 = true) (e2 : inK ks 903 = true) (j : Nat) : Xi U1 (txr U) j = Xi U (txr U) j := by sorry
theorem RPR.k {U U1 S S1 : sS} (h : RPR U S) (c : RCT U S) (t3 : TX3 U) (c2 : Xi U1 5 2 = Xi U 5 2) (c0 : Xi U1 5 0 = Xi U 5 0) (c5 : Xi U 5 5 ≤ Xi U1 5 5) (a : KEP [(66, 106), (107, 147), (148, 188), (245, 246), (902, 904)] [(20, 1)] U U1) (b : KEP [(906, 907), (930, 936)] [] S S1) (b8 : ∀ p : Nat, (p : Int) < Xi U 5 5 → Xi S1 928 p = Xi S 928 p) : RPR U1 S1 := by sorry
theorem RWY.k {U U1 S S1 : sS} (h : RWY U S) (c : RCT U S) (c2 : Xi U 5 2 ≤ Xi U1 5 2) (a : KEP [(196, 220), (221, 245)] [(20, 12)] U U1) (b : KEP [(943, 946)] [(904, 51)] S S1) : RWY U1 S1 := by sorry
/-- words, counts, the world -/
def RLW (U S : sS) : Prop := RVO U S ∧ WHC U ∧ RCT U S ∧ KND U S ∧ RTY U S ∧ RAJ U S ∧ RRE U S ∧ RBT U S ∧ RVA U S ∧ ROB U S ∧ ACY U ∧ RAQ U S ∧ RPR U S ∧ RWY U S ∧ RSB U S
/-- the cells of the class, and of the reference, that this speaks of -/
def cUk : List (Nat × Nat) := [(2, 12), (13, 20), (21, 24), (25, 65), (66, 106), (107, 147), (148, 188), (189, 195), (196, 220), (221, 245), (245, 246), (902, 904)]
def cUf : List (Nat × Nat) := [(1, 3), (20, 1), (20, 12), (891, 10)]
def cSk : List (Nat × Nat) := [(906, 907), (912, 923), (924, 946)]
def cSf : List (Nat × Nat) := [(904, 15), (904, 16), (904, 18), (904, 19), (904, 23), (904, 30), (904, 32), (904, 41), (904, 47), (904, 49), (904, 51), (904, 60)]
theorem RLW.k {U U1 S S1 : sS} (h : RLW U S) (t3 : TX3 U) (a : KEP cUk cUf U U1) (b : KEP cSk cSf S S1) : RLW U1 S1 := by sorry
end
section
/-! class and reference: the words grow alike -/
def NOE (U : sS) (a b c : Int) : Prop := ∀ j : Nat, (j : Int) < Xi U 1 3 → ¬ mtC U a b c j
theorem noe_mn {U : sS} {a b c : Int} (hC : CEN U) : NOE U a b c ↔ mnF U a b c = -1 := by sorry
/-- an entry that is the last one -/
theorem nmi_new {U U1 : sS} {i : Nat} {so wh a b c : Int} (t : NMI U U1 i so wh a b c) (fr : ∀ j : Nat, (j : Int) < Xi U 1 3 → Xi U 3 j = so → Xi U 4 j ≠ wh) : Xi U1 1 3 = Xi U 1 3 + 1 ∧ (i : Int) = Xi U 1 3 := by sorry
theorem mt_k {U U1 : sS} {a b c : Int} {j : Nat} (h : ∀ t, t < 3 → Xj U1 2 (3 * j + t) = Xj U 2 (3 * j + t)) : mtC U1 a b c j ↔ mtC U a b c j := by sorry
theorem noe_add {U U1 : sS} {i : Nat} {so wh a b c x y z : Int} (t : NMI U U1 i so wh a b c) (fr : ∀ j : Nat, (j : Int) < Xi U 1 3 → Xi U 3 j = so → Xi U 4 j ≠ wh) (h : NOE U x y z) (d : ¬ (a = x ∧ b = y ∧ c = z)) : NOE U1 x y z := by sorry
/-- what the reference's entry N holds -/
def ENR (S1 : sS) (N : Nat) (rs ix a b c n g : Int) : Prop := Xi S1 914 N = rs ∧ Xi S1 915 N = ix ∧ Xi S1 912 N = n ∧ Xi S1 916 N = g ∧ Xj S1 913 (3 * N) = a ∧ Xj S1 913 (3 * N + 1) = b ∧ Xj S1 913 (3 * N + 2) = c
def KRN (S S1 : sS) (N : Nat) : Prop := ∀ j : Nat, j ≠ N → Xi S1 914 j = Xi S 914 j ∧ Xi S1 915 j = Xi S 915 j ∧ Xi S1 912 j = Xi S 912 j ∧ Xi S1 916 j = Xi S 916 j ∧ ∀ t, t < 3 → Xj S1 913 (3 * j + t) = Xj S 913 (3 * j + t)
/-- n words of the class, of the reference; g: the last one has thirteen letters -/
def WDS (w0 w1 w2 x y z n g : Int) : Prop := (1 ≤ n ∧ n ≤ 3) ∧ (0 < w0 ∧ 0 ≤ w1 ∧ 0 ≤ w2) ∧ (cd7 w0 ∧ cd7 w1 ∧ cd7 w2) ∧ (1 < n ↔ 0 < w1) ∧ (2 < n ↔ 0 < w2) ∧ (g = 0 → x = cv w0 ∧ (1 < n → y = cv w1) ∧ (2 < n → z = cv w2)) ∧ (g ≠ 0 → (n = 1 → 150094635296999121 ≤ w0) ∧ (n = 2 → 150094635296999121 ≤ w1) ∧ (n = 3 → 150094635296999121 ≤ w2))
/-- thirteen letters: the words without the s -/
def WLW (w0 w1 w2 x y z n : Int) : Prop := (n = 1 → w0 % 27 = 19 ∧ x = cv (w0 / 27)) ∧ (n = 2 → w1 % 27 = 19 ∧ x = cv w0 ∧ y = cv (w1 / 27) ∧ w0 < 150094635296999121) ∧ (n = 3 → w2 % 27 = 19 ∧ x = cv w0 ∧ y = cv w1 ∧ z = cv (w2 / 27) ∧ w0 < 150094635296999121 ∧ w1 < 150094635296999121)
def LNGW (rs w0 w1 w2 x y z n : Int) : Prop := rs = 10 ∨ ((rs = 1 ∨ rs = 3) ∧ WLW w0 w1 w2 x y z n)
/-- thirteen letters: the same without the s was there before -/
def LWN (U : sS) (w0 w1 w2 : Int) : Prop := ∀ w x y : Int, 5559060566555523 ≤ w → (w0 = w * 27 + 19 → w1 = 0 → w2 = 0 → LWE U w 0 0) ∧ (w0 = x → w1 = w * 27 + 19 → w2 = 0 → LWE U x w 0) ∧ (w0 = x → w1 = y → w2 = w * 27 + 19 → LWE U x y w)
theorem lwe_k {U U1 : sS} {N : Nat} {a b c : Int} (hN : (N : Int) = Xi U 1 3) (cU : Xi U1 1 3 = Xi U 1 3 + 1) (k : ∀ j : Nat, j ≠ N → Xi U1 3 j = Xi U 3 j ∧ Xi U1 4 j = Xi U 4 j ∧ ∀ t, t < 3 → Xj U1 2 (3 * j + t) = Xj U 2 (3 * j + t)) (h : LWE U a b c) : LWE U1 a b c := by sorry
theorem rvo_add {U U1 S S1 : sS} {i : Nat} {so wh w0 w1 w2 rs x y z n g : Int} (h : RVO U S) (t : NMI U U1 i so wh w0 w1 w2) (fr : ∀ j : Nat, (j : Int) < Xi U 1 3 → Xi U 3 j = so → Xi U 4 j ≠ wh) (e : ENR S1 i rs wh x y z n g) (k : (i : Int) = Xi S 904 15 → KRN S S1 i) (c : Xi S1 904 15 = Xi S 904 15 + 1) (hs : so = sg7 rs) (hr : 0 ≤ rs ∧ rs ≤ 12) (hw : 0 ≤ wh ∧ wh ≤ 63) (ws : WDS w0 w1 w2 x y z n g) (no : NOE U w0 w1 w2) (lw : LWN U w0 w1 w2) (lg : (g ≠ 0 → LNGW rs w0 w1 w2 x y z n) ∧ (g = 0 → w0 < 150094635296999121 ∧ w1 < 150094635296999121 ∧ w2 < 150094635296999121)) : RVO U1 S1 ∧ Xi U1 1 3 = Xi U 1 3 + 1 ∧ (i : Int) = Xi U 1 3 := by sorry
/-- rows a to b of the class and tokens of the reference from t on are the same words -/
theorem wds_of {U S : sS} {a b t : Int} (hn : 1 ≤ b - a ∧ b - a ≤ 3) (ha : 0 ≤ a) (w : RWD U S a b t) : WDS (wRw U 879 a b 0) (wRw U 879 a b 1) (wRw U 879 a b 2) (Xj S 910 t.toNat) (if 1 < b - a then Xj S 910 (t + 1).toNat else 0) (if 2 < b - a then Xj S 910 (t + 2).toNat else 0) (b - a) 0 := by sorry
theorem wrl_lt {U S : sS} {a b t : Int} (w : RWD U S a b t) (j : Int) (h0 : 0 ≤ j) : wRw U 879 a b j < 150094635296999121 := by sorry
/-- words of a sentence have twelve letters at most -/
theorem lwn_of {U S V : sS} {a b t : Int} (hn : 1 ≤ b - a ∧ b - a ≤ 3) (ha : 0 ≤ a) (w : RWD U S a b t) : LWN V (wRw U 879 a b 0) (wRw U 879 a b 1) (wRw U 879 a b 2) := by sorry
theorem enr_tlr {S S1 : sS} {rs ix a b c n : Int} {i : Nat} (h : TLR S S1 rs ix a b c n) (e : (i : Int) = Xi S 904 15) : ENR S1 i rs ix a b c n 0 ∧ KRN S S1 i ∧ Xi S1 904 15 = Xi S 904 15 + 1 := by sorry
theorem enr_tlx {S S1 : sS} {rs ix a b c n g : Int} {i : Nat} (h : TLX S S1 rs ix a b c n g) (e : (i : Int) = Xi S 904 15) : ENR S1 i rs ix a b c n g ∧ KRN S S1 i ∧ Xi S1 904 15 = Xi S 904 15 + 1 := by sorry
/-- no entry has that sort and number -/
def FRS (U : sS) (so wh : Int) : Prop := ∀ j : Nat, (j : Int) < Xi U 1 3 → Xi U 3 j = so → Xi U 4 j ≠ wh
/-- numbers of entries are below c of their sort -/
def WHG (c : Int → Int) (U : sS) : Prop := ∀ i : Nat, (i : Int) < Xi U 1 3 → Xi U 4 i < c (Xi U 3 i)
theorem whc_fr {U : sS} {so wh : Int} (h : WHC U) (e : wcU U so ≤ wh) : FRS U so wh := by sorry
theorem frs_add {U U1 : sS} {i : Nat} {so wh so1 wh1 a b c : Int} (t : NMI U U1 i so1 wh1 a b c) (f1 : FRS U so1 wh1) (f2 : FRS U so wh) (d : ¬ (so1 = so ∧ wh1 = wh)) : FRS U1 so wh := by sorry
theorem whg_add {U U1 : sS} {i : Nat} {so wh a b e : Int} {c : Int → Int} (h : WHG c U) (t : NMI U U1 i so wh a b e) (fr : FRS U so wh) (w : wh < c so) : WHG c U1 := by sorry
theorem whg_up {U : sS} {c d : Int → Int} (h : WHG c U) (g : ∀ s, c s ≤ d s) : WHG d U := by sorry
theorem wcU_k {U U1 : sS} (h : ∀ j : Nat, Xi U 5 j ≤ Xi U1 5 j) (s : Int) : wcU U s ≤ wcU U1 s := by sorry
/-- the tokens of a sentence in both -/
def SCX (U S : sS) (f : Nat) : Prop := (∀ r : Nat, (r : Int) < Xi U 876 7 → TKW U S f r) ∧ Xi U 876 7 ≤ 5130
theorem scx_w {U S : sS} {f : Nat} {a b : Int} (h : SCX U S f) (k : ∀ i : Int, a ≤ i → i < b → ty7 U i = 100) : RWD U S a b (f + a) := by sorry
theorem scx_s {U S : sS} {f : Nat} (h : SCX U S f) (v : RVO U S) : SRL U S f := by sorry
/-- a run's words, told to both; words of the sentence (U0, S0) -/
theorem rvo_run {U0 S0 U U1 S S1 : sS} {f i : Nat} {r a b so rs wh : Int} (h : RVO U S) (sc : SCX U0 S0 f) (k : RNR U0 S0 f r a b) (n3 : b - a ≤ 3) (t : NMI U U1 i so wh (wRw U0 879 a b 0) (wRw U0 879 a b 1) (wRw U0 879 a b 2)) (tl : TLW S S1 S0 rs wh r) (fr : FRS U so wh) (hs : so = sg7 rs) (hr : 0 ≤ rs ∧ rs ≤ 12) (hw : 0 ≤ wh ∧ wh ≤ 63) (no : NOE U (wRw U0 879 a b 0) (wRw U0 879 a b 1) (wRw U0 879 a b 2)) : RVO U1 S1 ∧ Xi U1 1 3 = Xi U 1 3 + 1 ∧ (i : Int) = Xi U 1 3 := by sorry
theorem RVO.s {U U1 S S1 : sS} (h : RVO U S) (a : SMV U U1) (b : SMR S S1) : RVO U1 S1 := by sorry
/-- words that are alike are the same rows' words -/
theorem al_wd {U S : sS} {a b c d t u : Int} (hn : 1 ≤ b - a ∧ b - a ≤ 3) (hm : 1 ≤ d - c ∧ d - c ≤ 3) (ha : 0 ≤ a) (hc : 0 ≤ c) (w : RWD U S a b t) (v : RWD U S c d u) (e0 : wRw U 879 a b 0 = wRw U 879 c d 0) (e1 : wRw U 879 a b 1 = wRw U 879 c d 1) (e2 : wRw U 879 a b 2 = wRw U 879 c d 2) : alC U a b c d := by sorry
theorem noe_run {U S : sS} {f : Nat} {r a b : Int} (hC : CEN U) (h0 : 0 ≤ Xi U 1 3) (k : RNR U S f r a b) (hr : Xi U 876 7 ≤ 5130) (n3 : b - a ≤ 3) (h : mnV U a b = -1) : NOE U (wRw U 879 a b 0) (wRw U 879 a b 1) (wRw U 879 a b 2) := by sorry
/-- names of a LIST, told to both -/
theorem rvo_list {U S : sS} {f N : Nat} {F so rs c : Int} (h : RVO U S) (sc : SCX U S f) (l : LRN U S f F N) (ok : ∀ i : Nat, i < N → NWL U i) (fr : ∀ w, c ≤ w → FRS U so w) (hs : so = sg7 rs) (hr : 0 ≤ rs ∧ rs ≤ 12) (hc : 0 ≤ c ∧ c + N ≤ 64) : ∀ (n : Nat) (V V1 : sS), n ≤ N → TNL U so c n V → TLL S rs c F n V1 → RVO V V1 ∧ (∀ w, c + n ≤ w → FRS V so w) ∧ (∀ s w, s ≠ so → FRS U s w → FRS V s w) ∧ (∀ x y z, NOE U x y z → (∀ i : Nat, i < n → ¬ (wRw U 879 (kr7 (ty7 U) i) (re7 (ty7 U) (kr7 (ty7 U) i)) 0 = x ∧ wRw U 879 (kr7 (ty7 U) i) (re7 (ty7 U) (kr7 (ty7 U) i)) 1 = y ∧ wRw U 879 (kr7 (ty7 U) i) (re7 (ty7 U) (kr7 (ty7 U) i)) 2 = z)) → NOE V x y z) ∧ Xi V 1 3 = Xi U 1 3 + n ∧ (∀ d : Int → Int, WHG d U → (∀ i : Nat, i < n → c + i < d so) → WHG d V) ∧ (∀ i : Nat, i < n → ∃ j : Nat, (j : Int) < Xi V 1 3 ∧ mtC V (wRw U 879 (kr7 (ty7 U) i) (re7 (ty7 U) (kr7 (ty7 U) i)) 0) (wRw U 879 (kr7 (ty7 U) i) (re7 (ty7 U) (kr7 (ty7 U) i)) 1) (wRw U 879 (kr7 (ty7 U) i) (re7 (ty7 U) (kr7 (ty7 U) i)) 2) j ∧ Xi V 3 j = so) := by sorry
end
section
/-! class and reference: a sentence, told to both -/
theorem SCX.kS {U S T : sS} {f : Nat} (h : SCX U S f) (b : KEP [(907, 911)] [] S T) : SCX U T f := by sorry
theorem RNR.kS {U S T : sS} {f : Nat} {r x y : Int} (h : RNR U S f r x y) (b : KEP [(950, 952)] [] S T) : RNR U T f r x y := by sorry
theorem LRN.kS {U S T : sS} {f n : Nat} {F : Int} (h : LRN U S f F n) (b : KEP [(950, 952)] [] S T) : LRN U T f F n := by sorry
/-- both tell the same fault, or go on alike -/
def STP (U1 T S1 : sS) : Prop := (Xi U1 876 8 ≠ 0 ∧ (NTB (NT3 T) (Xi U1 876 8) (Xi U1 876 9) ∨ ((NT3 T).1 = 0 ∧ NTB (NT3 S1) (Xi U1 876 8) (Xi U1 876 9)))) ∨ (Xi U1 876 8 = 0 ∧ (NT3 T).1 = 0 ∧ (NT3 S1).1 = 0 ∧ RLW U1 S1)
theorem stp_1 {U1 T S1 : sS} {z : Int} (h : SFT U1 z (NT3 T)) (zf : z = 0 → Xi U1 876 8 ≠ 0) (g : (NT3 T).1 = 0 → (NT3 S1).1 = 0 ∧ (z = 1 → RLW U1 S1)) : STP U1 T S1 := by sorry
theorem stp_2 {U1 T S1 : sS} {z : Int} (h : SF2 U1 z (NT3 T) (NT3 S1)) (zf : z = 0 → Xi U1 876 8 ≠ 0) (g : (NT3 T).1 = 0 → (NT3 S1).1 = 0 → z = 1 → RLW U1 S1) : STP U1 T S1 := by sorry
theorem nt_k {T S1 : sS} {fs ks : List (Nat × Nat)} (b : KEP ks fs T S1) (e : (904, 106) ∈ fs) (h : (NT3 T).1 = 0) : (NT3 S1).1 = 0 := by sorry
/-- what a name of a sort means is below the count -/
theorem fnd_wc {U : sS} {s a b : Int} (hs : 0 ≤ s) (hC : CEN U) (w : WHC U) (h : fnd U s a b ≠ -1) : 0 ≤ fnd U s a b ∧ fnd U s a b < wcU U s := by sorry
theorem km_lt {U : sS} {a b : Int} (hC : CEN U) (w : WHC U) (h : kmC U a b ≠ -1) : 0 ≤ kmC U a b ∧ kmC U a b < Xi U 5 0 := by sorry
theorem tm_lt {U : sS} {a b : Int} (hC : CEN U) (w : WHC U) (h : tmC U a b ≠ -1) : 0 ≤ tmC U a b ∧ tmC U a b < Xi U 5 1 := by sorry
theorem wc_s {U : sS} {s : Int} (h : 0 ≤ s ∧ s ≤ 8) : wcU U s = Xi U 5 s.toNat := by sorry
theorem whg_of {U U1 : sS} (h : WHC U) (g : ∀ j : Nat, Xi U 5 j ≤ Xi U1 5 j) : WHG (wcU U1) U := by sorry
theorem frs_s {U : sS} {s w : Int} (h : WHC U) (hs : 0 ≤ s ∧ s ≤ 8) (e : Xi U 5 s.toNat ≤ w) : FRS U s w := by sorry
/-- counts grow at one place -/
theorem cnt_le {U U1 : sS} {c : Nat} {n : Int} (h : Xi U1 5 c = Xi U 5 c + n) (hn : 0 ≤ n) (k : ∀ j, j ≠ c → Xi U1 5 j = Xi U 5 j) (j : Nat) : Xi U 5 j ≤ Xi U1 5 j := by sorry
/-- 18, the good case -/
theorem tcan_g {U U1 : sS} {z nm e a o t : Int} (tc : TCAN U U1 z nm e a o t) (hz : z = 1) (h24 : Xi U 5 3 ≤ 24) : fnd U 0 nm e ≠ -1 ∧ nwC U a o ∧ nw1 U a o (o + 1) t ∧ Xi U 5 3 < 23 := by sorry
theorem st_18 {U U1 S T S1 : sS} {f : Nat} {z nm e a o t : Int} (h : RLW U S) (t3 : TX3 U) (sc : SCX U S f) (k0 : RNR U S f 0 nm e) (k1 : RNR U S f 1 a o) (k2 : RNR U S f 2 (o + 1) t) (hn : Xi U 891 9 = 0) (zf : z = 0 → Xi U1 876 8 ≠ 0) (tc : TCAN U U1 z nm e a o t) (Fc : FR md_re_tellCan__p U U1) (rc : RCAN S (NT3 T)) (Fa : FR md_mo_asked__18f S T) (rd : (NT3 T).1 = 0 → RD18 T S1 ∧ FR md_mo_does__18f T S1) : STP U1 T S1 := by sorry
end
section
/-! class and reference: 19, 17 keep the relation -/
theorem trel_g {U U1 : sS} {z nm e a o l m x y : Int} (tc : TREL U U1 z nm e a o l m x y) (hz : z = 1) : nwC U nm e ∧ Xi U 5 6 < 6 ∧ kmC U a o ≠ -1 ∧ kmC U l m ≠ -1 := by sorry
theorem st_19 {U U1 S T S1 : sS} {f : Nat} {z nm e a o l m x y : Int} (h : RLW U S) (t3 : TX3 U) (sc : SCX U S f) (k0 : RNR U S f 0 nm e) (k1 : RNR U S f 1 a o) (k2 : RNR U S f 2 l m) (hn : Xi U 891 9 = 0) (q1 : x = 22 ↔ Xi S 904 79 ≠ 0) (q2 : y = 22 ↔ Xi S 904 80 ≠ 0) (zf : z = 0 → Xi U1 876 8 ≠ 0) (tc : TREL U U1 z nm e a o l m x y) (Fc : FR md_re_tellRelation__p U U1) (rc : RREL S (NT3 T)) (Fa : FR md_mo_asked__19f S T) (rd : (NT3 T).1 = 0 → RD19 T S1 ∧ FR md_mo_does__19f T S1) : STP U1 T S1 := by sorry
/-- a property more: TYPES of properties, what kinds have -/
theorem thas_g {U U1 : sS} {z nm e a o l t : Int} (tc : THAS U U1 z nm e a o l t) (hz : z = 1) : fnd U 0 nm e ≠ -1 ∧ tmC U a o ≠ -1 ∧ ((fnd U 5 l t ≠ -1 ∧ Xi U 9 (fnd U 5 l t).toNat = tmC U a o) ∨ (mnV U l t = -1 ∧ nwC U l t ∧ Xi U 5 5 < 12)) := by sorry
theorem khr_p {U S1 T : sS} {k p : Int} {n : Int} (h3 : ∀ k p : Nat, (k : Int) < Xi U 5 0 → p < 12 → Xi T 929 (12 * k + p) ≠ 0 → (p : Int) < Xi U 5 5) (hp : 0 ≤ p ∧ p < n) (hk : 0 ≤ k) (h12 : p < 12) (g : Xi U 5 5 ≤ n) (b : KHR T S1 k p) : ∀ j q : Nat, (j : Int) < Xi U 5 0 → q < 12 → Xi S1 929 (12 * j + q) ≠ 0 → (q : Int) < n := by sorry
theorem st_17 {U U1 S T S1 : sS} {f : Nat} {z nm e a o l t : Int} (h : RLW U S) (t3 : TX3 U) (sc : SCX U S f) (k0 : RNR U S f 0 nm e) (k1 : RNR U S f 1 a o) (k2 : RNR U S f 2 l t) (hn : Xi U 891 9 = 0) (zf : z = 0 → Xi U1 876 8 ≠ 0) (tc : THAS U U1 z nm e a o l t) (Fc : FR md_re_tellHas__p U U1) (rc : RHAS S (NT3 T)) (Fa : FR md_mo_asked__17f S T) (rd : (NT3 T).1 = 0 → RD17 T S1 ∧ FR md_mo_does__17f T S1) : STP U1 T S1 := by sorry
end
section
/-! class and reference: 11, 7, 8 keep the relation -/
theorem lst_dec {U U1 : sS} {z c M : Int} {n : Nat} (t : TLS U U1 z c M n) (hz : z = 1) : LOK U c M n := by sorry
theorem st_11 {U U1 S T S1 : sS} {f : Nat} {z : Int} (h : RLW U S) (t3 : TX3 U) (sc : SCX U S f) (l : LRN U S f (Xi S 904 71) (nL U)) (n72 : (Xi S 904 72).toNat = nL U) (hs : Xi S 904 70 = 11) (kw : ty7 U (Xi U 890 3 + 3) = 28 → Xi S 904 78 ≠ -1 ∧ RNR U S f (Xi S 904 78) (Xi U 890 3 + 6) (re7 (ty7 U) (Xi U 890 3 + 6))) (kn : ty7 U (Xi U 890 3 + 3) ≠ 28 → Xi S 904 78 = -1) (hn : Xi U 891 9 = 0) (zf : z = 0 → Xi U1 876 8 ≠ 0) (tc : TACT U U1 z) (Fc : FR md_re_tellActions__p U U1) (rc : RKD S (Xi S 904 71) (cK S) (mK S) (Xi S 904 72).toNat (wK S) (NT3 T)) (Fa : FR md_mo_asked__11f S T) (rd : (NT3 T).1 = 0 → RD11 T S1 ∧ FR md_mo_does__11f T S1) : STP U1 T S1 := by sorry
/-- 7, the good case -/
theorem tvb_g {U U1 : sS} {z e a t : Int} (tc : TVB U U1 z e a t) (hz : z = 1) : vbC U e ∧ nwC U 3 4 ∧ Xi U 5 7 < 8 ∧ fnd U 6 a t ≠ -1 := by sorry
/-- a word with an s, told to both -/
theorem wds_s {w : Int} (hw : wdC w) : WDS (w * 27 + 19) 0 0 (lorF (lshlF (cv w) 5) 19) 0 0 1 (if lshrF (cv w) 55 = 0 then 0 else 1) := by sorry
theorem wds_b {w : Int} (hw : wdC w) (q : (if lshrF (cv w) 55 = 0 then (0 : Int) else 1) = 0) : w * 27 + 19 < 150094635296999121 := by sorry
theorem st_7 {U U1 S T S1 : sS} {f : Nat} {z e a t : Int} (h : RLW U S) (t3 : TX3 U) (sc : SCX U S f) (k0 : RNR U S f 0 3 e) (k1 : RNR U S f 1 a t) (hn : Xi U 891 9 = 0) (zf : z = 0 → Xi U1 876 8 ≠ 0) (tc : TVB U U1 z e a t) (Fc : FR md_re_tellVerb__p U U1) (rc : RVB S (NT3 T)) (Fa : FR md_mo_asked__7f S T) (rd : (NT3 T).1 = 0 → RD7 T S1 ∧ FR md_mo_does__7f T S1) : STP U1 T S1 := by sorry
end
section
/-! class and reference: 8 keeps the relation -/
/-- so many into so many, one to one: every one is met -/
theorem php_s {N : Nat} {f : Nat → Nat} (h1 : ∀ i, i < N → f i < N) (h2 : ∀ i j, i < N → j < N → f i = f j → i = j) (l : Nat) (hl : l < N) : ∃ i, i < N ∧ f i = l := by sorry
theorem voc_us {U S : sS} (h : VOC U S) (us : USW U) : ∀ k l : Nat, (k : Int) < Xi S 904 15 → (l : Int) < Xi S 904 15 → Xi S 914 k = Xi S 914 l → Xi S 915 k = Xi S 915 l → k = l := by sorry
/-- an entry is named anew in both -/
theorem rvo_ren {U U1 S S1 : sS} {p q : Nat} {so wh w0 w1 w2 rs x y z n : Int} (h : RVO U S) (t : NMI U U1 p so wh w0 w1 w2) (o1 : Xi U1 1 3 = Xi U 1 3 ∧ (p : Int) < Xi U 1 3 ∧ Xi U 3 p = so ∧ Xi U 4 p = wh) (t2 : NMR S S1 q rs wh x y z n) (o2 : Xi S1 904 15 = Xi S 904 15 ∧ (q : Int) < Xi S 904 15 ∧ Xi S 914 q = rs ∧ Xi S 915 q = wh) (hs : so = sg7 rs) (hr : 0 ≤ rs ∧ rs ≤ 12) (hso : so = 11 ∨ so = 12) (ws : WDS w0 w1 w2 x y z n 0) (no : NOE U w0 w1 w2) (sh : w0 < 150094635296999121 ∧ w1 < 150094635296999121 ∧ w2 < 150094635296999121) : RVO U1 S1 := by sorry
/-- words of a sentence, short -/
theorem wrw_lt {U S : sS} {a b t : Int} (w : RWD U S a b t) (j : Int) (h0 : 0 ≤ j) : wRw U 879 a b j < 150094635296999121 := by sorry
/-- a plural, named anew or for the first time -/
theorem rvo_pl {U U1 S S1 : sS} {f : Nat} {r a b so rs wh : Int} (h : RVO U S) (hw2 : WHC U) (sc : SCX U S f) (k : RNR U S f r a b) (nw : nwC U a b) (t : TN1 U U1 so wh a b) (t2 : NMW S S1 rs wh r) (hs : so = sg7 rs) (hr : 0 ≤ rs ∧ rs ≤ 12) (hso : so = 11 ∨ so = 12) (hw : 0 ≤ wh ∧ wh ≤ 63) (cx : ∀ j, Xi U1 5 j = Xi U 5 j) (wl : wh < wcU U so) : RVO U1 S1 ∧ WHC U1 := by sorry
theorem tpl_g {U U1 : sS} {z g b a t : Int} (tc : TPL U U1 z g b a t) (hz : z = 1) : ¬ (kmC U g b = -1 ∧ tmC U g b = -1) ∧ nwC U a t := by sorry
theorem st_8 {U U1 S T S1 : sS} {f : Nat} {z g b a t : Int} (h : RLW U S) (t3 : TX3 U) (sc : SCX U S f) (k0 : RNR U S f 0 g b) (k1 : RNR U S f 1 a t) (hn : Xi U 891 9 = 0) (zf : z = 0 → Xi U1 876 8 ≠ 0) (tc : TPL U U1 z g b a t) (Fc : FR md_re_tellPlural__p U U1) (rc : RPL S (NT3 T)) (Fa : FR md_mo_asked__8f S T) (rd : (NT3 T).1 = 0 → RD8 T S1 ∧ FR md_mo_does__8f T S1) : STP U1 T S1 := by sorry
end
section
/-! class and reference: 10 keeps the relation -/
theorem pl_c {w : Int} (hw : wdC w) : (w < 5559060566555523 ∧ lshrF (cv w) 55 = 0 ∧ lorF (lshlF (cv w) 5) 19 = cv (w * 27 + 19)) ∨ (5559060566555523 ≤ w ∧ lshrF (cv w) 55 ≠ 0) := by sorry
theorem cd_s {w : Int} (hw : wdC w) : cd7 (w * 27 + 19) ∧ 0 < w * 27 + 19 := by sorry
/-- the words of a run with an s at the end, in both -/
theorem wds_p {U S : sS} {f : Nat} {r a b : Int} (sc : SCX U S f) (k : RNR U S f r a b) (n3 : b - a ≤ 3) : WDS (wSp U a b 0) (wSp U a b 1) (wSp U a b 2) (wPa S r) (wPb S r) (wPc S r) (b - a) (lgI S r) ∧ (lgI S r = 0 ∨ lgI S r = 1) ∧ (lgI S r = 0 → wSp U a b 0 < 150094635296999121 ∧ wSp U a b 1 < 150094635296999121 ∧ wSp U a b 2 < 150094635296999121) ∧ (∀ j : Int, 0 ≤ j → j < b - a - 1 → wSp U a b j = wRw U 879 a b j) ∧ wSp U a b (b - a - 1) = wRw U 879 a b (b - a - 1) * 27 + 19 ∧ (∀ j : Int, b - a ≤ j → wSp U a b j = 0 ∧ wRw U 879 a b j = 0) ∧ (lgI S r = 1 → 5559060566555523 ≤ wRw U 879 a b (b - a - 1)) := by sorry
theorem wds_l {U S : sS} {f : Nat} {r a b : Int} (sc : SCX U S f) (k : RNR U S f r a b) (n3 : b - a ≤ 3) (q : lgI S r ≠ 0) : WLW (wSp U a b 0) (wSp U a b 1) (wSp U a b 2) (wPa S r) (wPb S r) (wPc S r) (b - a) := by sorry
/-- a triple is the words with an s of another one: the triples without it -/
theorem sp_inj {U S : sS} {f : Nat} {r q a b c d : Int} (sc : SCX U S f) (k : RNR U S f r a b) (l : RNR U S f q c d) (n3 : b - a ≤ 3) (m3 : d - c ≤ 3) (e0 : wSp U a b 0 = wSp U c d 0) (e1 : wSp U a b 1 = wSp U c d 1) (e2 : wSp U a b 2 = wSp U c d 2) : alC U a b c d := by sorry
/-- thirteen letters and an s: such an entry has the run itself as an entry -/
theorem lw_base {U V S : sS} {f : Nat} {r a b : Int} (sc : SCX U S f) (k : RNR U S f r a b) (n3 : b - a ≤ 3) (lg : lgI S r = 1) (l3 : LW3 V) {i : Nat} (hi : (i : Int) < Xi V 1 3) (m : mtC V (wSp U a b 0) (wSp U a b 1) (wSp U a b 2) i) : LWE V (wRw U 879 a b 0) (wRw U 879 a b 1) (wRw U 879 a b 2) := by sorry
theorem lwn_p {U V S : sS} {f : Nat} {r a b : Int} (sc : SCX U S f) (k : RNR U S f r a b) (n3 : b - a ≤ 3) (e : LWE V (wRw U 879 a b 0) (wRw U 879 a b 1) (wRw U 879 a b 2)) : LWN V (wSp U a b 0) (wSp U a b 1) (wSp U a b 2) := by sorry
/-- plurals of the names of a LIST, told to both -/
theorem rvo_plur {U S B B1 : sS} {f N : Nat} {F so rs c : Int} (hB : RVO B B1) (sc : SCX U S f) (l : LRN U S f F N) (ok : ∀ i : Nat, i < N → NWL U i) (fr : ∀ w, c ≤ w → FRS B so w) (hs : so = sg7 rs) (hr : 0 ≤ rs ∧ rs ≤ 12) (h13 : rs = 1 ∨ rs = 3) (hc : 0 ≤ c ∧ c + N ≤ 64) (bs : ∀ i : Nat, i < N → LWE B (wRw U 879 (kr7 (ty7 U) i) (re7 (ty7 U) (kr7 (ty7 U) i)) 0) (wRw U 879 (kr7 (ty7 U) i) (re7 (ty7 U) (kr7 (ty7 U) i)) 1) (wRw U 879 (kr7 (ty7 U) i) (re7 (ty7 U) (kr7 (ty7 U) i)) 2)) (nl : ∀ i : Nat, i < N → lgI S (F + i) = 1 → NOE B (wSp U (kr7 (ty7 U) i) (re7 (ty7 U) (kr7 (ty7 U) i)) 0) (wSp U (kr7 (ty7 U) i) (re7 (ty7 U) (kr7 (ty7 U) i)) 1) (wSp U (kr7 (ty7 U) i) (re7 (ty7 U) (kr7 (ty7 U) i)) 2)) : ∀ (n : Nat) (V V1 : sS), n ≤ N → TPS U so c B n V → TPR S rs c F B1 n V1 → RVO V V1 ∧ (∀ w, c + n ≤ w → FRS V so w) ∧ (∀ i : Nat, i < N → LWE V (wRw U 879 (kr7 (ty7 U) i) (re7 (ty7 U) (kr7 (ty7 U) i)) 0) (wRw U 879 (kr7 (ty7 U) i) (re7 (ty7 U) (kr7 (ty7 U) i)) 1) (wRw U 879 (kr7 (ty7 U) i) (re7 (ty7 U) (kr7 (ty7 U) i)) 2)) ∧ (∀ i : Nat, n ≤ i → i < N → lgI S (F + i) = 1 → NOE V (wSp U (kr7 (ty7 U) i) (re7 (ty7 U) (kr7 (ty7 U) i)) 0) (wSp U (kr7 (ty7 U) i) (re7 (ty7 U) (kr7 (ty7 U) i)) 1) (wSp U (kr7 (ty7 U) i) (re7 (ty7 U) (kr7 (ty7 U) i)) 2)) ∧ (∀ d : Int → Int, WHG d B → (∀ i : Nat, i < n → c + i < d so) → WHG d V) := by sorry
end
end
section
section
/-! class and reference: 10 keeps the relation -/
theorem adv_0 {U S : sS} {c : Nat} {r b : Int} (h : ∀ a : Nat, a < 24 → Xi U (25 + r.toNat) a = 0) (k : ∀ a : Nat, a < 24 → Xi S c (b + a).toNat = 0) : ADV U S c r b := by sorry
theorem pvr_0 {U S : sS} {c : Nat} {r p k : Int} (h : Xi U (66 + r.toNat) p.toNat = 0) (e : Xi S c k.toNat = 0) : PVR U S c r p k := by sorry
theorem st_10 {U U1 S T S1 : sS} {f : Nat} {z : Int} (h : RLW U S) (t3 : TX3 U) (sc : SCX U S f) (l : LRN U S f (Xi S 904 71) (nL U)) (n72 : (Xi S 904 72).toNat = nL U) (hs : Xi S 904 70 = 10) (k1 : tyB U = 1 ↔ Xi S 904 78 = -2) (k2 : ofB U = 1 → tyB U = 0 → Xi S 904 78 ≠ -1 ∧ RNR U S f (Xi S 904 78) (r10 U) (re7 (ty7 U) (r10 U))) (k3 : ofB U = 0 → Xi S 904 78 = -1) (hn : Xi U 891 9 = 0) (zf : z = 0 → Xi U1 876 8 ≠ 0) (tc : TKN U U1 z) (Fc : FR md_re_tellKinds__p U U1) (rc : RKD S (Xi S 904 71) (cK S) (mK S) (Xi S 904 72).toNat (wK S) (NT3 T)) (Fa : FR md_mo_asked__10f S T) (rd : (NT3 T).1 = 0 → RD10 T S1 ∧ FR md_mo_does__10f T S1) : STP U1 T S1 := by sorry
end
section
/-! class and reference: objects, old or new -/
/-- a cell that both write, and nothing else of it -/
theorem ad_r {U S : sS} (kd : KND U S) (ob : OBK U S) {o : Int} (h : 0 ≤ o ∧ o < Xi U 5 2) (k : Int) : isK U (Xi U 21 o.toNat) k = blR S (Xi S 918 o.toNat) k := by sorry
/-- an object's name: what it means, or a new object of kind k -/
def RL3 (U S : sS) : Prop := RVO U S ∧ WHC U ∧ RCT U S ∧ KND U S ∧ RTY U S ∧ RAJ U S ∧ RRE U S ∧ RBT U S ∧ RVA U S ∧ ROB U S ∧ ACY U ∧ RAQ U S ∧ RPR U S
theorem RLW.r3 {U S : sS} (h : RLW U S) : RL3 U S := by sorry
theorem RL3.w {U S : sS} (h : RL3 U S) (a : RWY U S) (b : RSB U S) : RLW U S := by sorry
def cOj : List (Nat × Nat) := [(6, 12), (13, 20), (25, 65), (66, 106), (107, 147), (148, 188), (189, 195), (245, 246), (902, 904)]
theorem SMO_rf (U : sS) : SMO U U := by sorry
theorem st_obx {U U1 S S1 U0 S0 : sS} {f : Nat} {r a b o p k : Int} (h : RLW U S) (t3 : TX3 U) (sc : SCX U0 S0 f) (kr : RNR U0 S0 f r a b) (sm : ∀ j, Xj U 879 j = Xj U0 879 j) (sm2 : (∀ j, Xj S 910 j = Xj S0 910 j) ∧ (∀ j, Xi S 950 j = Xi S0 950 j) ∧ ∀ j, Xi S 951 j = Xi S0 951 j) (hk : 0 ≤ k ∧ k < Xi U 5 0) (nn : fnd U 2 a b = -1 → mnV U a b = -1 ∧ b - a ≤ 3 ∧ Xi U 5 2 < 24) (ob : OBX U U1 o a b k) (F : KEP cOj [(20, 1)] U U1) (ot : OTR S S1 p r k) (G : FR lOT S S1) (fe : fnd U 2 a b = rnR S r 4) : o = p ∧ RL3 U1 S1 ∧ (0 ≤ o ∧ o < Xi U1 5 2) ∧ TX3 U1 ∧ (Xi U 5 2 ≤ Xi U1 5 2) := by sorry
end
section
/-! class and reference: a property, an adjective is told to both -/
theorem fr_stP {U : sS} {r p v l : Int} (hr : 0 ≤ r ∧ r < 40) (hp : 0 ≤ p ∧ p < 12) : FR [(66, 106, 0, 100000), (107, 147, 0, 100000), (148, 188, 0, 100000)] U (stP U r p v l) := by sorry
theorem fr_stA {U : sS} {r a h : Int} (hr : 0 ≤ r ∧ r < 40) (ha : 0 ≤ a ∧ a < 24) (hc : -1 ≤ Xi U 11 a.toNat ∧ Xi U 11 a.toNat < 24) : FR [(25, 65, 0, 100000)] U (stAd U r a h) := by sorry
theorem fr_tP0 {S : sS} {k v l : Int} (hk : 0 ≤ k ∧ k < 1000) : FR [(930, 933, 0, 100000)] S (tPR S 930 k v l) := by sorry
theorem fr_tP3 {S : sS} {k v l : Int} (hk : 0 ≤ k ∧ k < 1000) : FR [(933, 936, 0, 100000)] S (tPR S 933 k v l) := by sorry
theorem fr_rI5 {S : sS} {b a i : Int} (hb : 0 ≤ b ∧ b < 1000) (ha : 0 ≤ a ∧ a < 24) (hc : -1 ≤ Xi S 922 a.toNat ∧ Xi S 922 a.toNat < 24) : FR [(925, 926, 0, 100000)] S (rIs S 925 b a i) := by sorry
theorem fr_rI6 {S : sS} {b a i : Int} (hb : 0 ≤ b ∧ b < 1000) (ha : 0 ≤ a ∧ a < 24) (hc : -1 ≤ Xi S 922 a.toNat ∧ Xi S 922 a.toNat < 24) : FR [(926, 927, 0, 100000)] S (rIs S 926 b a i) := by sorry
/-- all but what was told of properties -/
theorem RLW.p {U A S B : sS} {l m : List rec} (h : RLW U S) (F : FR l U A) (G : FR m S B) (e1 : kepC l [(2, 12), (13, 20), (21, 24), (25, 65), (189, 195), (196, 220), (221, 245)] [(1, 3), (20, 12), (891, 10)] = true) (e2 : kepC m [(912, 923), (924, 930), (936, 946)] cSf = true) (r : RPR A B) : RLW A B := by sorry
/-- all but what was told of adjectives -/
theorem RLW.a {U A S B : sS} {l m : List rec} (h : RLW U S) (t3 : TX3 U) (F : FR l U A) (G : FR m S B) (e1 : kepC l [(2, 12), (13, 20), (21, 24), (66, 106), (107, 147), (148, 188), (189, 195), (196, 220), (221, 245), (245, 246), (902, 904)] cUf = true) (e2 : kepC m [(906, 907), (912, 923), (924, 925), (927, 946)] cSf = true) (r : RAQ A B) : RLW A B := by sorry
theorem smR_y {S : sS} {t : Nat} {a b N : Int} : ∀ (n : Nat) (i : Int), smR S t a b n i ≠ 0 → ∀ j : Int, i ≤ j → j < i + n → Xi S t (a + j).toNat = Xi S t (b + j).toNat := by sorry
/-- the same text again: it stays the class's text -/
theorem txq_s {U S : sS} {a n b m b2 m2 : Int} (h : TXQ U S a n b m) (s : sameR S b m b2 m2 ≠ 0) : TXQ U S a n b2 m2 := by sorry
/-- what both know of a property when it was told to both -/
theorem pvr_t {U A S B : sS} {c : Nat} {r k p v l v2 l2 : Int} (hr : 0 ≤ r ∧ r < 40) (hp : 0 ≤ p ∧ p < 12) (hk : 0 ≤ k) (h : PVR U S c r p (12 * k + p)) (hv : VLQ U S p v l v2 l2) (rv : rg v ∧ rg l ∧ rg v2 ∧ rg l2) (hc : c = 930 ∨ c = 933) (t3 : TX3 U) (t : TPC U A 1 r p v l) (u : TPR1 S B 1 c k p v2 l2) (h9 : Xi U 9 p.toNat = Xi S 928 p.toNat) : PVR A B c r p (12 * k + p) ∧ Xi B c (12 * k + p).toNat = 1 ∧ (A = U ∨ A = stP U r p v l) ∧ B = tPR S c (12 * k + p) v2 l2 := by sorry
/-- a property of an object, told to both -/
theorem rpr_o {U A S B : sS} {o p v l v2 l2 : Int} (h : RLW U S) (t3 : TX3 U) (ho : 0 ≤ o ∧ o < Xi U 5 2) (hp : 0 ≤ p ∧ p < Xi U 5 5) (hv : VLQ U S p v l v2 l2) (rv : rg v ∧ rg l ∧ rg v2 ∧ rg l2) (t : TPC U A 1 o p v l) (u : TPR1 S B 1 930 o p v2 l2) : RLW A B ∧ TX3 A ∧ ∀ j, Xi A 5 j = Xi U 5 j := by sorry
/-- a property of a kind, told to both -/
theorem rpr_k {U A S B : sS} {k p v l v2 l2 : Int} (h : RLW U S) (t3 : TX3 U) (hk : 0 ≤ k ∧ k < Xi U 5 0) (hp : 0 ≤ p ∧ p < Xi U 5 5) (hv : VLQ U S p v l v2 l2) (rv : rg v ∧ rg l ∧ rg v2 ∧ rg l2) (t : TPC U A 1 (24 + k) p v l) (u : TPR1 S B 1 933 k p v2 l2) : RLW A B ∧ TX3 A ∧ ∀ j, Xi A 5 j = Xi U 5 j := by sorry
/-- an adjective's row that both change -/
theorem adv_s2 {U S : sS} {r b a h i : Int} {c : Nat} (v : ADV U S c r b) (k : Xi U 11 a.toNat = Xi S 922 a.toNat ∧ -1 ≤ Xi S 922 a.toNat ∧ Xi S 922 a.toNat < 24) (hb : 0 ≤ b) (ha : 0 ≤ a ∧ a < 24) (hi : h = 0 ↔ i = 0) : ADV (stAd U r a h) (rIs S c b a i) c r b := by sorry
theorem stA_ne {U : sS} {r a h : Int} {x y : Nat} (hx : (x : Int) ≠ r) (h0 : 0 ≤ r) : Xi (stAd U r a h) (25 + x) y = Xi U (25 + x) y := by sorry
theorem rIs_ne {S : sS} {c : Nat} {b a i : Int} {x : Nat} (h1 : (x : Int) < b ∨ b + 24 ≤ (x : Int)) (hb : 0 ≤ b) (ha : 0 ≤ a ∧ a < 24) (hc : -1 ≤ Xi S 922 a.toNat ∧ Xi S 922 a.toNat < 24) : Xi (rIs S c b a i) c x = Xi S c x := by sorry
/-- an adjective of a kind, told to both -/
theorem raq_k {U A S B : sS} {z y k a h i : Int} (hR : RLW U S) (t3 : TX3 U) (hk : 0 ≤ k ∧ k < Xi U 5 0) (ha : 0 ≤ a ∧ a < Xi U 5 3) (hi : h = 0 ↔ i = 0) (t : TADC U A z (24 + k) a h) (u : TISR S B y 926 (24 * k) a i) : z = y ∧ (z = 0 ∨ z = 1) ∧ (z = 1 → RLW A B ∧ TX3 A ∧ ∀ j, Xi A 5 j = Xi U 5 j) := by sorry
end
section
/-! class and reference: 14 keeps the relation -/
theorem RL3.kS {U S S1 : sS} (h : RL3 U S) (b : KEP [(906, 907), (912, 923), (924, 943)] [(904, 15), (904, 16), (904, 18), (904, 19), (904, 23), (904, 30), (904, 32), (904, 41), (904, 47), (904, 49)] S S1) (t3 : TX3 U) : RL3 U S1 := by sorry
theorem RWY.e {U U1 S S1 : sS} (h : RWY U S) (c : RCT U S) (c2 : Xi U 5 2 ≤ Xi U1 5 2) (u : SWY U U1) (s0 : Xi S1 904 51 = Xi S 904 51) (s1 : ∀ j, Xi S1 943 j = Xi S 943 j) (s2 : ∀ j, Xi S1 944 j = Xi S 944 j) (s3 : ∀ j, Xi S1 945 j = Xi S 945 j) : RWY U1 S1 := by sorry
/-- there is room for a way more -/
theorem way_n {U S : sS} {s d : Int} (h : RWY U S) (c : RCT U S) (hs : 0 ≤ s ∧ s < 24) (hd : 0 ≤ d ∧ d < 6) (no : NWY S s d (Xi S 904 51)) : Xi S 904 51 ≤ 143 := by sorry
theorem obm_of {U : sS} (h : WHC U) : OBM U := by sorry
theorem st_14 {U U1 S T S1 : sS} {f : Nat} {z : Int} (h : RLW U S) (t3 : TX3 U) (sc : SCX U S f) (k0 : RNR U S f (Xi S 904 71) (n14 U) (e14 U)) (s1 : 1 < Xi S 904 72 → sn2 U ≠ -1 ∧ pc7 U (sn2 U) = pR S (Xi S 904 71 + 1)) (s2 : Xi S 904 72 ≤ 1 → sn2 U = -1) (k1 : RNR U S f (Xi S 904 78) (Xi U 890 3 + 1) (o14 U)) (k2 : RNR U S f (Xi S 904 74) (l14 U) (re7 (ty7 U) (l14 U))) (hn : Xi U 891 9 = 0) (zf : z = 0 → Xi U1 876 8 ≠ 0) (tc : TW14 U U1 z) (Fc : FR md_re_tellWay__p U U1) (rc : RW14 S (NT3 T)) (Fa : FR md_mo_asked__14f S T) (rd : (NT3 T).1 = 0 → RD14 T S1 ∧ FR md_mo_does__14f T S1) : STP U1 T S1 := by sorry
end
section
/-! class and reference: 0, 9 keep the relation -/
theorem ren_min {S : sS} {lim : Int} : ∀ (n : Nat) (r : Int), r ≤ lim → ren S lim n r = if reF (ty7 S) n r ≤ lim then reF (ty7 S) n r else lim := by sorry
/-- a value's name: at most three words count -/
theorem mn_4 {U : sS} {w : Int} : mnV U w (ruF U w (w + 4)) = mnV U w (re7 (ty7 U) w) := by sorry
theorem tr_101 {t : Int} (h : 0 ≤ t ∧ t ≤ 108) : (tr7 t = 4 ↔ t = 101) ∧ (tr7 t = 5 ↔ t = 102) := by sorry
/-- the WHAT at a row, in both -/
theorem whr_r {U S : sS} {f : Nat} {w tp : Int} (sc : SCX U S f) (v : RVO U S) (wh : WHC U) (ty : RTY U S) (hw : 0 ≤ w ∧ w < Xi U 876 7) (tb : 0 ≤ ty7 U w ∧ ty7 U w ≤ 108) (g : ty7 U w = 101 ∨ ty7 U w = 102 ∨ ty7 U w = 100) (k : ty7 U w = 100 → RNR U S f 2 w (re7 (ty7 U) w)) : (∀ x l : Int, WHR U w tp x l → wOKR S (f + w) 2 tp ∧ x = wvR S (f + w) 2 ∧ l = wlR S (f + w) ∧ (tp = 1 → ty7 U w = 102)) ∧ (wOKR S (f + w) 2 tp → ∃ x l : Int, WHR U w tp x l) := by sorry
/-- a TEXT at a row is the same bytes in both -/
theorem txt_r {U S : sS} {f : Nat} {w : Int} (sc : SCX U S f) (st : RST U S) (tok : TOK U) (hpl : 0 ≤ Xi U 878 w.toNat) (hw : 0 ≤ w ∧ w < Xi U 876 7) (t : ty7 U w = 102) : TXQ U S (pc7 U w + 1) (Xj U 879 w.toNat) (Xi S 908 (f + w.toNat) + 1) (Xi S 909 (f + w.toNat)) := by sorry
theorem st_0 {U U1 S T S1 : sS} {f : Nat} {z : Int} (h : RLW U S) (t3 : TX3 U) (sc : SCX U S f) (st : RST U S) (tok : TOK U) (hpl : 0 ≤ Xi U 878 0) (r0 : 0 < Xi U 876 7) (ty0 : ty7 U 0 = 102) (e81 : Xi S 904 81 = f) (f0 : Xi U 876 8 = 0) (zf : z = 0 → Xi U1 876 8 ≠ 0) (tc : TDE U U1 z) (ra : RA0 S T) (Fa : FR md_mo_asked__0f S T) (rd : (NT3 T).1 = 0 → RD0 T S1 f) : STP U1 T S1 := by sorry
/-- 9 -/
theorem st_9 {U U1 S T S1 : sS} {f : Nat} {z e1 b e2 : Int} {g : List rec} (h : RLW U S) (t3 : TX3 U) (sc : SCX U S f) (st : RST U S) (tok : TOK U) (hpl : ∀ j : Nat, 0 ≤ Xi U 878 j) (k0 : RNR U S f 0 1 e1) (k1 : RNR U S f 1 b e2) (hw : 0 ≤ Xi U 890 3 + 1 ∧ Xi U 890 3 + 1 < Xi U 876 7) (tb : 0 ≤ ty7 U (Xi U 890 3 + 1) ∧ ty7 U (Xi U 890 3 + 1) ≤ 108) (tg : ty7 U (Xi U 890 3 + 1) = 101 ∨ ty7 U (Xi U 890 3 + 1) = 102 ∨ ty7 U (Xi U 890 3 + 1) = 100) (k2 : ty7 U (Xi U 890 3 + 1) = 100 → RNR U S f 2 (Xi U 890 3 + 1) (re7 (ty7 U) (Xi U 890 3 + 1))) (e78 : Xi S 904 78 = f + (Xi U 890 3 + 1)) (zf : z = 0 → Xi U1 876 8 ≠ 0) (hg : kepC g cUk cUf = true) (tc : TPY g U U1 z e1 b e2 (Xi U 890 3 + 1)) (rc : RPY S T) (Fa : FR md_mo_asked__9f S T) (rd : (NT3 T).1 = 0 → RD9 T S1) : STP U1 T S1 := by sorry
end
section
/-! class and reference: ADJECTIVES, DESCRIPTIONS -/
theorem hs_01 {S : sS} {p : Int} : ∀ (f : Nat) (k : Int), hsN S p f k = 0 ∨ hsN S p f k = 1 := by sorry
theorem hs_lt {U S : sS} {p : Int} (kd : KND U S) (ty : RTY U S) (hp : 0 ≤ p ∧ p < 12) : ∀ (f : Nat) (k : Int), k < Xi U 5 0 → hsN S p f k ≠ 0 → p < Xi U 5 5 := by sorry
theorem bl_01 {S : sS} {o : Int} : ∀ (f : Nat) (k : Int), blN S o f k = 0 ∨ blN S o f k = 1 := by sorry
/-- how often -/
def cqn (b : Nat → Bool) : Nat → Int
  | 0 => 0
  | m + 1 => cqn b m + (if b m then 1 else 0)
theorem cqn_nn {b : Nat → Bool} : ∀ m : Nat, 0 ≤ cqn b m := by sorry
theorem cqn_f {b : Nat → Bool} {m : Nat} : ∀ n : Nat, (∀ i, m ≤ i → i < m + n → b i = false) → cqn b (m + n) = cqn b m := by sorry
theorem cqn_1 {b : Nat → Bool} : ∀ m : Nat, cqn b m = 1 → ∃ p : Nat, p < m ∧ b p = true ∧ ∀ i, i < m → b i = true → i = p := by sorry
theorem mtN_c {S : sS} {k t : Int} {b : Nat → Bool} : ∀ m : Nat, (∀ i, i < m → (b i = true ↔ Xi S 928 i = t ∧ hsR S k i = 1)) → mtN S k t m = cqn b m := by sorry
theorem rvn_c {U : sS} {hs t : Int} {b : Nat → Bool} : ∀ (n : Nat) (p : Nat) (c : Int), (∀ i, p ≤ i → i < p + n → (b i = true ↔ iandF (ishrF hs i) 1 = 1 ∧ Xi U 9 i = t)) → rvn U hs t n p c = c + cqn b (p + n) - cqn b p := by sorry
theorem rln_o {U : sS} {hs t : Int} {b : Nat → Bool} : ∀ (n : Nat) (p : Nat) (l : Int), (∀ i, p ≤ i → i < p + n → (b i = true ↔ iandF (ishrF hs i) 1 = 1 ∧ Xi U 9 i = t)) → (∀ i, p ≤ i → i < p + n → b i = false) → rln U hs t n p l = l := by sorry
theorem rln_1 {U : sS} {hs t : Int} {b : Nat → Bool} {q : Nat} (hq : b q = true) : ∀ (n : Nat) (p : Nat) (l : Int), (∀ i, p ≤ i → i < p + n → (b i = true ↔ iandF (ishrF hs i) 1 = 1 ∧ Xi U 9 i = t)) → (∀ i, p ≤ i → i < p + n → b i = true → i = q) → p ≤ q → q < p + n → rln U hs t n p l = q := by sorry
theorem fpN_n {S : sS} {k t : Int} {b : Nat → Bool} : ∀ m : Nat, (∀ i, i < m → (b i = true ↔ Xi S 928 i = t ∧ hsR S k i = 1)) → (∀ i, i < m → b i = false) → fpN S k t m = -1 := by sorry
theorem fpN_1 {S : sS} {k t : Int} {b : Nat → Bool} {q : Nat} (hq : b q = true) : ∀ m : Nat, (∀ i, i < m → (b i = true ↔ Xi S 928 i = t ∧ hsR S k i = 1)) → (∀ i, i < m → b i = true → i = q) → q < m → fpN S k t m = q := by sorry
/-- a value of a kind: how many properties, and which -/
theorem val_r {U S : sS} {k t : Int} (kd : KND U S) (ty : RTY U S) (c : RCT U S) (hk : 0 ≤ k ∧ k < Xi U 5 0) : rvn U (pps U k) t 12 0 0 = mtR S k t ∧ (mtR S k t = 1 → rln U (pps U k) t 12 0 (-1) = pyR S k t ∧ 0 ≤ pyR S k t ∧ pyR S k t < Xi U 5 5) ∧ 0 ≤ mtR S k t := by sorry
/-- an ADJECTIVE, in the class's and in the reference's numbers -/
def COD (m p c : Int) : Prop := (p = -1 ∧ c = m ∧ 0 ≤ m ∧ m < 24) ∨ ((0 ≤ p ∧ p < 12) ∧ c = 100 + 100 * m + p ∧ 0 ≤ m ∧ m < 64)
theorem adj_r {U S : sS} {a b t n k d v : Int} (h : RLW U S) (m : mnV U a b = mR S t n) (hk : 0 ≤ k ∧ k < Xi U 5 0) : raF U k a b v d = adR S t n k d v ∧ (adR S t n k d v = 1 → COD (mnV U a b % 256) (rlF U k a b v) (acR S t n k d v) ∧ (rlF U k a b v = -1 → mnV U a b % 256 < Xi U 5 3) ∧ (rlF U k a b v ≠ -1 → rlF U k a b v < Xi U 5 5 ∧ mnV U a b % 256 < Xi U 5 4 ∧ Xi U 8 (mnV U a b % 256).toNat ≠ 1 ∧ Xi U 9 (rlF U k a b v).toNat = Xi U 8 (mnV U a b % 256).toNat)) := by sorry
/-- the same readings, counted from another place on -/
theorem cpf_sh {f g : Int → Int → Int} {z s : Int} (h : ∀ x y : Int, 0 ≤ x → x < y → y ≤ z → f x y = g (x + s) (y + s)) : ∀ m : Nat, (m : Int) ≤ z → cpf f z m = cpf g (z + s) m := by sorry
theorem nxt_sh {f g : Int → Int → Int} {z s p : Int} (h : ∀ x y : Int, 0 ≤ x → x < y → y ≤ z → f x y = g (x + s) (y + s)) (hp : 0 ≤ p) : nxt f z p = nxt g (z + s) (p + s) := by sorry
theorem mul_1 {a b : Int} (ha : 0 ≤ a) (hb : 0 ≤ b) (h : a * b = 1) : a = 1 ∧ b = 1 := by sorry
/-- where there is one reading, each part has one -/
theorem one_p {f : Int → Int → Int} {z p : Int} (nn : ∀ a b, 0 ≤ f a b) (hp : p < z) (h : cpf f z (z - p).toNat = 1) : p + nxt f z p ≤ z ∧ f p (p + nxt f z p) = 1 ∧ cpf f z (z - (p + nxt f z p)).toNat = 1 := by sorry
/-- the parts of the one reading, in both -/
theorem prs_sh {f g u v w : Int → Int → Int} {z s : Int} {P : Int → Int → Int → Prop} (nn : ∀ a b, 0 ≤ f a b) (h : ∀ x y : Int, 0 ≤ x → x < y → y ≤ z → f x y = g (x + s) (y + s)) (k : ∀ x y : Int, 0 ≤ x → x < y → y ≤ z → f x y = 1 → P (u x y) (v x y) (w (x + s) (y + s))) : ∀ (n : Nat) (p : Int), 0 ≤ p → (p < z → cpf f z (z - p).toNat = 1) → (prs f u z n p).length = (prs g w (z + s) n (p + s)).length ∧ ∀ i : Nat, i < (prs f u z n p).length → P ((prs f u z n p).getD i 0) ((prs f v z n p).getD i 0) ((prs g w (z + s) n (p + s)).getD i 0) := by sorry
end
section
/-! class and reference: DESCRIPTIONS, LISTS of objects, places -/
theorem fa_r {U S : sS} {f : Nat} {r a t k d : Int} (h : RLW U S) (sc : SCX U S f) (kr : RNR U S f r a t) (hk : 0 ≤ k ∧ k < Xi U 5 0) {x y : Int} (h0 : 0 ≤ x) (h1 : x < y) (h2 : y ≤ t - a) : fA U k a d x y = fRa S k d (x + (f + a)) (y + (f + a)) ∧ mnV U (a + x) (a + y) = mR S (x + (f + a)) (y - x) := by sorry
theorem ck_r {U S : sS} {f : Nat} {r a t pl m : Int} (h : RLW U S) (sc : SCX U S f) (kr : RNR U S f r a t) (hm : 1 ≤ m ∧ m ≤ 3 ∧ m ≤ t - a) : ckC U t pl m = dkR S (f + a) (t - a) pl m ∧ (ckC U t pl m ≠ -1 → 0 ≤ ckC U t pl m ∧ ckC U t pl m < Xi U 5 0) := by sorry
theorem cc_r {U S : sS} {f : Nat} {r a t pl d al m : Int} (h : RLW U S) (sc : SCX U S f) (kr : RNR U S f r a t) (h6 : t - a ≤ 6) (hm : 1 ≤ m ∧ m ≤ 3 ∧ m ≤ t - a) : ccC U a t pl d al m = dcR S (f + a) (t - a) pl d al m := by sorry
theorem ct_r {U S : sS} {f : Nat} {r a t pl d al : Int} (h : RLW U S) (sc : SCX U S f) (kr : RNR U S f r a t) (h6 : t - a ≤ 6) : ccT U a t pl d al 4 = dcT S (f + a) (t - a) pl d al 4 := by sorry
theorem d1_u {S : sS} {f n pl d al m k : Int} (h32 : 0 ≤ Xi S 904 32 ∧ Xi S 904 32 ≤ 12) (h : dcT S f n pl d al 4 = 1) (hm : 1 ≤ m ∧ m ≤ 3 ∧ m ≤ n) (hk : 1 ≤ k ∧ k ≤ 3 ∧ k ≤ n) (em : dcR S f n pl d al m = 1) (ek : dcR S f n pl d al k = 1) : m = k := by sorry
/-- what is kept of a DESCRIPTION -/
def DSK (U V : sS) (c3 c4 c5 : Int) (U0 : sS) : Prop := Xi U 895 12 = Xi V 904 110 ∧ (0 ≤ Xi U 895 12 ∧ Xi U 895 12 < Xi U0 5 0) ∧ Xi U 895 14 = Xi V 904 112 ∧ ∀ i : Nat, (i : Int) < Xi U 895 14 → COD (Xi U 896 i) (Xi U 897 i) (Xi V 967 i) ∧ (Xi U 897 i = -1 → Xi U 896 i < c3) ∧ (Xi U 897 i ≠ -1 → Xi U 897 i < c5 ∧ Xi U 896 i < c4 ∧ Xi U0 8 (Xi U 896 i).toNat ≠ 1 ∧ Xi U0 9 (Xi U 897 i).toNat = Xi U0 8 (Xi U 896 i).toNat)
theorem dsk_of {U U1 S V : sS} {f : Nat} {r a t pl d al m k : Int} (h : RLW U S) (sc : SCX U S f) (kr : RNR U S f r a t) (h6 : t - a ≤ 6) (hm : 1 ≤ m ∧ m ≤ 3 ∧ m ≤ t - a) (hk : 1 ≤ k ∧ k ≤ 3 ∧ k ≤ t - a) (c1 : ccT U a t pl d al 4 = 1) (em : ccC U a t pl d al m = 1) (ek : dcR S (f + a) (t - a) pl d al k = 1) (e12 : Xi U1 895 12 = ckC U t pl m) (kp : KPC U1 (fA U (ckC U t pl m) a d) (g1C U a) (g2C U (ckC U t pl m) a) (t - m - a)) (kd : KRD S V (f + a) (t - a) pl d k) : DSK U1 V (Xi U 5 3) (Xi U 5 4) (Xi U 5 5) U := by sorry
/-! lists of objects -/
theorem mi_r {U S : sS} {f N i : Nat} {F : Int} (h : RVO U S) (sc : SCX U S f) (l : LRN U S f F N) (hi : i < N) : (mI U i = -1 ↔ rmR S (F + i) = -1) ∧ fI U i = rnR S (F + i) 4 := by sorry
theorem nw_nm {U S : sS} {f N : Nat} {F : Int} (h : RVO U S) (sc : SCX U S f) (l : LRN U S f F N) : ∀ n : Nat, n ≤ N → nwn U n = nwm S F n := by sorry
theorem nwi_r {U S : sS} {f N i : Nat} {F : Int} (h : RVO U S) (sc : SCX U S f) (l : LRN U S f F N) (hi : i < N) : NWI U i ↔ NWQ S F i := by sorry
theorem fi_mi {U : sS} {i : Nat} (h : fI U i ≠ -1) : mI U i ≠ -1 := by sorry
theorem oki_r {U S : sS} {f N i : Nat} {F : Int} (h : RVO U S) (c : Xi U 5 2 = Xi S 904 19) (sc : SCX U S f) (l : LRN U S f F N) (hi : i < N) : OKI U i ↔ OKQ S F i := by sorry
theorem loo_r {U S : sS} {f N n : Nat} {F : Int} (h : RVO U S) (c : Xi U 5 2 = Xi S 904 19) (sc : SCX U S f) (l : LRN U S f F N) (hn : n ≤ N) : LOO U n ↔ LOQ S F n := by sorry
theorem loo_n {U : sS} : ∀ n : Nat, ¬ LOO U n → ∃ k : Nat, k < n ∧ LOO U k ∧ ¬ OKI U k := by sorry
theorem lob_f {U U1 S T S1 : sS} {f N : Nat} {F z : Int} (h : RVO U S) (c : Xi U 5 2 = Xi S 904 19) (sc : SCX U S f) (l : LRN U S f F N) (t : TLO U U1 z N) (r : RLO S F N (NT3 T)) (q : ¬ LOO U N) : STP U1 T S1 := by sorry
/-! places -/
theorem hold_r {U S : sS} {o w : Int} (kd : KND U S) (ob : OBK U S) (ho : 0 ≤ o ∧ o < Xi U 5 2) (hw : 1 ≤ w ∧ w ≤ 5) : chC U o w = mhR S w (Xi S 918 o.toNat) := by sorry
theorem pl_r {U S : sS} {f : Nat} {a : Int} (h : RLW U S) (sc : SCX U S f) (k : RNR U S f (Xi S 904 74) (rPl U a) (re7 (ty7 U) (rPl U a))) (e : Xi S 904 73 = wyC (ty7 U a)) : (PL1 U a ↔ PR1 S) ∧ hPl U a = rnR S (Xi S 904 74) 4 := by sorry
end
section
/-! class and reference: as before, without the latest object -/
def RLV (U S : sS) : Prop := RVO U S ∧ WHC U ∧ RCT U S ∧ KND U S ∧ RTY U S ∧ RAJ U S ∧ RRE U S ∧ RBT U S ∧ RVA U S ∧ ROB U S ∧ ACY U ∧ RAQ U S ∧ RPR U S ∧ RWY U S
theorem RLW.v {U S : sS} (h : RLW U S) : RLV U S := by sorry
theorem RLV.w {U S : sS} (h : RLV U S) (b : RSB U S) : RLW U S := by sorry
theorem RLV.r3 {U S : sS} (h : RLV U S) : RL3 U S := by sorry
theorem RL3.v {U S : sS} (h : RL3 U S) (a : RWY U S) : RLV U S := by sorry
theorem RLV.k {U U1 S S1 : sS} (h : RLV U S) (t3 : TX3 U) (a : KEP [(2, 12), (13, 20), (21, 24), (25, 65), (66, 106), (107, 147), (148, 188), (189, 195), (196, 220), (221, 245), (245, 246), (902, 904)] [(1, 3), (20, 1), (20, 12)] U U1) (b : KEP cSk [(904, 15), (904, 16), (904, 18), (904, 19), (904, 23), (904, 30), (904, 32), (904, 41), (904, 47), (904, 49), (904, 51)] S S1) : RLV U1 S1 := by sorry
theorem st_obv {U U1 S S1 U0 S0 : sS} {f : Nat} {r a b o p k : Int} (h : RL3 U S) (t3 : TX3 U) (sc : SCX U0 S0 f) (kr : RNR U0 S0 f r a b) (sm : ∀ j, Xj U 879 j = Xj U0 879 j) (sm2 : (∀ j, Xj S 910 j = Xj S0 910 j) ∧ (∀ j, Xi S 950 j = Xi S0 950 j) ∧ ∀ j, Xi S 951 j = Xi S0 951 j) (hk : 0 ≤ k ∧ k < Xi U 5 0) (nn : fnd U 2 a b = -1 → mnV U a b = -1 ∧ b - a ≤ 3 ∧ Xi U 5 2 < 24) (ob : OBX U U1 o a b k) (F : KEP cOj [(20, 1)] U U1) (ot : OTR S S1 p r k) (G : FR lOT S S1) (fe : fnd U 2 a b = rnR S r 4) : o = p ∧ RL3 U1 S1 ∧ (0 ≤ o ∧ o < Xi U1 5 2) ∧ TX3 U1 ∧ (Xi U 5 2 ≤ Xi U1 5 2) := by sorry
theorem RLV.p {U A S B : sS} {l m : List rec} (h : RLV U S) (F : FR l U A) (G : FR m S B) (e1 : kepC l [(2, 12), (13, 20), (21, 24), (25, 65), (189, 195), (196, 220), (221, 245)] [(1, 3), (20, 12)] = true) (e2 : kepC m [(912, 923), (924, 930), (936, 946)] [(904, 15), (904, 16), (904, 18), (904, 19), (904, 23), (904, 30), (904, 32), (904, 41), (904, 47), (904, 49), (904, 51)] = true) (r : RPR A B) : RLV A B := by sorry
theorem RLV.a {U A S B : sS} {l m : List rec} (h : RLV U S) (t3 : TX3 U) (F : FR l U A) (G : FR m S B) (e1 : kepC l [(2, 12), (13, 20), (21, 24), (66, 106), (107, 147), (148, 188), (189, 195), (196, 220), (221, 245), (245, 246), (902, 904)] [(1, 3), (20, 1), (20, 12)] = true) (e2 : kepC m [(906, 907), (912, 923), (924, 925), (927, 946)] [(904, 15), (904, 16), (904, 18), (904, 19), (904, 23), (904, 30), (904, 32), (904, 41), (904, 47), (904, 49), (904, 51)] = true) (r : RAQ A B) : RLV A B := by sorry
theorem rpv_o {U A S B : sS} {o p v l v2 l2 : Int} (h : RLV U S) (t3 : TX3 U) (ho : 0 ≤ o ∧ o < Xi U 5 2) (hp : 0 ≤ p ∧ p < Xi U 5 5) (hv : VLQ U S p v l v2 l2) (rv : rg v ∧ rg l ∧ rg v2 ∧ rg l2) (t : TPC U A 1 o p v l) (u : TPR1 S B 1 930 o p v2 l2) : RLV A B ∧ TX3 A ∧ ∀ j, Xi A 5 j = Xi U 5 j := by sorry
theorem rav_o {U A S B : sS} {z y o a h i : Int} (hR : RLV U S) (t3 : TX3 U) (ho : 0 ≤ o ∧ o < Xi U 5 2) (ha : 0 ≤ a ∧ a < Xi U 5 3) (hi : h = 0 ↔ i = 0) (t : TADC U A z o a h) (u : TISR S B y 925 (24 * o) a i) : z = y ∧ (z = 0 ∨ z = 1) ∧ (z = 1 → RLV A B ∧ TX3 A ∧ ∀ j, Xi A 5 j = Xi U 5 j) := by sorry
end
section
/-! class and reference: one object of a LIST -/
def lT1 : List rec := [(25, 65, 0, 100000), (66, 106, 0, 100000), (107, 147, 0, 100000), (148, 188, 0, 100000)]
def lTR : List rec := [(925, 926, 0, 100000), (930, 933, 0, 100000)]
theorem t1_r {W A D B : sS} {z y o m p c hh ii : Int} (h : RLV W D) (t3 : TX3 W) (ho : 0 ≤ o ∧ o < Xi W 5 2) (cd : COD m p c) (b1 : p = -1 → m < Xi W 5 3) (b2 : p ≠ -1 → p < Xi W 5 5 ∧ m < Xi W 5 4 ∧ Xi W 8 m.toNat ≠ 1 ∧ Xi W 9 p.toNat = Xi W 8 m.toNat) (hi : hh = 0 ↔ ii = 0) (t : T1C W A z o m p hh) (u : TRD D B y o c ii) : z = y ∧ (z = 0 ∨ z = 1) ∧ (z = 1 → RLV A B ∧ TX3 A ∧ FR lT1 W A ∧ FR lTR D B) := by sorry
/-- the ADJECTIVES of a DESCRIPTION at the class's C, the reference's T -/
def CDS (C T W : sS) (N : Nat) : Prop := ∀ i : Nat, i < N → COD (Xi C 896 i) (Xi C 897 i) (Xi T 967 i) ∧ (Xi C 897 i = -1 → Xi C 896 i < Xi W 5 3) ∧ (Xi C 897 i ≠ -1 → Xi C 897 i < Xi W 5 5 ∧ Xi C 896 i < Xi W 5 4 ∧ Xi W 8 (Xi C 896 i).toNat ≠ 1 ∧ Xi W 9 (Xi C 897 i).toNat = Xi W 8 (Xi C 896 i).toNat)
theorem CDS.k {C T W V : sS} {N : Nat} (h : CDS C T W N) (a5 : ∀ j, j ≠ 2 → Xi V 5 j = Xi W 5 j) (a8 : ∀ j, Xi V 8 j = Xi W 8 j) (a9 : ∀ j, Xi V 9 j = Xi W 9 j) : CDS C T V N := by sorry
theorem adc_r {C C' T : sS} {o : Int} {N : Nat} (h : RLV C C') (t3 : TX3 C) (ho : 0 ≤ o ∧ o < Xi C 5 2) (cd : CDS C T C N) : ∀ (n : Nat) (V V' : sS), n ≤ N → ADC C o n V → RAC T C' o n V' → RLV V V' ∧ TX3 V ∧ FR lT1 C V ∧ FR lTR C' V' := by sorry
theorem adc_p {C : sS} {o : Int} : ∀ (n i : Nat) (V : sS), i < n → ADC C o n V → ∃ W X : sS, ADC C o i W ∧ T1C W X 1 o (Xi C 896 i) (Xi C 897 i) 1 := by sorry
theorem rac_p {T C' : sS} {o : Int} : ∀ (n i : Nat) (V : sS), i < n → RAC T C' o n V → ∃ W X : sS, RAC T C' o i W ∧ TRD W X 1 o (Xi T 967 i) 1 := by sorry
/-- all the ADJECTIVES, or a fault, in both -/
theorem tac_r {C C' T B : sS} {z o : Int} (h : RLV C C') (t3 : TX3 C) (ho : 0 ≤ o ∧ o < Xi C 5 2) (cd : CDS C T C (Xi C 895 14).toNat) (n14 : (Xi T 904 112).toNat = (Xi C 895 14).toNat) (n0 : 0 ≤ Xi C 895 14) (t : TAC C B z o) (hz : z = 0 ∨ z = 1) : (∀ B' : sS, RAC T C' o (Xi T 904 112).toNat B' → z = 1 ∧ RLV B B' ∧ TX3 B ∧ FR lT1 C B ∧ FR lTR C' B') ∧ ((∃ (D E : sS) (i : Nat), (i : Int) < Xi T 904 112 ∧ RAC T C' o i D ∧ TRD D E 0 o (Xi T 967 i) 1) → z = 0) := by sorry
/-- the kind that an object is told to be of -/
theorem tkd_r {A A' C : sS} {z o k : Int} (h : RLV A A') (t3 : TX3 A) (ho : 0 ≤ o ∧ o < Xi A 5 2) (hk : 0 ≤ k ∧ k < Xi A 5 0) (t : TKDC A C z o k) : (∀ C' : sS, RK1 A' C' o k → z = 1 ∧ RLV C C' ∧ TX3 C ∧ FR [(21, 22, 0, 100000)] A C ∧ FR [(918, 919, 0, 100000)] A' C') ∧ (RK0 A' o k → z = 0) := by sorry
end
end
section
section
/-! class and reference: places, one object after the other -/
theorem iw_r {U S : sS} {x : Int} (ob : ROB U S) : ∀ (n : Nat) (o : Int), -1 ≤ o → o < Xi U 5 2 → isWn U x n o = wiN S x n o := by sorry
/-- where one comes, step by step -/
def itS (U : sS) (y : Int) : Int := if y < 0 then y else Xi U 23 y.toNat
def itH (U : sS) : Nat → Int → Int
  | 0, x => x
  | n + 1, x => itS U (itH U n x)
theorem it_f {U : sS} : ∀ (n : Nat) (x : Int), itH U n (itS U x) = itH U (n + 1) x := by sorry
theorem it_neg {U : sS} {x : Int} : ∀ (n i : Nat), itH U i x < 0 → itH U (i + n) x = itH U i x := by sorry
theorem it_b {U : sS} {x : Int} (hb : ∀ o : Nat, (o : Int) < Xi U 5 2 → Xi U 23 o < Xi U 5 2) (hx : x < Xi U 5 2) : ∀ n : Nat, itH U n x < Xi U 5 2 := by sorry
theorem iw_y {U : sS} {x : Int} (hx : 0 ≤ x) : ∀ (n : Nat) (o : Int), isWn U x n o = 1 ↔ ∃ k : Nat, k < n ∧ itH U k o = x := by sorry
theorem it_rk {U : sS} {rk : Nat → Nat} {x : Int} (hr : ∀ o : Nat, (o : Int) < Xi U 5 2 → 0 ≤ Xi U 23 o → rk (Xi U 23 o).toNat < rk o) (hb : ∀ o : Nat, (o : Int) < Xi U 5 2 → Xi U 23 o < Xi U 5 2) (hx : x < Xi U 5 2) : ∀ k : Nat, 0 ≤ itH U k x → rk (itH U k x).toNat + k ≤ rk x.toNat := by sorry
/-- within 25 steps, or never -/
theorem it_25 {U : sS} {rk : Nat → Nat} {x o : Int} (hr : ∀ o : Nat, (o : Int) < Xi U 5 2 → 0 ≤ Xi U 23 o → rk (Xi U 23 o).toNat < rk o) (hb : ∀ o : Nat, (o : Int) < Xi U 5 2 → Xi U 23 o < Xi U 5 2) (h24 : Xi U 5 2 ≤ 24) (hx : x < Xi U 5 2) (ho : 0 ≤ o) {k : Nat} (e : itH U k x = o) : k < 25 := by sorry
/-- a place more: still no ring -/
theorem acy_p {U U1 S : sS} {o w : Int} (ob : ROB U S) (a : ACY U) (c : RCT U S) (ho : 0 ≤ o ∧ o < Xi U 5 2) (hw : 0 ≤ w ∧ w < Xi U 5 2) (n : isW U w o ≠ 1) (e5 : Xi U1 5 2 = Xi U 5 2) (e1 : Xi U1 23 o.toNat = w) (e2 : ∀ j : Nat, j ≠ o.toNat → Xi U1 23 j = Xi U 23 j) : ACY U1 := by sorry
/-- a place, told to both -/
theorem tpl_r {B B' V : sS} {z o wy hd : Int} (h : RLV B B') (t3 : TX3 B) (ho : 0 ≤ o ∧ o < Xi B 5 2) (hw : 1 ≤ wy ∧ wy ≤ 5) (hh : 0 ≤ hd ∧ hd < Xi B 5 2) (e73 : Xi B' 904 73 = wy) (e74 : rnR B' (Xi B' 904 74) 4 = hd) (t : TPLC B V z o wy hd) : (PLN B' o → wiR B' hd o = 0 → z = 0 ∧ ∀ V' : sS, V' = uI (uI B' 919 o.toNat (Int32.ofInt wy)) 920 o.toNat (Int32.ofInt hd) → RLV V V' ∧ TX3 V ∧ FR [(22, 23, 0, 100000), (23, 24, 0, 100000)] B V ∧ FR [(919, 920, 0, 100000), (920, 921, 0, 100000)] B' V') ∧ (¬ PLN B' o → z = 5) ∧ (PLN B' o → wiR B' hd o ≠ 0 → z = 6) := by sorry
end
section
/-! class and reference: the objects of a LIST, one after the other -/
def lCH : List rec := [(1, 2, 3, 4), (2, 3, 0, 100000), (3, 4, 0, 100000), (4, 5, 0, 100000), (5, 6, 0, 100000), (21, 22, 0, 100000), (22, 23, 0, 100000), (23, 24, 0, 100000), (25, 65, 0, 100000), (66, 106, 0, 100000), (107, 147, 0, 100000), (148, 188, 0, 100000)]
def lRH : List rec := [(904, 905, 15, 16), (904, 905, 19, 20), (912, 913, 0, 100000), (913, 914, 0, 100000), (914, 915, 0, 100000), (915, 916, 0, 100000), (916, 917, 0, 100000), (918, 919, 0, 100000), (919, 920, 0, 100000), (920, 921, 0, 100000), (925, 926, 0, 100000), (930, 931, 0, 100000), (904, 905, 60, 61), (930, 933, 0, 100000)]
def wdX (X : sS) (i : Nat) (j : Int) : Int := wRw X 879 (kr7 (ty7 X) i) (re7 (ty7 X) (kr7 (ty7 X) i)) j
/-- after n objects -/
def LIV (X T : sS) (n : Nat) (W W' : sS) : Prop := (RLV W W' ∧ TX3 W) ∧ (FR lCH X W ∧ FR lRH T W') ∧ ((∀ j, j ≠ 2 → Xi W 5 j = Xi X 5 j) ∧ Xi X 5 2 ≤ Xi W 5 2 ∧ Xi W 5 2 ≤ Xi X 5 2 + nwn X n) ∧ (∀ r s : Int, rnR T r s ≠ -1 → rnR W' r s = rnR T r s) ∧ (∀ x y z : Int, NOE X x y z → (∀ i : Nat, i < n → mI X i = -1 → ¬ (wdX X i 0 = x ∧ wdX X i 1 = y ∧ wdX X i 2 = z)) → NOE W x y z)
theorem liv_0 {X T : sS} (h : RLV X T) (t3 : TX3 X) : LIV X T 0 X T := by sorry
/-- the sentence, later on -/
theorem scx_k {X T W W' : sS} {f : Nat} (h : SCX X T f) (F : FR lCH X W) (G : FR lRH T W') : SCX W W' f := by sorry
theorem ty_k {X W : sS} (F : FR lCH X W) : ty7 W = ty7 X := by sorry
theorem rnr_k {X T W W' : sS} {f : Nat} {r x y : Int} (h : RNR X T f r x y) (F : FR lCH X W) (G : FR lRH T W') : RNR W W' f r x y := by sorry
/-- one object: its name -/
theorem liv_o {X T W W' A A' : sS} {f N n : Nat} {F o p k : Int} (h : LIV X T n W W') (hX : RLV X T) (sc : SCX X T f) (l : LRN X T f F N) (lo : LOO X N) (hn : n < N) (hk : 0 ≤ k ∧ k < Xi X 5 0) (ob : OBF W A o (kr7 (ty7 X) n) (re7 (ty7 X) (kr7 (ty7 X) n)) k) (ot : OTR W' A' p (F + n) k) (G : FR lOT W' A') : o = p ∧ LIV X T (n + 1) A A' ∧ (0 ≤ o ∧ o < Xi A 5 2) := by sorry
/-- what else is told of it changes no words -/
theorem liv_k {X T A A' B B' : sS} {n : Nat} {l m : List rec} (h : LIV X T n A A') (r : RLV B B') (t3 : TX3 B) (F : FR l A B) (G : FR m A' B') (e1 : sub l lCH = true) (e2 : sub m lRH = true) (e3 : kepC l [(2, 6)] [(1, 3)] = true) (e4 : (kdis m [(908, 909), (910, 911), (912, 917), (950, 952)] && !(mdf m 904 15)) = true) : LIV X T n B B' := by sorry
end
section
/-! class and reference: an object of a LIST: all that is told of it -/
/-- what stays over the whole LIST -/
def LCX (X T : sS) (f N : Nat) (F ds k wy hd : Int) : Prop := (RLV X T ∧ SCX X T f ∧ LRN X T f F N ∧ LOO X N) ∧ (Xi T 904 71 = F) ∧ (ds = 0 ↔ Xi T 904 70 = 13) ∧ (ds ≠ 0 → 0 ≤ k ∧ k < Xi X 5 0) ∧ (ds ≠ 0 → k = Xi T 904 110 ∧ CDS X T X (Xi X 895 14).toNat ∧ (Xi T 904 112).toNat = (Xi X 895 14).toNat ∧ 0 ≤ Xi X 895 14) ∧ (wy = Xi T 904 73 ∧ 0 ≤ wy ∧ wy ≤ 5) ∧ (wy ≠ 0 → hd = rnR T (Xi T 904 74) 4 ∧ 0 ≤ hd ∧ hd < Xi X 5 2)
theorem liv_q {X T W W' A A' : sS} {f N n : Nat} {F ds k wy hd o p : Int} (c : LCX X T f N F ds k wy hd) (h : LIV X T n W W') (hn : n < N) (ob : OBF W A o (kr7 (ty7 X) n) (re7 (ty7 X) (kr7 (ty7 X) n)) (if ds = 0 then 0 else k)) (rq : RQA T W' A' p n) : o = p ∧ LIV X T (n + 1) A A' ∧ (0 ≤ o ∧ o < Xi A 5 2) ∧ Xi A' 904 60 = (if n = 0 then o else Xi W' 904 60) := by sorry
/-- kind and ADJECTIVES -/
theorem liv_d {X T A A' : sS} {f N n : Nat} {F ds k wy hd o : Int} (c : LCX X T f N F ds k wy hd) (hd0 : ds ≠ 0) (h : LIV X T n A A') (ho : 0 ≤ o ∧ o < Xi A 5 2) {C : sS} {z : Int} (tk : TKDC A C z o k) : (∀ C' : sS, RK1 A' C' o (Xi T 904 110) → z = 1 ∧ ∀ (B : sS) (y : Int), (y = 0 ∨ y = 1) → TAC C B y o → (∀ B' : sS, RAC T C' o (Xi T 904 112).toNat B' → y = 1 ∧ LIV X T n B B' ∧ Xi B 5 2 = Xi A 5 2 ∧ Xi B' 904 60 = Xi A' 904 60) ∧ ((∃ (D E : sS) (i : Nat), (i : Int) < Xi T 904 112 ∧ RAC T C' o i D ∧ TRD D E 0 o (Xi T 967 i) 1) → y = 0)) ∧ (RK0 A' o (Xi T 904 110) → z = 0) := by sorry
/-- the place -/
theorem liv_p {X T B B' V : sS} {f N n : Nat} {F ds k wy hd o z : Int} (c : LCX X T f N F ds k wy hd) (w0 : wy ≠ 0) (h : LIV X T n B B') (ho : 0 ≤ o ∧ o < Xi B 5 2) (t : TPLC B V z o wy hd) : (PLN B' o → wiR B' (rnR B' (Xi B' 904 74) 4) o = 0 → z = 0 ∧ ∀ V' : sS, V' = uI (uI B' 919 o.toNat (Int32.ofInt (Xi B' 904 73))) 920 o.toNat (Int32.ofInt (rnR B' (Xi B' 904 74) 4)) → LIV X T n V V' ∧ Xi V 5 2 = Xi B 5 2 ∧ Xi V' 904 60 = Xi B' 904 60) ∧ (¬ PLN B' o → z = 5) ∧ (PLN B' o → wiR B' (rnR B' (Xi B' 904 74) 4) o ≠ 0 → z = 6) := by sorry
/-- one object, in both -/
theorem liv_s {X T W W' : sS} {f N n : Nat} {F ds k wy hd o p : Int} (c : LCX X T f N F ds k wy hd) (h : LIV X T n W W') (hn : n < N) : (∀ V V' : sS, DO1 W V o (kr7 (ty7 X) n) (re7 (ty7 X) (kr7 (ty7 X) n)) ds k wy hd → RO1 T W' V' p n → o = p ∧ LIV X T (n + 1) V V' ∧ (0 ≤ o ∧ o < Xi V 5 2) ∧ Xi V' 904 60 = (if n = 0 then o else Xi W' 904 60)) ∧ (∀ (V : sS) (e : Int), DO1 W V o (kr7 (ty7 X) n) (re7 (ty7 X) (kr7 (ty7 X) n)) ds k wy hd → ROF T W' p n e → False) ∧ (∀ (V' : sS) (d : Int), DOF W o (kr7 (ty7 X) n) (re7 (ty7 X) (kr7 (ty7 X) n)) ds k wy hd d → RO1 T W' V' p n → False) ∧ (∀ d e : Int, DOF W o (kr7 (ty7 X) n) (re7 (ty7 X) (kr7 (ty7 X) n)) ds k wy hd d → ROF T W' p n e → d = e) := by sorry
/-- so many objects, in both -/
theorem liv_c {X T : sS} {f N : Nat} {F ds k wy hd : Int} (c : LCX X T f N F ds k wy hd) (t3 : TX3 X) : ∀ (n : Nat) (W W' : sS) (g : Int), n ≤ N → DOC X ds k wy hd n W g → RDC T n W' → LIV X T n W W' ∧ (n = 0 → g = -1) ∧ (n ≠ 0 → Xi W' 904 60 = g ∧ 0 ≤ g ∧ g < Xi W 5 2) := by sorry
end
section
/-! class and reference: 12, 13 keep the relation -/
theorem doc_p {X : sS} {ds k wy hd : Int} : ∀ (n i : Nat) (V : sS) (g : Int), i < n → DOC X ds k wy hd n V g → ∃ (W Y : sS) (o q : Int), DOC X ds k wy hd i W q ∧ DO1 W Y o (kr7 (ty7 X) i) (re7 (ty7 X) (kr7 (ty7 X) i)) ds k wy hd := by sorry
theorem rdc_p {T : sS} : ∀ (n i : Nat) (V : sS), i < n → RDC T n V → ∃ (W Y : sS) (o : Int), RDC T i W ∧ RO1 T W Y o i := by sorry
/-- the objects of a LIST are told: both tell the same fault, or keep the relation -/
theorem dob_r {U X T U1 S1 : sS} {f : Nat} {F z ds : Int} (c : LCX X T f (nL X) F ds (Xi X 895 12) (Xi X 891 11) (Xi X 891 12)) (t3 : TX3 X) (n72 : (Xi T 904 72).toNat = nL X) (n1 : 1 ≤ nL X) (hz : z = 0 ∨ z = 1) (zf : z = 0 → Xi U1 876 8 ≠ 0) (x0 : (NT3 T).1 = 0) (d : DOB X U1 z ds) (r : RDB T S1) : STP U1 T S1 := by sorry
theorem scx_u {U X T : sS} {f : Nat} {l : List rec} (h : SCX U T f) (F : FR l U X) (e : kepC l [(877, 880)] [(876, 7)] = true) : SCX X T f := by sorry
theorem ty_u {U X : sS} {l : List rec} (F : FR l U X) (e : kepC l [(877, 880)] [(876, 7)] = true) : ty7 X = ty7 U := by sorry
theorem rnr_u {U X T : sS} {f : Nat} {l : List rec} {r x y : Int} (h : RNR U T f r x y) (F : FR l U X) (e : kepC l [(877, 880)] [(876, 7)] = true) : RNR X T f r x y := by sorry
theorem lrn_u {U X T : sS} {f N : Nat} {l : List rec} {F : Int} (h : LRN U T f F N) (G : FR l U X) (e : kepC l [(877, 880)] [(876, 7)] = true) : LRN X T f F N := by sorry
theorem st_12 {U U1 S T S1 : sS} {f : Nat} {z : Int} (h : RLW U S) (t3 : TX3 U) (sc : SCX U S f) (l : LRN U S f (Xi S 904 71) (nL U)) (n72 : (Xi S 904 72).toNat = nL U) (n1 : 1 ≤ nL U) (hs : (Xi U 890 2 = 12 ∧ Xi S 904 70 = 12) ∨ (Xi U 890 2 = 13 ∧ Xi S 904 70 = 13)) (kD : Xi U 890 2 = 12 → RNR U S f (Xi S 904 78) (Xi U 890 3 + 2) (at12 U)) (k0 : ty7 U (at12 U) = 103 → Xi S 904 73 = 0) (k1 : ty7 U (at12 U) ≠ 103 → Xi S 904 73 = wyC (ty7 U (at12 U)) ∧ RNR U S f (Xi S 904 74) (rPl U (at12 U)) (re7 (ty7 U) (rPl U (at12 U)))) (hz : z = 0 ∨ z = 1) (zf : z = 0 → Xi U1 876 8 ≠ 0) (tc : TOJ U U1 z) (rc : RO12 S T (d12 U)) {la : List rec} (Fa : FR la S T) (ea : kepC la cSk cSf = true) (ea2 : kepC la [(907, 911), (950, 952)] [(904, 70), (904, 71), (904, 72), (904, 73), (904, 74)] = true) (rd : (NT3 T).1 = 0 → RDB T S1) : STP U1 T S1 := by sorry
end
section
/-! class and reference: 15 usually keeps the relation -/
theorem t1_k {W A D B : sS} {z y k m p c : Int} (h : RLW W D) (t3 : TX3 W) (hk : 0 ≤ k ∧ k < Xi W 5 0) (cd : COD m p c) (b1 : p = -1 → m < Xi W 5 3) (b2 : p ≠ -1 → p < Xi W 5 5 ∧ m < Xi W 5 4 ∧ Xi W 8 m.toNat ≠ 1 ∧ Xi W 9 p.toNat = Xi W 8 m.toNat) (t : T1C W A z (24 + k) m p 1) (u : RUK D B y k c) : z = y ∧ (z = 0 ∨ z = 1) ∧ (z = 1 → RLW A B ∧ TX3 A) := by sorry
theorem ruk_n {S S1 : sS} {z k a : Int} (h : RUK S S1 z k a) : Xi S1 904 106 = Xi S 904 106 := by sorry
theorem adR_v1 {U S : sS} {t n k d v : Int} (c : RCT U S) : 0 ≤ adR S t n k d v := by sorry
theorem st_15u {U U1 S T S1 : sS} {f : Nat} {z : Int} (h : RLW U S) (t3 : TX3 U) (sc : SCX U S f) (k0 : RNR U S f (Xi S 904 71) (bA (ty7 U) 0) (re7 (ty7 U) (bA (ty7 U) 0))) (s1 : 1 < Xi S 904 72 → sn2 U ≠ -1 ∧ pc7 U (sn2 U) = pR S (Xi S 904 71 + 1)) (s2 : Xi S 904 72 ≤ 1 → sn2 U = -1) (kw : RNR U S f (Xi S 904 78) (Xi U 890 3 + 2) (re7 (ty7 U) (Xi U 890 3 + 2))) (zf : z = 0 → Xi U1 876 8 ≠ 0) (tc : TUS md_me_readAdjective__p U U1 z (bA (ty7 U) 0) (re7 (ty7 U) (bA (ty7 U) 0)) (Xi U 890 3 + 2) (re7 (ty7 U) (Xi U 890 3 + 2))) (rc : ∃ P : sS, FR lA S P ∧ (Xi P 904 106 = 0 ∧ Xi P 904 108 = 0) ∧ RAU P T) (Fa : FR md_mo_asked__15a S T) (rd : (NT3 T).1 = 0 → RUS T S1 ∧ FR md_mo_does__15a T S1) : STP U1 T S1 := by sorry
end
section
/-! class and reference: 15 plain, a DESCRIPTION -/
theorem tlo_0 {S S1 : sS} {z : Int} {N : Nat} (t : TLO S S1 z N) (q : ¬ LOO S N) : z = 0 := by sorry
theorem ah_r {U P : sS} {a b t n : Int} (h : RLW U P) (m : mnV U a b = mR P t n) : (mnV U a b / 256 = 3 ∨ mnV U a b / 256 = 4) ↔ (nmR P t n ≠ -1 ∧ (Xi P 914 (nmR P t n).toNat = 5 ∨ Xi P 914 (nmR P t n).toNat = 6)) := by sorry
/-- a plain sentence, as both have it -/
def PLX (U P : sS) (f : Nat) : Prop := RLW U P ∧ TX3 U ∧ SCX U P f ∧ LRN U P f (Xi P 904 71) (nL U) ∧ ((Xi P 904 72).toNat = nL U ∧ 1 ≤ nL U) ∧ RNR U P f (Xi P 904 78) (wh5 U) (eh5 U) ∧ (PLO P (Xi P 904 71) (nL U) (Xi P 904 78) ∧ Xi P 904 78 ≠ -1) ∧ (Xi P 904 77 ≠ 0 ↔ ty7 U (Xi U 890 3) = 5) ∧ (Xi P 904 75 = 0 ↔ nh5 U = 0)
theorem plx_f {U P : sS} {f : Nat} (x : PLX U P f) : fW P = f + wh5 U ∧ nW P = eh5 U - wh5 U ∧ mnV U (wh5 U) (eh5 U) = mR P (fW P) (nW P) ∧ pc7 U (wh5 U) = Xi P 908 (fW P).toNat := by sorry
theorem plx_p {U P : sS} {f : Nat} (x : PLX U P f) : (ph5 U ↔ 0 < rd5 P) ∧ (ah5 U ↔ vA5 P) := by sorry
theorem st_15A {U C U1 P T S1 : sS} {f : Nat} {z : Int} (x : PLX U P f) (FC : FR md_me_countReadings__p U C) (ph : ph5 U) (na : ¬ ah5 U) (w11 : Xi U 891 11 = 0) (hz : z = 0 ∨ z = 1) (zf : z = 0 → Xi U1 876 8 ≠ 0) (tc : TPNA C U1 z (wh5 U) (eh5 U)) (hP0 : Xi P 904 106 = 0) (h70 : Xi P 904 70 ≠ 13) (rc : RAX P T) {la : List rec} (Fa : FR la P T) (ea : kepC la cSk cSf = true) (ea2 : kepC la [(907, 911), (950, 952)] [(904, 70), (904, 71), (904, 72), (904, 74)] = true) (rd : (NT3 T).1 = 0 → Xi T 904 142 = 3 → RDB (uI T 904 73 (Int32.ofInt 0)) S1 ∧ NT3 (uI T 904 73 (Int32.ofInt 0)) = NT3 T) : STP U1 T S1 := by sorry
end
section
/-! class and reference: 15 plain, an ADJECTIVE -/
theorem n4_0 {P : sS} {x : Int × Int × Int} : ∀ n : Nat, (∀ i : Nat, i < n → rnR P (Xi P 904 71 + i) 4 ≠ -1) → n4S P x n = x := by sorry
theorem n4_1 {P : sS} {x : Int × Int × Int} {N i : Nat} (x0 : x.1 = 0) (po : ∀ k i : Nat, k < i → i < N → pR P (Xi P 904 71 + k) < pR P (Xi P 904 71 + i)) (b : ∀ k : Nat, k < i → rnR P (Xi P 904 71 + k) 4 ≠ -1) (e : rnR P (Xi P 904 71 + i) 4 = -1) : ∀ n : Nat, i < n → n ≤ N → NTB (n4S P x n) 4 (pR P (Xi P 904 71 + i)) := by sorry
theorem a4_k {P : sS} {x : Int × Int × Int} {p : Int} (h : NTB x 4 p) (g : p < Xi P 908 (fW P).toNat) : ∀ n : Nat, NTB (a4S P x n) 4 p := by sorry
theorem ntx4 {x : Int × Int × Int} {p : Int} (h : x.1 = 0) : ntF x 4 p = (4, p, 2) := by sorry
theorem ntx7 {x : Int × Int × Int} {p : Int} (h : x.1 = 0) : ntF x 7 p = (7, p, 3) := by sorry
theorem nt44 {p : Int} : ntF (4, p, 2) 4 p = (4, p, 2) := by sorry
theorem nt47 {p : Int} : ntF (4, p, 2) 7 p = (4, p, 2) := by sorry
theorem nt74 {p : Int} : ntF (7, p, 3) 4 p = (4, p, 2) := by sorry
theorem nt77 {p : Int} : ntF (7, p, 3) 7 p = (7, p, 3) := by sorry
/-- what the notes of an ADJECTIVE come to -/
theorem a4_c {P : sS} {x : Int × Int × Int} (x0 : x.1 = 0) : ∀ n : Nat, (∀ i : Nat, i < n → rnR P (Xi P 904 71 + i) 4 ≠ -1) → ((∀ i : Nat, i < n → c4S P i = 1) → a4S P x n = x) ∧ ((∃ i : Nat, i < n ∧ c4S P i ≤ 0) → a4S P x n = (4, Xi P 908 (fW P).toNat, 2)) ∧ ((∀ i : Nat, i < n → 0 < c4S P i) → (∃ i : Nat, i < n ∧ 2 ≤ c4S P i) → a4S P x n = (7, Xi P 908 (fW P).toNat, 3)) := by sorry
def lAC : List rec := [(25, 65, 0, 100000), (66, 106, 0, 100000), (107, 147, 0, 100000), (148, 188, 0, 100000), (895, 896, 8, 9), (895, 896, 9, 10)]
def lAR : List rec := [(925, 926, 0, 100000), (930, 933, 0, 100000), (904, 905, 60, 61), (904, 905, 64, 65), (904, 905, 113, 114)]
/-- an ADJECTIVE told of old objects, as both have it -/
def AJX (B T : sS) (f : Nat) (a t nt : Int) : Prop := RLW B T ∧ TX3 B ∧ SCX B T f ∧ LRN B T f (Xi T 904 71) (nL B) ∧ mnV B a t = mR T (fW T) (nW T) ∧ 1 - nt = h15R T ∧ (∀ i : Nat, i < nL B → oL B i ≠ -1) ∧ (∀ i : Nat, i < nL B → raF B (Xi B 21 (oL B i).toNat) a t (1 - nt) 0 = 1)
theorem ol_r {B T : sS} {f N i : Nat} {F : Int} (h : RVO B T) (sc : SCX B T f) (l : LRN B T f F N) (hi : i < N) : oL B i = rnR T (F + i) 4 := by sorry
theorem ajx_i {B T : sS} {f i : Nat} {a t nt : Int} (x : AJX B T f a t nt) (hi : i < nL B) : oL B i = o15R T i ∧ (0 ≤ oL B i ∧ oL B i < Xi B 5 2) ∧ COD (mnV B a t % 256) (rlF B (Xi B 21 (oL B i).toNat) a t (1 - nt)) (a15R T (o15R T i)) ∧ (rlF B (Xi B 21 (oL B i).toNat) a t (1 - nt) = -1 → mnV B a t % 256 < Xi B 5 3) ∧ (rlF B (Xi B 21 (oL B i).toNat) a t (1 - nt) ≠ -1 → rlF B (Xi B 21 (oL B i).toNat) a t (1 - nt) < Xi B 5 5 ∧ mnV B a t % 256 < Xi B 5 4 ∧ Xi B 8 (mnV B a t % 256).toNat ≠ 1 ∧ Xi B 9 (rlF B (Xi B 21 (oL B i).toNat) a t (1 - nt)).toNat = Xi B 8 (mnV B a t % 256).toNat) := by sorry
/-- one object is told its ADJECTIVE -/
theorem ajx_s {B T W W' V V' : sS} {f i : Nat} {a t nt y y' : Int} (x : AJX B T f a t nt) (hi : i < nL B) (r : RLV W W') (tw : TX3 W) (F : FR lAC B W) (G : FR lAR T W') (d : DA1 md_me_readAdjective__p B W V i y a t nt) (u : RV1 T W' V' i y') : y = y' ∧ (y = 0 ∨ y = 1) ∧ (y = 1 → RLV V V' ∧ TX3 V ∧ FR lAC B V ∧ FR lAR T V' ∧ Xi V' 904 60 = (if i = 0 then oL B 0 else Xi W' 904 60)) := by sorry
theorem ajx_c {B T : sS} {f : Nat} {a t nt : Int} (x : AJX B T f a t nt) : ∀ (n : Nat) (V V' : sS), n ≤ nL B → DAC md_me_readAdjective__p B a t nt n V → RVC T n V' → RLV V V' ∧ TX3 V ∧ FR lAC B V ∧ FR lAR T V' ∧ (n ≠ 0 → Xi V' 904 60 = oL B 0) := by sorry
theorem dac_p {g : List rec} {S : sS} {a t nt : Int} : ∀ (n i : Nat) (V : sS), i < n → DAC g S a t nt n V → ∃ W Y : sS, DAC g S a t nt i W ∧ DA1 g S W Y i 1 a t nt := by sorry
theorem rvc_p {S : sS} : ∀ (n i : Nat) (V : sS), i < n → RVC S n V → ∃ W Y : sS, RVC S i W ∧ RV1 S W Y i 1 := by sorry
theorem ajx_d {B T U1 S1 : sS} {f : Nat} {a t nt z : Int} (x : AJX B T f a t nt) (n72 : (Xi T 904 72).toNat = nL B) (n1 : 1 ≤ nL B) (hz : z = 0 ∨ z = 1) (zf : z = 0 → Xi U1 876 8 ≠ 0) (x0 : (NT3 T).1 = 0) (d : DAD md_me_readAdjective__p B U1 z a t nt) (r : RVB4 T S1) : STP U1 T S1 := by sorry
end
section
/-! class and reference: 15 plain keeps the relation -/
theorem adR_0 {P : sS} {k d v : Int} (h : ¬ vA5 P) : adR P (fW P) (nW P) k d v = 0 := by sorry
theorem ra_c4 {B P : sS} {f i : Nat} {a t nt : Int} (h : RLW B P) (sc : SCX B P f) (l : LRN B P f (Xi P 904 71) (nL B)) (m : mnV B a t = mR P (fW P) (nW P)) (e : 1 - nt = h15R P) (hi : i < nL B) (ol : oL B i ≠ -1) : raF B (Xi B 21 (oL B i).toNat) a t (1 - nt) 0 = c4S P i ∧ 0 ≤ c4S P i := by sorry
theorem st_15B {U C U1 P T S1 : sS} {f : Nat} {z : Int} (x : PLX U P f) (FC : FR md_me_countReadings__p U C) (hn : ¬ ph5 U ∨ ah5 U) (hz : z = 0 ∨ z = 1) (zf : z = 0 → Xi U1 876 8 ≠ 0) (tc : TPNB md_me_readAdjective__p U C U1 z (wh5 U) (eh5 U) (nh5 U)) (hP0 : Xi P 904 106 = 0) (rc : RAX P T) {la : List rec} (Fa : FR la P T) (ea : kepC la cSk cSf = true) (ea2 : kepC la [(907, 911), (950, 952)] [(904, 71), (904, 72), (904, 75), (904, 78)] = true) (rd : (NT3 T).1 = 0 → Xi T 904 142 = 4 → RVB4 T S1) : STP U1 T S1 := by sorry
end
section
/-! class and reference: lists that begin at another name; values -/
def LRNo (o : Nat) (U S : sS) (f : Nat) (F : Int) (n : Nat) : Prop := ∀ i : Nat, i < n → RNR U S f (F + i) (kr7 (ty7 U) (o + i)) (re7 (ty7 U) (kr7 (ty7 U) (o + i)))
theorem LRNo.kS {o : Nat} {U S T : sS} {f n : Nat} {F : Int} (h : LRNo o U S f F n) (b : KEP [(950, 952)] [] S T) : LRNo o U T f F n := by sorry
theorem nwlo_r {U S : sS} {f i n o : Nat} {F : Int} (h : SRL U S f) (l : LRNo o U S f F n) (hx : LXR S) (h15 : 0 ≤ Xi S 904 15) (hi : i < n) : NWLo o U i ↔ NWR S F i := by sorry
theorem loko_r {U S : sS} {f n m o : Nat} {F c M : Int} (h : SRL U S f) (l : LRNo o U S f F n) (hx : LXR S) (h15 : 0 ≤ Xi S 904 15) (hm : m ≤ n) : LOKo o U c M m ↔ LKR S F c M m := by sorry
theorem loko_n {o : Nat} {U : sS} {c M : Int} : ∀ n : Nat, ¬ LOKo o U c M n → ∃ k : Nat, k < n ∧ LOKo o U c M k ∧ (¬ NWLo o U k ∨ (NWLo o U k ∧ M ≤ c + k)) := by sorry
theorem lso_same {U U1 S : sS} {f n o : Nat} {F c M z : Int} {x : Int × Int × Int} (h : SRL U S f) (l : LRNo o U S f F n) (hx : LXR S) (h15 : 0 ≤ Xi S 904 15) (t : TLSo o U U1 z c M n) (r : RLF S F c M n x) (q : ¬ LOKo o U c M n) : SFT U1 z x ∧ x.1 ≠ 0 := by sorry
/-- names of a LIST, told to both -/
theorem rvo_listo {U S : sS} {f N o : Nat} {F so rs c : Int} (h : RVO U S) (sc : SCX U S f) (l : LRNo o U S f F N) (ok : ∀ i : Nat, i < N → NWLo o U i) (fr : ∀ w, c ≤ w → FRS U so w) (hs : so = sg7 rs) (hr : 0 ≤ rs ∧ rs ≤ 12) (hc : 0 ≤ c ∧ c + N ≤ 64) : ∀ (n : Nat) (V V1 : sS), n ≤ N → TNLo o U so c n V → TLL S rs c F n V1 → RVO V V1 ∧ (∀ w, c + n ≤ w → FRS V so w) ∧ (∀ s w, s ≠ so → FRS U s w → FRS V s w) ∧ (∀ x y z, NOE U x y z → (∀ i : Nat, i < n → ¬ (wRw U 879 (kr7 (ty7 U) (o + i)) (re7 (ty7 U) (kr7 (ty7 U) (o + i))) 0 = x ∧ wRw U 879 (kr7 (ty7 U) (o + i)) (re7 (ty7 U) (kr7 (ty7 U) (o + i))) 1 = y ∧ wRw U 879 (kr7 (ty7 U) (o + i)) (re7 (ty7 U) (kr7 (ty7 U) (o + i))) 2 = z)) → NOE V x y z) ∧ Xi V 1 3 = Xi U 1 3 + n ∧ (∀ d : Int → Int, WHG d U → (∀ i : Nat, i < n → c + i < d so) → WHG d V) ∧ (∀ i : Nat, i < n → ∃ j : Nat, (j : Int) < Xi V 1 3 ∧ mtC V (wRw U 879 (kr7 (ty7 U) (o + i)) (re7 (ty7 U) (kr7 (ty7 U) (o + i))) 0) (wRw U 879 (kr7 (ty7 U) (o + i)) (re7 (ty7 U) (kr7 (ty7 U) (o + i))) 1) (wRw U 879 (kr7 (ty7 U) (o + i)) (re7 (ty7 U) (kr7 (ty7 U) (o + i))) 2) j ∧ Xi V 3 j = so) := by sorry
theorem nwR_av {A W : sS} {F : Int} {n : Nat} (sm : SMR A W) (e1 : Xi W 904 108 = n) (e2 : ∀ i : Nat, i < n → Xi W 966 i = F + i) : nwR W (F + n) ↔ NWR A F n := by sorry
/-- the values that the reference is asked for -/
theorem av_c {A : sS} {tp : Int} (a8 : Xi A 904 108 = 0) : ∀ (n : Nat) (V : sS) (k : Int), AVC A tp n V k → FR md_mo_mustBeNew__p A V ∧ ((∀ i : Nat, i < n → NWR A (Xi A 904 78) i) → Xi V 904 108 = n ∧ (∀ i : Nat, i < n → Xi V 966 i = Xi A 904 78 + i) ∧ k = cv6 A tp (Xi A 904 30).toNat + n ∧ ((1 < tp → ∀ i : Nat, i < n → cv6 A tp (Xi A 904 30).toNat + i < 8) → NT3 V = NT3 A)) := by sorry
theorem av_f {A : sS} {tp : Int} {N : Nat} (a8 : Xi A 904 108 = 0) (x0 : (NT3 A).1 = 0) (t1 : 1 < tp) (po : ∀ k i : Nat, k < i → i < N → pR A (Xi A 904 78 + k) < pR A (Xi A 904 78 + i)) : ∀ (n : Nat) (V : sS) (k : Int), n ≤ N → AVC A tp n V k → RLF A (Xi A 904 78) (cv6 A tp (Xi A 904 30).toNat) 8 n (NT3 V) := by sorry
/-- an earlier note stays -/
theorem av_k {A : sS} {tp e p : Int} {N : Nat} (a8 : Xi A 904 108 = 0) (he : e ≠ 0) (q : NTB (NT3 A) e p) (po : ∀ i : Nat, i < N → p < pR A (Xi A 904 78 + i)) : ∀ (n : Nat) (V : sS) (k : Int), n ≤ N → AVC A tp n V k → NTB (NT3 V) e p := by sorry
end
section
/-! class and reference: 15, 16 values keep the relation -/
theorem vals_c {U : sS} {t : Int} : ∀ n : Nat, valn U t n 0 0 = cvC U t n := by sorry
theorem cvC_sum {U : sS} : ∀ n : Nat, (∀ i : Nat, i < n → 2 ≤ Xi U 8 i ∧ Xi U 8 i ≤ 7) → cvC U 2 n + cvC U 3 n + cvC U 4 n + cvC U 5 n + cvC U 6 n + cvC U 7 n = n := by sorry
theorem cv_ext {U U1 : sS} {t : Int} {c : Nat} (h : ∀ j : Nat, j < c → Xi U1 8 j = Xi U 8 j) : ∀ n : Nat, n ≤ c → cvC U1 t n = cvC U t n := by sorry
theorem cvC_ad {U1 : sS} {t tp : Int} {c m : Nat} (h : ∀ i : Nat, i < m → Xi U1 8 (c + i) = tp) : ∀ k : Nat, k ≤ m → cvC U1 t (c + k) = cvC U1 t c + (if tp = t then (k : Int) else 0) := by sorry
theorem cv_r {U S : sS} {tp : Int} (ty : RTY U S) : ∀ n : Nat, (n : Int) ≤ Xi U 5 4 → cvC U tp n = cv6 S tp n := by sorry
def lTV : List rec := [(904, 905, 15, 16), (904, 905, 30, 31), (912, 913, 0, 100000), (913, 914, 0, 100000), (914, 915, 0, 100000), (915, 916, 0, 100000), (916, 917, 0, 100000), (927, 928, 0, 100000)]
theorem rtc_c {T : sS} {tp : Int} {N : Nat} (h0 : 0 ≤ Xi T 904 30 ∧ Xi T 904 30 + N ≤ 64) (ht : rg tp) : ∀ (n : Nat) (V : sS), n ≤ N → RTC T tp n V → FR lTV T V ∧ TLL T 6 (Xi T 904 30) (Xi T 904 78) n V ∧ Xi V 904 30 = Xi T 904 30 + n ∧ ARN T V 927 (Xi T 904 30) tp n := by sorry
theorem st_16 {U U1 S T S1 : sS} {f : Nat} {z : Int} {g la : List rec} (h : RLW U S) (t3 : TX3 U) (sc : SCX U S f) (k0 : RNR U S f (Xi S 904 71) (bA (ty7 U) 0) (re7 (ty7 U) (bA (ty7 U) 0))) (s1 : 1 < Xi S 904 72 → sn2 U ≠ -1 ∧ pc7 U (sn2 U) = pR S (Xi S 904 71 + 1)) (s2 : Xi S 904 72 ≤ 1 → sn2 U = -1) (h72 : 1 ≤ Xi S 904 72) (lv : LRNo (n0V U) U S f (Xi S 904 78) (nV5 U)) (n69 : (Xi S 904 69 - Xi S 904 78).toNat = nV5 U) (po0 : ∀ i : Nat, i < nV5 U → pR S (Xi S 904 71) < pR S (Xi S 904 78 + i)) (po1 : ∀ k i : Nat, k < i → i < nV5 U → pR S (Xi S 904 78 + k) < pR S (Xi S 904 78 + i)) (po2 : 1 < Xi S 904 72 → pR S (Xi S 904 71) < pR S (Xi S 904 71 + 1) ∧ ∀ i : Nat, i < nV5 U → pR S (Xi S 904 71 + 1) < pR S (Xi S 904 78 + i)) (zf : z = 0 → Xi U1 876 8 ≠ 0) (tc : TVL U U1 z) (Fc : FR md_re_tellValues__p U U1) (rc : ∃ P : sS, FR lA S P ∧ (Xi P 904 106 = 0 ∧ Xi P 904 108 = 0) ∧ RAW g P T) (eg : kepC g cSk cSf = true) (eg2 : kepC g [(907, 911), (950, 952)] [(904, 30), (904, 69), (904, 71), (904, 72), (904, 78)] = true) (Fa : FR la S T) (ea : kepC la cSk cSf = true) (ea2 : kepC la [(907, 911), (950, 952)] [(904, 30), (904, 69), (904, 71), (904, 72), (904, 78)] = true) (rd : (NT3 T).1 = 0 → RD16 T S1 ∧ FR md_mo_does__15bf T S1) : STP U1 T S1 := by sorry
end
section
/-! class and reference: one pair is related -/
theorem gb_xor {x y p : Int} : gb (ixorF x y) p = (gb x p ^^ gb y p) := by sorry
theorem gb_m1 {p : Int} (h : 0 ≤ p ∧ p < 32) : gb (-1) p = true := by sorry
theorem gb_z {x y : Int} : iandF x y = 0 ↔ ∀ p : Int, 0 ≤ p → p < 32 → gb (iandF x y) p = false := by sorry
theorem bz_gb {x b : Int} (hb : 0 ≤ b ∧ b < 32) : bz7 x b ↔ ∀ p : Int, 0 ≤ p → p < 32 → p ≠ b → gb x p = false := by sorry
theorem rel_gb {S : sS} {r a b : Int} (hb : 0 ≤ b ∧ b < 32) : relF S r a b = 0 ↔ gb (Xi S (189 + r.toNat) a.toNat) b = false := by sorry
theorem okW_r {W D : sS} {R A B : Nat} (h : RLW W D) (hR : (R : Int) < Xi W 5 6) (hA : (A : Int) < Xi W 5 2) (hB : (B : Int) < Xi W 5 2) : okT W R A B ↔ okW D R A B := by sorry
def lRW : List rec := [(189, 195, 0, 100000)]
def lRD : List rec := [(940, 941, 0, 100000)]
/-- a pair is related, in both -/
theorem trt_r {W W1 D D1 : sS} {z y : Int} {R A B : Nat} (h : RLW W D) (t3 : TX3 W) (hR : (R : Int) < Xi W 5 6) (hA : (A : Int) < Xi W 5 2) (hB : (B : Int) < Xi W 5 2) (t : TRT W W1 z R A B) (u : TRR D D1 y R A B) : z = y ∧ (z = 0 ∨ z = 1) ∧ (z = 1 → RLW W1 D1 ∧ TX3 W1 ∧ FR lRW W W1 ∧ FR lRD D D1) := by sorry
end
section
/-! class and reference: 15 plain, both cases -/
theorem FR.sy {l : List rec} {S T : sS} (h : FR l S T) : FR l T S := by sorry
theorem PLX.kS {U S P : sS} {f : Nat} (x : PLX U S f) (F : FR lA S P) : PLX U P f := by sorry
theorem st_15p {U U1 S T S1 : sS} {f : Nat} {z : Int} (x : PLX U S f) (w11 : Xi U 891 11 = 0) (h70 : Xi S 904 70 = 15) (hz : z = 0 ∨ z = 1) (zf : z = 0 → Xi U1 876 8 ≠ 0) (tc : TPN md_me_countReadings__p md_me_readAdjective__p U U1 z) (rc : ∃ P : sS, FR lA S P ∧ (Xi P 904 106 = 0 ∧ Xi P 904 108 = 0) ∧ RAX P T) (Fa : FR md_mo_asked__15cf S T) (rd3 : (NT3 T).1 = 0 → Xi T 904 142 = 3 → RDB (uI T 904 73 (Int32.ofInt 0)) S1) (rd4 : (NT3 T).1 = 0 → Xi T 904 142 = 4 → RVB4 T S1) : STP U1 T S1 := by sorry
end
section
/-! class and reference: 20, tokens of a list of objects -/
theorem tr_k {t : Int} (h : 0 ≤ t ∧ t ≤ 108) : (tr7 t = 3 ↔ t = 100) ∧ (tr7 t = 116 ↔ t = 16) ∧ (tr7 t = 44 ↔ t = 104) ∧ ((100 ≤ tr7 t ∧ tr7 t ≤ 103) ↔ (0 ≤ t ∧ t ≤ 3)) := by sorry
theorem tk_907 {U S : sS} {f : Nat} {i : Int} (sc : SCX U S f) (h : 0 ≤ i ∧ i < Xi U 876 7) : Xi S 907 ((f : Int) + i).toNat = tr7 (ty7 U i) := by sorry
theorem ty_100 {U : sS} {i : Int} (h : ty7 U i = 100) : 0 ≤ i ∧ i < Xi U 876 7 ∧ Xi U 877 i.toNat = 100 := by sorry
theorem ren_u {U : sS} {b : Int} : ∀ (m n : Nat) (r : Int), m < n → (∀ j : Int, r ≤ j → j < r + m → ty7 U j = 100) → r + m ≤ b → (r + m = b ∨ ty7 U (r + m) ≠ 100) → ren U b n r = r + m := by sorry
/-- where a run ends, in the class -/
theorem ru_u {U : sS} {a b e : Int} (h0 : a ≤ e) (hb : e ≤ b) (hl : e - a ≤ 5130) (k : ∀ j : Int, a ≤ j → j < e → ty7 U j = 100) (q : e = b ∨ ty7 U e ≠ 100) : ruF U a b = e := by sorry
/-- where a name of a list ends, in the reference -/
theorem nx_u {S : sS} {b e : Int} (q : b ≤ e ∨ Xi S 907 e.toNat = 116 ∨ Xi S 907 e.toNat = 44) : ∀ (m : Nat) (i : Int), i + m = e → e ≤ b → (∀ j : Int, i ≤ j → j < e → Xi S 907 j.toNat ≠ 116 ∧ Xi S 907 j.toNat ≠ 44) → nxS S b i = e := by sorry
end
section
/-! class and reference: 20, one name of a list of objects -/
def NLO (U : sS) (b i e : Int) : Prop := bA (ty7 U) i < e ∧ e ≤ b ∧ (∀ j : Int, bA (ty7 U) i ≤ j → j < e → ty7 U j = 100) ∧ (e = b ∨ ty7 U e = 104 ∨ ty7 U e = 16)
theorem nlo_c {U : sS} {b i e : Int} (h : NLO U b i e) (h0 : 0 ≤ i) (hb : b ≤ 5130) : ruF U (bA (ty7 U) i) b = e := by sorry
theorem nlo_r {U S : sS} {f : Nat} {b i e : Int} (v : RVO U S) (sc : SCX U S f) (tb : ∀ i : Int, 0 ≤ ty7 U i ∧ ty7 U i ≤ 108) (h : NLO U b i e) (h0 : 0 ≤ i) (hb : b ≤ Xi U 876 7) : nxS S (f + b) (f + i) = f + e ∧ oaR S (f + i) (f + e) = f + bA (ty7 U) i ∧ obR S (f + i) (f + e) = (if fnd U 2 (bA (ty7 U) i) e = -1 then -9 else fnd U 2 (bA (ty7 U) i) e) := by sorry
theorem nx_sp {S : sS} {b : Int} : ∀ (m : Nat) (i : Int), i + m = b → i ≤ nxS S b i ∧ nxS S b i ≤ b ∧ (nxS S b i = b ∨ Xi S 907 (nxS S b i).toNat = 116 ∨ Xi S 907 (nxS S b i).toNat = 44) := by sorry
theorem ms_pos {S : sS} {t n s : Int} (h : msR S t n s ≠ -1) : 1 ≤ n := by sorry
/-- no name there: the reference finds none -/
theorem nlo_n {U S : sS} {f : Nat} {b i : Int} (sc : SCX U S f) (tb : ∀ i : Int, 0 ≤ ty7 U i ∧ ty7 U i ≤ 108) (h : ¬ ∃ e : Int, NLO U b i e) (h0 : 0 ≤ i) (hi : i ≤ b) (hb : b ≤ Xi U 876 7) : obR S (f + i) (nxS S (f + b) (f + i)) = -9 := by sorry
end
section
/-! class and reference: 20, lists of objects -/
theorem ren_sp {U : sS} {b : Int} : ∀ (n : Nat) (r : Int), r ≤ b → r ≤ ren U b n r ∧ ren U b n r ≤ b ∧ ∀ j : Int, r ≤ j → j < ren U b n r → ty7 U j = 100 := by sorry
/-- the objects of a list, as the class goes through it -/
def ioL (S : sS) (b k : Int) : Nat → Int → List Int → Option (List Int)
  | 0, _, _ => none
  | n + 1, i, c =>
    if b ≤ i then some []
    else if fnd S 2 (bA (ty7 S) i) (ruF S (bA (ty7 S) i) b) = -1 ∨ isK S (Xi S 21 (fnd S 2 (bA (ty7 S) i) (ruF S (bA (ty7 S) i) b)).toNat) k = 0 then some []
    else if ruF S (bA (ty7 S) i) b = b then some (c ++ [fnd S 2 (bA (ty7 S) i) (ruF S (bA (ty7 S) i) b)])
    else if ty7 S (ruF S (bA (ty7 S) i) b) = 104 then
      (if ty7 S (ruF S (bA (ty7 S) i) b + 1) = 16 then ioL S b k n (ruF S (bA (ty7 S) i) b + 2) (c ++ [fnd S 2 (bA (ty7 S) i) (ruF S (bA (ty7 S) i) b)]) else ioL S b k n (ruF S (bA (ty7 S) i) b + 1) (c ++ [fnd S 2 (bA (ty7 S) i) (ruF S (bA (ty7 S) i) b)]))
    else if ty7 S (ruF S (bA (ty7 S) i) b) = 16 then ioL S b k n (ruF S (bA (ty7 S) i) b + 1) (c ++ [fnd S 2 (bA (ty7 S) i) (ruF S (bA (ty7 S) i) b)])
    else some []
theorem iol_r {U S : sS} {f : Nat} {b k : Int} (h : RLW U S) (sc : SCX U S f) (tb : ∀ i : Int, 0 ≤ ty7 U i ∧ ty7 U i ≤ 108) (hb : b ≤ Xi U 876 7) (hd : ty7 U b ≠ 16) : ∀ (n : Nat) (i : Int) (c : List Int), 0 ≤ i → i ≤ b → ioL U b k n i c = lW S (f + b) k n (f + i) c := by sorry
/-- the class only asks whether there is such a list -/
theorem iow_l {S : sS} {b k : Int} : ∀ (n : Nat) (i : Int) (c l : List Int), ioL S b k n i c = some l → ioW S b k n i = some (if l = [] then 0 else 1) := by sorry
theorem iov_r {U S : sS} {f : Nat} {a b k : Int} (h : RLW U S) (sc : SCX U S f) (tb : ∀ i : Int, 0 ≤ ty7 U i ∧ ty7 U i ≤ 108) (ha : 0 ≤ a ∧ a ≤ b) (hb : b ≤ Xi U 876 7) (hd : ty7 U b ≠ 16) : ioV U a b k ≠ 0 ↔ lV S (f + a) (f + b) k ≠ [] := by sorry
end
section
/-! class and reference: 20, verbs -/
theorem sg_fl {U S : sS} {f : Nat} (sc : SCX U S f) (tb : ∀ i : Int, 0 ≤ ty7 U i ∧ ty7 U i ≤ 108) : ∀ n : Nat, (n : Int) ≤ Xi U 876 7 → (sgF S f n ≠ 0 ↔ fl7 (ty7 U) n = 0) := by sorry
theorem vb_r {U S : sS} {f n : Nat} (v : RVO U S) (sc : SCX U S f) (tb : ∀ i : Int, 0 ≤ ty7 U i ∧ ty7 U i ≤ 108) (hn : (n : Int) < Xi U 876 7) : vbL U n = vbA S f n := by sorry
theorem io_0 {U : sS} {b k : Int} : ioV U b b k = 0 := by sorry
theorem qv_r {U S : sS} {f n : Nat} {l : Int} (h : RLW U S) (sc : SCX U S f) (tb : ∀ i : Int, 0 ≤ ty7 U i ∧ ty7 U i ≤ 108) (hn : (n : Int) < l) (hl : l ≤ Xi U 876 7) (hd : ty7 U l ≠ 16) : qvL U l n ↔ qvR S f (f + l) n := by sorry
theorem cn_r {U S : sS} {f : Nat} {l : Int} (h : RLW U S) (sc : SCX U S f) (tb : ∀ i : Int, 0 ≤ ty7 U i ∧ ty7 U i ≤ 108) (hl : l ≤ Xi U 876 7) (hd : ty7 U l ≠ 16) : ∀ n : Nat, (n : Int) ≤ l → cnL U l n = cnA S f (f + l) n := by sorry
end
section
/-! class and reference: 20, the one verb -/
theorem ps_r {U S : sS} {f : Nat} {l : Int} (h : RLW U S) (sc : SCX U S f) (tb : ∀ i : Int, 0 ≤ ty7 U i ∧ ty7 U i ≤ 108) (hl : l ≤ Xi U 876 7) (hd : ty7 U l ≠ 16) : ∀ n : Nat, (n : Int) ≤ l → 0 ≤ cnL U l n ∧ (cnL U l n = 0 → psL U l n = -1 ∧ psA S f (f + l) n = -1) ∧ (cnL U l n = 1 → psL U l n = psA S f (f + l) n ∧ 0 ≤ psL U l n ∧ psL U l n < n) := by sorry
end
section
/-! class and reference: 20, where the names of a list begin -/
def bc7 (T : Int → Int) (a : Int) : Nat → Nat
  | 0 => 0
  | m + 1 => bc7 T a m + (if T (a + m) = 100 ∧ (m = 0 ∨ T (a + m - 1) ≠ 100) then 1 else 0)
theorem bc_n {T : Int → Int} {a r : Int} (h0 : a ≤ r) (h : T r ≠ 100) : bc7 T a (r + 1 - a).toNat = bc7 T a (r - a).toNat := by sorry
theorem bc_y {T : Int → Int} {a r : Int} (h0 : a ≤ r) (h : T r = 100) (g : r = a ∨ T (r - 1) ≠ 100) : bc7 T a (r + 1 - a).toNat = bc7 T a (r - a).toNat + 1 := by sorry
theorem bc_r {T : Int → Int} {a s : Int} (h0 : a ≤ s) : ∀ m : Nat, (∀ j : Int, s ≤ j → j ≤ s + m → T j = 100) → bc7 T a (s + 1 + m - a).toNat = bc7 T a (s + 1 - a).toNat := by sorry
/-- a run from s to e, that begins at s -/
theorem bc_run {T : Int → Int} {a s e : Int} (h0 : a ≤ s) (h1 : s < e) (k : ∀ j : Int, s ≤ j → j < e → T j = 100) (g : s = a ∨ T (s - 1) ≠ 100) : bc7 T a (e - a).toNat = bc7 T a (s - a).toNat + 1 := by sorry
theorem iol_c {S : sS} {a b k : Int} (hd : ty7 S b ≠ 16) : ∀ (n : Nat) (i : Int) (c l : List Int), ioL S b k n i c = some l → l ≠ [] → a ≤ i → i ≤ b → (i = a ∨ ty7 S (i - 1) ≠ 100) → c.length = bc7 (ty7 S) a (i - a).toNat → l.length = bc7 (ty7 S) a (b - a).toNat ∧ (∀ j : Nat, j < c.length → l.getD j 0 = c.getD j 0) ∧ ∀ r : Int, i ≤ r → r < b → ty7 S r = 100 → (r = a ∨ ty7 S (r - 1) ≠ 100) → l.getD (bc7 (ty7 S) a (r - a).toNat) 0 = fnd S 2 r (ruF S r b) := by sorry
end
end
section
section
/-! class and reference: 20, chains of pairs -/
def GX (ok : sS → Int × Int → Prop) (st : sS → Int × Int → sS) : List (Int × Int) → sS → sS → Prop
  | [], U, V => V = U
  | p :: l, U, V => ok U p ∧ GX ok st l (st U p) V
def BX (ok : sS → Int × Int → Prop) (st : sS → Int × Int → sS) : List (Int × Int) → sS → Prop
  | [], _ => False
  | p :: l, U => ¬ ok U p ∨ BX ok st l (st U p)
theorem gx_app {ok : sS → Int × Int → Prop} {st : sS → Int × Int → sS} : ∀ {l m : List (Int × Int)} {U W V : sS}, GX ok st l U W → GX ok st m W V → GX ok st (l ++ m) U V := by sorry
theorem bx_a1 {ok : sS → Int × Int → Prop} {st : sS → Int × Int → sS} : ∀ {l m : List (Int × Int)} {U : sS}, BX ok st l U → BX ok st (l ++ m) U := by sorry
theorem bx_a2 {ok : sS → Int × Int → Prop} {st : sS → Int × Int → sS} : ∀ {l m : List (Int × Int)} {U W : sS}, GX ok st l U W → BX ok st m W → BX ok st (l ++ m) U := by sorry
theorem gx_bx {ok : sS → Int × Int → Prop} {st : sS → Int × Int → sS} : ∀ {l : List (Int × Int)} {U V : sS}, GX ok st l U V → BX ok st l U → False := by sorry
theorem gx_u {ok : sS → Int × Int → Prop} {st : sS → Int × Int → sS} : ∀ {l : List (Int × Int)} {U V W : sS}, GX ok st l U V → GX ok st l U W → V = W := by sorry
def oC (r : Int) (W : sS) (p : Int × Int) : Prop := okT W r p.1 p.2
def sC (r : Int) (W : sS) (p : Int × Int) : sS := uI W (189 + r.toNat) p.1.toNat (Int32.ofInt (iorF (Xi W (189 + r.toNat) p.1.toNat) (ishlF 1 p.2)))
def oD (r : Int) (D : sS) (p : Int × Int) : Prop := okW D r p.1 p.2
def sDx (r : Int) (D : sS) (p : Int × Int) : sS := uI D 940 (576 * r + 24 * p.1 + p.2).toNat (Int32.ofInt 1)
theorem gx_r {R : Nat} : ∀ (l : List (Int × Int)) {W D : sS}, RLW W D → TX3 W → (R : Int) < Xi W 5 6 → (∀ p ∈ l, (0 ≤ p.1 ∧ p.1 < Xi W 5 2) ∧ 0 ≤ p.2 ∧ p.2 < Xi W 5 2) → (∀ V, GX (oC R) (sC R) l W V → ∃ E, GX (oD R) (sDx R) l D E ∧ RLW V E ∧ TX3 V) ∧ (BX (oC R) (sC R) l W → BX (oD R) (sDx R) l D) := by sorry
theorem trt_1 {W V : sS} {r a b : Int} (h : TRT W V 1 r a b) : oC r W (a, b) ∧ V = sC r W (a, b) := by sorry
theorem trr_1 {W V : sS} {r a b : Int} (h : TRR W V 1 r a b) : oD r W (a, b) ∧ V = sDx r W (a, b) := by sorry
/-- the pairs, as the class goes through them -/
def iC (S : sS) (a v : Int) : Nat → List (Int × Int)
  | 0 => []
  | n + 1 => iC S a v n ++ (if pTo S v (v + 1 + n) = -1 then [] else [(a, pTo S v (v + 1 + n))])
def oCl (S : sS) (v l : Int) : Nat → List (Int × Int)
  | 0 => []
  | n + 1 => oCl S v l n ++ (if pFo S v n = -1 then [] else iC S (pFo S v n) v (l - v - 1).toNat)
/-- the pairs, as the reference goes through them -/
def iD (S : sS) (a : Int) : Nat → List (Int × Int)
  | 0 => []
  | n + 1 => iD S a n ++ [(a, Xi S 989 n)]
def oDl (S : sS) (m : Nat) : Nat → List (Int × Int)
  | 0 => []
  | n + 1 => oDl S m n ++ iD S (Xi S 988 n) m
theorem ic_p {S : sS} {a v : Int} {n : Nat} : ∀ m : Nat, ∃ t, iC S a v (n + m) = iC S a v n ++ t := by sorry
theorem ocl_p {S : sS} {v l : Int} {n : Nat} : ∀ m : Nat, ∃ t, oCl S v l (n + m) = oCl S v l n ++ t := by sorry
theorem id_p {S : sS} {a : Int} {n : Nat} : ∀ m : Nat, ∃ t, iD S a (n + m) = iD S a n ++ t := by sorry
theorem odl_p {S : sS} {k n : Nat} : ∀ m : Nat, ∃ t, oDl S k (n + m) = oDl S k n ++ t := by sorry
theorem rin_g {S : sS} {r a v : Int} : ∀ {n : Nat} {U V : sS}, RIN S r a v n U V → GX (oC r) (sC r) (iC S a v n) U V := by sorry
theorem rou_g {S : sS} {r v l : Int} : ∀ {n : Nat} {U V : sS}, ROU S r v l n U V → GX (oC r) (sC r) (oCl S v l n) U V := by sorry
theorem din_g {S : sS} {r a : Int} : ∀ {n : Nat} {U V : sS}, DIN S r a n U V → GX (oD r) (sDx r) (iD S a n) U V := by sorry
theorem dou_g {S : sS} {r m : Int} : ∀ {n : Nat} {U V : sS}, DOU S r m n U V → GX (oD r) (sDx r) (oDl S m.toNat n) U V := by sorry
theorem ral_b {S S1 : sS} {z r v l : Int} (h : RAL S S1 z r v l) (hz : z = 0) : BX (oC r) (sC r) (oCl S v l v.toNat) S := by sorry
theorem dfa_b {S T : sS} {f : Int} (h : DFA S f T) : BX (oD (Xi S 904 147)) (sDx (Xi S 904 147)) (oDl S (Xi S 904 146).toNat (Xi S 904 144).toNat) S := by sorry
/-- a name begins at row a + m of what begins at a -/
def bgw (T : Int → Int) (a : Int) (m : Nat) : Prop := T (a + m) = 100 ∧ (m = 0 ∨ T (a + m - 1) ≠ 100)
theorem bc_s {T : Int → Int} {a : Int} {m : Nat} (h : bgw T a m) : bc7 T a (m + 1) = bc7 T a m + 1 := by sorry
theorem bc_s0 {T : Int → Int} {a : Int} {m : Nat} (h : ¬ bgw T a m) : bc7 T a (m + 1) = bc7 T a m := by sorry
theorem bc_le {T : Int → Int} {a : Int} {n : Nat} : ∀ m : Nat, bc7 T a n ≤ bc7 T a (n + m) := by sorry
theorem bc_lt {T : Int → Int} {a : Int} {m n : Nat} (h : bgw T a m) (hm : m < n) : bc7 T a m < bc7 T a n := by sorry
theorem ic_id {U T : sS} {a v : Int} {L : Nat} (h : ∀ m : Nat, m < L → (bgw (ty7 U) (v + 1) m → pTo U v (v + 1 + m) = Xi T 989 (bc7 (ty7 U) (v + 1) m) ∧ pTo U v (v + 1 + m) ≠ -1) ∧ (¬ bgw (ty7 U) (v + 1) m → pTo U v (v + 1 + m) = -1)) : ∀ n : Nat, n ≤ L → iC U a v n = iD T a (bc7 (ty7 U) (v + 1) n) := by sorry
theorem ocl_odl {U T : sS} {v l : Int} {k : Nat} (hi : ∀ a : Int, iC U a v (l - v - 1).toNat = iD T a k) {L : Nat} (h : ∀ m : Nat, m < L → (bgw (ty7 U) 0 m → pFo U v m = Xi T 988 (bc7 (ty7 U) 0 m) ∧ pFo U v m ≠ -1) ∧ (¬ bgw (ty7 U) 0 m → pFo U v m = -1)) : ∀ n : Nat, n ≤ L → oCl U v l n = oDl T k (bc7 (ty7 U) 0 n) := by sorry
/-- a name begins there, in the class's words -/
theorem bgw_r {U : sS} {a : Int} {m : Nat} (h0 : 0 ≤ a) : bgr U (a + m) a = 1 ↔ bgw (ty7 U) a m := by sorry
theorem iol_b {S : sS} {b k : Int} (hC : CEN S) (w : WHC S) : ∀ (n : Nat) (i : Int) (c l : List Int), ioL S b k n i c = some l → (∀ x ∈ c, 0 ≤ x ∧ x < Xi S 5 2) → ∀ x ∈ l, 0 ≤ x ∧ x < Xi S 5 2 := by sorry
/-- a list of objects in both: how many, and what each name means -/
theorem lst_r {U S T : sS} {f : Nat} {a b k : Int} {c : Nat} (h : RLW U S) (sc : SCX U S f) (tb : ∀ i : Int, 0 ≤ ty7 U i ∧ ty7 U i ≤ 108) (ha : 0 ≤ a ∧ a ≤ b) (hb : b ≤ Xi U 876 7) (hd : ty7 U b ≠ 16) (ne : lV S (f + a) (f + b) k ≠ []) (ar : ARL T c (lV S (f + a) (f + b) k)) : (lV S (f + a) (f + b) k).length = bc7 (ty7 U) a (b - a).toNat ∧ ∀ m : Nat, (m : Int) < b - a → bgw (ty7 U) a m → fnd U 2 (a + m) (ruF U (a + m) b) = Xi T c (bc7 (ty7 U) a m) ∧ (0 ≤ Xi T c (bc7 (ty7 U) a m) ∧ Xi T c (bc7 (ty7 U) a m) < Xi U 5 2) := by sorry
/-! class and reference: 20 keeps the relation -/
theorem re_ru {U : sS} (hd : ty7 U (Xi U 876 7 - 1) = 103) (j : Int) : re7 (ty7 U) j = ruF U j (Xi U 876 7 - 1) := by sorry
theorem icl_m {S : sS} {a v : Int} : ∀ {n : Nat} {p : Int × Int}, p ∈ iC S a v n → p.1 = a ∧ p.2 ≠ -1 ∧ ∃ j : Int, p.2 = pTo S v j := by sorry
theorem ocl_m {S : sS} {v l : Int} : ∀ {n : Nat} {p : Int × Int}, p ∈ oCl S v l n → (p.1 ≠ -1 ∧ ∃ i : Int, p.1 = pFo S v i) ∧ p.2 ≠ -1 ∧ ∃ j : Int, p.2 = pTo S v j := by sorry
theorem whc_2 {U : sS} (hC : CEN U) (w : WHC U) {a b : Int} (h : fnd U 2 a b ≠ -1) : 0 ≤ fnd U 2 a b ∧ fnd U 2 a b < Xi U 5 2 := by sorry
theorem st_20 {U U1 S T S1 : sS} {f : Nat} {z : Int} (h : RLW U S) (t3 : TX3 U) (sc : SCX U S f) (tb : ∀ i : Int, 0 ≤ ty7 U i ∧ ty7 U i ≤ 108) (h7 : 1 ≤ Xi U 876 7) (hd : ty7 U (Xi U 876 7 - 1) = 103) (f0 : Xi U 876 8 = 0) (zf : z = 0 → Xi U1 876 8 ≠ 0) (tc : TLQ U U1 z) (rc : ∃ P : sS, FR lA S P ∧ (Xi P 904 106 = 0 ∧ Xi P 904 108 = 0) ∧ RSY P T f (f + (Xi U 876 7 - 1))) (Fa : FR md_mo_asked__20f S T) (rd : (NT3 T).1 = 0 → DSY T S1 f) : STP U1 T S1 := by sorry
end
section
/-! 1: commands that were told before stay -/
def KOC (S T : sS) : Prop := ∀ j : Nat, (j : Int) < Xi S 882 3 → (Xi T 883 j = Xi S 883 j ∧ Xi T 884 j = Xi S 884 j ∧ Xi T 885 j = Xi S 885 j ∧ Xi T 886 j = Xi S 886 j) ∧ ∀ i : Nat, i < 8 → Xj T 887 (8 * j + i) = Xj S 887 (8 * j + i)
theorem koc_0 {S : sS} : KOC S S := by sorry
theorem koc_I {S T : sS} {k n : Nat} {v : Int32} (h : KOC S T) (hn : Xi S 882 3 ≤ (n : Int) ∨ ¬ (883 ≤ k ∧ k ≤ 886)) : KOC S (uI T k n v) := by sorry
theorem koc_J {S T : sS} {n : Nat} {v : Int64} (h : KOC S T) (hn : Xi S 882 3 * 8 ≤ (n : Int)) : KOC S (uJ T 887 n v) := by sorry
theorem koc_F {l : List rec} {S T V : sS} (F : FR l T V) (e : kdis l [(883, 888)] = true) (h : KOC S T) : KOC S V := by sorry
theorem koc_s {S T V : sS} {z a : Int} (h : KOC S T) (c : Xi T 882 3 = Xi S 882 3) (s : SUI T V z a) : KOC S V := by sorry
def md_co_takeText__k : List rec := [(882, 883, 10, 11), (884, 885, 0, 100000), (885, 886, 0, 100000), (886, 887, 0, 100000), (887, 888, 0, 100000), (888, 889, 0, 100000)]
abbrev Q_co_takeText__k (S : sS) (t : Nat) (from_ : Int) (to : Int) : pst := fun r S1 => RI S1 ∧ FR md_co_takeText__k S S1 ∧ (∃ z : Int, r = some (iv z) ∧ (0 ≤ z ∧ z ≤ 1) ∧ (TXO S S1 t from_ to z) ∧ (KOC S S1))
set_option maxRecDepth 100000 in
theorem t_co_takeText__k {S : sS} (hH : RI S) (t : Nat) (from_ : Int) (to : Int) (ht : tp t) (hfrom_ : 0 ≤ from_ ∧ from_ ≤ 5000) (hto : 0 ≤ to ∧ to ≤ 5000) (hby : BYT S t) (hft : from_ ≤ to) (hc : 0 ≤ Xi S 882 3 ∧ Xi S 882 3 < 20) (d : Nat) : Mp lay0 (d + 4) m_co_takeText [.ref 882, .ref t, iv from_, iv to] S (Q_co_takeText__k S t from_ to) := by sorry
def md_re_understand__k : List rec := [(876, 877, 8, 9), (876, 877, 9, 10), (882, 883, 3, 4), (882, 883, 10, 11), (883, 884, 0, 100000), (884, 885, 0, 100000), (885, 886, 0, 100000), (886, 887, 0, 100000), (887, 888, 0, 100000), (888, 889, 0, 100000)]
abbrev Q_re_understand__k (S : sS) (ts : Nat) : pst := fun r S1 => RI S1 ∧ FR md_re_understand__k S S1 ∧ (∃ z : Int, r = some (iv z) ∧ (0 ≤ z ∧ z ≤ 1) ∧ (KOC S S1))
set_option maxRecDepth 100000 in
theorem t_re_understand__k {S : sS} (hH : RI S) (ts : Nat) (hts : S.2.2 876 4 = some ts) (htp : tp ts) (h13 : 0 ≤ Xi S 1 3 ∧ Xi S 1 3 ≤ 200) (hCE : CEN S) (hf : Xi S 876 8 = 0) (hr : Xi S 876 7 ≤ 5130) (hby : BYT S ts) (hcc : 0 ≤ Xi S 882 3 ∧ Xi S 882 3 ≤ 20) (h1r : 1 < Xi S 876 7) (hpx : 0 ≤ pc7 S 1 ∧ 0 ≤ Xj S 879 1 ∧ pc7 S 1 + 1 + Xj S 879 1 < 5000) (d : Nat) : Mp lay0 (d + 6) m_re_understand [.ref 891] S (Q_re_understand__k S ts) := by sorry
end
section
/-! class and reference: 1, texts of commands -/
theorem gwk_c {B C : Nat → Int} {kf kg : Int → Int → Prop} {to : Int} (h : BE B C to) (hk : ∀ i : Int, 0 ≤ i → i < we7 B to i → we7 B to i ≤ to → we7 B to i - i ≤ 12 → (kf i (we7 B to i) ↔ kg i (we7 B to i))) : ∀ (n : Nat) (i : Int) (l : List (Int × Int)), 0 ≤ i → gWk B kf to n i l = gWk C kg to n i l := by sorry
theorem gwv_c {B C : Nat → Int} {kf kg : Int → Int → Prop} {to i : Int} (h : BE B C to) (hk : ∀ i : Int, 0 ≤ i → i < we7 B to i → we7 B to i ≤ to → we7 B to i - i ≤ 12 → (kf i (we7 B to i) ↔ kg i (we7 B to i))) (h0 : 0 ≤ i) : gWv B kf to i = gWv C kg to i := by sorry
theorem twk_c {B C : Nat → Int} {kf kg : Int → Int → Prop} {to : Int} (hb : to < 5999) (h : BE B C to) (hk : ∀ i : Int, 0 ≤ i → i < we7 B to i → we7 B to i ≤ to → we7 B to i - i ≤ 12 → (kf i (we7 B to i) ↔ kg i (we7 B to i))) : ∀ (n : Nat) (i : Int) (l : List (Int × Int)) (gi : Int) (g : List (Int × Int)), 0 ≤ i → tWk B kf to n i l gi g = tWk C kg to n i l gi g := by sorry
theorem twv_c {B C : Nat → Int} {kf kg : Int → Int → Prop} {to i : Int} (hb : to < 5999) (h : BE B C to) (hk : ∀ i : Int, 0 ≤ i → i < we7 B to i → we7 B to i ≤ to → we7 B to i - i ≤ 12 → (kf i (we7 B to i) ↔ kg i (we7 B to i))) (h0 : 0 ≤ i) : tWv B kf to i = tWv C kg to i := by sorry
/-- a word of a text -/
def wOK (B : Nat → Int) (to : Int) (p : Int × Int) : Prop := 0 ≤ p.1 ∧ p.1 < p.2 ∧ p.2 ≤ p.1 + 12 ∧ p.2 ≤ to ∧ lt7 (B p.1.toNat) ≠ 0
theorem wok_e {B : Nat → Int} {to i : Int} (h0 : 0 ≤ i) (hi : i < to) (h1 : we7 B to i ≠ i) (h2 : ¬ 12 < we7 B to i - i) : wOK B to (i, we7 B to i) := by sorry
theorem gwk_w {B : Nat → Int} {kf : Int → Int → Prop} {to : Int} : ∀ (n : Nat) (i : Int) (l : List (Int × Int)) (r : Int × List (Int × Int)), 0 ≤ i → (∀ p ∈ l, wOK B to p) → gWk B kf to n i l = some r → ∀ p ∈ r.2, wOK B to p := by sorry
theorem gwv_w {B : Nat → Int} {kf : Int → Int → Prop} {to i : Int} (h0 : 0 ≤ i) (hb : (to - i).toNat < 6000) : ∀ p ∈ (gWv B kf to i).2, wOK B to p := by sorry
theorem twk_w {B : Nat → Int} {kf : Int → Int → Prop} {to : Int} (hb : to < 5999) : ∀ (n : Nat) (i : Int) (l : List (Int × Int)) (gi : Int) (g : List (Int × Int)) (r : Int × List (Int × Int) × Int × List (Int × Int)), 0 ≤ i → (∀ j : Nat, j < l.length → (j : Int) ≠ gi → wOK B to (l.getD j (0, 0))) → (∀ p ∈ g, wOK B to p) → (gi = -1 ∨ gi < l.length) → tWk B kf to n i l gi g = some r → (∀ j : Nat, j < r.2.1.length → (j : Int) ≠ r.2.2.1 → wOK B to (r.2.1.getD j (0, 0))) ∧ ∀ p ∈ r.2.2.2, wOK B to p := by sorry
theorem twv_w {B : Nat → Int} {kf : Int → Int → Prop} {to i : Int} (h0 : 0 ≤ i) (hb : to < 5999) : (∀ j : Nat, j < (tWv B kf to i).2.1.length → (j : Int) ≠ (tWv B kf to i).2.2.1 → wOK B to ((tWv B kf to i).2.1.getD j (0, 0))) ∧ ∀ p ∈ (tWv B kf to i).2.2.2, wOK B to p := by sorry
theorem c27_pos {B : Nat → Int} {f : Nat} (h : lt7 (B f) ≠ 0) : ∀ n : Nat, 0 < c27 B f (n + 1) := by sorry
theorem wok_w {B C : Nat → Int} {to : Int} {p : Int × Int} (be : BE B C to) (h : wOK B to p) : wdC (c27 B p.1.toNat (p.2 - p.1).toNat) ∧ c32 C p.1.toNat (p.2 - p.1).toNat = cv (c27 B p.1.toNat (p.2 - p.1).toNat) ∧ (p.2 - p.1).toNat ≤ 12 := by sorry
theorem kf_r {U P : sS} {ts : Nat} {to : Int} (kr : KEYR (Xj U 880) (Xj P 911)) (be : BE (Xi U ts) (Xi P 906) to) (i : Int) (h0 : 0 ≤ i) (h1 : i < we7 (Xi U ts) to i) (h2 : we7 (Xi U ts) to i ≤ to) (h3 : we7 (Xi U ts) to i - i ≤ 12) : kf7 U ts i (we7 (Xi U ts) to i) ↔ kfR P i (we7 (Xi U ts) to i) := by sorry
/-! class and reference: 1 keeps the relation -/
/-- one command, in both -/
def CM1 (U S : sS) (c : Nat) : Prop :=
  (Xi U 883 c = Xi S 946 c ∧ 0 ≤ Xi U 883 c ∧ Xi U 883 c < Xi U 5 8) ∧
  (Xi U 884 c = Xi S 947 c ∧ 1 ≤ Xi U 884 c ∧ Xi U 884 c ≤ 8) ∧
  (Xi U 886 c = Xi S 949 c ∧ -2 ≤ Xi U 886 c ∧ Xi U 886 c < Xi U 5 0) ∧
  (Xi U 885 c = -1 ∨ (0 ≤ Xi U 885 c ∧ Xi U 885 c < Xi U 884 c)) ∧
  ((Xi U 885 c = -1 ↔ Xi U 886 c = -1) ∧ (Xi U 19 (Xi U 883 c).toNat = -1 ↔ Xi U 886 c = -1) ∧ (Xi U 19 (Xi U 883 c).toNat = -2 ↔ Xi U 886 c = -2) ∧ (0 ≤ Xi U 19 (Xi U 883 c).toNat → isK U (Xi U 886 c) (Xi U 19 (Xi U 883 c).toNat) ≠ 0)) ∧
  ∀ j : Nat, (j : Int) < Xi U 884 c → ((j : Int) = Xi U 885 c → Xj S 948 (8 * c + j) = 0) ∧ ((j : Int) ≠ Xi U 885 c → wdC (Xj U 887 (8 * c + j)) ∧ Xj S 948 (8 * c + j) = cv (Xj U 887 (8 * c + j)))
/-- what commands mean -/
def RCM (U S : sS) : Prop := (Xi U 882 3 = Xi S 904 55 ∧ 0 ≤ Xi U 882 3 ∧ Xi U 882 3 ≤ 20) ∧ ∀ c : Nat, (c : Int) < Xi U 882 3 → CM1 U S c
theorem cm1_k {U U1 S S1 : sS} {c : Nat} (h : CM1 U S c) (a1 : Xi U1 883 c = Xi U 883 c) (a2 : Xi U1 884 c = Xi U 884 c) (a3 : Xi U1 885 c = Xi U 885 c) (a4 : Xi U1 886 c = Xi U 886 c) (a5 : ∀ i : Nat, i < 8 → Xj U1 887 (8 * c + i) = Xj U 887 (8 * c + i)) (b1 : Xi S1 946 c = Xi S 946 c) (b2 : Xi S1 947 c = Xi S 947 c) (b4 : Xi S1 949 c = Xi S 949 c) (b5 : ∀ i : Nat, i < 8 → Xj S1 948 (8 * c + i) = Xj S 948 (8 * c + i)) (c8 : Xi U 5 8 ≤ Xi U1 5 8) (c0 : Xi U 5 0 ≤ Xi U1 5 0) (ak : ∀ i : Nat, (i : Int) < Xi U 5 8 → Xi U1 19 i = Xi U 19 i) (kk : ∀ k o : Int, k < Xi U 5 0 → isK U1 k o = isK U k o) : CM1 U1 S1 c := by sorry
theorem RCM.k {U U1 S S1 : sS} (h : RCM U S) (a : KEP [(883, 888)] [(882, 3)] U U1) (b : KEP [(946, 950)] [(904, 55)] S S1) (c8 : Xi U 5 8 ≤ Xi U1 5 8) (c0 : Xi U 5 0 ≤ Xi U1 5 0) (ak : ∀ i : Nat, (i : Int) < Xi U 5 8 → Xi U1 19 i = Xi U 19 i) (kk : ∀ k o : Int, k < Xi U 5 0 → isK U1 k o = isK U k o) : RCM U1 S1 := by sorry
theorem mnf_k {U : sS} {a b c : Int} (hC : CEN U) (w : WHC U) (h : mnF U a b c / 256 = 0) : 0 ≤ mnF U a b c % 256 ∧ mnF U a b c % 256 < Xi U 5 0 := by sorry
theorem sg_0 {s : Int} (h : 0 ≤ s ∧ s ≤ 12) : sg7 s = 0 ↔ s = 0 := by sorry
/-- what stands in [ ] of a text, to both -/
theorem mng_r {U W P T : sS} {ts : Nat} {to : Int} {g : List (Int × Int)} (h : RLW U P) (F : FR md_co_takeText__p U W) (be : BE (Xi U ts) (Xi P 906) to) (gp : GPR U W ts g) (gr : GPRR P T g) (hg : ∀ p ∈ g, wOK (Xi U ts) to p) : mnG W = if fmC P T = -1 then -1 else sg7 (Xi P 914 (fmC P T).toNat) * 256 + Xi P 915 (fmC P T).toNat := by sorry
theorem fm_rg {P T : sS} (x : LXR P) (h : fmC P T ≠ -1) : (0 ≤ Xi P 914 (fmC P T).toNat ∧ Xi P 914 (fmC P T).toNat ≤ 12) ∧ 0 ≤ Xi P 915 (fmC P T).toNat ∧ Xi P 915 (fmC P T).toNat ≤ 63 := by sorry
theorem sui_r {U W V P T : sS} {ts : Nat} {a to y gi : Int} {l g : List (Int × Int)} (h : RLW U P) (F : FR md_co_takeText__p U W) (be : BE (Xi U ts) (Xi P 906) to) (x : TXR U W ts l gi g) (xr : TXRR P T l gi g) (hg : ∀ p ∈ g, wOK (Xi U ts) to p) (ha : 0 ≤ a ∧ a < Xi U 5 8) (hy : y = 0 ∨ y = 1) (s : SUI W V y a) : (y = 1 ↔ okKC P T (Xi P 942 a.toNat)) ∧ (y = 1 → (Xi P 942 a.toNat = -1 → V = W ∧ gi = -1) ∧ (Xi P 942 a.toNat = -2 → V = uI W 886 (Xi U 882 3).toNat (Int32.ofInt (-2)) ∧ gi ≠ -1) ∧ (Xi P 942 a.toNat ≠ -1 → Xi P 942 a.toNat ≠ -2 → gi ≠ -1 ∧ V = uI W 886 (Xi U 882 3).toNat (Int32.ofInt (Xi P 915 (fmC P T).toNat)) ∧ (0 ≤ Xi P 915 (fmC P T).toNat ∧ Xi P 915 (fmC P T).toNat < Xi U 5 0) ∧ isK U (Xi P 915 (fmC P T).toNat) (Xi P 942 a.toNat) ≠ 0)) := by sorry
/-! class and reference: 1, told to both -/
theorem twk_n {B : Nat → Int} {kf : Int → Int → Prop} {to : Int} : ∀ (n : Nat) (i : Int) (l : List (Int × Int)) (gi : Int) (g : List (Int × Int)) (r : Int × List (Int × Int) × Int × List (Int × Int)), tWk B kf to n i l gi g = some r → (r.1 = 0 ∨ r.1 = 1) ∧ (r.1 = 1 → 1 ≤ r.2.1.length) := by sorry
theorem twv_n {B : Nat → Int} {kf : Int → Int → Prop} {to i : Int} (h0 : 0 ≤ i) (hb : to < 5999) : ((tWv B kf to i).1 = 0 ∨ (tWv B kf to i).1 = 1) ∧ ((tWv B kf to i).1 = 1 → 1 ≤ (tWv B kf to i).2.1.length) := by sorry
theorem cpj_i {S : sS} {a b s t n i : Nat} (h : i < n) : Xj (cpJ S a b s t n) b (t + i) = Xj S a (s + i) := by sorry
theorem cpj_n {S : sS} {a b s t n k j : Nat} (h : k ≠ b ∨ j < t) : Xj (cpJ S a b s t n) k j = Xj S k j := by sorry
theorem cpj_x {S : sS} {a b s t n k j : Nat} : Xi (cpJ S a b s t n) k j = Xi S k j := by sorry
/-- the notes of 1 -/
theorem nt_1 {x : Int × Int × Int} {p q : Int} (h : x.1 = 0) (l : p < q) : NTB (ntF (ntF x 4 q) 8 p) 8 p := by sorry
theorem nt_9 {x : Int × Int × Int} {p q : Int} (h : x.1 = 0) (l : p < q) : NTB (ntF x 9 p) 9 p ∧ NTB (ntF (ntF x 9 p) 8 p) 9 p ∧ NTB (ntF (ntF x 9 p) 4 q) 9 p ∧ NTB (ntF (ntF (ntF x 9 p) 4 q) 8 p) 9 p := by sorry
theorem st_1 {U U1 S T S1 : sS} {f ts : Nat} {z : Int} (h : RLW U S) (t3 : TX3 U) (cm : RCM U S) (sc : SCX U S f) (kr : KEYR (Xj U 880) (Xj S 911)) (be : BE (Xi U ts) (Xi S 906) (pc7 U 1 + 1 + Xj U 879 1)) (hp : 0 ≤ pc7 U 1 ∧ 0 ≤ Xj U 879 1 ∧ pc7 U 1 + 1 + Xj U 879 1 < 5000) (h1r : 1 < Xi U 876 7) (ty1 : ty7 U 1 = 102) (e81 : Xi S 904 81 = f + 1) (k0 : RNR U S f 0 3 (re7 (ty7 U) 3)) (po : pc7 U 1 < pc7 U 3) (f0 : Xi U 876 8 = 0) (zf : z = 0 → Xi U1 876 8 ≠ 0) (tc : TUN md_co_takeText__p md_co_suits__p U U1 ts z (fnd U 8 3 (re7 (ty7 U) 3)) (pc7 U 1 + 1) (pc7 U 1 + 1 + Xj U 879 1)) (kc : KOC U U1) (Fc : FR md_re_understand__p U U1) (rc : ∃ P : sS, FR lA S P ∧ (Xi P 904 106 = 0 ∧ Xi P 904 108 = 0) ∧ RCO P T) (Fa : FR md_mo_asked__1f S T) (rd : (NT3 T).1 = 0 → RDCM T S1 ∧ FR md_mo_does__1f T S1) : STP U1 T S1 ∧ (Xi U1 876 8 = 0 → RCM U1 S1) := by sorry
end
section
/-! class and reference: THINGS -/
theorem tr_key {t k : Int} (h : 0 ≤ t ∧ t ≤ 108) (hk : 100 ≤ k ∧ k < 200) : tr7 t = k ↔ t = k - 100 := by sorry
theorem tkx {U S : sS} {f : Nat} {i : Int} (sc : SCX U S f) (h : 0 ≤ i ∧ i < Xi U 876 7) : tkR S (f + i) = tr7 (ty7 U i) := by sorry
/-- the it of a definition, the noun of a rule -/
def SLF (U S : sS) : Prop := ((Xi U 895 3 = 54 ∧ Xi U 895 4 = Xi S 904 115 ∧ Xi S 904 116 = -1) ∨ (Xi U 895 3 = 53 ∧ Xi U 895 4 = Xi S 904 116 ∧ Xi S 904 115 = -1)) ∧ -1 ≤ Xi U 895 4 ∧ Xi U 895 4 < Xi U 5 0
/-- a THING of the class, of the reference -/
def TMP (U : sS) (w t : Int) : Prop := (w = -2 ∧ t = (if Xi U 895 3 = 54 then -1 else -2)) ∨ ((0 ≤ w ∧ w < Xi U 5 2) ∧ t = w)
theorem tmp_9 {U : sS} {w t : Int} (h : TMP U w t) : t ≠ -9 ∧ w ≠ -1 := by sorry
/-- what a THING is of, in both -/
def THR (U S : sS) (w k t : Int) : Prop := TMP U w t ∧ k = ktC S t ∧ 0 ≤ k ∧ k < Xi U 5 0
theorem thr_self {U S : sS} {k : Int} (sl : SLF U S) (hk : k = 54 ∨ k = 53) : (k = Xi U 895 3 ∧ Xi U 895 4 ≠ -1 → (if k = 54 then Xi S 904 115 else Xi S 904 116) ≠ -1 ∧ THR U S (-2) (Xi U 895 4) (if k = 54 then -1 else -2)) ∧ (¬ (k = Xi U 895 3 ∧ Xi U 895 4 ≠ -1) → (if k = 54 then Xi S 904 115 else Xi S 904 116) = -1) := by sorry
theorem thr_ob {U S : sS} {o : Int} (h : RLW U S) (ho : 0 ≤ o ∧ o < Xi U 5 2) : THR U S o (Xi U 21 o.toNat) o := by sorry
theorem bT_r {U S : sS} {f : Nat} {a : Int} (sc : SCX U S f) (tb : ∀ i : Int, 0 ≤ ty7 U i ∧ ty7 U i ≤ 108) (h : 0 ≤ a ∧ a < Xi U 876 7) : bT (tkR S) (f + a) = f + bA (ty7 U) a := by sorry
/-- a RUN in the tokens is one in the rows -/
theorem rq_r {U S : sS} {f : Nat} {a e : Int} (sc : SCX U S f) (tb : ∀ i : Int, 0 ≤ ty7 U i ∧ ty7 U i ≤ 108) (h0 : 0 ≤ a) (he : e < Xi U 876 7) (q : RQ (tkR S) (f + a) (f + e)) : a < e ∧ (∀ i : Int, a ≤ i → i < e → ty7 U i = 100) ∧ ty7 U e ≠ 100 := by sorry
theorem re_u {T : Int → Int} {a e : Int} (h0 : a ≤ e) (hl : e - a ≤ 5130) (k : ∀ j : Int, a ≤ j → j < e → T j = 100) (q : T e ≠ 100) : re7 T a = e := by sorry
theorem rr_rnr {U S : sS} {f : Nat} {r a e : Int} (h0 : 0 ≤ a) (he : e ≤ Xi U 876 7) (q : a < e ∧ ∀ i : Int, a ≤ i → i < e → ty7 U i = 100) (k : RR S r (f + a) (f + e)) : RNR U S f r a e := by sorry
theorem pc_r {U S : sS} {f : Nat} {i : Int} (sc : SCX U S f) (h : 0 ≤ i ∧ i < Xi U 876 7) : pc7 U i = Xi S 908 ((f : Int) + i).toNat := by sorry
/-- a THING as the reference has read it -/
theorem th3_r {U S : sS} {f : Nat} {a l e so ta tr : Int} (h : RLW U S) (sc : SCX U S f) (tb : ∀ i : Int, 0 ≤ ty7 U i ∧ ty7 U i ≤ 108) (sl : SLF U S) (h0 : 0 ≤ a) (t : TH3 (tkR S) S (f + a) (f + e) so ta tr) (he : e ≤ l) (hr : e < Xi U 876 7) (f5 : (f : Int) + e ≤ 5002) : wheC U a l = e ∧ a < e ∧ (a ≤ whrC U a ∧ whrC U a < e) ∧ pc7 U (whrC U a) = Xi S 908 ta.toNat ∧ (so * 10000 + ta) % 10000 = ta ∧ (whoC U a l = -1 → mtV S (so * 10000 + ta) tr = -9 ∧ whkC U a l = -1) ∧ (whoC U a l ≠ -1 → THR U S (whoC U a l) (whkC U a l) (mtV S (so * 10000 + ta) tr)) := by sorry
end
section
/-! class and reference: sayings -/
theorem obx {U S : sS} {f : Nat} {a v : Int} (sc : SCX U S f) (tb : ∀ i : Int, 0 ≤ ty7 U i ∧ ty7 U i ≤ 108) (h0 : 0 ≤ a) (ha : a ≤ v) (hv : v < Xi U 876 7) (n : ¬ (bA (ty7 U) a < v ∧ ∀ j : Int, bA (ty7 U) a ≤ j → j < v → ty7 U j = 100)) : obR S (f + a) (f + v) = -9 := by sorry
theorem tor9 {S : sS} {p t : Int} (n0 : ¬ toR0 S p t) (n1 : ¬ (t - p = 1 ∨ (t - p = 2 ∧ Xi S 907 p.toNat = 102)) ∨ ¬ toR1 S p t) (o : ¬ toR1 S p t → obR S p t = -9) : toR S p t = -9 := by sorry
/-- tokens that are a THING, to both -/
theorem thg_r {U S : sS} {f : Nat} {a v : Int} (h : RLW U S) (sc : SCX U S f) (tb : ∀ i : Int, 0 ≤ ty7 U i ∧ ty7 U i ≤ 108) (sl : SLF U S) (h0 : 0 ≤ a) (ha : a ≤ v) (hv : v < Xi U 876 7) (nn : ty7 U v ≠ 53) : (wheC U a v = v ∧ whoC U a v ≠ -1 → THR U S (whoC U a v) (whkC U a v) (toR S (f + a) (f + v))) ∧ (¬ (wheC U a v = v ∧ whoC U a v ≠ -1) → toR S (f + a) (f + v) = -9) := by sorry
theorem who_k {U : sS} {a l : Int} (h : whoC U a l = -1) : whkC U a l = -1 := by sorry
/-- one verb of a saying, to both -/
theorem qs_rr {U S : sS} {f : Nat} {a b v : Int} (h : RLW U S) (sc : SCX U S f) (tb : ∀ i : Int, 0 ≤ ty7 U i ∧ ty7 U i ≤ 108) (sl : SLF U S) (h0 : 0 ≤ a) (ha : a ≤ v) (hvb : v < b) (hb : b < Xi U 876 7) (nb : ty7 U b ≠ 53) : (qsC U a b v ↔ qsR S (f + a) (f + b) (f + v)) ∧ (qsC U a b v → rs7 U v = rsR S (f + v) ∧ (0 ≤ rs7 U v ∧ rs7 U v < Xi U 5 6) ∧ TMP U (whoC U a v) (toR S (f + a) (f + v)) ∧ TMP U (whoC U (v + 1) b) (toR S (f + v + 1) (f + b))) := by sorry
/-! notes at later places; sayings: how many -/
def NTG (p0 : Int) (x y : Int × Int × Int) : Prop := ∃ l : List (Int × Int), (∀ u ∈ l, p0 ≤ u.2) ∧ y = l.foldl (fun x u => ntF x u.1 u.2) x
theorem ntg_0 {p0 : Int} {x : Int × Int × Int} : NTG p0 x x := by sorry
theorem ntg_1 {p0 f p : Int} {x : Int × Int × Int} (h : p0 ≤ p) : NTG p0 x (ntF x f p) := by sorry
theorem ntg_t {p0 : Int} {x y z : Int × Int × Int} (h : NTG p0 x y) (k : NTG p0 y z) : NTG p0 x z := by sorry
theorem ntg_n {p0 f p : Int} {x y : Int × Int × Int} (h : NTG p0 x y) (k : p0 ≤ p) : NTG p0 x (ntF y f p) := by sorry
theorem ntg_le {p0 p1 : Int} {x y : Int × Int × Int} (h : NTG p0 x y) (k : p1 ≤ p0) : NTG p1 x y := by sorry
theorem ntg_if {p0 : Int} {x y z : Int × Int × Int} {c : Prop} [Decidable c] (h : NTG p0 x y) (k : NTG p0 x z) : NTG p0 x (if c then y else z) := by sorry
theorem ntg_b {p0 c p : Int} (hc : c ≠ 0) (hp : p < p0) : ∀ (l : List (Int × Int)) (x : Int × Int × Int), (∀ u ∈ l, p0 ≤ u.2) → NTB x c p → NTB (l.foldl (fun x u => ntF x u.1 u.2) x) c p := by sorry
/-- a fault at an earlier place stands -/
theorem ntg_k {p0 c p : Int} {x y : Int × Int × Int} (h : NTG p0 x y) (b : NTB x c p) (hc : c ≠ 0) (hp : p < p0) : NTB y c p := by sorry
theorem qs_a {U : sS} {a b : Int} : ¬ qsC U a b a := by sorry
def endT (t : Int) : Prop := t = 103 ∨ t = 105 ∨ t = 107 ∨ t = 16 ∨ t = 106
theorem whk_e {U : sS} {b : Int} (e : endT (ty7 U b)) : whkC U b b = -1 := by sorry
theorem qs_b {U : sS} {a b v : Int} (e : endT (ty7 U b)) (hv : v + 1 = b) : ¬ qsC U a b v := by sorry
theorem cs_r {U S : sS} {f : Nat} {a b : Int} (h : RLW U S) (sc : SCX U S f) (tb : ∀ i : Int, 0 ≤ ty7 U i ∧ ty7 U i ≤ 108) (sl : SLF U S) (h0 : 0 ≤ a) (hb : b < Xi U 876 7) (nb : ty7 U b ≠ 53) : ∀ n : Nat, a + 1 + n ≤ b → cnS U a b (n + 1) = cnT S (f + a) (f + b) n ∧ 0 ≤ cnS U a b (n + 1) ∧ (cnS U a b (n + 1) = 0 → psT S (f + a) (f + b) n = -1) ∧ (cnS U a b (n + 1) = 1 → psT S (f + a) (f + b) n = f + psS U a b (n + 1) ∧ a ≤ psS U a b (n + 1) ∧ psS U a b (n + 1) < b ∧ qsC U a b (psS U a b (n + 1))) := by sorry
/-- a saying, to both: how many, and which -/
theorem say_r {U S S1 : sS} {f : Nat} {a b q c : Int} (h : RLW U S) (sc : SCX U S f) (tb : ∀ i : Int, 0 ≤ ty7 U i ∧ ty7 U i ≤ 108) (sl : SLF U S) (h0 : 0 ≤ a) (hab : a < b) (hb : b < Xi U 876 7) (eb : endT (ty7 U b)) (m : SYRO S S1 q (f + a) (f + b) c) : c = cnS U a b (b - a).toNat ∧ 0 ≤ c ∧ (c = 1 → TMP U (whoC U a (psS U a b (b - a).toNat)) (Xi S1 971 q.toNat) ∧ TMP U (whoC U (psS U a b (b - a).toNat + 1) b) (Xi S1 975 q.toNat) ∧ Xi S1 972 q.toNat = rs7 U (psS U a b (b - a).toNat) ∧ 0 ≤ rs7 U (psS U a b (b - a).toNat) ∧ rs7 U (psS U a b (b - a).toNat) < Xi U 5 6) := by sorry
end
section
/-! class and reference: where a test lies -/
theorem lse_n {k now : Int} (h : LSE k) : ¬ ETR k now ∧ k ≠ 104 := by sorry
theorem th3_in {T : Int → Int} {V : sS} {p e so ta tr : Int} (h : TH3 T V p e so ta tr) : p < e ∧ ∀ i : Int, p ≤ i → i < e → LSE (T i) := by sorry
theorem the_in {T : Int → Int} {V : sS} {p e x y : Int} (h : THE T V p e x y) : p < e ∧ ∀ i : Int, p ≤ i → i < e → LSE (T i) := by sorry
theorem whe_in {T : Int → Int} {V : sS} {p e r now : Int} (h : WHE T V p e r) : p < e ∧ ∀ i : Int, p ≤ i → i < e → ¬ ETR (T i) now := by sorry
theorem twe_in {T : Int → Int} {V : sS} {now p e n0 f n w r : Int} (h : TWE T V now p e n0 f n w r) : p < e ∧ ∀ i : Int, p ≤ i → i < e → ¬ ETR (T i) now := by sorry
theorem ple_in {T : Int → Int} {p e w now : Int} (h : PLE T p e w) : p < e ∧ ∀ i : Int, p ≤ i → i < e → ¬ ETR (T i) now := by sorry
theorem pre_in {T : Int → Int} {V : sS} {p e x now : Int} (h : PRE T V p e x) : p < e ∧ ∀ i : Int, p ≤ i → i < e → ¬ ETR (T i) now ∧ T i ≠ 104 := by sorry
/-- nothing within a test ends it -/
theorem ts_in {T : Int → Int} {V : sS} {c : Nat} {p e now : Int} (h : TSTR T V c p e now) : p < e ∧ ∀ i : Int, p ≤ i → i < e → ¬ ETR (T i) now := by sorry
theorem etr_r {U S : sS} {f : Nat} {i now : Int} (sc : SCX U S f) (tb : ∀ i : Int, 0 ≤ ty7 U i ∧ ty7 U i ≤ 108) (h : 0 ≤ i ∧ i < Xi U 876 7) : ETR (tkR S (f + i)) now ↔ et7 now (ty7 U i) := by sorry
theorem te8_u {T : Int → Int} {now b : Int} (q : et7 now (T b)) : ∀ (m : Nat) (n : Nat) (a : Int), a + m = b → m < n → (∀ i : Int, a ≤ i → i < b → ¬ et7 now (T i)) → te8F T now n a = b := by sorry
/-- both find the same end of a test -/
theorem te_r {U S V : sS} {f c : Nat} {a b now : Int} (sc : SCX U S f) (tb : ∀ i : Int, 0 ≤ ty7 U i ∧ ty7 U i ≤ 108) (h0 : 0 ≤ a) (hb : b < Xi U 876 7) (t : TSTR (tkR S) V c (f + a) (f + b) now) : a < b ∧ te8 (ty7 U) now a = b ∧ et7 now (ty7 U b) := by sorry
theorem fo7_y {T : Int → Int} {k b i : Int} (h : T i = k) : ∀ (m : Nat) (a : Int), a + m = i → i < b → (∀ j : Int, a ≤ j → j < i → T j ≠ k) → fo7 T k a b = i := by sorry
theorem fo7_n {T : Int → Int} {k b : Int} : ∀ (m : Nat) (a : Int), a + m = b → (∀ j : Int, a ≤ j → j < b → T j ≠ k) → fo7 T k a b = -1 := by sorry
theorem re_sp {T : Int → Int} : ∀ (n : Nat) (r : Int), r ≤ reF T n r ∧ ∀ j : Int, r ≤ j → j < reF T n r → T j = 100 := by sorry
/-- the RUN of, in both -/
theorem bof_r {U S : sS} {f : Nat} {a : Int} (sc : SCX U S f) (tb : ∀ i : Int, 0 ≤ ty7 U i ∧ ty7 U i ≤ 108) (h0 : 0 ≤ a) (b : bpP U a) : BOF (tkR S) (f + a) := by sorry
end
end
section
section
/-! class and reference: one test, its shape -/
/-- what sentences are read with -/
def ENV (U S : sS) (f : Nat) : Prop := RLW U S ∧ SCX U S f ∧ (∀ i : Int, 0 ≤ ty7 U i ∧ ty7 U i ≤ 108) ∧ SLF U S ∧ (RST U S ∧ TOK U ∧ ∀ j : Nat, 0 ≤ Xi U 878 j) ∧ (f : Int) + Xi U 876 7 ≤ 5002 ∧ (∀ i j : Int, 0 ≤ i → i < j → j < Xi U 876 7 → pc7 U i < pc7 U j)
def THF (U S : sS) (a l e x y : Int) : Prop := wheC U a l = e ∧ a < e ∧ (a ≤ whrC U a ∧ whrC U a < e) ∧ pc7 U (whrC U a) = Xi S 908 (x % 10000).toNat ∧ (whoC U a l = -1 → mtV S x y = -9 ∧ whkC U a l = -1) ∧ (whoC U a l ≠ -1 → THR U S (whoC U a l) (whkC U a l) (mtV S x y))
theorem thf_r {U S : sS} {f : Nat} {a l e x y : Int} (v : ENV U S f) (h0 : 0 ≤ a) (t : THE (tkR S) S (f + a) (f + e) x y) (he : e ≤ l) (hr : e < Xi U 876 7) : THF U S a l e x y := by sorry
/-- a test of a property -/
def SHB (U S : sS) (f c : Nat) (a b now : Int) : Prop := bpP U a ∧ a < isP U a b ∧ isP U a b < b ∧ RNR U S f (Xi S 956 c) (a + 1) (re7 (ty7 U) (a + 1)) ∧ (re7 (ty7 U) (a + 1) + 1 ≤ isP U a b) ∧ THF U S (re7 (ty7 U) (a + 1) + 1) (Xi U 876 7 - 1) (isP U a b) (Xi S 954 c) (Xi S 955 c) ∧
  ((numT U (isP U a b) = 1 ∧ ((ty7 U (isP U a b + 1) = 51 ∧ Xi S 952 c = 1) ∨ (ty7 U (isP U a b + 1) = 52 ∧ Xi S 952 c = 2)) ∧ Xi S 953 c = 0 ∧ ty7 U (isP U a b + 3) = 101 ∧ Xi S 957 c = f + (isP U a b + 3) ∧ isP U a b + 3 < b) ∨
   (numT U (isP U a b) = 0 ∧ Xi S 952 c = 0 ∧ Xi S 953 c = ntT U (isP U a b) ∧ Xi S 957 c = f + (isP U a b + 1 + ntT U (isP U a b)) ∧ isP U a b + 1 + ntT U (isP U a b) < b ∧ (ty7 U (isP U a b + 1 + ntT U (isP U a b)) = 101 ∨ ty7 U (isP U a b + 1 + ntT U (isP U a b)) = 102 ∨ ty7 U (isP U a b + 1 + ntT U (isP U a b)) = 100) ∧ (ty7 U (isP U a b + 1 + ntT U (isP U a b)) = 100 → RNR U S f (Xi S 960 c) (isP U a b + 1 + ntT U (isP U a b)) (re7 (ty7 U) (isP U a b + 1 + ntT U (isP U a b))))))
/-- a test of a thing -/
def SHC (U S : sS) (f c : Nat) (a b now : Int) : Prop := ¬ bpP U a ∧ a < isP U a b ∧ isP U a b < b ∧ THF U S a b (isP U a b) (Xi S 954 c) (Xi S 955 c) ∧ Xi S 953 c = ntT U (isP U a b) ∧ wJ U a b < b ∧
  ((ty7 U (wJ U a b) = 100 ∧ Xi S 952 c = 3 ∧ RNR U S f (Xi S 956 c) (wJ U a b) b) ∨
   (ty7 U (wJ U a b) ≠ 100 ∧ now = 0 ∧ Xi S 952 c = 4 ∧ Xi S 958 c = wyC (ty7 U (wJ U a b)) ∧ (1 ≤ Xi S 958 c ∧ Xi S 958 c ≤ 5) ∧ wJ U a b < plR U (wJ U a b) ∧ THF U S (plR U (wJ U a b)) b b (Xi S 959 c) (Xi S 960 c)))
theorem shp_r {U S : sS} {f c : Nat} {a b now : Int} (v : ENV U S f) (h0 : 0 ≤ a) (hb : b < Xi U 876 7) (hn : now = 0 ∨ now = 1) (t : TSTR (tkR S) S c (f + a) (f + b) now) : Xi S 961 c = f + a ∧ Xi S 962 c = f + b ∧ a < b ∧ endT (ty7 U b) ∧ ((Xi S 952 c = 5 ∧ Xi S 953 c = 0 ∧ isP U a b = -1) ∨ SHB U S f c a b now ∨ SHC U S f c a b now) := by sorry
end
section
/-! class and reference: one test -/
theorem whr_q {U S : sS} {f : Nat} {w tp r : Int} (sc : SCX U S f) (v : RVO U S) (wh : WHC U) (ty : RTY U S) (hw : 0 ≤ w ∧ w < Xi U 876 7) (tb : 0 ≤ ty7 U w ∧ ty7 U w ≤ 108) (g : ty7 U w = 101 ∨ ty7 U w = 102 ∨ ty7 U w = 100) (k : ty7 U w = 100 → RNR U S f r w (re7 (ty7 U) w)) : (∀ x l : Int, WHR U w tp x l → wOKR S (f + w) r tp ∧ x = wvR S (f + w) r ∧ l = wlR S (f + w) ∧ (tp = 1 → ty7 U w = 102)) ∧ (wOKR S (f + w) r tp → ∃ x l : Int, WHR U w tp x l) := by sorry
def TMK (sk n w t : Int) : Prop := (w = -2 ∧ t = (if sk = 54 then -1 else -2)) ∨ ((0 ≤ w ∧ w < n) ∧ t = w)
/-- a test of the class (its clause's fields) is a test of the reference (its entries) -/
def TQF (U S : sS) (q : Nat) (sk fm n w h t g m : Int) : Prop := (Xi S 970 q = n ∧ (n = 0 ∨ n = 1)) ∧ TMK sk (Xi U 5 2) w (Xi S 971 q) ∧
  ((fm = 6 ∧ Xi S 969 q = 5 ∧ n = 0 ∧ TMK sk (Xi U 5 2) m (Xi S 975 q) ∧ Xi S 972 q = h ∧ 0 ≤ h ∧ h < Xi U 5 6) ∨
   (fm = 5 ∧ Xi S 969 q = 4 ∧ TMK sk (Xi U 5 2) m (Xi S 975 q) ∧ Xi S 973 q = t ∧ 1 ≤ t ∧ t ≤ 5) ∨
   (fm = 0 ∧ Xi S 969 q = 3 ∧ Xi S 973 q = h ∧ 0 ≤ h ∧ h < Xi U 5 3 ∧ h < 24) ∨
   (fm = 1 ∧ Xi S 969 q = 3 ∧ n = 0 ∧ g = 0 ∧ Xi S 973 q = 100 + 100 * t + h ∧ (0 ≤ h ∧ h < Xi U 5 5 ∧ h < 12) ∧ (0 ≤ t ∧ t < Xi U 5 4) ∧ Xi U 9 h.toNat ≠ 1) ∨
   (((fm = 2 ∧ Xi S 969 q = 1) ∨ (fm = 3 ∧ Xi S 969 q = 2)) ∧ n = 0 ∧ Xi S 972 q = h ∧ (0 ≤ h ∧ h < Xi U 5 5) ∧ Xi U 9 h.toNat = 0 ∧ Xi S 973 q = t) ∨
   (fm = 1 ∧ Xi S 969 q = 0 ∧ Xi S 972 q = h ∧ (0 ≤ h ∧ h < Xi U 5 5) ∧ Xi U 9 h.toNat ≠ 1 ∧ Xi S 973 q = t ∧ g = 0 ∧ Xi S 974 q = 0) ∨
   (fm = 4 ∧ Xi S 969 q = 0 ∧ Xi S 972 q = h ∧ (0 ≤ h ∧ h < Xi U 5 5) ∧ Xi U 9 h.toNat = 1 ∧ TXQ U S t g (Xi S 973 q) (Xi S 974 q)))
theorem plo_le {U S : sS} {f : Nat} {i j : Int} (v : ENV U S f) (h0 : 0 ≤ i) (h1 : i ≤ j) (h2 : j < Xi U 876 7) : pc7 U i ≤ pc7 U j := by sorry
/-- the property that a RUN means -/
theorem pok_r {U S : sS} {f : Nat} {r x y w k th : Int} (v : ENV U S f) (rn : RNR U S f r x y) (t1 : w = -1 → th = -9 ∧ k = -1) (t2 : w ≠ -1 → THR U S w k th) : (mnV U x y / 256 = 5 → rnR S r 7 = mnV U x y % 256 ∧ (0 ≤ mnV U x y % 256 ∧ mnV U x y % 256 < Xi U 5 5 ∧ Xi U 5 5 ≤ 12) ∧ Xi U 9 (mnV U x y % 256).toNat = Xi S 928 (rnR S r 7).toNat) ∧ (mnV U x y / 256 ≠ 5 → rnR S r 7 = -1) ∧ ((mnV U x y / 256 = 5 ∧ (k = -1 ∨ iandF (ishrF (pps U k) (mnV U x y % 256)) 1 ≠ 0)) ↔ pmK S r th) ∧ (w ≠ -1 → (pmK S r th → pmZ S r th = mnV U x y % 256) ∧ (¬ pmK S r th → pmZ S r th = -1)) ∧ (w = -1 → pmZ S r th = -1) := by sorry
theorem ad_0 {U S : sS} {t n k d v : Int} (h : RLW U S) (hk : 0 ≤ k ∧ k < Xi U 5 0) : 0 ≤ adR S t n k d v := by sorry
/-- ADJECTIVES of a test -/
theorem a3_r {U S : sS} {f c : Nat} {a b k th now n : Int} (v : ENV U S f) (rn : RNR U S f (Xi S 956 c) a b) (hk : 0 ≤ k ∧ k < Xi U 5 0) (e1 : mT1 S c = th) (e2 : k = ktC S th) (e3 : Xi S 953 c = n) : aT3 S c now = raF U k a b (1 - n) (1 - now) ∧ 0 ≤ aT3 S c now ∧ (aT3 S c now = 1 → COD (mnV U a b % 256) (rlF U k a b (1 - n)) (cT3 S c now) ∧ (rlF U k a b (1 - n) = -1 → mnV U a b % 256 < Xi U 5 3) ∧ (rlF U k a b (1 - n) ≠ -1 → rlF U k a b (1 - n) < Xi U 5 5 ∧ mnV U a b % 256 < Xi U 5 4 ∧ Xi U 8 (mnV U a b % 256).toNat ≠ 1 ∧ Xi U 9 (rlF U k a b (1 - n)).toNat = Xi U 8 (mnV U a b % 256).toNat)) := by sorry
end
section
/-! class and reference: one test, good or not -/
theorem tsg_r {U S S1 : sS} {f c : Nat} {a b q now : Int} (v : ENV U S f) (h0 : 0 ≤ a) (hb : b < Xi U 876 7) (hn : now = 0 ∨ now = 1) (rd : TSTR (tkR S) S c (f + a) (f + b) now) (tm : TMX S S1 c q now) : NTG (pc7 U a) (NT3 S) (NT3 S1) := by sorry
/-- a test that is good to the class is good to the reference, and means the same -/
theorem tsy_r {U S S1 : sS} {f c : Nat} {a b q now fm n w h t g m : Int} (v : ENV U S f) (h0 : 0 ≤ a) (hb : b < Xi U 876 7) (hn : now = 0 ∨ now = 1) (hq : 0 ≤ q) (rd : TSTR (tkR S) S c (f + a) (f + b) now) (tm : TMX S S1 c q now) (s6 : ∀ j, Xi S1 906 j = Xi S 906 j) (y : TSY U a b now fm n w h t g m) : NT3 S1 = NT3 S ∧ TQF U S1 q.toNat (Xi U 895 3) fm n w h t g m := by sorry
/-- a test that isn't good: the same fault -/
theorem tsn_r {U S S1 : sS} {f c : Nat} {a b q now cc r : Int} (v : ENV U S f) (h0 : 0 ≤ a) (hb : b < Xi U 876 7) (hn : now = 0 ∨ now = 1) (rd : TSTR (tkR S) S c (f + a) (f + b) now) (tm : TMX S S1 c q now) (x0 : (NT3 S).1 = 0) (y : TSN U a b now cc r) : NTB (NT3 S1) cc (pc7 U r) ∧ cc ≠ 0 ∧ a ≤ r ∧ r < b := by sorry
end
section
/-! class and reference: TESTS -/
theorem rst_3 {U S : sS} (h : RST U S) : TX3 U := by sorry
theorem env_k {l : List rec} {U S T : sS} {f : Nat} (v : ENV U S f) (F : FR l S T) (e : kepC l [(906, 907), (912, 923), (924, 946), (907, 911)] [(904, 15), (904, 16), (904, 18), (904, 19), (904, 23), (904, 30), (904, 32), (904, 41), (904, 47), (904, 49), (904, 51), (904, 60), (904, 115), (904, 116)] = true) : ENV U T f := by sorry
/-- what was kept of a test stays -/
theorem tstr_q {S T : sS} {c : Nat} {p e now : Int} (k : KEP [(907, 908), (950, 963)] [(904, 69)] S T) (h : TSTR (tkR S) S c p e now) : TSTR (tkR T) T c p e now := by sorry
/-- a chain of tests, where the class finds them -/
theorem tsq_r {U S V : sS} {f c : Nat} {a : Int} (sc : SCX U S f) (tb : ∀ i : Int, 0 ≤ ty7 U i ∧ ty7 U i ≤ 108) (h0 : 0 ≤ a) : ∀ (n : Nat) (e : Int), TSQ (tkR S) V c (f + a) (n + 1) (f + e) → e < Xi U 876 7 → (∀ k : Nat, k ≤ n → TSTR (tkR S) V (c + k) (f + pT7 U a k) (f + eT7 U a k) 0 ∧ a ≤ pT7 U a k ∧ pT7 U a k < eT7 U a k ∧ eT7 U a k ≤ e) ∧ eT7 U a n = e ∧ (∀ k : Nat, k < n → ty7 U (eT7 U a k) = 16) := by sorry
theorem pt_lt {U : sS} {a : Int} : ∀ (m k : Nat), (∀ j : Nat, j ≤ k + m → pT7 U a j < eT7 U a j) → eT7 U a k < pT7 U a (k + m + 1) := by sorry
theorem tsr_f {C : sS} : ∀ (n : Nat) (W : sS), TSR md_mo_need__p md_mo_testMeant__p C n W → FR md_mo_testMeant__p C W := by sorry
/-- the tests as the reading has left them -/
def TCH (U C : sS) (f : Nat) (a : Int) (N : Nat) : Prop := ∀ k : Nat, k < N → TSTR (tkR C) C k (f + pT7 U a k) (f + eT7 U a k) 0 ∧ a ≤ pT7 U a k ∧ pT7 U a k < eT7 U a k ∧ eT7 U a k < Xi U 876 7
theorem tch_s {U C W X T A : sS} {f n N : Nat} {a : Int} (v : ENV U C f) (ch : TCH U C f a N) (hn : n < N) (F : FR md_mo_testMeant__p C A) : ENV U A f ∧ TSTR (tkR A) A n (f + pT7 U a n) (f + eT7 U a n) 0 := by sorry
theorem rk_nn {f : Int} : 0 ≤ rk7 f := by sorry
theorem ntg_9 {p : Int} : ∀ (l : List (Int × Int)), (∀ u ∈ l, p ≤ u.2) → l.foldl (fun x u => ntF x u.1 u.2) ((9, p, 0) : Int × Int × Int) = (9, p, 0) := by sorry
/-- all notes of TESTS are at their places -/
theorem tsr_g {U C : sS} {f N : Nat} {a : Int} (v : ENV U C f) (h0 : 0 ≤ a) (ch : TCH U C f a N) : ∀ (n : Nat) (W : sS), n ≤ N → TSR md_mo_need__p md_mo_testMeant__p C n W → NTG (pc7 U a) (NT3 C) (NT3 W) ∧ ∀ k : Nat, k ≤ n → ∃ X : sS, TSR md_mo_need__p md_mo_testMeant__p C k X ∧ (k = n → X = W) ∧ (k < n → NTG (pc7 U (pT7 U a k)) (NT3 X) (NT3 W)) := by sorry
theorem tqf_k {U S T : sS} {q : Nat} {sk fm n w h t g m : Int} (e : ∀ k : Nat, 969 ≤ k → k ≤ 975 → Xi T k q = Xi S k q) (s6 : ∀ j, Xi T 906 j = Xi S 906 j) (x : TQF U S q sk fm n w h t g m) : TQF U T q sk fm n w h t g m := by sorry
/-- TESTS that are good mean the same -/
theorem tsr_y {U C : sS} {f N : Nat} {a : Int} (v : ENV U C f) (h0 : 0 ≤ a) (ch : TCH U C f a N) (q0 : 0 ≤ Xi C 904 117) : ∀ (n : Nat) (W : sS), n ≤ N → n ≤ 6 → (∀ k : Nat, k < n → ∃ fm i w h t g m : Int, TSY U (pT7 U a k) (eT7 U a k) 0 fm i w h t g m) → TSR md_mo_need__p md_mo_testMeant__p C n W → NT3 W = NT3 C ∧ ∀ k : Nat, k < n → ∀ fm i w h t g m : Int, TSY U (pT7 U a k) (eT7 U a k) 0 fm i w h t g m → TQF U W (Xi C 904 117 + k).toNat (Xi U 895 3) fm i w h t g m := by sorry
/-- TESTS of both: good and the same, or the same fault -/
theorem tss_r {U B C S1 : sS} {f N : Nat} {a y : Int} (v : ENV U C f) (h0 : 0 ≤ a) (ch : TCH U C f a N) (q0 : 0 ≤ Xi C 904 117) (n0 : 0 < N) (mid : ∀ k : Nat, k + 1 < N → ty7 U (eT7 U a k) = 16) (last : ty7 U (eT7 U a (N - 1)) ≠ 16) (hy : y = 0 ∨ y = 1) (ts : TSS U B a y) (tr : TSR md_mo_need__p md_mo_testMeant__p C N S1) : (y = 1 → NT3 S1 = NT3 C ∧ N ≤ 6 ∧ Xi B 876 8 = 0 ∧ TCK U B a N ∧ ∀ k : Nat, k < N → ∃ fm i w h t g m : Int, CLM B ((Xi U 246 5).toNat + k) fm i w h t g m ∧ TQF U S1 (Xi C 904 117 + k).toNat (Xi U 895 3) fm i w h t g m) ∧ (y = 0 → (NT3 C).1 = 0 → NTB (NT3 S1) (Xi B 876 8) (Xi B 876 9)) := by sorry
end
section
/-! class and reference: definitions, what the book keeps -/
def TQR (U S : sS) (cl q : Nat) (sk : Int) : Prop := ∃ fm n w h t g m : Int, CLM U cl fm n w h t g m ∧ TQF U S q sk fm n w h t g m
/-- how much there is -/
def BKC (U S : sS) : Prop := (0 ≤ Xi U 246 5 ∧ Xi U 246 5 ≤ 19 * Xi U 246 2 + 6 * (Xi U 5 3 - 2)) ∧ (0 ≤ Xi S 904 117 ∧ Xi S 904 117 ≤ 14 * Xi U 246 2 + 6 * (Xi U 5 3 - 2)) ∧ (0 ≤ Xi S 904 125 ∧ Xi S 904 125 ≤ 8 * Xi U 246 2) ∧ (Xi U 246 2 = Xi S 904 130 ∧ 0 ≤ Xi U 246 2 ∧ Xi U 246 2 ≤ 24) ∧ 0 ≤ Xi U 246 8
/-- DEFINED adjectives -/
def DF1 (U S : sS) (a : Nat) : Prop := (0 ≤ Xi U 12 a ∧ Xi U 12 a + Xi U 13 a ≤ Xi U 246 5) ∧ (0 ≤ Xi S 923 a ∧ Xi S 923 a + Xi U 13 a ≤ Xi S 904 117) ∧ (1 ≤ Xi U 13 a ∧ Xi U 13 a ≤ 6) ∧ ∀ k : Nat, (k : Int) < Xi U 13 a → TQR U S ((Xi U 12 a).toNat + k) ((Xi S 923 a).toNat + k) 54
def DFR (U S : sS) : Prop := ∀ a : Nat, (a : Int) < Xi U 5 3 → Xi U 11 a = -1 → DF1 U S a
theorem tqf_u {U U1 S : sS} {q : Nat} {sk fm n w h t g m : Int} (c : ∀ j, Xi U 5 j ≤ Xi U1 5 j) (n9 : ∀ p : Nat, (p : Int) < Xi U 5 5 → Xi U1 9 p = Xi U 9 p) (tx : ∀ j, Xi U1 (txr U1) j = Xi U (txr U) j) (x : TQF U S q sk fm n w h t g m) : TQF U1 S q sk fm n w h t g m := by sorry
theorem tqr_k {U U1 S S1 : sS} {cl q : Nat} {sk : Int} (h : TQR U S cl q sk) (hc : ∀ j, Xi U1 (276 + cl) j = Xi U (276 + cl) j) (hq : ∀ k : Nat, 969 ≤ k → k ≤ 975 → Xi S1 k q = Xi S k q) (s6 : ∀ j, Xi S1 906 j = Xi S 906 j) (c : ∀ j, Xi U 5 j ≤ Xi U1 5 j) (n9 : ∀ p : Nat, (p : Int) < Xi U 5 5 → Xi U1 9 p = Xi U 9 p) (tx : ∀ j, Xi U1 (txr U1) j = Xi U (txr U) j) : TQR U1 S1 cl q sk := by sorry
theorem df1_k {U U1 S S1 : sS} {a : Nat} (h : DF1 U S a) (e12 : Xi U1 12 a = Xi U 12 a) (e13 : Xi U1 13 a = Xi U 13 a) (e23 : Xi S1 923 a = Xi S 923 a) (g5 : Xi U 246 5 ≤ Xi U1 246 5) (g7 : Xi S 904 117 ≤ Xi S1 904 117) (hc : ∀ c j : Nat, (c : Int) < Xi U 246 5 → Xi U1 (276 + c) j = Xi U (276 + c) j) (hq : ∀ i : Nat, (i : Int) < Xi S 904 117 → ∀ k : Nat, 969 ≤ k → k ≤ 975 → Xi S1 k i = Xi S k i) (s6 : ∀ j, Xi S1 906 j = Xi S 906 j) (c : ∀ j, Xi U 5 j ≤ Xi U1 5 j) (n9 : ∀ p : Nat, (p : Int) < Xi U 5 5 → Xi U1 9 p = Xi U 9 p) (tx : ∀ j, Xi U1 (txr U1) j = Xi U (txr U) j) : DF1 U1 S1 a := by sorry
theorem tsr_o {C : sS} (q0 : 0 ≤ Xi C 904 117) : ∀ (n : Nat) (W : sS), TSR md_mo_need__p md_mo_testMeant__p C n W → ∀ i : Nat, ((i : Int) < Xi C 904 117 ∨ Xi C 904 117 + n ≤ (i : Int)) → ∀ k : Nat, 969 ≤ k → k ≤ 975 → Xi W k i = Xi C k i := by sorry
theorem whg_k {c : Int → Int} {U U1 : sS} (k : KEP [(3, 5)] [(1, 3)] U U1) (h : WHG c U) : WHG c U1 := by sorry
def lQ4 : List rec := [(10, 11, 0, 100000), (11, 12, 0, 100000), (12, 13, 0, 100000), (13, 14, 0, 100000)]
theorem fr_q4 {V U1 : sS} {a : Nat} {x y z w : Int32} (ha : a < 100) (e : U1 = uI (uI (uI (uI V 10 a x) 11 a y) 12 a z) 13 a w) : FR lQ4 V U1 := by sorry
/-- 2, told to both -/
theorem def_r {B U1 T S1 : sS} {f N : Nat} {z e1 a e2 : Int} (h : RLW B T) (t3 : TX3 B) (bkq : 0 ≤ Xi T 904 117 ∧ Xi T 904 117 ≤ 14 * Xi B 246 2 + 6 * (Xi B 5 3 - 2)) (bkr : Xi B 246 2 = Xi T 904 130 ∧ 0 ≤ Xi B 246 2 ∧ Xi B 246 2 ≤ 24) (df : DFR B T) (sT : SCX B T f) (k0 : RNR B T f 0 3 e1) (k1 : RNR B T f 1 a e2) (gk : fnd B 0 3 e1 ≠ -1) (g24 : Xi B 5 3 < 24) (gn : mnV B a e2 = -1 ∧ e2 - a ≤ 3) (b892 : Xi B 892 0 = a ∧ Xi B 893 0 = e2) (b895 : Xi B 895 4 = fnd B 0 3 e1 ∧ Xi B 895 3 = 54) (n94 : Xi T 904 94 = N) (hN : 0 < N ∧ N ≤ 6) (b6 : Xi B 899 6 = N) (base : Int) (b5 : Xi B 246 5 = base + N) (h0 : 0 ≤ base) (b19 : base + 6 ≤ 19 * Xi B 246 2 + 6 * (Xi B 5 3 - 2) + 6) (q14 : Xi T 904 117 + 6 ≤ 14 * Xi B 246 2 + 6 * (Xi B 5 3 - 2) + 6) (tq : ∀ k : Nat, k < N → TQR B T (base.toNat + k) ((Xi T 904 117).toNat + k) 54) (ed : EDF md_vo_tellNew__p B U1 z) (Fe : FR md_re_endDefinition__p B U1) (rd : RD2 md_mo_addAdjective__p T S1) (Fd : FR md_mo_does__2f T S1) : z = 1 ∧ RLW U1 S1 ∧ DFR U1 S1 ∧ Xi U1 246 5 = Xi B 246 5 ∧ Xi S1 904 117 = Xi T 904 117 + N ∧ Xi U1 5 3 = Xi B 5 3 + 1 := by sorry
/-! class and reference: 2 keeps the relation -/
def ENW (U S : sS) (f : Nat) : Prop := RLW U S ∧ SCX U S f ∧ (∀ i : Int, 0 ≤ ty7 U i ∧ ty7 U i ≤ 108) ∧ (RST U S ∧ TOK U ∧ ∀ j : Nat, 0 ≤ Xi U 878 j) ∧ (f : Int) + Xi U 876 7 ≤ 5002 ∧ (∀ i j : Int, 0 ≤ i → i < j → j < Xi U 876 7 → pc7 U i < pc7 U j)
def cWk : List (Nat × Nat) := [(2, 12), (13, 20), (21, 24), (25, 65), (66, 106), (107, 147), (148, 188), (189, 195), (196, 220), (221, 245), (245, 246), (902, 904), (877, 880)]
def cWf : List (Nat × Nat) := [(1, 3), (20, 1), (20, 12), (891, 10), (876, 5), (876, 7)]
def cXk : List (Nat × Nat) := [(906, 907), (912, 923), (924, 946), (907, 911)]
theorem env_s {U S : sS} {f : Nat} (w : ENW U S f) (sl : SLF U S) : ENV U S f := by sorry
theorem env_w {U S : sS} {f : Nat} (v : ENV U S f) : ENW U S f := by sorry
theorem ty7_k {U A : sS} (a : KEP cWk cWf U A) : ty7 A = ty7 U := by sorry
theorem pc7_k {U A : sS} (a : KEP cWk cWf U A) (r : Int) : pc7 A r = pc7 U r := by sorry
theorem enw_k {U A S C : sS} {f : Nat} (w : ENW U S f) (a : KEP cWk cWf U A) (b : KEP cXk cSf S C) : ENW A C f := by sorry
theorem tch_of {A S C : sS} {f N : Nat} {a e : Int} (v : ENV A C f) (sS : SCX A S f) (h0 : 0 ≤ a) (ts : TSQ (tkR S) S 0 (f + a) N (f + e)) (hN : 0 < N) (he : e < Xi A 876 7) (kk : KEP [(907, 908), (950, 963)] [(904, 69)] S C) : TCH A C f a N ∧ eT7 A a (N - 1) = e ∧ ∀ k : Nat, k + 1 < N → ty7 A (eT7 A a k) = 16 := by sorry
/-- clauses and tests told before stay -/
def KCQ (U U1 S S1 : sS) : Prop := (∀ c j : Nat, (c : Int) < Xi U 246 5 → Xi U1 (276 + c) j = Xi U (276 + c) j) ∧ Xi U 246 5 ≤ Xi U1 246 5 ∧ (∀ k j : Nat, 969 ≤ k → k ≤ 975 → (j : Int) < Xi S 904 117 → Xi S1 k j = Xi S k j) ∧ Xi S 904 117 ≤ Xi S1 904 117
theorem st_2 {U A B U1 S T S1 : sS} {f N : Nat} {x y z e : Int} (w : ENW U S f) (bk : BKC U S) (df : DFR U S) (k0 : RNR U S f 0 3 (re7 (ty7 U) 3)) (k1 : RNR U S f 1 (re7 (ty7 U) 3 + 1) (re7 (ty7 U) (re7 (ty7 U) 3 + 1))) (ts : TSQ (tkR S) S 0 (f + (re7 (ty7 U) (re7 (ty7 U) 3 + 1) + 1)) N (f + e)) (hN : 0 < N) (he : e < Xi U 876 7) (hl : ty7 U e ≠ 16) (n94 : Xi S 904 94 = N) (hn : Xi U 891 9 = 0) (hx : x = 0 ∨ x = 1) (c1 : SDF U A x (fnd U 0 3 (re7 (ty7 U) 3)) (re7 (ty7 U) 3 + 1) (re7 (ty7 U) (re7 (ty7 U) 3 + 1))) (F1 : FR md_re_startDefinition__p U A) (c0 : x = 0 → z = 0 ∧ U1 = A) (c2 : x = 1 → TSS A B (Xi A 893 0 + 1) y ∧ FR md_rr_tests__p A B ∧ (y = 0 ∨ y = 1)) (c3 : x = 1 → y = 0 → z = 0 ∧ U1 = B) (c4 : x = 1 → y = 1 → EDF md_vo_tellNew__p B U1 z ∧ FR md_re_endDefinition__p B U1) (zf : z = 0 → Xi U1 876 8 ≠ 0) (rc : ∃ P : sS, FR lA S P ∧ (Xi P 904 106 = 0 ∧ Xi P 904 108 = 0 ∧ Xi P 904 116 = -1) ∧ RA2 md_mo_kindOfRun__p md_mo_mustBeNew__p md_mo_need__p md_mo_testMeant__p P T) (Fa : FR md_mo_asked__2f S T) (rd : (NT3 T).1 = 0 → RD2 md_mo_addAdjective__p T S1 ∧ FR md_mo_does__2f T S1) : STP U1 T S1 ∧ (Xi U1 876 8 = 0 → (BKC U1 S1 ∧ DFR U1 S1) ∧ KCQ U U1 S S1 ∧ x = 1 ∧ y = 1) := by sorry
end
section
/-! class and reference: ACTING without ART RUN -/
/-- one split of a RUN: an action and an object -/
theorem aq_r {U S : sS} {f : Nat} {r a b : Int} {n : Nat} (h : RLW U S) (sc : SCX U S f) (rn : RNR U S f r a b) (hn : a + 1 + n < b) : (fnd U 8 a (a + 1 + n) = msR S (f + a) ((n : Int) + 1) 11 ∧ fnd U 2 (a + 1 + n) b = msR S (f + a + ((n : Int) + 1)) (b - a - ((n : Int) + 1)) 4) ∧ (fnd U 8 a (a + 1 + n) ≠ -1 → (0 ≤ fnd U 8 a (a + 1 + n) ∧ fnd U 8 a (a + 1 + n) < Xi U 5 8) ∧ Xi U 19 (fnd U 8 a (a + 1 + n)).toNat = Xi S 942 (fnd U 8 a (a + 1 + n)).toNat) ∧ (fnd U 2 (a + 1 + n) b ≠ -1 → (0 ≤ fnd U 2 (a + 1 + n) b ∧ fnd U 2 (a + 1 + n) b < Xi U 5 2) ∧ ∀ k : Int, isK U (Xi U 21 (fnd U 2 (a + 1 + n) b).toNat) k = blR S (Xi S 918 (fnd U 2 (a + 1 + n) b).toNat) k) := by sorry
theorem aw_r {U S : sS} {f : Nat} {r a b : Int} (h : RLW U S) (sc : SCX U S f) (rn : RNR U S f r a b) : fnd U 8 a b = msR S (f + a) (b - a) 11 ∧ (fnd U 8 a b ≠ -1 → (0 ≤ fnd U 8 a b ∧ fnd U 8 a b < Xi U 5 8) ∧ Xi U 19 (fnd U 8 a b).toNat = Xi S 942 (fnd U 8 a b).toNat) := by sorry
/-- what a RUN as ACTING is: action, object, how many READINGS -/
def ARS (U : sS) (x y : Int × Int × Int) : Prop := x.2.2 = y.2.2 ∧ 0 ≤ y.2.2 ∧ (y.2.2 = 1 → x.1 = y.1 ∧ x.2.1 = y.2.1 ∧ (0 ≤ x.1 ∧ x.1 < Xi U 5 8) ∧ (x.2.1 = -1 ∨ ((0 ≤ x.2.1 ∧ x.2.1 < Xi U 5 2) ∧ 0 ≤ Xi U 19 x.1.toNat)))
theorem aa_r {U S : sS} {f : Nat} {r a b : Int} (h : RLW U S) (sc : SCX U S f) (rn : RNR U S f r a b) : ∀ n : Nat, a + 1 + n ≤ b → ARS U (aaF U a b n) (acF S (f + a) (b - a) 0 n) := by sorry
theorem fnd_4 {U : sS} {s a b : Int} (hs : 0 ≤ s) (h : 3 < b - a) : fnd U s a b = -1 := by sorry
theorem aa_4 {U : sS} {a b : Int} : ∀ m : Nat, aaF U a b (3 + m) = aaF U a b 3 := by sorry
theorem aa_x {U S : sS} {f : Nat} {r a b : Int} (h : RLW U S) (sc : SCX U S f) (rn : RNR U S f r a b) : ARS U (aaF U a b (b - a - 1).toNat) (acF S (f + a) (b - a) 0 (acK (b - a))) := by sorry
theorem ta_r {U S : sS} {f : Nat} {r a b : Int} (h : RLW U S) (sc : SCX U S f) (rn : RNR U S f r a b) : ∀ n : Nat, a + 1 + n ≤ b → ARS U (taF U a b n) (acF S (f + a) (b - a) 1 n) ∧ ((taF U a b n).2.2 = 1 → ((taF U a b n).2.1 = -1 → Xi U 19 (taF U a b n).1.toNat = -1)) := by sorry
theorem ta_4 {U : sS} {a b : Int} : ∀ m : Nat, taF U a b (3 + m) = taF U a b 3 := by sorry
theorem ta_x {U S : sS} {f : Nat} {r a b : Int} (h : RLW U S) (sc : SCX U S f) (rn : RNR U S f r a b) : ARS U (taF U a b (b - a - 1).toNat) (acF S (f + a) (b - a) 1 (acK (b - a))) ∧ ((taF U a b (b - a - 1).toNat).2.2 = 1 → ((taF U a b (b - a - 1).toNat).2.1 = -1 → Xi U 19 (taF U a b (b - a - 1).toNat).1.toNat = -1)) := by sorry
end
section
/-! class and reference: the head of a rule -/
/-- an ADJECTIVE ahead of the kind of a rule -/
def ADH (U D : sS) (cl : Nat) (x : Int) : Prop := ∃ t p : Int, CLM D cl (if p = -1 then 0 else 1) 0 (-2) (if p = -1 then t else p) t 0 (-1) ∧ COD t p x ∧ (p = -1 → t < Xi U 5 3) ∧ (p ≠ -1 → p < Xi U 5 5 ∧ t < Xi U 5 4 ∧ Xi U 9 p.toNat ≠ 1)
/-- what ACTING leaves: of what, on what, how many ADJECTIVES -/
def HRS (U D S : sS) (ru : Nat) (base a o k n : Int) : Prop :=
  (Xi D (248 + ru) 1 = a ∧ Xi D (248 + ru) 2 = o ∧ Xi D (248 + ru) 3 = k ∧ Xi D (248 + ru) 4 = n) ∧ (Xi S 979 ru = a ∧ Xi S 980 ru = o ∧ Xi S 981 ru = k ∧ Xi S 982 ru = n) ∧
  ((0 ≤ a ∧ a < Xi U 5 8) ∧ (-1 ≤ o ∧ o < Xi U 5 2) ∧ (-1 ≤ k ∧ k < Xi U 5 0) ∧ (0 ≤ n ∧ n ≤ 5)) ∧ ((o ≠ -1 ∨ k ≠ -1 → 0 ≤ Xi U 19 a.toNat) ∧ (o ≠ -1 → k = -1) ∧ (k = -1 → n = 0)) ∧
  Xi S 904 116 = nnD (if o ≠ -1 then Xi U 21 o.toNat else if k ≠ -1 then k else Xi U 19 a.toNat) ∧ Xi D 246 5 = base + n ∧ ∀ i : Nat, (i : Int) < n → ADH U D (base.toNat + i) (Xi S 983 (6 * ru + i))
/-- other rules' entries of the reference -/
def KRE (S T : sS) (ru : Nat) : Prop := (∀ c r : Nat, 978 ≤ c → c ≤ 987 → c ≠ 983 → r ≠ ru → Xi T c r = Xi S c r) ∧ ∀ j : Nat, (j < 6 * ru ∨ 6 * ru + 6 ≤ j) → Xi T 983 j = Xi S 983 j
theorem kre_0 {S : sS} {ru : Nat} : KRE S S ru := by sorry
theorem kre_F {l : List rec} {S T V : sS} {ru : Nat} (F : FR l T V) (e : kdis l [(978, 988)] = true) (h : KRE S T ru) : KRE S V ru := by sorry
theorem kre_I {S T : sS} {ru k n : Nat} {v : Int32} (h : KRE S T ru) (hn : k ≠ 983 ∧ ((k < 978 ∨ 987 < k) ∨ n = ru)) : KRE S (uI T k n v) ru := by sorry
theorem cpi_i {S : sS} {a b s t n i : Nat} (h : i < n) : Xi (cpI S a b s t n) b (t + i) = Xi S a (s + i) := by sorry
theorem cpi_n {S : sS} {a b s t n k j : Nat} (h : k ≠ b ∨ j < t ∨ t + n ≤ j) : Xi (cpI S a b s t n) k j = Xi S k j := by sorry
/-- the reference has begun with a head -/
theorem aca_x {S : sS} {l : Nat} : Xi (acA S l) 979 l = -1 ∧ Xi (acA S l) 980 l = -1 ∧ Xi (acA S l) 981 l = -1 ∧ Xi (acA S l) 982 l = 0 ∧ Xi (acA S l) 904 116 = -1 := by sorry
def lAC0 : List rec := [(904, 905, 116, 117), (979, 980, 0, 100000), (980, 981, 0, 100000), (981, 982, 0, 100000), (982, 983, 0, 100000)]
theorem aca_F {S : sS} {l : Nat} (hl : l < 100) : FR lAC0 S (acA S l) := by sorry
theorem aca_K {S : sS} {l : Nat} : KRE S (acA S l) l := by sorry
theorem aca_N {S : sS} {l : Nat} : NT3 (acA S l) = NT3 S := by sorry
/-- ACTING without ART RUN, in both -/
theorem hd_a {H D S S1 : sS} {f ru : Nat} {a b w : Int} (hw : ENW H S f) (rn : RNR H S f (Xi S 904 102) a b) (hru : ru < 24) (row : Xi H (248 + ru) 3 = -1 ∧ Xi H (248 + ru) 4 = 0) (b5 : Xi D 246 5 = Xi H 246 5) (c : AAO H D ru a b w) (hz : w = 0 ∨ w = 1) (r : AMA S S1 ru) : NTG (pc7 H a) (NT3 S) (NT3 S1) ∧ KRE S S1 ru ∧ (w = 0 → (NT3 S).1 = 0 → NTB (NT3 S1) (Xi D 876 8) (Xi D 876 9) ∧ Xi D 876 8 ≠ 0 ∧ Xi D 876 9 = pc7 H a) ∧ (w = 1 → NT3 S1 = NT3 S ∧ Xi D 876 8 = 0 ∧ ∃ A o : Int, HRS H D S1 ru (Xi H 246 5) A o (-1) 0) := by sorry
end
section
/-! class and reference: the head of a rule, ACTING on something -/
theorem hd_o {H D S S1 : sS} {f ru : Nat} {a b h w : Int} (hw : ENW H S f) (rn : RNR H S f (Xi S 904 102) a b) (rm : RNR H S f (Xi S 904 103) (b + 1) h) (fin : ty7 H h ≠ 100) (hh : h < Xi H 876 7) (hru : ru < 24) (row : Xi H (248 + ru) 2 = -1 ∧ Xi H (248 + ru) 3 = -1 ∧ Xi H (248 + ru) 4 = 0) (base : 0 ≤ Xi H 246 5 ∧ Xi H 246 5 + 5 ≤ 600) (c : AOO H D ru a b h w) (hz : w = 0 ∨ w = 1) (r : AMO S S1 ru) : NTG (pc7 H a) (NT3 S) (NT3 S1) ∧ KRE S S1 ru ∧ (w = 0 → (NT3 S).1 = 0 → NTB (NT3 S1) (Xi D 876 8) (Xi D 876 9) ∧ Xi D 876 8 ≠ 0 ∧ (Xi D 876 9 = pc7 H a ∨ Xi D 876 9 = pc7 H (b + 1))) ∧ (w = 1 → NT3 S1 = NT3 S ∧ Xi D 876 8 = 0 ∧ ∃ A o k n : Int, HRS H D S1 ru (Xi H 246 5) A o k n) := by sorry
end
section
/-! class and reference: the head of a rule, all of it -/
theorem hrs_k {U H D A S : sS} {ru : Nat} {base a o k n : Int} (hru : ru < 24) (hb : 0 ≤ base ∧ base + 5 ≤ 600) (h : HRS H D S ru base a o k n) (e : KEP [(5, 6), (9, 10), (19, 20), (21, 22)] [] U H) (d : KEP [(248, 272), (276, 876)] [(246, 5)] D A) : HRS U A S ru base a o k n := by sorry
/-- what the head of a rule leaves -/
def HDK (U A S : sS) (ru : Nat) (s hd : Int) : Prop := (Xi A (248 + ru) 0 = soR s ∧ Xi A (248 + ru) 7 = Xi U 246 5) ∧ (Xi A 895 3 = 53 ∧ Xi A 895 4 = Xi S 904 116 ∧ -1 ≤ Xi A 895 4 ∧ Xi A 895 4 < Xi U 5 0) ∧ KRU U A ru ∧ (∀ c j : Nat, (c : Int) < Xi U 246 5 → Xi A (276 + c) j = Xi U (276 + c) j) ∧ Xi A 899 5 = hd ∧ Xi A 876 8 = 0 ∧
  (s = 6 → (Xi A (248 + ru) 1 = -1 ∧ Xi A (248 + ru) 2 = -1 ∧ Xi A (248 + ru) 3 = -1 ∧ Xi A (248 + ru) 4 = 0) ∧ (Xi S 979 ru = -1 ∧ Xi S 980 ru = -1 ∧ Xi S 981 ru = -1 ∧ Xi S 982 ru = 0) ∧ Xi A 246 5 = Xi U 246 5 ∧ Xi A 895 4 = -1) ∧
  (s ≠ 6 → ∃ a o k n : Int, HRS U A S ru (Xi U 246 5) a o k n)
theorem soq_r {s : Int} : soQ s = soR s := by sorry
theorem head_s {s : Int} (h : s = 3 ∨ s = 4 ∨ s = 5 ∨ s = 6) (h5 : s ≠ 5) (h6 : s ≠ 6) : s = 3 ∨ s = 4 := by sorry
theorem head_r {U A S P B' : sS} {f ru : Nat} {s x hd : Int} {lX : List rec} (w : ENW U S f) (b5 : 0 ≤ Xi U 246 5 ∧ Xi U 246 5 + 5 ≤ 600) (eru : (ru : Int) = Xi U 246 2) (lt : Xi U 246 2 < 24) (hs : s = 3 ∨ s = 4 ∨ s = 5 ∨ s = 6) (c : RHO md_rr_ruleHead__p U A s x) (hx : x = 0 ∨ x = 1) (hde : HDE (tkR S) S s f (f + hd)) (hh : hd < Xi U 876 7) (FX : FR lX S P) (eX : kepC lX cXk cSf = true) (eX2 : kepC lX [(950, 952)] [(904, 69), (904, 70), (904, 102), (904, 103)] = true) (e70 : Xi S 904 70 = s) (am : AMX P B' ru) : 1 ≤ hd ∧ NTG (pc7 U 0) (NT3 P) (NT3 B') ∧ KRE P B' ru ∧ (x = 0 → (NT3 P).1 = 0 → NTB (NT3 B') (Xi A 876 8) (Xi A 876 9) ∧ Xi A 876 8 ≠ 0 ∧ ∃ r : Int, 0 ≤ r ∧ r < hd ∧ Xi A 876 9 = pc7 U r) ∧ (x = 1 → NT3 B' = NT3 P ∧ HDK U A B' ru s hd) := by sorry
end
section
/-! rows of a sentence while words in [ ] lie behind them: tests mean the same -/
def AGN (W A : sS) : Prop := (∀ i : Int, 0 ≤ i → i < Xi W 876 7 → ty7 A i = ty7 W i ∧ pc7 A i = pc7 W i ∧ Xj A 879 i.toNat = Xj W 879 i.toNat) ∧ (Xi W 876 7 ≤ Xi A 876 7 ∧ Xi A 876 7 ≤ 5130 ∧ 1 ≤ Xi W 876 7 ∧ ty7 W (Xi W 876 7 - 1) = 103) ∧ KEP [(2, 20), (21, 22)] [(1, 3), (895, 3), (895, 4)] W A
theorem reG_n {W A : sS} (g : AGN W A) : ∀ (m n : Nat) (a : Int), a + m = Xi W 876 7 - 1 → m < n → 0 ≤ a → reF (ty7 A) n a = reF (ty7 W) n a ∧ a ≤ reF (ty7 W) n a ∧ reF (ty7 W) n a < Xi W 876 7 := by sorry
theorem re_n {W A : sS} {a : Int} (g : AGN W A) (h0 : 0 ≤ a) (h1 : a < Xi W 876 7) : re7 (ty7 A) a = re7 (ty7 W) a ∧ a ≤ re7 (ty7 W) a ∧ re7 (ty7 W) a < Xi W 876 7 := by sorry
theorem ren_m {S : sS} {l : Int} : ∀ (n : Nat) (r : Int), 0 ≤ r → ren S l n r = if r ≤ l then (if reF (ty7 S) n r ≤ l then reF (ty7 S) n r else l) else r := by sorry
theorem ru_m {S : sS} {a l : Int} (h0 : 0 ≤ a) : ruF S a l = if a ≤ l then (if re7 (ty7 S) a ≤ l then re7 (ty7 S) a else l) else a := by sorry
theorem ru_n {W A : sS} {a l : Int} (g : AGN W A) (h0 : 0 ≤ a) (h1 : a < Xi W 876 7) : ruF A a l = ruF W a l ∧ ruF W a l < Xi W 876 7 := by sorry
theorem rl_ru {W A : sS} {a l m : Int} (g : AGN W A) (h0 : 0 ≤ a) (h1 : a < Xi W 876 7) (hl : Xi W 876 7 - 1 ≤ l) (hm : Xi W 876 7 - 1 ≤ m) : ruF W a l = ruF W a m := by sorry
theorem mn_n {W A : sS} {a b : Int} (g : AGN W A) (h : b ≤ Xi W 876 7) : mnV A a b = mnV W a b := by sorry
theorem fn_n {W A : sS} {s a b : Int} (g : AGN W A) (h : b ≤ Xi W 876 7) : fnd A s a b = fnd W s a b := by sorry
theorem isK_n {W A : sS} {k o : Int} (g : AGN W A) : isK A k o = isK W k o := by sorry
theorem pps_n {W A : sS} {k : Int} (g : AGN W A) : pps A k = pps W k := by sorry
theorem rln_k {W A : sS} {has t : Int} (h : ∀ j, Xi A 9 j = Xi W 9 j) : ∀ (n : Nat) (p c : Int), rln A has t n p c = rln W has t n p c := by sorry
theorem ra_n {W A : sS} {k a b v d : Int} (g : AGN W A) (h : b ≤ Xi W 876 7) : raF A k a b v d = raF W k a b v d := by sorry
theorem rl_n {W A : sS} {k a b v : Int} (g : AGN W A) (h : b ≤ Xi W 876 7) : rlF A k a b v = rlF W k a b v := by sorry
theorem thk_g {W A : sS} {a : Int} (g : AGN W A) (h0 : 0 ≤ a) (h1 : a < Xi W 876 7) : thk (ty7 A) a = thk (ty7 W) a ∧ the7 (ty7 A) a = the7 (ty7 W) a ∧ bA (ty7 A) a = bA (ty7 W) a ∧ 0 ≤ bA (ty7 W) a ∧ bA (ty7 W) a < Xi W 876 7 := by sorry
theorem who_n {W A : sS} {a l : Int} (g : AGN W A) (h0 : 0 ≤ a) (h1 : a < Xi W 876 7) : whoC A a l = whoC W a l ∧ whkC A a l = whkC W a l ∧ whrC A a = whrC W a ∧ wheC A a l = wheC W a l := by sorry
theorem who_l {W A : sS} {a l m : Int} (g : AGN W A) (h0 : 0 ≤ a) (h1 : a < Xi W 876 7) (hl : Xi W 876 7 - 1 ≤ l) (hm : Xi W 876 7 - 1 ≤ m) : whoC W a l = whoC W a m ∧ whkC W a l = whkC W a m := by sorry
theorem vs_n {W A : sS} {i : Int} (g : AGN W A) (h0 : 0 ≤ i) (h1 : i < Xi W 876 7) : vs7 A i = vs7 W i ∧ rs7 A i = rs7 W i := by sorry
theorem qs_n {W A : sS} {a b i : Int} (g : AGN W A) (h0 : 0 ≤ a) (ha : a ≤ i) (hi : i < b) (hb : b < Xi W 876 7) : qsC A a b i ↔ qsC W a b i := by sorry
theorem cn_n {W A : sS} {a b : Int} (g : AGN W A) (h0 : 0 ≤ a) (hb : b < Xi W 876 7) : ∀ n : Nat, a + n ≤ b → cnS A a b n = cnS W a b n ∧ psS A a b n = psS W a b n := by sorry
theorem fo_n {W A : sS} {k b : Int} (g : AGN W A) (hb : b ≤ Xi W 876 7) (n : Nat) : ∀ a : Int, 0 ≤ a → a + n ≤ b → fo7F (ty7 A) k b n a = fo7F (ty7 W) k b n a := by sorry
theorem isP_n {W A : sS} {a b : Int} (g : AGN W A) (h0 : 0 ≤ a) (hb : b ≤ Xi W 876 7) : isP A a b = isP W a b := by sorry
theorem ntm_n {W A : sS} {i : Int} (g : AGN W A) (h0 : 0 ≤ i + 1) (h1 : i + 1 < Xi W 876 7) : numT A i = numT W i ∧ ntT A i = ntT W i := by sorry
theorem bp_n {W A : sS} {a : Int} (g : AGN W A) (h0 : 0 ≤ a) (h1 : a < Xi W 876 7) : bpP A a ↔ bpP W a := by sorry
theorem pok_n {W A : sS} {a b k n : Int} (g : AGN W A) (h : b ≤ Xi W 876 7) : pOK A a b k n ↔ pOK W a b k n := by sorry
theorem whr_nn {W A : sS} {r tp v l : Int} (g : AGN W A) (h0 : 0 ≤ r) (h1 : r < Xi W 876 7) : WHR A r tp v l ↔ WHR W r tp v l := by sorry
end
section
/-! tests while words in [ ] lie behind the sentence -/
theorem pty_n {W A : sS} {a i l : Int} (g : AGN W A) (h0 : 0 ≤ a) (hi : a < i) (hb : i + 1 < Xi W 876 7) (e0 : re7 (ty7 W) (a + 1) + 1 < Xi W 876 7) (hn : numT W i = 1 → i + 3 < Xi W 876 7) (hz : numT W i = 0 → i + 1 + ntT W i < Xi W 876 7) (hl : l = Xi W 876 7 - 1) : (∀ f n w h t q : Int, PTY A a i (Xi A 876 7 - 1) f n w h t q → PTY W a i l f n w h t q) ∧ (∀ c r : Int, PTN A a i (Xi A 876 7 - 1) c r → PTN W a i l c r) := by sorry
theorem psS_rg {S : sS} {a b : Int} : ∀ n : Nat, psS S a b n = -1 ∨ (a ≤ psS S a b n ∧ psS S a b n < a + n) := by sorry
/-- a test means the same while words lie behind the sentence -/
theorem tst_n {W A S : sS} {f c : Nat} {a b now : Int} (v : ENV W S f) (g : AGN W A) (h0 : 0 ≤ a) (hb : b < Xi W 876 7) (hn : now = 0 ∨ now = 1) (rd : TSTR (tkR S) S c (f + a) (f + b) now) : (∀ fm n w h t q m : Int, TSY A a b now fm n w h t q m → TSY W a b now fm n w h t q m) ∧ (∀ cc r : Int, TSN A a b now cc r → TSN W a b now cc r) := by sorry
end
end
section
section
/-! class and reference: a phrase means the same -/
theorem fr_u {S : sS} {k j : Nat} {v : Int32} : FR [(k, k + 1, j, j + 1)] S (uI S k j v) := by sorry
theorem kep_u {S : sS} {k j : Nat} {v : Int32} {ks fs : List (Nat × Nat)} (e : kepC [(k, k + 1, j, j + 1)] ks fs = true) : KEP ks fs S (uI S k j v) := by sorry
def cPk : List (Nat × Nat) := [(906, 911), (912, 946), (950, 966)]
def cPf : List (Nat × Nat) := [(904, 15), (904, 16), (904, 18), (904, 19), (904, 23), (904, 30), (904, 32), (904, 41), (904, 47), (904, 49), (904, 51), (904, 60), (904, 69), (904, 115), (904, 116)]
theorem env_p {W S X : sS} {f : Nat} (v : ENV W S f) (k : KEP cPk cPf S X) : ENV W X f := by sorry
theorem the_p {S X : sS} {p e x y : Int} (k : KEP cPk cPf S X) (h : THE (tkR S) S p e x y) : THE (tkR X) X p e x y := by sorry
theorem agn_t {W A U : sS} (g : AGN W A) (k : KEP [(2, 20), (21, 22), (877, 880)] [(1, 3), (895, 3), (895, 4), (876, 7), (876, 5)] A U) : AGN W U := by sorry
/-- nothing within a phrase ends it -/
theorem ph_in {T : Int → Int} {V : sS} {c m : Nat} {p e : Int} (h : PHE T V c m p e) : p < e ∧ ∀ i : Int, p ≤ i → i < e → ¬ ETR (T i) 1 := by sorry
/-- both find the same end of a phrase -/
theorem pe_r {W S V : sS} {f c m : Nat} {b e : Int} (sc : SCX W S f) (tb : ∀ i : Int, 0 ≤ ty7 W i ∧ ty7 W i ≤ 108) (h0 : 0 ≤ b) (hb : e < Xi W 876 7) (t : PHE (tkR S) V c m (f + b) (f + e)) (d : tkR S (f + e) = 59 ∨ tkR S (f + e) = 46) : b < e ∧ te8 (ty7 W) 1 b = e := by sorry
/-- a phrase of the class (its clause's fields) is a phrase of the reference (its entries) -/
def PQF (U S : sS) (p q : Nat) (fm n w h t g m : Int) : Prop := Xi S 977 p = (q : Int) ∧
  ((Xi S 976 p = 1 ∧ TQF U S q 53 fm n w h t g m) ∨
   (Xi S 976 p = 0 ∧ fm = 7 ∧ Xi S 973 q = t ∧ Xi S 974 q = g) ∨
   (Xi S 976 p = 2 ∧ fm = 8 ∧ TMK 53 (Xi U 5 2) w (Xi S 971 q) ∧ TMK 53 (Xi U 5 2) m (Xi S 975 q)) ∨
   (((Xi S 976 p = 3 ∧ t = Xi S 973 q) ∨ (Xi S 976 p = 4 ∧ t = -Xi S 973 q)) ∧ fm = 9 ∧ TMK 53 (Xi U 5 2) w (Xi S 971 q) ∧ Xi S 972 q = h ∧ (0 ≤ h ∧ h < Xi U 5 5) ∧ Xi U 9 h.toNat = 0) ∨
   (Xi S 976 p = 5 ∧ fm = 10 ∧ Xi S 972 q = h ∧ (0 ≤ h ∧ h < Xi U 5 8) ∧ ((Xi S 970 q = 1 ∧ w = -1 ∧ Xi U 19 h.toNat = -1) ∨ (Xi S 970 q = 0 ∧ TMK 53 (Xi U 5 2) w (Xi S 971 q) ∧ 0 ≤ Xi U 19 h.toNat))) ∨
   (Xi S 976 p = 6 ∧ fm = 11))
/-- a phrase in both: good and the same, or the same fault -/
def PRS (W A B S S1 : sS) (cl : Nat) (q p b e z : Int) : Prop := NTG (pc7 W b) (NT3 S) (NT3 S1) ∧ (z = 1 → NT3 S1 = NT3 S ∧ Xi B 876 8 = 0 ∧ KCL A B cl ∧ ∃ fm n w h t g m : Int, CLM B cl fm n w h t g m ∧ PQF W S1 p.toNat q.toNat fm n w h t g m) ∧ (z = 0 → (NT3 S).1 = 0 → NTB (NT3 S1) (Xi B 876 8) (Xi B 876 9) ∧ Xi B 876 8 ≠ 0 ∧ ∃ r : Int, b ≤ r ∧ r < e ∧ Xi B 876 9 = pc7 W r)
theorem pha_x {S : sS} {i : Nat} {q p : Int} (hq : 0 ≤ q ∧ q ≤ 100000) (hk : 0 ≤ Xi S 963 i ∧ Xi S 963 i ≤ 6) : Xi (phA S i q p) 977 p.toNat = (q.toNat : Int) ∧ Xi (phA S i q p) 976 p.toNat = Xi S 963 i := by sorry
theorem pha_k {S : sS} {i q p : Int} : KEP cPk cPf S (phA S i q p) := by sorry
theorem pha_n {S : sS} {i q p : Int} : NT3 (phA S i q p) = NT3 S := by sorry
/-- NOW -/
theorem now_r {W A B S S1 : sS} {f c i cl : Nat} {b e q p z : Int} (v : ENV W S f) (sk : Xi W 895 3 = 53) (g : AGN W A) (h0 : 0 ≤ b) (hb : e < Xi W 876 7) (hq : 0 ≤ q ∧ q ≤ 100000) (k963 : Xi S 963 i = 1) (k964 : Xi S 964 i = c) (rd : TSTR (tkR S) S c (f + (b + 1)) (f + e) 1) (hz : z = 0 ∨ z = 1) (ph : TSO A B cl (b + 1) e 1 z) (pm : PM1 S S1 i q p) : PRS W A B S S1 cl q p b e z := by sorry
/-- STOP -/
theorem stop_r {W A S S1 : sS} {i cl : Nat} {b e q p : Int} (hq : 0 ≤ q ∧ q ≤ 100000) (k963 : Xi S 963 i = 6) (cm : CLM A cl 11 0 (-1) (-1) 0 0 (-1)) (a8 : Xi A 876 8 = 0) (pm : S1 = phA S i q p) : PRS W A A S S1 cl q p b e 1 := by sorry
theorem nt_u {S : sS} {k j : Nat} {v : Int32} (h : k ≠ 904) : NT3 (uI S k j v) = NT3 S := by sorry
theorem tmk_i {W : sS} {w t : Int} (sk : Xi W 895 3 = 53) (h : TMP W w t) : TMK 53 (Xi W 5 2) w t := by sorry
theorem tm_rg {W S : sS} {w t : Int} (v : RCT W S) (h : TMP W w t) : rg t := by sorry
/-- MOVE -/
theorem move_r {W A B S S1 : sS} {f c i cl : Nat} {b e q p z : Int} (v : ENV W S f) (sk : Xi W 895 3 = 53) (g : AGN W A) (h0 : 0 ≤ b) (hb : e < Xi W 876 7) (hq : 0 ≤ q ∧ q ≤ 100000) (k963 : Xi S 963 i = 2) (k964 : Xi S 964 i = c) (rd : ∃ r : Int, THE (tkR S) S (f + b + 1) r (Xi S 954 c) (Xi S 955 c) ∧ tkR S r = 111 ∧ THE (tkR S) S (r + 1) (f + e) (Xi S 959 c) (Xi S 960 c)) (hz : z = 0 ∨ z = 1) (ph : MVO A B cl (b + 1) e z) (pm : PM2 S S1 i q p) : PRS W A B S S1 cl q p b e z := by sorry
end
section
/-! class and reference: TRY -/
theorem fr_cl {S : sS} {cl j : Nat} {v : Int32} (h : cl < 600) : FR [(276, 876, j, j + 1)] S (uI S (276 + cl) j v) := by sorry
theorem taf_n {W A : sS} {a b : Int} (g : AGN W A) (hb : b ≤ Xi W 876 7) : ∀ n : Nat, a + 1 + n ≤ b ∨ n = 0 → taF A a b n = taF W a b n := by sorry
/-- TRY, ACTING without ART RUN -/
theorem trya_r {W A U B S S1 : sS} {f c i cl : Nat} {b e q p z : Int} (v : ENV W S f) (g : AGN W A) (gU : AGN W U) (kcU : KCL A U cl) (h0 : 0 ≤ b) (hb : e < Xi W 876 7) (hq : 0 ≤ q ∧ q ≤ 100000) (k963 : Xi S 963 i = 5) (k964 : Xi S 964 i = c) (rn : RNR W S f (Xi S 956 c) (b + 1) e) (hz : z = 0 ∨ z = 1) (ph : TAO U B cl (b + 1) e z) (pm : PM6 S S1 i q p) : PRS W A B S S1 cl q p b e z := by sorry
/-- TRY, ACTING on a THING -/
theorem tryo_r {W A U B S S1 : sS} {f c i cl : Nat} {b R e q p z : Int} (v : ENV W S f) (sk : Xi W 895 3 = 53) (g : AGN W A) (gU : AGN W U) (kcU : KCL A U cl) (h0 : 0 ≤ b) (hb : e < Xi W 876 7) (hq : 0 ≤ q ∧ q ≤ 100000) (k963 : Xi S 963 i = 5) (k964 : Xi S 964 i = c) (rn : RNR W S f (Xi S 956 c) (b + 1) R) (t1 : THE (tkR S) S (f + R) (f + e) (Xi S 954 c) (Xi S 955 c)) (hz : z = 0 ∨ z = 1) (ph : TRN U B cl (b + 1) R e z) (pm : PM5 S S1 i q p) : PRS W A B S S1 cl q p b e z := by sorry
/-! class and reference: INCREASE, DECREASE -/
theorem ntb_e {x : Int × Int × Int} {c p : Int} (h : NTB x c p) : NTB (ntF x c p) c p := by sorry
theorem ntb_lt {x : Int × Int × Int} {c p : Int} (h : x.1 = 0 ∨ p < x.2.1) : NTB (ntF x c p) c p := by sorry
theorem inR_k {x y a b k j : Nat} (h : k < x) : inR (x, y, a, b) k j = false := by sorry
theorem inR_j {x y a b k j : Nat} (h : j < a ∨ b ≤ j) : inR (x, y, a, b) k j = false := by sorry
theorem add_r {W A B S S1 : sS} {f c i cl : Nat} {b e q p z key : Int} (v : ENV W S f) (sk : Xi W 895 3 = 53) (g : AGN W A) (hcl : cl < 600) (h0 : 0 ≤ b) (hb : e < Xi W 876 7) (hq : 0 ≤ q ∧ q ≤ 100000) (hkey : (key = 46 ∧ Xi S 963 i = 3) ∨ (key = 47 ∧ Xi S 963 i = 4)) (k964 : Xi S 964 i = c) (cm : CLM A cl 11 0 (-1) (-1) 0 0 (-1)) (a8 : Xi A 876 8 = 0) (hv : 0 ≤ Xj W 879 (e - 1).toNat ∧ Xj W 879 (e - 1).toNat ≤ 2147483647)
    (rd : ∃ x r : Int, PRE (tkR S) S (f + b + 1) x (Xi S 956 c) ∧ THE (tkR S) S x r (Xi S 954 c) (Xi S 955 c) ∧ tkR S r = 110 ∧ Xi S 957 c = r + 1 ∧ tkR S (r + 1) = 4 ∧ (f : Int) + e = r + 2) (hz : z = 0 ∨ z = 1) (ph : ADO A B cl key (b + 1) e z) (pm : PM3 S S1 i q p) : PRS W A B S S1 cl q p b e z := by sorry
end
section
/-! words in [ ]: both find the same -/
theorem we_q {B : Nat → Int} {E q : Int} (hq : q ≤ E) (l : lt7 (B q.toNat) = 0) : ∀ (m : Nat) (s : Int), s + m = q → we7 B E s = we7 B q s := by sorry
theorem wl_le {B : Nat → Int} {to : Int} : ∀ (L : List (Int × Int)) (a p : Int), WLp B to a L p → a ≤ p ∧ p ≤ to := by sorry
theorem wl_q {B : Nat → Int} {E q : Int} (hq : q ≤ E) (l : lt7 (B q.toNat) = 0) : ∀ (L : List (Int × Int)) (a p : Int), p ≤ q → WLp B E a L p → WLp B q a L p := by sorry
theorem wl_c {B C : Nat → Int} {to : Int} (be : BE B C to) : ∀ (L : List (Int × Int)) (a p : Int), 0 ≤ a → WLp B to a L p → WLp C to a L p := by sorry
def StW (B : Nat → Int) (to p : Int) : Prop := p = to ∨ (p < to ∧ B p.toNat ≠ 32 ∧ (we7 B to p = p ∨ 12 < we7 B to p - p))
theorem wl_u {B : Nat → Int} {to p p' : Int} (u : StW B to p) (u' : StW B to p') : ∀ (L L' : List (Int × Int)) (a : Int), WLp B to a L p → WLp B to a L' p' → L = L' ∧ p = p' := by sorry
/-- a list that goes on is longer -/
theorem wl_64 {B : Nat → Int} {to p p' : Int} (u : StW B to p) : ∀ (L L' : List (Int × Int)) (a : Int), WLp B to a L p → WLp B to a L' p' → L'.length ≤ L.length := by sorry
/-- what a list goes over is blanks and letters -/
theorem wl_in {B : Nat → Int} {to : Int} : ∀ (L : List (Int × Int)) (a p : Int), WLp B to a L p → ∀ j : Int, a ≤ j → j < p → B j.toNat = 32 ∨ lt7 (B j.toNat) > 0 := by sorry
/-- each word of a list -/
theorem wl_ww {B : Nat → Int} {to : Int} : ∀ (L : List (Int × Int)) (a p : Int), 0 ≤ a → WLp B to a L p → ∀ i : Nat, i < L.length → 0 ≤ (L.getD i (0, 0)).1 ∧ 1 ≤ (L.getD i (0, 0)).2 - (L.getD i (0, 0)).1 ∧ (L.getD i (0, 0)).2 - (L.getD i (0, 0)).1 ≤ 12 ∧ (L.getD i (0, 0)).2 ≤ to ∧ ∀ j : Int, (L.getD i (0, 0)).1 ≤ j → j < (L.getD i (0, 0)).2 → lt7 (B j.toNat) > 0 := by sorry
/-- brackets -/
theorem brk_o {B : Nat → Int} {f : Int} (f0 : 0 ≤ f) : ∀ (n : Nat) (o : Int) (L : List (Int × Int)), brF B f n = some (o, L) → (o ≠ -1 → f ≤ o ∧ o < f + n ∧ B o.toNat = 91 ∧ ∀ j : Int, o < j → j < f + n → B j.toNat ≠ 91 ∧ B j.toNat ≠ 93) ∧ ∀ x ∈ L, f ≤ x.1 ∧ x.1 < x.2 ∧ x.2 < f + n ∧ B x.1.toNat = 91 ∧ B x.2.toNat = 93 ∧ ∀ j : Int, x.1 < j → j < x.2 → B j.toNat ≠ 91 ∧ B j.toNat ≠ 93 := by sorry
/-- a bracket that is opened, or closed, is in the list -/
theorem brk_m {B : Nat → Int} {f : Int} {m : Nat} {o : Int} {L : List (Int × Int)} (h : brF B f m = some (o, L)) : ∀ (k : Nat) (o' : Int) (L' : List (Int × Int)), brF B f (m + k) = some (o', L') → (∀ x ∈ L, x ∈ L') ∧ (o ≠ -1 → o' = o ∨ ∃ q : Int, (o, q) ∈ L') := by sorry
/-- bytes that agree: the same brackets -/
theorem brx_c {B C : Nat → Int} {f : Int} : ∀ n : Nat, (∀ j : Int, f ≤ j → j < f + n → B j.toNat = C j.toNat) → brF B f n = brF C f n := by sorry
end
section
/-! what stands in [ ] means the same to both -/
def INSD (T X : sS) (c n : Nat) : Prop := (∀ i : Nat, i < n → ikR X i = tr7 (ty7 T ((c : Int) + i)) ∧ (0 ≤ ty7 T ((c : Int) + i) ∧ ty7 T ((c : Int) + i) ≤ 100) ∧ wdC (Xj T 879 (c + i)) ∧ Xj X 994 i = cv (Xj T 879 (c + i))) ∧ ty7 T ((c : Int) + n) = 107 ∧ Xi T 876 7 = c + n + 1 ∧ Xi X 904 160 = n ∧ c + n + 1 ≤ 5130
theorem ins_i {T X : sS} {c n : Nat} {i : Int} (h : INSD T X c n) (h0 : 0 ≤ i) (h1 : i < n) : ikR X i = tr7 (ty7 T (c + i)) ∧ (0 ≤ ty7 T (c + i) ∧ ty7 T (c + i) ≤ 100) ∧ wdC (Xj T 879 (c + i).toNat) ∧ Xj X 994 i.toNat = cv (Xj T 879 (c + i).toNat) := by sorry
theorem ins_t {T X : sS} {c n : Nat} {i : Int} (h : INSD T X c n) (h0 : 0 ≤ i) (h1 : i ≤ n) : 0 ≤ ty7 T (c + i) ∧ ty7 T (c + i) ≤ 107 := by sorry
theorem fi_r {T X : sS} {c n : Nat} {a b s : Int} (h : INSD T X c n) (v : VOC T X) (hx : LXR X) (h0 : 0 ≤ a) (hb : b ≤ n) (fr : ∀ i : Int, a ≤ i → i < b → ty7 T (c + i) = 100) (hs : 0 ≤ s ∧ s ≤ 12) : fnd T (sg7 s) (c + a) (c + b) = if fiR X a (b - a) ≠ -1 ∧ Xi X 914 (fiR X a (b - a)).toNat = s then Xi X 915 (fiR X a (b - a)).toNat else -1 := by sorry
theorem reN {T X : sS} {c n : Nat} {x : Int} (h : INSD T X c n) (h0 : 0 ≤ x) (h1 : x ≤ (c : Int) + n) : x ≤ re7 (ty7 T) x ∧ re7 (ty7 T) x ≤ (c : Int) + n ∧ (∀ j : Int, x ≤ j → j < re7 (ty7 T) x → ty7 T j = 100) ∧ ruF T x ((c : Int) + n) = re7 (ty7 T) x := by sorry
theorem reA {T X : sS} {c n : Nat} {x : Int} (h : INSD T X c n) (h0 : 0 ≤ x) (h1 : x ≤ (c : Int) + n) : re7 (ty7 T) x = (c : Int) + n ↔ ∀ j : Int, x ≤ j → j < (c : Int) + n → ty7 T j = 100 := by sorry
theorem itR9 {X : sS} {a f : Int} (h : ¬ (0 < Xi X 904 160 - a ∧ ikR X (Xi X 904 160 - 1) = 153)) (hf : f = (if 0 < Xi X 904 160 - a ∧ 100 ≤ ikR X a ∧ ikR X a ≤ 103 then a + 1 else a)) (k : ¬ (frK X f (Xi X 904 160 - f) ∧ 1 ≤ Xi X 904 160 - f ∧ Xi X 904 160 - f ≤ 3)) : itR X a = -9 := by sorry
/-- THING in [ ] -/
theorem th_i {T X : sS} {c n : Nat} {a : Int} (h : INSD T X c n) (w : RLW T X) (sl : SLF T X) (sk : Xi T 895 3 = 53) (h0 : 0 ≤ a) (h1 : a ≤ n) : (wheC T (c + a) (c + n) = (c : Int) + n ∧ whoC T (c + a) (c + n) ≠ -1 → THR T X (whoC T (c + a) (c + n)) (whkC T (c + a) (c + n)) (itR X a)) ∧ (¬ (wheC T (c + a) (c + n) = (c : Int) + n ∧ whoC T (c + a) (c + n) ≠ -1) → itR X a = -9) := by sorry
end
section
/-! what stands in [ ]: good to both, or to none -/
theorem fnd_3 {T : sS} {s a b : Int} (hs : 0 ≤ s) (h : fnd T s a b ≠ -1) : 1 ≤ b - a ∧ b - a ≤ 3 := by sorry
/-- a THING is short -/
theorem wh_s {T : sS} {i N : Int} (e : wheC T i N = N) (w : whoC T i N ≠ -1) : N ≤ i + 4 := by sorry
theorem in_s {T : sS} {c n : Int} (e7 : Xi T 876 7 = c + n + 1) (h : inOK T c) : n ≤ 9 := by sorry
theorem of_r {T X : sS} {c n : Nat} (h : INSD T X c n) : ∀ (m k : Nat) (i : Int), 0 ≤ i → i ≤ n → (n : Int) - i < m → (n : Int) - i < k → (c : Int) + ofF X m i = reF (ty7 T) k (c + i) := by sorry
/-- of in [ ] -/
theorem iso_r {T X : sS} {c n : Nat} (h : INSD T X c n) (n64 : n ≤ 64) : (bpP T c ↔ isO X) ∧ (bpP T c → re7 (ty7 T) (c + 1) = c + ofR X ∧ 1 < ofR X ∧ ofR X < n ∧ ∀ i : Int, 1 ≤ i → i < ofR X → ty7 T (c + i) = 100) := by sorry
/-- what stands in [ ] is good to both, or to none -/
theorem in_r {T X : sS} {c n : Nat} (h : INSD T X c n) (w : RLW T X) (sl : SLF T X) (sk : Xi T 895 3 = 53) : (inOK T c ↔ sIOK X) ∧ (inOK T c → n ≤ 9 ∧ TMP T (whoC T (inT T c) (Xi T 876 7 - 1)) (itA X) ∧ (bpP T c ↔ isO X) ∧ (bpP T c → inP T c = ipR X)) := by sorry
/-! [ ]: both look at the same words -/
theorem be_le {B C : Nat → Int} {e d : Int} (h : BE B C e) (k : d ≤ e) : BE B C d := by sorry
theorem c32_e {B C : Nat → Int} {e : Int} {f : Nat} (h : BE B C e) : ∀ n : Nat, ((f + n : Nat) : Int) ≤ e → c32 B f n = c32 C f n := by sorry
theorem p27_12 : ∀ n : Fin 13, (27 : Int) ^ n.val ≤ 150094635296999121 := by sorry
/-- what both have noted of [ ] -/
theorem insd_of {W T X X1 : sS} {ts cn : Nat} {L : List (Int × Int)} {a q : Int} (ec : (cn : Int) = Xi W 876 6) (h0 : 0 ≤ a) (be : BE (Xi W ts) (Xi X 906) q) (ky : KEYR (Xj W 880) (Xj X1 911)) (wl : WLp (Xi W ts) q a L q) (ir : IRW W T ts L) (e7 : Xi T 876 7 = Xi W 876 6 + L.length + 1) (t7 : Xi T 877 ((Xi W 876 6).toNat + L.length) = 107) (ri : RIW X X1 L) (l5 : cn + L.length + 1 ≤ 5130) : INSD T X1 cn L.length := by sorry
/-- one [ ]: good to both, or to none -/
theorem inb_r {W T1 X X1 : sS} {ts : Nat} {o q E z : Int} (w : RLW W X) (t3 : TX3 W) (sl : SLF W X) (sk : Xi W 895 3 = 53) (ky : KEYR (Xj W 880) (Xj X 911)) (c0 : 0 ≤ Xi W 876 6) (o0 : 0 ≤ o) (oq : o < q) (qE : q < E) (be : BE (Xi W ts) (Xi X 906) E) (b93 : Xi W ts q.toNat = 93) (l5 : Xi W 876 6 + (q - o) + 1 ≤ 5130) (io : INO W T1 ts (o + 1) q z) (F : FR md_mo_words__p X X1) : (z = 1 → ∀ y : Int, RWO X X1 (o + 1) E y → y = q + 1 ∧ sIOK X1) ∧ (z = 0 → RWO X X1 (o + 1) E (q + 1) → ¬ sIOK X1) := by sorry
end
section
/-! class and reference: SAY -/
theorem ich_m {S : sS} {ts : Nat} : ∀ (L : List (Int × Int)) (T : sS), ICH S ts L T → FR md_rr_insert__p S T ∧ ∀ x ∈ L, ∃ W T1 : sS, FR md_rr_insert__p S W ∧ INO W T1 ts (x.1 + 1) x.2 1 := by sorry
theorem rch_m {S : sS} {E : Int} : ∀ (L : List (Int × Int)) (T : sS), RCH S E L T → FR md_mo_words__p S T ∧ ∀ x ∈ L, ∃ W T1 : sS, FR md_mo_words__p S W ∧ FR md_mo_words__p W T1 ∧ RWO W T1 (x.1 + 1) E (x.2 + 1) ∧ sIOK T1 := by sorry
def cYk : List (Nat × Nat) := [(2, 12), (13, 20), (21, 24), (25, 65), (66, 106), (107, 147), (148, 188), (189, 195), (196, 220), (221, 245), (245, 246), (902, 904), (880, 881)]
def cYf : List (Nat × Nat) := [(1, 3), (20, 1), (20, 12), (891, 10), (876, 5), (876, 6), (895, 3), (895, 4)]
def cZk : List (Nat × Nat) := [(906, 912), (912, 923), (924, 946)]
def cZf : List (Nat × Nat) := [(904, 15), (904, 16), (904, 18), (904, 19), (904, 23), (904, 30), (904, 32), (904, 41), (904, 47), (904, 49), (904, 51), (904, 60), (904, 115), (904, 116)]
theorem slf_k {W A S X : sS} (sl : SLF W S) (a : KEP cYk cYf W A) (b : KEP cZk cZf S X) : SLF A X := by sorry
/-- a text is good to both, or to none -/
theorem text_r {W A S X T : sS} {f ts cl : Nat} {row P M zz : Int} (hcl : cl < 600) (v : ENV W S f) (sk : Xi W 895 3 = 53) (kA : KEP cYk cYf W A) (kX : KEP cZk cZf S X) (ky : KEYR (Xj W 880) (Xj S 911)) (hts : ts = txr W) (P0 : 0 ≤ P) (M0 : 0 ≤ M) (hE : P + M ≤ Xi W 876 5) (c0 : 0 ≤ Xi W 876 6) (l5 : Xi W 876 6 + M + 1 ≤ 5130) (eP : pc7 A row + 1 = P) (eM : Xj A 879 row.toNat = M) (rw' : RWS X T P M zz) : (zz = 0 → ∀ B : sS, ¬ SYL A B ts cl row (P + M) (-1)) ∧ (zz = 1 → ¬ SYX A ts cl row) := by sorry
/-- SAY -/
theorem sayp_r {W A B S S1 : sS} {f c i cl ts : Nat} {b e q p z : Int} (hcl : cl < 600) (v : ENV W S f) (sk : Xi W 895 3 = 53) (g : AGN W A) (kA : KEP cYk cYf W A) (ky : KEYR (Xj W 880) (Xj S 911)) (hts : ts = txr W) (h0 : 0 ≤ b) (hb : e < Xi W 876 7) (hq : 0 ≤ q ∧ q ≤ 100000) (k963 : Xi S 963 i = 0) (k964 : Xi S 964 i = c) (k957 : Xi S 957 c = f + b + 1) (t5 : tkR S (f + b + 1) = 5) (he : e = b + 2) (M0 : 0 ≤ Xj W 879 (b + 1).toNat) (hE : pc7 W (b + 1) + 1 + Xj W 879 (b + 1).toNat ≤ Xi W 876 5) (hE5 : Xi W 876 5 ≤ 100000) (c0 : 0 ≤ Xi W 876 6) (l5 : Xi W 876 6 + Xj W 879 (b + 1).toNat + 1 ≤ 5130) (hz : z = 0 ∨ z = 1) (ph : SYT A B ts cl (b + 1) z) (pm : PM0 S S1 i q p) : PRS W A B S S1 cl q p b e z := by sorry
end
section
/-! class and reference: one phrase, whichever it is -/
/-- texts of a sentence lie in the story -/
def TXL (W : sS) : Prop := (∀ r : Int, 0 ≤ r → r < Xi W 876 7 → ty7 W r = 102 → 0 ≤ Xj W 879 r.toNat ∧ pc7 W r + 1 + Xj W 879 r.toNat ≤ Xi W 876 5 ∧ Xi W 876 6 + Xj W 879 r.toNat + 1 ≤ 5130) ∧ Xi W 876 5 ≤ 100000 ∧ 0 ≤ Xi W 876 6
theorem t5_102 {t : Int} (h : 0 ≤ t ∧ t ≤ 108) (k : tr7 t = 5) : t = 102 := by sorry
theorem t4_101 {t : Int} (h : 0 ≤ t ∧ t ≤ 108) (k : tr7 t = 4) : t = 101 := by sorry
theorem phr_r {W A B S S1 : sS} {f c i cl ts : Nat} {b e q p z : Int} (hcl : cl < 600) (v : ENV W S f) (sk : Xi W 895 3 = 53) (g : AGN W A) (kA : KEP cYk cYf W A) (ky : KEYR (Xj W 880) (Xj S 911)) (hts : ts = txr W) (tx : TXL W) (nv : NVL W) (h0 : 0 ≤ b) (hb : e < Xi W 876 7) (hq : 0 ≤ q ∧ q ≤ 100000) (k964 : Xi S 964 i = c) (cm : CLM A cl 11 0 (-1) (-1) 0 0 (-1)) (a8 : Xi A 876 8 = 0) (rd : PHE (tkR S) S c i (f + b) (f + e)) (hz : z = 0 ∨ z = 1) (ph : PHX A B ts cl (ty7 W b) b e z) (pm : PMX S S1 i q p) : PRS W A B S S1 cl q p b e z := by sorry
/-! the reference: what a phrase notes, it notes at its own places -/
theorem phg_r {W S S1 : sS} {f c i : Nat} {b e q p : Int} (v : ENV W S f) (h0 : 0 ≤ b) (hb : e < Xi W 876 7) (k964 : Xi S 964 i = c) (rd : PHE (tkR S) S c i (f + b) (f + e)) (pm : PMX S S1 i q p) : NTG (pc7 W b) (NT3 S) (NT3 S1) := by sorry
end
section
/-! class and reference: PHRASES, one after another -/
theorem psq_lt {T : Int → Int} {V : sS} {c m : Nat} {p : Int} : ∀ (n : Nat) (x : Int), PSQ T V c m p (n + 1) x → p < x := by sorry
/-- a chain of phrases, where the class finds them -/
theorem psq_r {W S V : sS} {f c m : Nat} {a : Int} (sc : SCX W S f) (tb : ∀ i : Int, 0 ≤ ty7 W i ∧ ty7 W i ≤ 108) (h0 : 0 ≤ a) : ∀ (n : Nat) (e : Int), PSQ (tkR S) V c m (f + a) (n + 1) (f + e) → e < Xi W 876 7 → (∀ k : Nat, k ≤ n → PHE (tkR S) V (c + k) (m + k) (f + pP7 W a k) (f + eP7 W a k) ∧ Xi V 965 (m + k) = f + pP7 W a k ∧ Xi V 964 (m + k) = ((c + k : Nat) : Int) ∧ a ≤ pP7 W a k ∧ pP7 W a k < eP7 W a k ∧ eP7 W a k ≤ e) ∧ eP7 W a n = e ∧ (∀ k : Nat, k < n → ty7 W (eP7 W a k) = 105) := by sorry
theorem pp_lt {W : sS} {a : Int} : ∀ (m k : Nat), (∀ j : Nat, j ≤ k + m → pP7 W a j < eP7 W a j) → eP7 W a k < pP7 W a (k + m + 1) := by sorry
/-- the entries of other tests and phrases stay -/
def PKQ (S S1 : sS) (q p : Int) : Prop := (∀ k j : Nat, 969 ≤ k → k ≤ 975 → j ≠ q.toNat → Xi S1 k j = Xi S k j) ∧ ∀ k j : Nat, k = 976 ∨ k = 977 → j ≠ p.toNat → Xi S1 k j = Xi S k j
theorem PKQ.tr {S T U : sS} {q p : Int} (h : PKQ S T q p) (k : PKQ T U q p) : PKQ S U q p := by sorry
theorem pkq_u {S : sS} {k : Nat} {q p : Int} {v : Int32} (h : 969 ≤ k ∧ k ≤ 975) : PKQ S (uI S k q.toNat v) q p := by sorry
theorem pkq_a {S : sS} {i q p : Int} : PKQ S (phA S i q p) q p := by sorry
theorem pkq_f {l : List rec} {S T : sS} {q p : Int} (F : FR l S T) (e : kdis l [(969, 978)] = true) : PKQ S T q p := by sorry
theorem pmx_q {S S1 : sS} {i q p : Int} (hq : 0 ≤ q) (h3 : 0 ≤ Xi S 963 i.toNat ∧ Xi S 963 i.toNat ≤ 6) (h5 : Xi S 963 i.toNat = 5 → Xi S 953 (pTS S i).toNat = 0 ∨ Xi S 953 (pTS S i).toNat = 1) (pm : PMX S S1 i q p) : PKQ S S1 q p := by sorry
theorem pqf_k {U S T : sS} {p q : Nat} {fm n w h t g m : Int} (e : ∀ k : Nat, 969 ≤ k → k ≤ 975 → Xi T k q = Xi S k q) (e2 : ∀ k : Nat, k = 976 ∨ k = 977 → Xi T k p = Xi S k p) (s6 : ∀ j, Xi T 906 j = Xi S 906 j) (x : PQF U S p q fm n w h t g m) : PQF U T p q fm n w h t g m := by sorry
/-- the rows of the class while phrases are read -/
theorem agu_n {W A : sS} {l : List rec} (e6 : Xi W 876 6 = Xi W 876 7) (l1 : 1 ≤ Xi W 876 7) (dot : ty7 W (Xi W 876 7 - 1) = 103) (g : AGU W A) (F : FR l W A) (e : kepC l [(2, 20), (21, 22)] [(1, 3), (895, 3), (895, 4)] = true) : AGN W A := by sorry
end
section
/-! class and reference: PHRASES, all of them -/
/-- inserts grow -/
def GRI (S T : sS) : Prop := Xi S 246 8 ≤ Xi T 246 8 ∧ ∀ j : Nat, (j : Int) < Xi S 246 8 → Xi T 274 j = Xi S 274 j ∧ Xi T 275 j = Xi S 275 j
theorem GRI.rf {S : sS} : GRI S S := by sorry
theorem GRI.tr {S T U : sS} (h : GRI S T) (k : GRI T U) : GRI S U := by sorry
theorem gri_k {S T : sS} (h : KIN S T) : GRI S T := by sorry
theorem gri_f {l : List rec} {S T : sS} (F : FR l S T) (e : kepC l [(274, 276)] [(246, 8)] = true) : GRI S T := by sorry
theorem gri_i {S T : sS} {ts : Nat} {a to z : Int} (h : INO S T ts a to z) : GRI S T := by sorry
theorem gri_c {S : sS} {ts : Nat} : ∀ (L : List (Int × Int)) (T : sS), ICH S ts L T → GRI S T := by sorry
theorem gri_x {A B : sS} {ts cl : Nat} {key p e : Int} (h : PHX A B ts cl key p e 1) : GRI A B := by sorry
theorem phe_q {S X : sS} {c m : Nat} {p e : Int} (k : KEP cPk cPf S X) (h : PHE (tkR S) S c m p e) : PHE (tkR X) X c m p e := by sorry
theorem phe_3 {T : Int → Int} {V : sS} {c m : Nat} {p e : Int} (h : PHE T V c m p e) : (0 ≤ Xi V 963 m ∧ Xi V 963 m ≤ 6) ∧ (Xi V 963 m = 5 → Xi V 953 c = 0 ∨ Xi V 953 c = 1) := by sorry
/-- phrases as the reading has left them -/
def PCHN (W D : sS) (f c0 : Nat) (a : Int) (N : Nat) : Prop := ∀ k : Nat, k < N → PHE (tkR D) D (c0 + k) k (f + pP7 W a k) (f + eP7 W a k) ∧ Xi D 964 k = ((c0 + k : Nat) : Int) ∧ Xi D 965 k = f + pP7 W a k ∧ a ≤ pP7 W a k ∧ pP7 W a k < eP7 W a k ∧ eP7 W a k < Xi W 876 7
theorem rph_f {S D : sS} {q0 p0 : Int} : ∀ (n : Nat) (X : sS), RPH md_mo_need__p md_mo_phraseMeant__p S D q0 p0 n X → FR md_mo_phraseMeant__p D X := by sorry
theorem pp_le {W : sS} {a : Int} {k n : Nat} (h : k ≤ n) (x : ∀ j : Nat, j < n → pP7 W a j < eP7 W a j) : pP7 W a k ≤ pP7 W a n := by sorry
/-- the notes of later phrases are at later places -/
theorem rph_g {W S D : sS} {f c0 N : Nat} {a q0 p0 : Int} (v : ENV W D f) (h0 : 0 ≤ a) (ch : PCHN W D f c0 a N) (kS : ∀ j, Xi S 908 j = Xi D 908 j) (kS5 : ∀ j, Xi S 965 j = Xi D 965 j) : ∀ (n : Nat) (X : sS), n ≤ N → RPH md_mo_need__p md_mo_phraseMeant__p S D q0 p0 n X → ∀ k : Nat, k ≤ n → ∃ Y : sS, RPH md_mo_need__p md_mo_phraseMeant__p S D q0 p0 k Y ∧ (k = n → Y = X) ∧ (k < n → NTG (pc7 W (pP7 W a k)) (NT3 Y) (NT3 X)) := by sorry
/-! class and reference: PHRASES of both, good and the same, or the same fault -/
def PEN (W D : sS) (f ts : Nat) : Prop := ENV W D f ∧ Xi W 895 3 = 53 ∧ KEYR (Xj W 880) (Xj D 911) ∧ ts = txr W ∧ TXL W ∧ NVL W ∧ Xi W 876 6 = Xi W 876 7 ∧ (1 ≤ Xi W 876 7 ∧ ty7 W (Xi W 876 7 - 1) = 103) ∧ Xi W 876 8 = 0 ∧ (0 ≤ Xi W 246 5 ∧ Xi W 246 5 + 8 ≤ 600) ∧ 0 ≤ Xi W 899 5
def PGO (W T X : sS) (ts base : Nat) (a q0 p0 : Int) (n : Nat) : Prop := ∀ k : Nat, k < n → (∃ fm i w h t g m : Int, CLM T (base + k) fm i w h t g m ∧ PQF W X (p0 + k).toNat (q0 + k).toNat fm i w h t g m) ∧ ∃ A B : sS, PHX A B ts (base + k) (ty7 W (pP7 W a k)) (pP7 W a k) (eP7 W a k) 1 ∧ AGU W A ∧ FR md_rr_rulePhrases__p W A ∧ GRI B T ∧ CLM B (base + k) (Xi T (276 + (base + k)) 0) (Xi T (276 + (base + k)) 1) (Xi T (276 + (base + k)) 2) (Xi T (276 + (base + k)) 3) (Xi T (276 + (base + k)) 4) (Xi T (276 + (base + k)) 5) (Xi T (276 + (base + k)) 6)
/-- one phrase of a chain -/
theorem phc_1 {W W' A B D X' A' X : sS} {f ts c0 N n cl : Nat} {a q0 p0 z : Int} (pe : PEN W D f ts) (h0 : 0 ≤ a) (ch : PCHN W D f c0 a N) (hn : n < N) (hn8 : n < 8) (q00 : 0 ≤ q0 ∧ q0 + 8 ≤ 100000) (ecl : (cl : Int) = Xi W' 246 5) (el : Xi W' 246 5 = Xi W 246 5 + n) (w8 : Xi W' 876 8 = 0) (nx : NXC W' A) (ag : AGU W A) (F : FR md_rr_rulePhrases__p W A) (ph : PHX A B ts cl (ty7 W (pP7 W a n)) (pP7 W a n) (eP7 W a n) z) (hz : z = 0 ∨ z = 1) (FX : FR md_mo_phraseMeant__p D X') (FN : FR md_mo_need__p X' A') (pm : PMX A' X n (q0 + n) (p0 + n)) : PRS W A B A' X cl (q0 + n) (p0 + n) (pP7 W a n) (eP7 W a n) z ∧ PKQ A' X (q0 + n) (p0 + n) := by sorry
theorem phc_y {W D S : sS} {f ts c0 N ru base : Nat} {a q0 p0 : Int} (pe : PEN W D f ts) (ea : a = Xi W 899 5 + 1) (eb : (base : Int) = Xi W 246 5) (hru : ru < 24) (ch : PCHN W D f c0 a N) (q00 : 0 ≤ q0 ∧ q0 + 8 ≤ 100000) (p00 : 0 ≤ p0) : ∀ (n : Nat) (T X : sS), n ≤ N → n ≤ 8 → PHC md_rr_rulePhrases__p W ru ts n T → RPH md_mo_need__p md_mo_phraseMeant__p S D q0 p0 n X → NT3 X = NT3 D ∧ Xi T 876 8 = 0 ∧ Xi T 246 5 = Xi W 246 5 + n ∧ GRI W T ∧ (∀ c j : Nat, (c : Int) < Xi W 246 5 → Xi T (276 + c) j = Xi W (276 + c) j) ∧ PGO W T X ts base a q0 p0 n := by sorry
/-- PHRASES of both -/
theorem phs_r {W D S Z U1 : sS} {f ts c0 N ru base : Nat} {a q0 p0 y : Int} (pe : PEN W D f ts) (ea : a = Xi W 899 5 + 1) (eb : (base : Int) = Xi W 246 5) (hru : ru < 24) (ch : PCHN W D f c0 a N) (kS : ∀ j, Xi S 908 j = Xi D 908 j) (kS5 : ∀ j, Xi S 965 j = Xi D 965 j) (q00 : 0 ≤ q0 ∧ q0 + 8 ≤ 100000) (p00 : 0 ≤ p0) (N0 : 0 < N) (mid : ∀ k : Nat, k + 1 < N → ty7 W (eP7 W a k) = 105) (last : ty7 W (eP7 W a (N - 1)) ≠ 105) (rp : RPO md_rr_rulePhrases__p W U1 ru ts y) (rr : RPH md_mo_need__p md_mo_phraseMeant__p S D q0 p0 N Z) : (y = 1 → NT3 Z = NT3 D ∧ N ≤ 8 ∧ Xi U1 876 8 = 0 ∧ ∃ T : sS, PHC md_rr_rulePhrases__p W ru ts N T ∧ U1 = uI (uI T (248 + ru) 5 (Int32.ofInt (Xi W 899 6))) 246 2 (Int32.ofInt (Xi W 246 2 + 1)) ∧ Xi T 246 5 = Xi W 246 5 + N ∧ GRI W T ∧ (∀ c j : Nat, (c : Int) < Xi W 246 5 → Xi T (276 + c) j = Xi W (276 + c) j) ∧ PGO W T Z ts base a q0 p0 N) ∧ (y = 0 → (NT3 D).1 = 0 → NTB (NT3 Z) (Xi U1 876 8) (Xi U1 876 9)) := by sorry
end
section
/-! tests of the class: where they end -/
def HTE (S S1 : sS) (a z : Int) : Prop := z = 1 → (a = -1 → Xi S1 899 5 = Xi S 899 5) ∧ (a ≠ -1 → ∃ n : Nat, 0 < n ∧ n ≤ 6 ∧ (∀ k : Nat, k + 1 < n → ty7 S (eT7 S a k) = 16) ∧ ty7 S (eT7 S a (n - 1)) ≠ 16 ∧ Xi S1 899 5 = eT7 S a (n - 1))
theorem hte_0 {S S1 : sS} {a z : Int} (h : z = 0) : HTE S S1 a z := by sorry
theorem hte_1 {S S1 : sS} {a z v : Int} (t : TCK S S1 a v.toNat) (x : (v = 0 → Xi S1 899 5 = Xi S 899 5) ∧ (0 < v → Xi S1 899 5 = eT7 S a (v.toNat - 1))) (c : (a = -1 ∧ v = 0) ∨ (a ≠ -1 ∧ 0 < v ∧ ty7 S (eT7 S a (v.toNat - 1)) ≠ 16)) (hv : v ≤ 6) : HTE S S1 a z := by sorry
theorem fun_hte {S S1 : sS} {a v : Int} (h : Xi S1 899 5 = Xi S 899 5) (hv : v = 0 := by omega) : Hid ((v = 0 → Xi S1 899 5 = Xi S 899 5) ∧ (0 < v → Xi S1 899 5 = eT7 S a (v.toNat - 1))) := by sorry
def md_rr_tests__q : List rec := [(246, 247, 5, 6), (276, 876, 0, 1), (276, 876, 1, 2), (276, 876, 2, 3), (276, 876, 3, 4), (276, 876, 4, 5), (276, 876, 5, 6), (276, 876, 6, 7), (876, 877, 8, 9), (876, 877, 9, 10), (895, 896, 5, 6), (895, 896, 6, 7), (895, 896, 7, 8), (895, 896, 8, 9), (895, 896, 9, 10), (895, 896, 10, 11), (895, 896, 11, 12), (899, 900, 5, 6), (899, 900, 6, 7)]
abbrev Q_rr_tests__q (S : sS) (from_ : Int) : pst := fun r S1 => RI S1 ∧ FR md_rr_tests__q S S1 ∧ (∃ z : Int, r = some (iv z) ∧ (0 ≤ z ∧ z ≤ 1) ∧ (TSS S S1 from_ z) ∧ (HTE S S1 from_ z))
set_option maxRecDepth 100000 in
theorem t_rr_tests__q {S : sS} (hH : RI S) (from_ : Int) (hfrom_ : -1 ≤ from_ ∧ from_ ≤ 5120) (h13 : 0 ≤ Xi S 1 3 ∧ Xi S 1 3 ≤ 200) (hCE : CEN S) (hf : Xi S 876 8 = 0) (hr : Xi S 876 7 ≤ 5130) (h7 : 0 ≤ Xi S 876 7) (hT : TOK S) (hS : SRX S) (hnv : Hid (NVL S)) (hpl : Hid (∀ j : Nat, 0 ≤ Xi S 878 j)) (h5 : Xi S 876 5 ≤ 5000) (hcc : 0 ≤ Xi S 246 5 ∧ Xi S 246 5 + 6 ≤ 600) (htp : Hid (from_ ≠ -1 → TPQ S from_)) (d : Nat) : Mp lay0 (d + 6) m_rr_tests [.ref 899, iv from_] S (Q_rr_tests__q S from_) := by sorry
end
end
section
section
/-! the reference: what the head of a rule notes, and of what kind its noun is -/
theorem acf_rg {U S : sS} {f : Nat} {r a b tr : Int} (h : RLW U S) (sc : SCX U S f) (rn : RNR U S f r a b) : ∀ n : Nat, a + 1 + n ≤ b → 0 ≤ (acF S (f + a) (b - a) tr n).2.2 ∧ (0 < (acF S (f + a) (b - a) tr n).2.2 → (0 ≤ (acF S (f + a) (b - a) tr n).1 ∧ (acF S (f + a) (b - a) tr n).1 < Xi U 5 8) ∧ ((acF S (f + a) (b - a) tr n).2.1 = -1 ∨ (0 ≤ (acF S (f + a) (b - a) tr n).2.1 ∧ (acF S (f + a) (b - a) tr n).2.1 < Xi U 5 2))) := by sorry
theorem amg_r {U S P B' : sS} {f ru : Nat} {s hd : Int} {lX : List rec} (w : ENW U S f) (hru : ru < 24) (hde : HDE (tkR S) S s f (f + hd)) (hh : hd < Xi U 876 7) (FX : FR lX S P) (eX : kepC lX cXk cSf = true) (eX2 : kepC lX [(950, 952)] [(904, 69), (904, 70), (904, 102), (904, 103)] = true) (e70 : Xi S 904 70 = s) (am : AMX P B' ru) : 1 ≤ hd ∧ NTG (pc7 U 0) (NT3 P) (NT3 B') ∧ -1 ≤ Xi B' 904 116 ∧ Xi B' 904 116 < Xi U 5 0 := by sorry
end
section
/-! rules: where faults of tests lie; phrases as read -/
theorem tsn_rg {U S : sS} {f c : Nat} {a b now cc r : Int} (v : ENV U S f) (h0 : 0 ≤ a) (hb : b < Xi U 876 7) (hn : now = 0 ∨ now = 1) (rd : TSTR (tkR S) S c (f + a) (f + b) now) (y : TSN U a b now cc r) : a ≤ r ∧ r < b := by sorry
/-- where a fault of TESTS lies -/
theorem tsx_rg {A B C : sS} {f N : Nat} {a g : Int} (v : ENV A C f) (h0 : 0 ≤ a) (ch : TCH A C f a N) (n0 : 0 < N) (last : ty7 A (eT7 A a (N - 1)) ≠ 16) (eg : eT7 A a (N - 1) = g) (ts : TSS A B a 0) : ∃ r : Int, a ≤ r ∧ r < g ∧ Xi B 876 9 = pc7 A r := by sorry
theorem phe_w {S X : sS} {c m : Nat} {p e : Int} (k : KEP [(907, 908), (950, 966)] [(904, 69)] S X) (h : PHE (tkR S) S c m p e) : PHE (tkR X) X c m p e := by sorry
/-- phrases as read, for a state of the class that has the sentence's rows -/
theorem pch_of {X S D : sS} {f N K : Nat} {a e : Int} (sc : SCX X S f) (tb : ∀ i : Int, 0 ≤ ty7 X i ∧ ty7 X i ≤ 108) (h0 : 0 ≤ a) (ps : PSQ (tkR S) S N 0 (f + a) K (f + e)) (hK : 0 < K) (he : e < Xi X 876 7) (kk : KEP [(907, 908), (950, 966)] [(904, 69)] S D) : PCHN X D f N a K ∧ eP7 X a (K - 1) = e ∧ ∀ k : Nat, k + 1 < K → ty7 X (eP7 X a k) = 105 := by sorry
theorem t58_106 {t : Int} (h : 0 ≤ t ∧ t ≤ 108) (k : tr7 t = 58) : t = 106 := by sorry
theorem t59_105 {t : Int} (h : 0 ≤ t ∧ t ≤ 108) (k : t = 105) : tr7 t = 59 := by sorry
/-- behind the head of a rule the reference notes only at later places -/
theorem rl_g {U S C D E P : sS} {f N K : Nat} {hd g e q0 p0 : Int} (w : ENW U S f) (kC : KEP cXk cSf S C) (kC2 : KEP [(907, 908), (950, 966)] [(904, 69)] S C) (c116 : -1 ≤ Xi C 904 116 ∧ Xi C 904 116 < Xi U 5 0) (c115 : Xi C 904 115 = -1) (wht : WHT (tkR S) S 0 N 0 (f + hd) (f + g)) (hd1 : 1 ≤ hd) (tg : tkR S (f + g) = 58) (hK : 0 < K) (psq : PSQ (tkR S) S N 0 (f + g + 1) K (f + e)) (he : e < Xi U 876 7) (k8 : ∀ j, Xi P 908 j = Xi S 908 j) (k5 : ∀ j, Xi P 965 j = Xi S 965 j) (tr : TSR md_mo_need__p md_mo_testMeant__p C N D) (rp : RPH md_mo_need__p md_mo_phraseMeant__p P D q0 p0 K E) : (hd ≤ g ∧ g + 1 < e) ∧ (N = 0 → g = hd ∧ D = C) ∧ (0 < N → hd < g) ∧ NTG (pc7 U hd) (NT3 C) (NT3 D) ∧ NTG (pc7 U (g + 1)) (NT3 D) (NT3 E) := by sorry
end
section
/-! class and reference: a RULE (3, 4, 5, 6) -/
theorem tsq_lt {T : Int → Int} {V : sS} {c : Nat} {p : Int} : ∀ (n : Nat) (x : Int), TSQ T V c p (n + 1) x → p < x := by sorry
theorem nt_4 {S : sS} {j : Nat} {v : Int32} (h : j ≠ 104 ∧ j ≠ 105 ∧ j ≠ 106) : NT3 (uI S 904 j v) = NT3 S := by sorry
theorem rlw_n {E : sS} {l q : Int} : NT3 (rlW E l q) = NT3 E := by sorry
theorem rlw_k {E : sS} {l q : Int} : KEP cSk cSf E (rlW E l q) := by sorry
def lPA3 : List rec := [(904, 905, 104, 105), (904, 905, 105, 106), (904, 905, 106, 107), (904, 905, 108, 109), (904, 905, 115, 116), (904, 905, 116, 117)]
/-- what a rule leaves, in both: head, tests, phrases -/
def RULF (U U1 S T : sS) (ts ru N K : Nat) (s hd g : Int) : Prop := ∃ A B A' B' C' D' E W : sS, HDK U A B' ru s hd ∧ (FR lPA3 S A' ∧ KRE A' B' ru ∧ FR md_mo_actingMeant__p A' B' ∧ C' = uI B' 904 115 (Int32.ofInt (-1))) ∧ FR md_rr_ruleHead__p U A ∧ FR md_rr_tests__p A B ∧ FR md_rr_rulePhrases__p B U1 ∧
  (N ≤ 6 ∧ Xi B 246 5 = Xi A 246 5 + N ∧ Xi B 899 6 = N ∧ (∀ c j : Nat, (c : Int) < Xi A 246 5 → Xi B (276 + c) j = Xi A (276 + c) j) ∧ ∀ k : Nat, k < N → ∃ fm i w h t q m : Int, CLM B ((Xi A 246 5).toNat + k) fm i w h t q m ∧ TQF A D' (Xi S 904 117 + k).toNat 53 fm i w h t q m) ∧
  TSR md_mo_need__p md_mo_testMeant__p C' N D' ∧
  (K ≤ 8 ∧ PHC md_rr_rulePhrases__p B ru ts K W ∧ U1 = uI (uI W (248 + ru) 5 (Int32.ofInt (Xi B 899 6))) 246 2 (Int32.ofInt (Xi B 246 2 + 1)) ∧ Xi W 246 5 = Xi B 246 5 + K ∧ GRI B W ∧ (∀ c j : Nat, (c : Int) < Xi B 246 5 → Xi W (276 + c) j = Xi B (276 + c) j) ∧ PGO B W E ts (Xi B 246 5).toNat (g + 1) (Xi S 904 117 + N) (Xi S 904 125) K) ∧
  (∃ (f : Nat) (P : sS), ((PEN B D' f ts ∧ Xi B 899 5 = g) ∧ TSS A B (if ty7 A (Xi A 899 5) = 37 then Xi A 899 5 + 1 else -1) 1) ∧ PCHN B D' f N (g + 1) K ∧ RPH md_mo_need__p md_mo_phraseMeant__p P D' (Xi S 904 117 + N) (Xi S 904 125) K E) ∧ T = rlW E ru (Xi S 904 117 + N)
theorem st_3 {U A B U1 S T : sS} {f ts ru N K : Nat} {s hd g e x y z : Int} (w : ENW U S f) (bk : BKC U S) (hs : s = 3 ∨ s = 4 ∨ s = 5 ∨ s = 6) (e70 : Xi S 904 70 = s) (hde : HDE (tkR S) S s f (f + hd)) (wht : WHT (tkR S) S 0 N 0 (f + hd) (f + g)) (tg : tkR S (f + g) = 58) (hK : 0 < K) (psq : PSQ (tkR S) S N 0 (f + g + 1) K (f + e)) (te : tkR S (f + e) ≠ 59) (he : e < Xi U 876 7) (n98 : Xi S 904 98 = K)
    (ky : KEYR (Xj U 880) (Xj S 911)) (hts : ts = txr U) (tx : TXL U) (nv : NVL U) (e6 : Xi U 876 6 = Xi U 876 7) (dot : ty7 U (Xi U 876 7 - 1) = 103) (eru : (ru : Int) = Xi U 246 2)
    (hx : x = 0 ∨ x = 1) (c1 : RHO md_rr_ruleHead__p U A s x) (F1 : FR md_rr_ruleHead__p U A) (c0 : x = 0 → z = 0 ∧ U1 = A) (c2 : x = 1 → TSS A B (if ty7 A (Xi A 899 5) = 37 then Xi A 899 5 + 1 else -1) y ∧ HTE A B (if ty7 A (Xi A 899 5) = 37 then Xi A 899 5 + 1 else -1) y ∧ FR md_rr_tests__p A B ∧ (y = 0 ∨ y = 1)) (c3 : x = 1 → y = 0 → z = 0 ∧ U1 = B) (c4 : x = 1 → y = 1 → RPO md_rr_rulePhrases__p B U1 ru ts z ∧ FR md_rr_rulePhrases__p B U1 ∧ (z = 0 ∨ z = 1)) (zf : z = 0 → Xi U1 876 8 ≠ 0)
    (rc : ∃ P : sS, FR lA S P ∧ (Xi P 904 106 = 0 ∧ Xi P 904 108 = 0 ∧ Xi P 904 115 = -1 ∧ Xi P 904 116 = -1) ∧ RML P T f) : STP U1 T T ∧ (Xi U1 876 8 = 0 → RULF U U1 S T ts ru N K s hd g) := by sorry
end
section
/-! rules: entries told before stay -/
theorem rph_o {W S D : sS} {f c0 N : Nat} {a q0 p0 : Int} (q00 : 0 ≤ q0) (p00 : 0 ≤ p0) (ch : PCHN W D f c0 a N) : ∀ (n : Nat) (X : sS), n ≤ N → RPH md_mo_need__p md_mo_phraseMeant__p S D q0 p0 n X → (∀ k j : Nat, 969 ≤ k → k ≤ 975 → (j : Int) < q0 → Xi X k j = Xi D k j) ∧ ∀ k j : Nat, k = 976 ∨ k = 977 → (j : Int) < p0 → Xi X k j = Xi D k j := by sorry
/-- what the reference has told of rules, but for the new one, stays -/
theorem rlw_e {E : sS} {ru : Nat} {q : Int} : KRE E (rlW E ru q) ru := by sorry
theorem rlw_x {E : sS} {ru : Nat} {q : Int} (q0 : 0 ≤ q ∧ q ≤ 100000) (e1 : 0 ≤ Xi E 904 117 ∧ Xi E 904 117 ≤ 100000) (e2 : 0 ≤ Xi E 904 94 ∧ Xi E 904 94 ≤ 100000) (e3 : 0 ≤ Xi E 904 125 ∧ Xi E 904 125 ≤ 100000) (e4 : 0 ≤ Xi E 904 98 ∧ Xi E 904 98 ≤ 100000) (e5 : 0 ≤ Xi E 904 130 ∧ Xi E 904 130 ≤ 100000) : Xi (rlW E ru q) 978 ru = soQ (Xi E 904 70) ∧ Xi (rlW E ru q) 984 ru = Xi E 904 117 ∧ Xi (rlW E ru q) 985 ru = Xi E 904 94 ∧ Xi (rlW E ru q) 986 ru = Xi E 904 125 ∧ Xi (rlW E ru q) 987 ru = Xi E 904 98 ∧ Xi (rlW E ru q) 904 117 = q + Xi E 904 98 ∧ Xi (rlW E ru q) 904 125 = Xi E 904 125 + Xi E 904 98 ∧ Xi (rlW E ru q) 904 130 = Xi E 904 130 + 1 := by sorry
end
section
/-! rules of both: one relation -/
theorem tmk_u {sk n n1 w t : Int} (h : n ≤ n1) (x : TMK sk n w t) : TMK sk n1 w t := by sorry
/-- a phrase stays one when the class's world grows -/
theorem pqf_u {U U1 S : sS} {p q : Nat} {fm n w h t g m : Int} (c : ∀ j, Xi U 5 j ≤ Xi U1 5 j) (n9 : ∀ p : Nat, (p : Int) < Xi U 5 5 → Xi U1 9 p = Xi U 9 p) (n19 : ∀ a : Nat, (a : Int) < Xi U 5 8 → Xi U1 19 a = Xi U 19 a) (tx : ∀ j, Xi U1 (txr U1) j = Xi U (txr U) j) (x : PQF U S p q fm n w h t g m) : PQF U1 S p q fm n w h t g m := by sorry
/-- the head of a rule, in both -/
def HRT (U S : sS) (r : Nat) : Prop :=
  (Xi U (248 + r) 0 = 3 ∧ (Xi U (248 + r) 1 = -1 ∧ Xi U (248 + r) 2 = -1 ∧ Xi U (248 + r) 3 = -1 ∧ Xi U (248 + r) 4 = 0) ∧ (Xi S 979 r = -1 ∧ Xi S 980 r = -1 ∧ Xi S 981 r = -1 ∧ Xi S 982 r = 0)) ∨
  (Xi U (248 + r) 0 ≠ 3 ∧ ∃ a o k n : Int, (Xi U (248 + r) 1 = a ∧ Xi U (248 + r) 2 = o ∧ Xi U (248 + r) 3 = k ∧ Xi U (248 + r) 4 = n) ∧ (Xi S 979 r = a ∧ Xi S 980 r = o ∧ Xi S 981 r = k ∧ Xi S 982 r = n) ∧ ((0 ≤ a ∧ a < Xi U 5 8) ∧ (-1 ≤ o ∧ o < Xi U 5 2) ∧ (-1 ≤ k ∧ k < Xi U 5 0) ∧ (0 ≤ n ∧ n ≤ 5)) ∧ ((o ≠ -1 ∨ k ≠ -1 → 0 ≤ Xi U 19 a.toNat) ∧ (o ≠ -1 → k = -1) ∧ (k = -1 → n = 0)) ∧ ∀ i : Nat, (i : Int) < n → ADH U U ((Xi U (248 + r) 7).toNat + i) (Xi S 983 (6 * r + i)))
/-- a rule, in both: clauses of the class in the order ADJECTIVES, tests, phrases -/
def RUQ1 (U S : sS) (r : Nat) : Prop := (Xi U (248 + r) 0 = Xi S 978 r ∧ 0 ≤ Xi U (248 + r) 0 ∧ Xi U (248 + r) 0 ≤ 3) ∧ HRT U S r ∧
  (Xi U (248 + r) 5 = Xi S 985 r ∧ 0 ≤ Xi S 985 r ∧ Xi S 985 r ≤ 6) ∧ (Xi U (248 + r) 6 = Xi S 987 r ∧ 1 ≤ Xi S 987 r ∧ Xi S 987 r ≤ 8) ∧
  (0 ≤ Xi U (248 + r) 7 ∧ 0 ≤ Xi U (248 + r) 4 ∧ Xi U (248 + r) 7 + Xi U (248 + r) 4 + Xi S 985 r + Xi S 987 r ≤ Xi U 246 5) ∧ (0 ≤ Xi S 984 r ∧ Xi S 984 r + Xi S 985 r + Xi S 987 r ≤ Xi S 904 117) ∧ (0 ≤ Xi S 986 r ∧ Xi S 986 r + Xi S 987 r ≤ Xi S 904 125) ∧
  (∀ k : Nat, (k : Int) < Xi S 985 r → TQR U S ((Xi U (248 + r) 7 + Xi U (248 + r) 4).toNat + k) ((Xi S 984 r).toNat + k) 53) ∧
  ∀ k : Nat, (k : Int) < Xi S 987 r → ∃ fm n w h t g m : Int, CLM U ((Xi U (248 + r) 7 + Xi U (248 + r) 4 + Xi S 985 r).toNat + k) fm n w h t g m ∧ PQF U S ((Xi S 986 r).toNat + k) ((Xi S 984 r + Xi S 985 r).toNat + k) fm n w h t g m
def RULS (U S : sS) : Prop := ∀ r : Nat, (r : Int) < Xi U 246 2 → RUQ1 U S r
end
section
/-! rules of the class: rows of rules while phrases are read -/
theorem phc_r {l : List rec} {W : sS} {ru ts : Nat} (hru : ru < 24) : ∀ (n : Nat) (T : sS), n ≤ 8 → PHC l W ru ts n T → (∀ k j : Nat, k < 24 → ¬ (k = ru ∧ j = 6) → Xi T (248 + k) j = Xi W (248 + k) j) ∧ (0 < n → Xi T (248 + ru) 6 = n) := by sorry
/-- what a rule's row holds behind its phrases; the other rules' rows stay -/
theorem rlf_r {U U1 S T : sS} {ts ru N K : Nat} {s hd g : Int} (hru : ru < 24) (hK : 0 < K) (eru : Xi U 246 2 = ru) (h : RULF U U1 S T ts ru N K s hd g) : ∃ A B' : sS, HDK U A B' ru s hd ∧ (∀ j : Nat, j ≠ 5 → j ≠ 6 → Xi U1 (248 + ru) j = Xi A (248 + ru) j) ∧ Xi U1 (248 + ru) 5 = N ∧ Xi U1 (248 + ru) 6 = K ∧ KRU U U1 ru ∧ Xi U1 246 2 = ru + 1 := by sorry
end
section
/-! rules of both: the new rule -/
theorem rul_n {U U1 S T : sS} {ts ru N K : Nat} {s hd g : Int} (hs : s = 3 ∨ s = 4 ∨ s = 5 ∨ s = 6) (t3 : TX3 U) (hru : ru < 24) (hK : 0 < K) (eru : Xi U 246 2 = ru) (b5 : 0 ≤ Xi U 246 5) (s117 : 0 ≤ Xi S 904 117 ∧ Xi S 904 117 ≤ 5000) (s125 : 0 ≤ Xi S 904 125 ∧ Xi S 904 125 ≤ 5000) (s130 : 0 ≤ Xi S 904 130 ∧ Xi S 904 130 ≤ 24) (e70 : Xi S 904 70 = s) (n94 : Xi S 904 94 = N) (n98 : Xi S 904 98 = K) (h : RULF U U1 S T ts ru N K s hd g) : RUQ1 U1 T ru := by sorry
end
section
/-! rules of both: rules told before stay -/
theorem rul_o {U U1 S T : sS} {ts ru r N K : Nat} {s hd g : Int} (t3 : TX3 U) (hru : ru < 24) (hK : 0 < K) (hr : r < ru) (eru : Xi U 246 2 = ru) (b5 : 0 ≤ Xi U 246 5) (s117 : 0 ≤ Xi S 904 117 ∧ Xi S 904 117 ≤ 5000) (s125 : 0 ≤ Xi S 904 125 ∧ Xi S 904 125 ≤ 5000) (s130 : 0 ≤ Xi S 904 130 ∧ Xi S 904 130 ≤ 24) (n94 : Xi S 904 94 = N) (n98 : Xi S 904 98 = K) (h : RULF U U1 S T ts ru N K s hd g) (x : RUQ1 U S r) : RUQ1 U1 T r := by sorry
end
section
/-! rules of both: behind a rule the relation of rules holds, and the book's counts -/
theorem ruls_3 {U U1 S T : sS} {ts ru N K : Nat} {s hd g : Int} (hs : s = 3 ∨ s = 4 ∨ s = 5 ∨ s = 6) (t3 : TX3 U) (bk : BKC U S) (c53 : Xi U 5 3 ≤ 24) (hru : ru < 24) (hK : 0 < K) (eru : Xi U 246 2 = ru) (e70 : Xi S 904 70 = s) (n94 : Xi S 904 94 = N) (n98 : Xi S 904 98 = K) (h : RULF U U1 S T ts ru N K s hd g) (x : RULS U S) : RULS U1 T := by sorry
theorem bkc_3 {U U1 S T : sS} {ts ru N K : Nat} {s hd g : Int} (bk : BKC U S) (c53 : Xi U 5 3 ≤ 24) (hru : ru < 24) (hK : 0 < K) (eru : Xi U 246 2 = ru) (n94 : Xi S 904 94 = N) (n98 : Xi S 904 98 = K) (h : RULF U U1 S T ts ru N K s hd g) : BKC U1 T := by sorry
end
section
/-! behind a rule: definitions and commands stay -/
theorem rlf_k {U U1 S T : sS} {ts ru N K : Nat} {s hd g : Int} (hru : ru < 24) (s117 : 0 ≤ Xi S 904 117) (s125 : 0 ≤ Xi S 904 125) (h : RULF U U1 S T ts ru N K s hd g) : (∀ c j : Nat, (c : Int) < Xi U 246 5 → Xi U1 (276 + c) j = Xi U (276 + c) j) ∧ (∀ i : Nat, (i : Int) < Xi S 904 117 → ∀ k : Nat, 969 ≤ k → k ≤ 975 → Xi T k i = Xi S k i) ∧ KEP [(5, 7), (9, 14), (19, 20), (245, 246), (902, 904), (883, 888)] [(20, 1), (882, 3)] U U1 ∧ KEP [(906, 907), (923, 924), (946, 950)] [(904, 55)] S T := by sorry
theorem dfr_3 {U U1 S T : sS} {ts ru N K : Nat} {s hd g : Int} (t3 : TX3 U) (hru : ru < 24) (bk : BKC U S) (b1 : BKC U1 T) (g5 : Xi U 246 5 ≤ Xi U1 246 5) (g7 : Xi S 904 117 ≤ Xi T 904 117) (h : RULF U U1 S T ts ru N K s hd g) (x : DFR U S) : DFR U1 T := by sorry
theorem rcm_3 {U U1 S T : sS} {ts ru N K : Nat} {s hd g : Int} (hru : ru < 24) (bk : BKC U S) (h : RULF U U1 S T ts ru N K s hd g) (x : RCM U S) : RCM U1 T := by sorry
end
section
/-! rules, definitions, commands: they stay when both worlds grow -/
theorem tqf_w {U U1 S : sS} {q : Nat} {sk fm n w h t g m : Int} (c : ∀ j, j < 9 → Xi U 5 j ≤ Xi U1 5 j) (n9 : ∀ p : Nat, (p : Int) < Xi U 5 5 → Xi U1 9 p = Xi U 9 p) (tx : ∀ j, Xi U1 (txr U1) j = Xi U (txr U) j) (x : TQF U S q sk fm n w h t g m) : TQF U1 S q sk fm n w h t g m := by sorry
theorem tqr_w {U U1 S S1 : sS} {cl q : Nat} {sk : Int} (h : TQR U S cl q sk) (hc : ∀ j, Xi U1 (276 + cl) j = Xi U (276 + cl) j) (hq : ∀ k : Nat, 969 ≤ k → k ≤ 975 → Xi S1 k q = Xi S k q) (s6 : ∀ j, Xi S1 906 j = Xi S 906 j) (c : ∀ j, j < 9 → Xi U 5 j ≤ Xi U1 5 j) (n9 : ∀ p : Nat, (p : Int) < Xi U 5 5 → Xi U1 9 p = Xi U 9 p) (tx : ∀ j, Xi U1 (txr U1) j = Xi U (txr U) j) : TQR U1 S1 cl q sk := by sorry
theorem df1_w {U U1 S S1 : sS} {a : Nat} (h : DF1 U S a) (e12 : Xi U1 12 a = Xi U 12 a) (e13 : Xi U1 13 a = Xi U 13 a) (e23 : Xi S1 923 a = Xi S 923 a) (g5 : Xi U 246 5 ≤ Xi U1 246 5) (g7 : Xi S 904 117 ≤ Xi S1 904 117) (hc : ∀ c j : Nat, (c : Int) < Xi U 246 5 → Xi U1 (276 + c) j = Xi U (276 + c) j) (hq : ∀ i : Nat, (i : Int) < Xi S 904 117 → ∀ k : Nat, 969 ≤ k → k ≤ 975 → Xi S1 k i = Xi S k i) (s6 : ∀ j, Xi S1 906 j = Xi S 906 j) (c : ∀ j, j < 9 → Xi U 5 j ≤ Xi U1 5 j) (n9 : ∀ p : Nat, (p : Int) < Xi U 5 5 → Xi U1 9 p = Xi U 9 p) (tx : ∀ j, Xi U1 (txr U1) j = Xi U (txr U) j) : DF1 U1 S1 a := by sorry
theorem pqf_w {U U1 S : sS} {p q : Nat} {fm n w h t g m : Int} (c : ∀ j, j < 9 → Xi U 5 j ≤ Xi U1 5 j) (n9 : ∀ p : Nat, (p : Int) < Xi U 5 5 → Xi U1 9 p = Xi U 9 p) (n19 : ∀ a : Nat, (a : Int) < Xi U 5 8 → Xi U1 19 a = Xi U 19 a) (tx : ∀ j, Xi U1 (txr U1) j = Xi U (txr U) j) (x : PQF U S p q fm n w h t g m) : PQF U1 S p q fm n w h t g m := by sorry
theorem adh_w {U U1 : sS} {cl : Nat} {x : Int} (hc : ∀ j, Xi U1 (276 + cl) j = Xi U (276 + cl) j) (c : ∀ j, j < 9 → Xi U 5 j ≤ Xi U1 5 j) (n9 : ∀ p : Nat, (p : Int) < Xi U 5 5 → Xi U1 9 p = Xi U 9 p) (h : ADH U U cl x) : ADH U1 U1 cl x := by sorry
theorem ruq_w {U U1 S T : sS} {r : Nat} (R : ∀ j : Nat, Xi U1 (248 + r) j = Xi U (248 + r) j) (cU : ∀ c j : Nat, (c : Int) < Xi U 246 5 → Xi U1 (276 + c) j = Xi U (276 + c) j) (g5 : Xi U 246 5 ≤ Xi U1 246 5) (H : ∀ c : Nat, 978 ≤ c → c ≤ 987 → c ≠ 983 → Xi T c r = Xi S c r) (H3 : ∀ i : Nat, i < 6 → Xi T 983 (6 * r + i) = Xi S 983 (6 * r + i)) (Q : ∀ k j : Nat, 969 ≤ k → k ≤ 975 → (j : Int) < Xi S 904 117 → Xi T k j = Xi S k j) (Pq : ∀ k j : Nat, k = 976 ∨ k = 977 → (j : Int) < Xi S 904 125 → Xi T k j = Xi S k j) (s6 : ∀ j, Xi T 906 j = Xi S 906 j) (g7 : Xi S 904 117 ≤ Xi T 904 117) (g8 : Xi S 904 125 ≤ Xi T 904 125) (c : ∀ j, j < 9 → Xi U 5 j ≤ Xi U1 5 j) (n9 : ∀ p : Nat, (p : Int) < Xi U 5 5 → Xi U1 9 p = Xi U 9 p) (n19 : ∀ a : Nat, (a : Int) < Xi U 5 8 → Xi U1 19 a = Xi U 19 a) (txs : ∀ j, Xi U1 (txr U1) j = Xi U (txr U) j) (x : RUQ1 U S r) : RUQ1 U1 T r := by sorry
/-- counts of the class, by the reference's -/
theorem gr_5 {U U1 S S1 : sS} (h : RCT U S) (h1 : RCT U1 S1) (g : GR S1 S) : ∀ j, j < 9 → Xi U 5 j ≤ Xi U1 5 j := by sorry
theorem gr_9 {U U1 S S1 : sS} (h : RLW U S) (h1 : RLW U1 S1) (g : GR S1 S) (p : Nat) (hp : (p : Int) < Xi U 5 5) : Xi U1 9 p = Xi U 9 p := by sorry
theorem gr_19 {U U1 S S1 : sS} (h : RLW U S) (h1 : RLW U1 S1) (g : GR S1 S) (p : Nat) (hp : (p : Int) < Xi U 5 8) : Xi U1 19 p = Xi U 19 p := by sorry
theorem ruls_w {U U1 S S1 : sS} (h : RLW U S) (h1 : RLW U1 S1) (g : GR S1 S) (bk : BKC U S) (R : ∀ r j : Nat, r < 24 → Xi U1 (248 + r) j = Xi U (248 + r) j) (cU : ∀ c j : Nat, (c : Int) < Xi U 246 5 → Xi U1 (276 + c) j = Xi U (276 + c) j) (g5 : Xi U 246 5 ≤ Xi U1 246 5) (e2 : Xi U1 246 2 = Xi U 246 2) (kS : KEP [(906, 907), (976, 988)] [] S S1) (Q : ∀ k j : Nat, 969 ≤ k → k ≤ 975 → (j : Int) < Xi S 904 117 → Xi S1 k j = Xi S k j) (g7 : Xi S 904 117 ≤ Xi S1 904 117) (g8 : Xi S 904 125 ≤ Xi S1 904 125) (txs : ∀ j, Xi U1 (txr U1) j = Xi U (txr U) j) (ru : RULS U S) : RULS U1 S1 := by sorry
def cGk : List (Nat × Nat) := [(12, 13), (245, 876), (902, 904)]
def cHk : List (Nat × Nat) := [(906, 907), (969, 973), (975, 988)]
def cHf : List (Nat × Nat) := [(904, 117), (904, 125), (904, 130)]
theorem inK_g {c : Nat} (h0 : 245 ≤ c) (h1 : c < 876) : inK cGk c = true := by sorry
/-- sentences that tell no rule and no definition -/
theorem grow_r {U U1 S S1 : sS} (h : RLW U S) (h1 : RLW U1 S1) (t3 : TX3 U) (g : GR S1 S) (kU : KEP cGk [(20, 1)] U U1) (kS : KEP cHk cHf S S1) (q3 : ∀ k j : Nat, k = 973 ∨ k = 974 → (j : Int) < Xi S 904 117 → Xi S1 k j = Xi S k j) (na : ∀ a : Nat, Xi U 5 3 ≤ (a : Int) → (a : Int) < Xi U1 5 3 → Xi U1 11 a ≠ -1) (bk : BKC U S) (df : DFR U S) (ru : RULS U S) : BKC U1 S1 ∧ DFR U1 S1 ∧ RULS U1 S1 := by sorry
theorem grow_c {U U1 S S1 : sS} (h : RLW U S) (h1 : RLW U1 S1) (g : GR S1 S) (kU : KEP [(883, 888)] [(882, 3)] U U1) (kS : KEP [(946, 950)] [(904, 55)] S S1) (kk : ∀ k o : Int, k < Xi U 5 0 → isK U1 k o = isK U k o) (cm : RCM U S) : RCM U1 S1 := by sorry
end
section
/-! where a sentence's parts lie -/
def gOK (x : Int × Int) (b : Int) : Prop := x.1 ≠ 0 ∧ x.2 = b
theorem ok_1 {x : Int × Int} {b : Int} (h : x = (1, b)) : gOK x b := by sorry
theorem ok_sq {x : Int × Int} {f : Int → Int × Int} {b : Int} (h : gOK (gSq x f) b) : ∃ a, gOK x a ∧ gOK (f a) b := by sorry
theorem ok_or {x : Int × Int} {f : Int → Int × Int} {b : Int} (h : gOK (gOr x f) b) : gOK x b ∨ (x.1 = 0 ∧ gOK (f x.2) b) := by sorry
theorem ok_T {T : Int → Int} {k a b : Int} (h : gOK (gT T k a) b) : T a = k ∧ b = a + 1 := by sorry
theorem ok_Tn {T : Int → Int} {k a : Int} (h : (gT T k a).1 = 0) : T a ≠ k ∧ (gT T k a).2 = a := by sorry
theorem ok_Ty {T : Int → Int} {k a : Int} (h : (gT T k a).1 ≠ 0) : T a = k ∧ (gT T k a).2 = a + 1 := by sorry
theorem ok_A {T : Int → Int} {a b : Int} (h : gOK (gA T a) b) : art7 (T a) ∧ b = a + 1 := by sorry
theorem ok_R {T : Int → Int} {a b : Int} (h : gOK (gR T a) b) : T a = 100 ∧ b = re7 T a := by sorry
theorem ok_N {T : Int → Int} {a b : Int} (h : gOK (gN T a) b) : T (bA T a) = 100 ∧ b = re7 T (bA T a) := by sorry
theorem ok_Be {T : Int → Int} {a b : Int} (h : gOK (gBe T a) b) : (T a = 4 ∨ T a = 5) ∧ b = a + 1 := by sorry
theorem ok_How {T : Int → Int} {a b : Int} (h : gOK (gHow T a) b) : (T a = 22 ∨ T a = 23) ∧ b = a + 1 := by sorry
theorem ok_o {T : Int → Int} {b : Int} (h : gOK (chk T) b) (n : T 0 ≠ 102 ∧ T 0 ≠ 33 ∧ T 0 ≠ 35 ∧ T 0 ≠ 38 ∧ T 0 ≠ 40 ∧ T 0 ≠ 39 ∧ T 0 ≠ 41) : gOK (ckO T) b := by sorry
theorem bA_c {T : Int → Int} {a : Int} : (bA T a = a ∧ ¬ art7 (T a)) ∨ (bA T a = a + 1 ∧ art7 (T a)) := by sorry
theorem nf_2 {T : Int → Int} {a b : Int} (h : T a ≠ 100) (e : b = a + 1) : nf7 T a = nf7 T b := by sorry
theorem nf_A {T : Int → Int} {a : Int} (h : T (bA T a) = 100) (hb : bA T a < 5200) : nf7 T a = bA T a := by sorry
theorem nfF_c {T : Int → Int} : ∀ (n : Nat) (a : Int), nfF T n a = -1 ∨ (a ≤ nfF T n a ∧ T (nfF T n a) = 100) := by sorry
theorem nf_c {T : Int → Int} (a : Int) : nf7 T a = -1 ∨ (a ≤ nf7 T a ∧ T (nf7 T a) = 100) := by sorry
/-- the k-th run of the reference is that of the class -/
theorem rnr_7 {U S : sS} {f m k : Nat} {a : Int} (hk : KRS S f m) (hT : tR S f m = ty7 U) (hr : (k : Int) < Xi S 904 69) (e : kr7 (ty7 U) k = a) (h : ty7 U a = 100) : RNR U S f (k : Int) a (re7 (ty7 U) a) := by sorry
/-- the first is, are, has, can or relates -/
theorem tk_to {T : Int → Int} {e : Int} (he : 0 ≤ e ∧ e < 5131) (h : ∀ i : Int, 0 ≤ i → i < e → ¬ (T i = 103 ∨ T i = 107) ∧ ¬ tl7 (T i)) (t : tl7 (T e)) : tk7 T = e := by sorry
theorem tk_N {T : Int → Int} {e : Int} (h : T (bA T 0) = 100) (he : e = re7 T (bA T 0)) (hb : e < 5131) (t : tl7 (T e)) : tk7 T = e := by sorry
theorem inv_1 {T : Int → Int} {x : Int} (c : chk T = (1, x)) (t0 : T 0 = 33) : T 1 = 102 ∧ T 2 = 34 ∧ T 3 = 100 ∧ T (re7 T 3) = 103 ∧ x = re7 T 3 + 1 := by sorry
theorem inv_7 {T : Int → Int} {x : Int} (c : chk T = (1, x)) (t0 : T 0 = 2) (t1 : T 1 = 25) : T 2 = 11 ∧ T 3 = 100 ∧ T (re7 T 3) = 24 ∧ T (re7 T 3 + 1) = 2 ∧ T (re7 T 3 + 2) = 100 ∧ T (re7 T (re7 T 3 + 2)) = 26 ∧ T (re7 T (re7 T 3 + 2) + 1) = 103 ∧ x = re7 T (re7 T 3 + 2) + 2 := by sorry
theorem inv_8 {T : Int → Int} {x : Int} (c : chk T = (1, x)) (t0 : T 0 = 2) (t1 : T 1 = 19) : T 2 = 7 ∧ T (bA T 3) = 100 ∧ (T (re7 T (bA T 3)) = 4 ∨ T (re7 T (bA T 3)) = 5) ∧ T (re7 T (bA T 3) + 1) = 100 ∧ T (re7 T (re7 T (bA T 3) + 1)) = 103 ∧ x = re7 T (re7 T (bA T 3) + 1) + 1 := by sorry
theorem inv_17 {T : Int → Int} {x : Int} (c : chk T = (1, x)) (n0 : T 0 ≠ 102 ∧ T 0 ≠ 33 ∧ T 0 ≠ 35 ∧ T 0 ≠ 38 ∧ T 0 ≠ 40 ∧ T 0 ≠ 39 ∧ T 0 ≠ 41) (n7 : ¬ (T 0 = 2 ∧ T 1 = 25)) (n8 : ¬ (T 0 = 2 ∧ T 1 = 19)) (k : kt7 T = 12) : T (bA T 0) = 100 ∧ T (re7 T (bA T 0)) = 12 ∧ art7 (T (re7 T (bA T 0) + 1)) ∧ T (re7 T (bA T 0) + 2) = 100 ∧ T (re7 T (re7 T (bA T 0) + 2)) = 17 ∧ T (re7 T (re7 T (bA T 0) + 2) + 1) = 100 ∧ T (re7 T (re7 T (re7 T (bA T 0) + 2) + 1)) = 103 ∧ x = re7 T (re7 T (re7 T (bA T 0) + 2) + 1) + 1 := by sorry
theorem inv_18 {T : Int → Int} {x : Int} (c : chk T = (1, x)) (n0 : T 0 ≠ 102 ∧ T 0 ≠ 33 ∧ T 0 ≠ 35 ∧ T 0 ≠ 38 ∧ T 0 ≠ 40 ∧ T 0 ≠ 39 ∧ T 0 ≠ 41) (n7 : ¬ (T 0 = 2 ∧ T 1 = 25)) (n8 : ¬ (T 0 = 2 ∧ T 1 = 19)) (k : kt7 T = 13) : T (bA T 0) = 100 ∧ T (re7 T (bA T 0)) = 13 ∧ T (re7 T (bA T 0) + 1) = 14 ∧ T (re7 T (bA T 0) + 2) = 100 ∧ T (re7 T (re7 T (bA T 0) + 2)) = 15 ∧ T (re7 T (re7 T (bA T 0) + 2) + 1) = 100 ∧ T (re7 T (re7 T (re7 T (bA T 0) + 2) + 1)) = 103 ∧ x = re7 T (re7 T (re7 T (bA T 0) + 2) + 1) + 1 := by sorry
theorem inv_19 {T : Int → Int} {x : Int} (c : chk T = (1, x)) (n0 : T 0 ≠ 102 ∧ T 0 ≠ 33 ∧ T 0 ≠ 35 ∧ T 0 ≠ 38 ∧ T 0 ≠ 40 ∧ T 0 ≠ 39 ∧ T 0 ≠ 41) (n7 : ¬ (T 0 = 2 ∧ T 1 = 25)) (n8 : ¬ (T 0 = 2 ∧ T 1 = 19)) (k : kt7 T = 21) : T (bA T 0) = 100 ∧ T (re7 T (bA T 0)) = 21 ∧ (T (re7 T (bA T 0) + 1) = 22 ∨ T (re7 T (bA T 0) + 1) = 23) ∧ T (re7 T (bA T 0) + 2) = 100 ∧ T (re7 T (re7 T (bA T 0) + 2)) = 11 ∧ (T (re7 T (re7 T (bA T 0) + 2) + 1) = 22 ∨ T (re7 T (re7 T (bA T 0) + 2) + 1) = 23) ∧ T (re7 T (re7 T (bA T 0) + 2) + 2) = 100 ∧ T (re7 T (re7 T (re7 T (bA T 0) + 2) + 2)) = 103 ∧ x = re7 T (re7 T (re7 T (bA T 0) + 2) + 2) + 1 := by sorry
/-- a sentence that both have read -/
def RD7S (U S : sS) (f m : Nat) : Prop := tR S f m = ty7 U ∧ Xi U 876 7 ≤ 5001 ∧ KRS S f m
theorem lt_ty {U : sS} {i : Int} (h7 : Xi U 876 7 ≤ 5001) (h : ty7 U i = 100) : 0 ≤ i ∧ i < 5130 := by sorry
theorem ty_in {U : sS} {i : Int} (h : ty7 U i ≠ 107) : 0 ≤ i ∧ i < Xi U 876 7 := by sorry
theorem po_1 {U S : sS} {f m : Nat} {x : Int} (r : RD7S U S f m) (c : chk (ty7 U) = (1, x)) (t0 : ty7 U 0 = 33) (n : 1 ≤ Xi S 904 69) : RNR U S f 0 3 (re7 (ty7 U) 3) ∧ ty7 U 1 = 102 ∧ 3 < Xi U 876 7 := by sorry
theorem po_7 {U S : sS} {f m : Nat} {x : Int} (r : RD7S U S f m) (c : chk (ty7 U) = (1, x)) (t0 : ty7 U 0 = 2) (t1 : ty7 U 1 = 25) (n : 2 ≤ Xi S 904 69) : RNR U S f 0 3 (re7 (ty7 U) 3) ∧ RNR U S f 1 (re7 (ty7 U) 3 + 2) (re7 (ty7 U) (re7 (ty7 U) 3 + 2)) ∧ re7 (ty7 U) 3 + 2 < Xi U 876 7 := by sorry
theorem po_8 {U S : sS} {f m : Nat} {x : Int} (r : RD7S U S f m) (c : chk (ty7 U) = (1, x)) (t0 : ty7 U 0 = 2) (t1 : ty7 U 1 = 19) (n : 2 ≤ Xi S 904 69) : RNR U S f 0 (bA (ty7 U) 3) (re7 (ty7 U) (bA (ty7 U) 3)) ∧ RNR U S f 1 (re7 (ty7 U) (bA (ty7 U) 3) + 1) (re7 (ty7 U) (re7 (ty7 U) (bA (ty7 U) 3) + 1)) ∧ re7 (ty7 U) (bA (ty7 U) 3) + 1 < Xi U 876 7 := by sorry
/-- 17, 18, 19: three runs, the first at a NAME, the second two tokens behind the teller -/
theorem po_3 {U S : sS} {f m : Nat} {d : Int} (r : RD7S U S f m) (n : 3 ≤ Xi S 904 69) (q1 : ty7 U (bA (ty7 U) 0) = 100) (q2 : tl7 (ty7 U (re7 (ty7 U) (bA (ty7 U) 0)))) (q3 : ty7 U (re7 (ty7 U) (bA (ty7 U) 0) + 1) ≠ 100) (q4 : ty7 U (re7 (ty7 U) (bA (ty7 U) 0) + 2) = 100) (q5 : ∀ i : Int, re7 (ty7 U) (re7 (ty7 U) (bA (ty7 U) 0) + 2) ≤ i → i < d → ty7 U i ≠ 100) (hd : re7 (ty7 U) (re7 (ty7 U) (bA (ty7 U) 0) + 2) ≤ d) (hd2 : d ≤ re7 (ty7 U) (re7 (ty7 U) (bA (ty7 U) 0) + 2) + 2) (q6 : ty7 U d = 100) : tk7 (ty7 U) = re7 (ty7 U) (bA (ty7 U) 0) ∧ RNR U S f 0 (bA (ty7 U) 0) (re7 (ty7 U) (bA (ty7 U) 0)) ∧ RNR U S f 1 (re7 (ty7 U) (bA (ty7 U) 0) + 2) (re7 (ty7 U) (re7 (ty7 U) (bA (ty7 U) 0) + 2)) ∧ RNR U S f 2 d (re7 (ty7 U) d) := by sorry
/-! where a sentence's parts lie: with is or are -/
abbrev fr7 (t : Int) : Prop := t = 100 ∨ art7 t ∨ t = 104 ∨ t = 16
theorem ok_u {x : Int × Int} {a b : Int} (h : gOK x a) (k : gOK x b) : a = b := by sorry
theorem ok_Bt {T : Int → Int} {a b : Int} (h : gOK (gBt T a) b) : a < b ∧ ∀ i, a ≤ i → i < b → T i = 104 ∨ T i = 16 := by sorry
theorem bt_n {T : Int → Int} {a : Int} (h : (gBt T a).1 = 0) : (gBt T a).2 = a := by sorry
theorem na_in {T : Int → Int} {c : Int} (h : T (bA T c) = 100) : c < re7 T (bA T c) ∧ ∀ i, c ≤ i → i < re7 T (bA T c) → T i = 100 ∨ art7 (T i) := by sorry
theorem ok_Ln {T : Int → Int} : ∀ (n : Nat) (a b : Int), gOK (gLn T n a) b → a ≤ b ∧ ∀ i, a ≤ i → i < b → fr7 (T i) := by sorry
theorem ok_Ls {T : Int → Int} {e : Int} (h : gOK (gLs T 0) e) : T (bA T 0) = 100 ∧ 0 < e ∧ ∀ i, 0 ≤ i → i < e → fr7 (T i) := by sorry
/-- what stands behind is or are -/
def ckT (T : Int → Int) (a : Int) : Int × Int :=
  if T a = 0 ∧ T (a + 1) = 18 then gSq (if (gT T 7 (a + 2)).1 = 0 then (1, (gT T 7 (a + 2)).2) else gOr (gT T 20 (gT T 7 (a + 2)).2) (gN T)) (gT T 103)
  else if T a = 1 ∧ T (a + 1) = 27 then gSq (if (gT T 28 (a + 2)).1 = 0 then (1, (gT T 28 (a + 2)).2) else gSq (gSq (gT T 11 (gT T 28 (a + 2)).2) (gT T 22)) (gR T)) (gT T 103)
  else if art7 (T a) then gSq (gSq (gR T (a + 1)) (fun b => if pl7 (T b) then gPl T 0 b else (1, b))) (gT T 103)
  else if pl7 (T a) then gSq (gPl T 0 a) (gT T 103)
  else ckR T (gOr (gT T 6 a) (gT T 32)).1 (gOr (gT T 6 a) (gT T 32)).2
theorem ckB_e {T : Int → Int} (h : ¬ bp7 T 0) : ckB T = gSq (gSq (gLs T 0) (gBe T)) (ckT T) := by sorry
theorem inv_B {T : Int → Int} {x : Int} (c : chk T = (1, x)) (n0 : T 0 ≠ 102 ∧ T 0 ≠ 33 ∧ T 0 ≠ 35 ∧ T 0 ≠ 38 ∧ T 0 ≠ 40 ∧ T 0 ≠ 39 ∧ T 0 ≠ 41) (n7 : ¬ (T 0 = 2 ∧ T 1 = 25)) (n8 : ¬ (T 0 = 2 ∧ T 1 = 19)) (k : kt7 T = 4 ∨ kt7 T = 5) (nb : ¬ bp7 T 0) : ∃ e, gOK (gLs T 0) e ∧ (T e = 4 ∨ T e = 5) ∧ gOK (ckT T (e + 1)) x := by sorry
theorem kr_ahead {T : Int → Int} {b e : Int} (nf : NF7 T b) (hb : b ≤ 5130) (h0 : 0 ≤ e) (h1 : e ≤ 5140) (te : T e ≠ 100) : kr7 T (cR T e.toNat) = nf7 T e := by sorry
theorem kr_lt {T : Int → Int} {L : Nat} (hl : ∀ k : Nat, k < L → T (kr7 T k) = 100) (h1 : T (-1) ≠ 100) (hL : kr7 T L ≠ -1) : ∀ j i : Nat, i < j → j ≤ L → kr7 T i < kr7 T j := by sorry
/-- how many runs stand ahead of e -/
theorem ls_n {T : Int → Int} {L : Nat} {e b : Int} (nf : NF7 T b) (hb : b ≤ 5130) (h0 : 0 ≤ e) (he : e ≤ 5130) (te : T e ≠ 100) (hk : kr7 T L = nf7 T e) (hl : ∀ k : Nat, k < L → T (kr7 T k) = 100) (h1 : T (-1) ≠ 100) : cR T e.toNat = L := by sorry
theorem nf_ty {U : sS} : NF7 (ty7 U) (Xi U 876 7) := by sorry
/-- the runs that are kept, by their number -/
theorem rnv_100 {U S : sS} {f m n : Nat} (r : RD7S U S f m) (rv : RNV S n) (k : Nat) (hk : (k : Int) < Xi S 904 69) : ty7 U (kr7 (ty7 U) k) = 100 := by sorry
/-- what both know of a sentence with is or are that begins no property -/
def BEX (U S : sS) (f m : Nat) (x : Int) : Prop := RD7S U S f m ∧ ((ty7 U (Xi U 890 3) = 4 ∨ ty7 U (Xi U 890 3) = 5) ∧ 0 < Xi U 890 3 ∧ Xi U 890 3 < 5001) ∧ gOK (ckT (ty7 U) (Xi U 890 3 + 1)) x ∧ ty7 U (bA (ty7 U) 0) = 100 ∧ (LRN U S f (Xi S 904 71) (nL U) ∧ (Xi S 904 72).toNat = nL U ∧ 1 ≤ nL U ∧ 1 ≤ Xi S 904 72) ∧ Xi S 904 71 = 0 ∧ RSR S (ty7 U) (Xi U 890 3 + 1) (Xi S 904 72) ∧ (Xi S 904 77 = 1 ↔ ty7 U (Xi U 890 3) = 5) ∧ ((Xi S 904 70 = 15 ∨ Xi S 904 70 = 16) → ty7 U (Xi U 890 3 + 1) = 100 → Xi S 904 75 = 0 ∧ Xi S 904 76 = 0) ∧ kr7 (ty7 U) (nL U) = nf7 (ty7 U) (Xi U 890 3) ∧ Xi U 890 2 = bes (ty7 U) (Xi U 890 3 + 1)
theorem bex_i {U S : sS} {f m n : Nat} {x : Int} (r : RD7S U S f m) (c : chk (ty7 U) = (1, x)) (n0 : ty7 U 0 ≠ 102 ∧ ty7 U 0 ≠ 33 ∧ ty7 U 0 ≠ 35 ∧ ty7 U 0 ≠ 38 ∧ ty7 U 0 ≠ 40 ∧ ty7 U 0 ≠ 39 ∧ ty7 U 0 ≠ 41) (n7 : ¬ (ty7 U 0 = 2 ∧ ty7 U 1 = 25)) (n8 : ¬ (ty7 U 0 = 2 ∧ ty7 U 1 = 19)) (k : kt7 (ty7 U) = 4 ∨ kt7 (ty7 U) = 5) (nb : ¬ bp7 (ty7 U) 0) (tel : Xi U 890 3 = tk7 (ty7 U)) (be : BES U (ty7 U)) (cr : CRS S (ty7 U)) (rv : RNV S n) (l0 : 1 ≤ Xi S 904 72) (l1 : Xi S 904 71 + Xi S 904 72 ≤ Xi S 904 69) : BEX U S f m x := by sorry
/-! where a sentence's parts lie: sorts 9 to 16 -/
theorem rn_L {U S : sS} {f m : Nat} {x p : Int} (b : BEX U S f m x) (hr : Xi S 904 72 < Xi S 904 69) (e : nf7 (ty7 U) (Xi U 890 3) = p) (h : ty7 U p = 100) : RNR U S f (Xi S 904 72) p (re7 (ty7 U) p) := by sorry
theorem rn_L1 {U S : sS} {f m : Nat} {x p p2 : Int} (b : BEX U S f m x) (hr : Xi S 904 72 + 1 < Xi S 904 69) (e : nf7 (ty7 U) (Xi U 890 3) = p) (e2 : nf7 (ty7 U) (re7 (ty7 U) p) = p2) (h : ty7 U p2 = 100) : RNR U S f (Xi S 904 72 + 1) p2 (re7 (ty7 U) p2) := by sorry
theorem ckT_10 {T : Int → Int} {a x : Int} (t : T a = 0 ∧ T (a + 1) = 18) (h : gOK (ckT T a) x) : T (a + 2) ≠ 7 ∨ (T (a + 2) = 7 ∧ (T (a + 3) = 20 ∨ (T (a + 3) ≠ 20 ∧ T (bA T (a + 3)) = 100))) := by sorry
theorem ckT_11 {T : Int → Int} {a x : Int} (t : T a = 1 ∧ T (a + 1) = 27) (h : gOK (ckT T a) x) : T (a + 2) = 28 → T (a + 3) = 11 ∧ T (a + 4) = 22 ∧ T (a + 5) = 100 := by sorry
/-- where the NAME of a PLACE may begin -/
def pb7 (T : Int → Int) (b : Int) : Int := if T b = 8 ∨ T b = 9 then b + 1 else b + 2
theorem ok_Pl {T : Int → Int} {a b : Int} (p : pl7 (T a)) (h : gOK (gPl T 0 a) b) : T (bA T (pb7 T a)) = 100 ∧ (pb7 T a = a + 2 → T (a + 1) ≠ 100) := by sorry
theorem nf_Pl {T : Int → Int} {a : Int} (p : pl7 (T a)) (h : T (bA T (pb7 T a)) = 100) (k : pb7 T a = a + 2 → T (a + 1) ≠ 100) (l : bA T (pb7 T a) < 5200) : nf7 T a = bA T (pb7 T a) := by sorry
theorem ckT_12 {T : Int → Int} {a x : Int} (t0 : ¬ (T a = 0 ∧ T (a + 1) = 18)) (t1 : ¬ (T a = 1 ∧ T (a + 1) = 27)) (t : art7 (T a)) (h : gOK (ckT T a) x) : T (a + 1) = 100 ∧ (pl7 (T (re7 T (a + 1))) → T (bA T (pb7 T (re7 T (a + 1)))) = 100 ∧ (pb7 T (re7 T (a + 1)) = re7 T (a + 1) + 2 → T (re7 T (a + 1) + 1) ≠ 100)) ∧ (¬ pl7 (T (re7 T (a + 1))) → T (re7 T (a + 1)) = 103) := by sorry
theorem ckT_13 {T : Int → Int} {a x : Int} (t : ¬ art7 (T a)) (p : pl7 (T a)) (h : gOK (ckT T a) x) : T (bA T (pb7 T a)) = 100 ∧ (pb7 T a = a + 2 → T (a + 1) ≠ 100) := by sorry
theorem ckT_R {T : Int → Int} {a x : Int} (t : ¬ art7 (T a)) (p : ¬ pl7 (T a)) (h : gOK (ckT T a) x) : (T a = 6 ∨ T a = 32 → T (a + 1) = 100 ∧ T (re7 T (a + 1)) = 103) ∧ (T a ≠ 6 → T a ≠ 32 → T a = 100 ∧ (T (re7 T a) = 7 → T (bA T (re7 T a + 1)) = 100)) := by sorry
theorem bes_v {T : Int → Int} {a : Int} : (T a = 0 ∧ T (a + 1) = 18 → bes T a = 10) ∧ (T a = 1 ∧ T (a + 1) = 27 → bes T a = 11) ∧ (¬ (T a = 0 ∧ T (a + 1) = 18) → ¬ (T a = 1 ∧ T (a + 1) = 27) → art7 (T a) → bes T a = 12) ∧ (¬ art7 (T a) → pl7 (T a) → bes T a = 13) ∧ (T a = 6 ∨ T a = 32 → bes T a = 15) ∧ (T a = 100 → (T (re7 T a) = 7 → bes T a = 14) ∧ (T (re7 T a) = 16 ∨ T (re7 T a) = 104 → bes T a = 16) ∧ (T (re7 T a) ≠ 7 → T (re7 T a) ≠ 16 → T (re7 T a) ≠ 104 → bes T a = 15)) := by sorry
/-- 10 -/
theorem po_10 {U S : sS} {f m n : Nat} {x : Int} (b : BEX U S f m x) (sn : SNQ S n) (t : ty7 U (Xi U 890 3 + 1) = 0 ∧ ty7 U (Xi U 890 3 + 1 + 1) = 18) : Xi U 890 2 = 10 ∧ Xi S 904 70 = 10 ∧ (tyB U = 1 ↔ Xi S 904 78 = -2) ∧ (ofB U = 1 → tyB U = 0 → Xi S 904 78 ≠ -1 ∧ RNR U S f (Xi S 904 78) (r10 U) (re7 (ty7 U) (r10 U))) ∧ (ofB U = 0 → Xi S 904 78 = -1) := by sorry
/-- 11 -/
theorem po_11 {U S : sS} {f m n : Nat} {x : Int} (b : BEX U S f m x) (sn : SNQ S n) (t : ty7 U (Xi U 890 3 + 1) = 1 ∧ ty7 U (Xi U 890 3 + 1 + 1) = 27) : Xi U 890 2 = 11 ∧ Xi S 904 70 = 11 ∧ (ty7 U (Xi U 890 3 + 3) = 28 → Xi S 904 78 ≠ -1 ∧ RNR U S f (Xi S 904 78) (Xi U 890 3 + 6) (re7 (ty7 U) (Xi U 890 3 + 6))) ∧ (ty7 U (Xi U 890 3 + 3) ≠ 28 → Xi S 904 78 = -1) := by sorry
theorem pw_wy {t : Int} (h : pl7 t) : pw7 t = wyC t := by sorry
theorem rPl_e {U : sS} {a : Int} : rPl U a = bA (ty7 U) (pb7 (ty7 U) a) := by sorry
/-- 12 -/
theorem po_12 {U S : sS} {f m n : Nat} {x : Int} (b : BEX U S f m x) (sn : SNQ S n) (t0 : ¬ (ty7 U (Xi U 890 3 + 1) = 0 ∧ ty7 U (Xi U 890 3 + 1 + 1) = 18)) (t1 : ¬ (ty7 U (Xi U 890 3 + 1) = 1 ∧ ty7 U (Xi U 890 3 + 1 + 1) = 27)) (t : art7 (ty7 U (Xi U 890 3 + 1))) : (Xi U 890 2 = 12 ∧ Xi S 904 70 = 12) ∧ (RNR U S f (Xi S 904 78) (Xi U 890 3 + 2) (at12 U) ∧ Xi S 904 78 = Xi S 904 72) ∧ (ty7 U (at12 U) = 103 → Xi S 904 73 = 0) ∧ (ty7 U (at12 U) ≠ 103 → Xi S 904 73 = wyC (ty7 U (at12 U)) ∧ RNR U S f (Xi S 904 74) (rPl U (at12 U)) (re7 (ty7 U) (rPl U (at12 U))) ∧ Xi S 904 74 = Xi S 904 72 + 1) := by sorry
/-- 13 -/
theorem po_13 {U S : sS} {f m n : Nat} {x : Int} (b : BEX U S f m x) (sn : SNQ S n) (t : ¬ art7 (ty7 U (Xi U 890 3 + 1))) (p : pl7 (ty7 U (Xi U 890 3 + 1))) : (Xi U 890 2 = 13 ∧ Xi S 904 70 = 13) ∧ ty7 U (at12 U) ≠ 103 ∧ (Xi S 904 73 = wyC (ty7 U (at12 U)) ∧ RNR U S f (Xi S 904 74) (rPl U (at12 U)) (re7 (ty7 U) (rPl U (at12 U))) ∧ Xi S 904 74 = Xi S 904 72) := by sorry
/-- 14 -/
theorem po_14 {U S : sS} {f m n : Nat} {x : Int} (b : BEX U S f m x) (sn : SNQ S n) (t : ty7 U (Xi U 890 3 + 1) = 100) (w : ty7 U (re7 (ty7 U) (Xi U 890 3 + 1)) = 7) : (Xi U 890 2 = 14 ∧ Xi S 904 70 = 14) ∧ (RNR U S f (Xi S 904 78) (Xi U 890 3 + 1) (o14 U) ∧ Xi S 904 78 = Xi S 904 72) ∧ RNR U S f (Xi S 904 74) (l14 U) (re7 (ty7 U) (l14 U)) ∧ Xi S 904 74 = Xi S 904 72 + 1 := by sorry
/-- 15: not or usually -/
theorem po_15 {U S : sS} {f m n : Nat} {x : Int} (b : BEX U S f m x) (sn : SNQ S n) (t : ty7 U (Xi U 890 3 + 1) = 6 ∨ ty7 U (Xi U 890 3 + 1) = 32) : (Xi U 890 2 = 15 ∧ Xi S 904 70 = 15) ∧ (RNR U S f (Xi S 904 78) (Xi U 890 3 + 2) (re7 (ty7 U) (Xi U 890 3 + 2)) ∧ Xi S 904 78 = Xi S 904 72) ∧ (ty7 U (Xi U 890 3 + 1) = 6 → Xi S 904 75 = 1 ∧ Xi S 904 76 = 0) ∧ (ty7 U (Xi U 890 3 + 1) = 32 → Xi S 904 75 = 0 ∧ Xi S 904 76 = 1) := by sorry
/-- 15, 16: a RUN, or RUNS -/
theorem po_16 {U S : sS} {f m n : Nat} {x : Int} (b : BEX U S f m x) (sn : SNQ S n) (t : ty7 U (Xi U 890 3 + 1) = 100) (w : ty7 U (re7 (ty7 U) (Xi U 890 3 + 1)) ≠ 7) : ((Xi U 890 2 = 15 ∧ Xi S 904 70 = 15 ∧ Xi S 904 75 = 0 ∧ Xi S 904 76 = 0) ∨ (Xi U 890 2 = 16 ∧ Xi S 904 70 = 16)) ∧ RNR U S f (Xi S 904 78) (Xi U 890 3 + 1) (re7 (ty7 U) (Xi U 890 3 + 1)) ∧ Xi S 904 78 = Xi S 904 72 := by sorry
/-- 9 -/
theorem po_9 {U S : sS} {f m n : Nat} {x : Int} (r : RD7S U S f m) (c : chk (ty7 U) = (1, x)) (n7 : ¬ (ty7 U 0 = 2 ∧ ty7 U 1 = 25)) (n8 : ¬ (ty7 U 0 = 2 ∧ ty7 U 1 = 19)) (k : kt7 (ty7 U) = 4 ∨ kt7 (ty7 U) = 5) (nb : bp7 (ty7 U) 0) (tel : Xi U 890 3 = tk7 (ty7 U)) (be : BES U (ty7 U)) (cr : C9S S (ty7 U) f) (sn : SNQ S n) (tok : ∀ i : Int, 0 ≤ i → i < Xi U 876 7 → Xi S 907 (f + i).toNat = tr7 (ty7 U i)) : (Xi U 890 2 = 9 ∧ Xi S 904 70 = 9) ∧ RNR U S f 0 1 (re7 (ty7 U) 1) ∧ RNR U S f 1 (bA (ty7 U) (re7 (ty7 U) 1 + 1)) (re7 (ty7 U) (bA (ty7 U) (re7 (ty7 U) 1 + 1))) ∧ Xi U 890 3 = re7 (ty7 U) (bA (ty7 U) (re7 (ty7 U) 1 + 1)) ∧ Xi U 890 3 + 1 < Xi U 876 7 ∧ (ty7 U (Xi U 890 3 + 1) = 101 ∨ ty7 U (Xi U 890 3 + 1) = 102 ∨ ty7 U (Xi U 890 3 + 1) = 100) ∧ (ty7 U (Xi U 890 3 + 1) = 100 → RNR U S f 2 (Xi U 890 3 + 1) (re7 (ty7 U) (Xi U 890 3 + 1))) ∧ Xi S 904 78 = f + (Xi U 890 3 + 1) := by sorry
/-! where a sentence's parts lie: values, the second NAME, places in their order -/
theorem po_v {U S : sS} {f m n : Nat} {x : Int} (b : BEX U S f m x) (rv : RNV S n) (hd : ty7 U (Xi U 876 7 - 1) = 103) (kc : kr7 (ty7 U) (Xi S 904 69).toNat = nf7 (ty7 U) (Xi U 876 7 - 1)) (e78 : Xi S 904 78 = Xi S 904 72) (l : Xi S 904 78 < Xi S 904 69) : LRNo (n0V U) U S f (Xi S 904 78) (nV5 U) ∧ (Xi S 904 69 - Xi S 904 78).toNat = nV5 U := by sorry
/-- places of runs stand in their order -/
def PRO (S : sS) : Prop := ∀ i j : Int, 0 ≤ i → i < j → j < Xi S 904 69 → pR S i < pR S j
theorem pro_i {U S : sS} {f m n : Nat} (r : RD7S U S f m) (rv : RNV S n) (sr : SRL U S f) (po : ∀ i j : Int, 0 ≤ i → i < j → j < Xi U 876 7 → pc7 U i < pc7 U j) : PRO S := by sorry
theorem po_s {U S : sS} {f m : Nat} {x : Int} (b : BEX U S f m x) (sr : SRL U S f) : RNR U S f (Xi S 904 71) (bA (ty7 U) 0) (re7 (ty7 U) (bA (ty7 U) 0)) ∧ (1 < Xi S 904 72 → sn2 U ≠ -1 ∧ pc7 U (sn2 U) = pR S (Xi S 904 71 + 1)) ∧ (Xi S 904 72 ≤ 1 → sn2 U = -1) := by sorry
end
section
/-! TOKENS of both agree -/
theorem t7_100 {K B : Nat → Int} {e p : Int} (h : t7 K B e p ≤ 100) : q7 B e p ≠ -1 ∧ lt7 (B p.toNat) ≠ 0 := by sorry
theorem t7_101 {K B : Nat → Int} {e p : Int} (h : t7 K B e p = 101) : q7 B e p ≠ -1 ∧ lt7 (B p.toNat) = 0 ∧ 48 ≤ B p.toNat ∧ B p.toNat ≤ 57 := by sorry
theorem t7_102 {K B : Nat → Int} {e p : Int} (h : t7 K B e p = 102) : q7 B e p ≠ -1 ∧ B p.toNat = 34 := by sorry
/-- row r of the class is token f + r of the reference -/
def TKE (T S : sS) (f r : Nat) : Prop := Xi S 908 (f + r) = Xi T 878 r ∧ Xi S 907 (f + r) = tr7 (Xi T 877 r) ∧ (Xi T 877 r ≤ 100 → Xj S 910 (f + r) = cv (Xj T 879 r) ∧ ∃ (B : Nat → Int) (p m : Nat), m ≤ 12 ∧ Xj T 879 r = c27 B p m) ∧ (Xi T 877 r = 101 → Xj S 910 (f + r) = Xj T 879 r) ∧ (Xi T 877 r = 102 → Xi S 909 (f + r) = Xj T 879 r)
theorem tke_of {T S : sS} {ts f r : Nat} {e : Int} (hK : KEYR (Xj T 880) (Xj S 911)) (hB : BE (Xi T ts) (Xi S 906) e) (he : Xi T 876 5 = e) (hr : RW7 T ts r) (hm : RM7 (Xi S 906) (Xj S 911) e S (f + r)) (hp : Xi S 908 (f + r) = Xi T 878 r) : TKE T S f r := by sorry
theorem tr7_2 {t : Int} (h : tr7 t = 2) (h1 : t ≤ 108) (h0 : 0 ≤ t) : t = 108 := by sorry
theorem deF_ge {B : Nat → Int} {e : Int} : ∀ (f : Nat) (p : Int), p ≤ deF B e f p := by sorry
theorem q7_ge {B : Nat → Int} {e p : Int} (h0 : 0 ≤ p) (h : q7 B e p ≠ -1) : 0 ≤ q7 B e p := by sorry
/-- all rows of a sentence that begins at token f -/
theorem tk_all {T S : sS} {ts f n : Nat} {e p m : Int} (hH : HI T) (hK : KEYR (Xj T 880) (Xj S 911)) (hB : BE (Xi T ts) (Xi S 906) e) (he : Xi T 876 5 = e) (hC : CUT (Xi S 906) (Xj S 911) e S n) (hS : SC T ts p m) (hf : f < n) (hp : Xi S 908 f = p) : ∀ r : Nat, (r : Int) < m → f + r < n ∧ TKE T S f r := by sorry
end
end
section
section
def md_mo_askProperty__k : List rec := [(904, 905, 104, 105), (904, 905, 105, 106), (904, 905, 106, 107), (973, 974, 0, 100000), (974, 975, 0, 100000)]
abbrev Q_mo_askProperty__k (S : sS) : pst := fun r S1 => RI S1 ∧ FR md_mo_askProperty__k S S1 ∧ (r = none ∧ (KQ S1 S (Xi S 904 117)))
set_option maxRecDepth 100000 in
theorem t_mo_askProperty__k {S : sS} (hH : RI S) (hLS : LSP S) (h15 : 0 ≤ Xi S 904 15) (hRB : RBD S) (hLX : LXR S) (hB : ABV S) (hko : Hid (∀ j : Nat, -1 ≤ Xi S 918 j ∧ Xi S 918 j ≤ 15)) (hz0 : Xi S 904 106 = 0) (h7 : rnR S 0 7 ≤ 11) (hk0 : rnR S 1 0 ≤ 15) (hp : pR S 0 < pR S 1) (hq : pR S 1 < Xi S 908 (Xi S 904 78).toNat) (hnum : Hid (Xi S 907 (Xi S 904 78).toNat = 4 → 0 ≤ Xj S 910 (Xi S 904 78).toNat ∧ Xj S 910 (Xi S 904 78).toNat ≤ 2147483647)) (hplc : Xi S 908 (Xi S 904 78).toNat ≤ 100000) (d : Nat) : Mp lay0 (d + 6) m_mo_askProperty [.ref 904] S (Q_mo_askProperty__k S) := by sorry
def md_mo_asked__9k : List rec := [(904, 905, 64, 65), (904, 905, 104, 105), (904, 905, 105, 106), (904, 905, 106, 107), (904, 905, 108, 109), (904, 905, 109, 110), (904, 905, 110, 111), (904, 905, 112, 113), (904, 905, 113, 114), (904, 905, 115, 116), (904, 905, 116, 117), (904, 905, 117, 118), (904, 905, 125, 126), (904, 905, 128, 129), (904, 905, 129, 130), (904, 905, 130, 131), (904, 905, 142, 143), (904, 905, 144, 145), (904, 905, 146, 147), (904, 905, 147, 148), (904, 905, 150, 151), (904, 905, 151, 152), (904, 905, 153, 154), (904, 905, 154, 155), (904, 905, 156, 157), (904, 905, 157, 158), (904, 905, 158, 159), (904, 905, 160, 161), (966, 967, 0, 100000), (967, 968, 0, 100000), (968, 969, 0, 100000), (969, 970, 0, 100000), (970, 971, 0, 100000), (971, 972, 0, 100000), (972, 973, 0, 100000), (973, 974, 0, 100000), (974, 975, 0, 100000), (975, 976, 0, 100000), (976, 977, 0, 100000), (977, 978, 0, 100000), (978, 979, 0, 100000), (979, 980, 0, 100000), (980, 981, 0, 100000), (981, 982, 0, 100000), (982, 983, 0, 100000), (983, 984, 0, 100000), (984, 985, 0, 100000), (985, 986, 0, 100000), (986, 987, 0, 100000), (987, 988, 0, 100000), (988, 989, 0, 100000), (989, 990, 0, 100000), (990, 991, 0, 100000), (991, 992, 0, 100000), (992, 993, 0, 100000), (993, 994, 0, 100000), (994, 995, 0, 100000)]
abbrev Q_mo_asked__9k (S : sS) (first : Int) : pst := fun r S1 => RI S1 ∧ FR md_mo_asked__9k S S1 ∧ (r = none ∧ (KQ S1 S (Xi S 904 117)))
set_option maxRecDepth 100000 in
theorem t_mo_asked__9k {S : sS} (hH : RI S) (first : Int) (hfirst : 0 ≤ first ∧ first ≤ 5001) (hLS : LSP S) (h15 : 0 ≤ Xi S 904 15) (hRB : RBD S) (hLX : LXR S) (hB : ABV S) (hko : Hid (∀ j : Nat, -1 ≤ Xi S 918 j ∧ Xi S 918 j ≤ 15)) (h7 : rnR S 0 7 ≤ 11) (hk0 : rnR S 1 0 ≤ 15) (hp : pR S 0 < pR S 1) (hq : pR S 1 < Xi S 908 (Xi S 904 78).toNat) (hnum : Hid (Xi S 907 (Xi S 904 78).toNat = 4 → 0 ≤ Xj S 910 (Xi S 904 78).toNat ∧ Xj S 910 (Xi S 904 78).toNat ≤ 2147483647)) (hplc : Xi S 908 (Xi S 904 78).toNat ≤ 100000) (hs : Xi S 904 70 = 9) (d : Nat) : Mp lay0 (d + 13) m_mo_asked [.ref 904, iv first] S (Q_mo_asked__9k S first) := by sorry
end
section
/-! how many words there may be -/
/-- entries of the vocabulary, sort by sort, in a row -/
def rkS (s : Int) : Nat := if s = 0 then 0 else if s = 11 then 1 else if s = 1 then 2 else if s = 12 then 3 else if s = 2 then 4 else if s = 3 then 5 else if s = 4 then 6 else if s = 5 then 7 else if s = 6 then 8 else if s = 7 then 9 else if s = 13 then 10 else if s = 8 then 11 else 12
def srS (k : Nat) : Int := if k = 0 then 0 else if k = 1 then 11 else if k = 2 then 1 else if k = 3 then 12 else if k = 4 then 2 else if k = 5 then 3 else if k = 6 then 4 else if k = 7 then 5 else if k = 8 then 6 else if k = 9 then 7 else if k = 10 then 13 else if k = 11 then 8 else 14
def cmS (U : sS) : Nat → Int
  | 0 => 0
  | k + 1 => cmS U k + wcU U (srS k)
theorem rk_c {s : Int} (h : 0 ≤ s ∧ s ≤ 14) (h9 : s ≠ 9) (h10 : s ≠ 10) : rkS s ≤ 12 ∧ srS (rkS s) = s := by sorry
theorem wc_0 {U : sS} (c : ∀ j, j < 9 → 0 ≤ Xi U 5 j) (k : Nat) : 0 ≤ wcU U (srS k) := by sorry
theorem cm_le {U : sS} (c : ∀ j, j < 9 → 0 ≤ Xi U 5 j) : ∀ b a : Nat, a ≤ b → cmS U a ≤ cmS U b := by sorry
theorem cm_13 {U : sS} : cmS U 13 = 2 * Xi U 5 0 + 2 * Xi U 5 1 + Xi U 5 2 + Xi U 5 3 + Xi U 5 4 + Xi U 5 5 + Xi U 5 6 + 2 * Xi U 5 7 + Xi U 5 8 + 6 := by sorry
theorem ent_le {U S : sS} (h : RLW U S) : 0 ≤ Xi U 1 3 ∧ Xi U 1 3 ≤ 2 * Xi U 5 0 + 2 * Xi U 5 1 + Xi U 5 2 + Xi U 5 3 + Xi U 5 4 + Xi U 5 5 + Xi U 5 6 + 2 * Xi U 5 7 + Xi U 5 8 + 6 := by sorry
theorem ent_b {U S : sS} (h : RLW U S) : 0 ≤ Xi U 1 3 ∧ Xi U 1 3 ≤ 196 := by sorry
/-- both worlds, and all that was told -/
def RLA (U S : sS) : Prop := RLW U S ∧ TX3 U ∧ RCM U S ∧ BKC U S ∧ DFR U S ∧ RULS U S
def STA (U1 T S1 : sS) : Prop := (Xi U1 876 8 ≠ 0 ∧ (NTB (NT3 T) (Xi U1 876 8) (Xi U1 876 9) ∨ ((NT3 T).1 = 0 ∧ NTB (NT3 S1) (Xi U1 876 8) (Xi U1 876 9)))) ∨ (Xi U1 876 8 = 0 ∧ (NT3 T).1 = 0 ∧ (NT3 S1).1 = 0 ∧ RLA U1 S1)
def cGu : List (Nat × Nat) := [(12, 13), (245, 876), (883, 888), (902, 904)]
def cGv : List (Nat × Nat) := [(20, 1), (882, 3)]
def cHu : List (Nat × Nat) := [(906, 907), (946, 950), (969, 973), (975, 988)]
def cHv : List (Nat × Nat) := [(904, 55), (904, 117), (904, 125), (904, 130)]
theorem sta_g {U U1 S T S1 : sS} {lc la ld : List rec} (a : RLA U S) (st : STP U1 T S1) (Fc : FR lc U U1) (ec : kepC lc cGu cGv = true) (Fa : FR la S T) (ea : kepC la cHu cHv = true) (Fd : (NT3 T).1 = 0 → FR ld T S1) (ed : kepC ld cHu cHv = true) (gd : (NT3 T).1 = 0 → GR S1 S) (q3 : (NT3 T).1 = 0 → ∀ k j : Nat, k = 973 ∨ k = 974 → (j : Int) < Xi S 904 117 → Xi S1 k j = Xi S k j) (kk : Xi U1 876 8 = 0 → ∀ k o : Int, k < Xi U 5 0 → isK U1 k o = isK U k o) (na : Xi U1 876 8 = 0 → (NT3 T).1 = 0 → RLW U1 S1 → ∀ x : Nat, Xi U 5 3 ≤ (x : Int) → (x : Int) < Xi U1 5 3 → Xi U1 11 x ≠ -1) : STA U1 T S1 := by sorry
/-- no new adjectives -/
theorem na_0 {U U1 S S1 : sS} (h : RLW U S) (e : Xi S1 904 23 = Xi S 904 23) (h1 : RLW U1 S1) : ∀ x : Nat, Xi U 5 3 ≤ (x : Int) → (x : Int) < Xi U1 5 3 → Xi U1 11 x ≠ -1 := by sorry
theorem q3_0 {S T S1 : sS} (a : KEP [(973, 975)] [] S T) (b : KEP [(973, 975)] [] T S1) : ∀ k j : Nat, k = 973 ∨ k = 974 → (j : Int) < Xi S 904 117 → Xi S1 k j = Xi S k j := by sorry
theorem gr_k {S T : sS} (k : KEP [(922, 925), (928, 929), (942, 943)] [(904, 16), (904, 18), (904, 19), (904, 23), (904, 30), (904, 32), (904, 41), (904, 47), (904, 49)] S T) : GR T S := by sorry
/-- .. where no adjective, no kind and no test is told -/
theorem sta_0 {U U1 S T S1 : sS} {lc la ld : List rec} (a : RLA U S) (st : STP U1 T S1) (Fc : FR lc U U1) (ec : kepC lc cGu cGv = true) (ec6 : kepC lc [(6, 7)] [] = true) (Fa : FR la S T) (ea : kepC la cHu cHv = true) (ea2 : kepC la [(973, 975), (922, 925), (928, 929), (942, 943)] [(904, 16), (904, 18), (904, 19), (904, 23), (904, 30), (904, 32), (904, 41), (904, 47), (904, 49)] = true) (rd : (NT3 T).1 = 0 → FR ld T S1 ∧ GR S1 T) (ed : kepC ld cHu cHv = true) (ed2 : kepC ld [(973, 975)] [(904, 23)] = true) : STA U1 T S1 := by sorry
end
section
/-! one sentence, sort by sort: the same fault, or both worlds agree, with all that was told -/
/-- a sentence that both have read, about to be told -/
def SNT (U S : sS) (f m n : Nat) (x : Int) : Prop := RLA U S ∧ SCX U S f ∧ RD7S U S f m ∧ chk (ty7 U) = (1, x) ∧ (RNV S n ∧ SNQ S n) ∧ (Xi U 891 9 = 0 ∧ Xi U 876 8 = 0) ∧ (∀ i j : Int, 0 ≤ i → i < j → j < Xi U 876 7 → pc7 U i < pc7 U j)
theorem snt_pro {U S : sS} {f m n : Nat} {x : Int} (s : SNT U S f m n x) : PRO S := by sorry
theorem sa_0 {U U1 S T S1 : sS} {f : Nat} {z : Int} (a : RLA U S) (sc : SCX U S f) (st : RST U S) (tok : TOK U) (hpl : 0 ≤ Xi U 878 0) (r0 : 0 < Xi U 876 7) (ty0 : ty7 U 0 = 102) (e81 : Xi S 904 81 = f) (f0 : Xi U 876 8 = 0) (zf : z = 0 → Xi U1 876 8 ≠ 0) (tc : TDE U U1 z) (Fc : FR md_re_describe__p U U1) (ra : RA0 S T) (Fa : FR md_mo_asked__0f S T) (rd : (NT3 T).1 = 0 → RD0 T S1 f ∧ FR md_mo_does__0f T S1 ∧ GR S1 T) : STA U1 T S1 := by sorry
theorem sa_7 {U U1 S T S1 : sS} {f m n : Nat} {x z : Int} (s : SNT U S f m n x) (t0 : ty7 U 0 = 2) (t1 : ty7 U 1 = 25) (h70 : Xi S 904 70 = 7) (zf : z = 0 → Xi U1 876 8 ≠ 0) (tc : TVB U U1 z (re7 (ty7 U) 3) ((re7 (ty7 U) 3) + 2) (re7 (ty7 U) ((re7 (ty7 U) 3) + 2))) (Fc : FR md_re_tellVerb__p U U1) (rc : RVB S (NT3 T)) (Fa : FR md_mo_asked__7f S T) (rd : (NT3 T).1 = 0 → RD7 T S1 ∧ FR md_mo_does__7f T S1 ∧ GR S1 T) : STA U1 T S1 := by sorry
theorem sa_8 {U U1 S T S1 : sS} {f m n : Nat} {x z : Int} (s : SNT U S f m n x) (t0 : ty7 U 0 = 2) (t1 : ty7 U 1 = 19) (h70 : Xi S 904 70 = 8) (zf : z = 0 → Xi U1 876 8 ≠ 0) (tc : TPL U U1 z (bA (ty7 U) 3) (re7 (ty7 U) (bA (ty7 U) 3)) ((re7 (ty7 U) (bA (ty7 U) 3)) + 1) (re7 (ty7 U) ((re7 (ty7 U) (bA (ty7 U) 3)) + 1))) (Fc : FR md_re_tellPlural__p U U1) (rc : RPL S (NT3 T)) (Fa : FR md_mo_asked__8f S T) (rd : (NT3 T).1 = 0 → RD8 T S1 ∧ FR md_mo_does__8f T S1 ∧ GR S1 T) : STA U1 T S1 := by sorry
/-- of no sort that is told by how it begins -/
def NBG (T : Int → Int) : Prop := (T 0 ≠ 102 ∧ T 0 ≠ 33 ∧ T 0 ≠ 35 ∧ T 0 ≠ 38 ∧ T 0 ≠ 40 ∧ T 0 ≠ 39 ∧ T 0 ≠ 41) ∧ ¬ (T 0 = 2 ∧ T 1 = 25) ∧ ¬ (T 0 = 2 ∧ T 1 = 19)
/-- 17, 18, 19: the runs -/
theorem po_17 {U S : sS} {f m n : Nat} {x : Int} (s : SNT U S f m n x) (g : NBG (ty7 U)) (k : kt7 (ty7 U) = 12) (h70 : Xi S 904 70 = 17) (tel : Xi U 890 3 = tk7 (ty7 U)) : RNR U S f 0 (bA (ty7 U) 0) (re7 (ty7 U) (bA (ty7 U) 0)) ∧ RNR U S f 1 (Xi U 890 3 + 2) (re7 (ty7 U) (Xi U 890 3 + 2)) ∧ RNR U S f 2 (re7 (ty7 U) (Xi U 890 3 + 2) + 1) (re7 (ty7 U) (re7 (ty7 U) (Xi U 890 3 + 2) + 1)) := by sorry
theorem po_18 {U S : sS} {f m n : Nat} {x : Int} (s : SNT U S f m n x) (g : NBG (ty7 U)) (k : kt7 (ty7 U) = 13) (h70 : Xi S 904 70 = 18) (tel : Xi U 890 3 = tk7 (ty7 U)) : RNR U S f 0 (bA (ty7 U) 0) (re7 (ty7 U) (bA (ty7 U) 0)) ∧ RNR U S f 1 (Xi U 890 3 + 2) (re7 (ty7 U) (Xi U 890 3 + 2)) ∧ RNR U S f 2 (re7 (ty7 U) (Xi U 890 3 + 2) + 1) (re7 (ty7 U) (re7 (ty7 U) (Xi U 890 3 + 2) + 1)) := by sorry
theorem po_19 {U S : sS} {f m n : Nat} {x : Int} (s : SNT U S f m n x) (g : NBG (ty7 U)) (k : kt7 (ty7 U) = 21) (h70 : Xi S 904 70 = 19) (tel : Xi U 890 3 = tk7 (ty7 U)) (on : ONR S (ty7 U)) : RNR U S f 0 (bA (ty7 U) 0) (re7 (ty7 U) (bA (ty7 U) 0)) ∧ RNR U S f 1 (Xi U 890 3 + 2) (re7 (ty7 U) (Xi U 890 3 + 2)) ∧ RNR U S f 2 (re7 (ty7 U) (Xi U 890 3 + 2) + 2) (re7 (ty7 U) (re7 (ty7 U) (Xi U 890 3 + 2) + 2)) ∧ (ty7 U (Xi U 890 3 + 2 - 1) = 22 ↔ Xi S 904 79 ≠ 0) ∧ (ty7 U (re7 (ty7 U) (Xi U 890 3 + 2) + 2 - 1) = 22 ↔ Xi S 904 80 ≠ 0) := by sorry
theorem sa_17 {U U1 S T S1 : sS} {f m n : Nat} {x z : Int} (s : SNT U S f m n x) (g : NBG (ty7 U)) (k : kt7 (ty7 U) = 12) (h70 : Xi S 904 70 = 17) (tel : Xi U 890 3 = tk7 (ty7 U)) (zf : z = 0 → Xi U1 876 8 ≠ 0) (tc : THAS U U1 z (bA (ty7 U) 0) (re7 (ty7 U) (bA (ty7 U) 0)) (Xi U 890 3 + 2) (re7 (ty7 U) (Xi U 890 3 + 2)) ((re7 (ty7 U) (Xi U 890 3 + 2)) + 1) (re7 (ty7 U) ((re7 (ty7 U) (Xi U 890 3 + 2)) + 1))) (Fc : FR md_re_tellHas__p U U1) (rc : RHAS S (NT3 T)) (Fa : FR md_mo_asked__17f S T) (rd : (NT3 T).1 = 0 → RD17 T S1 ∧ FR md_mo_does__17f T S1 ∧ GR S1 T) : STA U1 T S1 := by sorry
theorem sa_18 {U U1 S T S1 : sS} {f m n : Nat} {x z : Int} (s : SNT U S f m n x) (g : NBG (ty7 U)) (k : kt7 (ty7 U) = 13) (h70 : Xi S 904 70 = 18) (tel : Xi U 890 3 = tk7 (ty7 U)) (zf : z = 0 → Xi U1 876 8 ≠ 0) (tc : TCAN U U1 z (bA (ty7 U) 0) (re7 (ty7 U) (bA (ty7 U) 0)) (Xi U 890 3 + 2) (re7 (ty7 U) (Xi U 890 3 + 2)) (re7 (ty7 U) ((re7 (ty7 U) (Xi U 890 3 + 2)) + 1))) (Fc : FR md_re_tellCan__p U U1) (rc : RCAN S (NT3 T)) (Fa : FR md_mo_asked__18f S T) (rd : (NT3 T).1 = 0 → RD18 T S1 ∧ FR md_mo_does__18f T S1 ∧ GR S1 T) : STA U1 T S1 := by sorry
theorem sa_19 {U U1 S T S1 : sS} {f m n : Nat} {x z : Int} (s : SNT U S f m n x) (g : NBG (ty7 U)) (k : kt7 (ty7 U) = 21) (h70 : Xi S 904 70 = 19) (tel : Xi U 890 3 = tk7 (ty7 U)) (on : ONR S (ty7 U)) (zf : z = 0 → Xi U1 876 8 ≠ 0) (tc : TREL U U1 z (bA (ty7 U) 0) (re7 (ty7 U) (bA (ty7 U) 0)) (Xi U 890 3 + 2) (re7 (ty7 U) (Xi U 890 3 + 2)) ((re7 (ty7 U) (Xi U 890 3 + 2)) + 2) (re7 (ty7 U) ((re7 (ty7 U) (Xi U 890 3 + 2)) + 2)) (ty7 U ((Xi U 890 3 + 2) - 1)) (ty7 U (((re7 (ty7 U) (Xi U 890 3 + 2)) + 2) - 1))) (Fc : FR md_re_tellRelation__p U U1) (rc : RREL S (NT3 T)) (Fa : FR md_mo_asked__19f S T) (rd : (NT3 T).1 = 0 → RD19 T S1 ∧ FR md_mo_does__19f T S1 ∧ GR S1 T) : STA U1 T S1 := by sorry
theorem sa_20 {U U1 S T S1 : sS} {f : Nat} {z : Int} (a : RLA U S) (sc : SCX U S f) (f0 : Xi U 876 8 = 0) (tb : ∀ i : Int, 0 ≤ ty7 U i ∧ ty7 U i ≤ 108) (h7 : 1 ≤ Xi U 876 7) (hd : ty7 U (Xi U 876 7 - 1) = 103) (zf : z = 0 → Xi U1 876 8 ≠ 0) (tc : TLQ U U1 z) (Fc : FR md_re_tellLoose__p U U1) (rc : ∃ P : sS, FR lA S P ∧ (Xi P 904 106 = 0 ∧ Xi P 904 108 = 0) ∧ RSY P T f (f + (Xi U 876 7 - 1))) (Fa : FR md_mo_asked__20f S T) (rd : (NT3 T).1 = 0 → DSY T S1 f ∧ FR md_mo_does__20f T S1 ∧ GR S1 T) : STA U1 T S1 := by sorry
/-! one sentence, sort by sort: 9 to 16 -/
theorem sa_9 {U U1 S T S1 : sS} {f m n : Nat} {x z : Int} (s : SNT U S f m n x) (g : NBG (ty7 U)) (k : kt7 (ty7 U) = 4 ∨ kt7 (ty7 U) = 5) (nb : bp7 (ty7 U) 0) (tel : Xi U 890 3 = tk7 (ty7 U)) (be : BES U (ty7 U)) (cr : C9S S (ty7 U) f) (st : RST U S) (tok : TOK U) (hpl : ∀ j : Nat, 0 ≤ Xi U 878 j) (tb : ∀ i : Int, 0 ≤ ty7 U i ∧ ty7 U i ≤ 108) (zf : z = 0 → Xi U1 876 8 ≠ 0) (tc : TPY md_me_readWhat__p U U1 z (re7 (ty7 U) 1) (bA (ty7 U) (re7 (ty7 U) 1 + 1)) (re7 (ty7 U) (bA (ty7 U) (re7 (ty7 U) 1 + 1))) (Xi U 890 3 + 1)) (Fc : FR md_re_tellProperty__p U U1) (rc : RPY S T) (Fa : FR md_mo_asked__9f S T) (kq : KQ T S (Xi S 904 117)) (rd : (NT3 T).1 = 0 → RD9 T S1 ∧ FR md_mo_does__9f T S1 ∧ GR S1 T) : STA U1 T S1 := by sorry
/-- kinds told before stay where they are -/
theorem isk_g {U U1 S : sS} {o : Int} (h : KND U S) (e : ∀ k : Nat, (k : Int) < Xi U 5 0 → Xi U1 6 k = Xi U 6 k) : ∀ (n : Nat) (k : Int), k < Xi U 5 0 → isKn U1 o n k = isKn U o n k := by sorry
theorem sa_10 {U U1 S T S1 : sS} {f m n : Nat} {x z : Int} (s : SNT U S f m n x) (b : BEX U S f m x) (t : ty7 U (Xi U 890 3 + 1) = 0 ∧ ty7 U (Xi U 890 3 + 1 + 1) = 18) (hz : z = 0 ∨ z = 1) (zf : z = 0 → Xi U1 876 8 ≠ 0) (tc : TKN U U1 z) (Fc : FR md_re_tellKinds__p U U1) (rc : RKD S (Xi S 904 71) (cK S) (mK S) (Xi S 904 72).toNat (wK S) (NT3 T)) (Fa : FR md_mo_asked__10f S T) (rd : (NT3 T).1 = 0 → RD10 T S1 ∧ FR md_mo_does__10f T S1 ∧ GR S1 T) : STA U1 T S1 := by sorry
theorem sa_11 {U U1 S T S1 : sS} {f m n : Nat} {x z : Int} (s : SNT U S f m n x) (b : BEX U S f m x) (t : ty7 U (Xi U 890 3 + 1) = 1 ∧ ty7 U (Xi U 890 3 + 1 + 1) = 27) (zf : z = 0 → Xi U1 876 8 ≠ 0) (tc : TACT U U1 z) (Fc : FR md_re_tellActions__p U U1) (rc : RKD S (Xi S 904 71) (cK S) (mK S) (Xi S 904 72).toNat (wK S) (NT3 T)) (Fa : FR md_mo_asked__11f S T) (rd : (NT3 T).1 = 0 → RD11 T S1 ∧ FR md_mo_does__11f T S1 ∧ GR S1 T) : STA U1 T S1 := by sorry
theorem sa_12 {U U1 S T S1 : sS} {f m n : Nat} {x z : Int} (s : SNT U S f m n x) (b : BEX U S f m x) (t0 : ¬ (ty7 U (Xi U 890 3 + 1) = 0 ∧ ty7 U (Xi U 890 3 + 1 + 1) = 18)) (t1 : ¬ (ty7 U (Xi U 890 3 + 1) = 1 ∧ ty7 U (Xi U 890 3 + 1 + 1) = 27)) (t : art7 (ty7 U (Xi U 890 3 + 1))) (hz : z = 0 ∨ z = 1) (zf : z = 0 → Xi U1 876 8 ≠ 0) (tc : TOJ U U1 z) (Fc : FR md_re_tellObjects__p U U1) (rc : RO12 S T 1) (Fa : FR md_mo_asked__12f S T) (rd : (NT3 T).1 = 0 → RDB T S1 ∧ FR md_mo_does__12f T S1 ∧ GR S1 T) : STA U1 T S1 := by sorry
theorem sa_13 {U U1 S T S1 : sS} {f m n : Nat} {x z : Int} (s : SNT U S f m n x) (b : BEX U S f m x) (t : ¬ art7 (ty7 U (Xi U 890 3 + 1))) (p : pl7 (ty7 U (Xi U 890 3 + 1))) (hz : z = 0 ∨ z = 1) (zf : z = 0 → Xi U1 876 8 ≠ 0) (tc : TOJ U U1 z) (Fc : FR md_re_tellObjects__p U U1) (rc : RO12 S T 0) (Fa : FR md_mo_asked__13f S T) (rd : (NT3 T).1 = 0 → RDB T S1 ∧ FR md_mo_does__13f T S1 ∧ GR S1 T) : STA U1 T S1 := by sorry
theorem sa_14 {U U1 S T S1 : sS} {f m n : Nat} {x z : Int} (s : SNT U S f m n x) (b : BEX U S f m x) (t : ty7 U (Xi U 890 3 + 1) = 100) (w : ty7 U (re7 (ty7 U) (Xi U 890 3 + 1)) = 7) (zf : z = 0 → Xi U1 876 8 ≠ 0) (tc : TW14 U U1 z) (Fc : FR md_re_tellWay__p U U1) (rc : RW14 S (NT3 T)) (Fa : FR md_mo_asked__14f S T) (rd : (NT3 T).1 = 0 → RD14 T S1 ∧ FR md_mo_does__14f T S1 ∧ GR S1 T) : STA U1 T S1 := by sorry
theorem sa_15u {U U1 S T S1 : sS} {f m n : Nat} {x z : Int} (s : SNT U S f m n x) (b : BEX U S f m x) (t : ty7 U (Xi U 890 3 + 1) = 32) (zf : z = 0 → Xi U1 876 8 ≠ 0) (tc : TUS md_me_readAdjective__p U U1 z (bA (ty7 U) 0) (re7 (ty7 U) (bA (ty7 U) 0)) (Xi U 890 3 + 2) (re7 (ty7 U) (Xi U 890 3 + 2))) (Fc : FR md_re_tellUsually__p U U1) (rc : ∃ P : sS, FR lA S P ∧ (Xi P 904 106 = 0 ∧ Xi P 904 108 = 0) ∧ RAU P T) (Fa : FR md_mo_asked__15a S T) (Fa2 : FR md_mo_asked__15af S T) (rd : (NT3 T).1 = 0 → RUS T S1 ∧ FR md_mo_does__15a T S1 ∧ FR md_mo_does__15af T S1 ∧ GR S1 T) : STA U1 T S1 := by sorry
theorem sa_15v {U U1 S T S1 : sS} {f m n : Nat} {x z : Int} {g la : List rec} (s : SNT U S f m n x) (b : BEX U S f m x) (hd : ty7 U (Xi U 876 7 - 1) = 103) (kc : kr7 (ty7 U) (Xi S 904 69).toNat = nf7 (ty7 U) (Xi U 876 7 - 1)) (t : ty7 U (Xi U 890 3 + 1) = 100) (w : ty7 U (re7 (ty7 U) (Xi U 890 3 + 1)) ≠ 7) (zf : z = 0 → Xi U1 876 8 ≠ 0) (tc : TVL U U1 z) (Fc : FR md_re_tellValues__p U U1) (rc : ∃ P : sS, FR lA S P ∧ (Xi P 904 106 = 0 ∧ Xi P 904 108 = 0) ∧ RAW g P T) (eg : kepC g cSk cSf = true) (eg2 : kepC g [(907, 911), (950, 952)] [(904, 30), (904, 69), (904, 71), (904, 72), (904, 78)] = true) (Fa : FR la S T) (ea : kepC la cSk cSf = true) (ea2 : kepC la [(907, 911), (950, 952)] [(904, 30), (904, 69), (904, 71), (904, 72), (904, 78)] = true) (ea3 : kepC la cHu cHv = true) (ea4 : kepC la [(973, 975), (922, 925), (928, 929), (942, 943)] [(904, 16), (904, 18), (904, 19), (904, 23), (904, 30), (904, 32), (904, 41), (904, 47), (904, 49)] = true) (rd : (NT3 T).1 = 0 → RD16 T S1 ∧ FR md_mo_does__15bf T S1 ∧ GR S1 T) : STA U1 T S1 := by sorry
theorem sa_15p {U U1 S T S1 : sS} {f m n : Nat} {x z : Int} {ld : List rec} (s : SNT U S f m n x) (b : BEX U S f m x) (h70 : Xi S 904 70 = 15) (h77 : Xi S 904 77 = 0 ∨ Xi S 904 77 = 1) (t : ty7 U (Xi U 890 3 + 1) = 6 ∨ (ty7 U (Xi U 890 3 + 1) = 100 ∧ ty7 U (re7 (ty7 U) (Xi U 890 3 + 1)) ≠ 7)) (w11 : Xi U 891 11 = 0) (hz : z = 0 ∨ z = 1) (zf : z = 0 → Xi U1 876 8 ≠ 0) (tc : TPN md_me_countReadings__p md_me_readAdjective__p U U1 z) (Fc : FR md_re_tellPlain__p U U1) (rc : ∃ P : sS, FR lA S P ∧ (Xi P 904 106 = 0 ∧ Xi P 904 108 = 0) ∧ RAX P T) (Fa : FR md_mo_asked__15cf S T) (rd : (NT3 T).1 = 0 → (Xi T 904 142 = 3 → RDB (uI T 904 73 (Int32.ofInt 0)) S1) ∧ (Xi T 904 142 = 4 → RVB4 T S1) ∧ FR ld T S1 ∧ GR S1 T) (ed : kepC ld cHu cHv = true) (ed2 : kepC ld [(973, 975)] [(904, 23)] = true) : STA U1 T S1 := by sorry
end
section
/-! one sentence: commands, definitions, rules -/
theorem sa_1 {U U1 S T S1 : sS} {f m n ts : Nat} {x z : Int} (s : SNT U S f m n x) (t0 : ty7 U 0 = 33) (h70 : Xi S 904 70 = 1) (kr : KEYR (Xj U 880) (Xj S 911)) (be : BE (Xi U ts) (Xi S 906) (pc7 U 1 + 1 + Xj U 879 1)) (hp : 0 ≤ pc7 U 1 ∧ 0 ≤ Xj U 879 1 ∧ pc7 U 1 + 1 + Xj U 879 1 < 5000) (e81 : Xi S 904 81 = f + 1) (zf : z = 0 → Xi U1 876 8 ≠ 0) (tc : TUN md_co_takeText__p md_co_suits__p U U1 ts z (fnd U 8 3 (re7 (ty7 U) 3)) (pc7 U 1 + 1) (pc7 U 1 + 1 + Xj U 879 1)) (kc : KOC U U1) (Fc : FR md_re_understand__p U U1) (rc : ∃ P : sS, FR lA S P ∧ (Xi P 904 106 = 0 ∧ Xi P 904 108 = 0) ∧ RCO P T) (Fa : FR md_mo_asked__1f S T) (rd : (NT3 T).1 = 0 → RDCM T S1 ∧ FR md_mo_does__1f T S1 ∧ GR S1 T) : STA U1 T S1 := by sorry
theorem tr_3 {t : Int} (h : 0 ≤ t ∧ t ≤ 108) : tr7 t = 3 ↔ t = 100 := by sorry
/-- a RUN of the reference's tokens is one of the class's rows -/
theorem rq_re {U S : sS} {f : Nat} {p q : Int} (sc : SCX U S f) (tb : ∀ i : Int, 0 ≤ ty7 U i ∧ ty7 U i ≤ 108) (h : RQ (tkR S) p q) (hp : (f : Int) ≤ p) (hq : q < f + Xi U 876 7) : re7 (ty7 U) (p - f) = q - f ∧ ∀ i : Int, p - f ≤ i → i < q - f → ty7 U i = 100 := by sorry
theorem rr_rn2 {U S : sS} {f : Nat} {r p q : Int} (sc : SCX U S f) (tb : ∀ i : Int, 0 ≤ ty7 U i ∧ ty7 U i ≤ 108) (h : RQ (tkR S) p q) (hp : (f : Int) ≤ p) (hq : q < f + Xi U 876 7) (rr : RR S r p q) : RNR U S f r (p - f) (q - f) := by sorry
theorem po_2 {U S : sS} {f : Nat} (sc : SCX U S f) (tb : ∀ i : Int, 0 ≤ ty7 U i ∧ ty7 U i ≤ 108) (de : DFE (tkR S) S 0 0 f (f + (Xi U 876 7 - 1))) : ∃ N : Nat, RNR U S f 0 3 (re7 (ty7 U) 3) ∧ RNR U S f 1 (re7 (ty7 U) 3 + 1) (re7 (ty7 U) (re7 (ty7 U) 3 + 1)) ∧ TSQ (tkR S) S 0 (f + (re7 (ty7 U) (re7 (ty7 U) 3 + 1) + 1)) N (f + (Xi U 876 7 - 1)) ∧ 0 < N ∧ Xi S 904 94 = N ∧ ty7 U 2 ≠ 100 ∧ re7 (ty7 U) (re7 (ty7 U) 3 + 1) < Xi U 876 7 - 1 := by sorry
theorem sa_2 {U A B U1 S T S1 : sS} {f : Nat} {x y z : Int} (a : RLA U S) (w : ENW U S f) (de : DFE (tkR S) S 0 0 f (f + (Xi U 876 7 - 1))) (dot : ty7 U (Xi U 876 7 - 1) = 103) (hn : Xi U 891 9 = 0) (hx : x = 0 ∨ x = 1) (c1 : SDF U A x (fnd U 0 3 (re7 (ty7 U) 3)) (re7 (ty7 U) 3 + 1) (re7 (ty7 U) (re7 (ty7 U) 3 + 1))) (F1 : FR md_re_startDefinition__p U A) (c0 : x = 0 → z = 0 ∧ U1 = A) (c2 : x = 1 → TSS A B (Xi A 893 0 + 1) y ∧ FR md_rr_tests__p A B ∧ (y = 0 ∨ y = 1)) (c3 : x = 1 → y = 0 → z = 0 ∧ U1 = B) (c4 : x = 1 → y = 1 → EDF md_vo_tellNew__p B U1 z ∧ FR md_re_endDefinition__p B U1) (zf : z = 0 → Xi U1 876 8 ≠ 0) (rc : ∃ P : sS, FR lA S P ∧ (Xi P 904 106 = 0 ∧ Xi P 904 108 = 0 ∧ Xi P 904 116 = -1) ∧ RA2 md_mo_kindOfRun__p md_mo_mustBeNew__p md_mo_need__p md_mo_testMeant__p P T) (Fa : FR md_mo_asked__2f S T) (rd : (NT3 T).1 = 0 → RD2 md_mo_addAdjective__p T S1 ∧ FR md_mo_does__2f T S1 ∧ GR S1 T) : STA U1 T S1 := by sorry
theorem grw_3 {U U1 S T : sS} {ts ru N K : Nat} {s hd g : Int} (bk : BKC U S) (c53 : Xi U 5 3 ≤ 24) (hru : ru < 24) (hK : 0 < K) (eru : Xi U 246 2 = ru) (n94 : Xi S 904 94 = N) (n98 : Xi S 904 98 = K) (h : RULF U U1 S T ts ru N K s hd g) : Xi U 246 5 ≤ Xi U1 246 5 ∧ Xi S 904 117 ≤ Xi T 904 117 := by sorry
theorem sa_3 {U A B U1 S T S1 : sS} {f ts ru : Nat} {s x y z : Int} (a : RLA U S) (w : ENW U S f) (hs : s = 3 ∨ s = 4 ∨ s = 5 ∨ s = 6) (e70 : Xi S 904 70 = s) (rue : RUE (tkR S) S 0 0 0 s f (f + (Xi U 876 7 - 1)))
    (ky : KEYR (Xj U 880) (Xj S 911)) (hts : ts = txr U) (tx : TXL U) (nv : NVL U) (e6 : Xi U 876 6 = Xi U 876 7) (dot : ty7 U (Xi U 876 7 - 1) = 103) (eru : (ru : Int) = Xi U 246 2)
    (hx : x = 0 ∨ x = 1) (c1 : RHO md_rr_ruleHead__p U A s x) (F1 : FR md_rr_ruleHead__p U A) (c0 : x = 0 → z = 0 ∧ U1 = A) (c2 : x = 1 → TSS A B (if ty7 A (Xi A 899 5) = 37 then Xi A 899 5 + 1 else -1) y ∧ HTE A B (if ty7 A (Xi A 899 5) = 37 then Xi A 899 5 + 1 else -1) y ∧ FR md_rr_tests__p A B ∧ (y = 0 ∨ y = 1)) (c3 : x = 1 → y = 0 → z = 0 ∧ U1 = B) (c4 : x = 1 → y = 1 → RPO md_rr_rulePhrases__p B U1 ru ts z ∧ FR md_rr_rulePhrases__p B U1 ∧ (z = 0 ∨ z = 1)) (zf : z = 0 → Xi U1 876 8 ≠ 0)
    (rc : ∃ P : sS, FR lA S P ∧ (Xi P 904 106 = 0 ∧ Xi P 904 108 = 0 ∧ Xi P 904 115 = -1 ∧ Xi P 904 116 = -1) ∧ RML P T f) (rd : (NT3 T).1 = 0 → S1 = T) : STA U1 T S1 := by sorry
end
end
section
section
abbrev Q_re_tellsUsually__p (S : sS) : pst := fun r S1 => S = S1 ∧ (∃ z : Int, r = some (iv z) ∧ (0 ≤ z ∧ z ≤ 1) ∧ (z = 1 ↔ ty7 S (Xi S 890 3 + 1) = 32))
set_option maxRecDepth 100000 in
theorem t_re_tellsUsually__p {S : sS} (hH : RI S) (ht : 0 ≤ Xi S 890 3 ∧ Xi S 890 3 ≤ 5125) (d : Nat) : Mp lay0 (d + 2) m_re_tellsUsually [.ref 891] S (Q_re_tellsUsually__p S) := by sorry
abbrev Q_re_tellsValues__p (S : sS) : pst := fun r S1 => S = S1 ∧ (∃ z : Int, r = some (iv z) ∧ (0 ≤ z ∧ z ≤ 1) ∧ (z = 1 ↔ (ty7 S (Xi S 890 3 + 1) ≠ 6 ∧ sn2 S = -1 ∧ tv5 S (bA (ty7 S) 0) (re7 (ty7 S) (bA (ty7 S) 0)) ≠ -1)))
set_option maxRecDepth 100000 in
theorem t_re_tellsValues__p {S : sS} (hH : RI S) (h13 : 0 ≤ Xi S 1 3 ∧ Xi S 1 3 ≤ 200) (hCE : CEN S) (hr : Xi S 876 7 ≤ 5130) (ht : 0 ≤ Xi S 890 3 ∧ Xi S 890 3 ≤ 5125) (hfn : FN1 S) (d : Nat) : Mp lay0 (d + 4) m_re_tellsValues [.ref 891] S (Q_re_tellsValues__p S) := by sorry
/-! the class: a sentence of 9 to 20 is told -/
def P_re_tellProperty (S : sS) : Prop := (0 ≤ Xi S 1 3 ∧ Xi S 1 3 ≤ 200) ∧ (CEN S) ∧ (TOK S) ∧ (SRX S) ∧ (Hid (NVL S)) ∧ (Xi S 876 7 ≤ 5130) ∧ (0 ≤ Xi S 890 3 ∧ Xi S 890 3 ≤ 5125) ∧ (Xi S 876 8 = 0) ∧ (TX S) ∧ (Hid (∀ j : Nat, 0 ≤ Xi S 878 j)) ∧ (Xi S 876 5 ≤ 5000) ∧ (Hid (MK15 S))
def P_re_tellKinds (S : sS) : Prop := (0 ≤ Xi S 1 3 ∧ Xi S 1 3 ≤ 200) ∧ (CEN S) ∧ (NRB S) ∧ (Xi S 876 8 = 0) ∧ (Xi S 876 7 ≤ 5130) ∧ (0 ≤ Xi S 890 3 ∧ Xi S 890 3 ≤ 5125) ∧ (Xi S 891 9 = 0) ∧ (Xi S 1 3 < 199) ∧ (0 ≤ c10 S ∧ c10 S ≤ 16 - 8 * tyB S) ∧ (WRB S) ∧ (Hid (LOK S (c10 S) (16 - 8 * tyB S)  (nL S) → Xi S 1 3 + 2 * nL S ≤ 199))
def P_re_tellActions (S : sS) : Prop := (0 ≤ Xi S 1 3 ∧ Xi S 1 3 ≤ 200) ∧ (CEN S) ∧ (NRB S) ∧ (Xi S 876 8 = 0) ∧ (Xi S 876 7 ≤ 5130) ∧ (0 ≤ Xi S 890 3 ∧ Xi S 890 3 ≤ 5125) ∧ (Xi S 891 9 = 0) ∧ (Xi S 1 3 < 199) ∧ (0 ≤ Xi S 5 8 ∧ Xi S 5 8 ≤ 12) ∧ (Hid (LOK S (Xi S 5 8) 12 (nL S) → Xi S 1 3 + nL S ≤ 199))
def P_re_tellObjects (S : sS) : Prop := (0 ≤ Xi S 1 3 ∧ Xi S 1 3 ≤ 200) ∧ (CEN S) ∧ (NRB S) ∧ (Xi S 876 8 = 0) ∧ (Xi S 876 7 ≤ 5130) ∧ (0 ≤ Xi S 890 3 ∧ Xi S 890 3 ≤ 5125) ∧ (Xi S 891 9 = 0) ∧ (Xi S 1 3 < 199) ∧ (TX S) ∧ (WH2 S) ∧ (0 ≤ Xi S 5 2 ∧ Xi S 5 2 ≤ 24) ∧ (Xi S 1 3 + 24 - Xi S 5 2 < 199) ∧ (Xi S 891 11 = 0) ∧ (0 ≤ Xi S 895 14 ∧ Xi S 895 14 ≤ 6) ∧ (Hid (∀ i : Nat, (i : Int) < Xi S 895 14 → -1 ≤ Xi S 897 i ∧ Xi S 897 i ≤ 11))
def P_re_tellWay (S : sS) : Prop := (0 ≤ Xi S 1 3 ∧ Xi S 1 3 ≤ 200) ∧ (CEN S) ∧ (NRB S) ∧ (Xi S 876 8 = 0) ∧ (Xi S 876 7 ≤ 5130) ∧ (0 ≤ Xi S 890 3 ∧ Xi S 890 3 ≤ 5125) ∧ (Xi S 891 9 = 0) ∧ (Xi S 1 3 < 199) ∧ (FN1 S) ∧ (0 ≤ Xi S 5 2 ∧ Xi S 5 2 ≤ 24) ∧ (0 ≤ Xi S 20 12 ∧ Xi S 20 12 ≤ 1000000) ∧ (Hid (fnd S 2 (l14 S) (re7 (ty7 S) (l14 S)) ≤ 23)) ∧ (o14 S < Xi S 876 7)
def P_re_tellValues (S : sS) : Prop := (0 ≤ Xi S 1 3 ∧ Xi S 1 3 ≤ 200) ∧ (CEN S) ∧ (NRB S) ∧ (Xi S 876 8 = 0) ∧ (Xi S 876 7 ≤ 5130) ∧ (0 ≤ Xi S 890 3 ∧ Xi S 890 3 ≤ 5125) ∧ (Xi S 891 9 = 0) ∧ (Xi S 1 3 < 199) ∧ (FN1 S) ∧ (0 ≤ Xi S 5 4 ∧ Xi S 5 4 ≤ 64) ∧ (Hid (LOKo (n0V S) S (cV5 S) 8 (nV5 S) → Xi S 5 4 + nV5 S ≤ 62)) ∧ (Hid (2 ≤ tV5 S → LOKo (n0V S) S (cV5 S) 8 (nV5 S) → Xi S 1 3 + nV5 S ≤ 199)) ∧ (Xi S 890 3 + 1 < Xi S 876 7)
def P_re_tellHas (S : sS) : Prop := (0 ≤ Xi S 1 3 ∧ Xi S 1 3 ≤ 200) ∧ (CEN S) ∧ (NRB S) ∧ (Xi S 876 8 = 0) ∧ (Xi S 876 7 ≤ 5130) ∧ (0 ≤ Xi S 890 3 ∧ Xi S 890 3 ≤ 5125) ∧ (Xi S 891 9 = 0) ∧ (Xi S 1 3 < 199) ∧ ((re7 (ty7 S) (Xi S 890 3 + 2)) < Xi S 876 7) ∧ (0 ≤ Xi S 5 5 ∧ Xi S 5 5 ≤ 12)
def P_re_tellCan (S : sS) : Prop := (0 ≤ Xi S 1 3 ∧ Xi S 1 3 ≤ 200) ∧ (CEN S) ∧ (NRB S) ∧ (Xi S 876 8 = 0) ∧ (Xi S 876 7 ≤ 5130) ∧ (0 ≤ Xi S 890 3 ∧ Xi S 890 3 ≤ 5125) ∧ (Xi S 891 9 = 0) ∧ (Xi S 1 3 < 199) ∧ ((re7 (ty7 S) (Xi S 890 3 + 2)) < Xi S 876 7) ∧ (0 ≤ Xi S 5 3 ∧ Xi S 5 3 ≤ 24)
def P_re_tellRelation (S : sS) : Prop := (0 ≤ Xi S 1 3 ∧ Xi S 1 3 ≤ 200) ∧ (CEN S) ∧ (NRB S) ∧ (Xi S 876 8 = 0) ∧ (Xi S 876 7 ≤ 5130) ∧ (0 ≤ Xi S 890 3 ∧ Xi S 890 3 ≤ 5125) ∧ (Xi S 891 9 = 0) ∧ (Xi S 1 3 < 199) ∧ ((re7 (ty7 S) (Xi S 890 3 + 2)) + 2 ≤ Xi S 876 7) ∧ (0 ≤ Xi S 5 6 ∧ Xi S 5 6 ≤ 6)
def P_re_tellLoose (S : sS) : Prop := (0 ≤ Xi S 1 3 ∧ Xi S 1 3 ≤ 200) ∧ (CEN S) ∧ (Xi S 876 8 = 0) ∧ (Xi S 876 7 ≤ 5130) ∧ (WH2 S) ∧ (0 ≤ Xi S 5 2 ∧ Xi S 5 2 ≤ 24) ∧ (0 < Xi S 876 7) ∧ (Hid (∀ n : Nat, vbL S n ≠ -1 → 0 ≤ Xi S 18 (vbL S n).toNat ∧ Xi S 18 (vbL S n).toNat ≤ 5))
def P_re_tellUsually (S : sS) : Prop := (0 ≤ Xi S 1 3 ∧ Xi S 1 3 ≤ 200) ∧ (CEN S) ∧ (Xi S 876 8 = 0) ∧ (Xi S 876 7 ≤ 5130) ∧ (0 ≤ Xi S 890 3 ∧ Xi S 890 3 ≤ 5125) ∧ (TX S) ∧ (FN1 S) ∧ (Hid (MK15 S))
def P_re_tellPlain (S : sS) : Prop := (0 ≤ Xi S 1 3 ∧ Xi S 1 3 ≤ 200) ∧ (CEN S) ∧ (NRB S) ∧ (Xi S 876 8 = 0) ∧ (Xi S 876 7 ≤ 5130) ∧ (0 ≤ Xi S 890 3 ∧ Xi S 890 3 ≤ 5125) ∧ (Xi S 891 9 = 0) ∧ (Xi S 1 3 < 199) ∧ (TX S) ∧ (WH2 S) ∧ (0 ≤ Xi S 5 2 ∧ Xi S 5 2 ≤ 24) ∧ (Xi S 1 3 + 24 - Xi S 5 2 < 199)
def P_re_tellsUsually (S : sS) : Prop := (0 ≤ Xi S 890 3 ∧ Xi S 890 3 ≤ 5125)
def P_re_tellsValues (S : sS) : Prop := (0 ≤ Xi S 1 3 ∧ Xi S 1 3 ≤ 200) ∧ (CEN S) ∧ (Xi S 876 7 ≤ 5130) ∧ (0 ≤ Xi S 890 3 ∧ Xi S 890 3 ≤ 5125) ∧ (FN1 S)
/-- what a sentence of 9 to 20 wants to be told -/
def TSP (V : sS) : Prop := (9 ≤ Xi V 890 2 ∧ Xi V 890 2 ≤ 20) ∧ (Xi V 890 2 = 9 → P_re_tellProperty V) ∧ (Xi V 890 2 = 10 → P_re_tellKinds V) ∧ (Xi V 890 2 = 11 → P_re_tellActions V) ∧ (Xi V 890 2 = 12 ∨ Xi V 890 2 = 13 → P_re_tellObjects V) ∧ (Xi V 890 2 = 14 → P_re_tellWay V) ∧ (Xi V 890 2 = 15 → P_re_tellsUsually V ∧ (ty7 V (Xi V 890 3 + 1) = 32 → P_re_tellUsually V) ∧ (ty7 V (Xi V 890 3 + 1) ≠ 32 → P_re_tellsValues V ∧ ((ty7 V (Xi V 890 3 + 1) ≠ 6 ∧ sn2 V = -1 ∧ tv5 V (bA (ty7 V) 0) (re7 (ty7 V) (bA (ty7 V) 0)) ≠ -1) → P_re_tellValues V) ∧ (¬ (ty7 V (Xi V 890 3 + 1) ≠ 6 ∧ sn2 V = -1 ∧ tv5 V (bA (ty7 V) 0) (re7 (ty7 V) (bA (ty7 V) 0)) ≠ -1) → P_re_tellPlain V))) ∧ (Xi V 890 2 = 16 → P_re_tellValues V) ∧ (Xi V 890 2 = 17 → P_re_tellHas V) ∧ (Xi V 890 2 = 18 → P_re_tellCan V) ∧ (Xi V 890 2 = 19 → P_re_tellRelation V) ∧ (Xi V 890 2 = 20 → P_re_tellLoose V)
/-- what is told -/
def TSV (V S1 : sS) (z : Int) : Prop := (Xi V 890 2 = 9 → (TPY md_me_readWhat__p V S1 z (re7 (ty7 V) 1) (bA (ty7 V) (re7 (ty7 V) 1 + 1)) (re7 (ty7 V) (bA (ty7 V) (re7 (ty7 V) 1 + 1))) (Xi V 890 3 + 1)) ∧ FR md_re_tellProperty__p V S1) ∧ (Xi V 890 2 = 10 → (TKN V S1 z) ∧ FR md_re_tellKinds__p V S1) ∧ (Xi V 890 2 = 11 → (TACT V S1 z) ∧ FR md_re_tellActions__p V S1) ∧ (Xi V 890 2 = 12 ∨ Xi V 890 2 = 13 → (TOJ V S1 z) ∧ FR md_re_tellObjects__p V S1) ∧ (Xi V 890 2 = 14 → (TW14 V S1 z) ∧ FR md_re_tellWay__p V S1) ∧ (Xi V 890 2 = 15 → (ty7 V (Xi V 890 3 + 1) = 32 → (TUS md_me_readAdjective__p V S1 z (bA (ty7 V) 0) (re7 (ty7 V) (bA (ty7 V) 0)) (Xi V 890 3 + 2) (re7 (ty7 V) (Xi V 890 3 + 2))) ∧ FR md_re_tellUsually__p V S1) ∧ (ty7 V (Xi V 890 3 + 1) ≠ 32 → ((ty7 V (Xi V 890 3 + 1) ≠ 6 ∧ sn2 V = -1 ∧ tv5 V (bA (ty7 V) 0) (re7 (ty7 V) (bA (ty7 V) 0)) ≠ -1) → (TVL V S1 z) ∧ FR md_re_tellValues__p V S1) ∧ (¬ (ty7 V (Xi V 890 3 + 1) ≠ 6 ∧ sn2 V = -1 ∧ tv5 V (bA (ty7 V) 0) (re7 (ty7 V) (bA (ty7 V) 0)) ≠ -1) → (TPN md_me_countReadings__p md_me_readAdjective__p V S1 z) ∧ FR md_re_tellPlain__p V S1))) ∧ (Xi V 890 2 = 16 → (TVL V S1 z) ∧ FR md_re_tellValues__p V S1) ∧ (Xi V 890 2 = 17 → (THAS V S1 z (bA (ty7 V) 0) (re7 (ty7 V) (bA (ty7 V) 0)) (Xi V 890 3 + 2) (re7 (ty7 V) (Xi V 890 3 + 2)) ((re7 (ty7 V) (Xi V 890 3 + 2)) + 1) (re7 (ty7 V) ((re7 (ty7 V) (Xi V 890 3 + 2)) + 1))) ∧ FR md_re_tellHas__p V S1) ∧ (Xi V 890 2 = 18 → (TCAN V S1 z (bA (ty7 V) 0) (re7 (ty7 V) (bA (ty7 V) 0)) (Xi V 890 3 + 2) (re7 (ty7 V) (Xi V 890 3 + 2)) (re7 (ty7 V) ((re7 (ty7 V) (Xi V 890 3 + 2)) + 1))) ∧ FR md_re_tellCan__p V S1) ∧ (Xi V 890 2 = 19 → (TREL V S1 z (bA (ty7 V) 0) (re7 (ty7 V) (bA (ty7 V) 0)) (Xi V 890 3 + 2) (re7 (ty7 V) (Xi V 890 3 + 2)) ((re7 (ty7 V) (Xi V 890 3 + 2)) + 2) (re7 (ty7 V) ((re7 (ty7 V) (Xi V 890 3 + 2)) + 2)) (ty7 V ((Xi V 890 3 + 2) - 1)) (ty7 V (((re7 (ty7 V) (Xi V 890 3 + 2)) + 2) - 1))) ∧ FR md_re_tellRelation__p V S1) ∧ (Xi V 890 2 = 20 → (TLQ V S1 z) ∧ FR md_re_tellLoose__p V S1)
def md_re_tellSentence__p : List rec := [(1, 2, 3, 4), (2, 3, 0, 100000), (3, 4, 0, 100000), (4, 5, 0, 100000), (5, 6, 0, 100000), (6, 7, 0, 100000), (7, 8, 0, 100000), (8, 9, 0, 100000), (9, 10, 0, 100000), (10, 11, 0, 100000), (11, 12, 0, 100000), (14, 15, 0, 100000), (15, 16, 0, 100000), (16, 17, 0, 100000), (17, 18, 0, 100000), (19, 20, 0, 100000), (20, 21, 12, 13), (21, 22, 0, 100000), (22, 23, 0, 100000), (23, 24, 0, 100000), (25, 65, 0, 100000), (66, 106, 0, 100000), (107, 147, 0, 100000), (148, 188, 0, 100000), (189, 195, 0, 100000), (196, 220, 0, 100000), (221, 245, 0, 100000), (876, 877, 8, 9), (876, 877, 9, 10), (891, 892, 9, 10), (891, 892, 10, 11), (891, 892, 11, 12), (891, 892, 12, 13), (892, 893, 0, 100000), (893, 894, 0, 100000), (894, 895, 0, 100000), (895, 896, 8, 9), (895, 896, 9, 10), (895, 896, 10, 11), (895, 896, 11, 12), (895, 896, 12, 13), (895, 896, 13, 14), (895, 896, 14, 15), (896, 897, 0, 100000), (897, 898, 0, 100000), (898, 899, 0, 100000)]
abbrev Q_re_tellSentence__p (S : sS) : pst := fun r S1 => RI S1 ∧ FR md_re_tellSentence__p S S1 ∧ (∃ z : Int, r = some (iv z) ∧ (0 ≤ z ∧ z ≤ 1) ∧ (TSV (uI (uI S 891 9 (Int32.ofInt 0)) 891 11 (Int32.ofInt 0)) S1 z))
set_option maxRecDepth 100000 in
theorem t_re_tellSentence__p {S : sS} (hH : RI S) (hq : TSP (uI (uI S 891 9 (Int32.ofInt 0)) 891 11 (Int32.ofInt 0))) (d : Nat) : Mp lay0 (d + 7) m_re_tellSentence [.ref 891] S (Q_re_tellSentence__p S) := by sorry
/-! the class: a sentence of 0 to 8 is told -/
def md_re_understand__a : List rec := [(876, 877, 8, 9), (876, 877, 9, 10), (882, 883, 3, 4), (882, 883, 10, 11), (883, 884, 0, 100000), (884, 885, 0, 100000), (885, 886, 0, 100000), (886, 887, 0, 100000), (887, 888, 0, 100000), (888, 889, 0, 100000)]
abbrev Q_re_understand__a (S : sS) (ts : Nat) : pst := fun r S1 => RI S1 ∧ FR md_re_understand__a S S1 ∧ (∃ z : Int, r = some (iv z) ∧ (0 ≤ z ∧ z ≤ 1) ∧ (TUN md_co_takeText__p md_co_suits__p S S1 ts z (fnd S 8 3 (re7 (ty7 S) 3)) (pc7 S 1 + 1) (pc7 S 1 + 1 + Xj S 879 1)) ∧ (KOC S S1))
theorem t_re_understand__a {S : sS} (hH : RI S) (ts : Nat) (hts : S.2.2 876 4 = some ts) (htp : tp ts) (h13 : 0 ≤ Xi S 1 3 ∧ Xi S 1 3 ≤ 200) (hCE : CEN S) (hf : Xi S 876 8 = 0) (hr : Xi S 876 7 ≤ 5130) (hby : BYT S ts) (hcc : 0 ≤ Xi S 882 3 ∧ Xi S 882 3 ≤ 20) (h1r : 1 < Xi S 876 7) (hpx : 0 ≤ pc7 S 1 ∧ 0 ≤ Xj S 879 1 ∧ pc7 S 1 + 1 + Xj S 879 1 < 5000) (d : Nat) : Mp lay0 (d + 6) m_re_understand [.ref 891] S (Q_re_understand__a S ts) := by sorry
def P_re_describe (S : sS) : Prop := (0 ≤ Xi S 1 3 ∧ Xi S 1 3 ≤ 200) ∧ (CEN S) ∧ (TOK S) ∧ (SRX S) ∧ (Xi S 876 7 ≤ 5130) ∧ (Xi S 876 8 = 0) ∧ (TX S) ∧ (Hid (∀ j : Nat, 0 ≤ Xi S 878 j)) ∧ (Xi S 876 5 ≤ 5000) ∧ (-1 ≤ Xi S 891 10 ∧ Xi S 891 10 ≤ 23) ∧ (Xi S 877 (0 : Int).toNat = 102 ∧ 0 < Xi S 876 7)
def P_re_understand (S : sS) (ts : Nat) : Prop := (0 ≤ Xi S 1 3 ∧ Xi S 1 3 ≤ 200) ∧ (CEN S) ∧ (Xi S 876 8 = 0) ∧ (Xi S 876 7 ≤ 5130) ∧ (BYT S ts) ∧ (0 ≤ Xi S 882 3 ∧ Xi S 882 3 ≤ 20) ∧ (1 < Xi S 876 7) ∧ (0 ≤ pc7 S 1 ∧ 0 ≤ Xj S 879 1 ∧ pc7 S 1 + 1 + Xj S 879 1 < 5000)
def P_re_startDefinition (S : sS) : Prop := (0 ≤ Xi S 1 3 ∧ Xi S 1 3 ≤ 200) ∧ (CEN S) ∧ (NRB S) ∧ (Xi S 876 8 = 0) ∧ (Xi S 876 7 ≤ 5130) ∧ (Xi S 891 9 = 0) ∧ (0 ≤ Xi S 5 3 ∧ Xi S 5 3 ≤ 24) ∧ ((re7 (ty7 S) (re7 (ty7 S) 3 + 1)) ≤ 5130)
def P_rr_tests (S : sS) (from_ : Int) : Prop := (0 ≤ Xi S 1 3 ∧ Xi S 1 3 ≤ 200) ∧ (CEN S) ∧ (Xi S 876 8 = 0) ∧ (Xi S 876 7 ≤ 5130) ∧ (0 ≤ Xi S 876 7) ∧ (TOK S) ∧ (SRX S) ∧ (Hid (NVL S)) ∧ (Hid (∀ j : Nat, 0 ≤ Xi S 878 j)) ∧ (Xi S 876 5 ≤ 5000) ∧ (0 ≤ Xi S 246 5 ∧ Xi S 246 5 + 6 ≤ 600) ∧ (Hid (from_ ≠ -1 → TPQ S from_))
def P_re_endDefinition (S : sS) : Prop := (0 ≤ Xi S 1 3 ∧ Xi S 1 3 ≤ 200) ∧ (Xi S 1 3 < 200) ∧ (0 ≤ Xi S 5 3 ∧ Xi S 5 3 ≤ 62) ∧ (0 ≤ Xi S 892 0 ∧ Xi S 892 0 ≤ 6000 ∧ 0 ≤ Xi S 893 0 ∧ Xi S 893 0 ≤ 6000) ∧ (0 ≤ Xi S 246 5 ∧ Xi S 246 5 ≤ 600 ∧ 0 ≤ Xi S 899 6 ∧ Xi S 899 6 ≤ 600)
def P_re_tellVerb (S : sS) : Prop := (0 ≤ Xi S 1 3 ∧ Xi S 1 3 ≤ 200) ∧ (CEN S) ∧ (NRB S) ∧ (Xi S 876 8 = 0) ∧ (Xi S 876 7 ≤ 5130) ∧ (Xi S 891 9 = 0) ∧ (Xi S 1 3 < 199) ∧ (((re7 (ty7 S) 3) + 2) ≤ Xi S 876 7) ∧ (0 ≤ Xj S 879 3 ∧ Xj S 879 3 < 150094635296999121) ∧ (0 ≤ Xi S 5 7 ∧ Xi S 5 7 ≤ 8)
def P_re_tellPlural (S : sS) : Prop := (0 ≤ Xi S 1 3 ∧ Xi S 1 3 ≤ 200) ∧ (CEN S) ∧ (NRB S) ∧ (Xi S 876 8 = 0) ∧ (Xi S 876 7 ≤ 5130) ∧ (Xi S 891 9 = 0) ∧ (Xi S 1 3 < 199) ∧ ((re7 (ty7 S) (bA (ty7 S) 3)) < Xi S 876 7)
def P_rr_ruleHead (S : sS) : Prop := (0 ≤ Xi S 1 3 ∧ Xi S 1 3 ≤ 200) ∧ (CEN S) ∧ (Xi S 876 8 = 0) ∧ (Xi S 876 7 ≤ 5130) ∧ (0 ≤ Xi S 876 7) ∧ (0 ≤ Xi S 246 5 ∧ Xi S 246 5 + 6 ≤ 600) ∧ (0 ≤ Xi S 246 2) ∧ (Hid (∀ j : Nat, -2 ≤ Xi S 19 j ∧ Xi S 19 j ≤ 15))
def P_rr_whenEnd (S : sS) : Prop := (0 ≤ Xi S 899 5 ∧ Xi S 899 5 ≤ 5140)
def P_rr_rulePhrases (S : sS) (ts : Nat) : Prop := (0 ≤ Xi S 1 3 ∧ Xi S 1 3 ≤ 200) ∧ (CEN S) ∧ (Xi S 876 8 = 0) ∧ (Xi S 876 7 ≤ 5130) ∧ (BYT S ts) ∧ (0 ≤ Xi S 876 7) ∧ (TOK S) ∧ (SRX S) ∧ (Hid (NVL S)) ∧ (Hid (∀ j : Nat, 0 ≤ Xi S 878 j)) ∧ (Xi S 876 5 ≤ 5000) ∧ (0 ≤ Xi S 876 6 ∧ Xi S 876 6 ≤ 5005) ∧ (Xi S 876 6 ≤ Xi S 876 7) ∧ (0 ≤ Xi S 246 8) ∧ (0 ≤ Xi S 246 5 ∧ Xi S 246 5 + 8 ≤ 600) ∧ (0 ≤ Xi S 246 2 ∧ Xi S 246 2 ≤ 24) ∧ (0 ≤ Xi S 899 5 ∧ Xi S 899 5 ≤ 5140) ∧ (Hid (PPQ S (Xi S 899 5 + 1)))
/-- what a definition, and a rule, want -/
def BP2 (V : sS) : Prop := P_re_startDefinition V ∧ ∀ A : sS, RI A → FR md_re_startDefinition__p V A → SDF V A 1 (fnd V 0 3 (re7 (ty7 V) 3)) (re7 (ty7 V) 3 + 1) (re7 (ty7 V) (re7 (ty7 V) 3 + 1)) → ((-1 ≤ Xi A 893 0 + 1 ∧ Xi A 893 0 + 1 ≤ 5120) ∧ P_rr_tests A (Xi A 893 0 + 1)) ∧ ∀ B : sS, RI B → FR md_rr_tests__q A B → TSS A B (Xi A 893 0 + 1) 1 → P_re_endDefinition B
def BP3 (V : sS) (ts : Nat) : Prop := P_rr_ruleHead V ∧ ∀ A : sS, RI A → FR md_rr_ruleHead__p V A → RHO md_rr_ruleHead__p V A (Xi V 890 2) 1 → (P_rr_whenEnd A ∧ (-1 ≤ (if ty7 A (Xi A 899 5) = 37 then Xi A 899 5 + 1 else -1) ∧ (if ty7 A (Xi A 899 5) = 37 then Xi A 899 5 + 1 else -1) ≤ 5120) ∧ P_rr_tests A (if ty7 A (Xi A 899 5) = 37 then Xi A 899 5 + 1 else -1)) ∧ ∀ B : sS, RI B → FR md_rr_tests__q A B → TSS A B (if ty7 A (Xi A 899 5) = 37 then Xi A 899 5 + 1 else -1) 1 → HTE A B (if ty7 A (Xi A 899 5) = 37 then Xi A 899 5 + 1 else -1) 1 → P_rr_rulePhrases B ts
def BGP (V : sS) (ts : Nat) : Prop := (0 ≤ Xi V 890 2 ∧ Xi V 890 2 ≤ 8) ∧ (Xi V 890 2 = 0 → P_re_describe V) ∧ (Xi V 890 2 = 1 → P_re_understand V ts) ∧ (Xi V 890 2 = 2 → BP2 V) ∧ (Xi V 890 2 = 7 → P_re_tellVerb V) ∧ (Xi V 890 2 = 8 → P_re_tellPlural V) ∧ (3 ≤ Xi V 890 2 → Xi V 890 2 ≤ 6 → BP3 V ts)
/-- what they leave -/
def BG2 (V S1 : sS) (z : Int) : Prop := ∃ (A B : sS) (x y : Int), (x = 0 ∨ x = 1) ∧ SDF V A x (fnd V 0 3 (re7 (ty7 V) 3)) (re7 (ty7 V) 3 + 1) (re7 (ty7 V) (re7 (ty7 V) 3 + 1)) ∧ FR md_re_startDefinition__p V A ∧ (x = 0 → z = 0 ∧ S1 = A) ∧ (x = 1 → TSS A B (Xi A 893 0 + 1) y ∧ FR md_rr_tests__p A B ∧ (y = 0 ∨ y = 1)) ∧ (x = 1 → y = 0 → z = 0 ∧ S1 = B) ∧ (x = 1 → y = 1 → EDF md_vo_tellNew__p B S1 z ∧ FR md_re_endDefinition__p B S1)
def BG3 (V S1 : sS) (ts : Nat) (z : Int) : Prop := ∃ (A B : sS) (x y : Int), (x = 0 ∨ x = 1) ∧ RHO md_rr_ruleHead__p V A (Xi V 890 2) x ∧ FR md_rr_ruleHead__p V A ∧ (x = 0 → z = 0 ∧ S1 = A) ∧ (x = 1 → TSS A B (if ty7 A (Xi A 899 5) = 37 then Xi A 899 5 + 1 else -1) y ∧ HTE A B (if ty7 A (Xi A 899 5) = 37 then Xi A 899 5 + 1 else -1) y ∧ FR md_rr_tests__p A B ∧ (y = 0 ∨ y = 1)) ∧ (x = 1 → y = 0 → z = 0 ∧ S1 = B) ∧ (x = 1 → y = 1 → RPO md_rr_rulePhrases__p B S1 (Xi V 246 2).toNat ts z ∧ FR md_rr_rulePhrases__p B S1 ∧ (z = 0 ∨ z = 1))
def BGV (V S1 : sS) (ts : Nat) (z : Int) : Prop := (Xi V 890 2 = 0 → (TDE V S1 z) ∧ FR md_re_describe__p V S1) ∧ (Xi V 890 2 = 1 → (TUN md_co_takeText__p md_co_suits__p V S1 ts z (fnd V 8 3 (re7 (ty7 V) 3)) (pc7 V 1 + 1) (pc7 V 1 + 1 + Xj V 879 1)) ∧ (KOC V S1) ∧ FR md_re_understand__a V S1) ∧ (Xi V 890 2 = 2 → BG2 V S1 z) ∧ (Xi V 890 2 = 7 → (TVB V S1 z (re7 (ty7 V) 3) ((re7 (ty7 V) 3) + 2) (re7 (ty7 V) ((re7 (ty7 V) 3) + 2))) ∧ FR md_re_tellVerb__p V S1) ∧ (Xi V 890 2 = 8 → (TPL V S1 z (bA (ty7 V) 3) (re7 (ty7 V) (bA (ty7 V) 3)) ((re7 (ty7 V) (bA (ty7 V) 3)) + 1) (re7 (ty7 V) ((re7 (ty7 V) (bA (ty7 V) 3)) + 1))) ∧ FR md_re_tellPlural__p V S1) ∧ (3 ≤ Xi V 890 2 → Xi V 890 2 ≤ 6 → BG3 V S1 ts z)
theorem bg2_0 {V A : sS} {z : Int} (hz : z = 0) (h : SDF V A 0 (fnd V 0 3 (re7 (ty7 V) 3)) (re7 (ty7 V) 3 + 1) (re7 (ty7 V) (re7 (ty7 V) 3 + 1))) (F : FR md_re_startDefinition__p V A) : BG2 V A z := by sorry
theorem bg2_1 {V A B : sS} {z : Int} (hz : z = 0) (h : SDF V A 1 (fnd V 0 3 (re7 (ty7 V) 3)) (re7 (ty7 V) 3 + 1) (re7 (ty7 V) (re7 (ty7 V) 3 + 1))) (F : FR md_re_startDefinition__p V A) (t : TSS A B (Xi A 893 0 + 1) 0) (G : FR md_rr_tests__p A B) : BG2 V B z := by sorry
theorem bg2_2 {V A B S1 : sS} {z : Int} (h : SDF V A 1 (fnd V 0 3 (re7 (ty7 V) 3)) (re7 (ty7 V) 3 + 1) (re7 (ty7 V) (re7 (ty7 V) 3 + 1))) (F : FR md_re_startDefinition__p V A) (t : TSS A B (Xi A 893 0 + 1) 1) (G : FR md_rr_tests__p A B) (e : EDF md_vo_tellNew__p B S1 z) (K : FR md_re_endDefinition__p B S1) : BG2 V S1 z := by sorry
theorem bg3_0 {V A : sS} {ts : Nat} {z : Int} (hz : z = 0) (h : RHO md_rr_ruleHead__p V A (Xi V 890 2) 0) (F : FR md_rr_ruleHead__p V A) : BG3 V A ts z := by sorry
theorem bg3_1 {V A B : sS} {ts : Nat} {z : Int} (hz : z = 0) (h : RHO md_rr_ruleHead__p V A (Xi V 890 2) 1) (F : FR md_rr_ruleHead__p V A) (t : TSS A B (if ty7 A (Xi A 899 5) = 37 then Xi A 899 5 + 1 else -1) 0) (t2 : HTE A B (if ty7 A (Xi A 899 5) = 37 then Xi A 899 5 + 1 else -1) 0) (G : FR md_rr_tests__p A B) : BG3 V B ts z := by sorry
theorem bg3_2 {V A B S1 : sS} {ts : Nat} {z : Int} (hz : z = 0 ∨ z = 1) (h : RHO md_rr_ruleHead__p V A (Xi V 890 2) 1) (F : FR md_rr_ruleHead__p V A) (t : TSS A B (if ty7 A (Xi A 899 5) = 37 then Xi A 899 5 + 1 else -1) 1) (t2 : HTE A B (if ty7 A (Xi A 899 5) = 37 then Xi A 899 5 + 1 else -1) 1) (G : FR md_rr_tests__p A B) (e : RPO md_rr_rulePhrases__p B S1 (Xi V 246 2).toNat ts z) (K : FR md_rr_rulePhrases__p B S1) : BG3 V S1 ts z := by sorry
theorem rho_ref {V A : sS} {s : Int} (h0 : 0 ≤ Xi V 246 2) (h : RHO md_rr_ruleHead__p V A s 1) : A.2.2 899 4 = some (248 + (Xi V 246 2).toNat) ∧ (Xi V 246 2).toNat < 24 := by sorry
def md_re_beginSentence__p : List rec := [(1, 2, 3, 4), (2, 3, 0, 100000), (3, 4, 0, 100000), (4, 5, 0, 100000), (5, 6, 0, 100000), (10, 11, 0, 100000), (11, 12, 0, 100000), (12, 13, 0, 100000), (13, 14, 0, 100000), (18, 19, 0, 100000), (66, 106, 0, 100000), (107, 147, 0, 100000), (148, 188, 0, 100000), (246, 247, 2, 3), (246, 247, 5, 6), (246, 247, 8, 9), (248, 272, 0, 100000), (274, 275, 0, 100000), (275, 276, 0, 100000), (276, 876, 0, 1), (276, 876, 1, 2), (276, 876, 2, 3), (276, 876, 3, 4), (276, 876, 4, 5), (276, 876, 5, 6), (276, 876, 6, 7), (876, 877, 7, 8), (876, 877, 8, 9), (876, 877, 9, 10), (877, 878, 0, 100000), (878, 879, 0, 100000), (879, 880, 0, 100000), (882, 883, 3, 4), (882, 883, 10, 11), (883, 884, 0, 100000), (884, 885, 0, 100000), (885, 886, 0, 100000), (886, 887, 0, 100000), (887, 888, 0, 100000), (888, 889, 0, 100000), (891, 892, 9, 10), (892, 893, 0, 100000), (893, 894, 0, 100000), (894, 895, 0, 100000), (895, 896, 3, 4), (895, 896, 4, 5), (895, 896, 5, 6), (895, 896, 6, 7), (895, 896, 7, 8), (895, 896, 8, 9), (895, 896, 9, 10), (895, 896, 10, 11), (895, 896, 11, 12), (895, 896, 12, 13), (895, 896, 13, 14), (895, 896, 14, 15), (896, 897, 0, 100000), (897, 898, 0, 100000), (898, 899, 0, 100000), (899, 900, 4, 5), (899, 900, 5, 6), (899, 900, 6, 7)]
abbrev Q_re_beginSentence__p (S : sS) (ts : Nat) : pst := fun r S1 => RI S1 ∧ FR md_re_beginSentence__p S S1 ∧ (∃ z : Int, r = some (iv z) ∧ (0 ≤ z ∧ z ≤ 1) ∧ (BGV (uI S 891 9 (Int32.ofInt 0)) S1 ts z))
set_option maxRecDepth 100000 in
theorem t_re_beginSentence__p {S : sS} (hH : RI S) (ts : Nat) (hts : S.2.2 876 4 = some ts) (htp : tp ts) (hq : BGP (uI S 891 9 (Int32.ofInt 0)) ts) (d : Nat) : Mp lay0 (d + 7) m_re_beginSentence [.ref 891] S (Q_re_beginSentence__p S ts) := by sorry
end
end
section
section
/-! the reference: asked and does, whatever the sort -/
def md_mo_asked__a : List rec := [(904, 905, 64, 65), (904, 905, 104, 105), (904, 905, 105, 106), (904, 905, 106, 107), (904, 905, 108, 109), (904, 905, 109, 110), (904, 905, 110, 111), (904, 905, 112, 113), (904, 905, 113, 114), (904, 905, 115, 116), (904, 905, 116, 117), (904, 905, 117, 118), (904, 905, 125, 126), (904, 905, 128, 129), (904, 905, 129, 130), (904, 905, 130, 131), (904, 905, 142, 143), (904, 905, 144, 145), (904, 905, 146, 147), (904, 905, 147, 148), (904, 905, 150, 151), (904, 905, 151, 152), (904, 905, 153, 154), (904, 905, 154, 155), (904, 905, 156, 157), (904, 905, 157, 158), (904, 905, 158, 159), (904, 905, 160, 161), (966, 967, 0, 100000), (967, 968, 0, 100000), (968, 969, 0, 100000), (969, 970, 0, 100000), (970, 971, 0, 100000), (971, 972, 0, 100000), (972, 973, 0, 100000), (973, 974, 0, 100000), (974, 975, 0, 100000), (975, 976, 0, 100000), (976, 977, 0, 100000), (977, 978, 0, 100000), (978, 979, 0, 100000), (979, 980, 0, 100000), (980, 981, 0, 100000), (981, 982, 0, 100000), (982, 983, 0, 100000), (983, 984, 0, 100000), (984, 985, 0, 100000), (985, 986, 0, 100000), (986, 987, 0, 100000), (987, 988, 0, 100000), (988, 989, 0, 100000), (989, 990, 0, 100000), (990, 991, 0, 100000), (991, 992, 0, 100000), (992, 993, 0, 100000), (993, 994, 0, 100000), (994, 995, 0, 100000), (1000, 1001, 0, 1)]
def PX_mo_asked_0 (S : sS) (first : Int) : Prop := (Xi S 904 70 = 0)
def QX_mo_asked_0 (S S1 : sS) (first : Int) : Prop := (RA0 S S1) ∧ FR md_mo_asked__0 S S1 ∧ FR md_mo_asked__0f S S1
theorem a_mo_asked_0 {S : sS} (hH : RI S) (first : Int) (hf : 0 ≤ first ∧ first ≤ 5001) (hp : PX_mo_asked_0 S first) (d : Nat) : Mp lay0 (d + 13) m_mo_asked [.ref 904, iv first] S (fun r S1 => RI S1 ∧ FR md_mo_asked__a S S1 ∧ (r = none ∧ QX_mo_asked_0 S S1 first)) := by sorry
def PX_mo_asked_1 (S : sS) (first : Int) : Prop := (LSP S) ∧ (0 ≤ Xi S 904 15) ∧ (RBD S) ∧ (ABV S) ∧ (BYT S 906) ∧ (Hid (∀ j : Nat, -1 ≤ Xi S 915 j ∧ Xi S 915 j ≤ 300)) ∧ (Hid (∀ j : Nat, (j : Int) < Xi S 904 15 → Xi S 914 j = 0 → Xi S 915 j ≤ 15)) ∧ (0 ≤ (Xi S 908 (Xi S 904 81).toNat) ∧ 0 ≤ Xi S 909 (Xi S 904 81).toNat ∧ (Xi S 908 (Xi S 904 81).toNat + 1 + Xi S 909 (Xi S 904 81).toNat) < 5000) ∧ (Xi S 904 70 = 1)
def QX_mo_asked_1 (S S1 : sS) (first : Int) : Prop := (∃ P : sS, FR lA S P ∧ (Xi P 904 106 = 0 ∧ Xi P 904 108 = 0) ∧ RCO P S1) ∧ FR md_mo_asked__1 S S1 ∧ FR md_mo_asked__1f S S1
theorem a_mo_asked_1 {S : sS} (hH : RI S) (first : Int) (hf : 0 ≤ first ∧ first ≤ 5001) (hp : PX_mo_asked_1 S first) (d : Nat) : Mp lay0 (d + 13) m_mo_asked [.ref 904, iv first] S (fun r S1 => RI S1 ∧ FR md_mo_asked__a S S1 ∧ (r = none ∧ QX_mo_asked_1 S S1 first)) := by sorry
def PX_mo_asked_2 (S : sS) (first : Int) : Prop := (LSP S) ∧ (0 ≤ Xi S 904 15) ∧ (RBD S) ∧ (ABV S) ∧ (Hid (∀ j : Nat, -1 ≤ Xi S 918 j ∧ Xi S 918 j ≤ 15)) ∧ (LXR S) ∧ (0 ≤ Xi S 904 32 ∧ Xi S 904 32 ≤ 12) ∧ (0 ≤ Xi S 904 94 ∧ Xi S 904 94 ≤ 1700) ∧ (0 ≤ Xi S 904 117 ∧ Xi S 904 117 + Xi S 904 94 ≤ 2400) ∧ (Hid (∀ k : Nat, (k : Int) < Xi S 904 94 → TRK S k)) ∧ (Xi S 904 70 = 2) ∧ (-1 ≤ rnR S 0 0 ∧ rnR S 0 0 ≤ 15)
def QX_mo_asked_2 (S S1 : sS) (first : Int) : Prop := (∃ P : sS, FR lA S P ∧ (Xi P 904 106 = 0 ∧ Xi P 904 108 = 0 ∧ Xi P 904 116 = -1) ∧ RA2 md_mo_kindOfRun__p md_mo_mustBeNew__p md_mo_need__p md_mo_testMeant__p P S1) ∧ FR md_mo_asked__2 S S1 ∧ FR md_mo_asked__2f S S1
theorem a_mo_asked_2 {S : sS} (hH : RI S) (first : Int) (hf : 0 ≤ first ∧ first ≤ 5001) (hp : PX_mo_asked_2 S first) (d : Nat) : Mp lay0 (d + 13) m_mo_asked [.ref 904, iv first] S (fun r S1 => RI S1 ∧ FR md_mo_asked__a S S1 ∧ (r = none ∧ QX_mo_asked_2 S S1 first)) := by sorry
def PX_mo_asked_3 (S : sS) (first : Int) : Prop := (LSP S) ∧ (0 ≤ Xi S 904 15) ∧ (RBD S) ∧ (ABV S) ∧ (Hid (∀ j : Nat, -1 ≤ Xi S 918 j ∧ Xi S 918 j ≤ 15)) ∧ (LXR S) ∧ (0 ≤ Xi S 904 32 ∧ Xi S 904 32 ≤ 12) ∧ (Hid (∀ k : Nat, (k : Int) < Xi S 904 15 → Xi S 914 k ≤ 1 → Xi S 915 k ≤ 15)) ∧ (Hid (∀ j : Nat, -2 ≤ Xi S 942 j ∧ Xi S 942 j ≤ 15)) ∧ (BYT S 906) ∧ (Hid (∀ j : Nat, (j : Int) < Xi S 904 15 → Xi S 914 j = 7 → 0 ≤ Xi S 915 j ∧ Xi S 915 j ≤ 11)) ∧ (Hid (AGB S)) ∧ (0 ≤ Xi S 904 94 ∧ Xi S 904 94 ≤ 1700) ∧ (0 ≤ Xi S 904 98 ∧ Xi S 904 98 ≤ 1700) ∧ (0 ≤ Xi S 904 117 ∧ Xi S 904 117 + Xi S 904 94 + Xi S 904 98 ≤ 2400) ∧ (0 ≤ Xi S 904 125 ∧ Xi S 904 125 + Xi S 904 98 ≤ 2000) ∧ (0 ≤ Xi S 904 130 ∧ Xi S 904 130 ≤ 24) ∧ (Hid (∀ k : Nat, (k : Int) < Xi S 904 94 → TRK S k)) ∧ (Hid (∀ k : Nat, (k : Int) < Xi S 904 98 → PKB S k)) ∧ (3 ≤ Xi S 904 70 ∧ Xi S 904 70 ≤ 6)
def QX_mo_asked_3 (S S1 : sS) (first : Int) : Prop := (∃ P : sS, FR lA S P ∧ (Xi P 904 106 = 0 ∧ Xi P 904 108 = 0 ∧ Xi P 904 115 = -1 ∧ Xi P 904 116 = -1) ∧ RML P S1 first) ∧ FR md_mo_asked__3 S S1 ∧ FR md_mo_asked__3f S S1
theorem a_mo_asked_3 {S : sS} (hH : RI S) (first : Int) (hf : 0 ≤ first ∧ first ≤ 5001) (hp : PX_mo_asked_3 S first) (d : Nat) : Mp lay0 (d + 13) m_mo_asked [.ref 904, iv first] S (fun r S1 => RI S1 ∧ FR md_mo_asked__a S S1 ∧ (r = none ∧ QX_mo_asked_3 S S1 first)) := by sorry
def PX_mo_asked_7 (S : sS) (first : Int) : Prop := (LSP S) ∧ (0 ≤ Xi S 904 15) ∧ (RBD S) ∧ (Xi S 904 70 = 7) ∧ (pR S 0 < pR S 1) ∧ (0 ≤ Xi S 904 47 ∧ Xi S 904 47 ≤ 8)
def QX_mo_asked_7 (S S1 : sS) (first : Int) : Prop := (RVB S (NT3 S1)) ∧ FR md_mo_asked__7 S S1 ∧ FR md_mo_asked__7f S S1
theorem a_mo_asked_7 {S : sS} (hH : RI S) (first : Int) (hf : 0 ≤ first ∧ first ≤ 5001) (hp : PX_mo_asked_7 S first) (d : Nat) : Mp lay0 (d + 13) m_mo_asked [.ref 904, iv first] S (fun r S1 => RI S1 ∧ FR md_mo_asked__a S S1 ∧ (r = none ∧ QX_mo_asked_7 S S1 first)) := by sorry
def PX_mo_asked_8 (S : sS) (first : Int) : Prop := (LSP S) ∧ (0 ≤ Xi S 904 15) ∧ (RBD S) ∧ (Xi S 904 70 = 8) ∧ (pR S 0 < pR S 1)
def QX_mo_asked_8 (S S1 : sS) (first : Int) : Prop := (RPL S (NT3 S1)) ∧ FR md_mo_asked__8 S S1 ∧ FR md_mo_asked__8f S S1
theorem a_mo_asked_8 {S : sS} (hH : RI S) (first : Int) (hf : 0 ≤ first ∧ first ≤ 5001) (hp : PX_mo_asked_8 S first) (d : Nat) : Mp lay0 (d + 13) m_mo_asked [.ref 904, iv first] S (fun r S1 => RI S1 ∧ FR md_mo_asked__a S S1 ∧ (r = none ∧ QX_mo_asked_8 S S1 first)) := by sorry
def PX_mo_asked_9 (S : sS) (first : Int) : Prop := (LSP S) ∧ (0 ≤ Xi S 904 15) ∧ (RBD S) ∧ (LXR S) ∧ (ABV S) ∧ (Hid (∀ j : Nat, -1 ≤ Xi S 918 j ∧ Xi S 918 j ≤ 15)) ∧ (rnR S 0 7 ≤ 11) ∧ (rnR S 1 0 ≤ 15) ∧ (pR S 0 < pR S 1) ∧ (pR S 1 < Xi S 908 (Xi S 904 78).toNat) ∧ (Hid (Xi S 907 (Xi S 904 78).toNat = 4 → 0 ≤ Xj S 910 (Xi S 904 78).toNat ∧ Xj S 910 (Xi S 904 78).toNat ≤ 2147483647)) ∧ (Xi S 908 (Xi S 904 78).toNat ≤ 100000) ∧ (Xi S 904 70 = 9)
def QX_mo_asked_9 (S S1 : sS) (first : Int) : Prop := (RPY S S1) ∧ (KQ S1 S (Xi S 904 117)) ∧ FR md_mo_asked__9 S S1 ∧ FR md_mo_asked__9f S S1 ∧ FR md_mo_asked__9k S S1
theorem a_mo_asked_9 {S : sS} (hH : RI S) (first : Int) (hf : 0 ≤ first ∧ first ≤ 5001) (hp : PX_mo_asked_9 S first) (d : Nat) : Mp lay0 (d + 13) m_mo_asked [.ref 904, iv first] S (fun r S1 => RI S1 ∧ FR md_mo_asked__a S S1 ∧ (r = none ∧ QX_mo_asked_9 S S1 first)) := by sorry
def PX_mo_asked_10 (S : sS) (first : Int) : Prop := (LSP S) ∧ (0 ≤ Xi S 904 15) ∧ (RBD S) ∧ (Xi S 904 70 = 10) ∧ (0 ≤ Xi S 904 71 ∧ Xi S 904 71 ≤ 2600 ∧ 0 ≤ Xi S 904 72 ∧ Xi S 904 72 ≤ 2600) ∧ (PLO S (Xi S 904 71) (Xi S 904 72).toNat (wK S)) ∧ (0 ≤ Xi S 904 49 ∧ Xi S 904 49 ≤ 100 ∧ 0 ≤ Xi S 904 18 ∧ Xi S 904 18 ≤ 100 ∧ 0 ≤ Xi S 904 16 ∧ Xi S 904 16 ≤ 100)
def QX_mo_asked_10 (S S1 : sS) (first : Int) : Prop := (RKD S (Xi S 904 71) (cK S) (mK S) (Xi S 904 72).toNat (wK S) (NT3 S1)) ∧ FR md_mo_asked__10 S S1 ∧ FR md_mo_asked__10f S S1
theorem a_mo_asked_10 {S : sS} (hH : RI S) (first : Int) (hf : 0 ≤ first ∧ first ≤ 5001) (hp : PX_mo_asked_10 S first) (d : Nat) : Mp lay0 (d + 13) m_mo_asked [.ref 904, iv first] S (fun r S1 => RI S1 ∧ FR md_mo_asked__a S S1 ∧ (r = none ∧ QX_mo_asked_10 S S1 first)) := by sorry
def PX_mo_asked_11 (S : sS) (first : Int) : Prop := (LSP S) ∧ (0 ≤ Xi S 904 15) ∧ (RBD S) ∧ (Xi S 904 70 = 11) ∧ (0 ≤ Xi S 904 71 ∧ Xi S 904 71 ≤ 2600 ∧ 0 ≤ Xi S 904 72 ∧ Xi S 904 72 ≤ 2600) ∧ (PLO S (Xi S 904 71) (Xi S 904 72).toNat (wK S)) ∧ (0 ≤ Xi S 904 49 ∧ Xi S 904 49 ≤ 100 ∧ 0 ≤ Xi S 904 18 ∧ Xi S 904 18 ≤ 100 ∧ 0 ≤ Xi S 904 16 ∧ Xi S 904 16 ≤ 100)
def QX_mo_asked_11 (S S1 : sS) (first : Int) : Prop := (RKD S (Xi S 904 71) (cK S) (mK S) (Xi S 904 72).toNat (wK S) (NT3 S1)) ∧ FR md_mo_asked__11 S S1 ∧ FR md_mo_asked__11f S S1
theorem a_mo_asked_11 {S : sS} (hH : RI S) (first : Int) (hf : 0 ≤ first ∧ first ≤ 5001) (hp : PX_mo_asked_11 S first) (d : Nat) : Mp lay0 (d + 13) m_mo_asked [.ref 904, iv first] S (fun r S1 => RI S1 ∧ FR md_mo_asked__a S S1 ∧ (r = none ∧ QX_mo_asked_11 S S1 first)) := by sorry
def PX_mo_asked_12 (S : sS) (first : Int) : Prop := (LSP S) ∧ (0 ≤ Xi S 904 15) ∧ (RBD S) ∧ (LXR S) ∧ (ABV S) ∧ (0 ≤ Xi S 904 19 ∧ Xi S 904 19 ≤ 24) ∧ (Hid (∀ j : Nat, -1 ≤ Xi S 918 j ∧ Xi S 918 j ≤ 15)) ∧ (0 ≤ Xi S 904 71 ∧ Xi S 904 71 ≤ 2600 ∧ 0 ≤ Xi S 904 72 ∧ Xi S 904 72 ≤ 2600) ∧ (Hid (∀ k : Nat, (k : Int) < Xi S 904 15 → Xi S 914 k ≤ 1 → Xi S 915 k ≤ 15)) ∧ (0 ≤ Xi S 904 32 ∧ Xi S 904 32 ≤ 12) ∧ (-1 ≤ Xi S 904 74 ∧ Xi S 904 74 ≤ 2600) ∧ (PLL S (Xi S 904 71) (Xi S 904 72).toNat) ∧ (Xi S 904 70 = 12) ∧ (Hid ((∀ k : Nat, k < (Xi S 904 72).toNat → pR S (Xi S 904 71 + k) < pR S (Xi S 904 78)) ∧ (Xi S 904 73 ≠ 0 → pR S (Xi S 904 78) < pR S (Xi S 904 74)))) ∧ (0 ≤ fW S ∧ fW S ≤ 5100 ∧ 0 ≤ nW S ∧ nW S ≤ 5100) ∧ (0 ≤ Xi S 904 78 ∧ Xi S 904 78 ≤ 2600)
def QX_mo_asked_12 (S S1 : sS) (first : Int) : Prop := (RO12 S S1 1) ∧ FR md_mo_asked__12 S S1 ∧ FR md_mo_asked__12f S S1
theorem a_mo_asked_12 {S : sS} (hH : RI S) (first : Int) (hf : 0 ≤ first ∧ first ≤ 5001) (hp : PX_mo_asked_12 S first) (d : Nat) : Mp lay0 (d + 13) m_mo_asked [.ref 904, iv first] S (fun r S1 => RI S1 ∧ FR md_mo_asked__a S S1 ∧ (r = none ∧ QX_mo_asked_12 S S1 first)) := by sorry
def PX_mo_asked_13 (S : sS) (first : Int) : Prop := (LSP S) ∧ (0 ≤ Xi S 904 15) ∧ (RBD S) ∧ (LXR S) ∧ (ABV S) ∧ (0 ≤ Xi S 904 19 ∧ Xi S 904 19 ≤ 24) ∧ (Hid (∀ j : Nat, -1 ≤ Xi S 918 j ∧ Xi S 918 j ≤ 15)) ∧ (0 ≤ Xi S 904 71 ∧ Xi S 904 71 ≤ 2600 ∧ 0 ≤ Xi S 904 72 ∧ Xi S 904 72 ≤ 2600) ∧ (Hid (∀ k : Nat, (k : Int) < Xi S 904 15 → Xi S 914 k ≤ 1 → Xi S 915 k ≤ 15)) ∧ (0 ≤ Xi S 904 32 ∧ Xi S 904 32 ≤ 12) ∧ (-1 ≤ Xi S 904 74 ∧ Xi S 904 74 ≤ 2600) ∧ (PLL S (Xi S 904 71) (Xi S 904 72).toNat) ∧ (Xi S 904 70 = 13) ∧ (Hid (Xi S 904 73 ≠ 0 → ∀ k : Nat, k < (Xi S 904 72).toNat → pR S (Xi S 904 71 + k) < pR S (Xi S 904 74)))
def QX_mo_asked_13 (S S1 : sS) (first : Int) : Prop := (RO12 S S1 0) ∧ FR md_mo_asked__13 S S1 ∧ FR md_mo_asked__13f S S1
theorem a_mo_asked_13 {S : sS} (hH : RI S) (first : Int) (hf : 0 ≤ first ∧ first ≤ 5001) (hp : PX_mo_asked_13 S first) (d : Nat) : Mp lay0 (d + 13) m_mo_asked [.ref 904, iv first] S (fun r S1 => RI S1 ∧ FR md_mo_asked__a S S1 ∧ (r = none ∧ QX_mo_asked_13 S S1 first)) := by sorry
def PX_mo_asked_14 (S : sS) (first : Int) : Prop := (LSP S) ∧ (0 ≤ Xi S 904 15) ∧ (RBD S) ∧ (Xi S 904 70 = 14) ∧ (ABV S) ∧ (0 ≤ Xi S 904 19 ∧ Xi S 904 19 ≤ 24) ∧ (Hid (∀ j : Nat, -1 ≤ Xi S 918 j ∧ Xi S 918 j ≤ 15)) ∧ (0 ≤ Xi S 904 71 ∧ Xi S 904 71 ≤ 2600 ∧ -2 ≤ Xi S 904 78 ∧ Xi S 904 78 ≤ 2600 ∧ -1 ≤ Xi S 904 74 ∧ Xi S 904 74 ≤ 2600 ∧ 0 ≤ Xi S 904 72 ∧ Xi S 904 72 ≤ 2600) ∧ (Hid ((1 < Xi S 904 72 → pR S (Xi S 904 71) < pR S (Xi S 904 71 + 1) ∧ pR S (Xi S 904 71 + 1) < pR S (Xi S 904 78)) ∧ pR S (Xi S 904 71) < pR S (Xi S 904 78) ∧ pR S (Xi S 904 78) < pR S (Xi S 904 74)))
def QX_mo_asked_14 (S S1 : sS) (first : Int) : Prop := (RW14 S (NT3 S1)) ∧ FR md_mo_asked__14 S S1 ∧ FR md_mo_asked__14f S S1
theorem a_mo_asked_14 {S : sS} (hH : RI S) (first : Int) (hf : 0 ≤ first ∧ first ≤ 5001) (hp : PX_mo_asked_14 S first) (d : Nat) : Mp lay0 (d + 13) m_mo_asked [.ref 904, iv first] S (fun r S1 => RI S1 ∧ FR md_mo_asked__a S S1 ∧ (r = none ∧ QX_mo_asked_14 S S1 first)) := by sorry
def PX_mo_asked_15a (S : sS) (first : Int) : Prop := (LSP S) ∧ (0 ≤ Xi S 904 15) ∧ (RBD S) ∧ (LXR S) ∧ (ABV S) ∧ (Xi S 904 76 ≠ 0) ∧ (0 ≤ Xi S 904 32 ∧ Xi S 904 32 ≤ 12) ∧ (rnR S (Xi S 904 71) 0 ≤ 15) ∧ (0 ≤ Xi S 950 (Xi S 904 78).toNat ∧ Xi S 950 (Xi S 904 78).toNat ≤ 5100) ∧ (0 ≤ Xi S 904 71 ∧ Xi S 904 71 ≤ 2600) ∧ (Hid (1 < Xi S 904 72 → pR S (Xi S 904 71) < pR S (Xi S 904 71 + 1))) ∧ (Hid (1 < Xi S 904 72 → pR S (Xi S 904 71 + 1) < Xi S 908 (fW S).toNat)) ∧ (Xi S 904 70 = 15)
def QX_mo_asked_15a (S S1 : sS) (first : Int) : Prop := (∃ P : sS, FR lA S P ∧ (Xi P 904 106 = 0 ∧ Xi P 904 108 = 0) ∧ RAU P S1) ∧ FR md_mo_asked__15a S S1 ∧ FR md_mo_asked__15af S S1
theorem a_mo_asked_15a {S : sS} (hH : RI S) (first : Int) (hf : 0 ≤ first ∧ first ≤ 5001) (hp : PX_mo_asked_15a S first) (d : Nat) : Mp lay0 (d + 13) m_mo_asked [.ref 904, iv first] S (fun r S1 => RI S1 ∧ FR md_mo_asked__a S S1 ∧ (r = none ∧ QX_mo_asked_15a S S1 first)) := by sorry
def PX_mo_asked_15b (S : sS) (first : Int) : Prop := (LSP S) ∧ (0 ≤ Xi S 904 15) ∧ (RBD S) ∧ (Xi S 904 76 = 0) ∧ (0 ≤ Xi S 904 78 ∧ Xi S 904 78 ≤ Xi S 904 69 ∧ Xi S 904 69 ≤ 2600) ∧ (0 ≤ Xi S 904 30 ∧ Xi S 904 30 ≤ 64) ∧ (0 ≤ Xi S 904 71 ∧ Xi S 904 71 ≤ 2600) ∧ (Xi S 904 70 = 15 ∧ Xi S 904 72 = 1 ∧ 1 < r2R S (Xi S 904 71) 2 3 ∧ Xi S 904 75 = 0)
def QX_mo_asked_15b (S S1 : sS) (first : Int) : Prop := (∃ P : sS, FR lA S P ∧ (Xi P 904 106 = 0 ∧ Xi P 904 108 = 0) ∧ RAW md_mo_askFifteen__3 P S1) ∧ FR md_mo_asked__15b S S1 ∧ FR md_mo_asked__15bf S S1
theorem a_mo_asked_15b {S : sS} (hH : RI S) (first : Int) (hf : 0 ≤ first ∧ first ≤ 5001) (hp : PX_mo_asked_15b S first) (d : Nat) : Mp lay0 (d + 13) m_mo_asked [.ref 904, iv first] S (fun r S1 => RI S1 ∧ FR md_mo_asked__a S S1 ∧ (r = none ∧ QX_mo_asked_15b S S1 first)) := by sorry
def PX_mo_asked_15c (S : sS) (first : Int) : Prop := (LSP S) ∧ (0 ≤ Xi S 904 15) ∧ (RBD S) ∧ (LXR S) ∧ (ABV S) ∧ (Hid (∀ j : Nat, -1 ≤ Xi S 918 j ∧ Xi S 918 j ≤ 15)) ∧ (0 ≤ Xi S 904 71 ∧ Xi S 904 71 ≤ 2600 ∧ 0 ≤ Xi S 904 72 ∧ Xi S 904 72 ≤ 2600) ∧ (0 ≤ Xi S 904 19 ∧ Xi S 904 19 ≤ 24) ∧ (Hid (∀ k : Nat, (k : Int) < Xi S 904 15 → Xi S 914 k ≤ 1 → Xi S 915 k ≤ 15)) ∧ (0 ≤ Xi S 904 32 ∧ Xi S 904 32 ≤ 12) ∧ (Xi S 904 76 = 0) ∧ (Xi S 904 70 = 15) ∧ (Hid (1 < tU5 S → Xi S 904 75 ≠ 0)) ∧ (0 ≤ fW S ∧ fW S ≤ 5100 ∧ 0 ≤ nW S ∧ nW S ≤ 5100) ∧ (PLL S (Xi S 904 71) (Xi S 904 72).toNat)
def QX_mo_asked_15c (S S1 : sS) (first : Int) : Prop := (∃ P : sS, FR lA S P ∧ (Xi P 904 106 = 0 ∧ Xi P 904 108 = 0) ∧ RAX P S1) ∧ FR md_mo_asked__15c S S1 ∧ FR md_mo_asked__15cf S S1
theorem a_mo_asked_15c {S : sS} (hH : RI S) (first : Int) (hf : 0 ≤ first ∧ first ≤ 5001) (hp : PX_mo_asked_15c S first) (d : Nat) : Mp lay0 (d + 13) m_mo_asked [.ref 904, iv first] S (fun r S1 => RI S1 ∧ FR md_mo_asked__a S S1 ∧ (r = none ∧ QX_mo_asked_15c S S1 first)) := by sorry
def PX_mo_asked_16 (S : sS) (first : Int) : Prop := (LSP S) ∧ (0 ≤ Xi S 904 15) ∧ (RBD S) ∧ (Xi S 904 76 = 0) ∧ (0 ≤ Xi S 904 78 ∧ Xi S 904 78 ≤ Xi S 904 69 ∧ Xi S 904 69 ≤ 2600) ∧ (0 ≤ Xi S 904 30 ∧ Xi S 904 30 ≤ 64) ∧ (0 ≤ Xi S 904 71 ∧ Xi S 904 71 ≤ 2600) ∧ (Xi S 904 70 = 16)
def QX_mo_asked_16 (S S1 : sS) (first : Int) : Prop := (∃ P : sS, FR lA S P ∧ (Xi P 904 106 = 0 ∧ Xi P 904 108 = 0) ∧ RAW md_mo_askFifteen__2 P S1) ∧ FR md_mo_asked__16 S S1 ∧ FR md_mo_asked__16f S S1
theorem a_mo_asked_16 {S : sS} (hH : RI S) (first : Int) (hf : 0 ≤ first ∧ first ≤ 5001) (hp : PX_mo_asked_16 S first) (d : Nat) : Mp lay0 (d + 13) m_mo_asked [.ref 904, iv first] S (fun r S1 => RI S1 ∧ FR md_mo_asked__a S S1 ∧ (r = none ∧ QX_mo_asked_16 S S1 first)) := by sorry
def PX_mo_asked_17 (S : sS) (first : Int) : Prop := (LSP S) ∧ (0 ≤ Xi S 904 15) ∧ (RBD S) ∧ (Xi S 904 70 = 17) ∧ (pR S 0 < pR S 1 ∧ pR S 1 < pR S 2) ∧ (0 ≤ Xi S 904 32 ∧ Xi S 904 32 ≤ 12)
def QX_mo_asked_17 (S S1 : sS) (first : Int) : Prop := (RHAS S (NT3 S1)) ∧ FR md_mo_asked__17 S S1 ∧ FR md_mo_asked__17f S S1
theorem a_mo_asked_17 {S : sS} (hH : RI S) (first : Int) (hf : 0 ≤ first ∧ first ≤ 5001) (hp : PX_mo_asked_17 S first) (d : Nat) : Mp lay0 (d + 13) m_mo_asked [.ref 904, iv first] S (fun r S1 => RI S1 ∧ FR md_mo_asked__a S S1 ∧ (r = none ∧ QX_mo_asked_17 S S1 first)) := by sorry
def PX_mo_asked_18 (S : sS) (first : Int) : Prop := (LSP S) ∧ (0 ≤ Xi S 904 15) ∧ (RBD S) ∧ (Xi S 904 70 = 18) ∧ (pR S 0 < pR S 1 ∧ pR S 1 < pR S 2) ∧ (0 ≤ Xi S 904 23 ∧ Xi S 904 23 ≤ 24)
def QX_mo_asked_18 (S S1 : sS) (first : Int) : Prop := (RCAN S (NT3 S1)) ∧ FR md_mo_asked__18 S S1 ∧ FR md_mo_asked__18f S S1
theorem a_mo_asked_18 {S : sS} (hH : RI S) (first : Int) (hf : 0 ≤ first ∧ first ≤ 5001) (hp : PX_mo_asked_18 S first) (d : Nat) : Mp lay0 (d + 13) m_mo_asked [.ref 904, iv first] S (fun r S1 => RI S1 ∧ FR md_mo_asked__a S S1 ∧ (r = none ∧ QX_mo_asked_18 S S1 first)) := by sorry
def PX_mo_asked_19 (S : sS) (first : Int) : Prop := (LSP S) ∧ (0 ≤ Xi S 904 15) ∧ (RBD S) ∧ (Xi S 904 70 = 19) ∧ (pR S 0 < pR S 1 ∧ pR S 1 < pR S 2) ∧ (0 ≤ Xi S 904 41 ∧ Xi S 904 41 ≤ 6)
def QX_mo_asked_19 (S S1 : sS) (first : Int) : Prop := (RREL S (NT3 S1)) ∧ FR md_mo_asked__19 S S1 ∧ FR md_mo_asked__19f S S1
theorem a_mo_asked_19 {S : sS} (hH : RI S) (first : Int) (hf : 0 ≤ first ∧ first ≤ 5001) (hp : PX_mo_asked_19 S first) (d : Nat) : Mp lay0 (d + 13) m_mo_asked [.ref 904, iv first] S (fun r S1 => RI S1 ∧ FR md_mo_asked__a S S1 ∧ (r = none ∧ QX_mo_asked_19 S S1 first)) := by sorry
def PX_mo_asked_20 (S : sS) (dd : Nat) (first : Int) : Prop := (LSP S) ∧ (0 ≤ Xi S 904 15) ∧ (ABV S) ∧ (Hid (∀ j : Nat, -1 ≤ Xi S 918 j ∧ Xi S 918 j ≤ 15)) ∧ (first ≤ (dd : Int) ∧ (dd : Int) ≤ 5001) ∧ (Xi S 907 dd = 46) ∧ (Hid (∀ j : Nat, first ≤ (j : Int) → j < dd → Xi S 907 j ≠ 46)) ∧ (Xi S 904 70 = 20)
def QX_mo_asked_20 (S S1 : sS) (dd : Nat) (first : Int) : Prop := (∃ P : sS, FR lA S P ∧ (Xi P 904 106 = 0 ∧ Xi P 904 108 = 0) ∧ RSY P S1 first dd) ∧ FR md_mo_asked__20 S S1 ∧ FR md_mo_asked__20f S S1
theorem a_mo_asked_20 {S : sS} (hH : RI S) (dd : Nat) (first : Int) (hf : 0 ≤ first ∧ first ≤ 5001) (hp : PX_mo_asked_20 S dd first) (d : Nat) : Mp lay0 (d + 13) m_mo_asked [.ref 904, iv first] S (fun r S1 => RI S1 ∧ FR md_mo_asked__a S S1 ∧ (r = none ∧ QX_mo_asked_20 S S1 dd first)) := by sorry
def AKP (S : sS) (dd : Nat) (first : Int) : Prop := (0 ≤ Xi S 904 70 ∧ Xi S 904 70 ≤ 20) ∧ (Xi S 904 70 = 0 → PX_mo_asked_0 S first) ∧ (Xi S 904 70 = 1 → PX_mo_asked_1 S first) ∧ (Xi S 904 70 = 2 → PX_mo_asked_2 S first) ∧ (3 ≤ Xi S 904 70 ∧ Xi S 904 70 ≤ 6 → PX_mo_asked_3 S first) ∧ (Xi S 904 70 = 7 → PX_mo_asked_7 S first) ∧ (Xi S 904 70 = 8 → PX_mo_asked_8 S first) ∧ (Xi S 904 70 = 9 → PX_mo_asked_9 S first) ∧ (Xi S 904 70 = 10 → PX_mo_asked_10 S first) ∧ (Xi S 904 70 = 11 → PX_mo_asked_11 S first) ∧ (Xi S 904 70 = 12 → PX_mo_asked_12 S first) ∧ (Xi S 904 70 = 13 → PX_mo_asked_13 S first) ∧ (Xi S 904 70 = 14 → PX_mo_asked_14 S first) ∧ (Xi S 904 70 = 15 ∧ Xi S 904 76 ≠ 0 → PX_mo_asked_15a S first) ∧ (Xi S 904 70 = 15 ∧ Xi S 904 76 = 0 ∧ (Xi S 904 72 = 1 ∧ 1 < r2R S (Xi S 904 71) 2 3 ∧ Xi S 904 75 = 0) → PX_mo_asked_15b S first) ∧ (Xi S 904 70 = 15 ∧ Xi S 904 76 = 0 ∧ ¬ (Xi S 904 72 = 1 ∧ 1 < r2R S (Xi S 904 71) 2 3 ∧ Xi S 904 75 = 0) → PX_mo_asked_15c S first) ∧ (Xi S 904 70 = 16 → PX_mo_asked_16 S first) ∧ (Xi S 904 70 = 17 → PX_mo_asked_17 S first) ∧ (Xi S 904 70 = 18 → PX_mo_asked_18 S first) ∧ (Xi S 904 70 = 19 → PX_mo_asked_19 S first) ∧ (Xi S 904 70 = 20 → PX_mo_asked_20 S dd first)
def AKQ (S S1 : sS) (dd : Nat) (first : Int) : Prop := (Xi S 904 70 = 0 → QX_mo_asked_0 S S1 first) ∧ (Xi S 904 70 = 1 → QX_mo_asked_1 S S1 first) ∧ (Xi S 904 70 = 2 → QX_mo_asked_2 S S1 first) ∧ (3 ≤ Xi S 904 70 ∧ Xi S 904 70 ≤ 6 → QX_mo_asked_3 S S1 first) ∧ (Xi S 904 70 = 7 → QX_mo_asked_7 S S1 first) ∧ (Xi S 904 70 = 8 → QX_mo_asked_8 S S1 first) ∧ (Xi S 904 70 = 9 → QX_mo_asked_9 S S1 first) ∧ (Xi S 904 70 = 10 → QX_mo_asked_10 S S1 first) ∧ (Xi S 904 70 = 11 → QX_mo_asked_11 S S1 first) ∧ (Xi S 904 70 = 12 → QX_mo_asked_12 S S1 first) ∧ (Xi S 904 70 = 13 → QX_mo_asked_13 S S1 first) ∧ (Xi S 904 70 = 14 → QX_mo_asked_14 S S1 first) ∧ (Xi S 904 70 = 15 ∧ Xi S 904 76 ≠ 0 → QX_mo_asked_15a S S1 first) ∧ (Xi S 904 70 = 15 ∧ Xi S 904 76 = 0 ∧ (Xi S 904 72 = 1 ∧ 1 < r2R S (Xi S 904 71) 2 3 ∧ Xi S 904 75 = 0) → QX_mo_asked_15b S S1 first) ∧ (Xi S 904 70 = 15 ∧ Xi S 904 76 = 0 ∧ ¬ (Xi S 904 72 = 1 ∧ 1 < r2R S (Xi S 904 71) 2 3 ∧ Xi S 904 75 = 0) → QX_mo_asked_15c S S1 first) ∧ (Xi S 904 70 = 16 → QX_mo_asked_16 S S1 first) ∧ (Xi S 904 70 = 17 → QX_mo_asked_17 S S1 first) ∧ (Xi S 904 70 = 18 → QX_mo_asked_18 S S1 first) ∧ (Xi S 904 70 = 19 → QX_mo_asked_19 S S1 first) ∧ (Xi S 904 70 = 20 → QX_mo_asked_20 S S1 dd first)
abbrev Q_mo_asked__a (S : sS) (dd : Nat) (first : Int) : pst := fun r S1 => RI S1 ∧ FR md_mo_asked__a S S1 ∧ (r = none ∧ (AKQ S S1 dd first))
theorem t_mo_asked__a {S : sS} (hH : RI S) (dd : Nat) (first : Int) (hfirst : 0 ≤ first ∧ first ≤ 5001) (hp : AKP S dd first) (d : Nat) : Mp lay0 (d + 13) m_mo_asked [.ref 904, iv first] S (Q_mo_asked__a S dd first) := by sorry
def md_mo_does__a : List rec := [(904, 905, 15, 16), (904, 905, 16, 17), (904, 905, 18, 19), (904, 905, 19, 20), (904, 905, 23, 24), (904, 905, 30, 31), (904, 905, 32, 33), (904, 905, 41, 42), (904, 905, 47, 48), (904, 905, 49, 50), (904, 905, 51, 52), (904, 905, 55, 56), (904, 905, 60, 61), (904, 905, 64, 65), (904, 905, 73, 74), (904, 905, 105, 106), (904, 905, 106, 107), (904, 905, 113, 114), (904, 905, 117, 118), (912, 913, 0, 100000), (913, 914, 0, 100000), (914, 915, 0, 100000), (915, 916, 0, 100000), (916, 917, 0, 100000), (917, 918, 0, 100000), (918, 919, 0, 100000), (919, 920, 0, 100000), (920, 921, 0, 100000), (921, 922, 0, 100000), (922, 923, 0, 100000), (923, 924, 0, 100000), (924, 925, 0, 100000), (925, 926, 0, 100000), (926, 927, 0, 100000), (927, 928, 0, 100000), (928, 929, 0, 100000), (929, 930, 0, 100000), (930, 931, 0, 100000), (931, 932, 0, 100000), (932, 933, 0, 100000), (933, 934, 0, 100000), (934, 935, 0, 100000), (935, 936, 0, 100000), (936, 937, 0, 100000), (937, 938, 0, 100000), (938, 939, 0, 100000), (939, 940, 0, 100000), (940, 941, 0, 100000), (941, 942, 0, 100000), (942, 943, 0, 100000), (943, 944, 0, 100000), (944, 945, 0, 100000), (945, 946, 0, 100000), (946, 947, 0, 100000), (947, 948, 0, 100000), (948, 949, 0, 100000), (949, 950, 0, 100000)]
def PX_mo_does_0 (S : sS) (first : Int) : Prop := (Xi S 904 70 = 0) ∧ (Xi S 904 106 = 0) ∧ (0 ≤ Xi S 904 60 ∧ Xi S 904 60 ≤ 23) ∧ (-1 ≤ Xi S 908 (Xi S 904 81).toNat ∧ Xi S 908 (Xi S 904 81).toNat ≤ 100000)
def QX_mo_does_0 (S S1 : sS) (first : Int) : Prop := (RD0 S S1 first) ∧ FR md_mo_does__0 S S1 ∧ FR md_mo_does__0f S S1
theorem a_mo_does_0 {S : sS} (hH : RI S) (first : Int) (hf : 0 ≤ first ∧ first ≤ 5001) (hp : PX_mo_does_0 S first) (d : Nat) : Mp lay0 (d + 8) m_mo_does [.ref 904, iv first] S (fun r S1 => RI S1 ∧ FR md_mo_does__a S S1 ∧ (r = none ∧ QX_mo_does_0 S S1 first)) := by sorry
def PX_mo_does_1 (S : sS) (first : Int) : Prop := (LSP S) ∧ (0 ≤ Xi S 904 15) ∧ (RBD S) ∧ (0 ≤ Xi S 904 55 ∧ Xi S 904 55 ≤ 19) ∧ (Xi S 904 70 = 1)
def QX_mo_does_1 (S S1 : sS) (first : Int) : Prop := (RDCM S S1) ∧ FR md_mo_does__1 S S1 ∧ FR md_mo_does__1f S S1
theorem a_mo_does_1 {S : sS} (hH : RI S) (first : Int) (hf : 0 ≤ first ∧ first ≤ 5001) (hp : PX_mo_does_1 S first) (d : Nat) : Mp lay0 (d + 8) m_mo_does [.ref 904, iv first] S (fun r S1 => RI S1 ∧ FR md_mo_does__a S S1 ∧ (r = none ∧ QX_mo_does_1 S S1 first)) := by sorry
def PX_mo_does_2 (S : sS) (first : Int) : Prop := (LSP S) ∧ (0 ≤ Xi S 904 15) ∧ (RBD S) ∧ (0 ≤ Xi S 904 23 ∧ Xi S 904 23 ≤ 30) ∧ (0 ≤ Xi S 904 94 ∧ Xi S 904 94 ≤ 1700) ∧ (0 ≤ Xi S 904 117 ∧ Xi S 904 117 ≤ 2400) ∧ (Xi S 904 70 = 2)
def QX_mo_does_2 (S S1 : sS) (first : Int) : Prop := (RD2 md_mo_addAdjective__p S S1) ∧ FR md_mo_does__2 S S1 ∧ FR md_mo_does__2f S S1
theorem a_mo_does_2 {S : sS} (hH : RI S) (first : Int) (hf : 0 ≤ first ∧ first ≤ 5001) (hp : PX_mo_does_2 S first) (d : Nat) : Mp lay0 (d + 8) m_mo_does [.ref 904, iv first] S (fun r S1 => RI S1 ∧ FR md_mo_does__a S S1 ∧ (r = none ∧ QX_mo_does_2 S S1 first)) := by sorry
def PX_mo_does_3 (S : sS) (first : Int) : Prop := (3 ≤ Xi S 904 70 ∧ Xi S 904 70 ≤ 6)
def QX_mo_does_3 (S S1 : sS) (first : Int) : Prop := (S1 = S) ∧ FR md_mo_does__3 S S1
theorem a_mo_does_3 {S : sS} (hH : RI S) (first : Int) (hf : 0 ≤ first ∧ first ≤ 5001) (hp : PX_mo_does_3 S first) (d : Nat) : Mp lay0 (d + 8) m_mo_does [.ref 904, iv first] S (fun r S1 => RI S1 ∧ FR md_mo_does__a S S1 ∧ (r = none ∧ QX_mo_does_3 S S1 first)) := by sorry
def PX_mo_does_7 (S : sS) (first : Int) : Prop := (LSP S) ∧ (0 ≤ Xi S 904 15) ∧ (RBD S) ∧ (Xi S 904 70 = 7) ∧ (0 ≤ Xi S 904 47 ∧ Xi S 904 47 ≤ 8)
def QX_mo_does_7 (S S1 : sS) (first : Int) : Prop := (RD7 S S1) ∧ FR md_mo_does__7 S S1 ∧ FR md_mo_does__7f S S1
theorem a_mo_does_7 {S : sS} (hH : RI S) (first : Int) (hf : 0 ≤ first ∧ first ≤ 5001) (hp : PX_mo_does_7 S first) (d : Nat) : Mp lay0 (d + 8) m_mo_does [.ref 904, iv first] S (fun r S1 => RI S1 ∧ FR md_mo_does__a S S1 ∧ (r = none ∧ QX_mo_does_7 S S1 first)) := by sorry
def PX_mo_does_8 (S : sS) (first : Int) : Prop := (LSP S) ∧ (0 ≤ Xi S 904 15) ∧ (RBD S) ∧ (Xi S 904 70 = 8) ∧ (Xi S 904 15 ≤ 100000)
def QX_mo_does_8 (S S1 : sS) (first : Int) : Prop := (RD8 S S1) ∧ FR md_mo_does__8 S S1 ∧ FR md_mo_does__8f S S1
theorem a_mo_does_8 {S : sS} (hH : RI S) (first : Int) (hf : 0 ≤ first ∧ first ≤ 5001) (hp : PX_mo_does_8 S first) (d : Nat) : Mp lay0 (d + 8) m_mo_does [.ref 904, iv first] S (fun r S1 => RI S1 ∧ FR md_mo_does__a S S1 ∧ (r = none ∧ QX_mo_does_8 S S1 first)) := by sorry
def PX_mo_does_9 (S : sS) (first : Int) : Prop := (LSP S) ∧ (0 ≤ Xi S 904 15) ∧ (RBD S) ∧ (LXR S) ∧ (Xi S 904 106 = 0) ∧ (rnR S 0 7 ≠ -1) ∧ (rnR S 1 4 = -1 → rnR S 1 0 ≠ -1) ∧ (Xi S 904 70 = 9)
def QX_mo_does_9 (S S1 : sS) (first : Int) : Prop := (RD9 S S1) ∧ FR md_mo_does__9 S S1 ∧ FR md_mo_does__9f S S1
theorem a_mo_does_9 {S : sS} (hH : RI S) (first : Int) (hf : 0 ≤ first ∧ first ≤ 5001) (hp : PX_mo_does_9 S first) (d : Nat) : Mp lay0 (d + 8) m_mo_does [.ref 904, iv first] S (fun r S1 => RI S1 ∧ FR md_mo_does__a S S1 ∧ (r = none ∧ QX_mo_does_9 S S1 first)) := by sorry
def PX_mo_does_10 (S : sS) (first : Int) : Prop := (LSP S) ∧ (0 ≤ Xi S 904 15) ∧ (RBD S) ∧ (LXR S) ∧ (0 ≤ Xi S 904 71 ∧ Xi S 904 71 ≤ 2600 ∧ 0 ≤ Xi S 904 72 ∧ Xi S 904 72 ≤ 2600) ∧ (Xi S 904 70 = 10) ∧ (0 ≤ Xi S 904 16 ∧ Xi S 904 16 ≤ 16 ∧ 0 ≤ Xi S 904 18 ∧ Xi S 904 18 ≤ 8) ∧ (cKR S + Xi S 904 72 ≤ 16) ∧ (Xi S 904 15 ≤ 100000)
def QX_mo_does_10 (S S1 : sS) (first : Int) : Prop := (RD10 S S1) ∧ FR md_mo_does__10 S S1 ∧ FR md_mo_does__10f S S1
theorem a_mo_does_10 {S : sS} (hH : RI S) (first : Int) (hf : 0 ≤ first ∧ first ≤ 5001) (hp : PX_mo_does_10 S first) (d : Nat) : Mp lay0 (d + 8) m_mo_does [.ref 904, iv first] S (fun r S1 => RI S1 ∧ FR md_mo_does__a S S1 ∧ (r = none ∧ QX_mo_does_10 S S1 first)) := by sorry
def PX_mo_does_11 (S : sS) (first : Int) : Prop := (LSP S) ∧ (0 ≤ Xi S 904 15) ∧ (RBD S) ∧ (LXR S) ∧ (0 ≤ Xi S 904 71 ∧ Xi S 904 71 ≤ 2600 ∧ 0 ≤ Xi S 904 72 ∧ Xi S 904 72 ≤ 2600) ∧ (Xi S 904 70 = 11) ∧ (Hid (Xi S 904 78 ≠ -1 → rnR S (Xi S 904 78) 0 ≠ -1)) ∧ (0 ≤ Xi S 904 49 ∧ Xi S 904 49 + Xi S 904 72 ≤ 12) ∧ (Xi S 904 15 ≤ 100000)
def QX_mo_does_11 (S S1 : sS) (first : Int) : Prop := (RD11 S S1) ∧ FR md_mo_does__11 S S1 ∧ FR md_mo_does__11f S S1
theorem a_mo_does_11 {S : sS} (hH : RI S) (first : Int) (hf : 0 ≤ first ∧ first ≤ 5001) (hp : PX_mo_does_11 S first) (d : Nat) : Mp lay0 (d + 8) m_mo_does [.ref 904, iv first] S (fun r S1 => RI S1 ∧ FR md_mo_does__a S S1 ∧ (r = none ∧ QX_mo_does_11 S S1 first)) := by sorry
def PX_mo_does_12 (S : sS) (first : Int) : Prop := (LSP S) ∧ (0 ≤ Xi S 904 15) ∧ (RBD S) ∧ (LXR S) ∧ (ABV S) ∧ (0 ≤ Xi S 904 71 ∧ Xi S 904 71 ≤ 2600 ∧ 0 ≤ Xi S 904 72 ∧ Xi S 904 72 ≤ 2600) ∧ (Hid (KB3 S)) ∧ (Hid (OB4 S)) ∧ (Hid (∀ j : Nat, -1 ≤ Xi S 922 j ∧ Xi S 922 j ≤ 23)) ∧ (Xi S 904 106 = 0) ∧ (0 ≤ Xi S 904 19 ∧ Xi S 904 19 ≤ 24) ∧ (-1 ≤ Xi S 904 74 ∧ Xi S 904 74 ≤ 2600) ∧ (Hid (LOQ S (Xi S 904 71) (Xi S 904 72).toNat)) ∧ (-1 ≤ Xi S 904 110 ∧ Xi S 904 110 ≤ 15) ∧ (0 ≤ Xi S 904 112 ∧ Xi S 904 112 ≤ 6) ∧ (Hid (Xi S 904 70 ≠ 13 → ∀ i : Nat, (i : Int) < Xi S 904 112 → 0 ≤ Xi S 967 i ∧ Xi S 967 i ≤ 7000)) ∧ (Xi S 904 70 = 12)
def QX_mo_does_12 (S S1 : sS) (first : Int) : Prop := (RDB S S1) ∧ FR md_mo_does__12 S S1 ∧ FR md_mo_does__12f S S1
theorem a_mo_does_12 {S : sS} (hH : RI S) (first : Int) (hf : 0 ≤ first ∧ first ≤ 5001) (hp : PX_mo_does_12 S first) (d : Nat) : Mp lay0 (d + 8) m_mo_does [.ref 904, iv first] S (fun r S1 => RI S1 ∧ FR md_mo_does__a S S1 ∧ (r = none ∧ QX_mo_does_12 S S1 first)) := by sorry
def PX_mo_does_13 (S : sS) (first : Int) : Prop := (LSP S) ∧ (0 ≤ Xi S 904 15) ∧ (RBD S) ∧ (LXR S) ∧ (ABV S) ∧ (0 ≤ Xi S 904 71 ∧ Xi S 904 71 ≤ 2600 ∧ 0 ≤ Xi S 904 72 ∧ Xi S 904 72 ≤ 2600) ∧ (Hid (KB3 S)) ∧ (Hid (OB4 S)) ∧ (Hid (∀ j : Nat, -1 ≤ Xi S 922 j ∧ Xi S 922 j ≤ 23)) ∧ (Xi S 904 106 = 0) ∧ (0 ≤ Xi S 904 19 ∧ Xi S 904 19 ≤ 24) ∧ (-1 ≤ Xi S 904 74 ∧ Xi S 904 74 ≤ 2600) ∧ (Hid (LOQ S (Xi S 904 71) (Xi S 904 72).toNat)) ∧ (-1 ≤ Xi S 904 110 ∧ Xi S 904 110 ≤ 15) ∧ (0 ≤ Xi S 904 112 ∧ Xi S 904 112 ≤ 6) ∧ (Hid (Xi S 904 70 ≠ 13 → ∀ i : Nat, (i : Int) < Xi S 904 112 → 0 ≤ Xi S 967 i ∧ Xi S 967 i ≤ 7000)) ∧ (Xi S 904 70 = 13)
def QX_mo_does_13 (S S1 : sS) (first : Int) : Prop := (RDB S S1) ∧ FR md_mo_does__13 S S1 ∧ FR md_mo_does__13f S S1
theorem a_mo_does_13 {S : sS} (hH : RI S) (first : Int) (hf : 0 ≤ first ∧ first ≤ 5001) (hp : PX_mo_does_13 S first) (d : Nat) : Mp lay0 (d + 8) m_mo_does [.ref 904, iv first] S (fun r S1 => RI S1 ∧ FR md_mo_does__a S S1 ∧ (r = none ∧ QX_mo_does_13 S S1 first)) := by sorry
def PX_mo_does_14 (S : sS) (first : Int) : Prop := (LSP S) ∧ (0 ≤ Xi S 904 15) ∧ (RBD S) ∧ (0 ≤ Xi S 904 71 ∧ Xi S 904 71 ≤ 2600 ∧ -2 ≤ Xi S 904 78 ∧ Xi S 904 78 ≤ 2600 ∧ -1 ≤ Xi S 904 74 ∧ Xi S 904 74 ≤ 2600 ∧ 0 ≤ Xi S 904 72 ∧ Xi S 904 72 ≤ 2600) ∧ (Xi S 904 70 = 14) ∧ (Xi S 904 106 = 0) ∧ (0 ≤ Xi S 904 19 ∧ Xi S 904 19 ≤ 24) ∧ (Hid (rnR S (Xi S 904 71) 4 = -1 → Xi S 904 19 ≤ 23)) ∧ (0 ≤ Xi S 904 51 ∧ Xi S 904 51 ≤ 144)
def QX_mo_does_14 (S S1 : sS) (first : Int) : Prop := (RD14 S S1) ∧ FR md_mo_does__14 S S1 ∧ FR md_mo_does__14f S S1
theorem a_mo_does_14 {S : sS} (hH : RI S) (first : Int) (hf : 0 ≤ first ∧ first ≤ 5001) (hp : PX_mo_does_14 S first) (d : Nat) : Mp lay0 (d + 8) m_mo_does [.ref 904, iv first] S (fun r S1 => RI S1 ∧ FR md_mo_does__a S S1 ∧ (r = none ∧ QX_mo_does_14 S S1 first)) := by sorry
def PX_mo_does_15a (S : sS) (first : Int) : Prop := (LSP S) ∧ (0 ≤ Xi S 904 15) ∧ (RBD S) ∧ (LXR S) ∧ (Hid (∀ j : Nat, -1 ≤ Xi S 922 j ∧ Xi S 922 j ≤ 23)) ∧ (Xi S 904 142 = 1) ∧ (Xi S 904 106 = 0) ∧ (rnR S (Xi S 904 71) 0 ≠ -1 ∧ rnR S (Xi S 904 71) 0 ≤ 15) ∧ (0 ≤ Xi S 967 0 ∧ Xi S 967 0 ≤ 7000) ∧ (15 ≤ Xi S 904 70 ∧ Xi S 904 70 ≤ 16)
def QX_mo_does_15a (S S1 : sS) (first : Int) : Prop := (RUS S S1) ∧ FR md_mo_does__15a S S1 ∧ FR md_mo_does__15af S S1
theorem a_mo_does_15a {S : sS} (hH : RI S) (first : Int) (hf : 0 ≤ first ∧ first ≤ 5001) (hp : PX_mo_does_15a S first) (d : Nat) : Mp lay0 (d + 8) m_mo_does [.ref 904, iv first] S (fun r S1 => RI S1 ∧ FR md_mo_does__a S S1 ∧ (r = none ∧ QX_mo_does_15a S S1 first)) := by sorry
def PX_mo_does_15b (S : sS) (first : Int) : Prop := (LSP S) ∧ (0 ≤ Xi S 904 15) ∧ (RBD S) ∧ (LXR S) ∧ (Xi S 904 142 = 2) ∧ (0 ≤ Xi S 904 78 ∧ Xi S 904 78 ≤ Xi S 904 69 ∧ Xi S 904 69 ≤ 2600) ∧ (0 ≤ Xi S 904 30 ∧ Xi S 904 30 + (Xi S 904 69 - Xi S 904 78) ≤ 64) ∧ (15 ≤ Xi S 904 70 ∧ Xi S 904 70 ≤ 16)
def QX_mo_does_15b (S S1 : sS) (first : Int) : Prop := (RD16 S S1) ∧ FR md_mo_does__15b S S1 ∧ FR md_mo_does__15bf S S1
theorem a_mo_does_15b {S : sS} (hH : RI S) (first : Int) (hf : 0 ≤ first ∧ first ≤ 5001) (hp : PX_mo_does_15b S first) (d : Nat) : Mp lay0 (d + 8) m_mo_does [.ref 904, iv first] S (fun r S1 => RI S1 ∧ FR md_mo_does__a S S1 ∧ (r = none ∧ QX_mo_does_15b S S1 first)) := by sorry
def PX_mo_does_15c (S : sS) (first : Int) : Prop := (LSP S) ∧ (0 ≤ Xi S 904 15) ∧ (RBD S) ∧ (LXR S) ∧ (ABV S) ∧ (0 ≤ Xi S 904 71 ∧ Xi S 904 71 ≤ 2600 ∧ 0 ≤ Xi S 904 72 ∧ Xi S 904 72 ≤ 2600) ∧ (Hid (KB3 S)) ∧ (Hid (OB4 S)) ∧ (Hid (∀ j : Nat, -1 ≤ Xi S 922 j ∧ Xi S 922 j ≤ 23)) ∧ (Xi S 904 106 = 0) ∧ (0 ≤ Xi S 904 19 ∧ Xi S 904 19 ≤ 24) ∧ (-1 ≤ Xi S 904 74 ∧ Xi S 904 74 ≤ 2600) ∧ (Hid (LOQ S (Xi S 904 71) (Xi S 904 72).toNat)) ∧ (-1 ≤ Xi S 904 110 ∧ Xi S 904 110 ≤ 15) ∧ (0 ≤ Xi S 904 112 ∧ Xi S 904 112 ≤ 6) ∧ (Hid (Xi S 904 70 ≠ 13 → ∀ i : Nat, (i : Int) < Xi S 904 112 → 0 ≤ Xi S 967 i ∧ Xi S 967 i ≤ 7000)) ∧ (Xi S 904 142 = 3) ∧ (15 ≤ Xi S 904 70 ∧ Xi S 904 70 ≤ 16)
def QX_mo_does_15c (S S1 : sS) (first : Int) : Prop := (RDB (uI S 904 73 (Int32.ofInt 0)) S1) ∧ FR md_mo_does__15c S S1 ∧ FR md_mo_does__15cf S S1
theorem a_mo_does_15c {S : sS} (hH : RI S) (first : Int) (hf : 0 ≤ first ∧ first ≤ 5001) (hp : PX_mo_does_15c S first) (d : Nat) : Mp lay0 (d + 8) m_mo_does [.ref 904, iv first] S (fun r S1 => RI S1 ∧ FR md_mo_does__a S S1 ∧ (r = none ∧ QX_mo_does_15c S S1 first)) := by sorry
def PX_mo_does_15d (S : sS) (first : Int) : Prop := (LSP S) ∧ (0 ≤ Xi S 904 15) ∧ (RBD S) ∧ (LXR S) ∧ (ABV S) ∧ (0 ≤ Xi S 904 71 ∧ Xi S 904 71 ≤ 2600 ∧ 0 ≤ Xi S 904 72 ∧ Xi S 904 72 ≤ 2600) ∧ (Hid (KB3 S)) ∧ (Hid (∀ j : Nat, -1 ≤ Xi S 922 j ∧ Xi S 922 j ≤ 23)) ∧ (0 ≤ Xi S 904 32 ∧ Xi S 904 32 ≤ 12) ∧ (Xi S 904 142 = 4) ∧ (Xi S 904 106 = 0) ∧ (0 ≤ Xi S 950 (Xi S 904 78).toNat ∧ Xi S 950 (Xi S 904 78).toNat ≤ 5100) ∧ (Hid (∀ i : Nat, (i : Int) < Xi S 904 72 → (0 ≤ o15R S i ∧ o15R S i ≤ 23) ∧ 0 ≤ a15R S (o15R S i) ∧ a15R S (o15R S i) ≤ 7000)) ∧ (15 ≤ Xi S 904 70 ∧ Xi S 904 70 ≤ 16)
def QX_mo_does_15d (S S1 : sS) (first : Int) : Prop := (RVB4 S S1) ∧ FR md_mo_does__15d S S1 ∧ FR md_mo_does__15df S S1
theorem a_mo_does_15d {S : sS} (hH : RI S) (first : Int) (hf : 0 ≤ first ∧ first ≤ 5001) (hp : PX_mo_does_15d S first) (d : Nat) : Mp lay0 (d + 8) m_mo_does [.ref 904, iv first] S (fun r S1 => RI S1 ∧ FR md_mo_does__a S S1 ∧ (r = none ∧ QX_mo_does_15d S S1 first)) := by sorry
def PX_mo_does_17 (S : sS) (first : Int) : Prop := (LSP S) ∧ (0 ≤ Xi S 904 15) ∧ (RBD S) ∧ (LXR S) ∧ (Xi S 904 70 = 17) ∧ (Xi S 904 106 = 0) ∧ (rnR S 0 0 ≠ -1) ∧ (0 ≤ Xi S 904 32 ∧ Xi S 904 32 ≤ 12)
def QX_mo_does_17 (S S1 : sS) (first : Int) : Prop := (RD17 S S1) ∧ FR md_mo_does__17 S S1 ∧ FR md_mo_does__17f S S1
theorem a_mo_does_17 {S : sS} (hH : RI S) (first : Int) (hf : 0 ≤ first ∧ first ≤ 5001) (hp : PX_mo_does_17 S first) (d : Nat) : Mp lay0 (d + 8) m_mo_does [.ref 904, iv first] S (fun r S1 => RI S1 ∧ FR md_mo_does__a S S1 ∧ (r = none ∧ QX_mo_does_17 S S1 first)) := by sorry
def PX_mo_does_18 (S : sS) (first : Int) : Prop := (LSP S) ∧ (0 ≤ Xi S 904 15) ∧ (RBD S) ∧ (Xi S 904 70 = 18) ∧ (rnR S 0 0 ≠ -1) ∧ (0 ≤ Xi S 904 23 ∧ Xi S 904 23 ≤ 24)
def QX_mo_does_18 (S S1 : sS) (first : Int) : Prop := (RD18 S S1) ∧ FR md_mo_does__18 S S1 ∧ FR md_mo_does__18f S S1
theorem a_mo_does_18 {S : sS} (hH : RI S) (first : Int) (hf : 0 ≤ first ∧ first ≤ 5001) (hp : PX_mo_does_18 S first) (d : Nat) : Mp lay0 (d + 8) m_mo_does [.ref 904, iv first] S (fun r S1 => RI S1 ∧ FR md_mo_does__a S S1 ∧ (r = none ∧ QX_mo_does_18 S S1 first)) := by sorry
def PX_mo_does_19 (S : sS) (first : Int) : Prop := (LSP S) ∧ (0 ≤ Xi S 904 15) ∧ (RBD S) ∧ (Xi S 904 70 = 19) ∧ (0 ≤ Xi S 904 41 ∧ Xi S 904 41 ≤ 6) ∧ ((Xi S 904 79 = 0 ∨ Xi S 904 79 = 1) ∧ (Xi S 904 80 = 0 ∨ Xi S 904 80 = 1))
def QX_mo_does_19 (S S1 : sS) (first : Int) : Prop := (RD19 S S1) ∧ FR md_mo_does__19 S S1 ∧ FR md_mo_does__19f S S1
theorem a_mo_does_19 {S : sS} (hH : RI S) (first : Int) (hf : 0 ≤ first ∧ first ≤ 5001) (hp : PX_mo_does_19 S first) (d : Nat) : Mp lay0 (d + 8) m_mo_does [.ref 904, iv first] S (fun r S1 => RI S1 ∧ FR md_mo_does__a S S1 ∧ (r = none ∧ QX_mo_does_19 S S1 first)) := by sorry
def PX_mo_does_20 (S : sS) (first : Int) : Prop := (0 ≤ Xi S 904 19 ∧ Xi S 904 19 ≤ 24) ∧ (Xi S 904 106 = 0) ∧ (0 ≤ Xi S 904 147 ∧ Xi S 904 147 ≤ 5) ∧ (0 ≤ Xi S 904 144 ∧ Xi S 904 144 ≤ 5200) ∧ (0 ≤ Xi S 904 146 ∧ Xi S 904 146 ≤ 5200) ∧ (Hid (∀ i : Nat, (i : Int) < Xi S 904 144 → 0 ≤ Xi S 988 i ∧ Xi S 988 i ≤ 23)) ∧ (Hid (∀ i : Nat, (i : Int) < Xi S 904 146 → 0 ≤ Xi S 989 i ∧ Xi S 989 i ≤ 23)) ∧ (Xi S 904 70 = 20)
def QX_mo_does_20 (S S1 : sS) (first : Int) : Prop := (DSY S S1 first) ∧ FR md_mo_does__20 S S1 ∧ FR md_mo_does__20f S S1
theorem a_mo_does_20 {S : sS} (hH : RI S) (first : Int) (hf : 0 ≤ first ∧ first ≤ 5001) (hp : PX_mo_does_20 S first) (d : Nat) : Mp lay0 (d + 8) m_mo_does [.ref 904, iv first] S (fun r S1 => RI S1 ∧ FR md_mo_does__a S S1 ∧ (r = none ∧ QX_mo_does_20 S S1 first)) := by sorry
def DKP (S : sS) (first : Int) : Prop := ((0 ≤ Xi S 904 70 ∧ Xi S 904 70 ≤ 20) ∧ (15 ≤ Xi S 904 70 → Xi S 904 70 ≤ 16 → 1 ≤ Xi S 904 142 ∧ Xi S 904 142 ≤ 4)) ∧ (Xi S 904 70 = 0 → PX_mo_does_0 S first) ∧ (Xi S 904 70 = 1 → PX_mo_does_1 S first) ∧ (Xi S 904 70 = 2 → PX_mo_does_2 S first) ∧ (3 ≤ Xi S 904 70 ∧ Xi S 904 70 ≤ 6 → PX_mo_does_3 S first) ∧ (Xi S 904 70 = 7 → PX_mo_does_7 S first) ∧ (Xi S 904 70 = 8 → PX_mo_does_8 S first) ∧ (Xi S 904 70 = 9 → PX_mo_does_9 S first) ∧ (Xi S 904 70 = 10 → PX_mo_does_10 S first) ∧ (Xi S 904 70 = 11 → PX_mo_does_11 S first) ∧ (Xi S 904 70 = 12 → PX_mo_does_12 S first) ∧ (Xi S 904 70 = 13 → PX_mo_does_13 S first) ∧ (Xi S 904 70 = 14 → PX_mo_does_14 S first) ∧ ((Xi S 904 70 = 15 ∨ Xi S 904 70 = 16) ∧ Xi S 904 142 = 1 → PX_mo_does_15a S first) ∧ ((Xi S 904 70 = 15 ∨ Xi S 904 70 = 16) ∧ Xi S 904 142 = 2 → PX_mo_does_15b S first) ∧ ((Xi S 904 70 = 15 ∨ Xi S 904 70 = 16) ∧ Xi S 904 142 = 3 → PX_mo_does_15c S first) ∧ ((Xi S 904 70 = 15 ∨ Xi S 904 70 = 16) ∧ Xi S 904 142 = 4 → PX_mo_does_15d S first) ∧ (Xi S 904 70 = 17 → PX_mo_does_17 S first) ∧ (Xi S 904 70 = 18 → PX_mo_does_18 S first) ∧ (Xi S 904 70 = 19 → PX_mo_does_19 S first) ∧ (Xi S 904 70 = 20 → PX_mo_does_20 S first)
def DKQ (S S1 : sS) (first : Int) : Prop := (Xi S 904 70 = 0 → QX_mo_does_0 S S1 first) ∧ (Xi S 904 70 = 1 → QX_mo_does_1 S S1 first) ∧ (Xi S 904 70 = 2 → QX_mo_does_2 S S1 first) ∧ (3 ≤ Xi S 904 70 ∧ Xi S 904 70 ≤ 6 → QX_mo_does_3 S S1 first) ∧ (Xi S 904 70 = 7 → QX_mo_does_7 S S1 first) ∧ (Xi S 904 70 = 8 → QX_mo_does_8 S S1 first) ∧ (Xi S 904 70 = 9 → QX_mo_does_9 S S1 first) ∧ (Xi S 904 70 = 10 → QX_mo_does_10 S S1 first) ∧ (Xi S 904 70 = 11 → QX_mo_does_11 S S1 first) ∧ (Xi S 904 70 = 12 → QX_mo_does_12 S S1 first) ∧ (Xi S 904 70 = 13 → QX_mo_does_13 S S1 first) ∧ (Xi S 904 70 = 14 → QX_mo_does_14 S S1 first) ∧ ((Xi S 904 70 = 15 ∨ Xi S 904 70 = 16) ∧ Xi S 904 142 = 1 → QX_mo_does_15a S S1 first) ∧ ((Xi S 904 70 = 15 ∨ Xi S 904 70 = 16) ∧ Xi S 904 142 = 2 → QX_mo_does_15b S S1 first) ∧ ((Xi S 904 70 = 15 ∨ Xi S 904 70 = 16) ∧ Xi S 904 142 = 3 → QX_mo_does_15c S S1 first) ∧ ((Xi S 904 70 = 15 ∨ Xi S 904 70 = 16) ∧ Xi S 904 142 = 4 → QX_mo_does_15d S S1 first) ∧ (Xi S 904 70 = 17 → QX_mo_does_17 S S1 first) ∧ (Xi S 904 70 = 18 → QX_mo_does_18 S S1 first) ∧ (Xi S 904 70 = 19 → QX_mo_does_19 S S1 first) ∧ (Xi S 904 70 = 20 → QX_mo_does_20 S S1 first)
abbrev Q_mo_does__a (S : sS) (first : Int) : pst := fun r S1 => RI S1 ∧ FR md_mo_does__a S S1 ∧ (r = none ∧ (DKQ S S1 first))
theorem t_mo_does__a {S : sS} (hH : RI S) (first : Int) (hfirst : 0 ≤ first ∧ first ≤ 5001) (hp : DKP S first) (d : Nat) : Mp lay0 (d + 8) m_mo_does [.ref 904, iv first] S (Q_mo_does__a S first) := by sorry
end
end
section
section
def md_mo_does__g : List rec := [(904, 905, 15, 16), (904, 905, 16, 17), (904, 905, 18, 19), (904, 905, 19, 20), (904, 905, 23, 24), (904, 905, 30, 31), (904, 905, 32, 33), (904, 905, 41, 42), (904, 905, 47, 48), (904, 905, 49, 50), (904, 905, 51, 52), (904, 905, 55, 56), (904, 905, 60, 61), (904, 905, 64, 65), (904, 905, 73, 74), (904, 905, 105, 106), (904, 905, 106, 107), (904, 905, 113, 114), (904, 905, 117, 118), (912, 913, 0, 100000), (913, 914, 0, 100000), (914, 915, 0, 100000), (915, 916, 0, 100000), (916, 917, 0, 100000), (917, 918, 0, 100000), (918, 919, 0, 100000), (919, 920, 0, 100000), (920, 921, 0, 100000), (921, 922, 0, 100000), (922, 923, 0, 100000), (923, 924, 0, 100000), (924, 925, 0, 100000), (925, 926, 0, 100000), (926, 927, 0, 100000), (927, 928, 0, 100000), (928, 929, 0, 100000), (929, 930, 0, 100000), (930, 931, 0, 100000), (931, 932, 0, 100000), (932, 933, 0, 100000), (933, 934, 0, 100000), (934, 935, 0, 100000), (935, 936, 0, 100000), (936, 937, 0, 100000), (937, 938, 0, 100000), (938, 939, 0, 100000), (939, 940, 0, 100000), (940, 941, 0, 100000), (941, 942, 0, 100000), (942, 943, 0, 100000), (943, 944, 0, 100000), (944, 945, 0, 100000), (945, 946, 0, 100000), (946, 947, 0, 100000), (947, 948, 0, 100000), (948, 949, 0, 100000), (949, 950, 0, 100000)]
abbrev Q_mo_does__g (S : sS) (n : Nat) (first : Int) : pst := fun r S1 => HI S1 ∧ FR md_mo_does__g S S1 ∧ (r = none ∧ (TIX S1) ∧ (GR S1 S))
set_option maxRecDepth 100000 in
set_option maxHeartbeats 1000000 in
theorem c104_mo_does__g {S : sS} (hH : HI S) (n : Nat) (first : Int) (hfirst : 0 ≤ first ∧ first ≤ 5001) (hT : TK S n) (hv : RNV S n) (hK : TXK S n) (hI : TIX S) (hq : SNQ S n) (hk : DOK S) (h11 : Xi S 904 70 = 11 → -1 ≤ Xi S 904 78) (d : Nat) : (Xi S 904 70 = 0) → Rl lay0 (d + 7) m_mo_does 104 [(0, .ref 904), (1, iv first)] [] S (Q_mo_does__g S n first) := by sorry
set_option maxRecDepth 100000 in
set_option maxHeartbeats 1000000 in
theorem c145_mo_does__g {S : sS} (hH : HI S) (n : Nat) (first : Int) (hfirst : 0 ≤ first ∧ first ≤ 5001) (hT : TK S n) (hv : RNV S n) (hK : TXK S n) (hI : TIX S) (hq : SNQ S n) (hk : DOK S) (h11 : Xi S 904 70 = 11 → -1 ≤ Xi S 904 78) (d : Nat) : (Xi S 904 70 = 1) → Rl lay0 (d + 7) m_mo_does 145 [(0, .ref 904)] [] S (Q_mo_does__g S n first) := by sorry
set_option maxRecDepth 100000 in
set_option maxHeartbeats 1000000 in
theorem c152_mo_does__g {S : sS} (hH : HI S) (n : Nat) (first : Int) (hfirst : 0 ≤ first ∧ first ≤ 5001) (hT : TK S n) (hv : RNV S n) (hK : TXK S n) (hI : TIX S) (hq : SNQ S n) (hk : DOK S) (h11 : Xi S 904 70 = 11 → -1 ≤ Xi S 904 78) (d : Nat) : (Xi S 904 70 = 2) → Rl lay0 (d + 7) m_mo_does 152 [(0, .ref 904)] [] S (Q_mo_does__g S n first) := by sorry
set_option maxRecDepth 100000 in
set_option maxHeartbeats 1000000 in
theorem c159_mo_does__g {S : sS} (hH : HI S) (n : Nat) (first : Int) (hfirst : 0 ≤ first ∧ first ≤ 5001) (hT : TK S n) (hv : RNV S n) (hK : TXK S n) (hI : TIX S) (hq : SNQ S n) (hk : DOK S) (h11 : Xi S 904 70 = 11 → -1 ≤ Xi S 904 78) (d : Nat) : (Xi S 904 70 = 7) → Rl lay0 (d + 7) m_mo_does 159 [(0, .ref 904)] [] S (Q_mo_does__g S n first) := by sorry
set_option maxRecDepth 100000 in
set_option maxHeartbeats 1000000 in
theorem c277_mo_does__g {S : sS} (hH : HI S) (n : Nat) (first : Int) (hfirst : 0 ≤ first ∧ first ≤ 5001) (hT : TK S n) (hv : RNV S n) (hK : TXK S n) (hI : TIX S) (hq : SNQ S n) (hk : DOK S) (h11 : Xi S 904 70 = 11 → -1 ≤ Xi S 904 78) (d : Nat) : (Xi S 904 70 = 8) → Rl lay0 (d + 7) m_mo_does 277 [(0, .ref 904)] [] S (Q_mo_does__g S n first) := by sorry
set_option maxRecDepth 100000 in
set_option maxHeartbeats 1000000 in
theorem c284_mo_does__g {S : sS} (hH : HI S) (n : Nat) (first : Int) (hfirst : 0 ≤ first ∧ first ≤ 5001) (hT : TK S n) (hv : RNV S n) (hK : TXK S n) (hI : TIX S) (hq : SNQ S n) (hk : DOK S) (h11 : Xi S 904 70 = 11 → -1 ≤ Xi S 904 78) (d : Nat) : (Xi S 904 70 = 9) → Rl lay0 (d + 7) m_mo_does 284 [(0, .ref 904)] [] S (Q_mo_does__g S n first) := by sorry
set_option maxRecDepth 100000 in
set_option maxHeartbeats 1000000 in
theorem c291_mo_does__g {S : sS} (hH : HI S) (n : Nat) (first : Int) (hfirst : 0 ≤ first ∧ first ≤ 5001) (hT : TK S n) (hv : RNV S n) (hK : TXK S n) (hI : TIX S) (hq : SNQ S n) (hk : DOK S) (h11 : Xi S 904 70 = 11 → -1 ≤ Xi S 904 78) (d : Nat) : (Xi S 904 70 = 10) → Rl lay0 (d + 7) m_mo_does 291 [(0, .ref 904)] [] S (Q_mo_does__g S n first) := by sorry
set_option maxRecDepth 100000 in
set_option maxHeartbeats 1000000 in
theorem c300_mo_does__g {S : sS} (hH : HI S) (n : Nat) (first : Int) (hfirst : 0 ≤ first ∧ first ≤ 5001) (hT : TK S n) (hv : RNV S n) (hK : TXK S n) (hI : TIX S) (hq : SNQ S n) (hk : DOK S) (h11 : Xi S 904 70 = 11 → -1 ≤ Xi S 904 78) (d : Nat) : ∀ (n300 : Nat) (T15 : sS) (_ : HI T15) (_ : FR md_mo_does__g S T15) (v2 : Int), (0 ≤ v2 ∧ v2 ≤ 2600) → (Xi T15 904 69 = Xi S 904 69) → (Xi T15 904 71 = Xi S 904 71) → (Xi T15 904 72 = Xi S 904 72) → (Xi T15 904 78 = Xi S 904 78) → (Xi T15 904 60 = Xi S 904 60) → (Xi T15 904 19 = Xi S 904 19) → (Xi T15 904 16 = Xi S 904 16) → (Xi T15 904 23 = Xi S 904 23) → (Xi T15 904 117 = Xi S 904 117) → (v2 ≤ Xi S 904 72) → (Xi S 904 70 = 11) → (Xi T15 904 49 = Xi S 904 49 + v2) → (LXM T15) → (LCN T15) → (GR T15 S) → (LXK T15 S (Xi S 904 15)) → (Xi S 904 15 ≤ Xi T15 904 15) → (TXM T15) → (WYM T15) → (ABV T15) → (DCM T15) → (VTM T15) → (VCN T15) → (WYD T15) → n300 = (2601 - v2).toNat → Rl lay0 (d + 7) m_mo_does 300 [(0, .ref 904), (2, iv v2)] [] T15 (Q_mo_does__g S n first) := by sorry
set_option maxRecDepth 100000 in
set_option maxHeartbeats 1000000 in
theorem c298_mo_does__g {S : sS} (hH : HI S) (n : Nat) (first : Int) (hfirst : 0 ≤ first ∧ first ≤ 5001) (hT : TK S n) (hv : RNV S n) (hK : TXK S n) (hI : TIX S) (hq : SNQ S n) (hk : DOK S) (h11 : Xi S 904 70 = 11 → -1 ≤ Xi S 904 78) (d : Nat) : (Xi S 904 70 = 11) → Rl lay0 (d + 7) m_mo_does 298 [(0, .ref 904)] [] S (Q_mo_does__g S n first) := by sorry
set_option maxRecDepth 100000 in
set_option maxHeartbeats 1000000 in
theorem c354_mo_does__g {S : sS} (hH : HI S) (n : Nat) (first : Int) (hfirst : 0 ≤ first ∧ first ≤ 5001) (hT : TK S n) (hv : RNV S n) (hK : TXK S n) (hI : TIX S) (hq : SNQ S n) (hk : DOK S) (h11 : Xi S 904 70 = 11 → -1 ≤ Xi S 904 78) (d : Nat) : (12 ≤ Xi S 904 70 ∧ Xi S 904 70 ≤ 13) → Rl lay0 (d + 7) m_mo_does 354 [(0, .ref 904)] [] S (Q_mo_does__g S n first) := by sorry
set_option maxRecDepth 100000 in
set_option maxHeartbeats 1000000 in
theorem c361_mo_does__g {S : sS} (hH : HI S) (n : Nat) (first : Int) (hfirst : 0 ≤ first ∧ first ≤ 5001) (hT : TK S n) (hv : RNV S n) (hK : TXK S n) (hI : TIX S) (hq : SNQ S n) (hk : DOK S) (h11 : Xi S 904 70 = 11 → -1 ≤ Xi S 904 78) (d : Nat) : (Xi S 904 70 = 14) → Rl lay0 (d + 7) m_mo_does 361 [(0, .ref 904)] [] S (Q_mo_does__g S n first) := by sorry
set_option maxRecDepth 100000 in
set_option maxHeartbeats 1000000 in
theorem c368_mo_does__g {S : sS} (hH : HI S) (n : Nat) (first : Int) (hfirst : 0 ≤ first ∧ first ≤ 5001) (hT : TK S n) (hv : RNV S n) (hK : TXK S n) (hI : TIX S) (hq : SNQ S n) (hk : DOK S) (h11 : Xi S 904 70 = 11 → -1 ≤ Xi S 904 78) (d : Nat) : (15 ≤ Xi S 904 70 ∧ Xi S 904 70 ≤ 16) → Rl lay0 (d + 7) m_mo_does 368 [(0, .ref 904)] [] S (Q_mo_does__g S n first) := by sorry
set_option maxRecDepth 100000 in
set_option maxHeartbeats 1000000 in
theorem c375_mo_does__g {S : sS} (hH : HI S) (n : Nat) (first : Int) (hfirst : 0 ≤ first ∧ first ≤ 5001) (hT : TK S n) (hv : RNV S n) (hK : TXK S n) (hI : TIX S) (hq : SNQ S n) (hk : DOK S) (h11 : Xi S 904 70 = 11 → -1 ≤ Xi S 904 78) (d : Nat) : (Xi S 904 70 = 17) → Rl lay0 (d + 7) m_mo_does 375 [(0, .ref 904)] [] S (Q_mo_does__g S n first) := by sorry
set_option maxRecDepth 100000 in
set_option maxHeartbeats 1000000 in
theorem c406_mo_does__g {S : sS} (hH : HI S) (n : Nat) (first : Int) (hfirst : 0 ≤ first ∧ first ≤ 5001) (hT : TK S n) (hv : RNV S n) (hK : TXK S n) (hI : TIX S) (hq : SNQ S n) (hk : DOK S) (h11 : Xi S 904 70 = 11 → -1 ≤ Xi S 904 78) (d : Nat) : ∀  (T24 : sS) (_ : HI T24) (_ : FR md_mo_does__g S T24) (v2 : Int), (0 ≤ v2 ∧ v2 ≤ 23) → (Xi S 904 70 = 18) → (v2 = Xi S 904 23) → (Xi T24 904 23 = Xi S 904 23 + 1) → (Xi T24 904 15 = Xi S 904 15 + 1) → (Xi T24 904 16 = Xi S 904 16) → (Xi T24 904 18 = Xi S 904 18) → (Xi T24 904 19 = Xi S 904 19) → (Xi T24 904 30 = Xi S 904 30) → (Xi T24 904 32 = Xi S 904 32) → (Xi T24 904 41 = Xi S 904 41) → (Xi T24 904 47 = Xi S 904 47) → (Xi T24 904 49 = Xi S 904 49) → (Xi T24 904 60 = Xi S 904 60) → (Xi T24 904 117 = Xi S 904 117) → (LXM T24) → (LCN T24) → (GR T24 S) → (rnR T24 0 0 ≠ -1) → ((Xi T24 922 (Xi S 904 23).toNat = Xi S 904 23 + 1 ∧ Xi T24 924 (Xi S 904 23).toNat = 0)) → (LXK T24 S (Xi S 904 15)) → (TXM T24) → (WYM T24) → (ABV T24) → (VTM T24) → (VCN T24) → (WYD T24) → Rl lay0 (d + 7) m_mo_does 406 [(0, .ref 904), (2, iv v2)] [] T24 (Q_mo_does__g S n first) := by sorry
set_option maxRecDepth 100000 in
set_option maxHeartbeats 1000000 in
theorem c382_mo_does__g {S : sS} (hH : HI S) (n : Nat) (first : Int) (hfirst : 0 ≤ first ∧ first ≤ 5001) (hT : TK S n) (hv : RNV S n) (hK : TXK S n) (hI : TIX S) (hq : SNQ S n) (hk : DOK S) (h11 : Xi S 904 70 = 11 → -1 ≤ Xi S 904 78) (d : Nat) : (Xi S 904 70 = 18) → Rl lay0 (d + 7) m_mo_does 382 [(0, .ref 904)] [] S (Q_mo_does__g S n first) := by sorry
set_option maxRecDepth 100000 in
set_option maxHeartbeats 1000000 in
theorem c426_mo_does__g {S : sS} (hH : HI S) (n : Nat) (first : Int) (hfirst : 0 ≤ first ∧ first ≤ 5001) (hT : TK S n) (hv : RNV S n) (hK : TXK S n) (hI : TIX S) (hq : SNQ S n) (hk : DOK S) (h11 : Xi S 904 70 = 11 → -1 ≤ Xi S 904 78) (d : Nat) : (Xi S 904 70 = 19) → Rl lay0 (d + 7) m_mo_does 426 [(0, .ref 904)] [] S (Q_mo_does__g S n first) := by sorry
set_option maxRecDepth 100000 in
set_option maxHeartbeats 1000000 in
theorem c504_mo_does__g {S : sS} (hH : HI S) (n : Nat) (first : Int) (hfirst : 0 ≤ first ∧ first ≤ 5001) (hT : TK S n) (hv : RNV S n) (hK : TXK S n) (hI : TIX S) (hq : SNQ S n) (hk : DOK S) (h11 : Xi S 904 70 = 11 → -1 ≤ Xi S 904 78) (d : Nat) : (Xi S 904 70 = 20) → Rl lay0 (d + 7) m_mo_does 504 [(0, .ref 904), (1, iv first)] [] S (Q_mo_does__g S n first) := by sorry
set_option maxRecDepth 100000 in
set_option maxHeartbeats 1000000 in
theorem t_mo_does__g {S : sS} (hH : HI S) (n : Nat) (first : Int) (hfirst : 0 ≤ first ∧ first ≤ 5001) (hT : TK S n) (hv : RNV S n) (hK : TXK S n) (hI : TIX S) (hq : SNQ S n) (hk : DOK S) (h11 : Xi S 904 70 = 11 → -1 ≤ Xi S 904 78) (d : Nat) : Mt lay0 (d + 8) m_mo_does [.ref 904, iv first] S (Q_mo_does__g S n first) := by sorry
end
end
section
section
abbrev Q_rs_letterOf__f (S : sS) (b : Int) : pst := fun r S1 => S = S1 ∧ (∃ z : Int, r = some (iv z) ∧ (0 ≤ z ∧ z ≤ 26) ∧ (z = lt7 b))
set_option maxRecDepth 100000 in
theorem t_rs_letterOf__f {S : sS} (hH : HI S) (b : Int) (hb : -128 ≤ b ∧ b ≤ 127) (d : Nat) : Mt lay0 (d + 1) m_rs_letterOf [iv b] S (Q_rs_letterOf__f S b) := by sorry
abbrev Q_to_closing__f (S : sS) (ts : Nat) (from_ : Int) : pst := fun r S1 => S = S1 ∧ (∃ z : Int, r = some (iv z) ∧ (-1 ≤ z ∧ z ≤ 4999) ∧ (z = -1 ∨ (from_ ≤ z ∧ z < Xi S 876 5)) ∧ (z = cl7 (Xi S ts) (Xi S 876 5) from_))
set_option maxRecDepth 100000 in
theorem t_to_closing__f {S : sS} (hH : HI S) (ts : Nat) (from_ : Int) (hfrom_ : 0 ≤ from_ ∧ from_ ≤ 5000) (hts : S.2.2 876 4 = some ts) (htp : tp ts) (d : Nat) : Mt lay0 (d + 1) m_to_closing [.ref 876, iv from_] S (Q_to_closing__f S ts from_) := by sorry
abbrev Q_to_skip__f (S : sS) (ts : Nat) (from_ : Int) : pst := fun r S1 => S = S1 ∧ (∃ z : Int, r = some (iv z) ∧ (0 ≤ z ∧ z ≤ 5000) ∧ (from_ ≤ z ∧ z ≤ Xi S 876 5) ∧ (z = sk7 (Xi S ts) (Xi S 876 5) from_))
set_option maxRecDepth 100000 in
theorem t_to_skip__f {S : sS} (hH : HI S) (ts : Nat) (from_ : Int) (hfrom_ : 0 ≤ from_ ∧ from_ ≤ 5000) (hts : S.2.2 876 4 = some ts) (htp : tp ts) (h5 : from_ ≤ Xi S 876 5) (d : Nat) : Mt lay0 (d + 2) m_to_skip [.ref 876, iv from_] S (Q_to_skip__f S ts from_) := by sorry
abbrev Q_to_keyOf__f (S : sS) (code : Int) : pst := fun r S1 => S = S1 ∧ (∃ z : Int, r = some (iv z) ∧ (0 ≤ z ∧ z ≤ 100) ∧ (z = ky7 (Xj S 880) code 100))
set_option maxRecDepth 100000 in
theorem t_to_keyOf__f {S : sS} (hH : HI S) (code : Int) (hw : rgL code) (d : Nat) : Mt lay0 (d + 1) m_to_keyOf [.ref 876, jw code] S (Q_to_keyOf__f S code) := by sorry
def md_to_note__f : List rec := [(876, 877, 7, 8), (877, 878, 0, 100000), (878, 879, 0, 100000), (879, 880, 0, 100000)]
abbrev Q_to_note__f (S : sS) (ty : Int) (pl : Int) (v : Int) : pst := fun r S1 => HI S1 ∧ FR md_to_note__f S S1 ∧ (r = none ∧ (TOK S1) ∧ (Xi S1 876 7 = Xi S 876 7 + 1) ∧ (NT S S1 ty pl v) ∧ (KR S S1 (Xi S 876 7)))
set_option maxRecDepth 100000 in
theorem t_to_note__f {S : sS} (hH : HI S) (ty : Int) (pl : Int) (v : Int) (hty : 0 ≤ ty ∧ ty ≤ 108) (hpl : 0 ≤ pl ∧ pl ≤ 5000) (hT : TOK S) (hrow : Xi S 876 7 ≤ 5124) (hv : ty = 102 → 0 ≤ v ∧ v ≤ 120 ∧ pl + v + 2 ≤ Xi S 876 5) (hvr : rgL v) (d : Nat) : Mt lay0 (d + 1) m_to_note [.ref 876, iv ty, iv pl, jw v] S (Q_to_note__f S ty pl v) := by sorry
def md_to_scanWord__f : List rec := [(876, 877, 7, 8), (877, 878, 0, 100000), (878, 879, 0, 100000), (879, 880, 0, 100000)]
abbrev Q_to_scanWord__f (S : sS) (ts : Nat) (from_ : Int) (limit : Int) : pst := fun r S1 => HI S1 ∧ FR md_to_scanWord__f S S1 ∧ (∃ z : Int, r = some (iv z) ∧ (-1 ≤ z ∧ z ≤ 5000) ∧ (TOK S1) ∧ (z = -1 ∨ (from_ < z ∧ z ≤ limit)) ∧ (Xi S 876 7 ≤ Xi S1 876 7 ∧ Xi S1 876 7 ≤ Xi S 876 7 + 1) ∧ ((z ≠ -1 → 1 ≤ Xi S1 876 7) ∧ (z = -1 → Xi S1 876 7 = Xi S 876 7)) ∧ (z = (if we7 (Xi S ts) limit from_ = from_ ∨ 12 < we7 (Xi S ts) limit from_ - from_ then -1 else we7 (Xi S ts) limit from_)) ∧ (z ≠ -1 → NT S S1 (ky7 (Xj S 880) (c27 (Xi S ts) from_.toNat (z - from_).toNat) 100) from_ (c27 (Xi S ts) from_.toNat (z - from_).toNat)) ∧ (KR S S1 (Xi S 876 7)) ∧ (z ≠ -1 → Xi S1 876 7 = Xi S 876 7 + 1))
set_option maxRecDepth 100000 in
theorem t_to_scanWord__f {S : sS} (hH : HI S) (ts : Nat) (from_ : Int) (limit : Int) (hfrom_ : 0 ≤ from_ ∧ from_ ≤ 5000) (hlimit : 0 ≤ limit ∧ limit ≤ 5000) (hts : S.2.2 876 4 = some ts) (htp : tp ts) (hT : TOK S) (hrow : Xi S 876 7 ≤ 5124) (d : Nat) : Mt lay0 (d + 2) m_to_scanWord [.ref 876, iv from_, iv limit] S (Q_to_scanWord__f S ts from_ limit) := by sorry
def md_to_scanNumber__f : List rec := [(876, 877, 7, 8), (877, 878, 0, 100000), (878, 879, 0, 100000), (879, 880, 0, 100000)]
abbrev Q_to_scanNumber__f (S : sS) (ts : Nat) (from_ : Int) : pst := fun r S1 => HI S1 ∧ FR md_to_scanNumber__f S S1 ∧ (∃ z : Int, r = some (iv z) ∧ (-1 ≤ z ∧ z ≤ 5000) ∧ (TOK S1) ∧ (z = -1 ∨ (from_ < z ∧ z ≤ Xi S 876 5)) ∧ (Xi S 876 7 ≤ Xi S1 876 7 ∧ Xi S1 876 7 ≤ Xi S 876 7 + 1) ∧ ((z ≠ -1 → 1 ≤ Xi S1 876 7) ∧ (z = -1 → Xi S1 876 7 = Xi S 876 7)) ∧ (z = (if de7 (Xi S ts) (Xi S 876 5) from_ - from_ ≤ 6 then de7 (Xi S ts) (Xi S 876 5) from_ else -1)) ∧ (z ≠ -1 → NT S S1 101 from_ (dvF (Xi S ts) from_.toNat (z - from_).toNat)) ∧ (KR S S1 (Xi S 876 7)) ∧ (z ≠ -1 → Xi S1 876 7 = Xi S 876 7 + 1))
set_option maxRecDepth 100000 in
theorem t_to_scanNumber__f {S : sS} (hH : HI S) (ts : Nat) (from_ : Int) (hfrom_ : 0 ≤ from_ ∧ from_ ≤ 4999) (hts : S.2.2 876 4 = some ts) (htp : tp ts) (hT : TOK S) (hrow : Xi S 876 7 ≤ 5124) (hb : 48 ≤ Xi S ts from_.toNat ∧ Xi S ts from_.toNat ≤ 57) (he : from_ < Xi S 876 5) (d : Nat) : Mt lay0 (d + 2) m_to_scanNumber [.ref 876, iv from_] S (Q_to_scanNumber__f S ts from_) := by sorry
def md_to_scanText__f : List rec := [(876, 877, 7, 8), (877, 878, 0, 100000), (878, 879, 0, 100000), (879, 880, 0, 100000)]
abbrev Q_to_scanText__f (S : sS) (ts : Nat) (from_ : Int) : pst := fun r S1 => HI S1 ∧ FR md_to_scanText__f S S1 ∧ (∃ z : Int, r = some (iv z) ∧ (-1 ≤ z ∧ z ≤ 5000) ∧ (TOK S1) ∧ (z = -1 ∨ (from_ < z ∧ z ≤ Xi S 876 5)) ∧ (Xi S 876 7 ≤ Xi S1 876 7 ∧ Xi S1 876 7 ≤ Xi S 876 7 + 1) ∧ ((z ≠ -1 → 1 ≤ Xi S1 876 7) ∧ (z = -1 → Xi S1 876 7 = Xi S 876 7)) ∧ (z = (if tx7 (Xi S ts) (Xi S 876 5) from_ then te7 (Xi S ts) (Xi S 876 5) (from_ + 1) + 1 else -1)) ∧ (z ≠ -1 → NT S S1 102 from_ (z - from_ - 2)) ∧ (KR S S1 (Xi S 876 7)) ∧ (z ≠ -1 → Xi S1 876 7 = Xi S 876 7 + 1))
set_option maxRecDepth 100000 in
theorem t_to_scanText__f {S : sS} (hH : HI S) (ts : Nat) (from_ : Int) (hfrom_ : 0 ≤ from_ ∧ from_ ≤ 4999) (hts : S.2.2 876 4 = some ts) (htp : tp ts) (hT : TOK S) (hrow : Xi S 876 7 ≤ 5124) (he : from_ < Xi S 876 5) (d : Nat) : Mt lay0 (d + 2) m_to_scanText [.ref 876, iv from_] S (Q_to_scanText__f S ts from_) := by sorry
def md_to_scan__f : List rec := [(876, 877, 7, 8), (877, 878, 0, 100000), (878, 879, 0, 100000), (879, 880, 0, 100000)]
abbrev Q_to_scan__f (S : sS) (ts : Nat) (p : Int) : pst := fun r S1 => HI S1 ∧ FR md_to_scan__f S S1 ∧ (∃ z : Int, r = some (iv z) ∧ (-1 ≤ z ∧ z ≤ 5000) ∧ (TOK S1) ∧ (z = -1 ∨ (p < z ∧ z ≤ Xi S 876 5)) ∧ (Xi S 876 7 ≤ Xi S1 876 7 ∧ Xi S1 876 7 ≤ Xi S 876 7 + 1) ∧ ((z ≠ -1 → 1 ≤ Xi S1 876 7) ∧ (z = -1 → Xi S1 876 7 = Xi S 876 7)) ∧ (z = q7 (Xi S ts) (Xi S 876 5) p) ∧ (z ≠ -1 → NT S S1 (t7 (Xj S 880) (Xi S ts) (Xi S 876 5) p) p (v7 (Xi S ts) (Xi S 876 5) p)) ∧ (KR S S1 (Xi S 876 7)) ∧ (z ≠ -1 → Xi S1 876 7 = Xi S 876 7 + 1))
set_option maxRecDepth 100000 in
theorem t_to_scan__f {S : sS} (hH : HI S) (ts : Nat) (p : Int) (hp : 0 ≤ p ∧ p ≤ 4999) (hts : S.2.2 876 4 = some ts) (htp : tp ts) (hT : TOK S) (hrow : Xi S 876 7 ≤ 5124) (he : p < Xi S 876 5) (d : Nat) : Mt lay0 (d + 3) m_to_scan [.ref 876, iv p] S (Q_to_scan__f S ts p) := by sorry
def md_to_takeDotBehindText__f : List rec := [(876, 877, 7, 8), (877, 878, 0, 100000), (878, 879, 0, 100000), (879, 880, 0, 100000)]
abbrev Q_to_takeDotBehindText__f (S : sS) (ts : Nat) (from_ : Int) : pst := fun r S1 => HI S1 ∧ FR md_to_takeDotBehindText__f S S1 ∧ (∃ z : Int, r = some (iv z) ∧ (0 ≤ z ∧ z ≤ 5000) ∧ (TOK S1) ∧ (from_ ≤ z ∧ z ≤ Xi S 876 5) ∧ (Xi S 876 7 ≤ Xi S1 876 7 ∧ Xi S1 876 7 ≤ Xi S 876 7 + 1) ∧ ((z = from_ ∧ Xi S1 876 7 = Xi S 876 7 ∧ ¬ DT7 (Xi S ts) (Xi S 876 5) from_) ∨ (z = sk7 (Xi S ts) (Xi S 876 5) from_ + 1 ∧ Xi S1 876 7 = Xi S 876 7 + 1 ∧ DT7 (Xi S ts) (Xi S 876 5) from_ ∧ NT S S1 103 (sk7 (Xi S ts) (Xi S 876 5) from_) 0)) ∧ (KR S S1 (Xi S 876 7)))
set_option maxRecDepth 100000 in
theorem t_to_takeDotBehindText__f {S : sS} (hH : HI S) (ts : Nat) (from_ : Int) (hfrom_ : 0 ≤ from_ ∧ from_ ≤ 5000) (hts : S.2.2 876 4 = some ts) (htp : tp ts) (hT : TOK S) (hrow : Xi S 876 7 ≤ 5124) (he : from_ ≤ Xi S 876 5) (d : Nat) : Mt lay0 (d + 3) m_to_takeDotBehindText [.ref 876, iv from_] S (Q_to_takeDotBehindText__f S ts from_) := by sorry
def md_to_takeSentence__f : List rec := [(876, 877, 6, 7), (876, 877, 7, 8), (877, 878, 0, 100000), (878, 879, 0, 100000), (879, 880, 0, 100000)]
abbrev Q_to_takeSentence__f (S : sS) (ts : Nat) (from_ : Int) : pst := fun r S1 => HI S1 ∧ FR md_to_takeSentence__f S S1 ∧ (∃ z : Int, r = some (iv z) ∧ (0 ≤ z ∧ z ≤ 5000) ∧ (TOK S1) ∧ (from_ ≤ z ∧ z ≤ Xi S 876 5) ∧ (Xi S1 876 6 = Xi S1 876 7) ∧ (Xi S1 876 7 ≤ 5002) ∧ (1 ≤ Xi S1 876 7) ∧ (SEN S1 ts from_ z))
set_option maxRecDepth 100000 in
theorem t_to_takeSentence__f {S : sS} (hH : HI S) (ts : Nat) (from_ : Int) (hfrom_ : 0 ≤ from_ ∧ from_ ≤ 5000) (hts : S.2.2 876 4 = some ts) (htp : tp ts) (he : from_ < Xi S 876 5) (d : Nat) : Mt lay0 (d + 4) m_to_takeSentence [.ref 876, iv from_] S (Q_to_takeSentence__f S ts from_) := by sorry
abbrev Q_mo_keyOf__f (S : sS) (w : Int) : pst := fun r S1 => S = S1 ∧ (∃ z : Int, r = some (iv z) ∧ (0 ≤ z ∧ z ≤ 154) ∧ (z ≠ 3 → 100 ≤ z ∧ w = Xj S 911 (z - 100).toNat) ∧ (z = (if ky7 (Xj S 911) w (-1) = -1 then 3 else 100 + ky7 (Xj S 911) w (-1))))
set_option maxRecDepth 100000 in
theorem t_mo_keyOf__f {S : sS} (hH : HI S) (w : Int) (hw : rgL w) (d : Nat) : Mt lay0 (d + 1) m_mo_keyOf [.ref 904, jw w] S (Q_mo_keyOf__f S w) := by sorry
abbrev Q_mo_wordOf__f (S : sS) (t : Nat) (from_ : Int) (n : Int) : pst := fun r S1 => S = S1 ∧ (∃ z : Int, r = some (jw z) ∧ (n ≤ 2 → 0 ≤ z ∧ z < 1024) ∧ (n ≤ 12 → z = c32 (Xi S t) from_.toNat n.toNat))
set_option maxRecDepth 100000 in
theorem t_mo_wordOf__f {S : sS} (hH : HI S) (t : Nat) (from_ : Int) (n : Int) (ht : bp t) (hfrom_ : 0 ≤ from_ ∧ from_ ≤ 5000) (hn : 0 ≤ n ∧ n ≤ 5000) (hn : from_ + n ≤ 5000) (hl : ∀ i : Nat, from_ ≤ (i : Int) → (i : Int) < from_ + n → ltr (Xi S t i) = 1) (d : Nat) : Mt lay0 (d + 3) m_mo_wordOf [.ref t, iv from_, iv n] S (Q_mo_wordOf__f S t from_ n) := by sorry
abbrev Q_mo_blanks__f (S : sS) (from_ : Int) : pst := fun r S1 => S = S1 ∧ (∃ z : Int, r = some (iv z) ∧ (0 ≤ z ∧ z ≤ 5001) ∧ (from_ ≤ z) ∧ (from_ ≤ Xi S 904 3 → z ≤ Xi S 904 3) ∧ (z = sk7 (Xi S 906) (Xi S 904 3) from_))
set_option maxRecDepth 100000 in
theorem t_mo_blanks__f {S : sS} (hH : HI S) (from_ : Int) (hfrom_ : 0 ≤ from_ ∧ from_ ≤ 5001) (d : Nat) : Mt lay0 (d + 1) m_mo_blanks [.ref 904, iv from_] S (Q_mo_blanks__f S from_) := by sorry
def md_mo_cut__f : List rec := [(907, 908, 0, 100000), (908, 909, 0, 100000), (909, 910, 0, 100000), (910, 911, 0, 100000)]
abbrev Q_mo_cut__f (S : sS) : pst := fun r S1 => HI S1 ∧ FR md_mo_cut__f S S1 ∧ (r = none ∧ (∃ n : Nat, TK S1 n ∧ TXK S1 n ∧ CUT (Xi S 906) (Xj S 911) (Xi S 904 3) S1 n))
set_option maxRecDepth 100000 in
set_option maxHeartbeats 4000000 in
theorem t_mo_cut__f {S : sS} (hH : HI S) (hK : KWM S) (d : Nat) : Mt lay0 (d + 4) m_mo_cut [.ref 904] S (Q_mo_cut__f S) := by sorry
end
end
section
section
/-! total rows that also say what the partial rows do -/
theorem Mt_mp {lay : Nat → Nat × Nat} {d : Nat} {q : mT} {av : List Value} {S : sS} {Q : pst} (h : Mt lay d q av S Q) : Mp lay d q av S Q := by sorry
theorem Mt_i {lay : Nat → Nat × Nat} {d : Nat} {q : mT} {av : List Value} {S : sS} {Q Q1 : pst} {P : Prop} (h : Mt lay d q av S Q) (hp : P → Mp lay d q av S Q1) : Mt lay d q av S (fun r S1 => Q r S1 ∧ (P → Q1 r S1)) := by sorry
theorem Mt_m {lay : Nat → Nat × Nat} {d : Nat} {q : mT} {av : List Value} {S : sS} {Q Q1 : pst} (h : Mt lay d q av S Q) (hq : ∀ r S1, Q r S1 → Q1 r S1) : Mt lay d q av S Q1 := by sorry
/-- a call that ended so -/
def EVR (q : mT) (av : List Value) (S : sS) (r : Option Value) (S1 : sS) : Prop := ∃ G d : Nat, evd lay0 G d q av S = some (r, S1)
theorem Mt_e {d : Nat} {q : mT} {av : List Value} {S : sS} {Q : pst} (h : Mt lay0 d q av S Q) : Mt lay0 d q av S (fun r S1 => Q r S1 ∧ EVR q av S r S1) := by sorry
theorem iv_i {x y : Int} (h : (some (iv x) : Option Value) = some (iv y)) (hx : rg x) (hy : rg y) : x = y := by sorry
abbrev Q_to_endsBadly__p (S : sS) : pst := fun r S1 => S = S1 ∧ (∃ z : Int, r = some (iv z) ∧ (0 ≤ z ∧ z ≤ 1) ∧ (z = 1 ↔ ty7 S (Xi S 876 6 - 1) = 108))
set_option maxRecDepth 100000 in
theorem t_to_endsBadly__p {S : sS} (hH : RI S) (h6 : 0 ≤ Xi S 876 6 ∧ Xi S 876 6 ≤ 100000) (d : Nat) : Mp lay0 (d + 2) m_to_endsBadly [.ref 876] S (Q_to_endsBadly__p S) := by sorry
def md_to_takeSentence__b : List rec := [(876, 877, 6, 7), (876, 877, 7, 8), (877, 878, 0, 100000), (878, 879, 0, 100000), (879, 880, 0, 100000)]
abbrev Q_to_takeSentence__b (S : sS) (ts : Nat) (from_ : Int) : pst := fun r S1 => HI S1 ∧ FR md_to_takeSentence__b S S1 ∧ (∃ z : Int, r = some (iv z) ∧ (0 ≤ z ∧ z ≤ 5000) ∧ (TOK S1) ∧ (from_ ≤ z ∧ z ≤ Xi S 876 5) ∧ (Xi S1 876 6 = Xi S1 876 7) ∧ (Xi S1 876 7 ≤ 5002) ∧ (1 ≤ Xi S1 876 7) ∧ (ND S1 (Xi S1 876 7 - 1)) ∧ (from_ < Xi S 876 5 → SEN S1 ts from_ z))
theorem t_to_takeSentence__b {S : sS} (hH : HI S) (ts : Nat) (from_ : Int) (hfrom_ : 0 ≤ from_ ∧ from_ ≤ 5000) (hts : S.2.2 876 4 = some ts) (htp : tp ts) (he : from_ ≤ Xi S 876 5) (d : Nat) : Mt lay0 (d + 4) m_to_takeSentence [.ref 876, iv from_] S (Q_to_takeSentence__b S ts from_) := by sorry
def md_gr_check__b : List rec := [(890, 891, 1, 2), (890, 891, 2, 3), (890, 891, 3, 4)]
abbrev Q_gr_check__b (S : sS) : pst := fun r S1 => HI S1 ∧ FR md_gr_check__b S S1 ∧ (∃ z : Int, r = some (iv z) ∧ (0 ≤ z ∧ z ≤ 1) ∧ (z = 1 → Xi S1 890 2 = 0 → Xi S 877 (0 : Int).toNat = 102) ∧ (z = 1 → Xi S1 890 2 = 1 → Xi S 877 (1 : Int).toNat = 102) ∧ (z = 1 → 3 ≤ Xi S1 890 2 → Xi S1 890 2 ≤ 6 → SAY S1 (Xi S1 890 1) ∧ 1 ≤ Xi S1 890 1 ∧ Xi S1 890 1 ≤ Xi S 876 7 ∧ Xi S1 877 (Xi S1 890 1 - 1).toNat = 103) ∧ (z = 1 → Xi S1 890 2 = 0 → 0 < Xi S 876 7) ∧ (z = 1 → Xi S1 890 2 = 1 → 1 < Xi S 876 7) ∧ (NFR S ∧ Xi S 876 7 ≤ 5130 ∧ LST S ∧ 1 ≤ Xi S 876 7 → chk (ty7 S) = (z, Xi S1 890 1) ∧ (0 ≤ Xi S1 890 1 ∧ Xi S1 890 1 ≤ Xi S 876 7) ∧ (z = 1 → CKS S1 (ty7 S))))
theorem t_gr_check__b {S : sS} (hH : HI S) (d : Nat) : Mt lay0 (d + 7) m_gr_check [.ref 890] S (Q_gr_check__b S) := by sorry
def md_re_beginSentence__b : List rec := [(1, 2, 3, 4), (2, 3, 0, 100000), (3, 4, 0, 100000), (4, 5, 0, 100000), (5, 6, 0, 100000), (10, 11, 0, 100000), (11, 12, 0, 100000), (12, 13, 0, 100000), (13, 14, 0, 100000), (18, 19, 0, 100000), (66, 106, 0, 100000), (107, 147, 0, 100000), (148, 188, 0, 100000), (246, 247, 2, 3), (246, 247, 5, 6), (246, 247, 8, 9), (248, 272, 0, 100000), (274, 275, 0, 100000), (275, 276, 0, 100000), (276, 876, 0, 1), (276, 876, 1, 2), (276, 876, 2, 3), (276, 876, 3, 4), (276, 876, 4, 5), (276, 876, 5, 6), (276, 876, 6, 7), (876, 877, 7, 8), (876, 877, 8, 9), (876, 877, 9, 10), (877, 878, 0, 100000), (878, 879, 0, 100000), (879, 880, 0, 100000), (882, 883, 3, 4), (882, 883, 10, 11), (883, 884, 0, 100000), (884, 885, 0, 100000), (885, 886, 0, 100000), (886, 887, 0, 100000), (887, 888, 0, 100000), (888, 889, 0, 100000), (891, 892, 9, 10), (892, 893, 0, 100000), (893, 894, 0, 100000), (894, 895, 0, 100000), (895, 896, 3, 4), (895, 896, 4, 5), (895, 896, 5, 6), (895, 896, 6, 7), (895, 896, 7, 8), (895, 896, 8, 9), (895, 896, 9, 10), (895, 896, 10, 11), (895, 896, 11, 12), (895, 896, 12, 13), (895, 896, 13, 14), (895, 896, 14, 15), (896, 897, 0, 100000), (897, 898, 0, 100000), (898, 899, 0, 100000), (899, 900, 4, 5), (899, 900, 5, 6), (899, 900, 6, 7)]
abbrev Q_re_beginSentence__b (S : sS) (ts : Nat) : pst := fun r S1 => HI S1 ∧ FR md_re_beginSentence__b S S1 ∧ (∃ z : Int, r = some (iv z) ∧ (0 ≤ z ∧ z ≤ 1) ∧ (z = 1 → WI S1) ∧ (z = 0 → Xi S1 876 8 ≠ 0) ∧ (BGP (uI S 891 9 (Int32.ofInt 0)) ts → BGV (uI S 891 9 (Int32.ofInt 0)) S1 ts z))
theorem t_re_beginSentence__b {S : sS} (hH : HI S) (ts : Nat) (hts : S.2.2 876 4 = some ts) (htp : tp ts) (hW : WI S) (hT : TOK S) (hS : SRX S) (hx : ts = txr S) (hcr : Xi S 876 6 = Xi S 876 7) (p0 : Xi S 890 2 = 0 → Xi S 877 (0 : Int).toNat = 102 ∧ 0 < Xi S 876 7) (p1 : Xi S 890 2 = 1 → Xi S 877 (1 : Int).toNat = 102 ∧ 1 < Xi S 876 7) (p3 : 3 ≤ Xi S 890 2 → Xi S 890 2 ≤ 6 → SAY S (Xi S 876 6)) (p4 : 3 ≤ Xi S 890 2 → Xi S 890 2 ≤ 6 → Xi S 877 (Xi S 876 6 - 1).toNat = 103) (pm : 1 ≤ Xi S 876 6) (p8 : Xi S 890 2 ≤ 8) (d : Nat) : Mt lay0 (d + 7) m_re_beginSentence [.ref 891] S (Q_re_beginSentence__b S ts) := by sorry
def md_re_tellSentence__b : List rec := [(1, 2, 3, 4), (2, 3, 0, 100000), (3, 4, 0, 100000), (4, 5, 0, 100000), (5, 6, 0, 100000), (6, 7, 0, 100000), (7, 8, 0, 100000), (8, 9, 0, 100000), (9, 10, 0, 100000), (10, 11, 0, 100000), (11, 12, 0, 100000), (14, 15, 0, 100000), (15, 16, 0, 100000), (16, 17, 0, 100000), (17, 18, 0, 100000), (19, 20, 0, 100000), (20, 21, 12, 13), (21, 22, 0, 100000), (22, 23, 0, 100000), (23, 24, 0, 100000), (25, 65, 0, 100000), (66, 106, 0, 100000), (107, 147, 0, 100000), (148, 188, 0, 100000), (189, 195, 0, 100000), (196, 220, 0, 100000), (221, 245, 0, 100000), (876, 877, 8, 9), (876, 877, 9, 10), (891, 892, 9, 10), (891, 892, 10, 11), (891, 892, 11, 12), (891, 892, 12, 13), (892, 893, 0, 100000), (893, 894, 0, 100000), (894, 895, 0, 100000), (895, 896, 8, 9), (895, 896, 9, 10), (895, 896, 10, 11), (895, 896, 11, 12), (895, 896, 12, 13), (895, 896, 13, 14), (895, 896, 14, 15), (896, 897, 0, 100000), (897, 898, 0, 100000), (898, 899, 0, 100000)]
abbrev Q_re_tellSentence__b (S : sS) : pst := fun r S1 => HI S1 ∧ FR md_re_tellSentence__b S S1 ∧ (∃ z : Int, r = some (iv z) ∧ (0 ≤ z ∧ z ≤ 1) ∧ (z = 1 → WI S1) ∧ (z = 0 → Xi S1 876 8 ≠ 0) ∧ (TSP (uI (uI S 891 9 (Int32.ofInt 0)) 891 11 (Int32.ofInt 0)) → TSV (uI (uI S 891 9 (Int32.ofInt 0)) 891 11 (Int32.ofInt 0)) S1 z))
theorem t_re_tellSentence__b {S : sS} (hH : HI S) (hW : WI S) (hT : TOK S) (hS : SRX S) (d : Nat) : Mt lay0 (d + 7) m_re_tellSentence [.ref 891] S (Q_re_tellSentence__b S) := by sorry
def md_to_wrong__b : List rec := [(876, 877, 8, 9), (876, 877, 9, 10)]
abbrev Q_to_wrong__b (S : sS) (code : Int) (row : Int) : pst := fun r S1 => HI S1 ∧ FR md_to_wrong__b S S1 ∧ (∃ z : Int, r = some (iv z) ∧ (0 ≤ z ∧ z ≤ 1) ∧ (z = 0) ∧ (1 ≤ code → Xi S1 876 8 ≠ 0) ∧ (True → (Xi S 876 8 = 0 → Xi S1 876 8 = code ∧ Xi S1 876 9 = pc7 S row) ∧ (Xi S 876 8 ≠ 0 → Xi S1 876 8 = Xi S 876 8 ∧ Xi S1 876 9 = Xi S 876 9)))
theorem t_to_wrong__b {S : sS} (hH : HI S) (code : Int) (row : Int) (hcode : 0 ≤ code ∧ code ≤ 9) (hrow : -2147483648 ≤ row ∧ row ≤ 2147483647) (d : Nat) : Mt lay0 (d + 1) m_to_wrong [.ref 876, iv code, iv row] S (Q_to_wrong__b S code row) := by sorry
abbrev Q_to_endsBadly__b (S : sS) : pst := fun r S1 => S = S1 ∧ (∃ z : Int, r = some (iv z) ∧ (0 ≤ z ∧ z ≤ 1) ∧ (True → (z = 1 ↔ ty7 S (Xi S 876 6 - 1) = 108)))
theorem t_to_endsBadly__b {S : sS} (hH : HI S) (d : Nat) : Mt lay0 (d + 2) m_to_endsBadly [.ref 876] S (Q_to_endsBadly__b S) := by sorry
def md_rs_startAgain__b : List rec := [(1, 2, 3, 4), (2, 3, 0, 100000), (3, 4, 0, 100000), (4, 5, 0, 100000), (5, 6, 0, 100000), (6, 7, 0, 100000), (7, 8, 0, 100000), (9, 10, 0, 100000), (10, 11, 0, 100000), (11, 12, 0, 100000), (19, 20, 0, 100000), (20, 21, 12, 13), (21, 22, 0, 100000), (22, 23, 0, 100000), (23, 24, 0, 100000), (25, 65, 0, 100000), (66, 106, 0, 100000), (189, 195, 0, 100000), (196, 220, 0, 100000), (246, 247, 2, 3), (246, 247, 5, 6), (246, 247, 8, 9), (882, 883, 3, 4), (883, 884, 0, 100000), (884, 885, 0, 100000), (885, 886, 0, 100000), (886, 887, 0, 100000), (887, 888, 0, 100000), (891, 892, 10, 11)]
abbrev Q_rs_startAgain__b (S : sS) : pst := fun r S1 => HI S1 ∧ FR md_rs_startAgain__b S S1 ∧ (r = none ∧ (WI S1) ∧ (Xi S1 246 2 = 0) ∧ (EVR m_rs_startAgain [.ref 0] S none S1))
theorem t_rs_startAgain__b {S : sS} (hH : HI S) (d : Nat) : Mt lay0 (d + 9) m_rs_startAgain [.ref 0] S (Q_rs_startAgain__b S) := by sorry
def md_wo_placePlayer__b : List rec := [(22, 23, 0, 100000), (23, 24, 0, 100000)]
abbrev Q_wo_placePlayer__b (S : sS) : pst := fun r S1 => HI S1 ∧ FR md_wo_placePlayer__b S S1 ∧ (r = none ∧ (EVR m_wo_placePlayer [.ref 20] S none S1))
theorem t_wo_placePlayer__b {S : sS} (hH : HI S) (d : Nat) : Mt lay0 (d + 3) m_wo_placePlayer [.ref 20] S (Q_wo_placePlayer__b S) := by sorry
def md_bo_putInOrder__b : List rec := [(272, 273, 0, 100000)]
abbrev Q_bo_putInOrder__b (S : sS) : pst := fun r S1 => HI S1 ∧ FR md_bo_putInOrder__b S S1 ∧ (r = none ∧ (ORD S1) ∧ (EVR m_bo_putInOrder [.ref 246] S none S1))
theorem t_bo_putInOrder__b {S : sS} (hH : HI S) (d : Nat) : Mt lay0 (d + 3) m_bo_putInOrder [.ref 246] S (Q_bo_putInOrder__b S) := by sorry
/-! the class: read, and its way -/
/-- a fault is noted -/
def WRG (V U1 : sS) (code row : Int) : Prop := FR md_to_wrong__b V U1 ∧ HI U1 ∧ (Xi V 876 8 = 0 → Xi U1 876 8 = code ∧ Xi U1 876 9 = pc7 V row) ∧ (Xi V 876 8 ≠ 0 → Xi U1 876 8 = Xi V 876 8 ∧ Xi U1 876 9 = Xi V 876 9)
/-- a sentence is taken -/
def TKB (U V : sS) (ts : Nat) (a z : Int) : Prop := HI V ∧ FR md_to_takeSentence__b U V ∧ TOK V ∧ (a ≤ z ∧ z ≤ Xi U 876 5) ∧ (Xi V 876 6 = Xi V 876 7 ∧ Xi V 876 7 ≤ 5002 ∧ 1 ≤ Xi V 876 7) ∧ ND V (Xi V 876 7 - 1) ∧ SEN V ts a z
def CS0 (ts : Nat) (U : sS) (a : Int) (V : sS) (z a1 : Int) : Prop := (HI U ∧ WI U ∧ U.2.2 876 4 = some ts ∧ U.2.2 20 1 = some ts ∧ 0 ≤ a ∧ a < Xi U 876 5 ∧ Xi U 876 8 = 0) ∧ TKB U V ts a z ∧ a1 = sk7 (Xi V ts) (Xi V 876 5) z
def CS1 (ts : Nat) (U : sS) (a : Int) (V W : sS) (z a1 c : Int) : Prop := CS0 ts U a V z a1 ∧ ty7 V (Xi V 876 6 - 1) ≠ 108 ∧ HI W ∧ FR md_gr_check__b V W ∧ (c = 0 ∨ c = 1) ∧ (NFR V ∧ Xi V 876 7 ≤ 5130 ∧ LST V ∧ 1 ≤ Xi V 876 7 → chk (ty7 V) = (c, Xi W 890 1) ∧ (0 ≤ Xi W 890 1 ∧ Xi W 890 1 ≤ Xi V 876 7) ∧ (c = 1 → CKS W (ty7 V))) ∧ WI W ∧ TOK W ∧ Xi W 876 6 = Xi W 876 7 ∧ SRX W ∧ txr W = ts
def BGB (W U1 : sS) (ts : Nat) : Prop := ∃ z : Int, FR md_re_beginSentence__b W U1 ∧ HI U1 ∧ (z = 0 ∨ z = 1) ∧ (z = 1 → WI U1) ∧ (z = 0 → Xi U1 876 8 ≠ 0) ∧ (BGP (uI W 891 9 (Int32.ofInt 0)) ts → BGV (uI W 891 9 (Int32.ofInt 0)) U1 ts z)
def TLB (W U1 : sS) : Prop := ∃ z : Int, FR md_re_tellSentence__b W U1 ∧ HI U1 ∧ (z = 0 ∨ z = 1) ∧ (z = 1 → WI U1) ∧ (z = 0 → Xi U1 876 8 ≠ 0) ∧ (TSP (uI (uI W 891 9 (Int32.ofInt 0)) 891 11 (Int32.ofInt 0)) → TSV (uI (uI W 891 9 (Int32.ofInt 0)) 891 11 (Int32.ofInt 0)) U1 z)
/-- one sentence -/
def CST (ts : Nat) (U : sS) (a : Int) (U1 : sS) (a1 : Int) : Prop := ∃ (V : sS) (z : Int), (CS0 ts U a V z a1 ∧ ty7 V (Xi V 876 6 - 1) = 108 ∧ WRG V U1 1 (Xi V 876 7 - 1)) ∨ ∃ (W : sS) (c : Int), CS1 ts U a V W z a1 c ∧ (c = 0 → WRG W U1 2 (Xi W 890 1)) ∧ (c = 1 → Xi W 890 2 < 9 → BGB W U1 ts) ∧ (c = 1 → 9 ≤ Xi W 890 2 → TLB W U1)
def PCH (ts : Nat) (U0 : sS) (a0 : Int) : Nat → sS → Int → Prop
  | 0, U, a => U = U0 ∧ a = a0
  | n + 1, U, a => ∃ (X : sS) (b : Int), PCH ts U0 a0 n X b ∧ CST ts X b U a
/-- what stands ahead of the first sentence -/
def OPN (U0 : sS) (ts : Nat) : Prop := ∃ B C : sS, (∃ A : sS, HI A ∧ EVR m_rs_startAgain [.ref 0] A none B ∧ FR md_rs_startAgain__b A B) ∧ C = uR B 20 1 (some ts) ∧ FR md_to_open C U0
def RTR (S : sS) (ts : Nat) (n : Int) (U : sS) (a : Int) : Prop := ∃ (U0 : sS) (a0 : Int), 0 ≤ n ∧ (HI U0 ∧ U0.2.2 876 4 = some ts ∧ U0.2.2 20 1 = some ts) ∧ OPN U0 ts ∧ Xi U0 876 5 = Xi S 0 10 ∧ Xi U0 876 8 = 0 ∧ a0 = sk7 (Xi U0 ts) (Xi U0 876 5) 0 ∧ PCH ts U0 a0 n.toNat U a
def RTX (S : sS) (ts : Nat) (n : Int) (U : sS) : Prop := ∃ a : Int, RTR S ts n U a ∧ ¬ (a < Xi U 876 5 ∧ n < Xi U 876 5 ∧ Xi U 876 8 = 0)
def RFX (S : sS) (ts : Nat) (n : Int) (X : sS) : Prop := ∃ U W : sS, RTX S ts n U ∧ (n = 0 → WRG U W 2 (-1)) ∧ (n ≠ 0 → W = U) ∧ X = uI W 0 11 (Int32.ofInt (Xi W 876 8))
def RFP (S : sS) (ts : Nat) (n : Int) (Y : sS) : Prop := ∃ X : sS, RFX S ts n X ∧ Xi X 876 8 = 0 ∧ HI X ∧ EVR m_wo_placePlayer [.ref 20] X none Y ∧ FR md_wo_placePlayer__b X Y
def RFN (S : sS) (ts : Nat) (S1 : sS) (z : Int) : Prop := (∃ (n : Int) (X : sS), RFX S ts n X ∧ Xi X 876 8 ≠ 0 ∧ z = -10 - Xi S1 876 9 ∧ HI X ∧ EVR m_rs_startAgain [.ref 0] X none S1 ∧ FR md_rs_startAgain__b X S1) ∨ (∃ Y : sS, RFP S ts z Y ∧ HI Y ∧ EVR m_bo_putInOrder [.ref 246] Y none S1 ∧ FR md_bo_putInOrder__b Y S1)
theorem rtr_s {S U U1 : sS} {ts : Nat} {n a a1 : Int} (h : RTR S ts n U a) (hn : 0 ≤ n) (c : CST ts U a U1 a1) : RTR S ts (n + 1) U1 a1 := by sorry
theorem cst_1 {ts : Nat} {U V U1 : sS} {a z a1 : Int} (h : CS0 ts U a V z a1) (e : ty7 V (Xi V 876 6 - 1) = 108) (w : WRG V U1 1 (Xi V 876 7 - 1)) : CST ts U a U1 a1 := by sorry
theorem cst_2 {ts : Nat} {U V W U1 : sS} {a z a1 c : Int} (h : CS1 ts U a V W z a1 c) (e : c = 0) (w : WRG W U1 2 (Xi W 890 1)) : CST ts U a U1 a1 := by sorry
theorem cst_3 {ts : Nat} {U V W U1 : sS} {a z a1 c : Int} (h : CS1 ts U a V W z a1 c) (e : c ≠ 0) (s : Xi W 890 2 < 9) (w : BGB W U1 ts) : CST ts U a U1 a1 := by sorry
theorem cst_4 {ts : Nat} {U V W U1 : sS} {a z a1 c : Int} (h : CS1 ts U a V W z a1 c) (e : c ≠ 0) (s : 9 ≤ Xi W 890 2) (w : TLB W U1) : CST ts U a U1 a1 := by sorry
theorem rfx_0 {S U X : sS} {ts : Nat} {n : Int} (h : RTX S ts n U) (hn : n ≠ 0) (e : X = uI U 0 11 (Int32.ofInt (Xi U 876 8))) : RFX S ts n X := by sorry
theorem rfx_1 {S U W X : sS} {ts : Nat} {n : Int} (h : RTX S ts n U) (hn : n = 0) (w : WRG U W 2 (-1)) (e : X = uI W 0 11 (Int32.ofInt (Xi W 876 8))) : RFX S ts n X := by sorry
theorem rfp_i {S X Y : sS} {ts : Nat} {n : Int} (h : RFX S ts n X) (f : Xi X 876 8 = 0) (hX : HI X) (e : EVR m_wo_placePlayer [.ref 20] X none Y) (F : FR md_wo_placePlayer__b X Y) : RFP S ts n Y := by sorry
theorem rfn_0 {S X S1 : sS} {ts : Nat} {n : Int} (h : RFX S ts n X) (f : Xi X 876 8 ≠ 0) (hX : HI X) (e : EVR m_rs_startAgain [.ref 0] X none S1) (F : FR md_rs_startAgain__b X S1) : RFN S ts S1 (-10 - Xi S1 876 9) := by sorry
theorem rfn_1 {S Y S1 : sS} {ts : Nat} {n : Int} (h : RFP S ts n Y) (hY : HI Y) (e : EVR m_bo_putInOrder [.ref 246] Y none S1) (F : FR md_bo_putInOrder__b Y S1) : RFN S ts S1 n := by sorry
def md_rs_read__t : List rec := [(0, 1, 8, 9), (0, 1, 9, 10), (0, 1, 10, 11), (0, 1, 11, 12), (1, 2, 3, 4), (2, 3, 0, 100000), (3, 4, 0, 100000), (4, 5, 0, 100000), (5, 6, 0, 100000), (6, 7, 0, 100000), (7, 8, 0, 100000), (8, 9, 0, 100000), (9, 10, 0, 100000), (10, 11, 0, 100000), (11, 12, 0, 100000), (12, 13, 0, 100000), (13, 14, 0, 100000), (14, 15, 0, 100000), (15, 16, 0, 100000), (16, 17, 0, 100000), (17, 18, 0, 100000), (18, 19, 0, 100000), (19, 20, 0, 100000), (20, 21, 1, 2), (20, 21, 12, 13), (21, 22, 0, 100000), (22, 23, 0, 100000), (23, 24, 0, 100000), (25, 65, 0, 100000), (66, 106, 0, 100000), (107, 147, 0, 100000), (148, 188, 0, 100000), (189, 195, 0, 100000), (196, 220, 0, 100000), (221, 245, 0, 100000), (246, 247, 2, 3), (246, 247, 5, 6), (246, 247, 8, 9), (248, 272, 0, 100000), (272, 273, 0, 100000), (274, 275, 0, 100000), (275, 276, 0, 100000), (276, 876, 0, 1), (276, 876, 1, 2), (276, 876, 2, 3), (276, 876, 3, 4), (276, 876, 4, 5), (276, 876, 5, 6), (276, 876, 6, 7), (876, 877, 4, 5), (876, 877, 5, 6), (876, 877, 6, 7), (876, 877, 7, 8), (876, 877, 8, 9), (876, 877, 9, 10), (877, 878, 0, 100000), (878, 879, 0, 100000), (879, 880, 0, 100000), (882, 883, 3, 4), (882, 883, 10, 11), (883, 884, 0, 100000), (884, 885, 0, 100000), (885, 886, 0, 100000), (886, 887, 0, 100000), (887, 888, 0, 100000), (888, 889, 0, 100000), (890, 891, 1, 2), (890, 891, 2, 3), (890, 891, 3, 4), (891, 892, 9, 10), (891, 892, 10, 11), (891, 892, 11, 12), (891, 892, 12, 13), (892, 893, 0, 100000), (893, 894, 0, 100000), (894, 895, 0, 100000), (895, 896, 3, 4), (895, 896, 4, 5), (895, 896, 5, 6), (895, 896, 6, 7), (895, 896, 7, 8), (895, 896, 8, 9), (895, 896, 9, 10), (895, 896, 10, 11), (895, 896, 11, 12), (895, 896, 12, 13), (895, 896, 13, 14), (895, 896, 14, 15), (896, 897, 0, 100000), (897, 898, 0, 100000), (898, 899, 0, 100000), (899, 900, 4, 5), (899, 900, 5, 6), (899, 900, 6, 7), (900, 901, 4, 5)]
end
section
/-! the reference: what is no token of a sentence -/
def ODD7 (S : sS) (first z : Int) : Prop := (Xi S 907 first.toNat = 5 ∧ z = -1) ∨ (Xi S 907 first.toNat ≠ 5 ∧ ∃ k : Int, first ≤ k ∧ (∀ j : Int, first ≤ j → j < k → Xi S 907 j.toNat ≠ 46 ∧ Xi S 907 j.toNat ≠ 1 ∧ Xi S 907 j.toNat ≠ 2) ∧ (Xi S 907 k.toNat = 46 ∨ Xi S 907 k.toNat = 1 ∨ Xi S 907 k.toNat = 2) ∧ (Xi S 907 k.toNat = 2 → z = k) ∧ (Xi S 907 k.toNat ≠ 2 → z = -1))
abbrev Q_mo_oddOf__f (S : sS) (n : Nat) (first : Int) : pst := fun r S1 => S = S1 ∧ (∃ z : Int, r = some (iv z) ∧ (-1 ≤ z ∧ z ≤ 5001) ∧ (z ≠ -1 → z ≤ n) ∧ (ODD7 S first z))
set_option maxRecDepth 100000 in
theorem t_mo_oddOf__f {S : sS} (hH : HI S) (n : Nat) (first : Int) (hfirst : 0 ≤ first ∧ first ≤ 5001) (hT : TK S n) (ht : first ≤ n) (d : Nat) : Mt lay0 (d + 1) m_mo_oddOf [.ref 904, iv first] S (Q_mo_oddOf__f S n first) := by sorry
def md_mo_failed__b : List rec := [(904, 905, 62, 63), (904, 905, 63, 64)]
abbrev Q_mo_failed__b (S : sS) (f : Int) (p : Int) : pst := fun r S1 => HI S1 ∧ FR md_mo_failed__b S S1 ∧ (r = none ∧ (Xi S1 904 62 = f) ∧ (Xi S1 904 63 = p))
set_option maxRecDepth 100000 in
theorem t_mo_failed__b {S : sS} (hH : HI S) (f : Int) (p : Int) (hf : 0 ≤ f ∧ f ≤ 9) (hp : 0 ≤ p ∧ p ≤ 5000) (d : Nat) : Mt lay0 (d + 1) m_mo_failed [.ref 904, iv f, iv p] S (Q_mo_failed__b S f p) := by sorry
/-! the reference: total rows that also say what the partial rows do -/
theorem Mt_ai {α : Type} {lay : Nat → Nat × Nat} {d : Nat} {q : mT} {av : List Value} {S : sS} {Q : pst} {P : α → Prop} {Q1 : α → pst} (h : Mt lay d q av S Q) (hp : ∀ x, P x → Mp lay d q av S (Q1 x)) : Mt lay d q av S (fun r S1 => Q r S1 ∧ ∀ x, P x → Q1 x r S1) := by sorry
def SPO (S S1 : sS) (fs ns : Nat) : Prop := (tR S fs ns 0 ≠ 102 → gSq (gSe (tR S fs ns)) (gT (tR S fs ns) 103) = cu S1 fs) ∧ (tR S fs ns 0 = 102 → Xi S1 904 65 = 0 ∧ Xi S1 904 70 = 0 ∧ Xi S1 904 81 = fs ∧ (tR S fs ns 1 = 103 → Xi S1 904 8 = fs + 2) ∧ (tR S fs ns 1 ≠ 103 → Xi S1 904 8 = fs + 1)) ∧ (tR S fs ns 0 ≠ 102 → SOR S1 (tR S fs ns)) ∧ (tR S fs ns 0 ≠ 102 → Xi S1 904 65 = 0 → Xi S1 904 70 ≠ 20 → Xi S1 904 93 = 0 → KRS S1 fs ns) ∧ (tR S fs ns 0 ≠ 102 → Xi S1 904 65 = 0 → CMN (tR S fs ns) → CMR S1 (tR S fs ns) fs) ∧ (tR S fs ns 0 = 33 → Xi S1 904 65 = 0 → Xi S1 904 81 = fs + 1) ∧ (tR S fs ns 0 ≠ 102 → Xi S1 904 65 = 0 → CMN (tR S fs ns) → kt7 (tR S fs ns) = 21 → ONR S1 (tR S fs ns)) ∧ (tR S fs ns 0 ≠ 102 → tR S fs ns 0 ≠ 35 → tR S fs ns 0 ≠ 38 → tR S fs ns 0 ≠ 39 → tR S fs ns 0 ≠ 40 → tR S fs ns 0 ≠ 41 → Xi S1 904 93 = 0) ∧ (tR S fs ns 0 ≠ 102 → Xi S1 904 65 = 0 → Xi S1 904 70 ≠ 20 → Xi S1 904 93 = 0 → kr7 (tR S fs ns) (Xi S1 904 69).toNat = nf7 (tR S fs ns) (Xi S1 904 8 - 1 - fs))
def md_mo_sentence__b : List rec := [(904, 905, 8, 9), (904, 905, 65, 66), (904, 905, 66, 67), (904, 905, 69, 70), (904, 905, 70, 71), (904, 905, 71, 72), (904, 905, 72, 73), (904, 905, 73, 74), (904, 905, 74, 75), (904, 905, 75, 76), (904, 905, 76, 77), (904, 905, 77, 78), (904, 905, 78, 79), (904, 905, 79, 80), (904, 905, 80, 81), (904, 905, 81, 82), (904, 905, 93, 94), (904, 905, 94, 95), (904, 905, 98, 99), (904, 905, 99, 100), (904, 905, 100, 101), (904, 905, 101, 102), (904, 905, 102, 103), (904, 905, 103, 104), (950, 951, 0, 100000), (951, 952, 0, 100000), (952, 953, 0, 100000), (953, 954, 0, 100000), (954, 955, 0, 100000), (955, 956, 0, 100000), (956, 957, 0, 100000), (957, 958, 0, 100000), (958, 959, 0, 100000), (959, 960, 0, 100000), (960, 961, 0, 100000), (961, 962, 0, 100000), (962, 963, 0, 100000), (963, 964, 0, 100000), (964, 965, 0, 100000), (965, 966, 0, 100000)]
abbrev Q_mo_sentence__b (S : sS) (n : Nat) : pst := fun r S1 => HI S1 ∧ FR md_mo_sentence__b S S1 ∧ (r = none ∧ (Xi S 904 8 ≤ Xi S1 904 8) ∧ (Xi S1 904 65 = 0 → Xi S 904 8 < Xi S1 904 8 ∧ Xi S1 904 8 ≤ n) ∧ (RNV S1 n) ∧ (Xi S1 904 65 = 0 → SNQ S1 n) ∧ (Xi S1 904 65 = 0 → Xi S1 904 70 ≤ 6 → 2 ≤ Xi S1 904 70 → TVA S1 n (Xi S1 904 94)) ∧ (Xi S1 904 65 = 0 → Xi S1 904 70 ≤ 6 → 3 ≤ Xi S1 904 70 → PVA S1 n (Xi S1 904 98)) ∧ (Xi S1 904 65 = 0 → Xi S1 904 70 ≤ 6 → 3 ≤ Xi S1 904 70 → Xi S1 904 94 + Xi S1 904 98 ≤ 1666) ∧ (Xi S1 904 65 = 0 → Xi S1 904 94 ≤ 1668) ∧ (Xi S1 904 65 = 0 → Xi S1 904 70 ≠ 0 → Xi S 907 (Xi S1 904 8 - 1).toNat = 46) ∧ (Xi S1 904 65 = 0 → Xi S1 904 70 = 11 → -1 ≤ Xi S1 904 78) ∧ (Xi S1 904 65 = 0 → Xi S1 904 70 = 2 → 1 ≤ Xi S1 904 94) ∧ (PF S1) ∧ (BDA S1) ∧ (∀ m : Nat, VLR S (Xi S 904 8).toNat m → SPO S S1 (Xi S 904 8).toNat m) ∧ (tkR S (Xi S 904 8) = 135 → (Xi S1 904 65 = 0 → ∃ e : Int, DFE (tkR S) S1 0 0 (Xi S 904 8) e ∧ tkR S e = 46 ∧ Xi S1 904 8 = e + 1)) ∧ (138 ≤ tkR S (Xi S 904 8) ∧ tkR S (Xi S 904 8) ≤ 141 → (Xi S1 904 65 = 0 → ∃ e : Int, RUE (tkR S) S1 0 0 0 (sKR (tkR S (Xi S 904 8))) (Xi S 904 8) e ∧ tkR S e = 46 ∧ Xi S1 904 8 = e + 1)))
theorem t_mo_sentence__b {S : sS} (hH : HI S) (n : Nat) (hT : TK S n) (hx : Xi S 904 8 ≤ n) (hk : Xi S 907 (Xi S 904 8).toNat ≠ 1) (hPF : PF S) (hBDA : BDA S) (d : Nat) : Mt lay0 (d + 10) m_mo_sentence [.ref 904] S (Q_mo_sentence__b S n) := by sorry
def md_mo_asked__b : List rec := [(904, 905, 64, 65), (904, 905, 104, 105), (904, 905, 105, 106), (904, 905, 106, 107), (904, 905, 108, 109), (904, 905, 109, 110), (904, 905, 110, 111), (904, 905, 112, 113), (904, 905, 113, 114), (904, 905, 115, 116), (904, 905, 116, 117), (904, 905, 117, 118), (904, 905, 125, 126), (904, 905, 128, 129), (904, 905, 129, 130), (904, 905, 130, 131), (904, 905, 142, 143), (904, 905, 144, 145), (904, 905, 146, 147), (904, 905, 147, 148), (904, 905, 150, 151), (904, 905, 151, 152), (904, 905, 153, 154), (904, 905, 154, 155), (904, 905, 156, 157), (904, 905, 157, 158), (904, 905, 158, 159), (904, 905, 160, 161), (966, 967, 0, 100000), (967, 968, 0, 100000), (968, 969, 0, 100000), (969, 970, 0, 100000), (970, 971, 0, 100000), (971, 972, 0, 100000), (972, 973, 0, 100000), (973, 974, 0, 100000), (974, 975, 0, 100000), (975, 976, 0, 100000), (976, 977, 0, 100000), (977, 978, 0, 100000), (978, 979, 0, 100000), (979, 980, 0, 100000), (980, 981, 0, 100000), (981, 982, 0, 100000), (982, 983, 0, 100000), (983, 984, 0, 100000), (984, 985, 0, 100000), (985, 986, 0, 100000), (986, 987, 0, 100000), (987, 988, 0, 100000), (988, 989, 0, 100000), (989, 990, 0, 100000), (990, 991, 0, 100000), (991, 992, 0, 100000), (992, 993, 0, 100000), (993, 994, 0, 100000), (994, 995, 0, 100000)]
abbrev Q_mo_asked__b (S : sS) (n : Nat) (dd : Nat) (first : Int) : pst := fun r S1 => HI S1 ∧ FR md_mo_asked__b S S1 ∧ (r = none ∧ (Xi S1 904 106 = 0 → DOK S1) ∧ (Xi S1 904 106 = 0 → RDT S1) ∧ (∀ d2 : Nat, AKP S d2 first → AKQ S S1 d2 first))
theorem t_mo_asked__b {S : sS} (hH : HI S) (n : Nat) (dd : Nat) (first : Int) (hfirst : 0 ≤ first ∧ first ≤ 5001) (hT : TK S n) (hv : RNV S n) (hM : LXM S) (hB : ABV S) (hC : DCM S) (hK : TXK S n) (hX : TXM S) (hq : SNQ S n) (hap : AP9 S n) (h94 : Xi S 904 94 ≤ 1668) (hRD : RDT S) (hPF : PF S) (hdt : Xi S 904 70 = 20 → first ≤ dd ∧ dd < n ∧ Xi S 907 dd = 46) (d : Nat) : Mt lay0 (d + 13) m_mo_asked [.ref 904, iv first] S (Q_mo_asked__b S n dd first) := by sorry
def md_mo_does__b : List rec := [(904, 905, 15, 16), (904, 905, 16, 17), (904, 905, 18, 19), (904, 905, 19, 20), (904, 905, 23, 24), (904, 905, 30, 31), (904, 905, 32, 33), (904, 905, 41, 42), (904, 905, 47, 48), (904, 905, 49, 50), (904, 905, 51, 52), (904, 905, 55, 56), (904, 905, 60, 61), (904, 905, 64, 65), (904, 905, 73, 74), (904, 905, 105, 106), (904, 905, 106, 107), (904, 905, 113, 114), (904, 905, 117, 118), (912, 913, 0, 100000), (913, 914, 0, 100000), (914, 915, 0, 100000), (915, 916, 0, 100000), (916, 917, 0, 100000), (917, 918, 0, 100000), (918, 919, 0, 100000), (919, 920, 0, 100000), (920, 921, 0, 100000), (921, 922, 0, 100000), (922, 923, 0, 100000), (923, 924, 0, 100000), (924, 925, 0, 100000), (925, 926, 0, 100000), (926, 927, 0, 100000), (927, 928, 0, 100000), (928, 929, 0, 100000), (929, 930, 0, 100000), (930, 931, 0, 100000), (931, 932, 0, 100000), (932, 933, 0, 100000), (933, 934, 0, 100000), (934, 935, 0, 100000), (935, 936, 0, 100000), (936, 937, 0, 100000), (937, 938, 0, 100000), (938, 939, 0, 100000), (939, 940, 0, 100000), (940, 941, 0, 100000), (941, 942, 0, 100000), (942, 943, 0, 100000), (943, 944, 0, 100000), (944, 945, 0, 100000), (945, 946, 0, 100000), (946, 947, 0, 100000), (947, 948, 0, 100000), (948, 949, 0, 100000), (949, 950, 0, 100000)]
abbrev Q_mo_does__b (S : sS) (n : Nat) (first : Int) : pst := fun r S1 => HI S1 ∧ FR md_mo_does__b S S1 ∧ (r = none ∧ (TIX S1) ∧ (GR S1 S) ∧ (DKP S first → DKQ S S1 first))
theorem t_mo_does__b {S : sS} (hH : HI S) (n : Nat) (first : Int) (hfirst : 0 ≤ first ∧ first ≤ 5001) (hT : TK S n) (hv : RNV S n) (hK : TXK S n) (hI : TIX S) (hq : SNQ S n) (hk : DOK S) (h11 : Xi S 904 70 = 11 → -1 ≤ Xi S 904 78) (d : Nat) : Mt lay0 (d + 8) m_mo_does [.ref 904, iv first] S (Q_mo_does__b S n first) := by sorry
/-! the reference: readStory, and its way -/
def rs0 (S : sS) : sS := uI (uI (uI S 904 62 (Int32.ofInt 0)) 904 61 (Int32.ofInt 0)) 904 8 (Int32.ofInt 0)
def FLD (V S1 : sS) (c p : Int) : Prop := FR md_mo_failed__b V S1 ∧ HI S1 ∧ Xi S1 904 62 = c ∧ Xi S1 904 63 = p
def RP7 (n : Nat) (X : sS) : Prop := HI X ∧ TK X n ∧ TXK X n ∧ TIX X ∧ PF X ∧ BDA X ∧ 0 ≤ Xi X 904 8 ∧ Xi X 904 8 ≤ n ∧ Xi X 907 (Xi X 904 8).toNat ≠ 1 ∧ Xi X 904 62 = 0
def SNB (n : Nat) (X V : sS) : Prop := HI V ∧ FR md_mo_sentence__b X V ∧ (Xi X 904 8 ≤ Xi V 904 8) ∧ (Xi V 904 65 = 0 → Xi X 904 8 < Xi V 904 8 ∧ Xi V 904 8 ≤ n) ∧ RNV V n ∧ (Xi V 904 65 = 0 → SNQ V n) ∧ (Xi V 904 65 = 0 → AP9 V n) ∧ (Xi V 904 65 = 0 → Xi V 904 94 ≤ 1668) ∧ (Xi V 904 65 = 0 → Xi V 904 70 ≠ 0 → Xi X 907 (Xi V 904 8 - 1).toNat = 46) ∧ (∀ m : Nat, VLR X (Xi X 904 8).toNat m → SPO X V (Xi X 904 8).toNat m) ∧ (tkR X (Xi X 904 8) = 135 → (Xi V 904 65 = 0 → ∃ e : Int, DFE (tkR X) V 0 0 (Xi X 904 8) e ∧ tkR X e = 46 ∧ Xi V 904 8 = e + 1)) ∧ (138 ≤ tkR X (Xi X 904 8) ∧ tkR X (Xi X 904 8) ≤ 141 → (Xi V 904 65 = 0 → ∃ e : Int, RUE (tkR X) V 0 0 0 (sKR (tkR X (Xi X 904 8))) (Xi X 904 8) e ∧ tkR X e = 46 ∧ Xi V 904 8 = e + 1))
def ASB (n : Nat) (V T : sS) (f : Int) : Prop := HI T ∧ FR md_mo_asked__b V T ∧ (Xi T 904 106 = 0 → DOK T) ∧ (Xi T 904 106 = 0 → RDT T) ∧ ∀ d2 : Nat, AKP V d2 f → AKQ V T d2 f
def DSB (n : Nat) (T W : sS) (f : Int) : Prop := HI W ∧ FR md_mo_does__b T W ∧ TIX W ∧ GR W T ∧ (DKP T f → DKQ T W f)
/-- one sentence -/
def RSS (n : Nat) (X S1 : sS) : Prop := RP7 n X ∧ ∃ (od : Int) (V : sS), ODD7 X (Xi X 904 8) od ∧ SNB n X V ∧ ((od ≠ -1 ∧ FLD V S1 1 (Xi V 908 od.toNat)) ∨ (od = -1 ∧ Xi V 904 65 ≠ 0 ∧ FLD V S1 2 (Xi V 908 (Xi V 904 66).toNat)) ∨ (od = -1 ∧ Xi V 904 65 = 0 ∧ ∃ T W Y : sS, ASB n V T (Xi X 904 8) ∧ (Xi T 904 106 ≠ 0 → W = T) ∧ (Xi T 904 106 = 0 → DSB n T W (Xi X 904 8)) ∧ (Xi W 904 106 ≠ 0 → FLD W Y (Xi W 904 106) (Xi W 904 105)) ∧ (Xi W 904 106 = 0 → Y = W) ∧ S1 = uI (uI Y 904 8 (Int32.ofInt (Xi V 904 8))) 904 61 (Int32.ofInt (Xi Y 904 61 + 1))))
def RC7 (n : Nat) (R0 : sS) : Nat → sS → Prop
  | 0, X => X = R0
  | k + 1, X => ∃ Y : sS, RC7 n R0 k Y ∧ RSS n Y X
def RY7 (n : Nat) (S X : sS) : Prop := (Xi S 907 0 ≠ 1 ∧ ∃ k : Nat, RC7 n (rs0 S) k X) ∨ (Xi S 907 0 = 1 ∧ FLD (rs0 S) X 2 (Xi S 908 0))
theorem rty_s {n : Nat} {S X S1 : sS} (h : ∃ k : Nat, RC7 n (rs0 S) k X) (r : RSS n X S1) : RY7 n S S1 := by sorry
theorem rty_0 {n : Nat} {S X : sS} (h : Xi S 907 0 ≠ 1) (e : X = rs0 S) : RY7 n S X := by sorry
theorem rty_1 {n : Nat} {S X Y : sS} (h : Xi S 907 0 = 1) (e : Y = rs0 S) (f : FLD Y X 2 (Xi Y 908 0)) : RY7 n S X := by sorry
theorem rty_k {n : Nat} {S X : sS} (h : RY7 n S X) (f : Xi X 904 62 = 0) : ∃ k : Nat, RC7 n (rs0 S) k X := by sorry
theorem rss_1 {n : Nat} {X V S1 : sS} {f od : Int} (r : RP7 n X) (hf : Xi X 904 8 = f) (o : ODD7 X f od) (h : od ≠ -1) (s : SNB n X V) (g : FLD V S1 1 (Xi V 908 od.toNat)) : RSS n X S1 := by sorry
theorem rss_2 {n : Nat} {X V S1 : sS} {f : Int} (r : RP7 n X) (hf : Xi X 904 8 = f) (o : ODD7 X f (-1)) (s : SNB n X V) (h : Xi V 904 65 ≠ 0) (g : FLD V S1 2 (Xi V 908 (Xi V 904 66).toNat)) : RSS n X S1 := by sorry
theorem rss_3 {n : Nat} {S V T W Y Z S1 : sS} {v1 v3 : Int} (h : ∃ (X : sS) (k : Nat), RC7 n (rs0 S) k X ∧ RP7 n X ∧ Xi X 904 8 = v1 ∧ ODD7 X v1 (-1) ∧ SNB n X V) (b : Xi V 904 65 = 0) (a : ASB n V T v1) (w0 : Xi T 904 106 ≠ 0 → W = T) (w1 : Xi T 904 106 = 0 → DSB n T W v1) (y1 : Xi W 904 106 ≠ 0 → FLD W Y (Xi W 904 106) (Xi W 904 105)) (y0 : Xi W 904 106 = 0 → Y = W) (e3 : Xi V 904 8 = v3) (z1 : Z = uI Y 904 8 (Int32.ofInt v3)) (z2 : S1 = uI Z 904 61 (Int32.ofInt (Xi Z 904 61 + 1))) : RY7 n S S1 := by sorry
def md_mo_readStory__t : List rec := [(904, 905, 8, 9), (904, 905, 15, 16), (904, 905, 16, 17), (904, 905, 18, 19), (904, 905, 19, 20), (904, 905, 23, 24), (904, 905, 30, 31), (904, 905, 32, 33), (904, 905, 41, 42), (904, 905, 47, 48), (904, 905, 49, 50), (904, 905, 51, 52), (904, 905, 55, 56), (904, 905, 60, 61), (904, 905, 61, 62), (904, 905, 62, 63), (904, 905, 63, 64), (904, 905, 64, 65), (904, 905, 65, 66), (904, 905, 66, 67), (904, 905, 69, 70), (904, 905, 70, 71), (904, 905, 71, 72), (904, 905, 72, 73), (904, 905, 73, 74), (904, 905, 74, 75), (904, 905, 75, 76), (904, 905, 76, 77), (904, 905, 77, 78), (904, 905, 78, 79), (904, 905, 79, 80), (904, 905, 80, 81), (904, 905, 81, 82), (904, 905, 93, 94), (904, 905, 94, 95), (904, 905, 98, 99), (904, 905, 99, 100), (904, 905, 100, 101), (904, 905, 101, 102), (904, 905, 102, 103), (904, 905, 103, 104), (904, 905, 104, 105), (904, 905, 105, 106), (904, 905, 106, 107), (904, 905, 108, 109), (904, 905, 109, 110), (904, 905, 110, 111), (904, 905, 112, 113), (904, 905, 113, 114), (904, 905, 115, 116), (904, 905, 116, 117), (904, 905, 117, 118), (904, 905, 125, 126), (904, 905, 128, 129), (904, 905, 129, 130), (904, 905, 130, 131), (904, 905, 142, 143), (904, 905, 144, 145), (904, 905, 146, 147), (904, 905, 147, 148), (904, 905, 150, 151), (904, 905, 151, 152), (904, 905, 153, 154), (904, 905, 154, 155), (904, 905, 156, 157), (904, 905, 157, 158), (904, 905, 158, 159), (904, 905, 160, 161), (912, 913, 0, 100000), (913, 914, 0, 100000), (914, 915, 0, 100000), (915, 916, 0, 100000), (916, 917, 0, 100000), (917, 918, 0, 100000), (918, 919, 0, 100000), (919, 920, 0, 100000), (920, 921, 0, 100000), (921, 922, 0, 100000), (922, 923, 0, 100000), (923, 924, 0, 100000), (924, 925, 0, 100000), (925, 926, 0, 100000), (926, 927, 0, 100000), (927, 928, 0, 100000), (928, 929, 0, 100000), (929, 930, 0, 100000), (930, 931, 0, 100000), (931, 932, 0, 100000), (932, 933, 0, 100000), (933, 934, 0, 100000), (934, 935, 0, 100000), (935, 936, 0, 100000), (936, 937, 0, 100000), (937, 938, 0, 100000), (938, 939, 0, 100000), (939, 940, 0, 100000), (940, 941, 0, 100000), (941, 942, 0, 100000), (942, 943, 0, 100000), (943, 944, 0, 100000), (944, 945, 0, 100000), (945, 946, 0, 100000), (946, 947, 0, 100000), (947, 948, 0, 100000), (948, 949, 0, 100000), (949, 950, 0, 100000), (950, 951, 0, 100000), (951, 952, 0, 100000), (952, 953, 0, 100000), (953, 954, 0, 100000), (954, 955, 0, 100000), (955, 956, 0, 100000), (956, 957, 0, 100000), (957, 958, 0, 100000), (958, 959, 0, 100000), (959, 960, 0, 100000), (960, 961, 0, 100000), (961, 962, 0, 100000), (962, 963, 0, 100000), (963, 964, 0, 100000), (964, 965, 0, 100000), (965, 966, 0, 100000), (966, 967, 0, 100000), (967, 968, 0, 100000), (968, 969, 0, 100000), (969, 970, 0, 100000), (970, 971, 0, 100000), (971, 972, 0, 100000), (972, 973, 0, 100000), (973, 974, 0, 100000), (974, 975, 0, 100000), (975, 976, 0, 100000), (976, 977, 0, 100000), (977, 978, 0, 100000), (978, 979, 0, 100000), (979, 980, 0, 100000), (980, 981, 0, 100000), (981, 982, 0, 100000), (982, 983, 0, 100000), (983, 984, 0, 100000), (984, 985, 0, 100000), (985, 986, 0, 100000), (986, 987, 0, 100000), (987, 988, 0, 100000), (988, 989, 0, 100000), (989, 990, 0, 100000), (990, 991, 0, 100000), (991, 992, 0, 100000), (992, 993, 0, 100000), (993, 994, 0, 100000), (994, 995, 0, 100000)]
abbrev Q_mo_readStory__t (S : sS) (n : Nat) : pst := fun r S1 => HI S1 ∧ FR md_mo_readStory__t S S1 ∧ (r = none ∧ (Xi S1 904 62 = 0 → TIX S1) ∧ (ABV S1) ∧ (WYM S1) ∧ (PF S1) ∧ (BDA S1) ∧ (RY7 n S S1 ∧ ¬ (Xi S1 904 62 = 0 ∧ Xi S1 907 (Xi S1 904 8).toNat ≠ 1)))
set_option maxRecDepth 100000 in
set_option maxHeartbeats 8000000 in
theorem c36_mo_readStory__t {S : sS} (hH : HI S) (n : Nat) (hT : TK S n) (hK : TXK S n) (hI : TIX S) (hPF : PF S) (hBDA : BDA S) (d : Nat) : ∀ (n36 : Nat) (T1 : sS) (_ : HI T1) (_ : FR md_mo_readStory__t S T1), (Xi T1 904 62 = 0 → TIX T1) → (ABV T1) → (WYM T1) → (Xi T1 904 62 = 0 → Xi T1 904 8 ≤ n) → (Xi T1 904 61 ≤ Xi T1 904 8) → (PF T1) → (BDA T1) → (Hid (RY7 n S T1)) → n36 = (20000 - Xi T1 904 8 - 9000 * Xi T1 904 62).toNat → Rl lay0 (d + 13) m_mo_readStory 36 [(0, .ref 904)] [] T1 (Q_mo_readStory__t S n) := by sorry
set_option maxRecDepth 100000 in
set_option maxHeartbeats 8000000 in
theorem t_mo_readStory__t {S : sS} (hH : HI S) (n : Nat) (hT : TK S n) (hK : TXK S n) (hI : TIX S) (hPF : PF S) (hBDA : BDA S) (d : Nat) : Mt lay0 (d + 14) m_mo_readStory [.ref 904] S (Q_mo_readStory__t S n) := by sorry
end
section
def md_mo_begin__b : List rec := [(904, 905, 15, 16), (904, 905, 16, 17), (904, 905, 18, 19), (904, 905, 19, 20), (904, 905, 23, 24), (904, 905, 30, 31), (904, 905, 32, 33), (904, 905, 41, 42), (904, 905, 47, 48), (904, 905, 49, 50), (904, 905, 51, 52), (904, 905, 55, 56), (904, 905, 60, 61), (904, 905, 117, 118), (904, 905, 125, 126), (904, 905, 130, 131), (904, 905, 156, 157), (912, 913, 0, 100000), (913, 914, 0, 100000), (914, 915, 0, 100000), (915, 916, 0, 100000), (916, 917, 0, 100000), (917, 918, 0, 100000), (918, 919, 0, 100000), (919, 920, 0, 100000), (920, 921, 0, 100000), (921, 922, 0, 100000), (922, 923, 0, 100000), (924, 925, 0, 100000), (925, 926, 0, 100000), (926, 927, 0, 100000), (928, 929, 0, 100000), (929, 930, 0, 100000), (930, 931, 0, 100000), (933, 934, 0, 100000), (940, 941, 0, 100000), (942, 943, 0, 100000), (946, 947, 0, 100000), (947, 948, 0, 100000), (948, 949, 0, 100000), (949, 950, 0, 100000)]
abbrev Q_mo_begin__b (S : sS) : pst := fun r S1 => HI S1 ∧ FR md_mo_begin__b S S1 ∧ (r = none ∧ (TXM S1) ∧ (ABV S1) ∧ (WYM S1) ∧ (LXM S1) ∧ (AKR S1) ∧ (DCM S1) ∧ (VTM S1) ∧ (VCN S1) ∧ (LCN S1) ∧ (WYD S1) ∧ (Xi S1 904 117 = 0 ∧ Xi S1 904 125 = 0 ∧ Xi S1 904 130 = 0) ∧ (∀ a : Nat, (a : Int) < Xi S1 904 23 → Xi S1 924 a = 0) ∧ (Xi S1 904 60 < Xi S1 904 19) ∧ (2 ≤ Xi S1 904 16) ∧ (EVR m_mo_begin [.ref 904] S none S1))
theorem t_mo_begin__b {S : sS} (hH : HI S) (hB : ABV S) (hW : WYM S) (d : Nat) : Mt lay0 (d + 6) m_mo_begin [.ref 904] S (Q_mo_begin__b S) := by sorry
abbrev Q_mo_isBelow__b (S : sS) (kind : Int) (of_ : Int) : pst := fun r S1 => S = S1 ∧ (∃ z : Int, r = some (iv z) ∧ (0 ≤ z ∧ z ≤ 1) ∧ (z = 1 → 0 ≤ kind ∧ 0 ≤ of_) ∧ (ABV S ∧ kind ≤ 15 ∧ -1 ≤ kind → z = blR S kind of_))
theorem t_mo_isBelow__b {S : sS} (hH : HI S) (kind : Int) (of_ : Int) (hkind : -1 ≤ kind ∧ kind ≤ 15) (hof_ : -2147483648 ≤ of_ ∧ of_ ≤ 2147483647) (hB : ABV S) (d : Nat) : Mt lay0 (d + 1) m_mo_isBelow [.ref 904, iv kind, iv of_] S (Q_mo_isBelow__b S kind of_) := by sorry
/-! the reference: read, and its way -/
def CTX (S C : sS) (n : Nat) : Prop := TK C n ∧ TXK C n ∧ CUT (Xi C 906) (Xj C 911) (Xi C 904 3) C n ∧ Xi C 904 3 = Xi S 904 1 ∧ (∀ j : Nat, (j : Int) < Xi S 904 1 → Xi C 906 j = Xi S 905 j) ∧ KEP [(905, 906), (911, 995)] [(904, 157)] S C
theorem ctx_i {S P C : sS} {n : Nat} (tk : TK C n) (tx : TXK C n) (c : CUT (Xi P 906) (Xj P 911) (Xi P 904 3) C n) (f : FR md_mo_cut__f P C) (z : Xi P 904 3 = Xi S 904 1) (q : ∀ j : Nat, (j : Int) < Xi S 904 1 → Xi P 906 j = Xi S 905 j) (kk : KEP [(905, 906), (911, 995)] [(904, 157)] S P) : CTX S C n := by sorry
def BGS (S B : sS) (n : Nat) : Prop := ∃ C : sS, HI C ∧ CTX S C n ∧ EVR m_mo_begin [.ref 904] C none B ∧ FR md_mo_begin__b C B
def SRY (S R : sS) : Prop := ∃ (n : Nat) (B : sS), HI B ∧ BGS S B n ∧ FR md_mo_readStory__t B R ∧ HI R ∧ RY7 n B R ∧ ¬ (Xi R 904 62 = 0 ∧ Xi R 907 (Xi R 904 8).toNat ≠ 1)
/-- the player is placed -/
def PLI (S X : sS) (v : Int) : Prop := ∃ R : sS, SRY S R ∧ Xi R 904 62 = 0 ∧ ((X = R ∧ (Xi R 919 0 = 0 → ∀ o : Nat, (o : Int) < v → blR R (Xi R 918 o) 1 = 0)) ∨ (Xi R 919 0 = 0 ∧ ∃ o : Nat, (o : Int) < v ∧ (o : Int) < Xi R 904 19 ∧ blR R (Xi R 918 o) 1 ≠ 0 ∧ (∀ j : Nat, j < o → blR R (Xi R 918 j) 1 = 0) ∧ X = uI (uI R 919 0 (Int32.ofInt 1)) 920 0 (Int32.ofInt o)))
def PLZ (S S1 : sS) (z : Int) : Prop := ∃ R : sS, SRY S R ∧ Xi R 904 62 = 0 ∧ z = Xi R 904 61 ∧ ((S1 = R ∧ (Xi R 919 0 = 0 → ∀ o : Nat, (o : Int) < Xi R 904 19 → blR R (Xi R 918 o) 1 = 0)) ∨ (Xi R 919 0 = 0 ∧ ∃ o : Nat, (o : Int) < Xi R 904 19 ∧ blR R (Xi R 918 o) 1 ≠ 0 ∧ (∀ j : Nat, j < o → blR R (Xi R 918 j) 1 = 0) ∧ S1 = uI (uI R 919 0 (Int32.ofInt 1)) 920 0 (Int32.ofInt o)))
def MRN (S S1 : sS) (z : Int) : Prop := (∃ R : sS, SRY S R ∧ Xi R 904 62 ≠ 0 ∧ z = -10 - Xi S1 904 63 ∧ EVR m_mo_begin [.ref 904] R none S1 ∧ FR md_mo_begin__b R S1) ∨ PLZ S S1 z
theorem pli_0 {S X : sS} (h : SRY S X) (f : Xi X 904 62 = 0) : PLI S X 0 := by sorry
theorem pli_n {S X : sS} {v : Int} (h : PLI S X v) (h0 : 0 ≤ v) (w : Xi X 919 0 = 0) (b : blR X (Xi X 918 v.toNat) 1 = 0) : PLI S X (v + 1) := by sorry
theorem pli_y {S X Y Z : sS} {v : Int} (h : PLI S X v) (h0 : 0 ≤ v) (hv : v < Xi X 904 19) (w : Xi X 919 0 = 0) (b : blR X (Xi X 918 v.toNat) 1 ≠ 0) (e1 : Y = uI X 919 (0 : Int).toNat (Int32.ofInt 1)) (e2 : Z = uI Y 920 (0 : Int).toNat (Int32.ofInt v)) : PLI S Z (v + 1) := by sorry
theorem pli_e {S X : sS} {v z : Int} (h : PLI S X v) (hz : z = Xi X 904 61) (hv : Xi X 904 19 ≤ v ∨ Xi X 919 0 ≠ 0) : PLZ S X z := by sorry
def md_mo_read__t : List rec := [(904, 905, 1, 2), (904, 905, 3, 4), (904, 905, 8, 9), (904, 905, 15, 16), (904, 905, 16, 17), (904, 905, 18, 19), (904, 905, 19, 20), (904, 905, 23, 24), (904, 905, 30, 31), (904, 905, 32, 33), (904, 905, 41, 42), (904, 905, 47, 48), (904, 905, 49, 50), (904, 905, 51, 52), (904, 905, 55, 56), (904, 905, 60, 61), (904, 905, 61, 62), (904, 905, 62, 63), (904, 905, 63, 64), (904, 905, 64, 65), (904, 905, 65, 66), (904, 905, 66, 67), (904, 905, 69, 70), (904, 905, 70, 71), (904, 905, 71, 72), (904, 905, 72, 73), (904, 905, 73, 74), (904, 905, 74, 75), (904, 905, 75, 76), (904, 905, 76, 77), (904, 905, 77, 78), (904, 905, 78, 79), (904, 905, 79, 80), (904, 905, 80, 81), (904, 905, 81, 82), (904, 905, 93, 94), (904, 905, 94, 95), (904, 905, 98, 99), (904, 905, 99, 100), (904, 905, 100, 101), (904, 905, 101, 102), (904, 905, 102, 103), (904, 905, 103, 104), (904, 905, 104, 105), (904, 905, 105, 106), (904, 905, 106, 107), (904, 905, 108, 109), (904, 905, 109, 110), (904, 905, 110, 111), (904, 905, 112, 113), (904, 905, 113, 114), (904, 905, 115, 116), (904, 905, 116, 117), (904, 905, 117, 118), (904, 905, 125, 126), (904, 905, 128, 129), (904, 905, 129, 130), (904, 905, 130, 131), (904, 905, 142, 143), (904, 905, 144, 145), (904, 905, 146, 147), (904, 905, 147, 148), (904, 905, 150, 151), (904, 905, 151, 152), (904, 905, 153, 154), (904, 905, 154, 155), (904, 905, 156, 157), (904, 905, 157, 158), (904, 905, 158, 159), (904, 905, 160, 161), (906, 907, 0, 100000), (907, 908, 0, 100000), (908, 909, 0, 100000), (909, 910, 0, 100000), (910, 911, 0, 100000), (912, 913, 0, 100000), (913, 914, 0, 100000), (914, 915, 0, 100000), (915, 916, 0, 100000), (916, 917, 0, 100000), (917, 918, 0, 100000), (918, 919, 0, 100000), (919, 920, 0, 100000), (920, 921, 0, 100000), (921, 922, 0, 100000), (922, 923, 0, 100000), (923, 924, 0, 100000), (924, 925, 0, 100000), (925, 926, 0, 100000), (926, 927, 0, 100000), (927, 928, 0, 100000), (928, 929, 0, 100000), (929, 930, 0, 100000), (930, 931, 0, 100000), (931, 932, 0, 100000), (932, 933, 0, 100000), (933, 934, 0, 100000), (934, 935, 0, 100000), (935, 936, 0, 100000), (936, 937, 0, 100000), (937, 938, 0, 100000), (938, 939, 0, 100000), (939, 940, 0, 100000), (940, 941, 0, 100000), (941, 942, 0, 100000), (942, 943, 0, 100000), (943, 944, 0, 100000), (944, 945, 0, 100000), (945, 946, 0, 100000), (946, 947, 0, 100000), (947, 948, 0, 100000), (948, 949, 0, 100000), (949, 950, 0, 100000), (950, 951, 0, 100000), (951, 952, 0, 100000), (952, 953, 0, 100000), (953, 954, 0, 100000), (954, 955, 0, 100000), (955, 956, 0, 100000), (956, 957, 0, 100000), (957, 958, 0, 100000), (958, 959, 0, 100000), (959, 960, 0, 100000), (960, 961, 0, 100000), (961, 962, 0, 100000), (962, 963, 0, 100000), (963, 964, 0, 100000), (964, 965, 0, 100000), (965, 966, 0, 100000), (966, 967, 0, 100000), (967, 968, 0, 100000), (968, 969, 0, 100000), (969, 970, 0, 100000), (970, 971, 0, 100000), (971, 972, 0, 100000), (972, 973, 0, 100000), (973, 974, 0, 100000), (974, 975, 0, 100000), (975, 976, 0, 100000), (976, 977, 0, 100000), (977, 978, 0, 100000), (978, 979, 0, 100000), (979, 980, 0, 100000), (980, 981, 0, 100000), (981, 982, 0, 100000), (982, 983, 0, 100000), (983, 984, 0, 100000), (984, 985, 0, 100000), (985, 986, 0, 100000), (986, 987, 0, 100000), (987, 988, 0, 100000), (988, 989, 0, 100000), (989, 990, 0, 100000), (990, 991, 0, 100000), (991, 992, 0, 100000), (992, 993, 0, 100000), (993, 994, 0, 100000), (994, 995, 0, 100000)]
end
section
/-! the rows of a sentence are the reference's tokens, all of them -/
theorem deF_dg {B : Nat → Int} {e : Int} : ∀ (f : Nat) (p j : Int), p ≤ j → j < deF B e f p → 48 ≤ B j.toNat ∧ B j.toNat ≤ 57 := by sorry
def b9 : Nat → Int
  | 0 => 0
  | n + 1 => b9 n * 10 + 9
theorem dv_rg {B : Nat → Int} {f : Nat} : ∀ n : Nat, (∀ i : Nat, i < n → 48 ≤ B (f + i) ∧ B (f + i) ≤ 57) → 0 ≤ dvF B f n ∧ dvF B f n ≤ b9 n := by sorry
theorem b9_6 {n : Nat} (h : n ≤ 6) : b9 n ≤ 999999 := by sorry
/-- numbers have six figures -/
theorem nvl_r {T : sS} {ts r : Nat} {e : Int} (he : Xi T 876 5 = e) (hr : RW7 T ts r) (q : Xi T 877 r = 101) : 0 ≤ Xj T 879 r ∧ Xj T 879 r ≤ 999999 := by sorry
theorem tkw_of {T S : sS} {ts f r : Nat} {e : Int} (hK : KEYR (Xj T 880) (Xj S 911)) (hB : BE (Xi T ts) (Xi S 906) e) (he : Xi T 876 5 = e) (hr : RW7 T ts r) (t : TKE T S f r) : TKW T S f r := by sorry
/-- what both know of the text -/
def TXB (V X : sS) (ts n : Nat) (e : Int) : Prop := HI V ∧ KEYR (Xj V 880) (Xj X 911) ∧ BE (Xi V ts) (Xi X 906) e ∧ Xi V 876 5 = e ∧ CUT (Xi X 906) (Xj X 911) e X n ∧ TK X n
/-- the token behind token i -/
theorem nx_tok {V X : sS} {ts n i : Nat} {e : Int} (x : TXB V X ts n e) (hi : i < n) (h2 : Xi X 907 i ≠ 2) : (i + 1 < n → Xi X 908 (i + 1) = sk7 (Xi V ts) e (q7 (Xi V ts) e (Xi X 908 i)) ∧ Xi X 908 (i + 1) < e) ∧ (i + 1 = n → e ≤ sk7 (Xi V ts) e (q7 (Xi V ts) e (Xi X 908 i))) := by sorry
theorem tr_46 {t : Int} (h : 0 ≤ t ∧ t ≤ 108) : (tr7 t = 46 ↔ t = 103) ∧ (tr7 t = 1 ↔ t = 107) ∧ (tr7 t = 2 ↔ t = 108) ∧ (tr7 t = 5 ↔ t = 102) := by sorry
theorem ty_rg {V : sS} (hH : HI V) (i : Int) : 0 ≤ ty7 V i ∧ ty7 V i ≤ 108 := by sorry
theorem r877 {V : sS} (hH : HI V) (i : Nat) : 0 ≤ Xi V 877 i ∧ Xi V 877 i ≤ 108 := by sorry
/-- the rows of SC are tokens -/
theorem sc_tk {V X : sS} {ts f n : Nat} {e a m : Int} (x : TXB V X ts n e) (hf : f < n) (hp : Xi X 908 f = a) (hS : SC V ts a m) : ∀ r : Nat, (r : Int) < m → f + r < n ∧ TKW V X f r ∧ (Xi V 877 r = 101 → 0 ≤ Xj V 879 r ∧ Xj V 879 r ≤ 999999) := by sorry
/-- all rows, and what stands behind them -/
def SNK (V X : sS) (ts f n : Nat) (e z : Int) : Prop := (∀ r : Nat, (r : Int) < Xi V 876 7 → f + r ≤ n ∧ TKW V X f r ∧ (Xi V 877 r = 101 → 0 ≤ Xj V 879 r ∧ Xj V 879 r ≤ 999999)) ∧
  (∀ r : Nat, (r : Int) + 1 < Xi V 876 7 → Xi V 877 r ≠ 103 ∧ Xi V 877 r ≠ 107 ∧ Xi V 877 r ≠ 108 ∧ f + r < n ∧ (r = 0 → Xi V 877 r = 102 → Xi V 876 7 = 2 ∧ Xi V 877 1 = 103)) ∧
  ((Xi V 877 (Xi V 876 7 - 1).toNat = 108) ∨ (Xi V 877 (Xi V 876 7 - 1).toNat = 107 ∧ (f : Int) + Xi V 876 7 = n + 1) ∨ ((Xi V 877 (Xi V 876 7 - 1).toNat = 103 ∨ (Xi V 876 7 = 1 ∧ Xi V 877 0 = 102 ∧ Xi X 907 (f + 1) ≠ 46)) ∧ (f : Int) + Xi V 876 7 ≤ n ∧ ((f : Int) + Xi V 876 7 < n → Xi X 908 (f + (Xi V 876 7).toNat) = sk7 (Xi V ts) e z ∧ sk7 (Xi V ts) e z < e) ∧ ((f : Int) + Xi V 876 7 = n → e ≤ sk7 (Xi V ts) e z)))

/-! a sentence that the class has taken: its rows, and what stands behind it -/
theorem t7_103 {K B : Nat → Int} {e p : Int} : (t7 K B e p = 103 → B p.toNat = 46) ∧ (0 ≤ p → B p.toNat = 46 → t7 K B e p = 103 ∧ q7 B e p = p + 1) := by sorry
theorem snk_i {V X : sS} {ts f n : Nat} {e a z : Int} (x : TXB V X ts n e) (hf : f < n) (hp : Xi X 908 f = a) (h0 : 0 ≤ a) (r1 : 1 ≤ Xi V 876 7) (hS : SEN V ts a z) : SNK V X ts f n e z := by sorry
end
end
section
section
/-! the grammar never goes past the dot -/
/-- the sentence ends at N -/
def EN7 (T : Int → Int) (N : Int) : Prop := (T N = 103 ∨ T N = 107) ∧ ∀ i, N < i → T i = 107
def UB (N : Int) (g : Int → Int × Int) : Prop := ∀ a, a ≤ N → (g a).2 ≤ N
theorem en_lt {T : Int → Int} {N a : Int} (h : EN7 T N) (ha : a ≤ N) (t : T a ≠ 103) (u : T a ≠ 107) : a + 1 ≤ N := by sorry
theorem ub_T {T : Int → Int} {N k : Int} (h : EN7 T N) (h1 : k ≠ 103) (h2 : k ≠ 107) : UB N (gT T k) := by sorry
theorem ub_A {T : Int → Int} {N : Int} (h : EN7 T N) : UB N (gA T) := by sorry
theorem ub_re {T : Int → Int} {N a : Int} (h : EN7 T N) (ha : a ≤ N) : re7 T a ≤ N := by sorry
theorem ub_R {T : Int → Int} {N : Int} (h : EN7 T N) : UB N (gR T) := by sorry
theorem ub_bA {T : Int → Int} {N a : Int} (h : EN7 T N) (ha : a ≤ N) : bA T a ≤ N := by sorry
theorem ub_N {T : Int → Int} {N : Int} (h : EN7 T N) : UB N (gN T) := by sorry
theorem ub_sq {N : Int} {x : Int × Int} {f : Int → Int × Int} (h : x.2 ≤ N) (k : UB N f) : (gSq x f).2 ≤ N := by sorry
theorem ub_or {N : Int} {x : Int × Int} {f : Int → Int × Int} (h : x.2 ≤ N) (k : UB N f) : (gOr x f).2 ≤ N := by sorry
theorem ub_Be {T : Int → Int} {N : Int} (h : EN7 T N) : UB N (gBe T) := by sorry
theorem ub_How {T : Int → Int} {N : Int} (h : EN7 T N) : UB N (gHow T) := by sorry
theorem ub_Bt {T : Int → Int} {N : Int} (h : EN7 T N) : UB N (gBt T) := by sorry
theorem ub_Ln {T : Int → Int} {N : Int} (h : EN7 T N) : ∀ n, UB N (gLn T n) := by sorry
theorem ub_Ls {T : Int → Int} {N : Int} (h : EN7 T N) : UB N (gLs T) := by sorry
theorem ub_Rn {T : Int → Int} {N : Int} (h : EN7 T N) : ∀ n, UB N (gRn T n) := by sorry
theorem ub_Th {T : Int → Int} {N : Int} (h : EN7 T N) : UB N (gTh T) := by sorry
theorem ub_Pl {T : Int → Int} {N any a : Int} (h : EN7 T N) (ha : a ≤ N) (p : pl7 (T a)) : (gPl T any a).2 ≤ N := by sorry
theorem ub_Wh {T : Int → Int} {N : Int} (h : EN7 T N) : UB N (gWh T) := by sorry
theorem ub_LoF {T : Int → Int} {N x y : Int} (h : EN7 T N) (hx : x ≠ 103 ∧ x ≠ 107) (hy : y ≠ 103 ∧ y ≠ 107) : ∀ (n : Nat) (a : Int), a ≤ N → gLoF T x y n a ≤ N := by sorry
theorem ub_Lo {T : Int → Int} {N x y : Int} (h : EN7 T N) (hx : x ≠ 103 ∧ x ≠ 107) (hy : y ≠ 103 ∧ y ≠ 107) : UB N (gLo T x y) := by sorry
theorem ub_Pt {T : Int → Int} {N now a : Int} (h : EN7 T N) (ha : a ≤ N) (b : bp7 T a) : (gPt T now a).2 ≤ N := by sorry
theorem ub_Tt {T : Int → Int} {N now : Int} (h : EN7 T N) : UB N (gTt T now) := by sorry
theorem ub_Tsn {T : Int → Int} {N : Int} (h : EN7 T N) : ∀ n, UB N (gTsn T n) := by sorry
theorem ub_Ts {T : Int → Int} {N : Int} (h : EN7 T N) : UB N (gTs T) := by sorry
theorem ub_Ac {T : Int → Int} {N : Int} (h : EN7 T N) : UB N (gAc T) := by sorry
theorem ub_Ph {T : Int → Int} {N : Int} (h : EN7 T N) : UB N (gPh T) := by sorry
theorem ub_P1 {T : Int → Int} {N : Int} (h : EN7 T N) : UB N (gP1 T) := by sorry
theorem ub_Psn {T : Int → Int} {N : Int} (h : EN7 T N) : ∀ n, UB N (gPsn T n) := by sorry
theorem ub_Ps {T : Int → Int} {N : Int} (h : EN7 T N) : UB N (gPs T) := by sorry
/-- a fault of the grammar lies in the sentence -/
theorem ub_e {T : Int → Int} {N b : Int} {x : Int × Int} (h : x.2 ≤ N) (e : gSq x (gT T 103) = (0, b)) : b ≤ N := by sorry
theorem ub_s0 {N b : Int} {x : Int × Int} {f : Int → Int × Int} (h : x.2 ≤ N) (e : gSq x f = (0, b)) (k : ∀ a, a ≤ N → f a = (0, b) → b ≤ N) : b ≤ N := by sorry
theorem ub_t0 {T : Int → Int} {N b c : Int} (h : c ≤ N) (e : gT T 103 c = (0, b)) : b ≤ N := by sorry
theorem ub_ckT {T : Int → Int} {N a b : Int} (h : EN7 T N) (ha : a ≤ N) (e : ckT T a = (0, b)) : b ≤ N := by sorry
theorem ub_chk {T : Int → Int} {N b : Int} (h : EN7 T N) (h0 : 0 ≤ N) (e : chk T = (0, b)) : b ≤ N := by sorry
end
section
/-! a sentence that both read: tokens, kinds of tokens, places -/
theorem tk_mono {X : sS} {n : Nat} (tk : TK X n) : ∀ j i : Nat, i < j → j ≤ n → Xi X 908 i < Xi X 908 j := by sorry
theorem snk_g {V X : sS} {ts f n : Nat} {e z : Int} (x : TXB V X ts n e) (h : SNK V X ts f n e z) (r1 : 1 ≤ Xi V 876 7) : SCX V X f ∧ NVL V ∧ Xi V 876 7 ≤ 5001 ∧ (∀ i j : Int, 0 ≤ i → i < j → j < Xi V 876 7 → pc7 V i < pc7 V j) ∧ (f : Int) + Xi V 876 7 ≤ n + 1 := by sorry
theorem un_t8 {t : Int} (h : 0 ≤ t ∧ t ≤ 108) : un7 (tr7 t) = t := by sorry
theorem snk_v {V X : sS} {ts f n : Nat} {e z : Int} (x : TXB V X ts n e) (h : SNK V X ts f n e z) (r1 : 1 ≤ Xi V 876 7) (hf : f < n) (l8 : Xi V 877 (Xi V 876 7 - 1).toNat ≠ 108) (t0 : Xi V 877 0 ≠ 102) : VLR X f (Xi V 876 7 - 1).toNat ∧ tR X f (Xi V 876 7 - 1).toNat = ty7 V ∧ LST V ∧ NFR V ∧ EN7 (ty7 V) (Xi V 876 7 - 1) ∧ (Xi V 877 (Xi V 876 7 - 1).toNat = 103 ∨ Xi V 877 (Xi V 876 7 - 1).toNat = 107) := by sorry
/-- where the reference looks for what is no token -/
theorem odd_r {V X : sS} {ts f n : Nat} {e z od : Int} (x : TXB V X ts n e) (h : SNK V X ts f n e z) (r1 : 1 ≤ Xi V 876 7) (hf : f < n) (o : ODD7 X f od) : (Xi V 877 (Xi V 876 7 - 1).toNat = 108 → od = f + (Xi V 876 7 - 1)) ∧ (Xi V 877 (Xi V 876 7 - 1).toNat ≠ 108 → od = -1) := by sorry
/-- all that was told stays while nothing is told -/
def cAU : List (Nat × Nat) := [(2, 20), (21, 24), (25, 65), (66, 106), (107, 147), (148, 188), (189, 195), (196, 220), (221, 876), (883, 888), (902, 904)]
def cAv : List (Nat × Nat) := [(1, 3), (20, 1), (20, 12), (891, 10), (882, 3)]
def cAS : List (Nat × Nat) := [(906, 907), (912, 950), (969, 988)]
def cAw : List (Nat × Nat) := [(904, 15), (904, 16), (904, 18), (904, 19), (904, 23), (904, 30), (904, 32), (904, 41), (904, 47), (904, 49), (904, 51), (904, 60), (904, 55), (904, 117), (904, 125), (904, 130)]
theorem rla_k {U U1 S S1 : sS} (a : RLA U S) (k : KEP cAU cAv U U1) (q : KEP cAS cAw S S1) : RLA U1 S1 := by sorry
end
section
/-! what the class's rows want, of sentences of 9 to 20 -/
def CEV (V X : sS) (ts f : Nat) : Prop := RLA V X ∧ (HI V ∧ WI V) ∧ (TOK V ∧ SRX V ∧ txr V = ts ∧ NVL V) ∧ SCX V X f ∧ (1 ≤ Xi V 876 7 ∧ Xi V 876 7 ≤ 5001 ∧ Xi V 876 6 = Xi V 876 7) ∧ (Xi V 876 8 = 0 ∧ Xi V 891 9 = 0)
theorem cev_13 {V X : sS} {ts f : Nat} (c : CEV V X ts f) : (0 ≤ Xi V 1 3 ∧ Xi V 1 3 ≤ 200) ∧ Xi V 1 3 < 199 ∧ Xi V 1 3 ≤ 196 := by sorry
theorem cev_nb {V X : sS} {ts f : Nat} (c : CEV V X ts f) : NRB V := by sorry
theorem cev_pl {V X : sS} {ts f : Nat} (c : CEV V X ts f) : ∀ j : Nat, 0 ≤ Xi V 878 j := by sorry
theorem cev_5 {V X : sS} {ts f : Nat} (c : CEV V X ts f) : Xi V 876 5 ≤ 5000 := by sorry
theorem cev_mk {V X : sS} {ts f : Nat} (c : CEV V X ts f) : MK15 V := by sorry
theorem cev_w2 {V X : sS} {ts f : Nat} (c : CEV V X ts f) : WH2 V := by sorry
theorem cev_wd {V X : sS} {ts f : Nat} (c : CEV V X ts f) : WRB V := by sorry
theorem fn1_i {V : sS} (h : ty7 V (bA (ty7 V) 0) = 100) : FN1 V := by sorry
theorem lok_cm {c M : Int} {V : sS} {n : Nat} (l : LOK V c M n) (h : c ≤ M) : c + n ≤ M := by sorry
theorem loko_cm {o : Nat} {c M : Int} {V : sS} {n : Nat} (l : LOKo o V c M n) (h : c ≤ M) : c + n ≤ M := by sorry
/-- a TYPE that words mean -/
theorem tmc_lt {V X : sS} {a e : Int} (h : RLW V X) (q : 1 < tmC V a e) : tmC V a e < Xi V 5 1 := by sorry
section
variable {V X : sS} {ts f : Nat}
theorem pr_9 (c : CEV V X ts f) (ht : 0 ≤ Xi V 890 3 ∧ Xi V 890 3 ≤ 5125) : P_re_tellProperty V := by sorry
theorem pr_10 (c : CEV V X ts f) (ht : 0 ≤ Xi V 890 3 ∧ Xi V 890 3 ≤ 5125) : P_re_tellKinds V := by sorry
theorem pr_11 (c : CEV V X ts f) (ht : 0 ≤ Xi V 890 3 ∧ Xi V 890 3 ≤ 5125) : P_re_tellActions V := by sorry
theorem pr_12 (c : CEV V X ts f) (ht : 0 ≤ Xi V 890 3 ∧ Xi V 890 3 ≤ 5125) (w : Xi V 891 11 = 0) : P_re_tellObjects V := by sorry
theorem pr_14 (c : CEV V X ts f) (ht : 0 ≤ Xi V 890 3 ∧ Xi V 890 3 ≤ 5125) (fn : FN1 V) (ho : o14 V < Xi V 876 7) : P_re_tellWay V := by sorry
theorem pr_v (c : CEV V X ts f) (ht : 0 ≤ Xi V 890 3 ∧ Xi V 890 3 ≤ 5125) (fn : FN1 V) (hr : Xi V 890 3 + 1 < Xi V 876 7) : P_re_tellValues V := by sorry
theorem pr_17 (c : CEV V X ts f) (ht : 0 ≤ Xi V 890 3 ∧ Xi V 890 3 ≤ 5125) (ho : re7 (ty7 V) (Xi V 890 3 + 2) < Xi V 876 7) : P_re_tellHas V := by sorry
theorem pr_18 (c : CEV V X ts f) (ht : 0 ≤ Xi V 890 3 ∧ Xi V 890 3 ≤ 5125) (ho : re7 (ty7 V) (Xi V 890 3 + 2) < Xi V 876 7) : P_re_tellCan V := by sorry
theorem pr_19 (c : CEV V X ts f) (ht : 0 ≤ Xi V 890 3 ∧ Xi V 890 3 ≤ 5125) (ho : re7 (ty7 V) (Xi V 890 3 + 2) + 2 ≤ Xi V 876 7) : P_re_tellRelation V := by sorry
theorem pr_20 (c : CEV V X ts f) : P_re_tellLoose V := by sorry
theorem pr_15u (c : CEV V X ts f) (ht : 0 ≤ Xi V 890 3 ∧ Xi V 890 3 ≤ 5125) (fn : FN1 V) : P_re_tellUsually V := by sorry
theorem pr_15p (c : CEV V X ts f) (ht : 0 ≤ Xi V 890 3 ∧ Xi V 890 3 ≤ 5125) : P_re_tellPlain V := by sorry
theorem pr_15s (c : CEV V X ts f) (ht : 0 ≤ Xi V 890 3 ∧ Xi V 890 3 ≤ 5125) (fn : FN1 V) : P_re_tellsValues V := by sorry
end

/-! the bundles of premises and posts, case by case -/
theorem akp_0 {S : sS} {dd : Nat} {first : Int} (c : Xi S 904 70 = 0) (p : PX_mo_asked_0 S first) : AKP S dd first := by sorry
theorem akq_0 {S S1 : sS} {dd : Nat} {first : Int} (h : AKQ S S1 dd first) (c : Xi S 904 70 = 0) : QX_mo_asked_0 S S1 first := by sorry
theorem akp_1 {S : sS} {dd : Nat} {first : Int} (c : Xi S 904 70 = 1) (p : PX_mo_asked_1 S first) : AKP S dd first := by sorry
theorem akq_1 {S S1 : sS} {dd : Nat} {first : Int} (h : AKQ S S1 dd first) (c : Xi S 904 70 = 1) : QX_mo_asked_1 S S1 first := by sorry
theorem akp_2 {S : sS} {dd : Nat} {first : Int} (c : Xi S 904 70 = 2) (p : PX_mo_asked_2 S first) : AKP S dd first := by sorry
theorem akq_2 {S S1 : sS} {dd : Nat} {first : Int} (h : AKQ S S1 dd first) (c : Xi S 904 70 = 2) : QX_mo_asked_2 S S1 first := by sorry
theorem akp_3 {S : sS} {dd : Nat} {first : Int} (c : 3 ≤ Xi S 904 70 ∧ Xi S 904 70 ≤ 6) (p : PX_mo_asked_3 S first) : AKP S dd first := by sorry
theorem akq_3 {S S1 : sS} {dd : Nat} {first : Int} (h : AKQ S S1 dd first) (c : 3 ≤ Xi S 904 70 ∧ Xi S 904 70 ≤ 6) : QX_mo_asked_3 S S1 first := by sorry
theorem akp_7 {S : sS} {dd : Nat} {first : Int} (c : Xi S 904 70 = 7) (p : PX_mo_asked_7 S first) : AKP S dd first := by sorry
theorem akq_7 {S S1 : sS} {dd : Nat} {first : Int} (h : AKQ S S1 dd first) (c : Xi S 904 70 = 7) : QX_mo_asked_7 S S1 first := by sorry
theorem akp_8 {S : sS} {dd : Nat} {first : Int} (c : Xi S 904 70 = 8) (p : PX_mo_asked_8 S first) : AKP S dd first := by sorry
theorem akq_8 {S S1 : sS} {dd : Nat} {first : Int} (h : AKQ S S1 dd first) (c : Xi S 904 70 = 8) : QX_mo_asked_8 S S1 first := by sorry
theorem akp_9 {S : sS} {dd : Nat} {first : Int} (c : Xi S 904 70 = 9) (p : PX_mo_asked_9 S first) : AKP S dd first := by sorry
theorem akq_9 {S S1 : sS} {dd : Nat} {first : Int} (h : AKQ S S1 dd first) (c : Xi S 904 70 = 9) : QX_mo_asked_9 S S1 first := by sorry
theorem akp_10 {S : sS} {dd : Nat} {first : Int} (c : Xi S 904 70 = 10) (p : PX_mo_asked_10 S first) : AKP S dd first := by sorry
theorem akq_10 {S S1 : sS} {dd : Nat} {first : Int} (h : AKQ S S1 dd first) (c : Xi S 904 70 = 10) : QX_mo_asked_10 S S1 first := by sorry
theorem akp_11 {S : sS} {dd : Nat} {first : Int} (c : Xi S 904 70 = 11) (p : PX_mo_asked_11 S first) : AKP S dd first := by sorry
theorem akq_11 {S S1 : sS} {dd : Nat} {first : Int} (h : AKQ S S1 dd first) (c : Xi S 904 70 = 11) : QX_mo_asked_11 S S1 first := by sorry
theorem akp_12 {S : sS} {dd : Nat} {first : Int} (c : Xi S 904 70 = 12) (p : PX_mo_asked_12 S first) : AKP S dd first := by sorry
theorem akq_12 {S S1 : sS} {dd : Nat} {first : Int} (h : AKQ S S1 dd first) (c : Xi S 904 70 = 12) : QX_mo_asked_12 S S1 first := by sorry
theorem akp_13 {S : sS} {dd : Nat} {first : Int} (c : Xi S 904 70 = 13) (p : PX_mo_asked_13 S first) : AKP S dd first := by sorry
theorem akq_13 {S S1 : sS} {dd : Nat} {first : Int} (h : AKQ S S1 dd first) (c : Xi S 904 70 = 13) : QX_mo_asked_13 S S1 first := by sorry
theorem akp_14 {S : sS} {dd : Nat} {first : Int} (c : Xi S 904 70 = 14) (p : PX_mo_asked_14 S first) : AKP S dd first := by sorry
theorem akq_14 {S S1 : sS} {dd : Nat} {first : Int} (h : AKQ S S1 dd first) (c : Xi S 904 70 = 14) : QX_mo_asked_14 S S1 first := by sorry
theorem akp_15a {S : sS} {dd : Nat} {first : Int} (c : Xi S 904 70 = 15 ∧ Xi S 904 76 ≠ 0) (p : PX_mo_asked_15a S first) : AKP S dd first := by sorry
theorem akq_15a {S S1 : sS} {dd : Nat} {first : Int} (h : AKQ S S1 dd first) (c : Xi S 904 70 = 15 ∧ Xi S 904 76 ≠ 0) : QX_mo_asked_15a S S1 first := by sorry
theorem akp_15b {S : sS} {dd : Nat} {first : Int} (c : Xi S 904 70 = 15 ∧ Xi S 904 76 = 0 ∧ (Xi S 904 72 = 1 ∧ 1 < r2R S (Xi S 904 71) 2 3 ∧ Xi S 904 75 = 0)) (p : PX_mo_asked_15b S first) : AKP S dd first := by sorry
theorem akq_15b {S S1 : sS} {dd : Nat} {first : Int} (h : AKQ S S1 dd first) (c : Xi S 904 70 = 15 ∧ Xi S 904 76 = 0 ∧ (Xi S 904 72 = 1 ∧ 1 < r2R S (Xi S 904 71) 2 3 ∧ Xi S 904 75 = 0)) : QX_mo_asked_15b S S1 first := by sorry
theorem akp_15c {S : sS} {dd : Nat} {first : Int} (c : Xi S 904 70 = 15 ∧ Xi S 904 76 = 0 ∧ ¬ (Xi S 904 72 = 1 ∧ 1 < r2R S (Xi S 904 71) 2 3 ∧ Xi S 904 75 = 0)) (p : PX_mo_asked_15c S first) : AKP S dd first := by sorry
theorem akq_15c {S S1 : sS} {dd : Nat} {first : Int} (h : AKQ S S1 dd first) (c : Xi S 904 70 = 15 ∧ Xi S 904 76 = 0 ∧ ¬ (Xi S 904 72 = 1 ∧ 1 < r2R S (Xi S 904 71) 2 3 ∧ Xi S 904 75 = 0)) : QX_mo_asked_15c S S1 first := by sorry
theorem akp_16 {S : sS} {dd : Nat} {first : Int} (c : Xi S 904 70 = 16) (p : PX_mo_asked_16 S first) : AKP S dd first := by sorry
theorem akq_16 {S S1 : sS} {dd : Nat} {first : Int} (h : AKQ S S1 dd first) (c : Xi S 904 70 = 16) : QX_mo_asked_16 S S1 first := by sorry
theorem akp_17 {S : sS} {dd : Nat} {first : Int} (c : Xi S 904 70 = 17) (p : PX_mo_asked_17 S first) : AKP S dd first := by sorry
theorem akq_17 {S S1 : sS} {dd : Nat} {first : Int} (h : AKQ S S1 dd first) (c : Xi S 904 70 = 17) : QX_mo_asked_17 S S1 first := by sorry
theorem akp_18 {S : sS} {dd : Nat} {first : Int} (c : Xi S 904 70 = 18) (p : PX_mo_asked_18 S first) : AKP S dd first := by sorry
theorem akq_18 {S S1 : sS} {dd : Nat} {first : Int} (h : AKQ S S1 dd first) (c : Xi S 904 70 = 18) : QX_mo_asked_18 S S1 first := by sorry
theorem akp_19 {S : sS} {dd : Nat} {first : Int} (c : Xi S 904 70 = 19) (p : PX_mo_asked_19 S first) : AKP S dd first := by sorry
theorem akq_19 {S S1 : sS} {dd : Nat} {first : Int} (h : AKQ S S1 dd first) (c : Xi S 904 70 = 19) : QX_mo_asked_19 S S1 first := by sorry
theorem akp_20 {S : sS} {dd : Nat} {first : Int} (c : Xi S 904 70 = 20) (p : PX_mo_asked_20 S dd first) : AKP S dd first := by sorry
theorem akq_20 {S S1 : sS} {dd : Nat} {first : Int} (h : AKQ S S1 dd first) (c : Xi S 904 70 = 20) : QX_mo_asked_20 S S1 dd first := by sorry
theorem dkp_0 {S : sS} {first : Int} (c : Xi S 904 70 = 0) (p : PX_mo_does_0 S first) : DKP S first := by sorry
theorem dkq_0 {S S1 : sS} {first : Int} (h : DKQ S S1 first) (c : Xi S 904 70 = 0) : QX_mo_does_0 S S1 first := by sorry
theorem dkp_1 {S : sS} {first : Int} (c : Xi S 904 70 = 1) (p : PX_mo_does_1 S first) : DKP S first := by sorry
theorem dkq_1 {S S1 : sS} {first : Int} (h : DKQ S S1 first) (c : Xi S 904 70 = 1) : QX_mo_does_1 S S1 first := by sorry
theorem dkp_2 {S : sS} {first : Int} (c : Xi S 904 70 = 2) (p : PX_mo_does_2 S first) : DKP S first := by sorry
theorem dkq_2 {S S1 : sS} {first : Int} (h : DKQ S S1 first) (c : Xi S 904 70 = 2) : QX_mo_does_2 S S1 first := by sorry
theorem dkp_3 {S : sS} {first : Int} (c : 3 ≤ Xi S 904 70 ∧ Xi S 904 70 ≤ 6) (p : PX_mo_does_3 S first) : DKP S first := by sorry
theorem dkq_3 {S S1 : sS} {first : Int} (h : DKQ S S1 first) (c : 3 ≤ Xi S 904 70 ∧ Xi S 904 70 ≤ 6) : QX_mo_does_3 S S1 first := by sorry
theorem dkp_7 {S : sS} {first : Int} (c : Xi S 904 70 = 7) (p : PX_mo_does_7 S first) : DKP S first := by sorry
theorem dkq_7 {S S1 : sS} {first : Int} (h : DKQ S S1 first) (c : Xi S 904 70 = 7) : QX_mo_does_7 S S1 first := by sorry
theorem dkp_8 {S : sS} {first : Int} (c : Xi S 904 70 = 8) (p : PX_mo_does_8 S first) : DKP S first := by sorry
theorem dkq_8 {S S1 : sS} {first : Int} (h : DKQ S S1 first) (c : Xi S 904 70 = 8) : QX_mo_does_8 S S1 first := by sorry
theorem dkp_9 {S : sS} {first : Int} (c : Xi S 904 70 = 9) (p : PX_mo_does_9 S first) : DKP S first := by sorry
theorem dkq_9 {S S1 : sS} {first : Int} (h : DKQ S S1 first) (c : Xi S 904 70 = 9) : QX_mo_does_9 S S1 first := by sorry
theorem dkp_10 {S : sS} {first : Int} (c : Xi S 904 70 = 10) (p : PX_mo_does_10 S first) : DKP S first := by sorry
theorem dkq_10 {S S1 : sS} {first : Int} (h : DKQ S S1 first) (c : Xi S 904 70 = 10) : QX_mo_does_10 S S1 first := by sorry
theorem dkp_11 {S : sS} {first : Int} (c : Xi S 904 70 = 11) (p : PX_mo_does_11 S first) : DKP S first := by sorry
theorem dkq_11 {S S1 : sS} {first : Int} (h : DKQ S S1 first) (c : Xi S 904 70 = 11) : QX_mo_does_11 S S1 first := by sorry
theorem dkp_12 {S : sS} {first : Int} (c : Xi S 904 70 = 12) (p : PX_mo_does_12 S first) : DKP S first := by sorry
theorem dkq_12 {S S1 : sS} {first : Int} (h : DKQ S S1 first) (c : Xi S 904 70 = 12) : QX_mo_does_12 S S1 first := by sorry
theorem dkp_13 {S : sS} {first : Int} (c : Xi S 904 70 = 13) (p : PX_mo_does_13 S first) : DKP S first := by sorry
theorem dkq_13 {S S1 : sS} {first : Int} (h : DKQ S S1 first) (c : Xi S 904 70 = 13) : QX_mo_does_13 S S1 first := by sorry
theorem dkp_14 {S : sS} {first : Int} (c : Xi S 904 70 = 14) (p : PX_mo_does_14 S first) : DKP S first := by sorry
theorem dkq_14 {S S1 : sS} {first : Int} (h : DKQ S S1 first) (c : Xi S 904 70 = 14) : QX_mo_does_14 S S1 first := by sorry
theorem dkp_15a {S : sS} {first : Int} (c : (Xi S 904 70 = 15 ∨ Xi S 904 70 = 16) ∧ Xi S 904 142 = 1) (p : PX_mo_does_15a S first) : DKP S first := by sorry
theorem dkq_15a {S S1 : sS} {first : Int} (h : DKQ S S1 first) (c : (Xi S 904 70 = 15 ∨ Xi S 904 70 = 16) ∧ Xi S 904 142 = 1) : QX_mo_does_15a S S1 first := by sorry
theorem dkp_15b {S : sS} {first : Int} (c : (Xi S 904 70 = 15 ∨ Xi S 904 70 = 16) ∧ Xi S 904 142 = 2) (p : PX_mo_does_15b S first) : DKP S first := by sorry
theorem dkq_15b {S S1 : sS} {first : Int} (h : DKQ S S1 first) (c : (Xi S 904 70 = 15 ∨ Xi S 904 70 = 16) ∧ Xi S 904 142 = 2) : QX_mo_does_15b S S1 first := by sorry
theorem dkp_15c {S : sS} {first : Int} (c : (Xi S 904 70 = 15 ∨ Xi S 904 70 = 16) ∧ Xi S 904 142 = 3) (p : PX_mo_does_15c S first) : DKP S first := by sorry
theorem dkq_15c {S S1 : sS} {first : Int} (h : DKQ S S1 first) (c : (Xi S 904 70 = 15 ∨ Xi S 904 70 = 16) ∧ Xi S 904 142 = 3) : QX_mo_does_15c S S1 first := by sorry
theorem dkp_15d {S : sS} {first : Int} (c : (Xi S 904 70 = 15 ∨ Xi S 904 70 = 16) ∧ Xi S 904 142 = 4) (p : PX_mo_does_15d S first) : DKP S first := by sorry
theorem dkq_15d {S S1 : sS} {first : Int} (h : DKQ S S1 first) (c : (Xi S 904 70 = 15 ∨ Xi S 904 70 = 16) ∧ Xi S 904 142 = 4) : QX_mo_does_15d S S1 first := by sorry
theorem dkp_17 {S : sS} {first : Int} (c : Xi S 904 70 = 17) (p : PX_mo_does_17 S first) : DKP S first := by sorry
theorem dkq_17 {S S1 : sS} {first : Int} (h : DKQ S S1 first) (c : Xi S 904 70 = 17) : QX_mo_does_17 S S1 first := by sorry
theorem dkp_18 {S : sS} {first : Int} (c : Xi S 904 70 = 18) (p : PX_mo_does_18 S first) : DKP S first := by sorry
theorem dkq_18 {S S1 : sS} {first : Int} (h : DKQ S S1 first) (c : Xi S 904 70 = 18) : QX_mo_does_18 S S1 first := by sorry
theorem dkp_19 {S : sS} {first : Int} (c : Xi S 904 70 = 19) (p : PX_mo_does_19 S first) : DKP S first := by sorry
theorem dkq_19 {S S1 : sS} {first : Int} (h : DKQ S S1 first) (c : Xi S 904 70 = 19) : QX_mo_does_19 S S1 first := by sorry
theorem dkp_20 {S : sS} {first : Int} (c : Xi S 904 70 = 20) (p : PX_mo_does_20 S first) : DKP S first := by sorry
theorem dkq_20 {S S1 : sS} {first : Int} (h : DKQ S S1 first) (c : Xi S 904 70 = 20) : QX_mo_does_20 S S1 first := by sorry
theorem tsp_9 {V : sS} (c : Xi V 890 2 = 9) (p : P_re_tellProperty V) : TSP V := by sorry
theorem tsp_10 {V : sS} (c : Xi V 890 2 = 10) (p : P_re_tellKinds V) : TSP V := by sorry
theorem tsp_11 {V : sS} (c : Xi V 890 2 = 11) (p : P_re_tellActions V) : TSP V := by sorry
theorem tsp_12 {V : sS} (c : Xi V 890 2 = 12 ∨ Xi V 890 2 = 13) (p : P_re_tellObjects V) : TSP V := by sorry
theorem tsp_14 {V : sS} (c : Xi V 890 2 = 14) (p : P_re_tellWay V) : TSP V := by sorry
theorem tsp_16 {V : sS} (c : Xi V 890 2 = 16) (p : P_re_tellValues V) : TSP V := by sorry
theorem tsp_17 {V : sS} (c : Xi V 890 2 = 17) (p : P_re_tellHas V) : TSP V := by sorry
theorem tsp_18 {V : sS} (c : Xi V 890 2 = 18) (p : P_re_tellCan V) : TSP V := by sorry
theorem tsp_19 {V : sS} (c : Xi V 890 2 = 19) (p : P_re_tellRelation V) : TSP V := by sorry
theorem tsp_20 {V : sS} (c : Xi V 890 2 = 20) (p : P_re_tellLoose V) : TSP V := by sorry
theorem tsp_15 {V : sS} (c : Xi V 890 2 = 15) (ht : P_re_tellsUsually V) (pu : ty7 V (Xi V 890 3 + 1) = 32 → P_re_tellUsually V) (ps : P_re_tellsValues V) (pv : (ty7 V (Xi V 890 3 + 1) ≠ 6 ∧ sn2 V = -1 ∧ tv5 V (bA (ty7 V) 0) (re7 (ty7 V) (bA (ty7 V) 0)) ≠ -1) → P_re_tellValues V) (pp : ¬ (ty7 V (Xi V 890 3 + 1) ≠ 6 ∧ sn2 V = -1 ∧ tv5 V (bA (ty7 V) 0) (re7 (ty7 V) (bA (ty7 V) 0)) ≠ -1) → P_re_tellPlain V) : TSP V := by sorry
end
section
/-! what the class's rows want, of sentences that are told by how they begin -/
section
variable {V X : sS} {ts f : Nat}
theorem cev_by (c : CEV V X ts f) : BYT V ts := by sorry
theorem ty_102 {V : sS} {i : Int} (h : ty7 V i = 102) : 0 ≤ i ∧ i < Xi V 876 7 ∧ Xi V 877 i.toNat = 102 := by sorry
theorem pr_0 (c : CEV V X ts f) (t0 : ty7 V 0 = 102) : P_re_describe V := by sorry
/-- where a TEXT lies -/
theorem tok_px (c : CEV V X ts f) {i : Int} (h : ty7 V i = 102) : 0 ≤ pc7 V i ∧ 0 ≤ Xj V 879 i.toNat ∧ pc7 V i + 1 + Xj V 879 i.toNat < 5000 := by sorry
theorem pr_1 (c : CEV V X ts f) {x : Int} (k : chk (ty7 V) = (1, x)) (t0 : ty7 V 0 = 33) : P_re_understand V ts := by sorry
theorem pr_7 (c : CEV V X ts f) {x : Int} (k : chk (ty7 V) = (1, x)) (t0 : ty7 V 0 = 2) (t1 : ty7 V 1 = 25) : P_re_tellVerb V := by sorry
theorem pr_8 (c : CEV V X ts f) {x : Int} (k : chk (ty7 V) = (1, x)) (t0 : ty7 V 0 = 2) (t1 : ty7 V 1 = 19) : P_re_tellPlural V := by sorry
theorem bgp_0 (s : Xi V 890 2 = 0) (p : P_re_describe V) : BGP V ts := by sorry
theorem bgp_1 (s : Xi V 890 2 = 1) (p : P_re_understand V ts) : BGP V ts := by sorry
theorem bgp_2 (s : Xi V 890 2 = 2) (p : BP2 V) : BGP V ts := by sorry
theorem bgp_7 (s : Xi V 890 2 = 7) (p : P_re_tellVerb V) : BGP V ts := by sorry
theorem bgp_8 (s : Xi V 890 2 = 8) (p : P_re_tellPlural V) : BGP V ts := by sorry
theorem bgp_3 (s : 3 ≤ Xi V 890 2 ∧ Xi V 890 2 ≤ 6) (p : BP3 V ts) : BGP V ts := by sorry
/-- 17, 18, 19: the sentence goes on behind the second run -/
theorem pr_17c (c : CEV V X ts f) {x : Int} (k : chk (ty7 V) = (1, x)) (g : NBG (ty7 V)) (kt : kt7 (ty7 V) = 12) (tel : Xi V 890 3 = re7 (ty7 V) (bA (ty7 V) 0)) : P_re_tellHas V := by sorry
theorem pr_18c (c : CEV V X ts f) {x : Int} (k : chk (ty7 V) = (1, x)) (g : NBG (ty7 V)) (kt : kt7 (ty7 V) = 13) (tel : Xi V 890 3 = re7 (ty7 V) (bA (ty7 V) 0)) : P_re_tellCan V := by sorry
end
end
section
/-! what the class's rows want, of sentences with is or are -/
section
variable {V X : sS} {ts f : Nat}
theorem tsp_v15 (c : CEV V X ts f) (ht : 0 ≤ Xi V 890 3 ∧ Xi V 890 3 ≤ 5125) (fn : FN1 V) (s : Xi V 890 2 = 15) (hu : P_re_tellsUsually V) (hr : ty7 V (Xi V 890 3 + 1) ≠ 107) : TSP V := by sorry
/-- the sentence's list ends at is or are -/
theorem tel_B (c : CEV V X ts f) {x : Int} (k : chk (ty7 V) = (1, x)) (g : NBG (ty7 V)) (kt : kt7 (ty7 V) = 4 ∨ kt7 (ty7 V) = 5) (nb : ¬ bp7 (ty7 V) 0) (tel : Xi V 890 3 = tk7 (ty7 V)) (be : BES V (ty7 V)) : FN1 V ∧ (0 ≤ Xi V 890 3 ∧ Xi V 890 3 ≤ 5125) ∧ gOK (ckT (ty7 V) (Xi V 890 3 + 1)) x ∧ Xi V 890 2 = bes (ty7 V) (Xi V 890 3 + 1) := by sorry
theorem tsp_b (c : CEV V X ts f) {x : Int} (k : chk (ty7 V) = (1, x)) (g : NBG (ty7 V)) (kt : kt7 (ty7 V) = 4 ∨ kt7 (ty7 V) = 5) (nb : ¬ bp7 (ty7 V) 0) (tel : Xi V 890 3 = tk7 (ty7 V)) (be : BES V (ty7 V)) (w : Xi V 891 11 = 0) (hu : (0 ≤ Xi V 890 3 ∧ Xi V 890 3 ≤ 5125) → P_re_tellsUsually V) : TSP V := by sorry
theorem pr_19c (c : CEV V X ts f) {x : Int} (k : chk (ty7 V) = (1, x)) (g : NBG (ty7 V)) (kt : kt7 (ty7 V) = 21) (tel : Xi V 890 3 = re7 (ty7 V) (bA (ty7 V) 0)) : P_re_tellRelation V := by sorry
end
end
section
/-! what the class's rows want, of every sentence of 9 to 20; how the others begin -/
section
variable {V X : sS} {ts f : Nat}
theorem cks_9 {T : Int → Int} (so : CKS V T) (s : 9 ≤ Xi V 890 2) : NBG T ∧ OTS V T := by sorry
theorem ht_i (c : CEV V X ts f) {t : Int} (tel : Xi V 890 3 = tk7 (ty7 V)) (kt : kt7 (ty7 V) = t) (h : t ≠ 107) : 0 ≤ Xi V 890 3 ∧ Xi V 890 3 ≤ 5125 := by sorry
theorem tel_N (c : CEV V X ts f) (q1 : ty7 V (bA (ty7 V) 0) = 100) (t : tl7 (ty7 V (re7 (ty7 V) (bA (ty7 V) 0)))) (tel : Xi V 890 3 = tk7 (ty7 V)) (r : ty7 V (re7 (ty7 V) (bA (ty7 V) 0)) ≠ 107) : Xi V 890 3 = re7 (ty7 V) (bA (ty7 V) 0) := by sorry
theorem tsp_all (c : CEV V X ts f) {x : Int} (k : chk (ty7 V) = (1, x)) (so : CKS V (ty7 V)) (s : 9 ≤ Xi V 890 2) (w : Xi V 891 11 = 0) : TSP V := by sorry
/-- the sentences below 9, by how they begin -/
theorem cks_lt {T : Int → Int} (so : CKS V T) (s : Xi V 890 2 < 9) (h9 : OTS V T → NBG T → 9 ≤ Xi V 890 2) : (T 0 = 102 ∧ Xi V 890 2 = 0) ∨ (T 0 = 33 ∧ Xi V 890 2 = 1) ∨ (T 0 = 35 ∧ Xi V 890 2 = 2) ∨ ((T 0 = 38 ∧ Xi V 890 2 = 3) ∨ (T 0 = 40 ∧ Xi V 890 2 = 4) ∨ (T 0 = 39 ∧ Xi V 890 2 = 5) ∨ (T 0 = 41 ∧ Xi V 890 2 = 6)) ∨ ((T 0 = 2 ∧ T 1 = 25) ∧ Xi V 890 2 = 7) ∨ ((T 0 = 2 ∧ T 1 = 19) ∧ Xi V 890 2 = 8) := by sorry
/-- of a sentence that is good, with is or are, the sort is 9 to 16 -/
theorem ots_9 (c : CEV V X ts f) {x : Int} (k : chk (ty7 V) = (1, x)) (o : OTS V (ty7 V)) (g : NBG (ty7 V)) : 9 ≤ Xi V 890 2 := by sorry
/-- 0, 1, 7, 8: all that is wanted; 2 .. 6 given BP2, BP3 -/
theorem bgp_all (c : CEV V X ts f) {x : Int} (k : chk (ty7 V) = (1, x)) (so : CKS V (ty7 V)) (s : Xi V 890 2 < 9) (p2 : ty7 V 0 = 35 → BP2 V) (p3 : (ty7 V 0 = 38 ∨ ty7 V 0 = 40 ∨ ty7 V 0 = 39 ∨ ty7 V 0 = 41) → BP3 V ts) : BGP V ts := by sorry
end
end
section
/-! where tests lie, of a sentence that both sides read -/
theorem ty_101 {V : sS} {i : Int} (h : ty7 V i = 101) : 0 ≤ i ∧ i < Xi V 876 7 ∧ Xi V 877 i.toNat = 101 := by sorry
/-- a test of a thing asks no number -/
theorem shn_r {U S : sS} {f c : Nat} {a b : Int} (v : ENV U S f) (h0 : 0 ≤ a) (hb : b < Xi U 876 7) (t : TSTR (tkR S) S c (f + a) (f + b) 0) (z : SHC U S f c a b 0) : numT U (isP U a b) = 0 := by sorry
end
section
/-! where tests lie, and what definitions want of the class -/
theorem tpq_t {A S : sS} {f N : Nat} {a e : Int} (v : ENV A S f) (h0 : 0 ≤ a) (ch : TCH A S f a N) (hN : 0 < N) (en : eT7 A a (N - 1) = e) (ne : ty7 A e ≠ 16) (t0 : ty7 A 0 ≠ 51 ∧ ty7 A 0 ≠ 52) (r : Xi A 876 7 ≤ 5001) (nv : NVL A) : TPQ A a := by sorry
theorem tpq_e {A S : sS} {f N : Nat} {a e : Int} (w : ENW A S f) (sl : (Xi A 895 3 = 54 ∨ Xi A 895 3 = 53) ∧ (-1 ≤ Xi A 895 4 ∧ Xi A 895 4 < Xi A 5 0) ∧ Xi A 5 0 ≤ 16) (h0 : 0 ≤ a) (ts : TSQ (tkR S) S 0 (f + a) N (f + e)) (hN : 0 < N) (he : e < Xi A 876 7) (ne : ty7 A e ≠ 16) (t0 : ty7 A 0 ≠ 51 ∧ ty7 A 0 ≠ 52) (r : Xi A 876 7 ≤ 5001) (nv : NVL A) : TPQ A a := by sorry
end
section
/-! what a definition wants of the class -/
theorem bp2_i {V X : sS} {ts f : Nat} (c : CEV V X ts f) (w : ENW V X f) (t0 : ty7 V 0 = 35) (de : DFE (tkR X) X 0 0 f (f + (Xi V 876 7 - 1))) (dot : ty7 V (Xi V 876 7 - 1) = 103) : BP2 V := by sorry
end
section
/-! what a rule's head wants of the class -/
theorem pr_h3 {V X : sS} {ts f : Nat} (c : CEV V X ts f) : P_rr_ruleHead V := by sorry
end
section
/-! a test of a thing asks no number, also behind now -/
theorem shn_n {U S : sS} {f c : Nat} {a b now : Int} (v : ENV U S f) (h0 : 0 ≤ a) (hb : b < Xi U 876 7) (t : TSTR (tkR S) S c (f + a) (f + b) now) (z : SHC U S f c a b now) : numT U (isP U a b) = 0 := by sorry
/-- where the number of a test lies -/
theorem num_i {A S : sS} {f c : Nat} {a b now : Int} (v : ENV A S f) (h0 : 0 ≤ a) (hb : b < Xi A 876 7) (hn : now = 0 ∨ now = 1) (t : TSTR (tkR S) S c (f + a) (f + b) now) (t0 : ty7 A 0 ≠ 51 ∧ ty7 A 0 ≠ 52) (r : Xi A 876 7 ≤ 5001) : (isP A a b = -1 ∨ (a < isP A a b ∧ isP A a b < b)) ∧ (numT A (isP A a b) = 1 → ty7 A (isP A a b + 3) = 101 ∧ a < isP A a b ∧ isP A a b + 3 < b) := by sorry
end
section
/-! what a phrase wants of the class -/
theorem fo_t {T U : Int → Int} {k b R : Int} (g : ∀ i : Int, 0 ≤ i → i < R → T i = U i) (hb : b ≤ R) (n : Nat) : ∀ a : Int, 0 ≤ a → a + n ≤ b → fo7F T k b n a = fo7F U k b n a := by sorry
theorem isP_t {A T : sS} {a b : Int} (g : ∀ i : Int, 0 ≤ i → i < Xi A 876 7 → ty7 T i = ty7 A i) (h0 : 0 ≤ a) (hb : b ≤ Xi A 876 7) : isP T a b = isP A a b := by sorry
theorem ren_b {S : sS} {lim : Int} : ∀ (n : Nat) (r : Int), ren S lim n r ≤ r ∨ ren S lim n r ≤ lim := by sorry
theorem whe_b {T : sS} {a l : Int} (h : a ≤ l) (hl : l ≤ 5130) : wheC T a l ≤ 5139 := by sorry
theorem phb_i {A S T : sS} {f c m : Nat} {p e : Int} (v : ENV A S f) (h0 : 0 ≤ p) (pe : p < e) (he : e < Xi A 876 7) (ph : PHE (tkR S) S c m (f + p) (f + e)) (t0 : ty7 A 0 ≠ 51 ∧ ty7 A 0 ≠ 52) (r : Xi A 876 7 ≤ 5001) (nv : NVL A) (g : AGU A T) (e6 : Xi A 876 6 = Xi A 876 7) (e6T : Xi T 876 6 = Xi A 876 6) : PHB T (ty7 A p) p e := by sorry
end
section
/-! where phrases lie, and what they want of the class -/
theorem ppq_t {B S : sS} {f N K : Nat} {a e : Int} (v : ENV B S f) (h0 : 0 ≤ a) (ch : PCHN B S f N a K) (hK : 0 < K) (en : eP7 B a (K - 1) = e) (ne : ty7 B e ≠ 105) (t0 : ty7 B 0 ≠ 51 ∧ ty7 B 0 ≠ 52) (r : Xi B 876 7 ≤ 5001) (nv : NVL B) (e6 : Xi B 876 6 = Xi B 876 7) : PPQ B a := by sorry
theorem ppq_e {B S : sS} {f N K : Nat} {a e : Int} (w : ENW B S f) (sl : (Xi B 895 3 = 54 ∨ Xi B 895 3 = 53) ∧ (-1 ≤ Xi B 895 4 ∧ Xi B 895 4 < Xi B 5 0) ∧ Xi B 5 0 ≤ 16) (h0 : 0 ≤ a) (ps : PSQ (tkR S) S N 0 (f + a) K (f + e)) (hK : 0 < K) (he : e < Xi B 876 7) (ne : ty7 B e ≠ 105) (t0 : ty7 B 0 ≠ 51 ∧ ty7 B 0 ≠ 52) (r : Xi B 876 7 ≤ 5001) (nv : NVL B) (e6 : Xi B 876 6 = Xi B 876 7) : PPQ B a := by sorry
end
section
/-! what a rule wants of the class: the head leaves this (no run of the reference is needed) -/
theorem hdc_n {H D S : sS} {f ru : Nat} {a o k : Int} (w : ENW H S f) (kD : KEP [(19, 20), (21, 22)] [] H D) (r1 : Xi D (248 + ru) 1 = a) (r2 : Xi D (248 + ru) 2 = o) (r3 : Xi D (248 + ru) 3 = k) (ha : 0 ≤ a ∧ a < Xi H 5 8) (ho : -1 ≤ o ∧ o < Xi H 5 2) (hk : -1 ≤ k ∧ k < Xi H 5 0) : -1 ≤ nnK D ru ∧ nnK D ru < Xi H 5 0 := by sorry
theorem hdc_x {U A S : sS} {f : Nat} {s hd : Int} (w : ENW U S f) (b5 : 0 ≤ Xi U 246 5 ∧ Xi U 246 5 + 5 ≤ 600) (lt : 0 ≤ Xi U 246 2 ∧ Xi U 246 2 < 24) (hs : s = 3 ∨ s = 4 ∨ s = 5 ∨ s = 6) (c : RHO md_rr_ruleHead__p U A s 1) (hde : HDE (tkR S) S s f (f + hd)) (hh : hd < Xi U 876 7) : (Xi A 899 5 = hd ∧ 1 ≤ hd) ∧ (Xi A 895 3 = 53 ∧ -1 ≤ Xi A 895 4 ∧ Xi A 895 4 < Xi U 5 0) ∧ (Xi U 246 5 ≤ Xi A 246 5 ∧ Xi A 246 5 ≤ Xi U 246 5 + 5) ∧ Xi A 876 8 = 0 := by sorry
/-! what a rule wants of the class: all of it -/
theorem tch_5 {A S : sS} {f N : Nat} {a e : Int} (w : ENW A S f) (q : Xi A 895 3 = 53) (sl : -1 ≤ Xi A 895 4 ∧ Xi A 895 4 < Xi A 5 0) (h6 : Xi A 5 0 ≤ 16) (h0 : 0 ≤ a) (ts : TSQ (tkR S) S 0 (f + a) N (f + e)) (hN : 0 < N) (he : e < Xi A 876 7) : eT7 A a (N - 1) = e ∧ ∀ k : Nat, k + 1 < N → ty7 A (eT7 A a k) = 16 := by sorry
theorem bp3_i {V X : sS} {ts f : Nat} {s : Int} (c : CEV V X ts f) (w : ENW V X f) (hs : s = 3 ∨ s = 4 ∨ s = 5 ∨ s = 6) (es : Xi V 890 2 = s) (t0 : ty7 V 0 ≠ 51 ∧ ty7 V 0 ≠ 52) (rue : RUE (tkR X) X 0 0 0 s f (f + (Xi V 876 7 - 1))) (dot : ty7 V (Xi V 876 7 - 1) = 103) : BP3 V ts := by sorry
end
section
/-! the reference: what asking wants -/
/-- the reference has read a sentence without anything odd -/
def RPV (V : sS) (n : Nat) : Prop := HI V ∧ (LXM V ∧ ABV V) ∧ (TK V n ∧ TXK V n) ∧ (RNV V n ∧ SNQ V n ∧ AP9 V n) ∧ Xi V 904 94 ≤ 1668
theorem hi_ls {V : sS} (h : HI V) : LSP V := by sorry
theorem hi_15 {V : sS} (h : HI V) : 0 ≤ Xi V 904 15 ∧ Xi V 904 15 ≤ 300 := by sorry
theorem hi_rb {V : sS} (h : HI V) : RBD V := by sorry
theorem hi_lx {V : sS} (h : HI V) : LXR V := by sorry
theorem hi_kx {V : sS} (h : HI V) : ∀ j : Nat, -1 ≤ Xi V 918 j ∧ Xi V 918 j ≤ 15 := by sorry
theorem hi_ct {V : sS} (h : HI V) : ∀ j : Nat, -1 ≤ Xi V 922 j ∧ Xi V 922 j ≤ 23 := by sorry
theorem hi_ak {V : sS} (h : HI V) : ∀ j : Nat, -2 ≤ Xi V 942 j ∧ Xi V 942 j ≤ 15 := by sorry
theorem hi_by {V : sS} (h : HI V) : BYT V 906 := by sorry
theorem hi_32 {V : sS} (h : HI V) : 0 ≤ Xi V 904 32 ∧ Xi V 904 32 ≤ 12 := by sorry
theorem hi_19 {V : sS} (h : HI V) : 0 ≤ Xi V 904 19 ∧ Xi V 904 19 ≤ 24 := by sorry
theorem hi_li {V : sS} (h : HI V) : 0 ≤ Xi V 904 71 ∧ Xi V 904 71 ≤ 2600 ∧ 0 ≤ Xi V 904 72 ∧ Xi V 904 72 ≤ 2600 := by sorry
theorem hi_pl {V : sS} (h : HI V) : 0 ≤ Xi V 904 74 ∧ Xi V 904 74 ≤ 2600 := by sorry
/-- what a word means lies among what was told -/
theorem lx_cm {V : sS} (h : HI V) (m : LXM V) {k : Nat} {s : Int} (hk : (k : Int) < Xi V 904 15) (e : Xi V 914 k = s) : 0 ≤ Xi V 915 k ∧ Xi V 915 k < cM V s := by sorry
theorem ms_cm {V : sS} (h : HI V) (m : LXM V) {t n s : Int} (q : msR V t n s ≠ -1) : 0 ≤ msR V t n s ∧ msR V t n s < cM V s := by sorry
theorem rn_cm {V : sS} (h : HI V) (m : LXM V) {r s : Int} (q : rnR V r s ≠ -1) : 0 ≤ rnR V r s ∧ rnR V r s < cM V s := by sorry
theorem rn_k {V : sS} (h : HI V) (m : LXM V) {r : Int} : -1 ≤ rnR V r 0 ∧ rnR V r 0 ≤ 15 := by sorry
theorem rn_p {V : sS} (h : HI V) (m : LXM V) {r : Int} : -1 ≤ rnR V r 7 ∧ rnR V r 7 ≤ 11 := by sorry
theorem lx_k {V : sS} (h : HI V) (m : LXM V) : ∀ k : Nat, (k : Int) < Xi V 904 15 → Xi V 914 k ≤ 1 → Xi V 915 k ≤ 15 := by sorry
theorem lx_0 {V : sS} (h : HI V) (m : LXM V) : ∀ j : Nat, (j : Int) < Xi V 904 15 → Xi V 914 j = 0 → Xi V 915 j ≤ 15 := by sorry
theorem lx_7 {V : sS} (h : HI V) (m : LXM V) : ∀ j : Nat, (j : Int) < Xi V 904 15 → Xi V 914 j = 7 → 0 ≤ Xi V 915 j ∧ Xi V 915 j ≤ 11 := by sorry
/-- where the parts of a sentence with is, are lie among its RUNS -/
def RPS (V : sS) : Prop := Xi V 904 71 = 0 ∧ (Xi V 904 70 = 10 → Xi V 904 78 = -1 ∨ Xi V 904 78 = -2 ∨ Xi V 904 78 = Xi V 904 72) ∧ (Xi V 904 70 = 11 → Xi V 904 78 = -1 ∨ Xi V 904 78 = Xi V 904 72) ∧ (Xi V 904 70 = 12 → Xi V 904 78 = Xi V 904 72 ∧ (Xi V 904 73 ≠ 0 → Xi V 904 74 = Xi V 904 72 + 1)) ∧ (Xi V 904 70 = 13 → Xi V 904 74 = Xi V 904 72) ∧ (Xi V 904 70 = 14 → Xi V 904 78 = Xi V 904 72 ∧ Xi V 904 74 = Xi V 904 72 + 1) ∧ (Xi V 904 70 = 15 ∨ Xi V 904 70 = 16 → Xi V 904 78 = Xi V 904 72)
theorem rps_i {U V : sS} {f m : Nat} {x : Int} (b : BEX U V f m x) : RPS V := by sorry
section
variable {V : sS} {n : Nat} {first : Int}
theorem rpv_m (c : RPV V n) : LXM V ∧ ABV V := by sorry
theorem ak_7 (c : RPV V n) (p : PRO V) (s : Xi V 904 70 = 7) : PX_mo_asked_7 V first := by sorry
theorem ak_8 (c : RPV V n) (p : PRO V) (s : Xi V 904 70 = 8) : PX_mo_asked_8 V first := by sorry
theorem rpv_17 (c : RPV V n) (s : 17 ≤ Xi V 904 70 ∧ Xi V 904 70 ≤ 19) : 3 ≤ Xi V 904 69 := by sorry
theorem rpv_10 (c : RPV V n) (s : 10 ≤ Xi V 904 70 ∧ Xi V 904 70 ≤ 16) : Xi V 904 71 + Xi V 904 72 ≤ Xi V 904 69 ∧ 1 ≤ Xi V 904 72 := by sorry
theorem ak_17 (c : RPV V n) (p : PRO V) (s : Xi V 904 70 = 17) : PX_mo_asked_17 V first := by sorry
theorem ak_18 (c : RPV V n) (p : PRO V) (s : Xi V 904 70 = 18) : PX_mo_asked_18 V first := by sorry
theorem ak_19 (c : RPV V n) (p : PRO V) (s : Xi V 904 70 = 19) : PX_mo_asked_19 V first := by sorry
theorem rpv_nk (c : RPV V n) : 0 ≤ Xi V 904 49 ∧ Xi V 904 49 ≤ 100 ∧ 0 ≤ Xi V 904 18 ∧ Xi V 904 18 ≤ 100 ∧ 0 ≤ Xi V 904 16 ∧ Xi V 904 16 ≤ 100 := by sorry
theorem pll_i (c : RPV V n) (p : PRO V) (s : 10 ≤ Xi V 904 70 ∧ Xi V 904 70 ≤ 16) : PLL V (Xi V 904 71) (Xi V 904 72).toNat := by sorry
theorem ak_10 (c : RPV V n) (p : PRO V) (o : RPS V) (s : Xi V 904 70 = 10) : PX_mo_asked_10 V first := by sorry
theorem ak_11 (c : RPV V n) (p : PRO V) (o : RPS V) (s : Xi V 904 70 = 11) : PX_mo_asked_11 V first := by sorry
theorem rpv_fw (c : RPV V n) : 0 ≤ fW V ∧ fW V ≤ 5100 ∧ 0 ≤ nW V ∧ nW V ≤ 5100 := by sorry
theorem rpv_69 (c : RPV V n) : 0 ≤ Xi V 904 69 ∧ Xi V 904 69 ≤ 2600 := by sorry
theorem ak_12 (c : RPV V n) (p : PRO V) (o : RPS V) (s : Xi V 904 70 = 12) : PX_mo_asked_12 V first := by sorry
theorem ak_13 (c : RPV V n) (p : PRO V) (o : RPS V) (s : Xi V 904 70 = 13) : PX_mo_asked_13 V first := by sorry
theorem ak_14 (c : RPV V n) (p : PRO V) (o : RPS V) (s : Xi V 904 70 = 14) : PX_mo_asked_14 V first := by sorry
theorem ak_15a (c : RPV V n) (p : PRO V) (o : RPS V) (s : Xi V 904 70 = 15) (u : Xi V 904 76 ≠ 0) : PX_mo_asked_15a V first := by sorry
theorem ak_15b (c : RPV V n) (o : RPS V) (s : Xi V 904 70 = 15) (u : Xi V 904 76 = 0) (w : Xi V 904 72 = 1 ∧ 1 < r2R V (Xi V 904 71) 2 3 ∧ Xi V 904 75 = 0) : PX_mo_asked_15b V first := by sorry
theorem ak_16 (c : RPV V n) (u : Xi V 904 76 = 0) (s : Xi V 904 70 = 16) : PX_mo_asked_16 V first := by sorry
theorem ak_15c (c : RPV V n) (p : PRO V) (s : Xi V 904 70 = 15) (u : Xi V 904 76 = 0) (w : ¬ (Xi V 904 72 = 1 ∧ 1 < r2R V (Xi V 904 71) 2 3 ∧ Xi V 904 75 = 0)) : PX_mo_asked_15c V first := by sorry
end

/-! the reference: what asking wants, of texts, definitions, rules, properties, pairs -/
theorem tr_4 {t : Int} (h : 0 ≤ t ∧ t ≤ 108) : tr7 t = 4 ↔ t = 101 := by sorry
theorem tk_num {U V : sS} {f : Nat} (sc : SCX U V f) (tb : ∀ i : Int, 0 ≤ ty7 U i ∧ ty7 U i ≤ 108) (nv : NVL U) {i : Int} (h : (f : Int) ≤ i ∧ i < f + Xi U 876 7) (q : tkR V i = 4) : 0 ≤ Xj V 910 i.toNat ∧ Xj V 910 i.toNat ≤ 2147483647 := by sorry
theorem the_lt {T : Int → Int} {V : sS} {p e x y : Int} (h : THE T V p e x y) : p < e := by sorry
theorem trk_i {V : sS} {c : Nat} {p e now lo hi : Int} (h : HI V) (m : LXM V) (rd : TSTR (tkR V) V c p e now) (hp : lo ≤ p) (he : e < hi) (num : ∀ i : Int, lo ≤ i → i < hi → tkR V i = 4 → 0 ≤ Xj V 910 i.toNat ∧ Xj V 910 i.toNat ≤ 2147483647) : TRK V c := by sorry
theorem tsr_lt {T : Int → Int} {V : sS} {c : Nat} {p e now : Int} (h : TSTR T V c p e now) : p < e := by sorry
theorem trk_q {V : sS} {c : Nat} {p lo hi : Int} (h : HI V) (m : LXM V) (hp : lo ≤ p) (num : ∀ i : Int, lo ≤ i → i < hi → tkR V i = 4 → 0 ≤ Xj V 910 i.toNat ∧ Xj V 910 i.toNat ≤ 2147483647) : ∀ (n : Nat) (e : Int), TSQ (tkR V) V c p n e → e < hi → ∀ k : Nat, k < n → TRK V ((c + k : Nat) : Int) := by sorry
/-- one phrase -/
theorem pkb_i {V : sS} {c j n : Nat} {p e lo hi : Int} (h : HI V) (m : LXM V) (tk : TK V n) (tx : TXK V n) (ph : PH1 (tkR V) V c j p e) (pv : Xi V 964 j < Xi V 904 93 ∧ PV V n j) (hp : lo ≤ p) (he : e < hi) (num : ∀ i : Int, lo ≤ i → i < hi → tkR V i = 4 → 0 ≤ Xj V 910 i.toNat ∧ Xj V 910 i.toNat ≤ 2147483647) : PKB V j := by sorry
theorem phr_lt {T : Int → Int} {V : sS} {c j : Nat} {p e : Int} (h : PH1 T V c j p e) : p < e := by sorry
theorem pkb_q {V : sS} {c n : Nat} {p lo hi : Int} (h : HI V) (m : LXM V) (tk : TK V n) (tx : TXK V n) (pv : PVA V n (Xi V 904 98)) (hp : lo ≤ p) (num : ∀ i : Int, lo ≤ i → i < hi → tkR V i = 4 → 0 ≤ Xj V 910 i.toNat ∧ Xj V 910 i.toNat ≤ 2147483647) : ∀ (K : Nat) (e : Int), PSQ (tkR V) V c 0 p K e → (K : Int) ≤ Xi V 904 98 → e < hi → ∀ k : Nat, k < K → PKB V (k : Int) := by sorry
theorem hde_le {T : Int → Int} {V : sS} {s p h : Int} (x : HDE T V s p h) : p < h := by sorry
section
variable {U V : sS} {n f : Nat} {first : Int}
theorem ak_0 (s : Xi V 904 70 = 0) : PX_mo_asked_0 V first := by sorry
theorem ak_1 (c : RPV V n) (s : Xi V 904 70 = 1) (sc : SCX U V f) (tok : TOK U) (p5 : Xi U 876 5 ≤ 5000) (pl : ∀ j : Nat, 0 ≤ Xi U 878 j) (t1 : ty7 U 1 = 102) (e81 : Xi V 904 81 = f + 1) : PX_mo_asked_1 V first := by sorry
theorem ak_2 (c : RPV V n) (s : Xi V 904 70 = 2) (sc : SCX U V f) (tb : ∀ i : Int, 0 ≤ ty7 U i ∧ ty7 U i ≤ 108) (nv : NVL U) (de : DFE (tkR V) V 0 0 f (f + (Xi U 876 7 - 1))) : PX_mo_asked_2 V first := by sorry
theorem ak_3 (c : RPV V n) {s : Int} (hs : s = 3 ∨ s = 4 ∨ s = 5 ∨ s = 6) (e70 : Xi V 904 70 = s) (sc : SCX U V f) (tb : ∀ i : Int, 0 ≤ ty7 U i ∧ ty7 U i ≤ 108) (nv : NVL U) (rue : RUE (tkR V) V 0 0 0 s f (f + (Xi U 876 7 - 1))) : PX_mo_asked_3 V first := by sorry
theorem ak_9 (c : RPV V n) (p : PRO V) (s : Xi V 904 70 = 9) (sc : SCX U V f) (sr : SRL U V f) (tb : ∀ i : Int, 0 ≤ ty7 U i ∧ ty7 U i ≤ 108) (nv : NVL U) (po : ∀ i j : Int, 0 ≤ i → i < j → j < Xi U 876 7 → pc7 U i < pc7 U j) {a b t : Int} (r1 : RNR U V f 1 a b) (hb : b ≤ t) (ht : t < Xi U 876 7) (e78 : Xi V 904 78 = f + t) : PX_mo_asked_9 V first := by sorry
theorem ak_20 (c : RPV V n) (s : Xi V 904 70 = 20) (sc : SCX U V f) (tb : ∀ i : Int, 0 ≤ ty7 U i ∧ ty7 U i ≤ 108) (h5 : (f : Int) + Xi U 876 7 ≤ 5002) (h7 : 1 ≤ Xi U 876 7) (dot : ty7 U (Xi U 876 7 - 1) = 103) (nd : ∀ i : Int, 0 ≤ i → i < Xi U 876 7 - 1 → ty7 U i ≠ 103) (ef : first = f) : PX_mo_asked_20 V (f + (Xi U 876 7 - 1).toNat) first := by sorry
end
end
section
/-! the reference: what doing wants -/
/-- the sentence's words are asked, without a fault -/
def RTV (T : sS) (n : Nat) : Prop := HI T ∧ (LXM T ∧ ABV T) ∧ SNQ T n ∧ DOK T ∧ Xi T 904 106 = 0
/-- (no bound of what was told is needed any more) -/
def OVB (_ : sS) : Prop := True
theorem ovb_k {S T : sS} (_ : KEP [(931, 933), (934, 936)] [] S T) (_ : OVB S) : OVB T := by sorry
theorem loq_n {S : sS} {f : Int} {x : Int × Int × Int} : ∀ n : Nat, RLO S f n x → x.1 = 0 → LOQ S f n := by sorry
theorem adm_b {T : sS} (h : HI T) {a : Int} (m : ADM T a) : 0 ≤ a ∧ a ≤ 7000 := by sorry
theorem acr_b {T : sS} (h : HI T) {t m k v w : Int} (q : 1 ≤ adR T t m k 0 w) (e : v = w) : 0 ≤ acR T t m k 0 v ∧ acR T t m k 0 v ≤ 7000 := by sorry
theorem cvr_0 {S : sS} {t : Int} : ∀ m : Nat, 0 ≤ cvR S t m := by sorry
section
variable {T : sS} {n : Nat} {first : Int}
theorem dk_0 (c : RTV T n) (_ : OVB T) (s : Xi T 904 70 = 0) : PX_mo_does_0 T first := by sorry
theorem dk_1 (c : RTV T n) (s : Xi T 904 70 = 1) : PX_mo_does_1 T first := by sorry
theorem dk_2 (c : RTV T n) (s : Xi T 904 70 = 2) : PX_mo_does_2 T first := by sorry
theorem dk_7 (c : RTV T n) (s : Xi T 904 70 = 7) : PX_mo_does_7 T first := by sorry
theorem dk_8 (c : RTV T n) (s : Xi T 904 70 = 8) : PX_mo_does_8 T first := by sorry
theorem dk_9 (c : RTV T n) (s : Xi T 904 70 = 9) : PX_mo_does_9 T first := by sorry
theorem dk_10 (c : RTV T n) (s : Xi T 904 70 = 10) : PX_mo_does_10 T first := by sorry
theorem dk_11 (c : RTV T n) (s : Xi T 904 70 = 11) (w : -1 ≤ Xi T 904 78) : PX_mo_does_11 T first := by sorry
theorem ob4_i (c : RTV T n) : OB4 T := by sorry
theorem dk_12 (c : RTV T n) (_ : OVB T) (l : LOQ T (Xi T 904 71) (Xi T 904 72).toNat) (s : Xi T 904 70 = 12) : PX_mo_does_12 T first := by sorry
theorem dk_13 (c : RTV T n) (_ : OVB T) (l : LOQ T (Xi T 904 71) (Xi T 904 72).toNat) (s : Xi T 904 70 = 13) : PX_mo_does_13 T first := by sorry
theorem dk_14 (c : RTV T n) (w : Xi T 904 51 ≤ 144) (s : Xi T 904 70 = 14) : PX_mo_does_14 T first := by sorry
theorem rdv_15 (c : RTV T n) (s : Xi T 904 70 = 15 ∨ Xi T 904 70 = 16) : D15 T := by sorry
theorem dk_15a (c : RTV T n) (_ : OVB T) (s : Xi T 904 70 = 15 ∨ Xi T 904 70 = 16) (q : Xi T 904 142 = 1) : PX_mo_does_15a T first := by sorry
theorem dk_15b (c : RTV T n) (v : Xi T 904 30 ≤ 48) (s : Xi T 904 70 = 15 ∨ Xi T 904 70 = 16) (q : Xi T 904 142 = 2) : PX_mo_does_15b T first := by sorry
theorem dk_15c (c : RTV T n) (_ : OVB T) (l : LOQ T (Xi T 904 71) (Xi T 904 72).toNat) (s : Xi T 904 70 = 15 ∨ Xi T 904 70 = 16) (q : Xi T 904 142 = 3) : PX_mo_does_15c T first := by sorry
theorem dk_15d (c : RTV T n) (_ : OVB T) (s : Xi T 904 70 = 15 ∨ Xi T 904 70 = 16) (q : Xi T 904 142 = 4) : PX_mo_does_15d T first := by sorry
theorem dk_17 (c : RTV T n) (s : Xi T 904 70 = 17) : PX_mo_does_17 T first := by sorry
theorem dk_18 (c : RTV T n) (s : Xi T 904 70 = 18) : PX_mo_does_18 T first := by sorry
theorem dk_19 (c : RTV T n) (s : Xi T 904 70 = 19) : PX_mo_does_19 T first := by sorry
theorem dk_20 (c : RTV T n) (s : Xi T 904 70 = 20) : PX_mo_does_20 T first := by sorry
end
end
end
section
section
/-! one sentence of both: what is no token, what the grammar forbids -/
/-- the same fault -/
def SMF (U1 S1 : sS) : Prop := Xi U1 876 8 ≠ 0 ∧ Xi S1 904 62 = Xi U1 876 8 ∧ Xi S1 904 63 = Xi U1 876 9
theorem txb_k {U V X : sS} {ts n : Nat} {e : Int} {l : List rec} (x : TXB U X ts n e) (ht : tp ts) (hV : HI V) (F : FR l U V) (e1 : kdis l [(902, 904)] = true) (e2 : kepC l [(880, 881)] [] = true) (e3 : mdf l 876 5 = false) : TXB V X ts n e := by sorry
theorem st_pre {U V X : sS} {ts f n : Nat} {e a z a1 : Int} (x : TXB U X ts n e) (ht : tp ts) (hf : f < n) (hp : Xi X 908 f = a) (c : CS0 ts U a V z a1) : TXB V X ts n e ∧ SNK V X ts f n e z ∧ Xi V 876 8 = 0 ∧ 1 ≤ Xi V 876 7 := by sorry
theorem st_pl {V X : sS} {ts f n : Nat} {e z i : Int} (k : SNK V X ts f n e z) (h0 : 0 ≤ i) (h1 : i < Xi V 876 7) : pc7 V i = Xi X 908 (f + i).toNat := by sorry
theorem st_ln {V X : sS} {ts f n : Nat} {e z : Int} (x : TXB V X ts n e) (k : SNK V X ts f n e z) (r1 : 1 ≤ Xi V 876 7) : NFR V ∧ Xi V 876 7 ≤ 5130 ∧ LST V ∧ 1 ≤ Xi V 876 7 := by sorry
theorem st_a {U V U1 X S1 : sS} {ts f n : Nat} {e a z a1 : Int} (x : TXB U X ts n e) (ht : tp ts) (hf : f < n) (e8 : Xi X 904 8 = f) (hp : Xi X 908 f = a) (c : CS0 ts U a V z a1) (t : ty7 V (Xi V 876 6 - 1) = 108) (w : WRG V U1 1 (Xi V 876 7 - 1)) (r : RSS n X S1) : SMF U1 S1 := by sorry
theorem chk_b0 {T : Int → Int} {b : Int} (h : chk T = (0, b)) : T 0 ≠ 102 := by sorry
theorem st_g0 {U V W U1 X S1 : sS} {ts f n : Nat} {e a z a1 : Int} (x : TXB U X ts n e) (ht : tp ts) (hf : f < n) (e8 : Xi X 904 8 = f) (hp : Xi X 908 f = a) (c : CS1 ts U a V W z a1 0) (w : WRG W U1 2 (Xi W 890 1)) (r : RSS n X S1) : SMF U1 S1 := by sorry
/-! one sentence of both: what the grammar allows -/
theorem t7_rg {K B : Nat → Int} {e p : Int} : 0 ≤ t7 K B e p ∧ t7 K B e p ≤ 108 := by sorry
theorem tk_tr {V X : sS} {ts n : Nat} {e : Int} (x : TXB V X ts n e) {i : Nat} (hi : i ≤ n) : ∃ t : Int, (0 ≤ t ∧ t ≤ 108) ∧ Xi X 907 i = tr7 t := by sorry
theorem vlr_x {V X : sS} {ts n : Nat} {e : Int} (x : TXB V X ts n e) : ∀ (d f : Nat), f + d = n → ∃ m : Nat, f + m ≤ n ∧ VLR X f m := by sorry
theorem sq_103 {T : Int → Int} {y : Int × Int} {x : Int} (h : gSq y (gT T 103) = (1, x)) : T (x - 1) = 103 := by sorry
theorem st_g1 {U V W X V' : sS} {ts f n : Nat} {e a z a1 : Int} (x : TXB U X ts n e) (ht : tp ts) (hf : f < n) (e8 : Xi X 904 8 = f) (hp : Xi X 908 f = a) (c : CS1 ts U a V W z a1 1) (sn : SNB n X V') : (chk (ty7 V) = (1, Xi W 890 1) ∧ CKS W (ty7 V)) ∧ (Xi V' 904 65 = 0 ∧ Xi V' 904 8 = f + Xi V 876 7) ∧ ((f : Int) + Xi V 876 7 ≤ n ∧ ((f : Int) + Xi V 876 7 < n → Xi X 908 ((f : Int) + Xi V 876 7).toNat = a1 ∧ a1 < e) ∧ ((f : Int) + Xi V 876 7 = n → e ≤ a1)) ∧ (ty7 V 0 ≠ 102 → (VLR X f (Xi V 876 7 - 1).toNat ∧ tR X f (Xi V 876 7 - 1).toNat = ty7 V ∧ SPO X V' f (Xi V 876 7 - 1).toNat) ∧ ty7 V (Xi V 876 7 - 1) = 103 ∧ ∀ i : Int, 0 ≤ i → i < Xi V 876 7 - 1 → ty7 V i ≠ 103) ∧ (ty7 V 0 = 102 → Xi V' 904 70 = 0 ∧ Xi V' 904 81 = f) := by sorry
/-- the states in which the sentence is told -/
theorem st_env {U V W X V' V1 : sS} {ts f n : Nat} {e a z a1 : Int} (x : TXB U X ts n e) (ht : tp ts) (hf : f < n) (hp : Xi X 908 f = a) (a0 : RLA U X) (c : CS1 ts U a V W z a1 1) (sn : SNB n X V') (F1 : FR [(891, 892, 9, 10), (891, 892, 11, 12)] W V1) (h1 : HI V1) (n9 : Xi V1 891 9 = 0) : CEV V1 V' ts f ∧ ENW V1 V' f ∧ TXB V1 X ts n e ∧ ty7 V1 = ty7 V ∧ (Xi V1 876 7 = Xi V 876 7 ∧ Xi V1 890 2 = Xi W 890 2 ∧ Xi V1 890 3 = Xi W 890 3) := by sorry
end
section
/-! what both have told of words, kinds and objects stays (the reference) -/
def LXG (S T : sS) : Prop := Xi S 904 15 ≤ Xi T 904 15 ∧ ∀ k : Nat, (k : Int) < Xi S 904 15 → (Xi S 914 k = 4 ∨ Xi S 914 k = 7) → Xi T 914 k = Xi S 914 k ∧ Xi T 915 k = Xi S 915 k ∧ Xi T 912 k = Xi S 912 k ∧ Xi T 916 k = Xi S 916 k ∧ ∀ t, t < 3 → Xj T 913 (3 * k + t) = Xj S 913 (3 * k + t)
theorem LXG.rf {S : sS} : LXG S S := by sorry
theorem LXG.tr {S T U : sS} (h : LXG S T) (g : LXG T U) : LXG S U := by sorry
theorem lxg_s {S T : sS} (h : SMR S T) : LXG S T := by sorry
theorem lxg_k {S T : sS} (h : KEP [(912, 917)] [(904, 15)] S T) : LXG S T := by sorry
theorem lxg_t {S T : sS} {so ix a b c n : Int} (h : TLR S T so ix a b c n) : LXG S T := by sorry
theorem lxg_x {S T : sS} {so ix a b c n g : Int} (h : TLX S T so ix a b c n g) : LXG S T := by sorry
theorem lxg_m {S T : sS} {i : Nat} {so ix a b c n : Int} (h : NMR S T i so ix a b c n) (hs : so = 1 ∨ so = 3) : LXG S T := by sorry
theorem lxg_l {S : sS} {so c f : Int} : ∀ (n : Nat) (V : sS), TLL S so c f n V → LXG S V := by sorry
theorem lxg_p {S B : sS} {so c f : Int} : ∀ (n : Nat) (V : sS), TPR S so c f B n V → LXG B V := by sorry
def KDG (S T : sS) : Prop := Xi S 904 16 ≤ Xi T 904 16 ∧ ∀ k : Nat, (k : Int) < Xi S 904 16 → Xi T 917 k = Xi S 917 k ∧ ∀ p : Int, 0 ≤ p → p < 12 → Xi S 929 (12 * (k : Int) + p).toNat ≠ 0 → Xi T 929 (12 * (k : Int) + p).toNat ≠ 0
theorem kdg_k {S T : sS} (h : KEP [(917, 918), (929, 930)] [(904, 16)] S T) : KDG S T := by sorry
theorem kdg_h {S T : sS} {k p : Int} (h : KEP [(917, 918)] [(904, 16)] S T) (g : KHR S T k p) : KDG S T := by sorry
theorem kdg_n {S T : sS} {n : Nat} (h : KNR S T n) : KDG S T := by sorry
def OBG (S T : sS) : Prop := Xi S 904 19 ≤ Xi T 904 19 ∧ ∀ o : Nat, (o : Int) < Xi S 904 19 → Xi T 918 o = Xi S 918 o ∨ blR T (Xi T 918 o) (Xi S 918 o) ≠ 0
theorem obg_k {S T : sS} (h : KEP [(918, 919)] [(904, 19)] S T) : OBG S T := by sorry
theorem bl_tr {S : sS} {b c : Int} (hB : ABV S) (h : blR S b c ≠ 0) : ∀ (n : Nat) (k : Int), k ≤ n → k ≤ 15 → blR S k b ≠ 0 → blR S k c ≠ 0 := by sorry
theorem blR_q {S T : sS} (x : ∀ j, Xi T 917 j = Xi S 917 j) (k o : Int) : blR T k o = blR S k o := by sorry
/-- within a LIST of objects -/
def OBC (S V : sS) : Prop := LXG S V ∧ (∀ j, Xi V 917 j = Xi S 917 j) ∧ Xi S 904 19 ≤ Xi V 904 19 ∧ (∀ o : Nat, (o : Int) < Xi S 904 19 → Xi V 918 o = Xi S 918 o ∨ blR S (Xi V 918 o) (Xi S 918 o) ≠ 0) ∧ ∀ j : Nat, Xi V 918 j ≤ 15
theorem obc_k {S W V : sS} (h : OBC S W) (k : KEP [(912, 919)] [(904, 15), (904, 19)] W V) : OBC S V := by sorry
theorem kep_w1 {ks fs : List (Nat × Nat)} {S : sS} {c j : Nat} {v : Int} (e : inK ks c = false) (f : (c, j) ∉ fs) : KEP ks fs S (uI S c j (Int32.ofInt v)) := by sorry
theorem obc_o {S W V : sS} {z r k : Int} (h : OBC S W) (o : OTR W V z r k) (F : FR lOT W V) (hk : k ≤ 15) : OBC S V := by sorry
theorem obc_1 {S W V : sS} {o k : Int} (hB : ABV S) (h : OBC S W) (r : RK1 W V o k) (hk : -1 ≤ k ∧ k ≤ 15) : OBC S V := by sorry
theorem trd_k {S S1 : sS} {z o a i : Int} (t : TRD S S1 z o a i) : KEP [(912, 919)] [(904, 15), (904, 19)] S S1 := by sorry
theorem rac_g {S C : sS} {o : Int} : ∀ (n : Nat) (V : sS), RAC S C o n V → KEP [(912, 919)] [(904, 15), (904, 19)] C V := by sorry
theorem obc_n {S : sS} (hB : ABV S) (h8 : ∀ j : Nat, Xi S 918 j ≤ 15) (hk : -1 ≤ Xi S 904 110 ∧ Xi S 904 110 ≤ 15) : ∀ (n : Nat) (V : sS), RDC S n V → OBC S V := by sorry
/-- what was told stays -/
def VG (S T : sS) : Prop := LXG S T ∧ KDG S T ∧ OBG S T
theorem vg_k {S T : sS} (h : KEP [(912, 919), (929, 930)] [(904, 15), (904, 16), (904, 19)] S T) : VG S T := by sorry
theorem vg_x {S T : sS} (l : LXG S T) (h : KEP [(917, 919), (929, 930)] [(904, 16), (904, 19)] S T) : VG S T := by sorry
theorem vg_b {S T : sS} (c : OBC S T) (h : KEP [(917, 918), (929, 930)] [(904, 16)] S T) : VG S T := by sorry
/-! what was told stays, whatever the reference is told -/
theorem vg_pre {S T W : sS} (k : KEP [(912, 919), (929, 930)] [(904, 15), (904, 16), (904, 19)] S T) (h : VG T W) : VG S W := by sorry
theorem vg_post {S T W : sS} (h : VG S T) (k : KEP [(912, 919), (929, 930)] [(904, 15), (904, 16), (904, 19)] T W) : VG S W := by sorry
section
variable {T W : sS} {n f : Nat}
theorem vg_0 (h : QX_mo_does_0 T W f) (_ : RTV T n) (_ : (NT3 W).1 = 0) : VG T W := by sorry
theorem vg_1 (h : QX_mo_does_1 T W f) (_ : RTV T n) (_ : (NT3 W).1 = 0) : VG T W := by sorry
theorem vg_2 (h : QX_mo_does_2 T W f) (_ : RTV T n) (_ : (NT3 W).1 = 0) : VG T W := by sorry
theorem vg_3 (h : QX_mo_does_3 T W f) (_ : RTV T n) (_ : (NT3 W).1 = 0) : VG T W := by sorry
theorem vg_7 (h : QX_mo_does_7 T W f) (_ : RTV T n) (_ : (NT3 W).1 = 0) : VG T W := by sorry
theorem vg_8 (h : QX_mo_does_8 T W f) (_ : RTV T n) (_ : (NT3 W).1 = 0) : VG T W := by sorry
theorem vg_9 (h : QX_mo_does_9 T W f) (_ : RTV T n) (_ : (NT3 W).1 = 0) : VG T W := by sorry
theorem vg_10 (h : QX_mo_does_10 T W f) (_ : RTV T n) (_ : (NT3 W).1 = 0) : VG T W := by sorry
theorem vg_11 (h : QX_mo_does_11 T W f) (_ : RTV T n) (_ : (NT3 W).1 = 0) : VG T W := by sorry
theorem vg_rdb (h : RDB T W) (v : RTV T n) (r : (NT3 W).1 = 0) : OBC T W := by sorry
theorem vg_12 (h : QX_mo_does_12 T W f) (v : RTV T n) (r : (NT3 W).1 = 0) : VG T W := by sorry
theorem vg_13 (h : QX_mo_does_13 T W f) (v : RTV T n) (r : (NT3 W).1 = 0) : VG T W := by sorry
theorem vg_14 (h : QX_mo_does_14 T W f) (v : RTV T n) (r : (NT3 W).1 = 0) : VG T W := by sorry
theorem vg_15a (h : QX_mo_does_15a T W f) (_ : RTV T n) (_ : (NT3 W).1 = 0) : VG T W := by sorry
theorem lxg_tc {S : sS} {tp : Int} : ∀ (n : Nat) (V : sS), RTC S tp n V → LXG S V := by sorry
theorem vg_15b (h : QX_mo_does_15b T W f) (_ : RTV T n) (_ : (NT3 W).1 = 0) : VG T W := by sorry
theorem vg_15c (h : QX_mo_does_15c T W f) (v : RTV T n) (r : (NT3 W).1 = 0) : VG T W := by sorry
theorem vg_15d (h : QX_mo_does_15d T W f) (_ : RTV T n) (_ : (NT3 W).1 = 0) : VG T W := by sorry
theorem vg_17 (h : QX_mo_does_17 T W f) (_ : RTV T n) (r : (NT3 W).1 = 0) : VG T W := by sorry
theorem vg_18 (h : QX_mo_does_18 T W f) (_ : RTV T n) (_ : (NT3 W).1 = 0) : VG T W := by sorry
theorem vg_19 (h : QX_mo_does_19 T W f) (_ : RTV T n) (_ : (NT3 W).1 = 0) : VG T W := by sorry
theorem vg_20 (h : QX_mo_does_20 T W f) (_ : RTV T n) (_ : (NT3 W).1 = 0) : VG T W := by sorry
end
end
section
/-! one sentence that both tell: the same fault, or both worlds agree behind it -/
/-- the class's book of rules stays -/
def BKG (V U1 : sS) : Prop := (Xi U1 246 2 = Xi V 246 2 ∧ Xi U1 246 8 = Xi V 246 8) ∧ (∀ j, Xi U1 274 j = Xi V 274 j ∧ Xi U1 275 j = Xi V 275 j) ∧ (∀ r j : Nat, r < 24 → Xi U1 (248 + r) j = Xi V (248 + r) j) ∧ ∀ c j : Nat, (c : Int) < Xi V 246 5 → c < 600 → Xi U1 (276 + c) j = Xi V (276 + c) j
theorem bkg_k {V U1 : sS} (k : KEP [(248, 276), (276, 876)] [(246, 2), (246, 8)] V U1) : BKG V U1 := by sorry
/-- a new rule -/
def RLNW (V U1 V' T : sS) (ts : Nat) : Prop := ∃ (ru N K : Nat) (s hd g : Int), RULF V U1 V' T ts ru N K s hd g ∧ ((ru : Int) = Xi V 246 2 ∧ ru < 24 ∧ 0 < K) ∧ (s = 3 ∨ s = 4 ∨ s = 5 ∨ s = 6) ∧ TXL V ∧ (Xi V' 904 94 = N ∧ Xi V' 904 98 = K)
def STB (V V' U1 T W : sS) (ts : Nat) : Prop := STA U1 T W ∧ ((NT3 T).1 = 0 → (NT3 W).1 = 0 → VG T W) ∧ (Xi U1 876 8 = 0 → BKG V U1 ∨ (RLNW V U1 V' T ts ∧ ((NT3 T).1 = 0 → W = T)))
def NV6 (V : sS) : Prop := ∀ j : Nat, (j : Int) < Xi V 876 7 → Xi V 877 j = 101 → 0 ≤ Xj V 879 j ∧ Xj V 879 j ≤ 999999
/-- both are about to tell a sentence -/
def TLE (V V' T W' : sS) (ts f n : Nat) : Prop := CEV V V' ts f ∧ ENW V V' f ∧ RPV V' n ∧ OVB V' ∧ ASB n V' T f ∧ (Xi T 904 106 = 0 → DSB n T W' f) ∧ KEYR (Xj V 880) (Xj V' 911) ∧ BE (Xi V ts) (Xi V' 906) (Xi V 876 5) ∧ NV6 V
theorem rtv_i {V V' T W' : sS} {ts f n : Nat} (t : TLE V V' T W' ts f n) (q : Xi T 904 106 = 0) : RTV T n ∧ OVB T := by sorry
theorem tle_70 {V V' T W' : sS} {ts f n : Nat} (t : TLE V V' T W' ts f n) : Xi T 904 70 = Xi V' 904 70 := by sorry
theorem tle_a {V V' T W' : sS} {ts f n : Nat} (t : TLE V V' T W' ts f n) (d : Nat) (h : AKP V' d f) : AKQ V' T d f := by sorry
theorem tle_d {V V' T W' : sS} {ts f n : Nat} (t : TLE V V' T W' ts f n) (q : Xi T 904 106 = 0) (h : DKP T f) : DKQ T W' f ∧ GR W' T := by sorry
section
variable {V V' T W' U1 : sS} {ts f n m : Nat} {x z : Int}
theorem so_0 (t : TLE V V' T W' ts f n) (h70 : Xi V' 904 70 = 0) (ty0 : ty7 V 0 = 102) (e81 : Xi V' 904 81 = f) (zf : z = 0 → Xi U1 876 8 ≠ 0) (tc : (TDE V U1 z) ∧ FR md_re_describe__p V U1) : STB V V' U1 T W' ts := by sorry
theorem so_1 (t : TLE V V' T W' ts f n) (s : SNT V V' f m n x) (t0 : ty7 V 0 = 33) (h70 : Xi V' 904 70 = 1) (e81 : Xi V' 904 81 = f + 1) (zf : z = 0 → Xi U1 876 8 ≠ 0) (tc : (TUN md_co_takeText__p md_co_suits__p V U1 ts z (fnd V 8 3 (re7 (ty7 V) 3)) (pc7 V 1 + 1) (pc7 V 1 + 1 + Xj V 879 1)) ∧ (KOC V U1) ∧ FR md_re_understand__a V U1) : STB V V' U1 T W' ts := by sorry
theorem so_2 (t : TLE V V' T W' ts f n) (h70 : Xi V' 904 70 = 2) (de : DFE (tkR V') V' 0 0 f (f + (Xi V 876 7 - 1))) (dot : ty7 V (Xi V 876 7 - 1) = 103) (zf : z = 0 → Xi U1 876 8 ≠ 0) (tc : BG2 V U1 z) : STB V V' U1 T W' ts := by sorry
theorem so_3 (t : TLE V V' T W' ts f n) {s : Int} (hs : s = 3 ∨ s = 4 ∨ s = 5 ∨ s = 6) (e89 : Xi V 890 2 = s) (h70 : Xi V' 904 70 = s) (rue : RUE (tkR V') V' 0 0 0 s f (f + (Xi V 876 7 - 1))) (dot : ty7 V (Xi V 876 7 - 1) = 103) (zf : z = 0 → Xi U1 876 8 ≠ 0) (tc : BG3 V U1 ts z) : STB V V' U1 T W' ts := by sorry
theorem so_7 (t : TLE V V' T W' ts f n) (s : SNT V V' f m n x) (t0 : ty7 V 0 = 2) (t1 : ty7 V 1 = 25) (h70 : Xi V' 904 70 = 7) (zf : z = 0 → Xi U1 876 8 ≠ 0) (tc : (TVB V U1 z (re7 (ty7 V) 3) ((re7 (ty7 V) 3) + 2) (re7 (ty7 V) ((re7 (ty7 V) 3) + 2))) ∧ FR md_re_tellVerb__p V U1) : STB V V' U1 T W' ts := by sorry
theorem so_8 (t : TLE V V' T W' ts f n) (s : SNT V V' f m n x) (t0 : ty7 V 0 = 2) (t1 : ty7 V 1 = 19) (h70 : Xi V' 904 70 = 8) (zf : z = 0 → Xi U1 876 8 ≠ 0) (tc : (TPL V U1 z (bA (ty7 V) 3) (re7 (ty7 V) (bA (ty7 V) 3)) ((re7 (ty7 V) (bA (ty7 V) 3)) + 1) (re7 (ty7 V) ((re7 (ty7 V) (bA (ty7 V) 3)) + 1))) ∧ FR md_re_tellPlural__p V U1) : STB V V' U1 T W' ts := by sorry
theorem so_17 (t : TLE V V' T W' ts f n) (s : SNT V V' f m n x) (g : NBG (ty7 V)) (k : kt7 (ty7 V) = 12) (h70 : Xi V' 904 70 = 17) (tel : Xi V 890 3 = tk7 (ty7 V)) (zf : z = 0 → Xi U1 876 8 ≠ 0) (tc : (THAS V U1 z (bA (ty7 V) 0) (re7 (ty7 V) (bA (ty7 V) 0)) (Xi V 890 3 + 2) (re7 (ty7 V) (Xi V 890 3 + 2)) ((re7 (ty7 V) (Xi V 890 3 + 2)) + 1) (re7 (ty7 V) ((re7 (ty7 V) (Xi V 890 3 + 2)) + 1))) ∧ FR md_re_tellHas__p V U1) : STB V V' U1 T W' ts := by sorry
theorem so_18 (t : TLE V V' T W' ts f n) (s : SNT V V' f m n x) (g : NBG (ty7 V)) (k : kt7 (ty7 V) = 13) (h70 : Xi V' 904 70 = 18) (tel : Xi V 890 3 = tk7 (ty7 V)) (zf : z = 0 → Xi U1 876 8 ≠ 0) (tc : (TCAN V U1 z (bA (ty7 V) 0) (re7 (ty7 V) (bA (ty7 V) 0)) (Xi V 890 3 + 2) (re7 (ty7 V) (Xi V 890 3 + 2)) (re7 (ty7 V) ((re7 (ty7 V) (Xi V 890 3 + 2)) + 1))) ∧ FR md_re_tellCan__p V U1) : STB V V' U1 T W' ts := by sorry
theorem so_19 (t : TLE V V' T W' ts f n) (s : SNT V V' f m n x) (g : NBG (ty7 V)) (k : kt7 (ty7 V) = 21) (h70 : Xi V' 904 70 = 19) (tel : Xi V 890 3 = tk7 (ty7 V)) (on : ONR V' (ty7 V)) (zf : z = 0 → Xi U1 876 8 ≠ 0) (tc : (TREL V U1 z (bA (ty7 V) 0) (re7 (ty7 V) (bA (ty7 V) 0)) (Xi V 890 3 + 2) (re7 (ty7 V) (Xi V 890 3 + 2)) ((re7 (ty7 V) (Xi V 890 3 + 2)) + 2) (re7 (ty7 V) ((re7 (ty7 V) (Xi V 890 3 + 2)) + 2)) (ty7 V ((Xi V 890 3 + 2) - 1)) (ty7 V (((re7 (ty7 V) (Xi V 890 3 + 2)) + 2) - 1))) ∧ FR md_re_tellRelation__p V U1) : STB V V' U1 T W' ts := by sorry
theorem so_20 (t : TLE V V' T W' ts f n) (h70 : Xi V' 904 70 = 20) (dot : ty7 V (Xi V 876 7 - 1) = 103) (nd : ∀ i : Int, 0 ≤ i → i < Xi V 876 7 - 1 → ty7 V i ≠ 103) (zf : z = 0 → Xi U1 876 8 ≠ 0) (tc : (TLQ V U1 z) ∧ FR md_re_tellLoose__p V U1) : STB V V' U1 T W' ts := by sorry
end

section
variable {V V' T W' U1 : sS} {ts f n m : Nat} {x z : Int}
theorem tle_loq (t : TLE V V' T W' ts f n) (r : LOQ V' (Xi V' 904 71) (Xi V' 904 72).toNat) : LOQ T (Xi T 904 71) (Xi T 904 72).toNat := by sorry
theorem so_9 (t : TLE V V' T W' ts f n) (s : SNT V V' f m n x) (g : NBG (ty7 V)) (k : kt7 (ty7 V) = 4 ∨ kt7 (ty7 V) = 5) (nb : bp7 (ty7 V) 0) (tel : Xi V 890 3 = tk7 (ty7 V)) (be : BES V (ty7 V)) (cr : C9S V' (ty7 V) f) (zf : z = 0 → Xi U1 876 8 ≠ 0) (tc : (TPY md_me_readWhat__p V U1 z (re7 (ty7 V) 1) (bA (ty7 V) (re7 (ty7 V) 1 + 1)) (re7 (ty7 V) (bA (ty7 V) (re7 (ty7 V) 1 + 1))) (Xi V 890 3 + 1)) ∧ FR md_re_tellProperty__p V U1) : STB V V' U1 T W' ts := by sorry
theorem so_10 (t : TLE V V' T W' ts f n) (s : SNT V V' f m n x) (b : BEX V V' f m x) (tt : ty7 V (Xi V 890 3 + 1) = 0 ∧ ty7 V (Xi V 890 3 + 1 + 1) = 18) (hz : z = 0 ∨ z = 1) (zf : z = 0 → Xi U1 876 8 ≠ 0) (tc : (TKN V U1 z) ∧ FR md_re_tellKinds__p V U1) : STB V V' U1 T W' ts := by sorry
theorem so_11 (t : TLE V V' T W' ts f n) (s : SNT V V' f m n x) (b : BEX V V' f m x) (tt : ty7 V (Xi V 890 3 + 1) = 1 ∧ ty7 V (Xi V 890 3 + 1 + 1) = 27) (zf : z = 0 → Xi U1 876 8 ≠ 0) (tc : (TACT V U1 z) ∧ FR md_re_tellActions__p V U1) : STB V V' U1 T W' ts := by sorry
theorem so_12 (t : TLE V V' T W' ts f n) (s : SNT V V' f m n x) (b : BEX V V' f m x) (t0 : ¬ (ty7 V (Xi V 890 3 + 1) = 0 ∧ ty7 V (Xi V 890 3 + 1 + 1) = 18)) (t1 : ¬ (ty7 V (Xi V 890 3 + 1) = 1 ∧ ty7 V (Xi V 890 3 + 1 + 1) = 27)) (tt : art7 (ty7 V (Xi V 890 3 + 1))) (hz : z = 0 ∨ z = 1) (zf : z = 0 → Xi U1 876 8 ≠ 0) (tc : (TOJ V U1 z) ∧ FR md_re_tellObjects__p V U1) : STB V V' U1 T W' ts := by sorry
theorem so_13 (t : TLE V V' T W' ts f n) (s : SNT V V' f m n x) (b : BEX V V' f m x) (tt : ¬ art7 (ty7 V (Xi V 890 3 + 1))) (p : pl7 (ty7 V (Xi V 890 3 + 1))) (hz : z = 0 ∨ z = 1) (zf : z = 0 → Xi U1 876 8 ≠ 0) (tc : (TOJ V U1 z) ∧ FR md_re_tellObjects__p V U1) : STB V V' U1 T W' ts := by sorry
theorem so_14 (t : TLE V V' T W' ts f n) (s : SNT V V' f m n x) (b : BEX V V' f m x) (tt : ty7 V (Xi V 890 3 + 1) = 100) (w : ty7 V (re7 (ty7 V) (Xi V 890 3 + 1)) = 7) (zf : z = 0 → Xi U1 876 8 ≠ 0) (tc : (TW14 V U1 z) ∧ FR md_re_tellWay__p V U1) : STB V V' U1 T W' ts := by sorry
theorem so_15u (t : TLE V V' T W' ts f n) (s : SNT V V' f m n x) (b : BEX V V' f m x) (tt : ty7 V (Xi V 890 3 + 1) = 32) (zf : z = 0 → Xi U1 876 8 ≠ 0) (tc : (TUS md_me_readAdjective__p V U1 z (bA (ty7 V) 0) (re7 (ty7 V) (bA (ty7 V) 0)) (Xi V 890 3 + 2) (re7 (ty7 V) (Xi V 890 3 + 2))) ∧ FR md_re_tellUsually__p V U1) : STB V V' U1 T W' ts := by sorry
/-- both ask whether values are told -/
theorem val_c (s : SNT V V' f m n x) (b : BEX V V' f m x) : (sn2 V = -1 ∧ tv5 V (bA (ty7 V) 0) (re7 (ty7 V) (bA (ty7 V) 0)) ≠ -1) ↔ (Xi V' 904 72 = 1 ∧ 1 < r2R V' (Xi V' 904 71) 2 3) := by sorry
theorem raw_142 {g : List rec} {P T : sS} (h : RAW g P T) : Xi T 904 142 = 2 := by sorry
theorem so_15v (t : TLE V V' T W' ts f n) (s : SNT V V' f m n x) (b : BEX V V' f m x) (hd : ty7 V (Xi V 876 7 - 1) = 103) (kc : kr7 (ty7 V) (Xi V' 904 69).toNat = nf7 (ty7 V) (Xi V 876 7 - 1)) (tt : ty7 V (Xi V 890 3 + 1) = 100) (w : ty7 V (re7 (ty7 V) (Xi V 890 3 + 1)) ≠ 7) (h70 : Xi V' 904 70 = 15) (vc : Xi V' 904 72 = 1 ∧ 1 < r2R V' (Xi V' 904 71) 2 3) (zf : z = 0 → Xi U1 876 8 ≠ 0) (tc : (TVL V U1 z) ∧ FR md_re_tellValues__p V U1) : STB V V' U1 T W' ts := by sorry
theorem so_16 (t : TLE V V' T W' ts f n) (s : SNT V V' f m n x) (b : BEX V V' f m x) (hd : ty7 V (Xi V 876 7 - 1) = 103) (kc : kr7 (ty7 V) (Xi V' 904 69).toNat = nf7 (ty7 V) (Xi V 876 7 - 1)) (tt : ty7 V (Xi V 890 3 + 1) = 100) (w : ty7 V (re7 (ty7 V) (Xi V 890 3 + 1)) ≠ 7) (h70 : Xi V' 904 70 = 16) (zf : z = 0 → Xi U1 876 8 ≠ 0) (tc : (TVL V U1 z) ∧ FR md_re_tellValues__p V U1) : STB V V' U1 T W' ts := by sorry
/-- a description: the objects are enough -/
theorem rax_3 {P T : sS} (r : RAX P T) (h : Xi T 904 142 = 3) (q : (NT3 T).1 = 0) : LOQ P (Xi P 904 71) (Xi P 904 72).toNat := by sorry
theorem rax_4 {P T : sS} (r : RAX P T) : Xi T 904 142 = 3 ∨ Xi T 904 142 = 4 := by sorry
theorem so_15p (t : TLE V V' T W' ts f n) (s : SNT V V' f m n x) (b : BEX V V' f m x) (h70 : Xi V' 904 70 = 15) (tt : ty7 V (Xi V 890 3 + 1) = 6 ∨ (ty7 V (Xi V 890 3 + 1) = 100 ∧ ty7 V (re7 (ty7 V) (Xi V 890 3 + 1)) ≠ 7)) (nv : ¬ (ty7 V (Xi V 890 3 + 1) ≠ 6 ∧ Xi V' 904 72 = 1 ∧ 1 < r2R V' (Xi V' 904 71) 2 3)) (w11 : Xi V 891 11 = 0) (hz : z = 0 ∨ z = 1) (zf : z = 0 → Xi U1 876 8 ≠ 0) (tc : (TPN md_me_countReadings__p md_me_readAdjective__p V U1 z) ∧ FR md_re_tellPlain__p V U1) : STB V V' U1 T W' ts := by sorry
end
end
section
/-! one sentence of both, whatever it is -/
theorem cks_k {W V : sS} {T : Int → Int} (e2 : Xi V 890 2 = Xi W 890 2) (e3 : Xi V 890 3 = Xi W 890 3) (h : CKS W T) : CKS V T := by sorry
theorem st_tle {U V W X V' V1 T W' : sS} {ts f n : Nat} {e a z a1 : Int} (x : TXB U X ts n e) (ht : tp ts) (hf : f < n) (hp : Xi X 908 f = a) (a0 : RLA U X) (ob : OVB X) (rp : RP7 n X) (c : CS1 ts U a V W z a1 1) (sn : SNB n X V') (ok : Xi V' 904 65 = 0) (F1 : FR [(891, 892, 9, 10), (891, 892, 11, 12)] W V1) (h1 : HI V1) (n9 : Xi V1 891 9 = 0) (as : ASB n V' T f) (ds : Xi T 904 106 = 0 → DSB n T W' f) : TLE V1 V' T W' ts f n ∧ ty7 V1 = ty7 V ∧ (Xi V1 876 7 = Xi V 876 7 ∧ Xi V1 890 2 = Xi W 890 2 ∧ Xi V1 890 3 = Xi W 890 3) := by sorry
/-- the runs of a sentence without tests -/
theorem st_snt {V V1 X V' T W' : sS} {ts f n : Nat} {x : Int} (t : TLE V1 V' T W' ts f n) (ty : ty7 V1 = ty7 V) (e7 : Xi V1 876 7 = Xi V 876 7) (ck : chk (ty7 V) = (1, x)) (sn : SNB n X V') (ok : Xi V' 904 65 = 0) (tr : tR X f (Xi V 876 7 - 1).toNat = ty7 V) (sp : SPO X V' f (Xi V 876 7 - 1).toNat) (h0 : ty7 V 0 ≠ 102) (h93 : Xi V' 904 93 = 0) (h20 : Xi V' 904 70 ≠ 20) : SNT V1 V' f (Xi V 876 7 - 1).toNat n x := by sorry
theorem st_93 {X V' : sS} {f m : Nat} {T : Int → Int} (tr : tR X f m = T) (sp : SPO X V' f m) (h : T 0 ≠ 102 ∧ T 0 ≠ 35 ∧ T 0 ≠ 38 ∧ T 0 ≠ 40 ∧ T 0 ≠ 39 ∧ T 0 ≠ 41) : Xi V' 904 93 = 0 := by sorry
/-- sentences of 9 to 20 -/
theorem st_t9 {V V1 X V' T W' U1 : sS} {ts f n : Nat} {x z : Int} (t : TLE V1 V' T W' ts f n) (ty : ty7 V1 = ty7 V) (e7 : Xi V1 876 7 = Xi V 876 7) (ck : chk (ty7 V) = (1, x)) (so : CKS V1 (ty7 V)) (s9 : 9 ≤ Xi V1 890 2) (w11 : Xi V1 891 11 = 0) (sn : SNB n X V') (ok : Xi V' 904 65 = 0) (e8 : Xi V' 904 8 = f + Xi V 876 7) (tr : tR X f (Xi V 876 7 - 1).toNat = ty7 V) (sp : SPO X V' f (Xi V 876 7 - 1).toNat) (dot : ty7 V (Xi V 876 7 - 1) = 103) (nd : ∀ i : Int, 0 ≤ i → i < Xi V 876 7 - 1 → ty7 V i ≠ 103) (hz : z = 0 ∨ z = 1) (zf : z = 0 → Xi U1 876 8 ≠ 0) (tc : TSP V1 → TSV V1 U1 z) : STB V1 V' U1 T W' ts := by sorry
/-! one sentence of both: those that are told by how they begin -/
theorem tkr_k {X V' : sS} {n : Nat} (sn : SNB n X V') : tkR V' = tkR X := by sorry
theorem st_tk0 {V V1 V' T W' : sS} {ts f n : Nat} (t : TLE V1 V' T W' ts f n) (ty : ty7 V1 = ty7 V) : tkR V' f = tr7 (ty7 V 0) := by sorry
theorem st_de {V V1 X V' T W' : sS} {ts f n : Nat} (t : TLE V1 V' T W' ts f n) (ty : ty7 V1 = ty7 V) (e7 : Xi V1 876 7 = Xi V 876 7) (sn : SNB n X V') (ok : Xi V' 904 65 = 0) (eX : Xi X 904 8 = f) (e8 : Xi V' 904 8 = f + Xi V 876 7) (t0 : ty7 V 0 = 35) : DFE (tkR V') V' 0 0 f (f + (Xi V1 876 7 - 1)) := by sorry
theorem st_ru {V V1 X V' T W' : sS} {ts f n : Nat} {s : Int} (t : TLE V1 V' T W' ts f n) (ty : ty7 V1 = ty7 V) (e7 : Xi V1 876 7 = Xi V 876 7) (sn : SNB n X V') (ok : Xi V' 904 65 = 0) (eX : Xi X 904 8 = f) (e8 : Xi V' 904 8 = f + Xi V 876 7) (t0 : (ty7 V 0 = 38 ∧ s = 3) ∨ (ty7 V 0 = 40 ∧ s = 4) ∨ (ty7 V 0 = 39 ∧ s = 5) ∨ (ty7 V 0 = 41 ∧ s = 6)) : RUE (tkR V') V' 0 0 0 s f (f + (Xi V1 876 7 - 1)) := by sorry
theorem st_t0 {V V1 X V' T W' U1 : sS} {ts f n : Nat} {x z : Int} (t : TLE V1 V' T W' ts f n) (ty : ty7 V1 = ty7 V) (e7 : Xi V1 876 7 = Xi V 876 7) (ck : chk (ty7 V) = (1, x)) (so : CKS V1 (ty7 V)) (s9 : Xi V1 890 2 < 9) (sn : SNB n X V') (ok : Xi V' 904 65 = 0) (eX : Xi X 904 8 = f) (e8 : Xi V' 904 8 = f + Xi V 876 7) (hN : ty7 V 0 ≠ 102 → (VLR X f (Xi V 876 7 - 1).toNat ∧ tR X f (Xi V 876 7 - 1).toNat = ty7 V ∧ SPO X V' f (Xi V 876 7 - 1).toNat) ∧ ty7 V (Xi V 876 7 - 1) = 103 ∧ ∀ i : Int, 0 ≤ i → i < Xi V 876 7 - 1 → ty7 V i ≠ 103) (h102 : ty7 V 0 = 102 → Xi V' 904 70 = 0 ∧ Xi V' 904 81 = f) (zf : z = 0 → Xi U1 876 8 ≠ 0) (tc : BGP V1 ts → BGV V1 U1 ts z) : STB V1 V' U1 T W' ts := by sorry
/-! one sentence of both: the step -/
theorem cut_k {B K : Nat → Int} {e : Int} {X Y : sS} {n : Nat} (k : KEP [(907, 911)] [] X Y) (h : CUT B K e X n) : CUT B K e Y n := by sorry
/-- both stand ahead of a sentence (or at the end); k of them are told -/
def JOK (ts n : Nat) (e : Int) (U X : sS) (a k : Int) : Prop := (Xi U 876 8 = 0 ∧ Xi X 904 62 = 0 ∧ Xi X 904 61 = k) ∧ TXB U X ts n e ∧ RLA U X ∧ OVB X ∧ ∃ f : Nat, Xi X 904 8 = f ∧ f ≤ n ∧ (f < n → Xi X 908 f = a ∧ a < e) ∧ (f = n → e ≤ a)
/-- one sentence that both have told: the states on the way -/
def cMu : List (Nat × Nat) := [(2, 24), (245, 246), (248, 876), (880, 881), (902, 904)]
def cMf : List (Nat × Nat) := [(1, 3), (20, 1), (246, 2), (246, 5), (246, 8), (876, 5)]
def cMx : List (Nat × Nat) := [(906, 907), (911, 919), (922, 925), (928, 930), (942, 943)]
def cMg : List (Nat × Nat) := [(904, 15), (904, 16), (904, 18), (904, 19), (904, 23), (904, 30), (904, 32), (904, 41), (904, 47), (904, 49)]
def STD (U U1 X S1 : sS) (ts n : Nat) (e a a1 : Int) : Prop := ∃ (V V' T W' : sS) (f : Nat), TLE V V' T W' ts f n ∧ STB V V' U1 T W' ts ∧ KEP cMu cMf U V ∧ KEP [(245, 246), (902, 904)] [(20, 1)] V U1 ∧ (KEP cMx cMg X V' ∧ KEP cMx cMg V' T) ∧ VG T W' ∧ GR W' T ∧ KEP [(906, 907), (911, 912)] [] T W' ∧ KEP cMx cMg W' S1 ∧ (f < n ∧ Xi X 908 f = a ∧ KEP [(907, 911)] [] X V') ∧ ((f : Int) + Xi V 876 7 < n → Xi X 908 ((f : Int) + Xi V 876 7).toNat = a1) ∧ ((f : Int) + Xi V 876 7 = n → e ≤ a1) ∧ (f : Int) + Xi V 876 7 ≤ n ∧ ABV S1 ∧ (NT3 T).1 = 0
theorem st_mid {U U1 X S1 : sS} {ts n : Nat} {e a a1 k : Int} (j : JOK ts n e U X a k) (ht : tp ts) (c : CST ts U a U1 a1) (r : RSS n X S1) : SMF U1 S1 ∨ ((JOK ts n e U1 S1 a1 (k + 1) ∧ a < a1) ∧ STD U U1 X S1 ts n e a a1) := by sorry
theorem st_step {U U1 X S1 : sS} {ts n : Nat} {e a a1 k : Int} (j : JOK ts n e U X a k) (ht : tp ts) (c : CST ts U a U1 a1) (r : RSS n X S1) : SMF U1 S1 ∨ (JOK ts n e U1 S1 a1 (k + 1) ∧ a < a1) := by sorry
end
section
/-! both readings, sentence by sentence -/
def PCS (ts : Nat) : Nat → sS → Int → sS → Int → Prop
  | 0, U, a, V, b => V = U ∧ b = a
  | n + 1, U, a, V, b => ∃ (X : sS) (c : Int), CST ts U a X c ∧ PCS ts n X c V b
theorem pcs_s {ts : Nat} : ∀ (n : Nat) {U V X : sS} {a b c : Int}, PCS ts n U a V b → CST ts V b X c → PCS ts (n + 1) U a X c := by sorry
theorem pch_s {ts : Nat} {U0 : sS} {a0 : Int} : ∀ (n : Nat) {U : sS} {a : Int}, PCH ts U0 a0 n U a → PCS ts n U0 a0 U a := by sorry
def RCS (n : Nat) : Nat → sS → sS → Prop
  | 0, X, R => R = X
  | k + 1, X, R => ∃ Y : sS, RSS n X Y ∧ RCS n k Y R
theorem rcs_s {n : Nat} : ∀ (k : Nat) {X Y R : sS}, RCS n k X Y → RSS n Y R → RCS n (k + 1) X R := by sorry
theorem rc7_s {n : Nat} {R0 : sS} : ∀ (k : Nat) {X : sS}, RC7 n R0 k X → RCS n k R0 X := by sorry
theorem cst_0 {ts : Nat} {U X : sS} {a c : Int} (h : CST ts U a X c) : a < Xi U 876 5 ∧ Xi U 876 8 = 0 := by sorry
/-- both read alike: as many sentences, and the same fault or both worlds agree -/
theorem rd_all {ts n : Nat} {e : Int} (ht : tp ts) : ∀ (N K : Nat) {U X U' R : sS} {a a' k : Int}, JOK ts n e U X a k → k ≤ a → PCS ts N U a U' a' → RCS n K X R → ¬ (a' < Xi U' 876 5 ∧ k + N < Xi U' 876 5 ∧ Xi U' 876 8 = 0) → ¬ (Xi R 904 62 = 0 ∧ Xi R 907 (Xi R 904 8).toNat ≠ 1) → N = K ∧ (SMF U' R ∨ (JOK ts n e U' R a' (k + N) ∧ Xi R 904 8 = n)) := by sorry
end
end
