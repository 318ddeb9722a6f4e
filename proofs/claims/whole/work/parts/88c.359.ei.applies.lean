section
section
/-! TURNS of the reference: added numbers, whether a rule applies -/
def ADR (S S1 : sS) (i : Nat) (v : Int) : Prop := (Xi S1 930 i = 1 ∧ Xi S1 931 i = v) ∧ ∀ j : Nat, j ≠ i → Xi S1 930 j = Xi S 930 j ∧ Xi S1 931 j = Xi S 931 j
theorem clw_rg {c : Int} : -999999 ≤ clW c ∧ clW c ≤ 999999 := by sorry
theorem adr_i {S T U W : sS} {o p z c b : Int} (X : XE S T) (e1 : U = uI T 930 (12 * o + p).toNat (Int32.ofInt 1)) (e2 : W = uI U 931 (12 * o + p).toNat (Int32.ofInt (clW c))) (hz : z = nuR S o p) (hc : c = adW z b) : ADR S W (12 * o + p).toNat (clW (adW (nuR S o p) b)) := by sorry
def apG (S : sS) (ri a o : Int) : Int := if Xi S 979 ri.toNat ≠ a ∨ (Xi S 980 ri.toNat ≠ -1 ∧ Xi S 980 ri.toNat ≠ o) ∨ (Xi S 981 ri.toNat ≠ -1 ∧ blR S (Xi S 918 o.toNat) (Xi S 981 ri.toNat) = 0) then 0 else alT (fun i => hoR S 8 o (Xi S 983 (6 * ri.toNat + i))) (Xi S 982 ri.toNat - 0).toNat 0
theorem apg_0 {S : sS} {ri a o : Int} (h : Xi S 979 ri.toNat ≠ a ∨ (Xi S 980 ri.toNat ≠ -1 ∧ Xi S 980 ri.toNat ≠ o) ∨ (Xi S 981 ri.toNat ≠ -1 ∧ blR S (Xi S 918 o.toNat) (Xi S 981 ri.toNat) = 0)) : apG S ri a o = 0 := by sorry
theorem apg_1 {S : sS} {ri a o : Int} (h1 : Xi S 979 ri.toNat = a) (h2 : Xi S 980 ri.toNat = -1 ∨ Xi S 980 ri.toNat = o) (h3 : Xi S 981 ri.toNat = -1 ∨ blR S (Xi S 918 o.toNat) (Xi S 981 ri.toNat) ≠ 0) : apG S ri a o = alT (fun i => hoR S 8 o (Xi S 983 (6 * ri.toNat + i))) (Xi S 982 ri.toNat - 0).toNat (0 : Int).toNat := by sorry
def apR (S : sS) (ri a o : Int) : Int := if Xi S 978 ri.toNat < 3 ∧ apG S ri a o = 0 then 0 else alT (fun i => teR (hoR S 8) S ((Xi S 984 ri.toNat).toNat + i) (-1) o) (Xi S 985 ri.toNat - 0).toNat 0
theorem apr_0 {S : sS} {ri a o : Int} (h : Xi S 978 ri.toNat < 3) (g : apG S ri a o = 0) : apR S ri a o = 0 := by sorry
theorem apr_1 {S : sS} {ri a o : Int} (h : ¬ Xi S 978 ri.toNat < 3 ∨ apG S ri a o ≠ 0) : apR S ri a o = alT (fun i => teR (hoR S 8) S ((Xi S 984 ri.toNat).toNat + i) (-1) o) (Xi S 985 ri.toNat - 0).toNat (0 : Int).toNat := by sorry
def md_mo_adds__q : List rec := [(904, 905, 154, 155), (930, 931, 0, 100000), (931, 932, 0, 100000)]
abbrev Q_mo_adds__q (S : sS) (q : Int) (noun : Int) (by_ : Int) : pst := fun r S1 => HI S1 ∧ FR md_mo_adds__q S S1 ∧ (r = none ∧ (TXM S1) ∧ (ADR S S1 (12 * thR (-1) noun (Xi S 971 q.toNat) + Xi S 972 q.toNat).toNat (clW (adW (nuR S (thR (-1) noun (Xi S 971 q.toNat)) (Xi S 972 q.toNat)) by_))))
set_option maxRecDepth 100000 in
theorem t_mo_adds__q {S : sS} (hH : HI S) (q : Int) (noun : Int) (by_ : Int) (hq : 0 ≤ q ∧ q ≤ 2399) (hnoun : -1 ≤ noun ∧ noun ≤ 23) (hby_ : -2147483648 ≤ by_ ∧ by_ ≤ 2147483647) (hk : thK S False (0 ≤ noun) (Xi S 971 q.toNat)) (hp : 0 ≤ Xi S 972 q.toNat ∧ Xi S 972 q.toNat < Xi S 904 32 ∧ Xi S 928 (Xi S 972 q.toNat).toNat ≠ 1) (h2 : noun < Xi S 904 19) (hB : ABV S) (hX : TXM S) (d : Nat) : Mt lay0 (d + 2) m_mo_adds [.ref 904, iv q, iv noun, iv by_] S (Q_mo_adds__q S q noun by_) := by sorry
def md_mo_applies__q : List rec := [(904, 905, 154, 155)]
abbrev Q_mo_applies__q (S : sS) (ri : Int) (action : Int) (noun : Int) : pst := fun r S1 => HI S1 ∧ FR md_mo_applies__q S S1 ∧ (∃ z : Int, r = some (iv z) ∧ (0 ≤ z ∧ z ≤ 1) ∧ (z = 1 → Xi S 978 ri.toNat < 3 → Xi S 979 ri.toNat = action) ∧ (z = apR S ri action noun))
set_option maxRecDepth 100000 in
theorem t_mo_applies__q {S : sS} (hH : HI S) (ri : Int) (action : Int) (noun : Int) (hri : 0 ≤ ri ∧ ri ≤ 23) (haction : -1 ≤ action ∧ action ≤ 11) (hnoun : -1 ≤ noun ∧ noun ≤ 23) (hr : ri < Xi S 904 130) (hR : RULM S) (hD : DEFM S) (hB : ABV S) (hX : TXM S) (hn : Xi S 978 ri.toNat < 3 → 0 ≤ action → 0 ≤ Xi S 942 action.toNat → 0 ≤ noun) (h2 : noun < Xi S 904 19) (d : Nat) : Mt lay0 (d + 27) m_mo_applies [.ref 904, iv ri, iv action, iv noun] S (Q_mo_applies__q S ri action noun) := by sorry
end
section
/-! TURNS of the reference: what now makes so -/
def RNI (S T : sS) (r o b k m f g : Int) : Prop := ∀ x y : Int, 0 ≤ x → x < 24 → 0 ≤ y → y < 24 → ((y = b ∧ x < k ∧ f ≠ 0 ∧ x ≠ o) ∨ (x = o ∧ y < m ∧ g ≠ 0 ∧ y ≠ b) → Xi T 940 (576 * r + 24 * x + y).toNat = 0) ∧ (¬ ((y = b ∧ x < k ∧ f ≠ 0 ∧ x ≠ o) ∨ (x = o ∧ y < m ∧ g ≠ 0 ∧ y ≠ b)) → Xi T 940 (576 * r + 24 * x + y).toNat = Xi S 940 (576 * r + 24 * x + y).toNat)
def RNO (S T : sS) (r : Int) : Prop := (∀ j : Nat, (j : Int) < 576 * r ∨ 576 * r + 576 ≤ (j : Int) → Xi T 940 j = Xi S 940 j) ∧ FR [(940, 941, 0, 100000)] S T
theorem rni_0 {S : sS} {r o b f g : Int} : RNI S S r o b 0 0 f g := by sorry
theorem rno_0 {S : sS} {r : Int} : RNO S S r := by sorry
theorem rno_w {S T U : sS} {r i v : Int} (h : RNO S T r) (e : U = uI T 940 i.toNat (Int32.ofInt v)) (hr : 0 ≤ r ∧ r ≤ 5) (hi : 576 * r ≤ i ∧ i < 576 * r + 576) : RNO S U r := by sorry
theorem rni_a {S T U : sS} {r o b k m f g v : Int} (h : RNI S T r o b k m f g) (hr : 0 ≤ r) (hk : 0 ≤ k ∧ k < 24) (hb : 0 ≤ b ∧ b < 24) (h01 : ∀ j : Nat, 0 ≤ Xi T 940 j ∧ Xi T 940 j ≤ 1)
    (e1 : U = uI T 940 (576 * r + 24 * k + b).toNat (Int32.ofInt v)) (hv : (v = 1 ∧ Xi T 940 (576 * r + 24 * k + b).toNat ≠ 0 ∧ (f = 0 ∨ k = o)) ∨ (v = 0 ∧ (Xi T 940 (576 * r + 24 * k + b).toNat = 0 ∨ (f ≠ 0 ∧ k ≠ o)))) : RNI S U r o b (k + 1) m f g := by sorry
theorem rni_b {S T U : sS} {r o b k m f g v : Int} (h : RNI S T r o b k m f g) (hr : 0 ≤ r) (hk : 0 ≤ m ∧ m < 24) (ho : 0 ≤ o ∧ o < 24) (h01 : ∀ j : Nat, 0 ≤ Xi T 940 j ∧ Xi T 940 j ≤ 1)
    (e1 : U = uI T 940 (576 * r + 24 * o + m).toNat (Int32.ofInt v)) (hv : (v = 1 ∧ Xi T 940 (576 * r + 24 * o + m).toNat ≠ 0 ∧ (g = 0 ∨ m = b)) ∨ (v = 0 ∧ (Xi T 940 (576 * r + 24 * o + m).toNat = 0 ∨ (g ≠ 0 ∧ m ≠ b)))) : RNI S U r o b k (m + 1) f g := by sorry
def RNZ (S W : sS) (r o b n f g : Int) : Prop := ∃ T : sS, RNI S T r o b n n f g ∧ RNO S T r ∧ W = uI T 940 (576 * r + 24 * o + b).toNat (Int32.ofInt 1)
def saR (S : sS) (o a nt : Int) : sS := uI (uI S 925 (24 * o + a).toNat (Int32.ofInt (if nt = 0 then 1 else 2))) 925 (24 * o + Xi S 922 a.toNat).toNat (Int32.ofInt (if nt = 0 then 2 else 1))
theorem sar_i {S U W : sS} {o a nt c v w : Int} (e1 : U = uI S 925 (24 * o + a).toNat (Int32.ofInt v)) (e2 : W = uI U 925 (24 * o + c).toNat (Int32.ofInt w)) (hc : c = Xi S 922 a.toNat) (h : (nt = 0 ∧ v = 1 ∧ w = 2) ∨ (nt ≠ 0 ∧ v = 2 ∧ w = 1)) : W = saR S o a nt := by sorry
def spR (S : sS) (o p v n : Int) : sS := uI (uI (uI S 930 (12 * o + p).toNat (Int32.ofInt 1)) 931 (12 * o + p).toNat (Int32.ofInt v)) 932 (12 * o + p).toNat (Int32.ofInt n)
theorem spr_i {S T U W : sS} {o p v n p2 v2 n2 : Int} (e1 : T = uI S 930 (12 * o + p).toNat (Int32.ofInt 1)) (e2 : U = uI T 931 (12 * o + p).toNat (Int32.ofInt v)) (e3 : W = uI U 932 (12 * o + p).toNat (Int32.ofInt n)) (hp : p = p2) (hv : v = v2) (hn : n = n2) : W = spR S o p2 v2 n2 := by sorry
/-- what now makes so: relation; adjective; value as an adjective; property -/
def NOW (S W : sS) (q : Nat) (noun : Int) : Prop := (Xi S 969 q = 5 ∧ RNZ S W (Xi S 972 q) (thR (-1) noun (Xi S 971 q)) (thR (-1) noun (Xi S 975 q)) (Xi S 904 19) (Xi S 938 (Xi S 972 q).toNat) (Xi S 939 (Xi S 972 q).toNat)) ∨
  (Xi S 969 q = 3 ∧ Xi S 973 q < 100 ∧ W = saR S (thR (-1) noun (Xi S 971 q)) (Xi S 973 q) (Xi S 970 q)) ∨
  (Xi S 969 q = 3 ∧ 100 ≤ Xi S 973 q ∧ W = spR S (thR (-1) noun (Xi S 971 q)) (Xi S 973 q % 100) (Xi S 973 q / 100 - 1) 0) ∨
  (Xi S 969 q ≠ 5 ∧ Xi S 969 q ≠ 3 ∧ W = spR S (thR (-1) noun (Xi S 971 q)) (Xi S 972 q) (Xi S 973 q) (Xi S 974 q))

def md_mo_nows__q : List rec := [(925, 926, 0, 100000), (930, 931, 0, 100000), (931, 932, 0, 100000), (932, 933, 0, 100000), (940, 941, 0, 100000)]
abbrev Q_mo_nows__q (S : sS) (q : Int) (noun : Int) : pst := fun r S1 => HI S1 ∧ FR md_mo_nows__q S S1 ∧ (r = none ∧ (TXM S1) ∧ (NOW S S1 q.toNat noun))
set_option maxRecDepth 100000 in
theorem t_mo_nows__q {S : sS} (hH : HI S) (q : Int) (noun : Int) (hq : 0 ≤ q ∧ q ≤ 2399) (hnoun : -1 ≤ noun ∧ noun ≤ 23) (hk : NQ S (0 ≤ noun) q.toNat) (h2 : noun < Xi S 904 19) (hX : TXM S) (d : Nat) : Mt lay0 (d + 2) m_mo_nows [.ref 904, iv q, iv noun] S (Q_mo_nows__q S q noun) := by sorry
end
end
section
section
/-! ACTS of both keep the relation -/
/-- one component changes, the others stay -/
theorem rlb_p {U U1 S S1 : sS} (a : RLB U S) (k : KEP [(2, 20), (21, 24), (25, 65), (189, 195), (196, 220), (221, 876), (883, 888), (902, 904)] cBv U U1) (q : KEP [(906, 907), (912, 930), (933, 950), (969, 988)] cBw S S1) (h13 : RPR U1 S1) : RLB U1 S1 := by sorry
theorem rlb_a {U U1 S S1 : sS} (a : RLB U S) (k : KEP [(2, 20), (21, 24), (66, 106), (107, 147), (148, 188), (189, 195), (196, 220), (221, 876), (883, 888), (902, 904)] cBv U U1) (q : KEP [(906, 907), (912, 925), (926, 950), (969, 988)] cBw S S1) (h12 : RAQ U1 S1) : RLB U1 S1 := by sorry
theorem rlb_b {U U1 S S1 : sS} (a : RLB U S) (k : KEP [(2, 20), (21, 24), (25, 65), (66, 106), (107, 147), (148, 188), (196, 220), (221, 876), (883, 888), (902, 904)] cBv U U1) (q : KEP [(906, 907), (912, 940), (941, 950), (969, 988)] cBw S S1) (h8 : RBT U1 S1) : RLB U1 S1 := by sorry
theorem rlb_o {U U1 S S1 : sS} (a : RLB U S) (k : KEP [(2, 20), (21, 22), (25, 65), (66, 106), (107, 147), (148, 188), (189, 195), (196, 220), (221, 876), (883, 888), (902, 904)] cBv U U1) (q : KEP [(906, 907), (912, 919), (921, 950), (969, 988)] cBw S S1) (h10 : ROB U1 S1) : RLB U1 S1 := by sorry
/-- a property is set -/
theorem sp_g {U S B : sS} {o p v l v2 l2 : Int} (h : RLB U S) (ho : 0 ≤ o ∧ o < Xi U 5 2) (hp : 0 ≤ p ∧ p < Xi U 5 5) (hv : VLQ U S p v l v2 l2) (rv : rg v ∧ rg l) (G : KEP [(906, 907), (912, 930), (933, 950), (969, 988)] cBw S B) (b0 : Xi B 930 (12 * o + p).toNat = 1) (b1 : Xi B 931 (12 * o + p).toNat = v2) (b2 : Xi S 928 p.toNat = 1 → Xi B 932 (12 * o + p).toNat = l2) (nB : ∀ j : Nat, j ≠ (12 * o + p).toNat → Xi B 930 j = Xi S 930 j ∧ Xi B 931 j = Xi S 931 j ∧ Xi B 932 j = Xi S 932 j) : RLB (spF U o p v l) B := by sorry
theorem sp_r {U S : sS} {o p v l v2 l2 : Int} (h : RLB U S) (ho : 0 ≤ o ∧ o < Xi U 5 2) (hp : 0 ≤ p ∧ p < Xi U 5 5) (hv : VLQ U S p v l v2 l2) (rv : rg v ∧ rg l ∧ rg v2 ∧ rg l2) : RLB (spF U o p v l) (spR S o p v2 l2) := by sorry
/-- an adjective is set -/
theorem sa_r {U S : sS} {o a h nt : Int} (hR : RLB U S) (ho : 0 ≤ o ∧ o < Xi U 5 2) (ha : 0 ≤ a ∧ a < Xi U 5 3) (hi : h = 0 ↔ nt ≠ 0) (hc : Xi S 922 a.toNat ≠ -1) : RLB (saF U o a h) (saR S o a nt) := by sorry
/-- something is put somewhere -/
theorem pl_b {U S : sS} {o h w : Int} (a : RLB U S) (ho : 0 ≤ o ∧ o < Xi U 5 2) (hh : 1 ≤ h ∧ h ≤ 5) (hw : 0 ≤ w ∧ w < Xi U 5 2) : RLB (plO U o h w) (uI (uI S 919 o.toNat (Int32.ofInt h)) 920 o.toNat (Int32.ofInt w)) := by sorry
theorem wi_r {U S : sS} {o x : Int} (ob : ROB U S) (h : -1 ≤ o ∧ o < Xi U 5 2) : isW U o x = wiR S o x := by sorry
theorem mv_r {U S : sS} {a b : Int} (h : RLB U S) (ha : 0 ≤ a ∧ a < Xi U 5 2) (hb : 0 ≤ b ∧ b < Xi U 5 2) : RLB (mvF U a b) (mvR S a b) := by sorry
/-! ACTS of both: relations, added numbers, what now makes so -/
theorem gb_not {x b p : Int} (hp : 0 ≤ p ∧ p < 32) (hb : 0 ≤ b ∧ b < 32) : gb (iandF x (ixorF (ishlF 1 b) (-1))) p = (gb x p && !decide (p = b)) := by sorry
theorem iand_r {x y : Int} : rg (iandF x y) := by sorry
theorem ior_r {x y : Int} : rg (iorF x y) := by sorry
/-- rows of a relation in the class, while it is made anew -/
theorem rn1_g {U : sS} {r a : Int} {x : Nat} {y : Int} (h0 : 0 ≤ a) : gb (Xi (rn1 U r a) (189 + r.toNat) x) y = if Xi U 17 r.toNat ≠ 0 ∧ (x : Int) = a then false else gb (Xi U (189 + r.toNat) x) y := by sorry
theorem rn2_g {U : sS} {r b : Int} {x : Nat} {y : Int} (hy : 0 ≤ y ∧ y < 32) (hb : 0 ≤ b ∧ b < 32) : ∀ n : Nat, gb (Xi (rn2 U r b n) (189 + r.toNat) x) y = if Xi U 16 r.toNat ≠ 0 ∧ x < n ∧ y = b then false else gb (Xi U (189 + r.toNat) x) y := by sorry
theorem rn2_o {U : sS} {r b : Int} {c : Nat} (h : c ≠ 189 + r.toNat) (j : Nat) : ∀ n : Nat, Xi (rn2 U r b n) c j = Xi U c j := by sorry
theorem rn1_o {U : sS} {r a : Int} {c : Nat} (h : c ≠ 189 + r.toNat) (j : Nat) : Xi (rn1 U r a) c j = Xi U c j := by sorry
theorem rnF_o {U : sS} {r a b : Int} {c : Nat} (h : c ≠ 189 + r.toNat) (j : Nat) : Xi (rnF U r a b) c j = Xi U c j := by sorry
theorem rnF_g {U : sS} {r a b : Int} {x : Nat} {y : Int} (ha : 0 ≤ a) (hx : x < 24) (hy : 0 ≤ y ∧ y < 32) (hb : 0 ≤ b ∧ b < 32) (hr : 0 ≤ r ∧ r < 6) : gb (Xi (rnF U r a b) (189 + r.toNat) x) y = if (x : Int) = a ∧ y = b then true else if (Xi U 16 r.toNat ≠ 0 ∧ y = b) ∨ (Xi U 17 r.toNat ≠ 0 ∧ (x : Int) = a) then false else gb (Xi U (189 + r.toNat) x) y := by sorry
theorem fr_rn1 {U : sS} {r a : Int} (hr : 0 ≤ r ∧ r < 6) (ha : 0 ≤ a ∧ a < 24) : FR lRW U (rn1 U r a) := by sorry
theorem fr_rn2 {U : sS} {r b : Int} (hr : 0 ≤ r ∧ r < 6) : ∀ n : Nat, n ≤ 24 → FR lRW U (rn2 U r b n) := by sorry
theorem fr_rnF {U : sS} {r a b : Int} (hr : 0 ≤ r ∧ r < 6) (ha : 0 ≤ a ∧ a < 24) : FR lRW U (rnF U r a b) := by sorry
/-- a relation is made anew, in both -/
theorem rn_r {U S W : sS} {r a b : Int} (h : RLB U S) (hr : 0 ≤ r ∧ r < Xi U 5 6) (ha : 0 ≤ a ∧ a < Xi U 5 2) (hb : 0 ≤ b ∧ b < Xi U 5 2) (G : KEP [(906, 907), (912, 940), (941, 950), (969, 988)] cBw S W) (z : RNZ S W r a b (Xi S 904 19) (Xi S 938 r.toNat) (Xi S 939 r.toNat)) : RLB (rnF U r a b) W := by sorry
/-- numbers are added -/
theorem ads_r {U S W : sS} {o p t : Int} (h : RLB U S) (ho : 0 ≤ o ∧ o < Xi U 5 2) (hp : 0 ≤ p ∧ p < Xi U 5 5) (h9 : Xi U 9 p.toNat = 0) (F : FR [(904, 905, 154, 155), (930, 931, 0, 100000), (931, 932, 0, 100000)] S W) (z : ADR S W (12 * o + p).toNat (clW (adW (nuR S o p) t))) : RLB (spF U o p (clW (adW (vof U o p.toNat) t)) 0) W := by sorry
end
section
/-! PHRASES of both: now, move, more and less -/
def lCA : List rec := [(22, 24, 0, 100000), (25, 65, 0, 100000), (66, 106, 0, 100000), (107, 147, 0, 100000), (148, 188, 0, 100000), (189, 195, 0, 100000)]
theorem now_s {U S W : sS} {q cl : Nat} {fm n w h t g m noun : Int} {cnd : Prop} {tr : sS → Int → Int → sS} (a : RLB U S) (c : CLM U cl fm n w h t g m) (f : TQF U S q 53 fm n w h t g m) (nq : NQ S cnd q) (hs : (w = -2 → 0 ≤ noun ∧ noun < Xi U 5 2) ∧ (fm = 6 → m = -2 → 0 ≤ noun ∧ noun < Xi U 5 2)) (F : FR [(925, 926, 0, 100000), (930, 931, 0, 100000), (931, 932, 0, 100000), (932, 933, 0, 100000), (940, 941, 0, 100000)] S W) (z : NOW S W q noun) : RLB (pfF tr U cl noun) W ∧ FR lCA U (pfF tr U cl noun) := by sorry
theorem mov_s {U S : sS} {q cl : Nat} {n w h t g m noun : Int} {tr : sS → Int → Int → sS} (a : RLB U S) (c : CLM U cl 8 n w h t g m) (f1 : TMK 53 (Xi U 5 2) w (Xi S 971 q)) (f2 : TMK 53 (Xi U 5 2) m (Xi S 975 q)) (hs : (w = -2 → 0 ≤ noun ∧ noun < Xi U 5 2) ∧ (m = -2 → 0 ≤ noun ∧ noun < Xi U 5 2)) : RLB (pfF tr U cl noun) (mvR S (thR (-1) noun (Xi S 971 q)) (thR (-1) noun (Xi S 975 q))) ∧ FR lCA U (pfF tr U cl noun) := by sorry
theorem add_s {U S W : sS} {q cl : Nat} {n w h t g m noun : Int} {tr : sS → Int → Int → sS} (a : RLB U S) (c : CLM U cl 9 n w h t g m) (f1 : TMK 53 (Xi U 5 2) w (Xi S 971 q)) (f2 : Xi S 972 q = h) (hh : 0 ≤ h ∧ h < Xi U 5 5) (h9 : Xi U 9 h.toNat = 0) (hs : w = -2 → 0 ≤ noun ∧ noun < Xi U 5 2) (F : FR [(904, 905, 154, 155), (930, 931, 0, 100000), (931, 932, 0, 100000)] S W) (z : ADR S W (12 * thR (-1) noun (Xi S 971 q) + Xi S 972 q).toNat (clW (adW (nuR S (thR (-1) noun (Xi S 971 q)) (Xi S 972 q)) t))) : RLB (pfF tr U cl noun) W ∧ FR lCA U (pfF tr U cl noun) := by sorry
/-! whether a rule applies, in both -/
theorem alT_a {f : Nat → Int} : ∀ (n m i : Nat), alT f (n + m) i = if alT f n i = 0 then 0 else alT f m (i + n) := by sorry
theorem alT_b {f g : Nat → Int} {c d : Nat} : ∀ (n i : Nat), (∀ k : Nat, i ≤ k → k < i + n → (f (c + k) = 0 ∧ g (d + k) = 0) ∨ (f (c + k) = 1 ∧ g (d + k) = 1)) → alT f n (c + i) = alT g n (d + i) := by sorry
theorem whU_n {a b w : Int} (h : w ≠ -2) : whU a w = whU b w := by sorry
theorem hoC_n {ah : Int → Int → Int} {U : sS} {cl : Nat} {a b : Int} (h1 : Xi U (276 + cl) 2 ≠ -2) (h2 : (Xi U (276 + cl) 0 < 0 ∨ 5 ≤ Xi U (276 + cl) 0) → Xi U (276 + cl) 6 ≠ -2) : hoC ah U cl a = hoC ah U cl b := by sorry
/-- an ADJECTIVE ahead of a rule's kind -/
theorem adh_s {U S : sS} {cl : Nat} {x o : Int} (a : RLB U S) (h40 : ∀ j : Nat, 0 ≤ Xi S 940 j ∧ Xi S 940 j ≤ 1) (h : ADH U U cl x) (ho : 0 ≤ o ∧ o < Xi U 5 2) : (hoC (ahC U 8) U cl o = 0 ∧ hoR S 8 o x = 0) ∨ (hoC (ahC U 8) U cl o = 1 ∧ hoR S 8 o x = 1) := by sorry
/-- noun of the class, noun of the reference, for an action -/
def NNR (U : sS) (a no o : Int) : Prop := (o = no ∧ 0 ≤ o ∧ o < Xi U 5 2) ∨ (o = -1 ∧ (a < 0 ∨ Xi U 19 a.toNat < 0))
theorem nnr_n {U S : sS} {r : Nat} {a no o : Int} (ac : RVA U S) (a8 : a < Xi U 5 8) (e : Xi S 979 r = a) (hn : NNR U a no o) (h : nM S r) : o = no ∧ 0 ≤ o ∧ o < Xi U 5 2 := by sorry
theorem nnr_w {S : sS} {sk n w t : Int} {c : Prop} (h : TMK sk n w t) (k : thK S False c t) (s : sk ≠ 54) (hw : w = -2) : c := by sorry
/-- one test of a rule, in both -/
theorem rtest_s {U S : sS} {r q cl : Nat} {a no o : Int} (hA : RLB U S) (h40 : ∀ j : Nat, 0 ≤ Xi S 940 j ∧ Xi S 940 j ≤ 1) (a8 : a < Xi U 5 8) (e : Xi S 979 r = a) (hn : NNR U a no o) (tq : TQ S False (nM S r) q) (pl : Xi S 969 q = 4 → Xi S 975 q = -2 → nM S r) (h : TQR U S cl q 53) : (hoC (ahC U 8) U cl no = 0 ∧ teR (hoR S 8) S q (-1) o = 0) ∨ (hoC (ahC U 8) U cl no = 1 ∧ teR (hoR S 8) S q (-1) o = 1) := by sorry
/-- whether a rule applies, in both -/
def PLM (S : sS) : Prop := ∀ r : Nat, (r : Int) < Xi S 904 130 → ∀ k : Nat, (k : Int) < Xi S 985 r → Xi S 969 ((Xi S 984 r).toNat + k) = 4 → Xi S 975 ((Xi S 984 r).toNat + k) = -2 → nM S r
theorem ap_t {U S : sS} {r : Nat} {aa no o : Int} (hA : RLB U S) (h40 : ∀ j : Nat, 0 ≤ Xi S 940 j ∧ Xi S 940 j ≤ 1) (hR : RULM S) (pl : PLM S) (hr : (r : Int) < Xi U 246 2) (h8 : aa < Xi U 5 8) (e : Xi S 979 r = aa) (hn : NNR U aa no o) : alT (fun i => hoC (ahC U 8) U ((Xi U (248 + r) 7).toNat + i) no) (Xi S 985 r).toNat (Xi U (248 + r) 4).toNat = alT (fun i => teR (hoR S 8) S ((Xi S 984 r).toNat + i) (-1) o) (Xi S 985 r).toNat 0 := by sorry
theorem ap_d {U S : sS} {r : Nat} {a no o : Int} (hA : RLB U S) (h40 : ∀ j : Nat, 0 ≤ Xi S 940 j ∧ Xi S 940 j ≤ 1) (hR : RULM S) (hr : (r : Int) < Xi U 246 2) (h8 : a < Xi U 5 8) (e : Xi S 979 r = a) (hn : NNR U a no o) (ad : ∀ i : Nat, (i : Int) < Xi S 982 r → ADH U U ((Xi U (248 + r) 7).toNat + i) (Xi S 983 (6 * r + i))) : alT (fun i => hoC (ahC U 8) U ((Xi U (248 + r) 7).toNat + i) no) (Xi S 982 r).toNat 0 = alT (fun i => hoR S 8 o (Xi S 983 (6 * r + i))) (Xi S 982 r).toNat 0 := by sorry
theorem ap_h {U S : sS} {a no o aa oo kk : Int} (hA : RLB U S) (hn : NNR U a no o) (q5 : oo ≠ -1 ∨ kk ≠ -1 → 0 ≤ Xi U 19 aa.toNat) (h0 : 0 ≤ a) : (aa ≠ a ∨ (oo ≠ -1 ∧ oo ≠ no) ∨ (kk ≠ -1 ∧ isK U (Xi U 21 no.toNat) kk = 0)) ↔ (aa ≠ a ∨ (oo ≠ -1 ∧ oo ≠ o) ∨ (kk ≠ -1 ∧ blR S (Xi S 918 o.toNat) kk = 0)) := by sorry
theorem ap_3 {U S : sS} {r : Nat} {b : Int} (hA : RLB U S) (h40 : ∀ j : Nat, 0 ≤ Xi S 940 j ∧ Xi S 940 j ≤ 1) (hR : RULM S) (pl : PLM S) (hr : (r : Int) < Xi U 246 2) (h3 : Xi S 978 r = 3) : apC U r (-1) (-1) = apR S r b (-1) := by sorry
theorem ap_r {U S : sS} {r : Nat} {a no o : Int} (hA : RLB U S) (h40 : ∀ j : Nat, 0 ≤ Xi S 940 j ∧ Xi S 940 j ≤ 1) (hR : RULM S) (pl : PLM S) (hr : (r : Int) < Xi U 246 2) (h3 : Xi S 978 r ≠ 3) (a0 : 0 ≤ a) (a8 : a < Xi U 5 8) (hn : NNR U a no o) : apC U r a no = apR S r a o := by sorry
end
section
/-! NAMES: letters of the reference's words -/
theorem sr_k {x : Int} (h0 : 0 ≤ x) (h1 : x < 9223372036854775808) (s : Nat) (A : Int64) (e : A.toBitVec = (BitVec.ofInt 64 x).sshiftRight s) : A.toInt = x / 2 ^ s := by sorry
theorem sr5 {x v : Int} (h0 : 0 ≤ x) (h1 : x < 9223372036854775808) (hv : 0 ≤ v ∧ v ≤ 12) : lshrF x (5 * v) = x / 32 ^ v.toNat := by sorry
theorem la31 {x : Int} (h0 : 0 ≤ x) (h1 : x < 9223372036854775808) : landF x 31 = x % 32 := by sorry
/-- how many letters a word of the reference has; its letters -/
def l5F : Nat → Int → Int
  | 0, _ => 0
  | f + 1, w => if w < 32 then 1 else 1 + l5F f (w / 32)
def l5 (w : Int) : Int := l5F 12 w
def lR (w k : Int) : Int := if k < l5 w then 96 + w / 32 ^ (l5 w - 1 - k).toNat % 32 else -1
def DG5 (w : Int) (n : Int) : Prop := (1 ≤ n ∧ n ≤ 12) ∧ 32 ^ (n - 1).toNat ≤ w ∧ w < 32 ^ n.toNat
def SH5 (w v : Int) : Prop := 0 < v → w / 32 ^ (v - 1).toNat ≠ 0
theorem p32_p (k : Nat) : (0 : Int) < 32 ^ k := by sorry
theorem p32_m {a : Nat} : ∀ d : Nat, (32 : Int) ^ a ≤ 32 ^ (a + d) := by sorry
theorem p32_l {a b : Nat} (h : a ≤ b) : (32 : Int) ^ a ≤ 32 ^ b := by sorry
theorem l5F_d : ∀ (f : Nat) (w : Int), 0 < w → w < 32 ^ f → 1 ≤ l5F f w ∧ l5F f w ≤ f ∧ 32 ^ (l5F f w - 1).toNat ≤ w ∧ w < 32 ^ (l5F f w).toNat := by sorry
theorem l5_d {w : Int} (h0 : 0 < w) (h : w < 1152921504606846976) : DG5 w (l5 w) := by sorry
theorem sh5_u {w n v : Int} (h : DG5 w n) (s : SH5 w v) (h0 : 0 ≤ v) (q : v = 12 ∨ (v ≤ 12 ∧ w / 32 ^ v.toNat = 0)) : v = n := by sorry
theorem lR_y {w v k z : Int} (hv : v = l5 w) (hk : k < v) (hz : z = 96 + w / 32 ^ (v - 1 - k).toNat % 32) : z = lR w k := by sorry
theorem lR_n {w v k : Int} (hv : v = l5 w) (hk : v ≤ k) : -1 = lR w k := by sorry
theorem lR_p {w k : Int} : (k < l5 w → 96 ≤ lR w k ∧ lR w k ≤ 127) ∧ (l5 w ≤ k → lR w k = -1) := by sorry
/-- bytes of a name of m words -/
def nbW (len : Nat → Int) (ch : Nat → Int → Int) : Nat → Nat → Int → Int
  | 0, _, _ => -1
  | m + 1, j, l => if l < len j then ch j l else if l - len j = 0 then (if m = 0 then -1 else 32) else nbW len ch m (j + 1) (l - len j - 1)
def lnR (S : sS) (lex : Int) (j : Nat) : Int := l5 (Xj S 913 (3 * lex.toNat + j))
def chlR (S : sS) (lex : Int) (j : Nat) (l : Int) : Int := lR (Xj S 913 (3 * lex.toNat + j)) l
def byR (S : sS) (lex k : Int) : Int := nbW (lnR S lex) (chlR S lex) (Xi S 912 lex.toNat - 0).toNat (0 : Int).toNat k
theorem nbw_e {len : Nat → Int} {ch : Nat → Int → Int} {n v l : Int} {j : Nat} (h : n ≤ v) : nbW len ch (n - v).toNat j l = -1 := by sorry
theorem nbw_1 {len : Nat → Int} {ch : Nat → Int → Int} {n v l z : Int} (hv : 0 ≤ v ∧ v < n) (h : l < len v.toNat) (hz : z = ch v.toNat l) : nbW len ch (n - v).toNat v.toNat l = z := by sorry
theorem nbw_2 {len : Nat → Int} {ch : Nat → Int → Int} {n v l : Int} (hv : 0 ≤ v ∧ v + 1 < n) (h : l = len v.toNat) : nbW len ch (n - v).toNat v.toNat l = 32 := by sorry
theorem nbw_3 {len : Nat → Int} {ch : Nat → Int → Int} {n v l : Int} (hv : 0 ≤ v ∧ v + 1 = n) (h : l = len v.toNat) : nbW len ch (n - v).toNat v.toNat l = -1 := by sorry
theorem nbw_4 {len : Nat → Int} {ch : Nat → Int → Int} {n v l m : Int} (hv : 0 ≤ v ∧ v < n) (h : len v.toNat < l) (hm : m = l - len v.toNat - 1) : nbW len ch (n - v).toNat v.toNat l = nbW len ch (n - (v + 1)).toNat (v + 1).toNat m := by sorry
/-- the bytes of a name as a list -/
def bnL (g : Nat → Int) : Nat → Nat → List Int
  | 0, _ => []
  | f + 1, k => if g k = -1 then [] else g k :: bnL g f (k + 1)
theorem bnl_e {g : Nat → Int} {v : Int} (hv : 0 ≤ v) (h : g v.toNat = -1) : bnL g (42 - v).toNat v.toNat = [] := by sorry
theorem bnl_s {g : Nat → Int} {v b : Int} (hv : 0 ≤ v ∧ v < 42) (hb : b = g v.toNat) (h : b ≠ -1) : bnL g (42 - v).toNat v.toNat = b :: bnL g (42 - (v + 1)).toNat (v + 1).toNat := by sorry
def PLXR (S T : sS) (lex v : Int) : Prop := ∃ L : List Int, OUP 993 904 156 S T L ∧ L ++ bnL (fun k => byR S lex k) (42 - v).toNat v.toNat = bnL (fun k => byR S lex k) 42 0

/-! NAMES, properties as the reference writes them -/
def WDX (S : sS) (lex : Int) : Prop := (∀ j : Nat, (j : Int) < Xi S 912 lex.toNat → 0 < Xj S 913 (3 * lex.toNat + j) ∧ Xj S 913 (3 * lex.toNat + j) < 1152921504606846976) ∧ Xi S 916 lex.toNat = 0
theorem wdx_f {S T : sS} {lex : Int} (a : ∀ j, Xi T 912 j = Xi S 912 j) (b : ∀ j, Xj T 913 j = Xj S 913 j) (c : ∀ j, Xi T 916 j = Xi S 916 j) (h : WDX S lex) : WDX T lex := by sorry
theorem byR_f {S T : sS} {lex k : Int} (a : ∀ j, Xi T 912 j = Xi S 912 j) (b : ∀ j, Xj T 913 j = Xj S 913 j) : byR T lex k = byR S lex k := by sorry
theorem plx_0 {S : sS} {lex : Int} (h : 0 ≤ Xi S 904 156 ∧ Xi S 904 156 ≤ 2000) : PLXR S S lex 0 := by sorry
theorem plx_s {S T U : sS} {lex v b : Int} (h : PLXR S T lex v) (hO : 0 ≤ Xi S 904 156 ∧ Xi S 904 156 ≤ 2000) (hv : 0 ≤ v ∧ v < 42) (hb : b = byR S lex v) (hn : b ≠ -1) (o : OUP 993 904 156 T U [b]) : PLXR S U lex (v + 1) := by sorry
theorem plx_e {S T : sS} {lex v : Int} (h : PLXR S T lex v) (hv : 0 ≤ v) (hb : byR S lex v = -1) : OUP 993 904 156 S T (bnL (fun k => byR S lex k) 42 0) := by sorry
def NMWD (S : sS) : Prop := ∀ k : Nat, (k : Int) < Xi S 904 15 → (Xi S 914 k = 4 ∨ Xi S 914 k = 6) → WDX S k
/-- what is written of the name (so, ix) -/
def NMRL (S T : sS) (so ix : Int) : Prop := (∀ k : Nat, (k : Int) < Xi S 904 15 → Xi S 914 k = so → Xi S 915 k = ix → (∀ l : Nat, (l : Int) < Xi S 904 15 → Xi S 914 l = so → Xi S 915 l = ix → l = k) → OUP 993 904 156 S T (bnL (fun i => byR S k i) 42 0)) ∧ (¬ lxH S so ix → OUP 993 904 156 S T [])
theorem nmr_i {S T : sS} {so ix z : Int} (hz : -1 ≤ z) (n : z = -1 → ¬ lxH S so ix) (y : z ≠ -1 → z < Xi S 904 15 ∧ Xi S 914 z.toNat = so ∧ Xi S 915 z.toNat = ix) (o : z ≠ -1 → OUP 993 904 156 S T (bnL (fun i => byR S z i) 42 0)) (oe : z = -1 → OUP 993 904 156 S T []) : NMRL S T so ix := by sorry
theorem nmr_f {S W T : sS} {so ix : Int} (h : NMRL W T so ix) (f : FR [(904, 905, 154, 155)] S W) : NMRL S T so ix := by sorry
/-- what is written of a property -/
def PRLO (S T : sS) (o p : Int) : Prop := (Xi S 928 p.toNat = 0 → OUP 993 904 156 S T (nmL (nuR S o p))) ∧ (Xi S 928 p.toNat = 1 → OUP 993 904 156 S T (txL S 906 (nuR S o p) (nlR S o p).toNat)) ∧ (Xi S 928 p.toNat ≠ 0 → Xi S 928 p.toNat ≠ 1 → (nuR S o p = -1 → OUP 993 904 156 S T []) ∧ (nuR S o p ≠ -1 → NMRL S T 6 (nuR S o p)))
theorem nmw_f {S T : sS} (f : FR [(904, 905, 154, 155)] S T) (h : NMWD S) : NMWD T := by sorry
abbrev Q_mo_letterOf__q (S : sS) (w : Int) (k : Int) : pst := fun r S1 => S = S1 ∧ (∃ z : Int, r = some (iv z) ∧ (-2147483648 ≤ z ∧ z ≤ 2147483647) ∧ (z ≠ -1 → k < 12) ∧ (z = lR w k))
set_option maxRecDepth 100000 in
theorem t_mo_letterOf__q {S : sS} (hH : HI S) (w : Int) (k : Int) (hk : 0 ≤ k ∧ k ≤ 2147483647) (hw : 0 < w ∧ w < 1152921504606846976) (d : Nat) : Mt lay0 (d + 1) m_mo_letterOf [jw w, iv k] S (Q_mo_letterOf__q S w k) := by sorry
abbrev Q_mo_byteOf__q (S : sS) (lex : Int) (k : Int) : pst := fun r S1 => S = S1 ∧ (∃ z : Int, r = some (iv z) ∧ (-2147483648 ≤ z ∧ z ≤ 2147483647) ∧ (z ≠ -1 → k ≤ 40) ∧ (z = byR S lex k))
set_option maxRecDepth 100000 in
theorem t_mo_byteOf__q {S : sS} (hH : HI S) (lex : Int) (k : Int) (hlex : 0 ≤ lex ∧ lex ≤ 299) (hk : 0 ≤ k ∧ k ≤ 2147483647) (hwd : ∀ j : Nat, (j : Int) < Xi S 912 lex.toNat → 0 < Xj S 913 (3 * lex.toNat + j) ∧ Xj S 913 (3 * lex.toNat + j) < 1152921504606846976) (hlg : Xi S 916 lex.toNat = 0) (d : Nat) : Mt lay0 (d + 2) m_mo_byteOf [.ref 904, iv lex, iv k] S (Q_mo_byteOf__q S lex k) := by sorry
def md_mo_putLex__q : List rec := [(904, 905, 156, 157), (993, 994, 0, 100000)]
abbrev Q_mo_putLex__q (S : sS) (lex : Int) : pst := fun r S1 => HI S1 ∧ FR md_mo_putLex__q S S1 ∧ (r = none ∧ (lex ≠ -1 → OUP 993 904 156 S S1 (bnL (fun k => byR S lex k) 42 0)) ∧ (lex = -1 → OUP 993 904 156 S S1 []))
set_option maxRecDepth 100000 in
theorem t_mo_putLex__q {S : sS} (hH : HI S) (lex : Int) (hlex : -1 ≤ lex ∧ lex ≤ 299) (hwx : lex ≠ -1 → WDX S lex) (hd : Xi S 904 157 = 0) (d : Nat) : Mt lay0 (d + 3) m_mo_putLex [.ref 904, iv lex] S (Q_mo_putLex__q S lex) := by sorry
def md_mo_putProperty__q : List rec := [(904, 905, 154, 155), (904, 905, 156, 157), (993, 994, 0, 100000)]
abbrev Q_mo_putProperty__q (S : sS) (o : Int) (p : Int) : pst := fun r S1 => HI S1 ∧ FR md_mo_putProperty__q S S1 ∧ (r = none ∧ (PRLO S S1 o p))
set_option maxRecDepth 100000 in
theorem t_mo_putProperty__q {S : sS} (hH : HI S) (o : Int) (p : Int) (ho : 0 ≤ o ∧ o ≤ 23) (hp : 0 ≤ p ∧ p ≤ 11) (hB : ABV S) (hX : TXM S) (ho : o < Xi S 904 19) (hnw : NMWD S) (hd : Xi S 904 157 = 0) (d : Nat) : Mt lay0 (d + 4) m_mo_putProperty [.ref 904, iv o, iv p] S (Q_mo_putProperty__q S o p) := by sorry
end
section
/-! NAMES of both are alike -/
theorem lnF_d : ∀ (f : Nat) (w : Int), 0 < w → w < 27 ^ f → 1 ≤ lnF f w ∧ lnF f w ≤ f ∧ 27 ^ (lnF f w - 1).toNat ≤ w ∧ w < 27 ^ (lnF f w).toNat := by sorry
theorem dg5_u {w a b : Int} (h : DG5 w a) (g : DG5 w b) : a = b := by sorry
theorem cvN_d : ∀ (j m : Nat) (w : Int), 0 ≤ w → j < m → cvN m w / 32 ^ j % 32 = w / 27 ^ j % 27 := by sorry
theorem cvN_t {w : Int} {n : Nat} (h0 : 0 ≤ w) (h : w < 27 ^ n) : ∀ d : Nat, cvN (n + d) w = cvN n w := by sorry
theorem cv_n {w : Int} (h : 0 < w) (g : cd7 w) (s : cv w < 1152921504606846976) : w < 27 ^ 12 := by sorry
theorem ln_cv {w : Int} (h : 0 < w) (g : w < 27 ^ 12) : l5 (cv w) = ln7 w ∧ 0 < cv w ∧ 1 ≤ ln7 w := by sorry
theorem ch_cv {w l : Int} (h : 0 < w) (g : w < 27 ^ 12) (hl : 0 ≤ l) (hl2 : l < ln7 w) : lR (cv w) l = ch7 w l := by sorry
/-- the class's name out of one entry -/
theorem nbs_none {U : sS} {so wh : Int} : ∀ (f i : Nat) (l : Int), (∀ j : Nat, i ≤ j → j < i + f → Xj U 2 j = 0 ∨ Xi U 3 (j / 3) ≠ so ∨ Xi U 4 (j / 3) ≠ wh) → nbS U so wh f i l = -1 := by sorry
theorem nbs_skip {U : sS} {so wh l : Int} (hl : 0 ≤ l) : ∀ (d f i : Nat), (∀ j : Nat, i ≤ j → j < i + d → Xj U 2 j = 0 ∨ Xi U 3 (j / 3) ≠ so ∨ Xi U 4 (j / 3) ≠ wh) → nbS U so wh (d + f) i l = nbS U so wh f (i + d) l := by sorry
theorem nbs_w {U : sS} {so wh : Int} {e : Nat} (h3 : Xi U 3 e = so) (h4 : Xi U 4 e = wh) : ∀ (m j f : Nat) (l : Int), 0 ≤ l → j + m ≤ 3 → 1 ≤ m → m ≤ f → (∀ t : Nat, j ≤ t → t < j + m → Xj U 2 (3 * e + t) ≠ 0) → (∀ t : Nat, 3 * e + j + m ≤ t → t < 3 * e + j + f → Xj U 2 t = 0 ∨ Xi U 3 (t / 3) ≠ so ∨ Xi U 4 (t / 3) ≠ wh) → nbS U so wh f (3 * e + j) (l + (if j = 0 then 0 else 1)) = nbW (fun t => ln7 (Xj U 2 (3 * e + t))) (fun t l => ch7 (Xj U 2 (3 * e + t)) l) m j l := by sorry
theorem nbw_c {len len2 : Nat → Int} {ch ch2 : Nat → Int → Int} : ∀ (m j : Nat) (l : Int), 0 ≤ l → (∀ t : Nat, j ≤ t → t < j + m → len t = len2 t ∧ 1 ≤ len2 t ∧ ∀ x : Int, 0 ≤ x → x < len2 t → ch t x = ch2 t x) → nbW len ch m j l = nbW len2 ch2 m j l := by sorry
theorem nmC_b {U : sS} {so wh : Int} : ∀ f k : Nat, nmC U so wh f k = bnL (fun k => nbC U so wh k) f k := by sorry
theorem nm_s {U S : sS} {k : Nat} (v : VOC U S) (us : USW U) (w : WDX S k) (hk : (k : Int) < Xi S 904 15) : bnL (fun i => byR S k i) 42 0 = nmQ U (sg7 (Xi S 914 k)) (Xi S 915 k) := by sorry
/-- names that the reference writes are the class's -/
theorem nmq_0 {U S : sS} {so ix : Int} (a : RVO U S) (hs : 0 ≤ so ∧ so ≤ 12) (h : ¬ lxH S so ix) : nmQ U (sg7 so) ix = [] := by sorry
theorem nmr_s {U S T : sS} {so ix : Int} (a : RVO U S) (w : NMWD S) (hs : so = 4 ∨ so = 6) (n : NMRL S T so ix) : OUP 993 904 156 S T (nmQ U (sg7 so) ix) := by sorry
/-- what is written of a property, in both -/
theorem pro_s {U S T : sS} {o p : Int} (a : RLB U S) (w : NMWD S) (ho : 0 ≤ o ∧ o < Xi U 5 2) (hp : 0 ≤ p ∧ p < Xi U 5 5) (h : PRLO S T o p) : OUP 993 904 156 S T (insL U o p) := by sorry
end
section
/-! what the first actions do, in the reference -/
abbrev l154 : List rec := [(904, 905, 154, 155)]
abbrev lPP : List rec := [(904, 905, 154, 155), (904, 905, 156, 157), (993, 994, 0, 100000)]
theorem wiN_x {S T : sS} {h : Int} (y : ∀ j, Xi T 919 j = Xi S 919 j) (x : ∀ j, Xi T 920 j = Xi S 920 j) : ∀ (n : Nat) (o : Int), wiN T h n o = wiN S h n o := by sorry
theorem hld_x {S T : sS} {o : Int} (x : ∀ j, Xi T 919 j = Xi S 919 j) (y : ∀ j, Xi T 920 j = Xi S 920 j) : HLD T o ↔ HLD S o := by sorry
abbrev BLK (S : sS) (n : Int) : Prop := n = 0 ∨ hoR S 8 n 0 ≠ 0 ∨ HLD S n ∨ wiR S 0 n ≠ 0
def goR (S : sS) (dir : Int) : Int := if Xi S 919 0 = 1 ∧ blR S (Xi S 918 (Xi S 920 0).toNat) 1 ≠ 0 then ldR S (Xi S 920 0) dir else -1
theorem goR_n {S : sS} {dir : Int} (h : ¬ (Xi S 919 0 = 1 ∧ blR S (Xi S 918 (Xi S 920 0).toNat) 1 ≠ 0)) : goR S dir = -1 := by sorry
theorem goR_y {S : sS} {dir z : Int} (h1 : Xi S 919 0 = 1) (h2 : blR S (Xi S 918 (Xi S 920 0).toNat) 1 ≠ 0) (e : z = ldR S (Xi S 920 0) dir) : goR S dir = z := by sorry
def DSR (S T : sS) (a n z : Int) : Prop :=
  (a = 1 ∧ ((BLK S n ∧ z = 0 ∧ FR l154 S T) ∨ (¬ BLK S n ∧ z = 1 ∧ ∃ W : sS, FR l154 S W ∧ T = uI (uI W 919 n.toNat (Int32.ofInt 4)) 920 n.toNat (Int32.ofInt 0)))) ∨
  (a = 2 ∧ ((¬ HLD S n ∧ z = 0 ∧ T = S) ∨ (HLD S n ∧ z = 1 ∧ T = uI (uI S 919 n.toNat (Int32.ofInt (Xi S 919 0))) 920 n.toNat (Int32.ofInt (Xi S 920 0))))) ∨
  (a = 3 ∧ z = 1 ∧ ∃ W : sS, PRLO S W n 0 ∧ FR lPP S W ∧ OUP 993 904 156 W T [10] ∧ FR lPP W T) ∨
  (a = 4 ∧ ((goR S n = -1 ∧ z = 0 ∧ T = uI S 920 0 (Int32.ofInt (Xi S 920 0))) ∨ (goR S n ≠ -1 ∧ z = 1 ∧ T = uI S 920 0 (Int32.ofInt (goR S n))))) ∨
  ((a < 1 ∨ 4 < a) ∧ z = 1 ∧ T = S)
theorem ds_1n {S T : sS} {a n z : Int} (ha : a = 1) (b : BLK S n) (hz : z = 0) (f : FR l154 S T) : DSR S T a n z := by sorry
theorem ds_1y {S W X T : sS} {a n z : Int} (ha : a = 1) (b : ¬ BLK S n) (hz : z = 1) (f : FR l154 S W) (e1 : X = uI W 919 n.toNat (Int32.ofInt 4)) (e2 : T = uI X 920 n.toNat (Int32.ofInt 0)) : DSR S T a n z := by sorry
theorem ds_2n {S : sS} {a n z : Int} (ha : a = 2) (b : ¬ HLD S n) (hz : z = 0) : DSR S S a n z := by sorry
theorem ds_2y {S X T : sS} {a n z u v : Int} (ha : a = 2) (b : HLD S n) (hz : z = 1) (e1 : X = uI S 919 n.toNat (Int32.ofInt u)) (e2 : T = uI X 920 n.toNat (Int32.ofInt v)) (hu : u = Xi S 919 0) (hv : v = Xi S 920 0) : DSR S T a n z := by sorry
theorem ds_3 {S W T : sS} {a n z : Int} (ha : a = 3) (hz : z = 1) (p : PRLO S W n 0) (f : FR lPP S W) (o : OUP 993 904 156 W T [10]) (g : FR lPP W T) : DSR S T a n z := by sorry
theorem ds_4 {S T : sS} {a n z t u : Int} (ha : a = 4) (g : goR S n = t) (e : T = uI S 920 0 (Int32.ofInt u)) (h : (t = -1 ∧ z = 0 ∧ u = Xi S 920 0) ∨ (t ≠ -1 ∧ z = 1 ∧ u = t)) : DSR S T a n z := by sorry
theorem ds_5 {S : sS} {a n z : Int} (ha : a < 1 ∨ 4 < a) (hz : z = 1) : DSR S S a n z := by sorry
def md_mo_does_2__q : List rec := [(904, 905, 154, 155), (904, 905, 156, 157), (919, 920, 0, 100000), (920, 921, 0, 100000), (993, 994, 0, 100000)]
abbrev Q_mo_does_2__q (S : sS) (action : Int) (noun : Int) : pst := fun r S1 => HI S1 ∧ FR md_mo_does_2__q S S1 ∧ (∃ z : Int, r = some (iv z) ∧ (0 ≤ z ∧ z ≤ 1) ∧ (WYM S1) ∧ (DSR S S1 action noun z))
set_option maxRecDepth 100000 in
theorem t_mo_does_2__q {S : sS} (hH : HI S) (action : Int) (noun : Int) (haction : 0 ≤ action ∧ action ≤ 11) (hnoun : -1 ≤ noun ∧ noun ≤ 23) (hn : 1 ≤ action → action ≤ 3 → 0 ≤ noun) (h2 : 1 ≤ action → action ≤ 3 → noun < Xi S 904 19) (hB : ABV S) (hX : TXM S) (hD : DEFM S) (hM : LXM S) (hW : WYM S) (h23 : 2 ≤ Xi S 904 23) (h32 : 1 ≤ Xi S 904 32) (hnw : NMWD S) (hd : Xi S 904 157 = 0) (d : Nat) : Mt lay0 (d + 26) m_mo_does_2 [.ref 904, iv action, iv noun] S (Q_mo_does_2__q S action noun) := by sorry
end
section
/-! A TURN of both: what is related while it goes on -/
noncomputable def itW (S : sS) (a : Int) : Int := if 0 < Xi S 904 160 - a ∧ ikR S (Xi S 904 160 - 1) = 153 then (if Xi S 904 160 - a = 1 ∨ (Xi S 904 160 - a = 2 ∧ ikR S a = 102) then -2 else -9) else
  (if fiR S (if 0 < Xi S 904 160 - a ∧ 100 ≤ ikR S a ∧ ikR S a ≤ 103 then a + 1 else a) (Xi S 904 160 - (if 0 < Xi S 904 160 - a ∧ 100 ≤ ikR S a ∧ ikR S a ≤ 103 then a + 1 else a)) ≠ -1 ∧ Xi S 914 (fiR S (if 0 < Xi S 904 160 - a ∧ 100 ≤ ikR S a ∧ ikR S a ≤ 103 then a + 1 else a) (Xi S 904 160 - (if 0 < Xi S 904 160 - a ∧ 100 ≤ ikR S a ∧ ikR S a ≤ 103 then a + 1 else a))).toNat = 4 then Xi S 915 (fiR S (if 0 < Xi S 904 160 - a ∧ 100 ≤ ikR S a ∧ ikR S a ≤ 103 then a + 1 else a) (Xi S 904 160 - (if 0 < Xi S 904 160 - a ∧ 100 ≤ ikR S a ∧ ikR S a ≤ 103 then a + 1 else a))).toNat else -9)
/-- the words at hand mean the thing t (and its property p) -/
def INT (S : sS) (t p : Int) : Prop := (isO S → itW S (ofR S + 1) = t ∧ ipR S = p ∧ p ≠ -1) ∧ (¬ isO S → itW S 0 = t ∧ p = -1) ∧ t ≠ -9
/-- the words in [ ] from o to q -/
def INX (S : sS) (e o q t p : Int) : Prop := ∃ (T : sS) (L : List (Int × Int)), KEP [(906, 907), (911, 917)] [(904, 15)] S T ∧ WLp (Xi S 906) e (o + 1) L q ∧ (q < e ∧ Xi S 906 q.toNat = 93) ∧ (RIW S T L ∧ L.length ≤ 64) ∧ INT T t p
def NML (S : sS) (so ix : Int) (P : List Int) : Prop := (∃ k : Nat, (k : Int) < Xi S 904 15 ∧ Xi S 914 k = so ∧ Xi S 915 k = ix ∧ (∀ l : Nat, (l : Int) < Xi S 904 15 → Xi S 914 l = so → Xi S 915 l = ix → l = k) ∧ P = bnL (fun i => byR S k i) 42 0) ∨ (¬ lxH S so ix ∧ P = [])
def PRP (S : sS) (w p : Int) (P : List Int) : Prop := (Xi S 928 p.toNat = 0 → P = nmL (nuR S w p)) ∧ (Xi S 928 p.toNat = 1 → P = txL S 906 (nuR S w p) (nlR S w p).toNat) ∧ (Xi S 928 p.toNat ≠ 0 → Xi S 928 p.toNat ≠ 1 → (nuR S w p = -1 → P = []) ∧ (nuR S w p ≠ -1 → NML S 6 (nuR S w p) P))
/-- what is written in the place of [ ] -/
def PCE (S : sS) (t p o : Int) (P : List Int) : Prop := (0 ≤ whU o t ∧ whU o t < Xi S 904 19) ∧ (p = -1 → NML S 4 (whU o t) P) ∧ (p ≠ -1 → (0 ≤ p ∧ p < Xi S 904 32) ∧ hsR S (Xi S 918 (whU o t).toNat) p ≠ 0 ∧ PRP S (whU o t) p P)
/-- what a text from p to e says -/
def WTX (S : sS) (e o : Int) : Nat → Int → List Int → Prop
  | 0, p, L => e ≤ p ∧ L = []
  | f + 1, p, L => (e ≤ p ∧ L = []) ∨ (p < e ∧ Xi S 906 p.toNat ≠ 91 ∧ Xi S 906 p.toNat ≠ 93 ∧ ∃ M : List Int, L = Xi S 906 p.toNat :: M ∧ WTX S e o f (p + 1) M) ∨ (p < e ∧ Xi S 906 p.toNat = 91 ∧ ∃ (q t r : Int) (P M : List Int), INX S e p q t r ∧ PCE S t r o P ∧ L = P ++ M ∧ WTX S e o f (q + 1) M)
/-- the noun's kind is one that a rule's text may speak of -/
def nkR (S : sS) (r : Nat) : Int := if Xi S 980 r ≠ -1 then Xi S 918 (Xi S 980 r).toNat else if Xi S 981 r ≠ -1 then Xi S 981 r else Xi S 942 (Xi S 979 r).toNat
def NKO (S : sS) (r : Nat) (o : Int) : Prop := nM S r → blR S (Xi S 918 o.toNat) (nkR S r) ≠ 0
abbrev clP (U S : sS) (r k : Nat) : Nat := (Xi U (248 + r) 7 + Xi U (248 + r) 4 + Xi S 985 r).toNat + k
def INW0 (U S : sS) : Prop := ∀ (r k : Nat) (no o : Int), (r : Int) < Xi U 246 2 → (k : Int) < Xi S 987 r → Xi S 976 ((Xi S 986 r).toNat + k) = 0 → NNR U (Xi S 979 r) no o → NKO S r o → ∀ q : Nat, (q : Int) = Xi S 977 ((Xi S 986 r).toNat + k) → WTX S (Xi S 973 q + Xi S 974 q) o 5001 (Xi S 973 q) (syA U (clP U S r k) no)
def ST0 (U S : sS) : Prop := SRT U U (Xi U 246 2) ∧ PLM S ∧ NMWD S ∧ True ∧ True ∧ (Xi S 922 0 ≠ -1 ∧ Xi S 928 0 = 1) ∧ (RLB U S → INW0 U S)
def cBS2 : List (Nat × Nat) := [(906, 907), (911, 919), (921, 925), (927, 930), (936, 940), (941, 950), (969, 988)]
/-- what no turn changes -/
def STC (U S : sS) : Prop := ∀ U1 S1 : sS, KEP cBU cBv U U1 → KEP cBS2 cBw S S1 → ST0 U1 S1
theorem kep_rf {ks fs : List (Nat × Nat)} {S : sS} : KEP ks fs S S := by sorry
theorem STC.k {U U1 S S1 : sS} (h : STC U S) (k : KEP cBU cBv U U1) (q : KEP cBS2 cBw S S1) : STC U1 S1 := by sorry
theorem STC.o {U S : sS} (h : STC U S) : ST0 U S := by sorry
/-- ended, phrases done -/
def END (U S : sS) : Prop := (Xi U 900 6 = 0 ↔ Xi S 904 162 = 0) ∧ (Xi U 900 6 = 0 → Xi U 900 5 = Xi S 904 161)
def RT (U S : sS) : Prop := RLB U S ∧ EQO U S ∧ END U S ∧ Xi S 904 157 = 0 ∧ STC U S
def cTU : List (Nat × Nat) := [(2, 20), (21, 22), (196, 220), (221, 876), (883, 888), (901, 904)]
def cTv : List (Nat × Nat) := [(1, 3), (20, 1), (20, 12), (882, 3), (900, 4), (900, 5), (900, 6)]
def cTS : List (Nat × Nat) := [(906, 907), (911, 919), (921, 925), (927, 930), (936, 940), (941, 950), (969, 988), (993, 994)]
def cTw : List (Nat × Nat) := [(904, 15), (904, 16), (904, 18), (904, 19), (904, 23), (904, 30), (904, 32), (904, 41), (904, 47), (904, 49), (904, 51), (904, 55), (904, 117), (904, 125), (904, 130), (904, 156), (904, 157), (904, 161), (904, 162)]
/-- an act that writes nothing -/
theorem rt_l {U V S T : sS} (h : RT U S) (b : RLB V T) (k : KEP cTU cTv U V) (q : KEP cTS cTw S T) : RT V T ∧ KEP cBU cBv U V := by sorry
theorem fr_wl : ∀ (L : List Int) {U : sS}, FR [(900, 901, 4, 5), (901, 902, 0, 100000)] U (wlF U L) := by sorry
/-- both write the same -/
theorem rt_w {U S T : sS} {L : List Int} (h : RT U S) (o : OUP 993 904 156 S T L) (q : KEP [(906, 907), (911, 950), (969, 988)] [(904, 15), (904, 16), (904, 18), (904, 19), (904, 23), (904, 30), (904, 32), (904, 41), (904, 47), (904, 49), (904, 51), (904, 55), (904, 117), (904, 125), (904, 130), (904, 157), (904, 161), (904, 162)] S T) : RT (wlF U L) T ∧ KEP cBU cBv U (wlF U L) := by sorry
/-- one phrase more, in both -/
theorem rt_p {U S A : sS} (h : RT U S) (ne : Xi S 904 162 = 0) (hd : 0 ≤ Xi S 904 161 ∧ Xi S 904 161 < 300) (e : A = uI S 904 161 (Int32.ofInt (Xi S 904 161 + 1))) : RT (phI U) A ∧ KEP cBU cBv U (phI U) ∧ Xi (phI U) 900 6 = 0 := by sorry
/-- too many phrases: both end -/
theorem rt_e {U S A : sS} (h : RT U S) (ne : Xi S 904 162 = 0) (hd : Xi S 904 161 = 300) (e : A = uI S 904 162 (Int32.ofInt 1)) : RT (phI U) A ∧ KEP cBU cBv U (phI U) ∧ Xi (phI U) 900 6 ≠ 0 := by sorry
/-! PHRASES of a rule, one after another, in both -/
theorem fr_plO {U : sS} {o h w : Int} (ho : 0 ≤ o ∧ o < 24) : FR [(22, 24, 0, 100000)] U (plO U o h w) := by sorry
/-- which clause and which entries a rule's k-th phrase are -/
theorem rph_q {U S : sS} {r k : Nat} (a : RLB U S) (hr : (r : Int) < Xi U 246 2) (hk : (k : Int) < Xi S 987 r) : ∃ fm n w h t g m : Int, CLM U (clP U S r k) fm n w h t g m ∧ PQF U S ((Xi S 986 r).toNat + k) ((Xi S 984 r + Xi S 985 r).toNat + k) fm n w h t g m := by sorry
abbrev lNW : List rec := [(925, 926, 0, 100000), (930, 931, 0, 100000), (931, 932, 0, 100000), (932, 933, 0, 100000), (940, 941, 0, 100000)]
/-- nouns of both where a phrase speaks of the noun -/
theorem nno {U S : sS} {r : Nat} {no o w t : Int} (a : RLB U S) (hr : (r : Int) < Xi U 246 2) (hn : NNR U (Xi S 979 r) no o) (h : TMK 53 (Xi U 5 2) w t) (k : thK S False (nM S r) t) (hw : w = -2) : no = o ∧ 0 ≤ no ∧ no < Xi U 5 2 := by sorry
theorem thR_n {o no t : Int} (h : t = -2 → no = o) : thR (-1) o t = thR (-1) no t := by sorry
theorem tmk_2 {n w t : Int} (h : TMK 53 n w t) (q : t = -2) : w = -2 := by sorry
/-- NOW -/
theorem pa_now {U S T : sS} {r k : Nat} {no o : Int} {tr : sS → Int → Int → sS} (h : RT U S) (hr : (r : Int) < Xi U 246 2) (hk : (k : Int) < Xi S 987 r) (h6 : Xi S 976 ((Xi S 986 r).toNat + k) = 1) (hn : NNR U (Xi S 979 r) no o) (pq : PQ S (nM S r) ((Xi S 986 r).toNat + k)) {q : Nat} (hq : (q : Int) = Xi S 977 ((Xi S 986 r).toNat + k)) (F : FR lNW S T) (z : NOW S T q o) : RT (pfF tr U (clP U S r k) no) T ∧ KEP cBU cBv U (pfF tr U (clP U S r k) no) := by sorry
/-- MOVE -/
theorem pa_mov {U S T : sS} {r k : Nat} {no o : Int} {tr : sS → Int → Int → sS} (h : RT U S) (hr : (r : Int) < Xi U 246 2) (hk : (k : Int) < Xi S 987 r) (h6 : Xi S 976 ((Xi S 986 r).toNat + k) = 2) (hn : NNR U (Xi S 979 r) no o) (pq : PQ S (nM S r) ((Xi S 986 r).toNat + k)) {q : Nat} (hq : (q : Int) = Xi S 977 ((Xi S 986 r).toNat + k)) (F : FR [(919, 920, 0, 100000), (920, 921, 0, 100000)] S T) (z : T = mvR S (thR (-1) o (Xi S 971 q)) (thR (-1) o (Xi S 975 q))) : RT (pfF tr U (clP U S r k) no) T ∧ KEP cBU cBv U (pfF tr U (clP U S r k) no) := by sorry
/-- more, less -/
theorem pa_add {U S T : sS} {r k : Nat} {no o b : Int} {tr : sS → Int → Int → sS} (h : RT U S) (hr : (r : Int) < Xi U 246 2) (hk : (k : Int) < Xi S 987 r) {q : Nat} (h6 : (Xi S 976 ((Xi S 986 r).toNat + k) = 3 ∧ b = Xi S 973 q) ∨ (Xi S 976 ((Xi S 986 r).toNat + k) = 4 ∧ b = -Xi S 973 q)) (hn : NNR U (Xi S 979 r) no o) (pq : PQ S (nM S r) ((Xi S 986 r).toNat + k)) (hq : (q : Int) = Xi S 977 ((Xi S 986 r).toNat + k)) (F : FR [(904, 905, 154, 155), (930, 931, 0, 100000), (931, 932, 0, 100000)] S T) (z : ADR S T (12 * thR (-1) o (Xi S 971 q) + Xi S 972 q).toNat (clW (adW (nuR S (thR (-1) o (Xi S 971 q)) (Xi S 972 q)) b))) : RT (pfF tr U (clP U S r k) no) T ∧ KEP cBU cBv U (pfF tr U (clP U S r k) no) := by sorry
abbrev cSY : List (Nat × Nat) := [(904, 15), (904, 16), (904, 18), (904, 19), (904, 23), (904, 30), (904, 32), (904, 41), (904, 47), (904, 49), (904, 51), (904, 55), (904, 117), (904, 125), (904, 130), (904, 157), (904, 161), (904, 162)]
/-- SAY -/
theorem pa_say {U S A B T : sS} {r k : Nat} {no o : Int} (h : RT U S) (hr : (r : Int) < Xi U 246 2) (hk : (k : Int) < Xi S 987 r) (h6 : Xi S 976 ((Xi S 986 r).toNat + k) = 0) (hn : NNR U (Xi S 979 r) no o) (nk : NKO S r o) {q : Nat} (hq : (q : Int) = Xi S 977 ((Xi S 986 r).toNat + k)) (ro : -1 ≤ o ∧ o ≤ 23) (eA : A = uI S 904 158 (Int32.ofInt o)) (F : KEP [(906, 907), (911, 950), (969, 988)] cSY A B) (wr : ∀ L : List Int, WTX A (Xi A 973 q + Xi A 974 q) (Xi A 904 158) 5001 (Xi A 973 q) L → OUP 993 904 156 A B L) (G : KEP [(906, 907), (911, 950), (969, 988)] cSY B T) (pt : Xi B 904 157 = 0 → OUP 993 904 156 B T [10]) : RT (wlF U (syA U (clP U S r k) no ++ [10])) T ∧ KEP cBU cBv U (wlF U (syA U (clP U S r k) no ++ [10])) := by sorry
end
end
section
section
/-! PHRASES and rules of both, one after another -/
theorem blR_k {S T : sS} (x : ∀ j, Xi T 917 j = Xi S 917 j) (k o : Int) : blR T k o = blR S k o := by sorry
theorem nko_k {S T : sS} {r : Nat} {o : Int} (q : KEP cBS2 cBw S T) (h : NKO S r o) : NKO T r o := by sorry
theorem nnr_k {U V : sS} {a no o : Int} (q : KEP cBU cBv U V) (h : NNR U a no o) : NNR V a no o := by sorry
noncomputable def PHW (U : sS) (r n : Nat) (no : Int) : sS × Int := phC (trC n) no (Xi U (248 + r) 6 - 0).toNat (Xi U (248 + r) 7 + Xi U (248 + r) 4 + Xi U (248 + r) 5 + 0).toNat U 0
def RNX (S T : sS) (r n : Nat) (o k : Int) : Prop := ∀ (U : sS) (no : Int), RT U S → (r : Int) < Xi U 246 2 → NNR U (Xi S 979 r) no o → NKO S r o → ∃ V : sS, RT V T ∧ KEP cBU cBv U V ∧ PHW U r n no = phC (trC n) no (Xi U (248 + r) 6 - k).toNat (Xi U (248 + r) 7 + Xi U (248 + r) 4 + Xi U (248 + r) 5 + k).toNat V 0
def RNF (S T : sS) (r n : Nat) (o z : Int) : Prop := ∀ (U : sS) (no : Int), RT U S → (r : Int) < Xi U 246 2 → NNR U (Xi S 979 r) no o → NKO S r o → ∃ (V : sS) (st : Int), RT V T ∧ KEP cBU cBv U V ∧ PHW U r n no = (V, st) ∧ (Xi V 900 6 = 0 → (st ≠ 0 ↔ z ≠ 0))
theorem rnx_0 {S : sS} {r n : Nat} {o : Int} : RNX S S r n o 0 := by sorry
theorem ru_c {U S : sS} {r : Nat} (a : RLB U S) (hr : (r : Int) < Xi U 246 2) : Xi U (248 + r) 6 = Xi S 987 r ∧ Xi U (248 + r) 5 = Xi S 985 r ∧ 0 ≤ Xi S 985 r ∧ 0 ≤ Xi U (248 + r) 7 ∧ 0 ≤ Xi U (248 + r) 4 := by sorry
theorem ru_k {U V : sS} {r j : Nat} (k : KEP cBU cBv U V) (hr : r < 24) : Xi V (248 + r) j = Xi U (248 + r) j := by sorry
theorem r24 {U S : sS} {r : Nat} (a : RLB U S) (hr : (r : Int) < Xi U 246 2) : r < 24 := by sorry
theorem rnx_e {S T : sS} {r n : Nat} {o k z : Int} (h : RNX S T r n o k) (e : Xi S 987 r ≤ k ∨ Xi T 904 162 ≠ 0) (hz : z = 0) : RNF S T r n o z := by sorry
theorem rnx_3 {S T A : sS} {r n : Nat} {o k z : Int} (h : RNX S T r n o k) (h0 : 0 ≤ k) (hk : k < Xi S 987 r) (ne : Xi T 904 162 = 0) (hd : Xi T 904 161 = 300) (e : A = uI T 904 162 (Int32.ofInt 1)) (hz : z = 0) : RNF S A r n o z := by sorry
/-- which form a phrase has -/
theorem rph_m {U S : sS} {r k : Nat} (a : RLB U S) (hr : (r : Int) < Xi U 246 2) (hk : (k : Int) < Xi S 987 r) : (Xi S 976 ((Xi S 986 r).toNat + k) = 0 → Xi U (276 + clP U S r k) 0 = 7) ∧ (Xi S 976 ((Xi S 986 r).toNat + k) ≠ 0 → Xi U (276 + clP U S r k) 0 ≠ 7) ∧ (Xi S 976 ((Xi S 986 r).toNat + k) = 6 → Xi U (276 + clP U S r k) 0 = 11) ∧ (Xi S 976 ((Xi S 986 r).toNat + k) ≠ 6 → Xi U (276 + clP U S r k) 0 ≠ 11) ∧ 0 ≤ Xi S 976 ((Xi S 986 r).toNat + k) ∧ Xi S 976 ((Xi S 986 r).toNat + k) ≤ 6 := by sorry
/-- one phrase more -/
theorem rnx_g {S T A B : sS} {r n : Nat} {o k : Int} (h : RNX S T r n o k) (q : KEP cBS2 cBw S T) (h0 : 0 ≤ k) (hk : k < Xi S 987 r) (ne : Xi T 904 162 = 0) (hd : 0 ≤ Xi T 904 161 ∧ Xi T 904 161 < 300) (eA : A = uI T 904 161 (Int32.ofInt (Xi T 904 161 + 1))) (h6 : Xi A 976 ((Xi A 986 r).toNat + k.toNat) ≠ 6)
    (act : ∀ (V : sS) (no : Int), RT V A → (r : Int) < Xi V 246 2 → NNR V (Xi A 979 r) no o → NKO A r o → (k.toNat : Int) < Xi A 987 r → ∃ W : sS, RT W B ∧ KEP cBU cBv V W ∧ (Xi V (276 + clP V A r k.toNat) 0 = 7 → W = wlF V (syA V (clP V A r k.toNat) no ++ [10])) ∧ (Xi V (276 + clP V A r k.toNat) 0 ≠ 7 → W = pfF (trC n) V (clP V A r k.toNat) no)) : RNX S B r n o (k + 1) := by sorry
/-- stop the action -/
theorem rnx_6 {S T A : sS} {r n : Nat} {o k z : Int} (h : RNX S T r n o k) (q : KEP cBS2 cBw S T) (h0 : 0 ≤ k) (hk : k < Xi S 987 r) (ne : Xi T 904 162 = 0) (hd : 0 ≤ Xi T 904 161 ∧ Xi T 904 161 < 300) (eA : A = uI T 904 161 (Int32.ofInt (Xi T 904 161 + 1))) (h6 : ¬ (0 ≤ Xi A 976 ((Xi A 986 r).toNat + k.toNat) ∧ Xi A 976 ((Xi A 986 r).toNat + k.toNat) ≤ 5)) (hz : z = 1) : RNF S A r n o z := by sorry
/-- TRY -/
def TRX (S T : sS) (q : Nat) (o : Int) (n : Nat) : Prop := ∀ (U : sS) (x : Int), RT U S → ((Xi S 970 q ≠ 0 ∧ x = -1 ∧ Xi U 19 (Xi S 972 q).toNat = -1) ∨ (Xi S 970 q = 0 ∧ x = thR (-1) o (Xi S 971 q) ∧ (0 ≤ x ∧ x < Xi U 5 2) ∧ 0 ≤ Xi U 19 (Xi S 972 q).toNat)) → RT (trC n U (Xi S 972 q) x) T ∧ KEP cBU cBv U (trC n U (Xi S 972 q) x)
theorem pa_try {U S T : sS} {r k n : Nat} {no o : Int} (h : RT U S) (hr : (r : Int) < Xi U 246 2) (hk : (k : Int) < Xi S 987 r) (h6 : Xi S 976 ((Xi S 986 r).toNat + k) = 5) (hn : NNR U (Xi S 979 r) no o) (pq : PQ S (nM S r) ((Xi S 986 r).toNat + k)) {q : Nat} (hq : (q : Int) = Xi S 977 ((Xi S 986 r).toNat + k)) (z : TRX S T q o n) : RT (pfF (trC n) U (clP U S r k) no) T ∧ KEP cBU cBv U (pfF (trC n) U (clP U S r k) no) := by sorry
/-- actions, in both -/
def ACX (S T : sS) (a o : Int) (n : Nat) (z : Int) : Prop := ∀ U : sS, RT U S → (Xi S 942 a.toNat = -2 → 0 ≤ o ∧ o < 6) → ∃ (V : sS) (y : Int), doC (trC n) U a o = (V, y) ∧ RT V T ∧ KEP cBU cBv U V ∧ (Xi V 900 6 = 0 → y = z)
theorem trx_8 {S : sS} {q : Nat} {o dq : Int} (h : dq = 8) : TRX S S q o (8 - dq).toNat := by sorry
theorem trx_1 {S T : sS} {q : Nat} {o dq z : Int} (hd : 0 ≤ dq ∧ dq < 8) (hq : 0 ≤ Xi S 972 q ∧ Xi S 972 q < Xi S 904 49) (h : Xi S 970 q ≠ 0) (ac : ACX S T (Xi S 972 q) (-1) (8 - (dq + 1)).toNat z) : TRX S T q o (8 - dq).toNat := by sorry
theorem trx_2 {S T : sS} {q : Nat} {o dq z x0 : Int} (hd : 0 ≤ dq ∧ dq < 8) (h : Xi S 970 q = 0) (e : thR (-1) o (Xi S 971 q) = x0) (hq : 0 ≤ Xi S 972 q ∧ Xi S 972 q < Xi S 904 49) (b : blR S (Xi S 918 x0.toNat) (Xi S 942 (Xi S 972 q).toNat) ≠ 0) (ac : ACX S T (Xi S 972 q) x0 (8 - (dq + 1)).toNat z) : TRX S T q o (8 - dq).toNat := by sorry
theorem trx_3 {S : sS} {q : Nat} {o dq x0 : Int} (h : Xi S 970 q = 0) (e : thR (-1) o (Xi S 971 q) = x0) (hq : 0 ≤ Xi S 972 q ∧ Xi S 972 q < Xi S 904 49) (b : blR S (Xi S 918 x0.toNat) (Xi S 942 (Xi S 972 q).toNat) = 0) : TRX S S q o (8 - dq).toNat := by sorry
/-- predicates that rows carry -/
def DR0 (S : sS) : Prop := Xi S 904 157 = 0
theorem DR0_FR {l : List rec} {S T : sS} (h : FR l S T) (e : (mdf l 904 157 == false) = true) (d : DR0 S) : DR0 T := by sorry
theorem NMWD_FR {l : List rec} {S T : sS} (h : FR l S T) (e : (kdis l [(912, 917)] && mD l [15]) = true) (d : NMWD S) : NMWD T := by sorry
end
section
abbrev Q_mo_keyOf__b (S : sS) (w : Int) : pst := fun r S1 => S = S1 ∧ (∃ z : Int, r = some (iv z) ∧ (0 ≤ z ∧ z ≤ 154) ∧ (rgL w → z = kyr S w))
theorem t_mo_keyOf__b {S : sS} (hH : HI S) (w : Int) (d : Nat) : Mt lay0 (d + 1) m_mo_keyOf [.ref 904, jw w] S (Q_mo_keyOf__b S w) := by sorry
def md_mo_words__b : List rec := [(904, 905, 160, 161), (994, 995, 0, 100000)]
abbrev Q_mo_words__b (S : sS) (from_ : Int) (end_ : Int) : pst := fun r S1 => HI S1 ∧ FR md_mo_words__b S S1 ∧ (∃ z : Int, r = some (iv z) ∧ (-1 ≤ z ∧ z ≤ 5000) ∧ (z ≠ -1 → from_ < z ∧ z ≤ end_) ∧ (from_ ≤ end_ → RWO S S1 from_ end_ z))
theorem t_mo_words__b {S : sS} (hH : HI S) (from_ : Int) (end_ : Int) (hfrom_ : 0 ≤ from_ ∧ from_ ≤ 5000) (hend_ : 0 ≤ end_ ∧ end_ ≤ 5000) (d : Nat) : Mt lay0 (d + 4) m_mo_words [.ref 904, iv from_, iv end_] S (Q_mo_words__b S from_ end_) := by sorry
abbrev Q_mo_foundIn__b (S : sS) (from_ : Int) (n : Int) : pst := fun r S1 => S = S1 ∧ (∃ z : Int, r = some (iv z) ∧ (-1 ≤ z ∧ z ≤ 299) ∧ (z ≠ -1 → z < Xi S 904 15) ∧ (True → z = fiR S from_ n))
theorem t_mo_foundIn__b {S : sS} (hH : HI S) (from_ : Int) (n : Int) (hfrom_ : 0 ≤ from_ ∧ from_ ≤ 64) (hn : -64 ≤ n ∧ n ≤ 64) (hn : from_ + n ≤ 64) (d : Nat) : Mt lay0 (d + 2) m_mo_foundIn [.ref 904, iv from_, iv n] S (Q_mo_foundIn__b S from_ n) := by sorry
abbrev Q_mo_isArt__q (S : sS) (k : Int) : pst := fun r S1 => S = S1 ∧ (∃ z : Int, r = some (iv z) ∧ (0 ≤ z ∧ z ≤ 1) ∧ (z = 1 → 100 ≤ k ∧ k ≤ 103) ∧ (z = 0 → ¬ (100 ≤ k ∧ k ≤ 103)))
set_option maxRecDepth 100000 in
theorem t_mo_isArt__q {S : sS} (hH : HI S) (k : Int) (hk : -2147483648 ≤ k ∧ k ≤ 2147483647) (d : Nat) : Mt lay0 (d + 1) m_mo_isArt [iv k] S (Q_mo_isArt__q S k) := by sorry
/-! SAY: things in [ ], when they are written -/
def ITW (S : sS) (a z : Int) : Prop := (itW S a ≠ -2 → z = itW S a) ∧ (itW S a = -2 → Xi S 904 158 ≠ -1 → z = -2)
theorem itw_1 {S : sS} {a : Int} (h : 0 < Xi S 904 160 - a ∧ ikR S (Xi S 904 160 - 1) = 153) (g : Xi S 904 160 - a = 1 ∨ (Xi S 904 160 - a = 2 ∧ ikR S a = 102)) : itW S a = -2 := by sorry
theorem itw_2 {S : sS} {a : Int} (h : 0 < Xi S 904 160 - a ∧ ikR S (Xi S 904 160 - 1) = 153) (g : ¬ (Xi S 904 160 - a = 1 ∨ (Xi S 904 160 - a = 2 ∧ ikR S a = 102))) : itW S a = -9 := by sorry
theorem itw_3 {S : sS} {a f k z : Int} (h : ¬ (0 < Xi S 904 160 - a ∧ ikR S (Xi S 904 160 - 1) = 153)) (hf : f = (if 0 < Xi S 904 160 - a ∧ 100 ≤ ikR S a ∧ ikR S a ≤ 103 then a + 1 else a)) (hk : k = fiR S f (Xi S 904 160 - f)) (hz : z = (if k ≠ -1 ∧ Xi S 914 k.toNat = 4 then Xi S 915 k.toNat else -9)) : z = itW S a := by sorry
theorem iw_1 {S : sS} {a : Int} (e : itW S a = -2) : ITW S a (-2) := by sorry
theorem iw_2 {S : sS} {a z : Int} (e : itW S a = -2) (h : Xi S 904 158 = -1) : ITW S a z := by sorry
theorem iw_3 {S : sS} {a z : Int} (e : z = itW S a) : ITW S a z := by sorry
abbrev Q_mo_insideThing__q (S : sS) (from_ : Int) : pst := fun r S1 => S = S1 ∧ (∃ z : Int, r = some (iv z) ∧ (-9 ≤ z ∧ z ≤ 23) ∧ (z ≠ -9 → z ≠ -2 → 0 ≤ z ∧ z < Xi S 904 19) ∧ (z = -2 → Xi S 904 157 = 0 → Xi S 904 158 ≠ -1) ∧ (ITW S from_ z))
set_option maxRecDepth 100000 in
theorem t_mo_insideThing__q {S : sS} (hH : HI S) (from_ : Int) (hfrom_ : 0 ≤ from_ ∧ from_ ≤ 64) (hM : LXM S) (hdy : DR0 S) (d : Nat) : Mt lay0 (d + 3) m_mo_insideThing [.ref 904, iv from_] S (Q_mo_insideThing__q S from_) := by sorry
end
section
/-! SAY: what stands in [ ] is written -/
def SIW (S T : sS) (z : Int) : Prop := ∀ (t p : Int) (P : List Int), INT S t p → PCE S t p (Xi S 904 158) P → z = 1 ∧ OUP 993 904 156 S T P
theorem siw_t {S : sS} {a z t p : Int} {P : List Int} (w : ITW S a z) (e : itW S a = t) (c : PCE S t p (Xi S 904 158) P) : z = t := by sorry
theorem siw_y {S : sS} {z a : Int} (hO : isO S) (ha : a = ofR S + 1) (w : ITW S a z) {t p : Int} {P : List Int} (i : INT S t p) (c : PCE S t p (Xi S 904 158) P) : z = t ∧ ipR S = p ∧ p ≠ -1 ∧ t ≠ -9 := by sorry
theorem siw_n {S : sS} {z : Int} (hO : ¬ isO S) (w : ITW S 0 z) {t p : Int} {P : List Int} (i : INT S t p) (c : PCE S t p (Xi S 904 158) P) : z = t ∧ p = -1 ∧ t ≠ -9 := by sorry
theorem nml_o {S T : sS} {so ix : Int} {P : List Int} (h : NML S so ix P) (n : NMRL S T so ix) : OUP 993 904 156 S T P := by sorry
theorem prp_o {S T : sS} {w p : Int} {P : List Int} (h : PRP S w p P) (n : PRLO S T w p) : OUP 993 904 156 S T P := by sorry
theorem whu_e {S : sS} {z l t : Int} (h : (z = -2 ∧ l = Xi S 904 158) ∨ (z ≠ -2 ∧ l = z)) (e : z = t) : l = whU (Xi S 904 158) t := by sorry
def md_mo_saysInside__q : List rec := [(904, 905, 154, 155), (904, 905, 156, 157), (993, 994, 0, 100000)]
abbrev Q_mo_saysInside__q (S : sS) : pst := fun r S1 => HI S1 ∧ FR md_mo_saysInside__q S S1 ∧ (∃ z : Int, r = some (iv z) ∧ (0 ≤ z ∧ z ≤ 1) ∧ (SIW S S1 z))
set_option maxRecDepth 100000 in
theorem t_mo_saysInside__q {S : sS} (hH : HI S) (hM : LXM S) (hB : ABV S) (hX : TXM S) (hno : Xi S 904 158 < Xi S 904 19) (hnw : NMWD S) (hdy : DR0 S) (d : Nat) : Mt lay0 (d + 5) m_mo_saysInside [.ref 904] S (Q_mo_saysInside__q S) := by sorry
end
section
/-! SAY: what is written changes nothing that a text speaks of -/
def XP (S T : sS) : Prop := ∀ c j : Nat, c ≠ 993 → c ≠ 994 → (c ≠ 904 ∨ (j ≠ 154 ∧ j ≠ 156 ∧ j ≠ 160)) → Xi T c j = Xi S c j ∧ Xj T c j = Xj S c j
theorem XP.rf {S : sS} : XP S S := by sorry
theorem XP.tr {S T W : sS} (h : XP S T) (g : XP T W) : XP S W := by sorry
theorem XP.f {l : List rec} {S T : sS} (F : FR l S T) (e : l = [(904, 905, 154, 155), (904, 905, 156, 157), (904, 905, 160, 161), (993, 994, 0, 100000), (994, 995, 0, 100000)]) : XP S T := by sorry
theorem XP.i {S T : sS} (h : XP S T) {c j : Nat} (a : c < 993 ∧ c ≠ 904) : Xi T c j = Xi S c j := by sorry
theorem XP.g {S T : sS} (h : XP S T) {j : Nat} (a : j ≠ 154 ∧ j ≠ 156 ∧ j ≠ 160) : Xi T 904 j = Xi S 904 j := by sorry
theorem XP.j {S T : sS} (h : XP S T) {c j : Nat} (a : c < 993 ∧ c ≠ 904) : Xj T c j = Xj S c j := by sorry
theorem chN_p {S T : sS} {c : Nat} {m q : Int} (h : XP S T) (hc : c < 993 ∧ c ≠ 904) : ∀ (f : Nat) (k : Int), chN T c m q f k = chN S c m q f k := by sorry
theorem fvR_p {S T : sS} {t : Int} (h : XP S T) : fvR T t = fvR S t := by sorry
theorem nuR_p {S T : sS} {o p : Int} (h : XP S T) : nuR T o p = nuR S o p := by sorry
theorem nlR_p {S T : sS} {o p : Int} (h : XP S T) : nlR T o p = nlR S o p := by sorry
theorem byR_p {S T : sS} {lex k : Int} (h : XP S T) : byR T lex k = byR S lex k := by sorry
theorem nml_p {S T : sS} {so ix : Int} {P : List Int} (h : XP S T) (n : NML S so ix P) : NML T so ix P := by sorry
theorem txL_p {S T : sS} {a : Int} {n : Nat} (h : XP S T) : txL T 906 a n = txL S 906 a n := by sorry
theorem prp_p {S T : sS} {w p : Int} {P : List Int} (h : XP S T) (n : PRP S w p P) : PRP T w p P := by sorry
theorem pce_p {S T : sS} {t p o : Int} {P : List Int} (h : XP S T) (hs : ∀ k q : Int, hsR T k q = hsR S k q) (n : PCE S t p o P) : PCE T t p o P := by sorry
end
end
section
section
/-! SAY: what a text says is written -/
def IEQ (T W : sS) : Prop := Xi W 904 160 = Xi T 904 160 ∧ (∀ j : Nat, (j : Int) < Xi T 904 160 → Xj W 994 j = Xj T 994 j) ∧ (∀ j : Nat, Xj W 911 j = Xj T 911 j) ∧ (∀ m : Int, LXK W T m) ∧ Xi W 904 15 = Xi T 904 15 ∧ (∀ j : Nat, Xi W 914 j = Xi T 914 j) ∧ (∀ j : Nat, Xi W 915 j = Xi T 915 j)
theorem ik_w {T W : sS} (h : IEQ T W) {i : Int} (h0 : 0 ≤ i) (h1 : i < Xi T 904 160) : ikR W i = ikR T i := by sorry
theorem ofF_w {T W : sS} (h : IEQ T W) : ∀ (m : Nat) (i : Int), 0 ≤ i → ofF W m i = ofF T m i := by sorry
theorem fiR_w {T W : sS} (h : IEQ T W) {a n : Int} (h0 : 0 ≤ a) (h1 : a + n ≤ Xi T 904 160) : fiR W a n = fiR T a n := by sorry
theorem itW_w {T W : sS} (h : IEQ T W) {a : Int} (h0 : 0 ≤ a) (h1 : a ≤ Xi T 904 160) : itW W a = itW T a := by sorry
theorem ofR_w {T W : sS} (h : IEQ T W) : ofR W = ofR T := by sorry
theorem isO_w {T W : sS} (h : IEQ T W) : isO W ↔ isO T := by sorry
theorem int_w {T W : sS} {t p : Int} (h : IEQ T W) (l : 0 ≤ Xi T 904 160) (i : INT T t p) : INT W t p := by sorry
theorem inx_w {S W W1 : sS} {e o q t p z : Int} (h : INX S e o q t p) (kS : XP S W) (k : XP W W1) (r : RWO W W1 (o + 1) e z) : z = q + 1 ∧ z ≠ -1 ∧ INT W1 t p := by sorry
/-- how far a text is written -/
def WLO (S T : sS) (e o a v : Int) : Prop := ∀ L : List Int, WTX S e o 5001 a L → ∃ (M L2 : List Int) (f : Nat), OUP 993 904 156 S T M ∧ WTX S e o f v L2 ∧ L = M ++ L2
theorem wlo_0 {S : sS} {e o a : Int} (h : 0 ≤ Xi S 904 156 ∧ Xi S 904 156 ≤ 2000) : WLO S S e o a a := by sorry
theorem wlo_e {S T : sS} {e o a v : Int} (h : WLO S T e o a v) (hv : e ≤ v) : ∀ L : List Int, WTX S e o 5001 a L → OUP 993 904 156 S T L := by sorry
theorem wlo_3 {S T : sS} {e o a v : Int} {R : List Int → Prop} (h : WLO S T e o a v) (hv : v < e) (hb : Xi S 906 v.toNat = 93) : ∀ L : List Int, WTX S e o 5001 a L → R L := by sorry
theorem wlo_p {S T U : sS} {e o a v b : Int} (h0 : 0 ≤ Xi S 904 156 ∧ Xi S 904 156 ≤ 2000) (h : WLO S T e o a v) (hv : v < e) (hb : Xi S 906 v.toNat = b) (n : b ≠ 91 ∧ b ≠ 93) (u : OUP 993 904 156 T U [b]) : WLO S U e o a (v + 1) := by sorry
theorem wlo_w {S T W X : sS} {e o a v z y : Int} {l : List rec} (h0 : 0 ≤ Xi S 904 156 ∧ Xi S 904 156 ≤ 2000) (h : WLO S T e o a v) (hv : v < e) (hb : Xi S 906 v.toNat = 91) (kS : XP S T) (F : FR l T W) (el : l = [(904, 905, 160, 161), (994, 995, 0, 100000)]) (r : RWO T W (v + 1) e z) (eo : o = Xi S 904 158) (i : z ≠ -1 → SIW W X y) : (z = -1 → ∀ R : List Int → Prop, ∀ L : List Int, WTX S e o 5001 a L → R L) ∧ (y = 0 → z ≠ -1 → ∀ R : List Int → Prop, ∀ L : List Int, WTX S e o 5001 a L → R L) ∧ (z ≠ -1 → WLO S X e o a z) := by sorry
def md_mo_written__q : List rec := [(904, 905, 154, 155), (904, 905, 156, 157), (904, 905, 160, 161), (993, 994, 0, 100000), (994, 995, 0, 100000)]
abbrev Q_mo_written__q (S : sS) (from_ : Int) (n : Int) : pst := fun r S1 => HI S1 ∧ FR md_mo_written__q S S1 ∧ (∃ z : Int, r = some (iv z) ∧ (0 ≤ z ∧ z ≤ 1) ∧ (∀ L : List Int, WTX S (from_ + n) (Xi S 904 158) 5001 from_ L → OUP 993 904 156 S S1 L))
set_option maxRecDepth 100000 in
theorem t_mo_written__q {S : sS} (hH : HI S) (from_ : Int) (n : Int) (hfrom_ : 0 ≤ from_ ∧ from_ ≤ 5000) (hn : 0 ≤ n ∧ n ≤ 5000) (hA : from_ + n ≤ 5000) (hM : LXM S) (hB : ABV S) (hX : TXM S) (hno : Xi S 904 158 < Xi S 904 19) (hnw : NMWD S) (hdy : DR0 S) (d : Nat) : Mt lay0 (d + 6) m_mo_written [.ref 904, iv from_, iv n] S (Q_mo_written__q S from_ n) := by sorry
end
section
/-! SAY: [ ] of a text, one after another -/
theorem br_cl {B : Nat → Int} {f o : Int} {L1 : List (Int × Int)} : ∀ (d m : Nat), brF B f m = some (o, L1) → o ≠ -1 → (∃ L : List (Int × Int), brF B f (m + d) = some (-1, L)) → ∃ j : Nat, m ≤ j ∧ j < m + d ∧ B (f + j).toNat = 93 ∧ (∀ i : Nat, m ≤ i → i < j → B (f + i).toNat ≠ 91 ∧ B (f + i).toNat ≠ 93) ∧ brF B f (j + 1) = some (-1, (o, f + j) :: L1) := by sorry
theorem br_sf {B : Nat → Int} {f o1 : Int} {m : Nat} {L1 : List (Int × Int)} (h : brF B f m = some (o1, L1)) : ∀ (d : Nat) (o2 : Int) (L2 : List (Int × Int)), brF B f (m + d) = some (o2, L2) → ∃ L3 : List (Int × Int), L2 = L3 ++ L1 := by sorry
/-- the [ ] of a text mean what the class has kept from nx on -/
def ICX (S U : sS) (E nx : Int) (OK : Int → Int → Prop) : List (Int × Int) → Prop
  | [] => True
  | x :: L => ICX S U E nx OK L ∧ INX S E x.1 x.2 (Xi U 274 (nx + L.length).toNat) (Xi U 275 (nx + L.length).toNat) ∧ OK (Xi U 274 (nx + L.length).toNat) (Xi U 275 (nx + L.length).toNat)
theorem icx_s {S U : sS} {E nx : Int} {OK : Int → Int → Prop} : ∀ (L3 L1 : List (Int × Int)), ICX S U E nx OK (L3 ++ L1) → ICX S U E nx OK L1 := by sorry
/-- what the class doesn't say: the words in [ ] -/
theorem syl_sk {U : sS} {no a nx : Int} : ∀ (n f : Nat) (i : Int), (∀ k : Int, i ≤ k → k < i + n → Xi U (txr U) (a + k).toNat ≠ 91 ∧ Xi U (txr U) (a + k).toNat ≠ 93) → Xi U (txr U) (a + (i + n)).toNat = 93 → syL U no a (f + 1 + n) i nx 1 = syL U no a f (i + n + 1) nx 0 := by sorry
theorem ins_wt {U S : sS} {P o no nx : Int} {M : Nat} {L : List (Int × Int)} {OK : Int → Int → Prop} (h0 : 0 ≤ P) (br : brF (Xi S 906) P M = some (-1, L)) (yt : ∀ i : Int, 0 ≤ i → i < M → Xi U (txr U) (P + i).toNat = Xi S 906 (P + i).toNat) (ix : ICX S U (P + M) nx OK L) (n8 : 0 ≤ nx ∧ nx + L.length ≤ Xi U 246 8) (ok : ∀ t p : Int, OK t p → PCE S t p o (insL U (whU no t) p)) : ∀ (b d m : Nat) (L1 : List (Int × Int)), d ≤ b → m + d = M → brF (Xi S 906) P m = some (-1, L1) → ∀ f : Nat, d ≤ f → WTX S (P + M) o f (P + m) (syL U no P d m (nx + L1.length) 0) := by sorry
end
section
/-! SAY: what both say of a text whose words in [ ] mean the same -/
theorem cv_po {w : Int} (h : wdC w) : 0 < cv w := by sorry
/-- words of objects and values have twelve letters at most -/
theorem nmwd_of {U S : sS} (a : RVO U S) : NMWD S := by sorry
theorem hs_bl {S : sS} {o p : Int} (hB : ABV S) (h : hsR S o p ≠ 0) : ∀ (n : Nat) (k : Int), k ≤ n → k ≤ 15 → blR S k o ≠ 0 → hsR S k p ≠ 0 := by sorry
theorem nml_s {U S : sS} {so ix : Int} (a : RVO U S) (hs : so = 4 ∨ so = 6) : NML S so ix (nmQ U (sg7 so) ix) := by sorry
theorem prp_s {U S : sS} {o p : Int} (a : RLB U S) (ho : 0 ≤ o ∧ o < Xi U 5 2) (hp : 0 ≤ p ∧ p < Xi U 5 5) : PRP S o p (insL U o p) := by sorry
/-- a thing (and its property) in [ ] that a rule's text may speak of -/
def OKIN (S : sS) (r : Nat) (t p : Int) : Prop := (t = -2 → nM S r) ∧ (t ≠ -2 → 0 ≤ t ∧ t < Xi S 904 19) ∧ -1 ≤ p ∧ (p ≠ -1 → p < Xi S 904 32 ∧ hsR S (if t = -2 then nkR S r else Xi S 918 t.toNat) p ≠ 0)
theorem ru_a8 {U S : sS} {r : Nat} (a : RLB U S) (hr : (r : Int) < Xi U 246 2) : Xi S 979 r < Xi U 5 8 := by sorry
theorem pce_s {U S : sS} {r : Nat} {no o t p : Int} (a : RLB U S) (hB : ABV S) (hr : (r : Int) < Xi U 246 2) (hn : NNR U (Xi S 979 r) no o) (nk : NKO S r o) (k : OKIN S r t p) (h18 : ∀ j : Nat, Xi S 918 j ≤ 15) : PCE S t p o (insL U (whU no t) p) := by sorry
/-- the words in [ ] of a rule's k-th phrase mean what the class has kept -/
def IXS1 (U S : sS) (r k : Nat) : Prop := ∀ q : Nat, (q : Int) = Xi S 977 ((Xi S 986 r).toNat + k) → (0 ≤ Xi S 973 q ∧ 0 ≤ Xi S 974 q ∧ Xi S 973 q + Xi S 974 q ≤ 5000) ∧ 0 ≤ Xi U (276 + clP U S r k) 3 ∧ Xi U (276 + clP U S r k) 4 = Xi S 973 q ∧ Xi U (276 + clP U S r k) 5 = Xi S 974 q ∧ (∀ i : Int, 0 ≤ i → i < Xi S 974 q → Xi U (txr U) (Xi S 973 q + i).toNat = Xi S 906 (Xi S 973 q + i).toNat) ∧ ∃ L : List (Int × Int), brF (Xi S 906) (Xi S 973 q) (Xi S 974 q).toNat = some (-1, L) ∧ Xi U (276 + clP U S r k) 3 + L.length ≤ Xi U 246 8 ∧ ICX S U (Xi S 973 q + Xi S 974 q) (Xi U (276 + clP U S r k) 3) (OKIN S r) L
def IXS (U S : sS) : Prop := ∀ r k : Nat, (r : Int) < Xi U 246 2 → (k : Int) < Xi S 987 r → Xi S 976 ((Xi S 986 r).toNat + k) = 0 → IXS1 U S r k
theorem inw_s {U S : sS} (a : RLB U S) (hB : ABV S) (h18 : ∀ j : Nat, Xi S 918 j ≤ 15) (x : IXS U S) : INW0 U S := by sorry
end
section
/-! words in [ ] mean the same when more is told -/
theorem lx_u {U S : sS} {a b c n : Int} {k l : Nat} (v : RVO U S) (hn : 1 ≤ n ∧ n ≤ 3) (hk : (k : Int) < Xi S 904 15) (hl : (l : Int) < Xi S 904 15) (x : lxE S a b c n k) (y : lxE S a b c n l) : k = l := by sorry
theorem fd_g {U S T : sS} {a b c n : Int} (v : RVO U T) (g : LXG S T) (hn : 1 ≤ n ∧ n ≤ 3) (h : fdR S a b c n (Xi S 904 15).toNat ≠ -1) (hs : Xi S 914 (fdR S a b c n (Xi S 904 15).toNat).toNat = 4 ∨ Xi S 914 (fdR S a b c n (Xi S 904 15).toNat).toNat = 7) : fdR T a b c n (Xi T 904 15).toNat = fdR S a b c n (Xi S 904 15).toNat := by sorry
section
variable {T T1 U1 : sS} {t p : Int}
/-- the same words, in a vocabulary that has grown -/
def IGW (T T1 U1 : sS) : Prop := Xi T1 904 160 = Xi T 904 160 ∧ (∀ j : Nat, Xj T1 994 j = Xj T 994 j) ∧ (∀ j : Nat, Xj T1 911 j = Xj T 911 j) ∧ LXG T T1 ∧ RVO U1 T1
theorem ik_g (h : IGW T T1 U1) (i : Int) : ikR T1 i = ikR T i := by sorry
theorem ofF_g (h : IGW T T1 U1) : ∀ (m : Nat) (i : Int), ofF T1 m i = ofF T m i := by sorry
theorem fi_g (h : IGW T T1 U1) {a n so : Int} (e : fiR T a n ≠ -1) (hs : so = 4 ∨ so = 7) (s : Xi T 914 (fiR T a n).toNat = so) : fiR T1 a n = fiR T a n ∧ Xi T1 914 (fiR T a n).toNat = so ∧ Xi T1 915 (fiR T a n).toNat = Xi T 915 (fiR T a n).toNat := by sorry
theorem itW_g (h : IGW T T1 U1) {a : Int} (e : itW T a ≠ -9) : itW T1 a = itW T a := by sorry
theorem int_g (h : IGW T T1 U1) (i : INT T t p) : INT T1 t p := by sorry
end
/-- a state with other words at hand -/
def wWS (X W : sS) : sS := (fun c j => if c = 904 ∧ j = 160 then W.1 904 160 else X.1 c j, fun c j => if c = 994 then W.2.1 994 j else X.2.1 c j, X.2.2)
theorem wws_i {X W : sS} {c j : Nat} (h : ¬ (c = 904 ∧ j = 160)) : Xi (wWS X W) c j = Xi X c j := by sorry
theorem wws_j {X W : sS} {c j : Nat} (h : c ≠ 994) : Xj (wWS X W) c j = Xj X c j := by sorry
theorem wws_160 {X W : sS} : Xi (wWS X W) 904 160 = Xi W 904 160 := by sorry
theorem wws_994 {X W : sS} {j : Nat} : Xj (wWS X W) 994 j = Xj W 994 j := by sorry
theorem wws_k {X W : sS} {ks fs : List (Nat × Nat)} (a : inK ks 904 = false) (b : inK ks 994 = false) (f : ∀ x ∈ fs, ¬ (x.1 = 904 ∧ x.2 = 160) ∧ x.1 ≠ 994) : KEP ks fs X (wWS X W) := by sorry
theorem inx_g {S S1 U1 : sS} {E o q t p : Int} (g : LXG S S1) (v : RVO U1 S1) (k : KEP [(906, 907), (911, 912)] [] S S1) (h : INX S E o q t p) : INX S1 E o q t p := by sorry
theorem hs_g {S T : sS} {p : Int} (a : ABV S) (b : ABV T) (hp : 0 ≤ p ∧ p < 12) (g : KDG S T) : ∀ (n : Nat) (k : Int), k ≤ n → k ≤ 15 → k < Xi S 904 16 → hsR S k p ≠ 0 → hsR T k p ≠ 0 := by sorry
/-! the class's inserts mean to the reference what they mean to the class: it stays -/
def rl0 (U : sS) (r : Nat) : Nat := (Xi U (248 + r) 7 + Xi U (248 + r) 4 + Xi U (248 + r) 5).toNat
def nMU (U : sS) (r : Nat) : Prop := 0 ≤ Xi U (248 + r) 1 ∧ 0 ≤ Xi U 19 (Xi U (248 + r) 1).toNat
def nkU (U : sS) (r : Nat) : Int := if Xi U (248 + r) 2 ≠ -1 then Xi U 21 (Xi U (248 + r) 2).toNat else if Xi U (248 + r) 3 ≠ -1 then Xi U (248 + r) 3 else Xi U 19 (Xi U (248 + r) 1).toNat
def OKC (U S : sS) (r : Nat) (t p : Int) : Prop := (t = -2 → nMU U r) ∧ (t ≠ -2 → 0 ≤ t ∧ t < Xi S 904 19) ∧ -1 ≤ p ∧ (p ≠ -1 → p < Xi S 904 32 ∧ hsR S (if t = -2 then nkU U r else Xi S 918 t.toNat) p ≠ 0)
def IXC1 (U S : sS) (r c : Nat) : Prop := (0 ≤ Xi U (276 + c) 4 ∧ 0 ≤ Xi U (276 + c) 5 ∧ Xi U (276 + c) 4 + Xi U (276 + c) 5 ≤ 5000) ∧ 0 ≤ Xi U (276 + c) 3 ∧ (∀ i : Int, 0 ≤ i → i < Xi U (276 + c) 5 → Xi U (txr U) (Xi U (276 + c) 4 + i).toNat = Xi S 906 (Xi U (276 + c) 4 + i).toNat) ∧ ∃ L : List (Int × Int), brF (Xi S 906) (Xi U (276 + c) 4) (Xi U (276 + c) 5).toNat = some (-1, L) ∧ Xi U (276 + c) 3 + L.length ≤ Xi U 246 8 ∧ ICX S U (Xi U (276 + c) 4 + Xi U (276 + c) 5) (Xi U (276 + c) 3) (OKC U S r) L
def IXC (U S : sS) : Prop := ∀ r c : Nat, (r : Int) < Xi U 246 2 → rl0 U r ≤ c → (c : Int) < rl0 U r + Xi U (248 + r) 6 → Xi U (276 + c) 0 = 7 → IXC1 U S r c
theorem icx_g {S S1 U U1 : sS} {E nx N : Int} {OK OK1 : Int → Int → Prop} (f : ∀ o q t p : Int, INX S E o q t p → INX S1 E o q t p) (ok : ∀ t p : Int, OK t p → OK1 t p) (gi : ∀ j : Nat, (j : Int) < N → Xi U1 274 j = Xi U 274 j ∧ Xi U1 275 j = Xi U 275 j) (h0 : 0 ≤ nx) : ∀ L : List (Int × Int), nx + L.length ≤ N → ICX S U E nx OK L → ICX S1 U1 E nx OK1 L := by sorry
theorem kdn_g {S S1 : sS} {p k : Int} (bS : ABV S) (b1 : ABV S1) (hp : 0 ≤ p ∧ p < 12) (g : KDG S S1) (hk : k < Xi S 904 16) (h16 : Xi S 904 16 ≤ 16) (h : hsR S k p ≠ 0) : hsR S1 k p ≠ 0 := by sorry
theorem kdo_g {S S1 : sS} {p : Int} {o : Nat} (bS : ABV S) (b1 : ABV S1) (hp : 0 ≤ p ∧ p < 12) (vg : VG S S1) (ho : (o : Int) < Xi S 904 19) (hk : Xi S 918 o < Xi S 904 16) (h16 : Xi S 904 16 ≤ 16) (h8 : Xi S1 918 o ≤ 15) (h : hsR S (Xi S 918 o) p ≠ 0) : hsR S1 (Xi S1 918 o) p ≠ 0 := by sorry
theorem okc_g {U U1 S S1 : sS} {r : Nat} {t p : Int} (a : RLA U S) (a1 : RLW U1 S1) (hr : (r : Int) < Xi U 246 2) (gr : GR S1 S) (vg : VG S S1) (rr : ∀ j, Xi U1 (248 + r) j = Xi U (248 + r) j) (bS : ABV S) (b1 : ABV S1) (k : OKC U S r t p) : OKC U1 S1 r t p := by sorry
theorem ixc_g {U U1 S S1 : sS} (x : IXC U S) (a : RLA U S) (a1 : RLW U1 S1) (rl : RUL U) (c2 : ∀ r j : Nat, (r : Int) < Xi U 246 2 → Xi U1 (248 + r) j = Xi U (248 + r) j) (cc : ∀ c j : Nat, (c : Int) < Xi U 246 5 → c < 600 → Xi U1 (276 + c) j = Xi U (276 + c) j) (gi : Xi U 246 8 ≤ Xi U1 246 8 ∧ ∀ j : Nat, (j : Int) < Xi U 246 8 → Xi U1 274 j = Xi U 274 j ∧ Xi U1 275 j = Xi U 275 j) (k : KEP [(906, 907), (911, 912)] [] S S1) (txs : ∀ j, Xi U1 (txr U1) j = Xi U (txr U) j) (gr : GR S1 S) (vg : VG S S1) (bS : ABV S) (b1 : ABV S1) : ∀ r c : Nat, (r : Int) < Xi U 246 2 → rl0 U1 r ≤ c → (c : Int) < rl0 U1 r + Xi U1 (248 + r) 6 → Xi U1 (276 + c) 0 = 7 → IXC1 U1 S1 r c := by sorry
/-- what a turn asks of them -/
theorem okc_in {U S : sS} {r : Nat} {t p : Int} (a : RLB U S) (hr : (r : Int) < Xi U 246 2) (k : OKC U S r t p) : OKIN S r t p := by sorry
theorem ixs_of {U S : sS} (a : RLB U S) (x : IXC U S) : IXS U S := by sorry
end
section
/-! one [ ] that the class keeps: what it means to the reference -/
theorem who_m2 {S : sS} {a l : Int} (h : whoC S a l = -2) : Xi S 895 4 ≠ -1 := by sorry
theorem itw_r {X : sS} {a : Int} (h : itR X a ≠ -9) : itW X a = itR X a := by sorry
theorem wl_E {B : Nat → Int} {E q : Int} (hq : q ≤ E) (l : lt7 (B q.toNat) = 0) : ∀ (L : List (Int × Int)) (a p : Int), WLp B q a L p → WLp B E a L p := by sorry
/-- what the class keeps of [ ], in the reference's words -/
def OKP (W D : sS) (t p : Int) : Prop := (t = -2 → Xi W 895 4 ≠ -1) ∧ (t ≠ -2 → 0 ≤ t ∧ t < Xi D 904 19) ∧ -1 ≤ p ∧ (p ≠ -1 → p < Xi D 904 32 ∧ hsR D (if t = -2 then Xi D 904 116 else Xi D 918 t.toNat) p ≠ 0)
theorem ino_x {W T1 X : sS} {ts : Nat} {o q E : Int} (w : RLW W X) (t3 : TX3 W) (sl : SLF W X) (sk : Xi W 895 3 = 53) (ky : KEYR (Xj W 880) (Xj X 911)) (c0 : 0 ≤ Xi W 876 6) (o0 : 0 ≤ o) (oq : o < q) (qE : q < E) (be : BE (Xi W ts) (Xi X 906) E) (b93 : Xi W ts q.toNat = 93) (l5 : Xi W 876 6 + (q - o) + 1 ≤ 5130) (io : INO W T1 ts (o + 1) q 1) : o + 2 ≤ q ∧ ∃ t p : Int, INX X E o q t p ∧ OKP W X t p ∧ (0 ≤ Xi W 246 8 → Xi W 246 8 < 1666 → Xi T1 246 8 = Xi W 246 8 + 1 ∧ Xi T1 274 (Xi W 246 8).toNat = t ∧ Xi T1 275 (Xi W 246 8).toNat = p ∧ ∀ j : Nat, j ≠ (Xi W 246 8).toNat → Xi T1 274 j = Xi W 274 j ∧ Xi T1 275 j = Xi W 275 j) := by sorry
end
section
/-! the [ ] of a rule's phrases -/
theorem br_3 {B : Nat → Int} {f : Int} (f0 : 0 ≤ f) : ∀ (n : Nat) (o : Int) (L : List (Int × Int)), brF B f n = some (o, L) → (∀ x ∈ L, x.1 + 2 ≤ x.2) → 3 * (L.length : Int) ≤ n ∧ (o ≠ -1 → f + 3 * L.length ≤ o ∧ o < f + n) := by sorry
theorem ich_x {W X S0 : sS} {f ts : Nat} {P E : Int} (v : ENV W X f) (sk : Xi W 895 3 = 53) (ky : KEYR (Xj W 880) (Xj X 911)) (hts : ts = txr W) (P0 : 0 ≤ P) (hE : E ≤ Xi W 876 5) (c0 : 0 ≤ Xi W 876 6) (l5 : Xi W 876 6 + (E - P) + 1 ≤ 5130) (k0 : KEP cYk cYf W S0) : ∀ (L : List (Int × Int)) (T : sS), ICH S0 ts L T → (∀ x ∈ L, P ≤ x.1 ∧ x.1 < x.2 ∧ x.2 < E ∧ Xi X 906 x.2.toNat = 93) → (∀ x ∈ L, x.1 + 2 ≤ x.2) ∧ (0 ≤ Xi S0 246 8 → Xi S0 246 8 + L.length ≤ 1666 → Xi T 246 8 = Xi S0 246 8 + L.length ∧ ICX X T E (Xi S0 246 8) (OKP W X) L) := by sorry
theorem tx_x {W A B X : sS} {f ts cl : Nat} {row P M : Int} (hcl : cl < 600) (v : ENV W X f) (sk : Xi W 895 3 = 53) (kA : KEP cYk cYf W A) (ky : KEYR (Xj W 880) (Xj X 911)) (hts : ts = txr W) (P0 : 0 ≤ P) (M0 : 0 ≤ M) (hE : P + M ≤ Xi W 876 5) (h5 : P + M ≤ 5000) (c0 : 0 ≤ Xi W 876 6) (l5 : Xi W 876 6 + M + 1 ≤ 5130) (eP : pc7 A row + 1 = P) (eM : Xj A 879 row.toNat = M) (sy : SYL A B ts cl row (P + M) (-1)) (n8 : 0 ≤ Xi A 246 8 ∧ 3 * Xi A 246 8 ≤ P) : ∃ L : List (Int × Int), brF (Xi X 906) P M.toNat = some (-1, L) ∧ Xi B 246 8 = Xi A 246 8 + L.length ∧ 3 * Xi B 246 8 ≤ P + M ∧ ICX X B (P + M) (Xi A 246 8) (OKP W X) L ∧ CLM B cl 7 0 (-1) (Xi A 246 8) P M (-1) ∧ KCL A B cl := by sorry
/-- only 'say' makes a clause of say -/
theorem tsy_7 {S : sS} {a b now f n w h t g m : Int} (y : TSY S a b now f n w h t g m) : f ≠ 7 := by sorry
theorem phx_kl {A B : sS} {ts cl : Nat} {key p e : Int} (hcl : cl < 600) (h : PHX A B ts cl key p e 1) (c : Xi A (276 + cl) 0 = 11) : KCL A B cl ∧ (key ≠ 43 → Xi B (276 + cl) 0 ≠ 7) := by sorry
end
section
/-! the phrases of a new rule: what the class keeps of their [ ] -/
/-- a text ends ahead of what follows it -/
def TLP (W : sS) : Prop := ∀ i : Int, 0 ≤ i → i + 1 < Xi W 876 7 → ty7 W i = 102 → pc7 W i + 1 + Xj W 879 i.toNat ≤ pc7 W (i + 1)
def IXP (W D T : sS) (c : Nat) : Prop := (0 ≤ Xi T (276 + c) 4 ∧ 0 ≤ Xi T (276 + c) 5 ∧ Xi T (276 + c) 4 + Xi T (276 + c) 5 ≤ Xi W 876 5) ∧ 0 ≤ Xi T (276 + c) 3 ∧ ∃ L : List (Int × Int), brF (Xi D 906) (Xi T (276 + c) 4) (Xi T (276 + c) 5).toNat = some (-1, L) ∧ Xi T (276 + c) 3 + L.length ≤ Xi T 246 8 ∧ ICX D T (Xi T (276 + c) 4 + Xi T (276 + c) 5) (Xi T (276 + c) 3) (OKP W D) L
theorem ixp_k {W D T T1 : sS} {c : Nat} (h : IXP W D T c) (e : ∀ j, Xi T1 (276 + c) j = Xi T (276 + c) j) (g : GRI T T1) : IXP W D T1 c := by sorry
theorem phc_i {W D : sS} {f ts c0 N ru base : Nat} {a : Int} (v : ENV W D f) (sk : Xi W 895 3 = 53) (ky : KEYR (Xj W 880) (Xj D 911)) (hts : ts = txr W) (tx : TXL W) (tl : TLP W) (h5 : Xi W 876 5 ≤ 5000) (e6 : Xi W 876 6 = Xi W 876 7) (ea : a = Xi W 899 5 + 1) (a0 : 0 ≤ a) (eb : (base : Int) = Xi W 246 5) (b5 : base + 8 ≤ 600) (hru : ru < 24) (ch : PCHN W D f c0 a N) (n8 : 0 ≤ Xi W 246 8 ∧ 3 * Xi W 246 8 ≤ pc7 W 0) : ∀ (n : Nat) (T : sS), n ≤ N → n ≤ 8 → PHC md_rr_rulePhrases__p W ru ts n T → Xi T 246 5 = Xi W 246 5 + n ∧ 0 ≤ Xi T 246 8 ∧ (n = 0 → 3 * Xi T 246 8 ≤ pc7 W 0) ∧ (0 < n → 3 * Xi T 246 8 ≤ pc7 W (eP7 W a (n - 1))) ∧ ∀ k : Nat, k < n → Xi T (276 + (base + k)) 0 = 7 → IXP W D T (base + k) := by sorry
/-! a new rule: what the class keeps of it means the same to the reference -/
theorem okp_c {U1 T B D' V : sS} {ru : Nat} {t p a o k : Int} (y : OKP B D' t p) (e4 : Xi B 895 4 = Xi D' 904 116) (e6 : Xi D' 904 116 = nnD (if o ≠ -1 then Xi V 21 o.toNat else if k ≠ -1 then k else Xi V 19 a.toNat)) (r1 : Xi U1 (248 + ru) 1 = a ∧ Xi U1 (248 + ru) 2 = o ∧ Xi U1 (248 + ru) 3 = k) (a0 : 0 ≤ a) (h19 : o ≠ -1 ∨ k ≠ -1 → 0 ≤ Xi V 19 a.toNat) (hr : -1 ≤ k ∧ ∀ j, -2 ≤ Xi V 19 j) (h21 : ∀ j, 0 ≤ Xi V 21 j) (kU : ∀ j, Xi U1 19 j = Xi V 19 j ∧ Xi U1 21 j = Xi V 21 j) (kT : KEP [(917, 919), (929, 930)] [(904, 19), (904, 32)] D' T) : OKC U1 T ru t p := by sorry
theorem rul_x {V U1 V' T : sS} {ts ru N K : Nat} {s hd g : Int} (rf : RULF V U1 V' T ts ru N K s hd g) (hru : ru < 24) (hK : 0 < K) (hV : HI V) (h5 : Xi V 876 5 ≤ 5000) (tlV : TLP V) (n8 : 0 ≤ Xi V 246 8 ∧ 3 * Xi V 246 8 ≤ pc7 V 0) (a1 : RVO U1 T) : GRI V U1 ∧ (∃ i : Int, 0 ≤ i ∧ i < Xi V 876 7 ∧ 3 * Xi U1 246 8 ≤ pc7 V i) ∧ (∀ c : Nat, rl0 U1 ru ≤ c → (c : Int) < rl0 U1 ru + Xi U1 (248 + ru) 6 → Xi U1 (276 + c) 0 = 7 → IXC1 U1 T ru c) ∧ (∀ k : Nat, k < N → Xi U1 (276 + ((Xi U1 (248 + ru) 7 + Xi U1 (248 + ru) 4).toNat + k)) 0 = 5 → Xi U1 (276 + ((Xi U1 (248 + ru) 7 + Xi U1 (248 + ru) 4).toNat + k)) 6 = -2 → nMU U1 ru) ∧ (∀ c j : Nat, (c : Int) < Xi V 246 5 → Xi U1 (276 + c) j = Xi V (276 + c) j) ∧ (∀ r j : Nat, r < 24 → r ≠ ru → Xi U1 (248 + r) j = Xi V (248 + r) j) ∧ Xi U1 246 2 = Xi V 246 2 + 1 ∧ Xi U1 (248 + ru) 5 = N := by sorry
end
section
/-! the readings go on: what the class keeps of texts and tests stays good -/
theorem sk_ge {B : Nat → Int} {e : Int} : ∀ (n : Nat) (p : Int), 0 ≤ p → e - p ≤ n → p ≤ sk7 B e p := by sorry
theorem tlp_x {V V' X : sS} {f n : Nat} {e : Int} {B K : Nat → Int} (sc : SCX V V' f) (kx : KEP [(907, 911)] [] X V') (cu : CUT B K e X n) (le : (f : Int) + Xi V 876 7 ≤ n) : TLP V := by sorry
theorem inx_k {S S1 : sS} {E o q t p : Int} (k : KEP [(906, 907), (911, 917)] [(904, 15)] S S1) (h : INX S E o q t p) : INX S1 E o q t p := by sorry
/-- it depends on what both have told alone -/
theorem ixc_k {U V X Y : sS} (a0 : RLA U X) (t3 : TX3 U) (a : KEP [(19, 20), (21, 22), (245, 246), (248, 272), (274, 876), (902, 904)] [(20, 1), (246, 2), (246, 8)] U V) (b : KEP [(906, 907), (911, 919), (929, 930)] [(904, 15), (904, 19), (904, 32)] X Y) (h : IXC U X) : IXC V Y := by sorry
theorem ixc1_y {U X Y : sS} {r c : Nat} (b : KEP [(906, 907), (911, 919), (929, 930)] [(904, 15), (904, 19), (904, 32)] X Y) (h : IXC1 U X r c) : IXC1 U Y r c := by sorry
theorem kep_sy {ks fs : List (Nat × Nat)} {S T : sS} (h : KEP ks fs S T) : KEP ks fs T S := by sorry
/-- PLACE tests that speak of the noun -/
def PLC (U : sS) : Prop := ∀ r k : Nat, (r : Int) < Xi U 246 2 → (k : Int) < Xi U (248 + r) 5 → Xi U (276 + ((Xi U (248 + r) 7 + Xi U (248 + r) 4).toNat + k)) 0 = 5 → Xi U (276 + ((Xi U (248 + r) 7 + Xi U (248 + r) 4).toNat + k)) 6 = -2 → nMU U r
theorem plc_g {V U1 S S1 : sS} (x : PLC V) (a : RLA V S) (a1 : RLW U1 S1) (rl : RUL V) (c2 : ∀ r j : Nat, (r : Int) < Xi V 246 2 → Xi U1 (248 + r) j = Xi V (248 + r) j) (cc : ∀ c j : Nat, (c : Int) < Xi V 246 5 → c < 600 → Xi U1 (276 + c) j = Xi V (276 + c) j) (gr : GR S1 S) : ∀ r k : Nat, (r : Int) < Xi V 246 2 → (k : Int) < Xi U1 (248 + r) 5 → Xi U1 (276 + ((Xi U1 (248 + r) 7 + Xi U1 (248 + r) 4).toNat + k)) 0 = 5 → Xi U1 (276 + ((Xi U1 (248 + r) 7 + Xi U1 (248 + r) 4).toNat + k)) 6 = -2 → nMU U1 r := by sorry
theorem plc_k {U V : sS} (a0 : Xi U 246 2 ≤ 24) (rl : RUL V) (u : ∀ r : Nat, (r : Int) < Xi U 246 2 → 0 ≤ Xi U (248 + r) 7 ∧ 0 ≤ Xi U (248 + r) 4 ∧ 0 ≤ Xi U (248 + r) 6) (a : KEP [(19, 20), (248, 876)] [(246, 2)] U V) (h : PLC U) : PLC V := by sorry
/-- what the class keeps, between sentences -/
def EXI (U X : sS) (a : Int) : Prop := IXC U X ∧ PLC U ∧ 3 * Xi U 246 8 ≤ a ∧ (Xi X 922 0 ≠ -1 ∧ Xi X 928 0 = 1)
theorem exi_s {U U1 X S1 : sS} {ts n : Nat} {e a a1 : Int} (x : EXI U X a) (tx : TXB U X ts n e) (a0 : RLA U X) (aE : RLA U1 S1) (u8 : Xi U1 876 8 = 0) (lt : a < a1) (std : STD U U1 X S1 ts n e a a1) : EXI U1 S1 a1 := by sorry
/-! both readings, with what the class keeps -/
/-- where the player is put at the end of a read (reference) -/
def PLD (R S1 : sS) : Prop := (S1 = R ∧ (Xi R 919 0 = 0 → ∀ o : Nat, (o : Int) < Xi R 904 19 → blR R (Xi R 918 o) 1 = 0)) ∨ (Xi R 919 0 = 0 ∧ ∃ o : Nat, (o : Int) < Xi R 904 19 ∧ blR R (Xi R 918 o) 1 ≠ 0 ∧ (∀ j : Nat, j < o → blR R (Xi R 918 j) 1 = 0) ∧ S1 = uI (uI R 919 0 (Int32.ofInt 1)) 920 0 (Int32.ofInt o))
def JO2 (ts n : Nat) (e : Int) (U X : sS) (a k : Int) : Prop := JOK ts n e U X a k ∧ EXI U X a
theorem st_step2 {U U1 X S1 : sS} {ts n : Nat} {e a a1 k : Int} (j : JO2 ts n e U X a k) (ht : tp ts) (c : CST ts U a U1 a1) (r : RSS n X S1) : SMF U1 S1 ∨ (JO2 ts n e U1 S1 a1 (k + 1) ∧ a < a1) := by sorry
theorem exi_0 {Q U0 B : sS} {ts n : Nat} {a : Int} (op : OPN U0 ts) (bg : BGS Q B n) (ha : 0 ≤ a) : EXI U0 (rs0 B) a := by sorry
theorem rd_all2 {ts n : Nat} {e : Int} (ht : tp ts) : ∀ (N K : Nat) {U X U' R : sS} {a a' k : Int}, JO2 ts n e U X a k → k ≤ a → PCS ts N U a U' a' → RCS n K X R → ¬ (a' < Xi U' 876 5 ∧ k + N < Xi U' 876 5 ∧ Xi U' 876 8 = 0) → ¬ (Xi R 904 62 = 0 ∧ Xi R 907 (Xi R 904 8).toNat ≠ 1) → N = K ∧ (SMF U' R ∨ (JO2 ts n e U' R a' (k + N) ∧ Xi R 904 8 = n)) := by sorry
/-- what both have read: the same fault, or both worlds agree -/
def RDD2 (U R : sS) (N : Int) : Prop := (SMF U R ∨ (Xi U 876 8 = 0 ∧ Xi R 904 62 = 0 ∧ Xi R 904 61 = N ∧ RLA U R ∧ ∃ a : Int, EXI U R a))
theorem rd_two2 {S Q U R : sS} {ts : Nat} {N : Int} (ht : tp ts) (e1 : Xi S 0 10 = Xi Q 904 1) (ky : KEYR (Xj S 880) (Xj Q 911)) (yt : ∀ j : Nat, (j : Int) < Xi S 0 10 → Xi S ts j = Xi Q 905 j) (kS : (∀ j : Nat, Xj U 880 j = Xj S 880 j) ∧ (∀ j : Nat, Xi U 902 j = Xi S 902 j) ∧ ∀ j : Nat, Xi U 903 j = Xi S 903 j) (r : RTX S ts N U) (s : SRY Q R) : (N = 0 → Xi U 876 8 = 0 ∧ Xi U 876 5 = Xi S 0 10 ∧ Xi R 904 62 = 2 ∧ Xi R 904 63 = Xi S 0 10) ∧ (N ≠ 0 → 0 < N ∧ RDD2 U R N) := by sorry
/-- the read of both: the same answer; behind a fault both are fresh, with the same fault; else both worlds agree ahead of what ends a read -/
theorem read_same2 {S Q S1 Q1 : sS} {ts : Nat} {z w : Int} (ht : tp ts) (e1 : Xi S 0 10 = Xi Q 904 1) (ky : KEYR (Xj S 880) (Xj Q 911)) (yt : ∀ j : Nat, (j : Int) < Xi S 0 10 → Xi S ts j = Xi Q 905 j) (FS : FR md_rs_read__t S S1) (r : RFN S ts S1 z) (m : MRN Q Q1 w) : z = w ∧ ((KCF S1 ∧ KRF Q1 ∧ Xi S1 0 11 = Xi Q1 904 62 ∧ Xi S1 0 11 ≠ 0) ∨ (∃ U R Y : sS, (RLA U R ∧ ∃ a : Int, EXI U R a) ∧ (Xi U 876 8 = 0 ∧ Xi R 904 62 = 0) ∧ EVR m_wo_placePlayer [.ref 20] (uI U 0 11 (Int32.ofInt (Xi U 876 8))) none Y ∧ EVR m_bo_putInOrder [.ref 246] Y none S1 ∧ FR md_bo_putInOrder__b Y S1 ∧ FR md_wo_placePlayer__b (uI U 0 11 (Int32.ofInt (Xi U 876 8))) Y ∧ (HI (uI U 0 11 (Int32.ofInt (Xi U 876 8))) ∧ HI Y) ∧ PLD R Q1 ∧ w = Xi R 904 61)) := by sorry
end
section
/-! what a read leaves, in both -/
theorem evr_q {d : Nat} {q : mT} {av : List Value} {S T : sS} {r : Option Value} {Q : pst} (h : Mt lay0 d q av S Q) (e : EVR q av S r T) : Q r T := by sorry
def cDU : List (Nat × Nat) := [(2, 20), (21, 22), (196, 220), (221, 272), (273, 876), (883, 888), (902, 904)]
theorem rlb_r {U U1 S S1 : sS} (a : RLB U S) (k : KEP cDU cBv U U1) (q : KEP cBS cBw S S1) (h8 : RBT U1 S1) (h10 : ROB U1 S1) (h12 : RAQ U1 S1) (h13 : RPR U1 S1) : RLB U1 S1 := by sorry
/-- nothing but the order of rules is changed -/
theorem rlb_rz {U U1 S : sS} (a : RLB U S) (k : KEP [(2, 20), (21, 24), (25, 65), (66, 106), (107, 147), (148, 188), (189, 195), (196, 220), (221, 272), (273, 876), (883, 888), (902, 904)] cBv U U1) : RLB U1 S := by sorry
theorem rlb_of {U S : sS} (a : RLA U S) : RLB U S := by sorry
theorem kab_q {S T : sS} (e : ∀ j, Xi T 6 j = Xi S 6 j) (k : Int) : kab T k = kab S k := by sorry
theorem srt_q {S T U V : sS} {i : Int} (i24 : i ≤ 24) (h : SRT S T i) (e6 : ∀ j, Xi U 6 j = Xi S 6 j) (er : ∀ r j : Nat, r < 24 → Xi U (248 + r) j = Xi S (248 + r) j) (e2 : ∀ j, Xi V 272 j = Xi T 272 j) : SRT U V i := by sorry
/-- PLACE tests of the reference -/
theorem plm_of {U S : sS} (a : RLB U S) (x : PLC U) : PLM S := by sorry
/-- the player's place: alike in both -/
theorem ply_s {X Y R Q1 : sS} (a : RLB X R) (p : PCI X Y (Xi X 5 2)) (q : PLD R Q1) : RLB Y Q1 ∧ KEP [(2, 22), (25, 904)] [(1, 3), (20, 1), (20, 12), (882, 3), (246, 2), (246, 8)] X Y ∧ KEP [(905, 919), (921, 993)] cBw R Q1 := by sorry
end
end
