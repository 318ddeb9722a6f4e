section
section
/-! the reference's world: what is told -/
/-- a text is the same as another -/
def smR (S : sS) (t : Nat) (a b : Int) : Nat → Int → Int
  | 0, _ => 1
  | n + 1, i => if Xi S t (a + i).toNat = Xi S t (b + i).toNat then smR S t a b n (i + 1) else 0
def sameR (S : sS) (a n b m : Int) : Int := if n = m then smR S 906 a b n.toNat 0 else 0
theorem smR_e {S : sS} {t : Nat} {a b n i : Int} (h : n ≤ i) : smR S t a b (n - i).toNat i = 1 := by sorry
theorem smR_s {S : sS} {t : Nat} {a b n i : Int} (hi : i < n) (h : Xi S t (a + i).toNat = Xi S t (b + i).toNat) : smR S t a b (n - i).toNat i = smR S t a b (n - (i + 1)).toNat (i + 1) := by sorry
theorem smR_f {S : sS} {t : Nat} {a b n i : Int} (hi : i < n) (h : Xi S t (a + i).toNat ≠ Xi S t (b + i).toNat) : smR S t a b (n - i).toNat i = 0 := by sorry
/-- a property of an object (930 .. 932) or of a kind (933 .. 935) is told: c = 930 or 933 -/
def otwR (S : sS) (p w wl v l : Int) : Prop := (Xi S 928 p.toNat = 1 → sameR S w wl v l = 0) ∧ (Xi S 928 p.toNat ≠ 1 → w ≠ v)
def tPR (S : sS) (c : Nat) (k v l : Int) : sS := uI (uI (uI S c k.toNat (Int32.ofInt 1)) (c + 1) k.toNat (Int32.ofInt v)) (c + 2) k.toNat (Int32.ofInt l)
def TPR1 (S S1 : sS) (z : Int) (c : Nat) (r p v l : Int) : Prop := ((Xi S c (12 * r + p).toNat ≠ 0 ∧ otwR S p (Xi S (c + 1) (12 * r + p).toNat) (Xi S (c + 2) (12 * r + p).toNat) v l) → z = 0 ∧ S1 = S) ∧ (¬ (Xi S c (12 * r + p).toNat ≠ 0 ∧ otwR S p (Xi S (c + 1) (12 * r + p).toNat) (Xi S (c + 2) (12 * r + p).toNat) v l) → z = 1 ∧ S1 = tPR S c (12 * r + p) v l)
def TRD (S S1 : sS) (z o a i : Int) : Prop := (a < 100 → TISR S S1 z 925 (24 * o) a i) ∧ (100 ≤ a → TPR1 S S1 z 930 o (a % 100) (a / 100 - 1) 0)
def wiN (S : sS) (h : Int) : Nat → Int → Int
  | 0, _ => 0
  | n + 1, x => if x = -1 then 0 else if x = h then 1 else wiN S h n (if Xi S 919 x.toNat = 0 then -1 else Xi S 920 x.toNat)
def wiR (S : sS) (o h : Int) : Int := wiN S h 25 o
theorem wiN_e {S : sS} {h x i : Int} (q : x = -1 ∨ 25 ≤ i) : wiN S h (25 - i).toNat x = 0 := by sorry
theorem wiN_f {S : sS} {h x i : Int} (h1 : x ≠ -1) (hi : i < 25) (e : x = h) : wiN S h (25 - i).toNat x = 1 := by sorry
theorem wiN_s {S : sS} {h x i : Int} (h1 : x ≠ -1) (hi : i < 25) (e : x ≠ h) : wiN S h (25 - i).toNat x = wiN S h (25 - (i + 1)).toNat (if Xi S 919 x.toNat = 0 then -1 else Xi S 920 x.toNat) := by sorry
/-- an object is placed -/
def PLBR (S S1 : sS) (o t : Int) : Prop :=
  ((blR S (Xi S 918 o.toNat) 0 = 0 ∨ (Xi S 919 o.toNat ≠ 0 ∧ (Xi S 919 o.toNat ≠ Xi S 904 73 ∨ Xi S 920 o.toNat ≠ rnR S (Xi S 904 74) 4))) → NTB (NT3 S1) 5 (Xi S 908 t.toNat)) ∧
  (¬ (blR S (Xi S 918 o.toNat) 0 = 0 ∨ (Xi S 919 o.toNat ≠ 0 ∧ (Xi S 919 o.toNat ≠ Xi S 904 73 ∨ Xi S 920 o.toNat ≠ rnR S (Xi S 904 74) 4))) → wiR S (rnR S (Xi S 904 74) 4) o ≠ 0 → NTB (NT3 S1) 6 (Xi S 908 t.toNat)) ∧
  (¬ (blR S (Xi S 918 o.toNat) 0 = 0 ∨ (Xi S 919 o.toNat ≠ 0 ∧ (Xi S 919 o.toNat ≠ Xi S 904 73 ∨ Xi S 920 o.toNat ≠ rnR S (Xi S 904 74) 4))) → wiR S (rnR S (Xi S 904 74) 4) o = 0 → S1 = uI (uI S 919 o.toNat (Int32.ofInt (Xi S 904 73))) 920 o.toNat (Int32.ofInt (rnR S (Xi S 904 74) 4)))

abbrev Q_mo_isSameText__p (S : sS) (a : Int) (n : Int) (b : Int) (m : Int) : pst := fun r S1 => S = S1 ∧ (∃ z : Int, r = some (iv z) ∧ (0 ≤ z ∧ z ≤ 1) ∧ (z = sameR S a n b m))
set_option maxRecDepth 100000 in
theorem t_mo_isSameText__p {S : sS} (hH : RI S) (a : Int) (n : Int) (b : Int) (m : Int) (ha : -2147483648 ≤ a ∧ a ≤ 2147483647) (hn : -2147483648 ≤ n ∧ n ≤ 2147483647) (hb : -2147483648 ≤ b ∧ b ≤ 2147483647) (hm : -2147483648 ≤ m ∧ m ≤ 2147483647) (d : Nat) : Mp lay0 (d + 1) m_mo_isSameText [.ref 904, iv a, iv n, iv b, iv m] S (Q_mo_isSameText__p S a n b m) := by sorry
abbrev Q_mo_tellsOtherwise__p (S : sS) (p : Int) (w : Int) (wl : Int) (v : Int) (l : Int) : pst := fun r S1 => S = S1 ∧ (∃ z : Int, r = some (iv z) ∧ (0 ≤ z ∧ z ≤ 1) ∧ ((z = 1 → otwR S p w wl v l) ∧ (z = 0 → ¬ otwR S p w wl v l)))
set_option maxRecDepth 100000 in
theorem t_mo_tellsOtherwise__p {S : sS} (hH : RI S) (p : Int) (w : Int) (wl : Int) (v : Int) (l : Int) (hp : -2147483648 ≤ p ∧ p ≤ 2147483647) (hw : -2147483648 ≤ w ∧ w ≤ 2147483647) (hwl : -2147483648 ≤ wl ∧ wl ≤ 2147483647) (hv : -2147483648 ≤ v ∧ v ≤ 2147483647) (hl : -2147483648 ≤ l ∧ l ≤ 2147483647) (d : Nat) : Mp lay0 (d + 2) m_mo_tellsOtherwise [.ref 904, iv p, iv w, iv wl, iv v, iv l] S (Q_mo_tellsOtherwise__p S p w wl v l) := by sorry
def md_mo_tellObject__p : List rec := [(930, 931, 0, 100000), (931, 932, 0, 100000), (932, 933, 0, 100000)]
abbrev Q_mo_tellObject__p (S : sS) (ro : Int) (p : Int) (v : Int) (l : Int) : pst := fun r S1 => RI S1 ∧ FR md_mo_tellObject__p S S1 ∧ (∃ z : Int, r = some (iv z) ∧ (0 ≤ z ∧ z ≤ 1) ∧ (TPR1 S S1 z 930 ro p v l))
set_option maxRecDepth 100000 in
theorem t_mo_tellObject__p {S : sS} (hH : RI S) (ro : Int) (p : Int) (v : Int) (l : Int) (hro : 0 ≤ ro ∧ ro ≤ 200) (hp : 0 ≤ p ∧ p ≤ 100) (hv : -2147483648 ≤ v ∧ v ≤ 2147483647) (hl : -2147483648 ≤ l ∧ l ≤ 2147483647) (d : Nat) : Mp lay0 (d + 3) m_mo_tellObject [.ref 904, iv ro, iv p, iv v, iv l] S (Q_mo_tellObject__p S ro p v l) := by sorry
def md_mo_tellKind__p : List rec := [(933, 934, 0, 100000), (934, 935, 0, 100000), (935, 936, 0, 100000)]
abbrev Q_mo_tellKind__p (S : sS) (ro : Int) (p : Int) (v : Int) (l : Int) : pst := fun r S1 => RI S1 ∧ FR md_mo_tellKind__p S S1 ∧ (∃ z : Int, r = some (iv z) ∧ (0 ≤ z ∧ z ≤ 1) ∧ (TPR1 S S1 z 933 ro p v l))
set_option maxRecDepth 100000 in
theorem t_mo_tellKind__p {S : sS} (hH : RI S) (ro : Int) (p : Int) (v : Int) (l : Int) (hro : 0 ≤ ro ∧ ro ≤ 200) (hp : 0 ≤ p ∧ p ≤ 100) (hv : -2147483648 ≤ v ∧ v ≤ 2147483647) (hl : -2147483648 ≤ l ∧ l ≤ 2147483647) (d : Nat) : Mp lay0 (d + 3) m_mo_tellKind [.ref 904, iv ro, iv p, iv v, iv l] S (Q_mo_tellKind__p S ro p v l) := by sorry
def md_mo_tellRead__p : List rec := [(925, 926, 0, 100000), (926, 927, 0, 100000), (930, 931, 0, 100000), (931, 932, 0, 100000), (932, 933, 0, 100000)]
abbrev Q_mo_tellRead__p (S : sS) (o : Int) (a : Int) (iss : Int) : pst := fun r S1 => RI S1 ∧ FR md_mo_tellRead__p S S1 ∧ (∃ z : Int, r = some (iv z) ∧ (0 ≤ z ∧ z ≤ 1) ∧ (TRD S S1 z o a iss))
set_option maxRecDepth 100000 in
theorem t_mo_tellRead__p {S : sS} (hH : RI S) (o : Int) (a : Int) (iss : Int) (ho : 0 ≤ o ∧ o ≤ 23) (ha : 0 ≤ a ∧ a ≤ 7000) (hiss : 0 ≤ iss ∧ iss ≤ 1) (hct : Hid (∀ j : Nat, -1 ≤ Xi S 922 j ∧ Xi S 922 j ≤ 23)) (d : Nat) : Mp lay0 (d + 4) m_mo_tellRead [.ref 904, iv o, iv a, iv iss] S (Q_mo_tellRead__p S o a iss) := by sorry
abbrev Q_mo_isWithin__p (S : sS) (o : Int) (h : Int) : pst := fun r S1 => S = S1 ∧ (∃ z : Int, r = some (iv z) ∧ (0 ≤ z ∧ z ≤ 1) ∧ (z = wiR S o h))
set_option maxRecDepth 100000 in
theorem t_mo_isWithin__p {S : sS} (hH : RI S) (o : Int) (h : Int) (ho : -2147483648 ≤ o ∧ o ≤ 2147483647) (hh : -2147483648 ≤ h ∧ h ≤ 2147483647) (d : Nat) : Mp lay0 (d + 1) m_mo_isWithin [.ref 904, iv o, iv h] S (Q_mo_isWithin__p S o h) := by sorry
def md_mo_placeObject__p : List rec := [(904, 905, 105, 106), (904, 905, 106, 107), (919, 920, 0, 100000), (920, 921, 0, 100000)]
abbrev Q_mo_placeObject__p (S : sS) (o : Int) (t : Int) : pst := fun r S1 => RI S1 ∧ FR md_mo_placeObject__p S S1 ∧ (r = none ∧ (PLBR S S1 o t))
set_option maxRecDepth 100000 in
theorem t_mo_placeObject__p {S : sS} (hH : RI S) (o : Int) (t : Int) (ho : 0 ≤ o ∧ o ≤ 23) (ht : -2147483648 ≤ t ∧ t ≤ 2147483647) (hLS : LSP S) (h15 : 0 ≤ Xi S 904 15) (hRB : RBD S) (hB : ABV S) (hko : Hid (∀ j : Nat, -1 ≤ Xi S 918 j ∧ Xi S 918 j ≤ 15)) (hLX : LXR S) (hz0 : Xi S 904 106 = 0) (hr74 : -1 ≤ Xi S 904 74 ∧ Xi S 904 74 ≤ 2600) (d : Nat) : Mp lay0 (d + 5) m_mo_placeObject [.ref 904, iv o, iv t] S (Q_mo_placeObject__p S o t) := by sorry
end
section
/-! 12, 13: the reference does -/
/-- (no bound is needed any more: a text that is compared lies in the story) -/
def VB3 (_ : sS) : Prop := True
def KB3 (S : sS) : Prop := ∀ j : Nat, -1 ≤ Xi S 918 j ∧ Xi S 918 j ≤ 15
def RK1 (S S1 : sS) (o k : Int) : Prop := (blR S k (Xi S 918 o.toNat) ≠ 0 ∧ S1 = uI S 918 o.toNat (Int32.ofInt k)) ∨ (blR S k (Xi S 918 o.toNat) = 0 ∧ blR S (Xi S 918 o.toNat) k ≠ 0 ∧ S1 = S)
def RK0 (S : sS) (o k : Int) : Prop := blR S k (Xi S 918 o.toNat) = 0 ∧ blR S (Xi S 918 o.toNat) k = 0
def RAC (S C : sS) (o : Int) : Nat → sS → Prop
  | 0, V => V = C
  | n + 1, V => ∃ W : sS, RAC S C o n W ∧ TRD W V 1 o (Xi S 967 n) 1
/-- where the list's first object is kept -/
def sD (A : sS) (n : Nat) (o : Int) : sS := uI A 904 60 (Int32.ofInt (if n = 0 then o else Xi A 904 60))
/-- told, with the kind; told, with the adjectives too -/
def RQA (S W A : sS) (o : Int) (n : Nat) : Prop := ∃ B : sS, OTR W B o (Xi S 904 71 + n) (if Xi S 904 70 = 13 then 0 else Xi S 904 110) ∧ FR lOT W B ∧ A = sD B n o
def RQB (S W B : sS) (o : Int) (n : Nat) : Prop := ∃ A : sS, RQA S W A o n ∧ (Xi S 904 70 = 13 → B = A) ∧ (Xi S 904 70 ≠ 13 → ∃ C : sS, RK1 A C o (Xi S 904 110) ∧ RAC S C o (Xi S 904 112).toNat B)
def PLN (B : sS) (o : Int) : Prop := ¬ (blR B (Xi B 918 o.toNat) 0 = 0 ∨ (Xi B 919 o.toNat ≠ 0 ∧ (Xi B 919 o.toNat ≠ Xi B 904 73 ∨ Xi B 920 o.toNat ≠ rnR B (Xi B 904 74) 4)))
def RO1 (S W V : sS) (o : Int) (n : Nat) : Prop := ∃ B : sS, RQB S W B o n ∧ (Xi S 904 73 ≤ 0 → V = B) ∧ (0 < Xi S 904 73 → PLN B o ∧ wiR B (rnR B (Xi B 904 74) 4) o = 0 ∧ V = uI (uI B 919 o.toNat (Int32.ofInt (Xi B 904 73))) 920 o.toNat (Int32.ofInt (rnR B (Xi B 904 74) 4)))
def ROF (S W : sS) (o : Int) (n : Nat) (c : Int) : Prop :=
  (Xi S 904 70 ≠ 13 ∧ c = 5 ∧ ∃ A : sS, RQA S W A o n ∧ RK0 A o (Xi S 904 110)) ∨
  (Xi S 904 70 ≠ 13 ∧ c = 5 ∧ ∃ (A C D E : sS) (i : Nat), RQA S W A o n ∧ RK1 A C o (Xi S 904 110) ∧ (i : Int) < Xi S 904 112 ∧ RAC S C o i D ∧ TRD D E 0 o (Xi S 967 i) 1) ∨
  (0 < Xi S 904 73 ∧ ∃ B : sS, RQB S W B o n ∧ ((c = 5 ∧ ¬ PLN B o) ∨ (c = 6 ∧ PLN B o ∧ wiR B (rnR B (Xi B 904 74) 4) o ≠ 0)))
def RDC (S : sS) : Nat → sS → Prop
  | 0, V => V = S
  | n + 1, V => ∃ (W : sS) (o : Int), RDC S n W ∧ RO1 S W V o n
def RFB (S S1 : sS) : Prop := ∃ (i : Nat) (W : sS) (o c : Int), i < (Xi S 904 72).toNat ∧ RDC S i W ∧ ROF S W o i c ∧ NTB (NT3 S1) c (pR S (Xi S 904 71 + i))
def RDB (S S1 : sS) : Prop := (Xi S1 904 106 = 0 ∧ RDC S (Xi S 904 72).toNat S1) ∨ (Xi S1 904 106 ≠ 0 ∧ RFB S S1)
/-- words told stay -/
def GRR (S W : sS) : Prop := ∀ r s : Int, rnR S r s ≠ -1 → rnR W r s = rnR S r s
theorem GRR_sm {S W V : sS} (h : GRR S W) (s : SMR W V) : GRR S V := by sorry
/-- entries of objects are objects -/
def OB4 (W : sS) : Prop := ∀ k : Nat, (k : Int) < Xi W 904 15 → Xi W 914 k = 4 → 0 ≤ Xi W 915 k ∧ Xi W 915 k < Xi W 904 19
theorem rnR_o {W : sS} {r : Int} (h : OB4 W) (h15 : 0 ≤ Xi W 904 15) (q : rnR W r 4 ≠ -1) : 0 ≤ rnR W r 4 ∧ rnR W r 4 < Xi W 904 19 := by sorry
theorem otr_g {S W A : sS} {z r k : Int} {l : List rec} (g : GRR S W) (o : OTR W A z r k) (F : FR l W A) (h15 : 0 ≤ Xi W 904 15) (e : kdis l [(910, 911), (950, 952)] = true) : GRR S A ∧ 0 ≤ Xi A 904 15 ∧ (rnR W r 4 ≠ -1 → Xi A 904 15 = Xi W 904 15 ∧ Xi A 904 19 = Xi W 904 19) ∧ (rnR W r 4 = -1 → Xi A 904 15 = Xi W 904 15 + 1 ∧ Xi A 904 19 = Xi W 904 19 + 1) := by sorry
theorem otr_l {W A : sS} {z r k : Int} (o : OTR W A z r k) (h15 : 0 ≤ Xi W 904 15) (h : LSP W) : LSP A := by sorry
theorem otr_k {W A : sS} {z r k : Int} (o : OTR W A z r k) (h : KB3 W) (hk : -1 ≤ k ∧ k ≤ 15) : KB3 A := by sorry
/-- the objects are enough -/
theorem otr_c {S W : sS} {n : Nat} (q : OKQ S (Xi S 904 71) n) (g : GRR S W) (c : Xi W 904 19 ≤ Xi S 904 19 + nwm S (Xi S 904 71) n) (hw : rnR W (Xi S 904 71 + n) 4 = -1) : Xi W 904 19 ≤ 23 ∧ nwm S (Xi S 904 71) (n + 1) = nwm S (Xi S 904 71) n + 1 := by sorry
theorem trd_v {S S1 : sS} {z o a i : Int} (t : TRD S S1 z o a i) (h : VB3 S) (ha : 0 ≤ a ∧ a ≤ 7000) (ho : 0 ≤ o) : VB3 S1 ∧ SMR S S1 := by sorry
/-- what the list keeps -/
def KPR (S W : sS) (n : Nat) : Prop := GRR S W ∧ LSP W ∧ LXR W ∧ KB3 W ∧ VB3 W ∧ OB4 W ∧ 0 ≤ Xi W 904 15 ∧ (0 ≤ Xi W 904 19 ∧ Xi W 904 19 ≤ 24) ∧ Xi W 904 19 ≤ Xi S 904 19 + nwm S (Xi S 904 71) n
theorem kpr_s {S W V : sS} {n : Nat} (h : KPR S W n) (m : SMR W V) (e : Xi V 904 19 = Xi W 904 19) (k : KB3 V) (v : VB3 V) : KPR S V n := by sorry
theorem kpr_o {S W A : sS} {n : Nat} {z k : Int} {l : List rec} (h : KPR S W n) (q : OKQ S (Xi S 904 71) n) (o : OTR W A z (Xi S 904 71 + n) k) (F : FR l W A) (e : kdis l [(910, 911), (950, 952)] = true) (e2 : kdis l [(931, 933)] = true) (hk : -1 ≤ k ∧ k ≤ 15) : KPR S A (n + 1) ∧ 0 ≤ z ∧ z ≤ 23 := by sorry
theorem kpr_0 {S : sS} (h2 : LSP S) (h3 : LXR S) (h4 : KB3 S) (h5 : VB3 S) (h6 : OB4 S) (h7 : 0 ≤ Xi S 904 15) (h8 : 0 ≤ Xi S 904 19 ∧ Xi S 904 19 ≤ 24) : KPR S S 0 := by sorry
theorem plb_c {P V : sS} {o t : Int} (h : PLBR P V o t) (z : Xi P 904 106 = 0) : (Xi V 904 106 = 0 → PLN P o ∧ wiR P (rnR P (Xi P 904 74) 4) o = 0 ∧ V = uI (uI P 919 o.toNat (Int32.ofInt (Xi P 904 73))) 920 o.toNat (Int32.ofInt (rnR P (Xi P 904 74) 4))) ∧ (Xi V 904 106 ≠ 0 → ∃ c : Int, NTB (NT3 V) c (Xi P 908 t.toNat) ∧ ((c = 5 ∧ ¬ PLN P o) ∨ (c = 6 ∧ PLN P o ∧ wiR P (rnR P (Xi P 904 74) 4) o ≠ 0))) := by sorry
theorem kb3_w {S V : sS} {o k : Int} (e : V = uI S 918 o.toNat (Int32.ofInt k)) (h : KB3 S) (hk : -1 ≤ k ∧ k ≤ 15) : KB3 V := by sorry
def md_mo_doDescribed__p : List rec := [(904, 905, 15, 16), (904, 905, 19, 20), (904, 905, 60, 61), (904, 905, 105, 106), (904, 905, 106, 107), (912, 913, 0, 100000), (913, 914, 0, 100000), (914, 915, 0, 100000), (915, 916, 0, 100000), (916, 917, 0, 100000), (918, 919, 0, 100000), (919, 920, 0, 100000), (920, 921, 0, 100000), (925, 926, 0, 100000), (926, 927, 0, 100000), (930, 931, 0, 100000), (931, 932, 0, 100000), (932, 933, 0, 100000)]
abbrev Q_mo_doDescribed__p (S : sS) : pst := fun r S1 => RI S1 ∧ FR md_mo_doDescribed__p S S1 ∧ (r = none ∧ (RDB S S1))
set_option maxRecDepth 100000 in
theorem t_mo_doDescribed__p {S : sS} (hH : RI S) (hLS : LSP S) (h15 : 0 ≤ Xi S 904 15) (hRB : RBD S) (hLX : LXR S) (hB : ABV S) (hl : 0 ≤ Xi S 904 71 ∧ Xi S 904 71 ≤ 2600 ∧ 0 ≤ Xi S 904 72 ∧ Xi S 904 72 ≤ 2600) (hkb : Hid (KB3 S)) (ho4 : Hid (OB4 S)) (hct : Hid (∀ j : Nat, -1 ≤ Xi S 922 j ∧ Xi S 922 j ≤ 23)) (hz0 : Xi S 904 106 = 0) (ha : 0 ≤ Xi S 904 19 ∧ Xi S 904 19 ≤ 24) (hr74 : -1 ≤ Xi S 904 74 ∧ Xi S 904 74 ≤ 2600) (hlq : Hid (LOQ S (Xi S 904 71) (Xi S 904 72).toNat)) (h110 : -1 ≤ Xi S 904 110 ∧ Xi S 904 110 ≤ 15) (h112 : 0 ≤ Xi S 904 112 ∧ Xi S 904 112 ≤ 6) (hra : Hid (Xi S 904 70 ≠ 13 → ∀ i : Nat, (i : Int) < Xi S 904 112 → 0 ≤ Xi S 967 i ∧ Xi S 967 i ≤ 7000)) (d : Nat) : Mp lay0 (d + 6) m_mo_doDescribed [.ref 904] S (Q_mo_doDescribed__p S) := by sorry
def md_mo_does__12 : List rec := [(904, 905, 15, 16), (904, 905, 16, 17), (904, 905, 18, 19), (904, 905, 19, 20), (904, 905, 23, 24), (904, 905, 30, 31), (904, 905, 32, 33), (904, 905, 41, 42), (904, 905, 47, 48), (904, 905, 49, 50), (904, 905, 51, 52), (904, 905, 55, 56), (904, 905, 60, 61), (904, 905, 64, 65), (904, 905, 73, 74), (904, 905, 105, 106), (904, 905, 106, 107), (904, 905, 113, 114), (904, 905, 117, 118), (912, 913, 0, 100000), (913, 914, 0, 100000), (914, 915, 0, 100000), (915, 916, 0, 100000), (916, 917, 0, 100000), (917, 918, 0, 100000), (918, 919, 0, 100000), (919, 920, 0, 100000), (920, 921, 0, 100000), (921, 922, 0, 100000), (922, 923, 0, 100000), (923, 924, 0, 100000), (924, 925, 0, 100000), (925, 926, 0, 100000), (926, 927, 0, 100000), (927, 928, 0, 100000), (928, 929, 0, 100000), (929, 930, 0, 100000), (930, 931, 0, 100000), (931, 932, 0, 100000), (932, 933, 0, 100000), (933, 934, 0, 100000), (934, 935, 0, 100000), (935, 936, 0, 100000), (936, 937, 0, 100000), (937, 938, 0, 100000), (938, 939, 0, 100000), (939, 940, 0, 100000), (940, 941, 0, 100000), (941, 942, 0, 100000), (942, 943, 0, 100000), (943, 944, 0, 100000), (944, 945, 0, 100000), (945, 946, 0, 100000), (946, 947, 0, 100000), (947, 948, 0, 100000), (948, 949, 0, 100000), (949, 950, 0, 100000)]
abbrev Q_mo_does__12 (S : sS) (first : Int) : pst := fun r S1 => RI S1 ∧ FR md_mo_does__12 S S1 ∧ (r = none ∧ (RDB S S1))
set_option maxRecDepth 100000 in
theorem t_mo_does__12 {S : sS} (hH : RI S) (first : Int) (hfirst : 0 ≤ first ∧ first ≤ 5001) (hLS : LSP S) (h15 : 0 ≤ Xi S 904 15) (hRB : RBD S) (hLX : LXR S) (hB : ABV S) (hl : 0 ≤ Xi S 904 71 ∧ Xi S 904 71 ≤ 2600 ∧ 0 ≤ Xi S 904 72 ∧ Xi S 904 72 ≤ 2600) (hkb : Hid (KB3 S)) (ho4 : Hid (OB4 S)) (hct : Hid (∀ j : Nat, -1 ≤ Xi S 922 j ∧ Xi S 922 j ≤ 23)) (hz0 : Xi S 904 106 = 0) (ha : 0 ≤ Xi S 904 19 ∧ Xi S 904 19 ≤ 24) (hr74 : -1 ≤ Xi S 904 74 ∧ Xi S 904 74 ≤ 2600) (hlq : Hid (LOQ S (Xi S 904 71) (Xi S 904 72).toNat)) (h110 : -1 ≤ Xi S 904 110 ∧ Xi S 904 110 ≤ 15) (h112 : 0 ≤ Xi S 904 112 ∧ Xi S 904 112 ≤ 6) (hra : Hid (Xi S 904 70 ≠ 13 → ∀ i : Nat, (i : Int) < Xi S 904 112 → 0 ≤ Xi S 967 i ∧ Xi S 967 i ≤ 7000)) (hs : Xi S 904 70 = 12) (d : Nat) : Mp lay0 (d + 8) m_mo_does [.ref 904, iv first] S (Q_mo_does__12 S first) := by sorry
def md_mo_does__13 : List rec := [(904, 905, 15, 16), (904, 905, 16, 17), (904, 905, 18, 19), (904, 905, 19, 20), (904, 905, 23, 24), (904, 905, 30, 31), (904, 905, 32, 33), (904, 905, 41, 42), (904, 905, 47, 48), (904, 905, 49, 50), (904, 905, 51, 52), (904, 905, 55, 56), (904, 905, 60, 61), (904, 905, 64, 65), (904, 905, 73, 74), (904, 905, 105, 106), (904, 905, 106, 107), (904, 905, 113, 114), (904, 905, 117, 118), (912, 913, 0, 100000), (913, 914, 0, 100000), (914, 915, 0, 100000), (915, 916, 0, 100000), (916, 917, 0, 100000), (917, 918, 0, 100000), (918, 919, 0, 100000), (919, 920, 0, 100000), (920, 921, 0, 100000), (921, 922, 0, 100000), (922, 923, 0, 100000), (923, 924, 0, 100000), (924, 925, 0, 100000), (925, 926, 0, 100000), (926, 927, 0, 100000), (927, 928, 0, 100000), (928, 929, 0, 100000), (929, 930, 0, 100000), (930, 931, 0, 100000), (931, 932, 0, 100000), (932, 933, 0, 100000), (933, 934, 0, 100000), (934, 935, 0, 100000), (935, 936, 0, 100000), (936, 937, 0, 100000), (937, 938, 0, 100000), (938, 939, 0, 100000), (939, 940, 0, 100000), (940, 941, 0, 100000), (941, 942, 0, 100000), (942, 943, 0, 100000), (943, 944, 0, 100000), (944, 945, 0, 100000), (945, 946, 0, 100000), (946, 947, 0, 100000), (947, 948, 0, 100000), (948, 949, 0, 100000), (949, 950, 0, 100000)]
abbrev Q_mo_does__13 (S : sS) (first : Int) : pst := fun r S1 => RI S1 ∧ FR md_mo_does__13 S S1 ∧ (r = none ∧ (RDB S S1))
set_option maxRecDepth 100000 in
theorem t_mo_does__13 {S : sS} (hH : RI S) (first : Int) (hfirst : 0 ≤ first ∧ first ≤ 5001) (hLS : LSP S) (h15 : 0 ≤ Xi S 904 15) (hRB : RBD S) (hLX : LXR S) (hB : ABV S) (hl : 0 ≤ Xi S 904 71 ∧ Xi S 904 71 ≤ 2600 ∧ 0 ≤ Xi S 904 72 ∧ Xi S 904 72 ≤ 2600) (hkb : Hid (KB3 S)) (ho4 : Hid (OB4 S)) (hct : Hid (∀ j : Nat, -1 ≤ Xi S 922 j ∧ Xi S 922 j ≤ 23)) (hz0 : Xi S 904 106 = 0) (ha : 0 ≤ Xi S 904 19 ∧ Xi S 904 19 ≤ 24) (hr74 : -1 ≤ Xi S 904 74 ∧ Xi S 904 74 ≤ 2600) (hlq : Hid (LOQ S (Xi S 904 71) (Xi S 904 72).toNat)) (h110 : -1 ≤ Xi S 904 110 ∧ Xi S 904 110 ≤ 15) (h112 : 0 ≤ Xi S 904 112 ∧ Xi S 904 112 ≤ 6) (hra : Hid (Xi S 904 70 ≠ 13 → ∀ i : Nat, (i : Int) < Xi S 904 112 → 0 ≤ Xi S 967 i ∧ Xi S 967 i ≤ 7000)) (hs : Xi S 904 70 = 13) (d : Nat) : Mp lay0 (d + 8) m_mo_does [.ref 904, iv first] S (Q_mo_does__13 S first) := by sorry
end
end
section
section
/-! 9: the class tells -/
def pOK (S : sS) (a b k num : Int) : Prop := mnV S a b / 256 = 5 ∧ (num = 0 ∨ Xi S 9 (mnV S a b % 256).toNat = 0) ∧ (k = -1 ∨ iandF (ishrF (pps S k) (mnV S a b % 256)) 1 ≠ 0)
def RPC (S S1 : sS) (z a b k num : Int) : Prop := (pOK S a b k num → z = mnV S a b % 256 ∧ S1 = S) ∧ (¬ pOK S a b k num → z = -1 ∧ (Xi S 876 8 = 0 → FTO S S1 4 a))
/-- numbers and lengths of texts are small -/
def NVL (S : sS) : Prop := ∀ j : Nat, (j : Int) < Xi S 876 7 → Xi S 877 j = 101 → 0 ≤ Xj S 879 j ∧ Xj S 879 j ≤ 2147483647
def WHR (S : sS) (r tp v l : Int) : Prop :=
  (tp = 0 ∧ ty7 S r = 101 ∧ v = Xj S 879 r.toNat ∧ l = 0) ∨ (tp = 1 ∧ ty7 S r = 102 ∧ v = pc7 S r + 1 ∧ l = Xj S 879 r.toNat) ∨
  (¬ (tp = 0 ∧ ty7 S r = 101) ∧ ¬ (tp = 1 ∧ ty7 S r = 102) ∧ ty7 S r = 100 ∧ mnV S r (ruF S r (r + 4)) / 256 = 4 ∧ Xi S 8 (mnV S r (ruF S r (r + 4)) % 256).toNat = tp ∧ v = mnV S r (ruF S r (r + 4)) % 256 ∧ l = 0)
def WHP (S S1 : sS) (z r tp : Int) : Prop := (z = 1 → WHR S r tp (Xi S1 895 10) (Xi S1 895 11)) ∧ (z = 0 → (∀ v l : Int, ¬ WHR S r tp v l) ∧ (Xi S 876 8 = 0 → FTO S S1 4 r))
theorem whr_n {S : sS} {r tp : Int} (h1 : ¬ (tp = 0 ∧ ty7 S r = 101)) (h2 : ¬ (tp = 1 ∧ ty7 S r = 102)) (h3 : ¬ (ty7 S r = 100 ∧ mnV S r (ruF S r (r + 4)) / 256 = 4 ∧ Xi S 8 (mnV S r (ruF S r (r + 4)) % 256).toNat = tp)) : ∀ v l : Int, ¬ WHR S r tp v l := by sorry
/-- what the value is told of -/
def o9 (S : sS) (b e : Int) : Int := if mnV S b e / 256 = 2 then mnV S b e % 256 else if mnV S b e / 256 = 0 then 24 + mnV S b e % 256 else -1
def k9 (S : sS) (b e : Int) : Int := if mnV S b e / 256 = 2 then Xi S 21 (mnV S b e % 256).toNat else if mnV S b e / 256 = 0 then mnV S b e % 256 else -1
def TPY (g : List rec) (S S1 : sS) (z e1 b e2 w : Int) : Prop :=
  (¬ pOK S 1 e1 (k9 S b e2) 0 → z = 0 ∧ FTO S S1 4 1) ∧
  (pOK S 1 e1 (k9 S b e2) 0 → o9 S b e2 = -1 → z = 0 ∧ FTO S S1 4 b) ∧
  (pOK S 1 e1 (k9 S b e2) 0 → o9 S b e2 ≠ -1 → (∀ v l : Int, ¬ WHR S w (Xi S 9 (mnV S 1 e1 % 256).toNat) v l) → z = 0 ∧ FTO S S1 4 w) ∧
  (pOK S 1 e1 (k9 S b e2) 0 → o9 S b e2 ≠ -1 → (∃ v l : Int, WHR S w (Xi S 9 (mnV S 1 e1 % 256).toNat) v l) → ∃ (A B : sS) (v l y : Int), WHR S w (Xi S 9 (mnV S 1 e1 % 256).toNat) v l ∧ FR g S A ∧ TPC A B y (o9 S b e2) (mnV S 1 e1 % 256) v l ∧ (y = 1 → z = 1 ∧ S1 = B ∧ Xi S1 876 8 = 0) ∧ (y ≠ 1 → z = 0 ∧ FTO S S1 5 b))
theorem tpy_1 {g : List rec} {S S1 : sS} {z e1 b e2 w : Int} (h : ¬ pOK S 1 e1 (k9 S b e2) 0) (hz : z = 0) (f : FTO S S1 4 1) : TPY g S S1 z e1 b e2 w := by sorry
theorem tpy_2 {g : List rec} {S S1 : sS} {z e1 b e2 w : Int} (h : pOK S 1 e1 (k9 S b e2) 0) (o : o9 S b e2 = -1) (hz : z = 0) (f : FTO S S1 4 b) : TPY g S S1 z e1 b e2 w := by sorry
theorem tpy_3 {g : List rec} {S S1 : sS} {z e1 b e2 w : Int} (h : pOK S 1 e1 (k9 S b e2) 0) (o : o9 S b e2 ≠ -1) (n : ∀ v l : Int, ¬ WHR S w (Xi S 9 (mnV S 1 e1 % 256).toNat) v l) (hz : z = 0) (f : FTO S S1 4 w) : TPY g S S1 z e1 b e2 w := by sorry
theorem tpy_4 {g : List rec} {S S1 A B : sS} {z e1 b e2 w v l y : Int} (h : pOK S 1 e1 (k9 S b e2) 0) (o : o9 S b e2 ≠ -1) (n : WHR S w (Xi S 9 (mnV S 1 e1 % 256).toNat) v l) (F : FR g S A) (t : TPC A B y (o9 S b e2) (mnV S 1 e1 % 256) v l) (c1 : y = 1 → z = 1 ∧ S1 = B ∧ Xi S1 876 8 = 0) (c2 : y ≠ 1 → z = 0 ∧ FTO S S1 5 b) : TPY g S S1 z e1 b e2 w := by sorry
def MK15 (S : sS) : Prop := ∀ a b : Int, mnV S a b / 256 = 0 → mnV S a b % 256 ≤ 15

abbrev Q_to_valueAt__p (S : sS) (row : Int) : pst := fun r S1 => S = S1 ∧ (∃ z : Int, r = some (iv z) ∧ (-2147483648 ≤ z ∧ z ≤ 2147483647) ∧ (0 ≤ row → row < Xi S 876 7 → 0 ≤ Xj S 879 row.toNat → Xj S 879 row.toNat ≤ 2147483647 → z = Xj S 879 row.toNat))
set_option maxRecDepth 100000 in
theorem t_to_valueAt__p {S : sS} (hH : RI S) (row : Int) (hrow : -2147483648 ≤ row ∧ row ≤ 2147483647) (d : Nat) : Mp lay0 (d + 1) m_to_valueAt [.ref 876, iv row] S (Q_to_valueAt__p S row) := by sorry
def md_me_readProperty__p : List rec := [(876, 877, 8, 9), (876, 877, 9, 10)]
abbrev Q_me_readProperty__p (S : sS) (from_ : Int) (to : Int) (kind : Int) (num : Int) : pst := fun r S1 => RI S1 ∧ FR md_me_readProperty__p S S1 ∧ (∃ z : Int, r = some (iv z) ∧ (-2147483648 ≤ z ∧ z ≤ 2147483647) ∧ (RPC S S1 z from_ to kind num))
set_option maxRecDepth 100000 in
theorem t_me_readProperty__p {S : sS} (hH : RI S) (from_ : Int) (to : Int) (kind : Int) (num : Int) (hfrom_ : -1 ≤ from_ ∧ from_ ≤ 6000) (hto : -1 ≤ to ∧ to ≤ 6000) (hkind : -2147483648 ≤ kind ∧ kind ≤ 2147483647) (hnum : 0 ≤ num ∧ num ≤ 1) (h13 : 0 ≤ Xi S 1 3 ∧ Xi S 1 3 ≤ 200) (hCE : CEN S) (d : Nat) : Mp lay0 (d + 2) m_me_readProperty [.ref 895, iv from_, iv to, iv kind, iv num] S (Q_me_readProperty__p S from_ to kind num) := by sorry
def md_me_readWhat__p : List rec := [(876, 877, 8, 9), (876, 877, 9, 10), (895, 896, 10, 11), (895, 896, 11, 12)]
abbrev Q_me_readWhat__p (S : sS) (row : Int) (type : Int) : pst := fun r S1 => RI S1 ∧ FR md_me_readWhat__p S S1 ∧ (∃ z : Int, r = some (iv z) ∧ (0 ≤ z ∧ z ≤ 1) ∧ (WHP S S1 z row type) ∧ (z = 1 → TXT S1 (Xi S1 895 10) (Xi S1 895 11)) ∧ (z = 1 → Xi S1 876 8 = Xi S 876 8))
set_option maxRecDepth 100000 in
theorem t_me_readWhat__p {S : sS} (hH : RI S) (row : Int) (type : Int) (hrow : 0 ≤ row ∧ row ≤ 5140) (htype : -2147483648 ≤ type ∧ type ≤ 2147483647) (h13 : 0 ≤ Xi S 1 3 ∧ Xi S 1 3 ≤ 200) (hCE : CEN S) (hT : TOK S) (hS : SRX S) (hnv : Hid (NVL S)) (hr : Xi S 876 7 ≤ 5130) (hpl : Hid (∀ j : Nat, 0 ≤ Xi S 878 j)) (h5 : Xi S 876 5 ≤ 5000) (d : Nat) : Mp lay0 (d + 2) m_me_readWhat [.ref 895, iv row, iv type] S (Q_me_readWhat__p S row type) := by sorry
def md_re_tellProperty__p : List rec := [(66, 106, 0, 100000), (107, 147, 0, 100000), (148, 188, 0, 100000), (876, 877, 8, 9), (876, 877, 9, 10), (895, 896, 10, 11), (895, 896, 11, 12)]
abbrev Q_re_tellProperty__p (S : sS) : pst := fun r S1 => RI S1 ∧ FR md_re_tellProperty__p S S1 ∧ (∃ z : Int, r = some (iv z) ∧ (0 ≤ z ∧ z ≤ 1) ∧ (TPY md_me_readWhat__p S S1 z (re7 (ty7 S) 1) (bA (ty7 S) (re7 (ty7 S) 1 + 1)) (re7 (ty7 S) (bA (ty7 S) (re7 (ty7 S) 1 + 1))) (Xi S 890 3 + 1)))
set_option maxRecDepth 100000 in
theorem t_re_tellProperty__p {S : sS} (hH : RI S) (h13 : 0 ≤ Xi S 1 3 ∧ Xi S 1 3 ≤ 200) (hCE : CEN S) (hT : TOK S) (hS : SRX S) (hnv : Hid (NVL S)) (hr : Xi S 876 7 ≤ 5130) (ht : 0 ≤ Xi S 890 3 ∧ Xi S 890 3 ≤ 5125) (hf : Xi S 876 8 = 0) (hX : TX S) (hpl : Hid (∀ j : Nat, 0 ≤ Xi S 878 j)) (h5 : Xi S 876 5 ≤ 5000) (hmk : Hid (MK15 S)) (d : Nat) : Mp lay0 (d + 3) m_re_tellProperty [.ref 891] S (Q_re_tellProperty__p S) := by sorry
end
end
section
section
/-! 9: the reference asks and does -/
def wOKR (S : sS) (t r tp : Int) : Prop := (Xi S 907 t.toNat = 4 ∧ tp = 0) ∨ (Xi S 907 t.toNat = 5 ∧ tp = 1) ∨ (Xi S 907 t.toNat ≠ 4 ∧ Xi S 907 t.toNat ≠ 5 ∧ rnR S r 6 ≠ -1 ∧ Xi S 927 (rnR S r 6).toNat = tp)
noncomputable def wvR (S : sS) (t r : Int) : Int := if Xi S 907 t.toNat = 4 then Xj S 910 t.toNat else if Xi S 907 t.toNat = 5 then Xi S 908 t.toNat + 1 else rnR S r 6
def wlR (S : sS) (t : Int) : Int := if Xi S 907 t.toNat = 5 then Xi S 909 t.toNat else 0
def WMR (S S1 : sS) (t r tp q : Int) : Prop := (wOKR S t r tp → NT3 S1 = NT3 S) ∧ (¬ wOKR S t r tp → NT3 S1 = ntF (NT3 S) 4 (Xi S 908 t.toNat)) ∧ Xi S1 973 q.toNat = wvR S t r ∧ Xi S1 974 q.toNat = wlR S t
theorem wmr_4 {S S1 : sS} {t r tp q g : Int} (h : Xi S 907 t.toNat = 4) (hg : (tp = 0 ∧ g = 1) ∨ (tp ≠ 0 ∧ g = 0)) (n : NT3 S1 = if g = 0 then ntF (NT3 S) 4 (Xi S 908 t.toNat) else NT3 S) (a : Xi S1 973 q.toNat = Xj S 910 t.toNat) (b : Xi S1 974 q.toNat = 0) : WMR S S1 t r tp q := by sorry
theorem wmr_5 {S S1 : sS} {t r tp q g : Int} (h : Xi S 907 t.toNat = 5) (hg : (tp = 1 ∧ g = 1) ∨ (tp ≠ 1 ∧ g = 0)) (n : NT3 S1 = if g = 0 then ntF (NT3 S) 4 (Xi S 908 t.toNat) else NT3 S) (a : Xi S1 973 q.toNat = Xi S 908 t.toNat + 1) (b : Xi S1 974 q.toNat = Xi S 909 t.toNat) : WMR S S1 t r tp q := by sorry
theorem wmr_6 {S S1 : sS} {t r tp q g : Int} (h : Xi S 907 t.toNat ≠ 4) (h2 : Xi S 907 t.toNat ≠ 5) (hg : ((rnR S r 6 ≠ -1 ∧ Xi S 927 (rnR S r 6).toNat = tp) ∧ g = 1) ∨ (¬ (rnR S r 6 ≠ -1 ∧ Xi S 927 (rnR S r 6).toNat = tp) ∧ g = 0)) (n : NT3 S1 = if g = 0 then ntF (NT3 S) 4 (Xi S 908 t.toNat) else NT3 S) (a : Xi S1 973 q.toNat = rnR S r 6) (b : Xi S1 974 q.toNat = 0) : WMR S S1 t r tp q := by sorry
/-- the kind of what is told -/
noncomputable def kp9 (S : sS) : Int := if rnR S 1 4 ≠ -1 then Xi S 918 (rnR S 1 4).toNat else rnR S 1 0
def okp9 (S : sS) : Prop := rnR S 0 7 ≠ -1 ∧ (kp9 S = -1 ∨ hsR S (kp9 S) (rnR S 0 7) ≠ 0)
def RPY (S S1 : sS) : Prop :=
  (¬ okp9 S → NTB (NT3 S1) 4 (pR S 0)) ∧ (okp9 S → kp9 S = -1 → NTB (NT3 S1) 4 (pR S 1)) ∧
  (okp9 S → kp9 S ≠ -1 → ¬ wOKR S (Xi S 904 78) 2 (Xi S 928 (rnR S 0 7).toNat) → NTB (NT3 S1) 4 (Xi S 908 (Xi S 904 78).toNat)) ∧
  (okp9 S → kp9 S ≠ -1 → wOKR S (Xi S 904 78) 2 (Xi S 928 (rnR S 0 7).toNat) → (NT3 S1).1 = 0 ∧ Xi S1 973 (Xi S 904 117).toNat = wvR S (Xi S 904 78) 2 ∧ Xi S1 974 (Xi S 904 117).toNat = wlR S (Xi S 904 78))
theorem ntF_0 {x : Int × Int × Int} {f p : Int} (h : x.1 = 0) : NTB (ntF x f p) f p := by sorry
theorem ntF_b {x : Int × Int × Int} {f p : Int} (h : p < x.2.1) : NTB (ntF x f p) f p := by sorry
theorem ntF_k {x : Int × Int × Int} {f p : Int} (h : x.1 ≠ 0) (h2 : x.2.1 < p) : ntF x f p = x := by sorry
theorem rpy_n {S : sS} {x0 x1 x2 x3 : Int × Int × Int} {g1 g2 : Int} (h0 : x0.1 = 0) (n1 : x1 = if g1 = 0 then ntF x0 4 (pR S 1) else x0) (n2 : x2 = if g2 = 0 then ntF x1 4 (pR S 0) else x1) (w1 : kp9 S ≠ -1 → g1 = 1) (w2 : kp9 S = -1 → g1 = 0) (v1 : okp9 S → g2 = 1) (v2 : ¬ okp9 S → g2 = 0) (hp : pR S 0 < pR S 1) (hq : pR S 1 < Xi S 908 (Xi S 904 78).toNat) (k : x3 = x2 ∨ x3 = ntF x2 4 (Xi S 908 (Xi S 904 78).toNat)) : (¬ okp9 S → NTB x3 4 (pR S 0)) ∧ (okp9 S → kp9 S = -1 → NTB x3 4 (pR S 1)) ∧ (okp9 S → kp9 S ≠ -1 → x2 = x0) := by sorry
theorem wok_fr {S P : sS} {l : List rec} {t r tp : Int} (F : FR l S P) (e : kdis l [(907, 908), (927, 928)] = true) (m : SMR S P) : wOKR P t r tp ↔ wOKR S t r tp := by sorry
theorem wv_fr {S P : sS} {l : List rec} {t r : Int} (F : FR l S P) (e : kdis l [(907, 908), (927, 928)] = true) (m : SMR S P) : wvR P t r = wvR S t r := by sorry
theorem wl_fr {S P : sS} {l : List rec} {t : Int} (F : FR l S P) (e : kdis l [(907, 908), (909, 910)] = true) : wlR P t = wlR S t := by sorry
def RP9 (S : sS) (x0 x2 : Int × Int × Int) : Prop := ∀ x3 : Int × Int × Int, (x3 = x2 ∨ x3 = ntF x2 4 (Xi S 908 (Xi S 904 78).toNat)) → (¬ okp9 S → NTB x3 4 (pR S 0)) ∧ (okp9 S → kp9 S = -1 → NTB x3 4 (pR S 1)) ∧ (okp9 S → kp9 S ≠ -1 → x2 = x0)
theorem rpy_e {S P S1 : sS} {x0 : Int × Int × Int} {l : List rec} {tp q : Int} (h0 : x0.1 = 0) (A : RP9 S x0 (NT3 P)) (F : FR l S P) (e1 : kdis l [(907, 908), (927, 928)] = true) (e2 : kdis l [(907, 908), (909, 910)] = true) (m : SMR S P) (o : WMR P S1 (Xi S 904 78) 2 tp q) (et : tp = Xi S 928 (rnR S 0 7).toNat) (eq : q = Xi S 904 117) : RPY S S1 := by sorry
theorem rpy_0 {S S1 : sS} {x0 : Int × Int × Int} (A : RP9 S x0 (NT3 S1)) (n : ¬ okp9 S) : RPY S S1 := by sorry
theorem RPY_fr {S P S1 : sS} {l : List rec} (F : FR l S P) (m : SMR S P) (e1 : kdis l [(907, 908), (927, 928)] = true) (e2 : kdis l [(907, 908), (909, 910)] = true) (e3 : kdis l [(917, 919), (928, 930)] = true) (a : Xi P 904 78 = Xi S 904 78) (b : Xi P 904 117 = Xi S 904 117) (h : RPY P S1) : RPY S S1 := by sorry
/-- 9: what the reference does -/
def RD9 (S S1 : sS) : Prop := ∃ (A : sS) (z : Int), (rnR S 1 4 ≠ -1 → TPR1 S A z 930 (rnR S 1 4) (rnR S 0 7) (Xi S 973 (Xi S 904 117).toNat) (Xi S 974 (Xi S 904 117).toNat)) ∧ (rnR S 1 4 = -1 → TPR1 S A z 933 (rnR S 1 0) (rnR S 0 7) (Xi S 973 (Xi S 904 117).toNat) (Xi S 974 (Xi S 904 117).toNat)) ∧ ((z = 1 ∧ S1 = A) ∨ (z = 0 ∧ NTB (NT3 S1) 5 (pR S 1)))

def md_mo_whatMeant__p : List rec := [(904, 905, 104, 105), (904, 905, 105, 106), (904, 905, 106, 107), (973, 974, 0, 100000), (974, 975, 0, 100000)]
abbrev Q_mo_whatMeant__p (S : sS) (t : Int) (rr : Int) (type : Int) (q : Int) : pst := fun r S1 => RI S1 ∧ FR md_mo_whatMeant__p S S1 ∧ (r = none ∧ (WMR S S1 t rr type q))
set_option maxRecDepth 100000 in
theorem t_mo_whatMeant__p {S : sS} (hH : RI S) (t : Int) (rr : Int) (type : Int) (q : Int) (ht : -2147483648 ≤ t ∧ t ≤ 2147483647) (hrr : -2147483648 ≤ rr ∧ rr ≤ 2147483647) (htype : -2147483648 ≤ type ∧ type ≤ 2147483647) (hq : -2147483648 ≤ q ∧ q ≤ 2147483647) (hLS : LSP S) (h15 : 0 ≤ Xi S 904 15) (hRB : RBD S) (hnum : Hid (Xi S 907 t.toNat = 4 → 0 ≤ Xj S 910 t.toNat ∧ Xj S 910 t.toNat ≤ 2147483647)) (hplc : Xi S 908 t.toNat ≤ 100000) (d : Nat) : Mp lay0 (d + 5) m_mo_whatMeant [.ref 904, iv t, iv rr, iv type, iv q] S (Q_mo_whatMeant__p S t rr type q) := by sorry
def md_mo_askProperty__p : List rec := [(904, 905, 104, 105), (904, 905, 105, 106), (904, 905, 106, 107), (973, 974, 0, 100000), (974, 975, 0, 100000)]
abbrev Q_mo_askProperty__p (S : sS) : pst := fun r S1 => RI S1 ∧ FR md_mo_askProperty__p S S1 ∧ (r = none ∧ (RPY S S1))
set_option maxRecDepth 100000 in
theorem t_mo_askProperty__p {S : sS} (hH : RI S) (hLS : LSP S) (h15 : 0 ≤ Xi S 904 15) (hRB : RBD S) (hLX : LXR S) (hB : ABV S) (hko : Hid (∀ j : Nat, -1 ≤ Xi S 918 j ∧ Xi S 918 j ≤ 15)) (hz0 : Xi S 904 106 = 0) (h7 : rnR S 0 7 ≤ 11) (hk0 : rnR S 1 0 ≤ 15) (hp : pR S 0 < pR S 1) (hq : pR S 1 < Xi S 908 (Xi S 904 78).toNat) (hnum : Hid (Xi S 907 (Xi S 904 78).toNat = 4 → 0 ≤ Xj S 910 (Xi S 904 78).toNat ∧ Xj S 910 (Xi S 904 78).toNat ≤ 2147483647)) (hplc : Xi S 908 (Xi S 904 78).toNat ≤ 100000) (d : Nat) : Mp lay0 (d + 6) m_mo_askProperty [.ref 904] S (Q_mo_askProperty__p S) := by sorry
def md_mo_asked__9 : List rec := [(904, 905, 64, 65), (904, 905, 104, 105), (904, 905, 105, 106), (904, 905, 106, 107), (904, 905, 108, 109), (904, 905, 109, 110), (904, 905, 110, 111), (904, 905, 112, 113), (904, 905, 113, 114), (904, 905, 115, 116), (904, 905, 116, 117), (904, 905, 117, 118), (904, 905, 125, 126), (904, 905, 128, 129), (904, 905, 129, 130), (904, 905, 130, 131), (904, 905, 142, 143), (904, 905, 144, 145), (904, 905, 146, 147), (904, 905, 147, 148), (904, 905, 150, 151), (904, 905, 151, 152), (904, 905, 153, 154), (904, 905, 154, 155), (904, 905, 156, 157), (904, 905, 157, 158), (904, 905, 158, 159), (904, 905, 160, 161), (966, 967, 0, 100000), (967, 968, 0, 100000), (968, 969, 0, 100000), (969, 970, 0, 100000), (970, 971, 0, 100000), (971, 972, 0, 100000), (972, 973, 0, 100000), (973, 974, 0, 100000), (974, 975, 0, 100000), (975, 976, 0, 100000), (976, 977, 0, 100000), (977, 978, 0, 100000), (978, 979, 0, 100000), (979, 980, 0, 100000), (980, 981, 0, 100000), (981, 982, 0, 100000), (982, 983, 0, 100000), (983, 984, 0, 100000), (984, 985, 0, 100000), (985, 986, 0, 100000), (986, 987, 0, 100000), (987, 988, 0, 100000), (988, 989, 0, 100000), (989, 990, 0, 100000), (990, 991, 0, 100000), (991, 992, 0, 100000), (992, 993, 0, 100000), (993, 994, 0, 100000), (994, 995, 0, 100000)]
abbrev Q_mo_asked__9 (S : sS) (first : Int) : pst := fun r S1 => RI S1 ∧ FR md_mo_asked__9 S S1 ∧ (r = none ∧ (RPY S S1))
set_option maxRecDepth 100000 in
theorem t_mo_asked__9 {S : sS} (hH : RI S) (first : Int) (hfirst : 0 ≤ first ∧ first ≤ 5001) (hLS : LSP S) (h15 : 0 ≤ Xi S 904 15) (hRB : RBD S) (hLX : LXR S) (hB : ABV S) (hko : Hid (∀ j : Nat, -1 ≤ Xi S 918 j ∧ Xi S 918 j ≤ 15)) (h7 : rnR S 0 7 ≤ 11) (hk0 : rnR S 1 0 ≤ 15) (hp : pR S 0 < pR S 1) (hq : pR S 1 < Xi S 908 (Xi S 904 78).toNat) (hnum : Hid (Xi S 907 (Xi S 904 78).toNat = 4 → 0 ≤ Xj S 910 (Xi S 904 78).toNat ∧ Xj S 910 (Xi S 904 78).toNat ≤ 2147483647)) (hplc : Xi S 908 (Xi S 904 78).toNat ≤ 100000) (hs : Xi S 904 70 = 9) (d : Nat) : Mp lay0 (d + 13) m_mo_asked [.ref 904, iv first] S (Q_mo_asked__9 S first) := by sorry
def md_mo_doProperty__p : List rec := [(904, 905, 105, 106), (904, 905, 106, 107), (930, 931, 0, 100000), (931, 932, 0, 100000), (932, 933, 0, 100000), (933, 934, 0, 100000), (934, 935, 0, 100000), (935, 936, 0, 100000)]
abbrev Q_mo_doProperty__p (S : sS) : pst := fun r S1 => RI S1 ∧ FR md_mo_doProperty__p S S1 ∧ (r = none ∧ (RD9 S S1))
set_option maxRecDepth 100000 in
theorem t_mo_doProperty__p {S : sS} (hH : RI S) (hLS : LSP S) (h15 : 0 ≤ Xi S 904 15) (hRB : RBD S) (hLX : LXR S) (hz0 : Xi S 904 106 = 0) (h7 : rnR S 0 7 ≠ -1) (h17 : rnR S 1 4 = -1 → rnR S 1 0 ≠ -1) (d : Nat) : Mp lay0 (d + 5) m_mo_doProperty [.ref 904] S (Q_mo_doProperty__p S) := by sorry
def md_mo_does__9 : List rec := [(904, 905, 15, 16), (904, 905, 16, 17), (904, 905, 18, 19), (904, 905, 19, 20), (904, 905, 23, 24), (904, 905, 30, 31), (904, 905, 32, 33), (904, 905, 41, 42), (904, 905, 47, 48), (904, 905, 49, 50), (904, 905, 51, 52), (904, 905, 55, 56), (904, 905, 60, 61), (904, 905, 64, 65), (904, 905, 73, 74), (904, 905, 105, 106), (904, 905, 106, 107), (904, 905, 113, 114), (904, 905, 117, 118), (912, 913, 0, 100000), (913, 914, 0, 100000), (914, 915, 0, 100000), (915, 916, 0, 100000), (916, 917, 0, 100000), (917, 918, 0, 100000), (918, 919, 0, 100000), (919, 920, 0, 100000), (920, 921, 0, 100000), (921, 922, 0, 100000), (922, 923, 0, 100000), (923, 924, 0, 100000), (924, 925, 0, 100000), (925, 926, 0, 100000), (926, 927, 0, 100000), (927, 928, 0, 100000), (928, 929, 0, 100000), (929, 930, 0, 100000), (930, 931, 0, 100000), (931, 932, 0, 100000), (932, 933, 0, 100000), (933, 934, 0, 100000), (934, 935, 0, 100000), (935, 936, 0, 100000), (936, 937, 0, 100000), (937, 938, 0, 100000), (938, 939, 0, 100000), (939, 940, 0, 100000), (940, 941, 0, 100000), (941, 942, 0, 100000), (942, 943, 0, 100000), (943, 944, 0, 100000), (944, 945, 0, 100000), (945, 946, 0, 100000), (946, 947, 0, 100000), (947, 948, 0, 100000), (948, 949, 0, 100000), (949, 950, 0, 100000)]
abbrev Q_mo_does__9 (S : sS) (first : Int) : pst := fun r S1 => RI S1 ∧ FR md_mo_does__9 S S1 ∧ (r = none ∧ (RD9 S S1))
set_option maxRecDepth 100000 in
theorem t_mo_does__9 {S : sS} (hH : RI S) (first : Int) (hfirst : 0 ≤ first ∧ first ≤ 5001) (hLS : LSP S) (h15 : 0 ≤ Xi S 904 15) (hRB : RBD S) (hLX : LXR S) (hz0 : Xi S 904 106 = 0) (h7 : rnR S 0 7 ≠ -1) (h17 : rnR S 1 4 = -1 → rnR S 1 0 ≠ -1) (hs : Xi S 904 70 = 9) (d : Nat) : Mp lay0 (d + 8) m_mo_does [.ref 904, iv first] S (Q_mo_does__9 S first) := by sorry
end
section
/-! 15, 16: the class tells -/
theorem rlF_b {S : sS} {k a b v : Int} : -1 ≤ rlF S k a b v ∧ rlF S k a b v ≤ 11 := by sorry
/-- the object that a name of the LIST means -/
def oL (S : sS) (i : Nat) : Int := fnd S 2 (kr7 (ty7 S) i) (re7 (ty7 S) (kr7 (ty7 S) i))
def TOO (S S1 : sS) (z : Int) : Prop := (z = 1 → S1 = S ∧ ∀ i : Nat, i < nL S → oL S i ≠ -1) ∧ (z = 0 → ∃ i : Nat, i < nL S ∧ (∀ k : Nat, k < i → oL S k ≠ -1) ∧ oL S i = -1 ∧ FTO S S1 4 (kr7 (ty7 S) i))
/-- usually -/
def TUS (g : List rec) (S S1 : sS) (z a e w f : Int) : Prop :=
  (fnd S 0 a e = -1 → z = 0 ∧ FTO S S1 4 a) ∧
  (fnd S 0 a e ≠ -1 → sn2 S ≠ -1 → z = 0 ∧ FTO S S1 4 (sn2 S)) ∧
  (fnd S 0 a e ≠ -1 → sn2 S = -1 → raF S (fnd S 0 a e) w f 1 0 ≠ 1 → z = 0 ∧ FTO S S1 (if raF S (fnd S 0 a e) w f 1 0 = 0 then 4 else 7) w) ∧
  (fnd S 0 a e ≠ -1 → sn2 S = -1 → raF S (fnd S 0 a e) w f 1 0 = 1 → ∃ (A B : sS) (y : Int), FR g S A ∧ T1C A B y (24 + fnd S 0 a e) (mnV S w f % 256) (rlF S (fnd S 0 a e) w f 1) 1 ∧ (y = 1 → z = 1 ∧ S1 = B ∧ Xi S1 876 8 = 0) ∧ (y ≠ 1 → z = 0 ∧ FTO S S1 5 a))
theorem tus_1 {g : List rec} {S S1 : sS} {z a e w f : Int} (h : fnd S 0 a e = -1) (hz : z = 0) (t : FTO S S1 4 a) : TUS g S S1 z a e w f := by sorry
theorem tus_2 {g : List rec} {S S1 : sS} {z a e w f : Int} (h : fnd S 0 a e ≠ -1) (k : sn2 S ≠ -1) (hz : z = 0) (t : FTO S S1 4 (sn2 S)) : TUS g S S1 z a e w f := by sorry
theorem tus_3 {g : List rec} {S S1 : sS} {z a e w f c : Int} (h : fnd S 0 a e ≠ -1) (k : sn2 S = -1) (n : raF S (fnd S 0 a e) w f 1 0 ≠ 1) (hc : c = if raF S (fnd S 0 a e) w f 1 0 = 0 then 4 else 7) (hz : z = 0) (t : FTO S S1 c w) : TUS g S S1 z a e w f := by sorry
theorem tus_4 {g : List rec} {S S1 A B : sS} {z a e w f y : Int} (h : fnd S 0 a e ≠ -1) (k : sn2 S = -1) (n : raF S (fnd S 0 a e) w f 1 0 = 1) (F : FR g S A) (t : T1C A B y (24 + fnd S 0 a e) (mnV S w f % 256) (rlF S (fnd S 0 a e) w f 1) 1) (c1 : y = 1 → z = 1 ∧ S1 = B ∧ Xi S1 876 8 = 0) (c2 : y ≠ 1 → z = 0 ∧ FTO S S1 5 a) : TUS g S S1 z a e w f := by sorry
theorem mk15_f {S : sS} {a b : Int} (h : MK15 S) : fnd S 0 a b ≤ 15 := by sorry
def md_re_takeOldObjects__p : List rec := [(876, 877, 8, 9), (876, 877, 9, 10)]
abbrev Q_re_takeOldObjects__p (S : sS) : pst := fun r S1 => RI S1 ∧ FR md_re_takeOldObjects__p S S1 ∧ (∃ z : Int, r = some (iv z) ∧ (0 ≤ z ∧ z ≤ 1) ∧ (TOO S S1 z))
set_option maxRecDepth 100000 in
theorem t_re_takeOldObjects__p {S : sS} (hH : RI S) (h13 : 0 ≤ Xi S 1 3 ∧ Xi S 1 3 ≤ 200) (hCE : CEN S) (hf : Xi S 876 8 = 0) (hr : Xi S 876 7 ≤ 5130) (ht : 0 ≤ Xi S 890 3 ∧ Xi S 890 3 ≤ 5125) (d : Nat) : Mp lay0 (d + 3) m_re_takeOldObjects [.ref 891] S (Q_re_takeOldObjects__p S) := by sorry
def md_re_tellUsually__p : List rec := [(25, 65, 0, 100000), (66, 106, 0, 100000), (107, 147, 0, 100000), (148, 188, 0, 100000), (876, 877, 8, 9), (876, 877, 9, 10), (895, 896, 8, 9), (895, 896, 9, 10)]
abbrev Q_re_tellUsually__p (S : sS) : pst := fun r S1 => RI S1 ∧ FR md_re_tellUsually__p S S1 ∧ (∃ z : Int, r = some (iv z) ∧ (0 ≤ z ∧ z ≤ 1) ∧ (TUS md_me_readAdjective__p S S1 z (bA (ty7 S) 0) (re7 (ty7 S) (bA (ty7 S) 0)) (Xi S 890 3 + 2) (re7 (ty7 S) (Xi S 890 3 + 2))))
set_option maxRecDepth 100000 in
theorem t_re_tellUsually__p {S : sS} (hH : RI S) (h13 : 0 ≤ Xi S 1 3 ∧ Xi S 1 3 ≤ 200) (hCE : CEN S) (hf : Xi S 876 8 = 0) (hr : Xi S 876 7 ≤ 5130) (ht : 0 ≤ Xi S 890 3 ∧ Xi S 890 3 ≤ 5125) (hX : TX S) (hfn : FN1 S) (hmk : Hid (MK15 S)) (d : Nat) : Mp lay0 (d + 4) m_re_tellUsually [.ref 891] S (Q_re_tellUsually__p S) := by sorry
end
end
section
section
/-! 15: an adjective of the objects of a LIST (class) -/
def qL (S : sS) (i : Nat) (a t nt : Int) : Int := if oL S i = -1 then 1 else raF S (Xi S 21 (oL S i).toNat) a t (1 - nt) 0
def ASP (S S1 : sS) (z a t nt : Int) : Prop :=
  ((∃ i : Nat, i < nL S ∧ qL S i a t nt = 0) → z = 0 ∧ FTO S S1 4 a) ∧
  ((∀ i : Nat, i < nL S → qL S i a t nt ≠ 0) → (∃ i : Nat, i < nL S ∧ 1 < qL S i a t nt) → z = 0 ∧ FTO S S1 7 a) ∧
  ((∀ i : Nat, i < nL S → qL S i a t nt ≠ 0) → (∀ i : Nat, i < nL S → qL S i a t nt ≤ 1) → z = 1 ∧ Xi S1 876 8 = 0)
def MQ6 (S : sS) (a t nt c : Int) (n : Nat) : Prop := (c = 1 → ∃ k : Nat, k < n ∧ 1 < qL S k a t nt) ∧ (c = 0 → ∀ k : Nat, k < n → qL S k a t nt ≤ 1)
theorem asp_s {S : sS} {a t nt v w c d : Int} (Q : (bg7 (ty7 S) v ∧ w = qL S (cR (ty7 S) v.toNat) a t nt) ∨ (¬ bg7 (ty7 S) v ∧ w = 1)) (L : ∀ k : Nat, k < cR (ty7 S) v.toNat → qL S k a t nt ≠ 0) (M : MQ6 S a t nt c (cR (ty7 S) v.toNat)) (hw : w ≠ 0) (h0 : 0 ≤ v) (hc : (d = 1 ∧ (c = 1 ∨ 1 < w)) ∨ (d = 0 ∧ c = 0 ∧ w ≤ 1)) : (∀ k : Nat, k < cR (ty7 S) (v + 1).toNat → qL S k a t nt ≠ 0) ∧ MQ6 S a t nt d (cR (ty7 S) (v + 1).toNat) := by sorry
theorem asp_1 {S S1 : sS} {a t nt v w z : Int} (Q : (bg7 (ty7 S) v ∧ w = qL S (cR (ty7 S) v.toNat) a t nt) ∨ (¬ bg7 (ty7 S) v ∧ w = 1)) (hw : w = 0) (h0 : 0 ≤ v) (hv : v < Xi S 890 3) (hz : z = 0) (f : FTO S S1 4 a) : ASP S S1 z a t nt := by sorry
theorem asp_2 {S S1 : sS} {a t nt z : Int} (L : ∀ k : Nat, k < nL S → qL S k a t nt ≠ 0) (M : MQ6 S a t nt 1 (nL S)) (hz : z = 0) (f : FTO S S1 7 a) : ASP S S1 z a t nt := by sorry
theorem asp_3 {S S1 : sS} {a t nt z : Int} (L : ∀ k : Nat, k < nL S → qL S k a t nt ≠ 0) (M : MQ6 S a t nt 0 (nL S)) (hz : z = 1) (f : Xi S1 876 8 = 0) : ASP S S1 z a t nt := by sorry
theorem rln_fr {l : List rec} {S T : sS} {has t : Int} (h : FR l S T) (e : kdis l [(9, 10)] = true) : ∀ (n : Nat) (p c : Int), rln T has t n p c = rln S has t n p c := by sorry
theorem rlF_FR {l : List rec} {S T : sS} {k a b v : Int} (h : FR l S T) (e : (kdis l kA && !(mdf l 1 3)) = true) (e2 : kdis l [(9, 10)] = true) (e3 : kdis l kA = true) (e4 : kdis l [(8, 9)] = true) : rlF T k a b v = rlF S k a b v := by sorry
def DA1 (g : List rec) (S W V : sS) (i : Nat) (y a t nt : Int) : Prop := ∃ A : sS, FR g W A ∧ T1C A V y (oL S i) (mnV S a t % 256) (rlF S (Xi S 21 (oL S i).toNat) a t (1 - nt)) (1 - nt)
def DAC (g : List rec) (S : sS) (a t nt : Int) : Nat → sS → Prop
  | 0, V => V = S
  | n + 1, V => ∃ W : sS, DAC g S a t nt n W ∧ DA1 g S W V n 1 a t nt
def fsO (S : sS) (n : Nat) : Int := if n = 0 then -1 else oL S 0
def DAD (g : List rec) (S S1 : sS) (z a t nt : Int) : Prop :=
  (z = 1 → ∃ V : sS, DAC g S a t nt (nL S) V ∧ S1 = uI V 891 10 (Int32.ofInt (fsO S (nL S))) ∧ Xi S1 876 8 = 0) ∧
  (z = 0 → ∃ (i : Nat) (W V : sS), i < nL S ∧ DAC g S a t nt i W ∧ DA1 g S W V i 0 a t nt ∧ FTO S S1 5 (kr7 (ty7 S) i))
theorem fso_y {S : sS} {n : Nat} {v o d : Int} (h : v = fsO S n) (e : o = oL S n) (h0 : oL S 0 ≠ -1) (hd : d = if v = -1 then o else v) : d = fsO S (n + 1) := by sorry
def md_re_adjectiveSuits__p : List rec := [(876, 877, 8, 9), (876, 877, 9, 10), (895, 896, 8, 9), (895, 896, 9, 10)]
abbrev Q_re_adjectiveSuits__p (S : sS) (at_ : Int) (to : Int) (nt : Int) : pst := fun r S1 => RI S1 ∧ FR md_re_adjectiveSuits__p S S1 ∧ (∃ z : Int, r = some (iv z) ∧ (0 ≤ z ∧ z ≤ 1) ∧ (ASP S S1 z at_ to nt))
set_option maxRecDepth 100000 in
theorem t_re_adjectiveSuits__p {S : sS} (hH : RI S) (at_ : Int) (to : Int) (nt : Int) (hat_ : 0 ≤ at_ ∧ at_ ≤ 5140) (hto : 0 ≤ to ∧ to ≤ 5140) (hnt : 0 ≤ nt ∧ nt ≤ 1) (h13 : 0 ≤ Xi S 1 3 ∧ Xi S 1 3 ≤ 200) (hCE : CEN S) (hf : Xi S 876 8 = 0) (hr : Xi S 876 7 ≤ 5130) (ht : 0 ≤ Xi S 890 3 ∧ Xi S 890 3 ≤ 5125) (d : Nat) : Mp lay0 (d + 3) m_re_adjectiveSuits [.ref 891, iv at_, iv to, iv nt] S (Q_re_adjectiveSuits__p S at_ to nt) := by sorry
def md_re_doAdjective__p : List rec := [(25, 65, 0, 100000), (66, 106, 0, 100000), (107, 147, 0, 100000), (148, 188, 0, 100000), (876, 877, 8, 9), (876, 877, 9, 10), (891, 892, 10, 11), (895, 896, 8, 9), (895, 896, 9, 10)]
abbrev Q_re_doAdjective__p (S : sS) (at_ : Int) (to : Int) (nt : Int) : pst := fun r S1 => RI S1 ∧ FR md_re_doAdjective__p S S1 ∧ (∃ z : Int, r = some (iv z) ∧ (0 ≤ z ∧ z ≤ 1) ∧ (DAD md_me_readAdjective__p S S1 z at_ to nt))
set_option maxRecDepth 100000 in
theorem t_re_doAdjective__p {S : sS} (hH : RI S) (at_ : Int) (to : Int) (nt : Int) (hat_ : 0 ≤ at_ ∧ at_ ≤ 5140) (hto : 0 ≤ to ∧ to ≤ 5140) (hnt : 0 ≤ nt ∧ nt ≤ 1) (h13 : 0 ≤ Xi S 1 3 ∧ Xi S 1 3 ≤ 200) (hCE : CEN S) (hf : Xi S 876 8 = 0) (hr : Xi S 876 7 ≤ 5130) (ht : 0 ≤ Xi S 890 3 ∧ Xi S 890 3 ≤ 5125) (hX : TX S) (hol : Hid (∀ i : Nat, i < nL S → oL S i ≠ -1)) (d : Nat) : Mp lay0 (d + 4) m_re_doAdjective [.ref 891, iv at_, iv to, iv nt] S (Q_re_doAdjective__p S at_ to nt) := by sorry
end
section
/-! 0: a text by itself (class) -/
def TDE (S S1 : sS) (z : Int) : Prop :=
  (Xi S 891 10 = -1 → z = 0 ∧ FTO S S1 4 0) ∧
  (Xi S 891 10 ≠ -1 → ∃ (A : sS) (y : Int), TPC S A y (Xi S 891 10) 0 (pc7 S 0 + 1) (Xj S 879 0) ∧ (y = 1 → z = 1 ∧ S1 = A) ∧ (y ≠ 1 → z = 0 ∧ FTO S S1 5 0))

def md_re_describe__p : List rec := [(66, 106, 0, 100000), (107, 147, 0, 100000), (148, 188, 0, 100000), (876, 877, 8, 9), (876, 877, 9, 10)]
abbrev Q_re_describe__p (S : sS) : pst := fun r S1 => RI S1 ∧ FR md_re_describe__p S S1 ∧ (∃ z : Int, r = some (iv z) ∧ (0 ≤ z ∧ z ≤ 1) ∧ (TDE S S1 z))
set_option maxRecDepth 100000 in
theorem t_re_describe__p {S : sS} (hH : RI S) (h13 : 0 ≤ Xi S 1 3 ∧ Xi S 1 3 ≤ 200) (hCE : CEN S) (hT : TOK S) (hS : SRX S) (hr : Xi S 876 7 ≤ 5130) (hf : Xi S 876 8 = 0) (hX : TX S) (hpl : Hid (∀ j : Nat, 0 ≤ Xi S 878 j)) (h5 : Xi S 876 5 ≤ 5000) (hs : -1 ≤ Xi S 891 10 ∧ Xi S 891 10 ≤ 23) (h0 : Xi S 877 (0 : Int).toNat = 102 ∧ 0 < Xi S 876 7) (d : Nat) : Mp lay0 (d + 3) m_re_describe [.ref 891] S (Q_re_describe__p S) := by sorry
end
end
section
section
/-! 15: plain (class) -/
def nh5 (S : sS) : Int := if ty7 S (Xi S 890 3 + 1) = 6 then 1 else 0
def wh5 (S : sS) : Int := Xi S 890 3 + (if ty7 S (Xi S 890 3 + 1) = 6 then 2 else 1)
def eh5 (S : sS) : Int := re7 (ty7 S) (wh5 S)
def ph5 (S : sS) : Prop := (ty7 S (Xi S 890 3) = 5 ∧ nh5 S = 0) ∧ eh5 S - wh5 S ≤ 6 ∧ 0 < ccT S (wh5 S) (eh5 S) 1 0 (-1) 4
def ah5 (S : sS) : Prop := mnV S (wh5 S) (eh5 S) / 256 = 3 ∨ mnV S (wh5 S) (eh5 S) / 256 = 4
theorem tdg_1 {A B : sS} {z a t pl : Int} (o : TDS A B z a t pl) (hz : z ≠ 0) : t - a ≤ 6 ∧ ccT A a t pl 0 (-1) 4 = 1 := by sorry
theorem tdg_n {A B : sS} {z a t pl : Int} (o : TDS A B z a t pl) (hz : z ≠ 0) : Xi B 876 8 = Xi A 876 8 ∧ (0 ≤ Xi B 895 14 ∧ Xi B 895 14 ≤ 6) ∧ ∀ i : Nat, (i : Int) < Xi B 895 14 → -1 ≤ Xi B 897 i ∧ Xi B 897 i ≤ 11 := by sorry
def TPNA (C S1 : sS) (z a t : Int) : Prop := ∃ (A : sS) (y : Int), TOB C A y ∧ FR md_re_takeObjects__p C A ∧ ((y = 0 ∧ z = 0 ∧ S1 = A) ∨ (y ≠ 0 ∧ ∃ (B : sS) (x : Int), TDS A B x a t 1 ∧ FR md_re_takeDescription__p A B ∧ ((x = 0 ∧ z = 0 ∧ S1 = B) ∨ (x ≠ 0 ∧ DOB B S1 z 1))))
def TPNB (h : List rec) (S C S1 : sS) (z a t nt : Int) : Prop := ∃ (A : sS) (y : Int), TOO C A y ∧ ((y = 0 ∧ z = 0 ∧ S1 = A) ∨ (y = 1 ∧ ph5 S ∧ z = 0 ∧ FTO S S1 7 a) ∨ (y = 1 ∧ ¬ ph5 S ∧ ∃ (B : sS) (x : Int), ASP A B x a t nt ∧ FR md_re_adjectiveSuits__p A B ∧ ((x = 0 ∧ z = 0 ∧ S1 = B) ∨ (x ≠ 0 ∧ DAD h B S1 z a t nt))))
def TPN (g h : List rec) (S S1 : sS) (z : Int) : Prop := ∃ C : sS, FR g S C ∧ ((ph5 S ∧ ¬ ah5 S ∧ TPNA C S1 z (wh5 S) (eh5 S)) ∨ ((¬ ph5 S ∨ ah5 S) ∧ TPNB h S C S1 z (wh5 S) (eh5 S) (nh5 S)))
theorem oL_eq {S U : sS} {i : Nat} (v : SMV S U) (t : ty7 U = ty7 S) : oL U i = oL S i := by sorry
theorem asp_ok {S S1 : sS} {z a t nt : Int} (h : ASP S S1 z a t nt) (hz : z ≠ 0) : Xi S1 876 8 = 0 := by sorry
def md_re_tellPlain__p : List rec := [(1, 2, 3, 4), (2, 3, 0, 100000), (3, 4, 0, 100000), (4, 5, 0, 100000), (5, 6, 0, 100000), (21, 22, 0, 100000), (22, 23, 0, 100000), (23, 24, 0, 100000), (25, 65, 0, 100000), (66, 106, 0, 100000), (107, 147, 0, 100000), (148, 188, 0, 100000), (876, 877, 8, 9), (876, 877, 9, 10), (891, 892, 9, 10), (891, 892, 10, 11), (892, 893, 0, 100000), (893, 894, 0, 100000), (895, 896, 8, 9), (895, 896, 9, 10), (895, 896, 12, 13), (895, 896, 13, 14), (895, 896, 14, 15), (896, 897, 0, 100000), (897, 898, 0, 100000), (898, 899, 0, 100000)]
abbrev Q_re_tellPlain__p (S : sS) : pst := fun r S1 => RI S1 ∧ FR md_re_tellPlain__p S S1 ∧ (∃ z : Int, r = some (iv z) ∧ (0 ≤ z ∧ z ≤ 1) ∧ (TPN md_me_countReadings__p md_me_readAdjective__p S S1 z))
set_option maxRecDepth 100000 in
theorem t_re_tellPlain__p {S : sS} (hH : RI S) (h13 : 0 ≤ Xi S 1 3 ∧ Xi S 1 3 ≤ 200) (hCE : CEN S) (hNB : NRB S) (hf : Xi S 876 8 = 0) (hr : Xi S 876 7 ≤ 5130) (ht : 0 ≤ Xi S 890 3 ∧ Xi S 890 3 ≤ 5125) (hn0 : Xi S 891 9 = 0) (h2 : Xi S 1 3 < 199) (hX : TX S) (hw2 : WH2 S) (hc : 0 ≤ Xi S 5 2 ∧ Xi S 5 2 ≤ 24) (hE : Xi S 1 3 + 24 - Xi S 5 2 < 199) (d : Nat) : Mp lay0 (d + 6) m_re_tellPlain [.ref 891] S (Q_re_tellPlain__p S) := by sorry
end
section
/-! 0: a text by itself (reference) -/
def RA0 (S S1 : sS) : Prop := (Xi S 904 60 = -1 → NTB (NT3 S1) 4 (Xi S 908 (Xi S 904 81).toNat)) ∧ (Xi S 904 60 ≠ -1 → (NT3 S1).1 = 0)
def RD0 (S S1 : sS) (first : Int) : Prop := ∃ (A : sS) (y : Int), TPR1 S A y 930 (Xi S 904 60) 0 (Xi S 908 (Xi S 904 81).toNat + 1) (Xi S 909 (Xi S 904 81).toNat) ∧ ((y = 1 ∧ S1 = A) ∨ (y = 0 ∧ NTB (NT3 S1) 5 (Xi S 908 first.toNat)))
theorem ra0_n {S P S1 : sS} (h : Xi S 904 60 = -1) (z : (NT3 P).1 = 0) (n : NT3 S1 = if (0 : Int) = 0 then ntF (NT3 P) 4 (Xi S 908 (Xi S 904 81).toNat) else NT3 P) : RA0 S S1 := by sorry
theorem ra0_y {S P S1 : sS} {p : Int} (h : Xi S 904 60 ≠ -1) (z : (NT3 P).1 = 0) (n : NT3 S1 = if (1 : Int) = 0 then ntF (NT3 P) 4 p else NT3 P) : RA0 S S1 := by sorry
def md_mo_asked__0 : List rec := [(904, 905, 64, 65), (904, 905, 104, 105), (904, 905, 105, 106), (904, 905, 106, 107), (904, 905, 108, 109), (904, 905, 109, 110), (904, 905, 110, 111), (904, 905, 112, 113), (904, 905, 113, 114), (904, 905, 115, 116), (904, 905, 116, 117), (904, 905, 117, 118), (904, 905, 125, 126), (904, 905, 128, 129), (904, 905, 129, 130), (904, 905, 130, 131), (904, 905, 142, 143), (904, 905, 144, 145), (904, 905, 146, 147), (904, 905, 147, 148), (904, 905, 150, 151), (904, 905, 151, 152), (904, 905, 153, 154), (904, 905, 154, 155), (904, 905, 156, 157), (904, 905, 157, 158), (904, 905, 158, 159), (904, 905, 160, 161), (966, 967, 0, 100000), (967, 968, 0, 100000), (968, 969, 0, 100000), (969, 970, 0, 100000), (970, 971, 0, 100000), (971, 972, 0, 100000), (972, 973, 0, 100000), (973, 974, 0, 100000), (974, 975, 0, 100000), (975, 976, 0, 100000), (976, 977, 0, 100000), (977, 978, 0, 100000), (978, 979, 0, 100000), (979, 980, 0, 100000), (980, 981, 0, 100000), (981, 982, 0, 100000), (982, 983, 0, 100000), (983, 984, 0, 100000), (984, 985, 0, 100000), (985, 986, 0, 100000), (986, 987, 0, 100000), (987, 988, 0, 100000), (988, 989, 0, 100000), (989, 990, 0, 100000), (990, 991, 0, 100000), (991, 992, 0, 100000), (992, 993, 0, 100000), (993, 994, 0, 100000), (994, 995, 0, 100000)]
abbrev Q_mo_asked__0 (S : sS) (first : Int) : pst := fun r S1 => RI S1 ∧ FR md_mo_asked__0 S S1 ∧ (r = none ∧ (RA0 S S1))
set_option maxRecDepth 100000 in
theorem t_mo_asked__0 {S : sS} (hH : RI S) (first : Int) (hfirst : 0 ≤ first ∧ first ≤ 5001) (hs : Xi S 904 70 = 0) (d : Nat) : Mp lay0 (d + 13) m_mo_asked [.ref 904, iv first] S (Q_mo_asked__0 S first) := by sorry
def md_mo_does__0 : List rec := [(904, 905, 15, 16), (904, 905, 16, 17), (904, 905, 18, 19), (904, 905, 19, 20), (904, 905, 23, 24), (904, 905, 30, 31), (904, 905, 32, 33), (904, 905, 41, 42), (904, 905, 47, 48), (904, 905, 49, 50), (904, 905, 51, 52), (904, 905, 55, 56), (904, 905, 60, 61), (904, 905, 64, 65), (904, 905, 73, 74), (904, 905, 105, 106), (904, 905, 106, 107), (904, 905, 113, 114), (904, 905, 117, 118), (912, 913, 0, 100000), (913, 914, 0, 100000), (914, 915, 0, 100000), (915, 916, 0, 100000), (916, 917, 0, 100000), (917, 918, 0, 100000), (918, 919, 0, 100000), (919, 920, 0, 100000), (920, 921, 0, 100000), (921, 922, 0, 100000), (922, 923, 0, 100000), (923, 924, 0, 100000), (924, 925, 0, 100000), (925, 926, 0, 100000), (926, 927, 0, 100000), (927, 928, 0, 100000), (928, 929, 0, 100000), (929, 930, 0, 100000), (930, 931, 0, 100000), (931, 932, 0, 100000), (932, 933, 0, 100000), (933, 934, 0, 100000), (934, 935, 0, 100000), (935, 936, 0, 100000), (936, 937, 0, 100000), (937, 938, 0, 100000), (938, 939, 0, 100000), (939, 940, 0, 100000), (940, 941, 0, 100000), (941, 942, 0, 100000), (942, 943, 0, 100000), (943, 944, 0, 100000), (944, 945, 0, 100000), (945, 946, 0, 100000), (946, 947, 0, 100000), (947, 948, 0, 100000), (948, 949, 0, 100000), (949, 950, 0, 100000)]
abbrev Q_mo_does__0 (S : sS) (first : Int) : pst := fun r S1 => RI S1 ∧ FR md_mo_does__0 S S1 ∧ (r = none ∧ (RD0 S S1 first))
set_option maxRecDepth 100000 in
theorem t_mo_does__0 {S : sS} (hH : RI S) (first : Int) (hfirst : 0 ≤ first ∧ first ≤ 5001) (hs : Xi S 904 70 = 0) (hz0 : Xi S 904 106 = 0) (h60 : 0 ≤ Xi S 904 60 ∧ Xi S 904 60 ≤ 23) (h8 : -1 ≤ Xi S 908 (Xi S 904 81).toNat ∧ Xi S 908 (Xi S 904 81).toNat ≤ 100000) (d : Nat) : Mp lay0 (d + 8) m_mo_does [.ref 904, iv first] S (Q_mo_does__0 S first) := by sorry
end
section
/-! 15: the reference does: usually; a description -/
def RUK (S S1 : sS) (z k a : Int) : Prop := (a < 100 → TISR S S1 z 926 (24 * k) a 1) ∧ (100 ≤ a → TPR1 S S1 z 933 k (a % 100) (a / 100 - 1) 0)
def RUS (S S1 : sS) : Prop := ∃ (A : sS) (z : Int), RUK S A z (rnR S (Xi S 904 71) 0) (Xi S 967 0) ∧ ((z = 1 ∧ S1 = A) ∨ (z = 0 ∧ NTB (NT3 S1) 5 (pR S (Xi S 904 71))))
theorem dd_w {S V : sS} (e : V = uI S 904 73 (Int32.ofInt 0)) : (VB3 S → VB3 V) ∧ (KB3 S → KB3 V) ∧ (OB4 S → OB4 V) ∧ (∀ (f : Int) (n : Nat), LOQ S f n → LOQ V f n) := by sorry
def md_mo_doFifteen__1 : List rec := [(904, 905, 15, 16), (904, 905, 19, 20), (904, 905, 30, 31), (904, 905, 60, 61), (904, 905, 64, 65), (904, 905, 73, 74), (904, 905, 105, 106), (904, 905, 106, 107), (904, 905, 113, 114), (912, 913, 0, 100000), (913, 914, 0, 100000), (914, 915, 0, 100000), (915, 916, 0, 100000), (916, 917, 0, 100000), (918, 919, 0, 100000), (919, 920, 0, 100000), (920, 921, 0, 100000), (925, 926, 0, 100000), (926, 927, 0, 100000), (927, 928, 0, 100000), (930, 931, 0, 100000), (931, 932, 0, 100000), (932, 933, 0, 100000), (933, 934, 0, 100000), (934, 935, 0, 100000), (935, 936, 0, 100000)]
abbrev Q_mo_doFifteen__1 (S : sS) : pst := fun r S1 => RI S1 ∧ FR md_mo_doFifteen__1 S S1 ∧ (r = none ∧ (RUS S S1))
set_option maxRecDepth 100000 in
theorem t_mo_doFifteen__1 {S : sS} (hH : RI S) (hLS : LSP S) (h15 : 0 ≤ Xi S 904 15) (hRB : RBD S) (hLX : LXR S) (hct : Hid (∀ j : Nat, -1 ≤ Xi S 922 j ∧ Xi S 922 j ≤ 23)) (hh : Xi S 904 142 = 1) (hz0 : Xi S 904 106 = 0) (hk : rnR S (Xi S 904 71) 0 ≠ -1 ∧ rnR S (Xi S 904 71) 0 ≤ 15) (hra : 0 ≤ Xi S 967 0 ∧ Xi S 967 0 ≤ 7000) (d : Nat) : Mp lay0 (d + 7) m_mo_doFifteen [.ref 904] S (Q_mo_doFifteen__1 S) := by sorry
def md_mo_doFifteen__3 : List rec := [(904, 905, 15, 16), (904, 905, 19, 20), (904, 905, 30, 31), (904, 905, 60, 61), (904, 905, 64, 65), (904, 905, 73, 74), (904, 905, 105, 106), (904, 905, 106, 107), (904, 905, 113, 114), (912, 913, 0, 100000), (913, 914, 0, 100000), (914, 915, 0, 100000), (915, 916, 0, 100000), (916, 917, 0, 100000), (918, 919, 0, 100000), (919, 920, 0, 100000), (920, 921, 0, 100000), (925, 926, 0, 100000), (926, 927, 0, 100000), (927, 928, 0, 100000), (930, 931, 0, 100000), (931, 932, 0, 100000), (932, 933, 0, 100000), (933, 934, 0, 100000), (934, 935, 0, 100000), (935, 936, 0, 100000)]
abbrev Q_mo_doFifteen__3 (S : sS) : pst := fun r S1 => RI S1 ∧ FR md_mo_doFifteen__3 S S1 ∧ (r = none ∧ (RDB (uI S 904 73 (Int32.ofInt 0)) S1))
set_option maxRecDepth 100000 in
theorem t_mo_doFifteen__3 {S : sS} (hH : RI S) (hLS : LSP S) (h15 : 0 ≤ Xi S 904 15) (hRB : RBD S) (hLX : LXR S) (hB : ABV S) (hl : 0 ≤ Xi S 904 71 ∧ Xi S 904 71 ≤ 2600 ∧ 0 ≤ Xi S 904 72 ∧ Xi S 904 72 ≤ 2600) (hkb : Hid (KB3 S)) (ho4 : Hid (OB4 S)) (hct : Hid (∀ j : Nat, -1 ≤ Xi S 922 j ∧ Xi S 922 j ≤ 23)) (hz0 : Xi S 904 106 = 0) (ha : 0 ≤ Xi S 904 19 ∧ Xi S 904 19 ≤ 24) (hr74 : -1 ≤ Xi S 904 74 ∧ Xi S 904 74 ≤ 2600) (hlq : Hid (LOQ S (Xi S 904 71) (Xi S 904 72).toNat)) (h110 : -1 ≤ Xi S 904 110 ∧ Xi S 904 110 ≤ 15) (h112 : 0 ≤ Xi S 904 112 ∧ Xi S 904 112 ≤ 6) (hra : Hid (Xi S 904 70 ≠ 13 → ∀ i : Nat, (i : Int) < Xi S 904 112 → 0 ≤ Xi S 967 i ∧ Xi S 967 i ≤ 7000)) (hh : Xi S 904 142 = 3) (d : Nat) : Mp lay0 (d + 7) m_mo_doFifteen [.ref 904] S (Q_mo_doFifteen__3 S) := by sorry
end
end
section
section
/-! 15: the reference does: an adjective of the objects -/
def l15 : List rec := [(904, 905, 60, 61), (904, 905, 64, 65), (904, 905, 113, 114)]
def h15R (S : sS) : Int := if Xi S 904 75 = 0 then 1 else 0
noncomputable def a15R (S : sS) (o : Int) : Int := acR S (fW S) (nW S) (Xi S 918 o.toNat) 0 (h15R S)
noncomputable def o15R (S : sS) (i : Nat) : Int := rnR S (Xi S 904 71 + i) 4
def RV1 (S W V : sS) (i : Nat) (y : Int) : Prop := ∃ A : sS, FR l15 W A ∧ Xi A 904 60 = (if i = 0 then o15R S i else Xi W 904 60) ∧ TRD A V y (o15R S i) (a15R S (o15R S i)) (h15R S)
def RVC (S : sS) : Nat → sS → Prop
  | 0, V => V = S
  | n + 1, V => ∃ W : sS, RVC S n W ∧ RV1 S W V n 1
def RVF (S S1 : sS) : Prop := ∃ (i : Nat) (W V : sS), i < (Xi S 904 72).toNat ∧ RVC S i W ∧ RV1 S W V i 0 ∧ NTB (NT3 S1) 5 (pR S (Xi S 904 71 + i))
def RVB4 (S S1 : sS) : Prop := (Xi S1 904 106 = 0 ∧ RVC S (Xi S 904 72).toNat S1) ∨ (Xi S1 904 106 ≠ 0 ∧ RVF S S1)
theorem lsp_sm {S V : sS} (m : SMR S V) (h : LSP S) : LSP V := by sorry
theorem lxr_sm {S V : sS} (m : SMR S V) (h : LXR S) : LXR V := by sorry
theorem AMR_t {S P V : sS} (h : AMR S P) (k : AMR P V) : AMR S V := by sorry
def md_mo_doFifteen__4 : List rec := [(904, 905, 15, 16), (904, 905, 19, 20), (904, 905, 30, 31), (904, 905, 60, 61), (904, 905, 64, 65), (904, 905, 73, 74), (904, 905, 105, 106), (904, 905, 106, 107), (904, 905, 113, 114), (912, 913, 0, 100000), (913, 914, 0, 100000), (914, 915, 0, 100000), (915, 916, 0, 100000), (916, 917, 0, 100000), (918, 919, 0, 100000), (919, 920, 0, 100000), (920, 921, 0, 100000), (925, 926, 0, 100000), (926, 927, 0, 100000), (927, 928, 0, 100000), (930, 931, 0, 100000), (931, 932, 0, 100000), (932, 933, 0, 100000), (933, 934, 0, 100000), (934, 935, 0, 100000), (935, 936, 0, 100000)]
abbrev Q_mo_doFifteen__4 (S : sS) : pst := fun r S1 => RI S1 ∧ FR md_mo_doFifteen__4 S S1 ∧ (r = none ∧ (RVB4 S S1))
set_option maxRecDepth 100000 in
theorem t_mo_doFifteen__4 {S : sS} (hH : RI S) (hLS : LSP S) (h15 : 0 ≤ Xi S 904 15) (hRB : RBD S) (hLX : LXR S) (hB : ABV S) (hl : 0 ≤ Xi S 904 71 ∧ Xi S 904 71 ≤ 2600 ∧ 0 ≤ Xi S 904 72 ∧ Xi S 904 72 ≤ 2600) (hkb : Hid (KB3 S)) (hct : Hid (∀ j : Nat, -1 ≤ Xi S 922 j ∧ Xi S 922 j ≤ 23)) (hp32 : 0 ≤ Xi S 904 32 ∧ Xi S 904 32 ≤ 12) (hh : Xi S 904 142 = 4) (hz0 : Xi S 904 106 = 0) (hfw : 0 ≤ Xi S 950 (Xi S 904 78).toNat ∧ Xi S 950 (Xi S 904 78).toNat ≤ 5100) (hac : Hid (∀ i : Nat, (i : Int) < Xi S 904 72 → (0 ≤ o15R S i ∧ o15R S i ≤ 23) ∧ 0 ≤ a15R S (o15R S i) ∧ a15R S (o15R S i) ≤ 7000)) (d : Nat) : Mp lay0 (d + 7) m_mo_doFifteen [.ref 904] S (Q_mo_doFifteen__4 S) := by sorry
end
section
/-! 15, 16: the reference does: values -/
def RT1 (W V : sS) (tp r : Int) : Prop := ∃ A B : sS, A = uI W 927 (Xi W 904 30).toNat (Int32.ofInt tp) ∧ FR md_mo_tellRun__p A B ∧ TLW A B A 6 (Xi W 904 30) r ∧ V = uI B 904 30 (Int32.ofInt (Xi W 904 30 + 1))
def RTC (S : sS) (tp : Int) : Nat → sS → Prop
  | 0, V => V = S
  | n + 1, V => ∃ W : sS, RTC S tp n W ∧ RT1 W V tp (Xi S 904 78 + n)
def RD16 (S S1 : sS) : Prop := RTC S (r2R S (Xi S 904 71) 2 3) (Xi S 904 69 - Xi S 904 78).toNat S1

def md_mo_doFifteen__2 : List rec := [(904, 905, 15, 16), (904, 905, 19, 20), (904, 905, 30, 31), (904, 905, 60, 61), (904, 905, 64, 65), (904, 905, 73, 74), (904, 905, 105, 106), (904, 905, 106, 107), (904, 905, 113, 114), (912, 913, 0, 100000), (913, 914, 0, 100000), (914, 915, 0, 100000), (915, 916, 0, 100000), (916, 917, 0, 100000), (918, 919, 0, 100000), (919, 920, 0, 100000), (920, 921, 0, 100000), (925, 926, 0, 100000), (926, 927, 0, 100000), (927, 928, 0, 100000), (930, 931, 0, 100000), (931, 932, 0, 100000), (932, 933, 0, 100000), (933, 934, 0, 100000), (934, 935, 0, 100000), (935, 936, 0, 100000)]
abbrev Q_mo_doFifteen__2 (S : sS) : pst := fun r S1 => RI S1 ∧ FR md_mo_doFifteen__2 S S1 ∧ (r = none ∧ (RD16 S S1))
set_option maxRecDepth 100000 in
theorem t_mo_doFifteen__2 {S : sS} (hH : RI S) (hLS : LSP S) (h15 : 0 ≤ Xi S 904 15) (hRB : RBD S) (hLX : LXR S) (hh : Xi S 904 142 = 2) (hw : 0 ≤ Xi S 904 78 ∧ Xi S 904 78 ≤ Xi S 904 69 ∧ Xi S 904 69 ≤ 2600) (hv : 0 ≤ Xi S 904 30 ∧ Xi S 904 30 + (Xi S 904 69 - Xi S 904 78) ≤ 64) (d : Nat) : Mp lay0 (d + 7) m_mo_doFifteen [.ref 904] S (Q_mo_doFifteen__2 S) := by sorry
end
section
/-! 15, 16: the reference asks: values -/
def cv6 (S : sS) (tp : Int) : Nat → Int
  | 0 => 0
  | n + 1 => cv6 S tp n + (if Xi S 927 n = tp then 1 else 0)
/-- a RUN must be new, with so many there -/
def MBN (W V : sS) (r there most : Int) : Prop :=
  (nwR W r → NT3 V = (if there < most then NT3 W else ntF (NT3 W) 9 (pR W r)) ∧ Xi V 904 108 = Xi W 904 108 + 1 ∧ Xi V 966 (Xi W 904 108).toNat = r ∧ ∀ k : Nat, (k : Int) < Xi W 904 108 → Xi V 966 k = Xi W 966 k) ∧
  (¬ nwR W r → NT3 V = ntF (NT3 W) 3 (pR W r) ∧ Xi V 904 108 = Xi W 904 108 ∧ ∀ k : Nat, Xi V 966 k = Xi W 966 k)
def AV1 (W V : sS) (r tp k k1 : Int) : Prop := FR md_mo_mustBeNew__p W V ∧ MBN W V r (if 1 < tp then k else 0) 8 ∧ (nwR W r → k1 = k + 1) ∧ (¬ nwR W r → k1 = k)
def AVC (S : sS) (tp : Int) : Nat → sS → Int → Prop
  | 0, V, k => V = S ∧ k = cv6 S tp (Xi S 904 30).toNat
  | n + 1, V, k1 => ∃ (W : sS) (k : Int), AVC S tp n W k ∧ AV1 W V (Xi S 904 78 + n) tp k k1
def RAV (S S1 : sS) (tp : Int) : Prop := ∃ k : Int, AVC S tp (Xi S 904 69 - Xi S 904 78).toNat S1 k

def md_mo_askValues__p : List rec := [(904, 905, 104, 105), (904, 905, 105, 106), (904, 905, 106, 107), (904, 905, 108, 109), (966, 967, 0, 100000)]
abbrev Q_mo_askValues__p (S : sS) (type : Int) : pst := fun r S1 => RI S1 ∧ FR md_mo_askValues__p S S1 ∧ (r = none ∧ (RAV S S1 type))
set_option maxRecDepth 100000 in
theorem t_mo_askValues__p {S : sS} (hH : RI S) (type : Int) (htype : -2147483648 ≤ type ∧ type ≤ 2147483647) (hLS : LSP S) (h15 : 0 ≤ Xi S 904 15) (hRB : RBD S) (hn0 : 0 ≤ Xi S 904 108 ∧ Xi S 904 108 ≤ 100) (hw : 0 ≤ Xi S 904 78 ∧ Xi S 904 78 ≤ Xi S 904 69 ∧ Xi S 904 69 ≤ 2600) (hv : 0 ≤ Xi S 904 30 ∧ Xi S 904 30 ≤ 64) (d : Nat) : Mp lay0 (d + 5) m_mo_askValues [.ref 904, iv type] S (Q_mo_askValues__p S type) := by sorry
end
end
section
section
/-! 15: the reference asks: usually -/
noncomputable def kU5 (S : sS) : Int := rnR S (Xi S 904 71) 0
noncomputable def cU5 (S : sS) : Int := adR S (fW S) (nW S) (kU5 S) 0 1
def RAU (S S1 : sS) : Prop :=
  (kU5 S = -1 → NTB (NT3 S1) 4 (pR S (Xi S 904 71))) ∧
  (kU5 S ≠ -1 → 1 < Xi S 904 72 → NTB (NT3 S1) 4 (pR S (Xi S 904 71 + 1))) ∧
  (kU5 S ≠ -1 → Xi S 904 72 ≤ 1 → cU5 S ≤ 0 → NTB (NT3 S1) 4 (Xi S 908 (fW S).toNat)) ∧
  (kU5 S ≠ -1 → Xi S 904 72 ≤ 1 → 2 ≤ cU5 S → NTB (NT3 S1) 7 (Xi S 908 (fW S).toNat)) ∧
  (kU5 S ≠ -1 → Xi S 904 72 ≤ 1 → cU5 S = 1 → (NT3 S1).1 = 0 ∧ Xi S1 967 0 = acR S (fW S) (nW S) (kU5 S) 0 1) ∧ Xi S1 904 142 = 1
theorem rau_0 {S S1 : sS} {x0 x1 : Int × Int × Int} (h0 : x0.1 = 0) (k : kU5 S = -1) (n1 : x1 = if kU5 S = -1 then ntF x0 4 (pR S (Xi S 904 71)) else x0) (n2 : NT3 S1 = if 1 < Xi S 904 72 then ntF x1 4 (pR S (Xi S 904 71 + 1)) else x1) (hp : 1 < Xi S 904 72 → pR S (Xi S 904 71) < pR S (Xi S 904 71 + 1)) (hw : Xi S1 904 142 = 1) : RAU S S1 := by sorry
theorem rau_1 {S S1 : sS} {x0 x1 x2 x3 : Int × Int × Int} {g1 g2 : Int} (h0 : x0.1 = 0) (k : kU5 S ≠ -1) (n1 : x1 = if kU5 S = -1 then ntF x0 4 (pR S (Xi S 904 71)) else x0) (n2 : x2 = if 1 < Xi S 904 72 then ntF x1 4 (pR S (Xi S 904 71 + 1)) else x1) (n3 : x3 = if g1 = 0 then ntF x2 4 (Xi S 908 (fW S).toNat) else x2) (n4 : NT3 S1 = if g2 = 0 then ntF x3 7 (Xi S 908 (fW S).toNat) else x3) (w1 : 0 < cU5 S → g1 = 1) (w2 : ¬ 0 < cU5 S → g1 = 0) (v1 : cU5 S < 2 → g2 = 1) (v2 : ¬ cU5 S < 2 → g2 = 0) (hp : 1 < Xi S 904 72 → pR S (Xi S 904 71 + 1) < Xi S 908 (fW S).toNat) (ha : Xi S1 967 0 = acR S (fW S) (nW S) (kU5 S) 0 1) (hw : Xi S1 904 142 = 1) : RAU S S1 := by sorry
def md_mo_askFifteen__1 : List rec := [(904, 905, 64, 65), (904, 905, 104, 105), (904, 905, 105, 106), (904, 905, 106, 107), (904, 905, 108, 109), (904, 905, 109, 110), (904, 905, 110, 111), (904, 905, 112, 113), (904, 905, 113, 114), (904, 905, 142, 143), (966, 967, 0, 100000), (967, 968, 0, 100000), (968, 969, 0, 100000)]
abbrev Q_mo_askFifteen__1 (S : sS) : pst := fun r S1 => RI S1 ∧ FR md_mo_askFifteen__1 S S1 ∧ (r = none ∧ (RAU S S1))
set_option maxRecDepth 100000 in
theorem t_mo_askFifteen__1 {S : sS} (hH : RI S) (hLS : LSP S) (h15 : 0 ≤ Xi S 904 15) (hRB : RBD S) (hLX : LXR S) (hB : ABV S) (hu : Xi S 904 76 ≠ 0) (hz0 : Xi S 904 106 = 0) (hp32 : 0 ≤ Xi S 904 32 ∧ Xi S 904 32 ≤ 12) (hk15 : rnR S (Xi S 904 71) 0 ≤ 15) (hfw : 0 ≤ Xi S 950 (Xi S 904 78).toNat ∧ Xi S 950 (Xi S 904 78).toNat ≤ 5100) (hl : 0 ≤ Xi S 904 71 ∧ Xi S 904 71 ≤ 2600) (hq1 : Hid (1 < Xi S 904 72 → pR S (Xi S 904 71) < pR S (Xi S 904 71 + 1))) (hq2 : Hid (1 < Xi S 904 72 → pR S (Xi S 904 71 + 1) < Xi S 908 (fW S).toNat)) (d : Nat) : Mp lay0 (d + 11) m_mo_askFifteen [.ref 904] S (Q_mo_askFifteen__1 S) := by sorry
end
end
section
section
/-! 15, 16: the reference asks: values -/
noncomputable def tU5 (S : sS) : Int := if Xi S 904 72 = 1 then r2R S (Xi S 904 71) 2 3 else -1
def RAW (g : List rec) (S S1 : sS) : Prop := ∃ (A : sS) (x1 : Int × Int × Int), FR g S A ∧ (Xi A 904 142 = 2 ∧ Xi A 904 108 = 0) ∧ (x1 = if 1 < r2R S (Xi S 904 71) 2 3 then NT3 S else ntF (NT3 S) 4 (pR S (Xi S 904 71))) ∧ (NT3 A = if 1 < Xi S 904 72 then ntF x1 4 (pR S (Xi S 904 71 + 1)) else x1) ∧ RAV A S1 (tU5 S)

def md_mo_askFifteen__2 : List rec := [(904, 905, 64, 65), (904, 905, 104, 105), (904, 905, 105, 106), (904, 905, 106, 107), (904, 905, 108, 109), (904, 905, 109, 110), (904, 905, 110, 111), (904, 905, 112, 113), (904, 905, 113, 114), (904, 905, 142, 143), (966, 967, 0, 100000), (967, 968, 0, 100000), (968, 969, 0, 100000)]
abbrev Q_mo_askFifteen__2 (S : sS) : pst := fun r S1 => RI S1 ∧ FR md_mo_askFifteen__2 S S1 ∧ (r = none ∧ (RAW md_mo_askFifteen__2 S S1))
set_option maxRecDepth 100000 in
theorem t_mo_askFifteen__2 {S : sS} (hH : RI S) (hLS : LSP S) (h15 : 0 ≤ Xi S 904 15) (hRB : RBD S) (hu : Xi S 904 76 = 0) (hz8 : Xi S 904 108 = 0) (hw : 0 ≤ Xi S 904 78 ∧ Xi S 904 78 ≤ Xi S 904 69 ∧ Xi S 904 69 ≤ 2600) (hv : 0 ≤ Xi S 904 30 ∧ Xi S 904 30 ≤ 64) (hl : 0 ≤ Xi S 904 71 ∧ Xi S 904 71 ≤ 2600) (hs : Xi S 904 70 = 16) (d : Nat) : Mp lay0 (d + 11) m_mo_askFifteen [.ref 904] S (Q_mo_askFifteen__2 S) := by sorry
def md_mo_askFifteen__3 : List rec := [(904, 905, 64, 65), (904, 905, 104, 105), (904, 905, 105, 106), (904, 905, 106, 107), (904, 905, 108, 109), (904, 905, 109, 110), (904, 905, 110, 111), (904, 905, 112, 113), (904, 905, 113, 114), (904, 905, 142, 143), (966, 967, 0, 100000), (967, 968, 0, 100000), (968, 969, 0, 100000)]
abbrev Q_mo_askFifteen__3 (S : sS) : pst := fun r S1 => RI S1 ∧ FR md_mo_askFifteen__3 S S1 ∧ (r = none ∧ (RAW md_mo_askFifteen__3 S S1))
set_option maxRecDepth 100000 in
theorem t_mo_askFifteen__3 {S : sS} (hH : RI S) (hLS : LSP S) (h15 : 0 ≤ Xi S 904 15) (hRB : RBD S) (hu : Xi S 904 76 = 0) (hz8 : Xi S 904 108 = 0) (hw : 0 ≤ Xi S 904 78 ∧ Xi S 904 78 ≤ Xi S 904 69 ∧ Xi S 904 69 ≤ 2600) (hv : 0 ≤ Xi S 904 30 ∧ Xi S 904 30 ≤ 64) (hl : 0 ≤ Xi S 904 71 ∧ Xi S 904 71 ≤ 2600) (hs : Xi S 904 70 = 15 ∧ Xi S 904 72 = 1 ∧ 1 < r2R S (Xi S 904 71) 2 3 ∧ Xi S 904 75 = 0) (d : Nat) : Mp lay0 (d + 11) m_mo_askFifteen [.ref 904] S (Q_mo_askFifteen__3 S) := by sorry
end
end
section
section
/-! 15: the reference asks: a description or an adjective -/
def vA5 (S : sS) : Prop := nmR S (fW S) (nW S) ≠ -1 ∧ (Xi S 914 (nmR S (fW S) (nW S)).toNat = 5 ∨ Xi S 914 (nmR S (fW S) (nW S)).toNat = 6)
noncomputable def rd5 (S : sS) : Int := if (Xi S 904 77 ≠ 0 ∧ Xi S 904 75 = 0) ∧ nW S ≤ 6 then dcT S (fW S) (nW S) 1 0 (-1) 4 else 0
def z9S (S : sS) : sS := uI S 904 109 (Int32.ofInt 0)
def DSX (S A : sS) : Prop := ((Xi S 904 77 ≠ 0 ∧ Xi S 904 75 = 0) → (nW S ≤ 6 → KDS (z9S S) A (fW S) (nW S) 1 0 (-1) 4) ∧ (6 < nW S → A = z9S S)) ∧ (¬ (Xi S 904 77 ≠ 0 ∧ Xi S 904 75 = 0) → A = z9S S)
noncomputable def n4S (S : sS) (x : Int × Int × Int) : Nat → Int × Int × Int
  | 0 => x
  | n + 1 => if rnR S (Xi S 904 71 + n) 4 = -1 then ntF (n4S S x n) 4 (pR S (Xi S 904 71 + n)) else n4S S x n
noncomputable def c4S (S : sS) (n : Nat) : Int := adR S (fW S) (nW S) (Xi S 918 (rnR S (Xi S 904 71 + n) 4).toNat) 0 (h15R S)
noncomputable def a4N (S : sS) (n : Nat) (y : Int × Int × Int) : Int × Int × Int := if c4S S n < 2 then y else ntF y 7 (Xi S 908 (fW S).toNat)
noncomputable def a4S (S : sS) (x : Int × Int × Int) : Nat → Int × Int × Int
  | 0 => x
  | n + 1 => if rnR S (Xi S 904 71 + n) 4 = -1 then a4S S x n else a4N S n (if 0 < c4S S n then a4S S x n else ntF (a4S S x n) 4 (Xi S 908 (fW S).toNat))
def lX4 : List rec := [(904, 905, 64, 65), (904, 905, 104, 105), (904, 905, 105, 106), (904, 905, 106, 107), (904, 905, 108, 109), (904, 905, 109, 110), (904, 905, 110, 111), (904, 905, 112, 113), (904, 905, 113, 114), (904, 905, 142, 143), (966, 967, 0, 100000), (967, 968, 0, 100000), (968, 969, 0, 100000)]
def RAX (S S1 : sS) : Prop :=
  (0 < rd5 S → ¬ vA5 S → Xi S1 904 142 = 3 ∧ ∃ (A B : sS) (nn : Int), (DSX S A ∧ FR lX4 S A ∧ NT3 A = NT3 S) ∧ ROI (uI A 904 142 (Int32.ofInt 3)) B (Xi S 904 71) (Xi S 904 72).toNat nn ∧ NT3 S1 = (if 2 ≤ rd5 S then ntF (NT3 B) 7 (Xi S 908 (fW S).toNat) else NT3 B) ∧ Xi S1 904 110 = Xi A 904 110 ∧ Xi S1 904 112 = Xi A 904 112 ∧ ∀ j : Nat, Xi S1 967 j = Xi A 967 j) ∧
  (0 < rd5 S → vA5 S → Xi S1 904 142 = 4 ∧ NT3 S1 = ntF (n4S S (NT3 S) (Xi S 904 72).toNat) 7 (Xi S 908 (fW S).toNat)) ∧
  (¬ 0 < rd5 S → ¬ vA5 S → Xi S1 904 142 = 4 ∧ NT3 S1 = ntF (n4S S (NT3 S) (Xi S 904 72).toNat) 4 (Xi S 908 (fW S).toNat)) ∧
  (¬ 0 < rd5 S → vA5 S → Xi S1 904 142 = 4 ∧ NT3 S1 = a4S S (n4S S (NT3 S) (Xi S 904 72).toNat) (Xi S 904 72).toNat)
theorem z9_am {S : sS} : AMR S (z9S S) := by sorry
theorem dsx_r {S A : sS} (h : DSX S A) : Xi A 904 109 = rd5 S := by sorry
def md_mo_askFifteen__4 : List rec := [(904, 905, 64, 65), (904, 905, 104, 105), (904, 905, 105, 106), (904, 905, 106, 107), (904, 905, 108, 109), (904, 905, 109, 110), (904, 905, 110, 111), (904, 905, 112, 113), (904, 905, 113, 114), (904, 905, 142, 143), (966, 967, 0, 100000), (967, 968, 0, 100000), (968, 969, 0, 100000)]
abbrev Q_mo_askFifteen__4 (S : sS) : pst := fun r S1 => RI S1 ∧ FR md_mo_askFifteen__4 S S1 ∧ (r = none ∧ (RAX S S1))
set_option maxRecDepth 100000 in
theorem t_mo_askFifteen__4 {S : sS} (hH : RI S) (hLS : LSP S) (h15 : 0 ≤ Xi S 904 15) (hRB : RBD S) (hLX : LXR S) (hB : ABV S) (hko : Hid (∀ j : Nat, -1 ≤ Xi S 918 j ∧ Xi S 918 j ≤ 15)) (hl : 0 ≤ Xi S 904 71 ∧ Xi S 904 71 ≤ 2600 ∧ 0 ≤ Xi S 904 72 ∧ Xi S 904 72 ≤ 2600) (hob : 0 ≤ Xi S 904 19 ∧ Xi S 904 19 ≤ 24) (hkk : Hid (∀ k : Nat, (k : Int) < Xi S 904 15 → Xi S 914 k ≤ 1 → Xi S 915 k ≤ 15)) (hp32 : 0 ≤ Xi S 904 32 ∧ Xi S 904 32 ≤ 12) (hu : Xi S 904 76 = 0) (hs : Xi S 904 70 = 15) (hz0 : Xi S 904 106 = 0 ∧ Xi S 904 108 = 0) (hnv : Hid (1 < tU5 S → Xi S 904 75 ≠ 0)) (hfw : 0 ≤ fW S ∧ fW S ≤ 5100 ∧ 0 ≤ nW S ∧ nW S ≤ 5100) (hpl : PLL S (Xi S 904 71) (Xi S 904 72).toNat) (d : Nat) : Mp lay0 (d + 11) m_mo_askFifteen [.ref 904] S (Q_mo_askFifteen__4 S) := by sorry
end
end
section
section
def md_mo_does__15a : List rec := [(904, 905, 15, 16), (904, 905, 16, 17), (904, 905, 18, 19), (904, 905, 19, 20), (904, 905, 23, 24), (904, 905, 30, 31), (904, 905, 32, 33), (904, 905, 41, 42), (904, 905, 47, 48), (904, 905, 49, 50), (904, 905, 51, 52), (904, 905, 55, 56), (904, 905, 60, 61), (904, 905, 64, 65), (904, 905, 73, 74), (904, 905, 105, 106), (904, 905, 106, 107), (904, 905, 113, 114), (904, 905, 117, 118), (912, 913, 0, 100000), (913, 914, 0, 100000), (914, 915, 0, 100000), (915, 916, 0, 100000), (916, 917, 0, 100000), (917, 918, 0, 100000), (918, 919, 0, 100000), (919, 920, 0, 100000), (920, 921, 0, 100000), (921, 922, 0, 100000), (922, 923, 0, 100000), (923, 924, 0, 100000), (924, 925, 0, 100000), (925, 926, 0, 100000), (926, 927, 0, 100000), (927, 928, 0, 100000), (928, 929, 0, 100000), (929, 930, 0, 100000), (930, 931, 0, 100000), (931, 932, 0, 100000), (932, 933, 0, 100000), (933, 934, 0, 100000), (934, 935, 0, 100000), (935, 936, 0, 100000), (936, 937, 0, 100000), (937, 938, 0, 100000), (938, 939, 0, 100000), (939, 940, 0, 100000), (940, 941, 0, 100000), (941, 942, 0, 100000), (942, 943, 0, 100000), (943, 944, 0, 100000), (944, 945, 0, 100000), (945, 946, 0, 100000), (946, 947, 0, 100000), (947, 948, 0, 100000), (948, 949, 0, 100000), (949, 950, 0, 100000)]
abbrev Q_mo_does__15a (S : sS) (first : Int) : pst := fun r S1 => RI S1 ∧ FR md_mo_does__15a S S1 ∧ (r = none ∧ (RUS S S1))
set_option maxRecDepth 100000 in
theorem t_mo_does__15a {S : sS} (hH : RI S) (first : Int) (hfirst : 0 ≤ first ∧ first ≤ 5001) (hLS : LSP S) (h15 : 0 ≤ Xi S 904 15) (hRB : RBD S) (hLX : LXR S) (hct : Hid (∀ j : Nat, -1 ≤ Xi S 922 j ∧ Xi S 922 j ≤ 23)) (hh : Xi S 904 142 = 1) (hz0 : Xi S 904 106 = 0) (hk : rnR S (Xi S 904 71) 0 ≠ -1 ∧ rnR S (Xi S 904 71) 0 ≤ 15) (hra : 0 ≤ Xi S 967 0 ∧ Xi S 967 0 ≤ 7000) (hs : 15 ≤ Xi S 904 70 ∧ Xi S 904 70 ≤ 16) (d : Nat) : Mp lay0 (d + 8) m_mo_does [.ref 904, iv first] S (Q_mo_does__15a S first) := by sorry
def md_mo_does__15b : List rec := [(904, 905, 15, 16), (904, 905, 16, 17), (904, 905, 18, 19), (904, 905, 19, 20), (904, 905, 23, 24), (904, 905, 30, 31), (904, 905, 32, 33), (904, 905, 41, 42), (904, 905, 47, 48), (904, 905, 49, 50), (904, 905, 51, 52), (904, 905, 55, 56), (904, 905, 60, 61), (904, 905, 64, 65), (904, 905, 73, 74), (904, 905, 105, 106), (904, 905, 106, 107), (904, 905, 113, 114), (904, 905, 117, 118), (912, 913, 0, 100000), (913, 914, 0, 100000), (914, 915, 0, 100000), (915, 916, 0, 100000), (916, 917, 0, 100000), (917, 918, 0, 100000), (918, 919, 0, 100000), (919, 920, 0, 100000), (920, 921, 0, 100000), (921, 922, 0, 100000), (922, 923, 0, 100000), (923, 924, 0, 100000), (924, 925, 0, 100000), (925, 926, 0, 100000), (926, 927, 0, 100000), (927, 928, 0, 100000), (928, 929, 0, 100000), (929, 930, 0, 100000), (930, 931, 0, 100000), (931, 932, 0, 100000), (932, 933, 0, 100000), (933, 934, 0, 100000), (934, 935, 0, 100000), (935, 936, 0, 100000), (936, 937, 0, 100000), (937, 938, 0, 100000), (938, 939, 0, 100000), (939, 940, 0, 100000), (940, 941, 0, 100000), (941, 942, 0, 100000), (942, 943, 0, 100000), (943, 944, 0, 100000), (944, 945, 0, 100000), (945, 946, 0, 100000), (946, 947, 0, 100000), (947, 948, 0, 100000), (948, 949, 0, 100000), (949, 950, 0, 100000)]
abbrev Q_mo_does__15b (S : sS) (first : Int) : pst := fun r S1 => RI S1 ∧ FR md_mo_does__15b S S1 ∧ (r = none ∧ (RD16 S S1))
set_option maxRecDepth 100000 in
theorem t_mo_does__15b {S : sS} (hH : RI S) (first : Int) (hfirst : 0 ≤ first ∧ first ≤ 5001) (hLS : LSP S) (h15 : 0 ≤ Xi S 904 15) (hRB : RBD S) (hLX : LXR S) (hh : Xi S 904 142 = 2) (hw : 0 ≤ Xi S 904 78 ∧ Xi S 904 78 ≤ Xi S 904 69 ∧ Xi S 904 69 ≤ 2600) (hv : 0 ≤ Xi S 904 30 ∧ Xi S 904 30 + (Xi S 904 69 - Xi S 904 78) ≤ 64) (hs : 15 ≤ Xi S 904 70 ∧ Xi S 904 70 ≤ 16) (d : Nat) : Mp lay0 (d + 8) m_mo_does [.ref 904, iv first] S (Q_mo_does__15b S first) := by sorry
def md_mo_does__15c : List rec := [(904, 905, 15, 16), (904, 905, 16, 17), (904, 905, 18, 19), (904, 905, 19, 20), (904, 905, 23, 24), (904, 905, 30, 31), (904, 905, 32, 33), (904, 905, 41, 42), (904, 905, 47, 48), (904, 905, 49, 50), (904, 905, 51, 52), (904, 905, 55, 56), (904, 905, 60, 61), (904, 905, 64, 65), (904, 905, 73, 74), (904, 905, 105, 106), (904, 905, 106, 107), (904, 905, 113, 114), (904, 905, 117, 118), (912, 913, 0, 100000), (913, 914, 0, 100000), (914, 915, 0, 100000), (915, 916, 0, 100000), (916, 917, 0, 100000), (917, 918, 0, 100000), (918, 919, 0, 100000), (919, 920, 0, 100000), (920, 921, 0, 100000), (921, 922, 0, 100000), (922, 923, 0, 100000), (923, 924, 0, 100000), (924, 925, 0, 100000), (925, 926, 0, 100000), (926, 927, 0, 100000), (927, 928, 0, 100000), (928, 929, 0, 100000), (929, 930, 0, 100000), (930, 931, 0, 100000), (931, 932, 0, 100000), (932, 933, 0, 100000), (933, 934, 0, 100000), (934, 935, 0, 100000), (935, 936, 0, 100000), (936, 937, 0, 100000), (937, 938, 0, 100000), (938, 939, 0, 100000), (939, 940, 0, 100000), (940, 941, 0, 100000), (941, 942, 0, 100000), (942, 943, 0, 100000), (943, 944, 0, 100000), (944, 945, 0, 100000), (945, 946, 0, 100000), (946, 947, 0, 100000), (947, 948, 0, 100000), (948, 949, 0, 100000), (949, 950, 0, 100000)]
abbrev Q_mo_does__15c (S : sS) (first : Int) : pst := fun r S1 => RI S1 ∧ FR md_mo_does__15c S S1 ∧ (r = none ∧ (RDB (uI S 904 73 (Int32.ofInt 0)) S1))
set_option maxRecDepth 100000 in
theorem t_mo_does__15c {S : sS} (hH : RI S) (first : Int) (hfirst : 0 ≤ first ∧ first ≤ 5001) (hLS : LSP S) (h15 : 0 ≤ Xi S 904 15) (hRB : RBD S) (hLX : LXR S) (hB : ABV S) (hl : 0 ≤ Xi S 904 71 ∧ Xi S 904 71 ≤ 2600 ∧ 0 ≤ Xi S 904 72 ∧ Xi S 904 72 ≤ 2600) (hkb : Hid (KB3 S)) (ho4 : Hid (OB4 S)) (hct : Hid (∀ j : Nat, -1 ≤ Xi S 922 j ∧ Xi S 922 j ≤ 23)) (hz0 : Xi S 904 106 = 0) (ha : 0 ≤ Xi S 904 19 ∧ Xi S 904 19 ≤ 24) (hr74 : -1 ≤ Xi S 904 74 ∧ Xi S 904 74 ≤ 2600) (hlq : Hid (LOQ S (Xi S 904 71) (Xi S 904 72).toNat)) (h110 : -1 ≤ Xi S 904 110 ∧ Xi S 904 110 ≤ 15) (h112 : 0 ≤ Xi S 904 112 ∧ Xi S 904 112 ≤ 6) (hra : Hid (Xi S 904 70 ≠ 13 → ∀ i : Nat, (i : Int) < Xi S 904 112 → 0 ≤ Xi S 967 i ∧ Xi S 967 i ≤ 7000)) (hh : Xi S 904 142 = 3) (hs : 15 ≤ Xi S 904 70 ∧ Xi S 904 70 ≤ 16) (d : Nat) : Mp lay0 (d + 8) m_mo_does [.ref 904, iv first] S (Q_mo_does__15c S first) := by sorry
def md_mo_does__15d : List rec := [(904, 905, 15, 16), (904, 905, 16, 17), (904, 905, 18, 19), (904, 905, 19, 20), (904, 905, 23, 24), (904, 905, 30, 31), (904, 905, 32, 33), (904, 905, 41, 42), (904, 905, 47, 48), (904, 905, 49, 50), (904, 905, 51, 52), (904, 905, 55, 56), (904, 905, 60, 61), (904, 905, 64, 65), (904, 905, 73, 74), (904, 905, 105, 106), (904, 905, 106, 107), (904, 905, 113, 114), (904, 905, 117, 118), (912, 913, 0, 100000), (913, 914, 0, 100000), (914, 915, 0, 100000), (915, 916, 0, 100000), (916, 917, 0, 100000), (917, 918, 0, 100000), (918, 919, 0, 100000), (919, 920, 0, 100000), (920, 921, 0, 100000), (921, 922, 0, 100000), (922, 923, 0, 100000), (923, 924, 0, 100000), (924, 925, 0, 100000), (925, 926, 0, 100000), (926, 927, 0, 100000), (927, 928, 0, 100000), (928, 929, 0, 100000), (929, 930, 0, 100000), (930, 931, 0, 100000), (931, 932, 0, 100000), (932, 933, 0, 100000), (933, 934, 0, 100000), (934, 935, 0, 100000), (935, 936, 0, 100000), (936, 937, 0, 100000), (937, 938, 0, 100000), (938, 939, 0, 100000), (939, 940, 0, 100000), (940, 941, 0, 100000), (941, 942, 0, 100000), (942, 943, 0, 100000), (943, 944, 0, 100000), (944, 945, 0, 100000), (945, 946, 0, 100000), (946, 947, 0, 100000), (947, 948, 0, 100000), (948, 949, 0, 100000), (949, 950, 0, 100000)]
abbrev Q_mo_does__15d (S : sS) (first : Int) : pst := fun r S1 => RI S1 ∧ FR md_mo_does__15d S S1 ∧ (r = none ∧ (RVB4 S S1))
set_option maxRecDepth 100000 in
theorem t_mo_does__15d {S : sS} (hH : RI S) (first : Int) (hfirst : 0 ≤ first ∧ first ≤ 5001) (hLS : LSP S) (h15 : 0 ≤ Xi S 904 15) (hRB : RBD S) (hLX : LXR S) (hB : ABV S) (hl : 0 ≤ Xi S 904 71 ∧ Xi S 904 71 ≤ 2600 ∧ 0 ≤ Xi S 904 72 ∧ Xi S 904 72 ≤ 2600) (hkb : Hid (KB3 S)) (hct : Hid (∀ j : Nat, -1 ≤ Xi S 922 j ∧ Xi S 922 j ≤ 23)) (hp32 : 0 ≤ Xi S 904 32 ∧ Xi S 904 32 ≤ 12) (hh : Xi S 904 142 = 4) (hz0 : Xi S 904 106 = 0) (hfw : 0 ≤ Xi S 950 (Xi S 904 78).toNat ∧ Xi S 950 (Xi S 904 78).toNat ≤ 5100) (hac : Hid (∀ i : Nat, (i : Int) < Xi S 904 72 → (0 ≤ o15R S i ∧ o15R S i ≤ 23) ∧ 0 ≤ a15R S (o15R S i) ∧ a15R S (o15R S i) ≤ 7000)) (hs : 15 ≤ Xi S 904 70 ∧ Xi S 904 70 ≤ 16) (d : Nat) : Mp lay0 (d + 8) m_mo_does [.ref 904, iv first] S (Q_mo_does__15d S first) := by sorry
end
section
/-! 15, 16: the reference asks: what asked writes before -/
def lA : List rec := [(904, 905, 106, 107), (904, 905, 108, 109), (904, 905, 115, 116), (904, 905, 116, 117)]

def md_mo_asked__15a : List rec := [(904, 905, 64, 65), (904, 905, 104, 105), (904, 905, 105, 106), (904, 905, 106, 107), (904, 905, 108, 109), (904, 905, 109, 110), (904, 905, 110, 111), (904, 905, 112, 113), (904, 905, 113, 114), (904, 905, 115, 116), (904, 905, 116, 117), (904, 905, 117, 118), (904, 905, 125, 126), (904, 905, 128, 129), (904, 905, 129, 130), (904, 905, 130, 131), (904, 905, 142, 143), (904, 905, 144, 145), (904, 905, 146, 147), (904, 905, 147, 148), (904, 905, 150, 151), (904, 905, 151, 152), (904, 905, 153, 154), (904, 905, 154, 155), (904, 905, 156, 157), (904, 905, 157, 158), (904, 905, 158, 159), (904, 905, 160, 161), (966, 967, 0, 100000), (967, 968, 0, 100000), (968, 969, 0, 100000), (969, 970, 0, 100000), (970, 971, 0, 100000), (971, 972, 0, 100000), (972, 973, 0, 100000), (973, 974, 0, 100000), (974, 975, 0, 100000), (975, 976, 0, 100000), (976, 977, 0, 100000), (977, 978, 0, 100000), (978, 979, 0, 100000), (979, 980, 0, 100000), (980, 981, 0, 100000), (981, 982, 0, 100000), (982, 983, 0, 100000), (983, 984, 0, 100000), (984, 985, 0, 100000), (985, 986, 0, 100000), (986, 987, 0, 100000), (987, 988, 0, 100000), (988, 989, 0, 100000), (989, 990, 0, 100000), (990, 991, 0, 100000), (991, 992, 0, 100000), (992, 993, 0, 100000), (993, 994, 0, 100000), (994, 995, 0, 100000)]
abbrev Q_mo_asked__15a (S : sS) (first : Int) : pst := fun r S1 => RI S1 ∧ FR md_mo_asked__15a S S1 ∧ (r = none ∧ (∃ P : sS, FR lA S P ∧ (Xi P 904 106 = 0 ∧ Xi P 904 108 = 0) ∧ RAU P S1))
set_option maxRecDepth 100000 in
theorem t_mo_asked__15a {S : sS} (hH : RI S) (first : Int) (hfirst : 0 ≤ first ∧ first ≤ 5001) (hLS : LSP S) (h15 : 0 ≤ Xi S 904 15) (hRB : RBD S) (hLX : LXR S) (hB : ABV S) (hu : Xi S 904 76 ≠ 0) (hp32 : 0 ≤ Xi S 904 32 ∧ Xi S 904 32 ≤ 12) (hk15 : rnR S (Xi S 904 71) 0 ≤ 15) (hfw : 0 ≤ Xi S 950 (Xi S 904 78).toNat ∧ Xi S 950 (Xi S 904 78).toNat ≤ 5100) (hl : 0 ≤ Xi S 904 71 ∧ Xi S 904 71 ≤ 2600) (hq1 : Hid (1 < Xi S 904 72 → pR S (Xi S 904 71) < pR S (Xi S 904 71 + 1))) (hq2 : Hid (1 < Xi S 904 72 → pR S (Xi S 904 71 + 1) < Xi S 908 (fW S).toNat)) (hs : Xi S 904 70 = 15) (d : Nat) : Mp lay0 (d + 13) m_mo_asked [.ref 904, iv first] S (Q_mo_asked__15a S first) := by sorry
def md_mo_asked__16 : List rec := [(904, 905, 64, 65), (904, 905, 104, 105), (904, 905, 105, 106), (904, 905, 106, 107), (904, 905, 108, 109), (904, 905, 109, 110), (904, 905, 110, 111), (904, 905, 112, 113), (904, 905, 113, 114), (904, 905, 115, 116), (904, 905, 116, 117), (904, 905, 117, 118), (904, 905, 125, 126), (904, 905, 128, 129), (904, 905, 129, 130), (904, 905, 130, 131), (904, 905, 142, 143), (904, 905, 144, 145), (904, 905, 146, 147), (904, 905, 147, 148), (904, 905, 150, 151), (904, 905, 151, 152), (904, 905, 153, 154), (904, 905, 154, 155), (904, 905, 156, 157), (904, 905, 157, 158), (904, 905, 158, 159), (904, 905, 160, 161), (966, 967, 0, 100000), (967, 968, 0, 100000), (968, 969, 0, 100000), (969, 970, 0, 100000), (970, 971, 0, 100000), (971, 972, 0, 100000), (972, 973, 0, 100000), (973, 974, 0, 100000), (974, 975, 0, 100000), (975, 976, 0, 100000), (976, 977, 0, 100000), (977, 978, 0, 100000), (978, 979, 0, 100000), (979, 980, 0, 100000), (980, 981, 0, 100000), (981, 982, 0, 100000), (982, 983, 0, 100000), (983, 984, 0, 100000), (984, 985, 0, 100000), (985, 986, 0, 100000), (986, 987, 0, 100000), (987, 988, 0, 100000), (988, 989, 0, 100000), (989, 990, 0, 100000), (990, 991, 0, 100000), (991, 992, 0, 100000), (992, 993, 0, 100000), (993, 994, 0, 100000), (994, 995, 0, 100000)]
abbrev Q_mo_asked__16 (S : sS) (first : Int) : pst := fun r S1 => RI S1 ∧ FR md_mo_asked__16 S S1 ∧ (r = none ∧ (∃ P : sS, FR lA S P ∧ (Xi P 904 106 = 0 ∧ Xi P 904 108 = 0) ∧ RAW md_mo_askFifteen__2 P S1))
set_option maxRecDepth 100000 in
theorem t_mo_asked__16 {S : sS} (hH : RI S) (first : Int) (hfirst : 0 ≤ first ∧ first ≤ 5001) (hLS : LSP S) (h15 : 0 ≤ Xi S 904 15) (hRB : RBD S) (hu : Xi S 904 76 = 0) (hw : 0 ≤ Xi S 904 78 ∧ Xi S 904 78 ≤ Xi S 904 69 ∧ Xi S 904 69 ≤ 2600) (hv : 0 ≤ Xi S 904 30 ∧ Xi S 904 30 ≤ 64) (hl : 0 ≤ Xi S 904 71 ∧ Xi S 904 71 ≤ 2600) (hs : Xi S 904 70 = 16) (d : Nat) : Mp lay0 (d + 13) m_mo_asked [.ref 904, iv first] S (Q_mo_asked__16 S first) := by sorry
def md_mo_asked__15b : List rec := [(904, 905, 64, 65), (904, 905, 104, 105), (904, 905, 105, 106), (904, 905, 106, 107), (904, 905, 108, 109), (904, 905, 109, 110), (904, 905, 110, 111), (904, 905, 112, 113), (904, 905, 113, 114), (904, 905, 115, 116), (904, 905, 116, 117), (904, 905, 117, 118), (904, 905, 125, 126), (904, 905, 128, 129), (904, 905, 129, 130), (904, 905, 130, 131), (904, 905, 142, 143), (904, 905, 144, 145), (904, 905, 146, 147), (904, 905, 147, 148), (904, 905, 150, 151), (904, 905, 151, 152), (904, 905, 153, 154), (904, 905, 154, 155), (904, 905, 156, 157), (904, 905, 157, 158), (904, 905, 158, 159), (904, 905, 160, 161), (966, 967, 0, 100000), (967, 968, 0, 100000), (968, 969, 0, 100000), (969, 970, 0, 100000), (970, 971, 0, 100000), (971, 972, 0, 100000), (972, 973, 0, 100000), (973, 974, 0, 100000), (974, 975, 0, 100000), (975, 976, 0, 100000), (976, 977, 0, 100000), (977, 978, 0, 100000), (978, 979, 0, 100000), (979, 980, 0, 100000), (980, 981, 0, 100000), (981, 982, 0, 100000), (982, 983, 0, 100000), (983, 984, 0, 100000), (984, 985, 0, 100000), (985, 986, 0, 100000), (986, 987, 0, 100000), (987, 988, 0, 100000), (988, 989, 0, 100000), (989, 990, 0, 100000), (990, 991, 0, 100000), (991, 992, 0, 100000), (992, 993, 0, 100000), (993, 994, 0, 100000), (994, 995, 0, 100000)]
abbrev Q_mo_asked__15b (S : sS) (first : Int) : pst := fun r S1 => RI S1 ∧ FR md_mo_asked__15b S S1 ∧ (r = none ∧ (∃ P : sS, FR lA S P ∧ (Xi P 904 106 = 0 ∧ Xi P 904 108 = 0) ∧ RAW md_mo_askFifteen__3 P S1))
set_option maxRecDepth 100000 in
theorem t_mo_asked__15b {S : sS} (hH : RI S) (first : Int) (hfirst : 0 ≤ first ∧ first ≤ 5001) (hLS : LSP S) (h15 : 0 ≤ Xi S 904 15) (hRB : RBD S) (hu : Xi S 904 76 = 0) (hw : 0 ≤ Xi S 904 78 ∧ Xi S 904 78 ≤ Xi S 904 69 ∧ Xi S 904 69 ≤ 2600) (hv : 0 ≤ Xi S 904 30 ∧ Xi S 904 30 ≤ 64) (hl : 0 ≤ Xi S 904 71 ∧ Xi S 904 71 ≤ 2600) (hs : Xi S 904 70 = 15 ∧ Xi S 904 72 = 1 ∧ 1 < r2R S (Xi S 904 71) 2 3 ∧ Xi S 904 75 = 0) (d : Nat) : Mp lay0 (d + 13) m_mo_asked [.ref 904, iv first] S (Q_mo_asked__15b S first) := by sorry
def md_mo_asked__15c : List rec := [(904, 905, 64, 65), (904, 905, 104, 105), (904, 905, 105, 106), (904, 905, 106, 107), (904, 905, 108, 109), (904, 905, 109, 110), (904, 905, 110, 111), (904, 905, 112, 113), (904, 905, 113, 114), (904, 905, 115, 116), (904, 905, 116, 117), (904, 905, 117, 118), (904, 905, 125, 126), (904, 905, 128, 129), (904, 905, 129, 130), (904, 905, 130, 131), (904, 905, 142, 143), (904, 905, 144, 145), (904, 905, 146, 147), (904, 905, 147, 148), (904, 905, 150, 151), (904, 905, 151, 152), (904, 905, 153, 154), (904, 905, 154, 155), (904, 905, 156, 157), (904, 905, 157, 158), (904, 905, 158, 159), (904, 905, 160, 161), (966, 967, 0, 100000), (967, 968, 0, 100000), (968, 969, 0, 100000), (969, 970, 0, 100000), (970, 971, 0, 100000), (971, 972, 0, 100000), (972, 973, 0, 100000), (973, 974, 0, 100000), (974, 975, 0, 100000), (975, 976, 0, 100000), (976, 977, 0, 100000), (977, 978, 0, 100000), (978, 979, 0, 100000), (979, 980, 0, 100000), (980, 981, 0, 100000), (981, 982, 0, 100000), (982, 983, 0, 100000), (983, 984, 0, 100000), (984, 985, 0, 100000), (985, 986, 0, 100000), (986, 987, 0, 100000), (987, 988, 0, 100000), (988, 989, 0, 100000), (989, 990, 0, 100000), (990, 991, 0, 100000), (991, 992, 0, 100000), (992, 993, 0, 100000), (993, 994, 0, 100000), (994, 995, 0, 100000)]
abbrev Q_mo_asked__15c (S : sS) (first : Int) : pst := fun r S1 => RI S1 ∧ FR md_mo_asked__15c S S1 ∧ (r = none ∧ (∃ P : sS, FR lA S P ∧ (Xi P 904 106 = 0 ∧ Xi P 904 108 = 0) ∧ RAX P S1))
set_option maxRecDepth 100000 in
theorem t_mo_asked__15c {S : sS} (hH : RI S) (first : Int) (hfirst : 0 ≤ first ∧ first ≤ 5001) (hLS : LSP S) (h15 : 0 ≤ Xi S 904 15) (hRB : RBD S) (hLX : LXR S) (hB : ABV S) (hko : Hid (∀ j : Nat, -1 ≤ Xi S 918 j ∧ Xi S 918 j ≤ 15)) (hl : 0 ≤ Xi S 904 71 ∧ Xi S 904 71 ≤ 2600 ∧ 0 ≤ Xi S 904 72 ∧ Xi S 904 72 ≤ 2600) (hob : 0 ≤ Xi S 904 19 ∧ Xi S 904 19 ≤ 24) (hkk : Hid (∀ k : Nat, (k : Int) < Xi S 904 15 → Xi S 914 k ≤ 1 → Xi S 915 k ≤ 15)) (hp32 : 0 ≤ Xi S 904 32 ∧ Xi S 904 32 ≤ 12) (hu : Xi S 904 76 = 0) (hs : Xi S 904 70 = 15) (hnv : Hid (1 < tU5 S → Xi S 904 75 ≠ 0)) (hfw : 0 ≤ fW S ∧ fW S ≤ 5100 ∧ 0 ≤ nW S ∧ nW S ≤ 5100) (hpl : PLL S (Xi S 904 71) (Xi S 904 72).toNat) (d : Nat) : Mp lay0 (d + 13) m_mo_asked [.ref 904, iv first] S (Q_mo_asked__15c S first) := by sorry
end
section
/-! LISTS that begin at another name (class) -/
def NWLo (o : Nat) (S : sS) (i : Nat) : Prop := mnV S (kr7 (ty7 S) (o + i)) (re7 (ty7 S) (kr7 (ty7 S) (o + i))) = -1 ∧ re7 (ty7 S) (kr7 (ty7 S) (o + i)) - kr7 (ty7 S) (o + i) ≤ 3 ∧ ∀ j : Nat, j < i → ¬ alC S (kr7 (ty7 S) (o + j)) (re7 (ty7 S) (kr7 (ty7 S) (o + j))) (kr7 (ty7 S) (o + i)) (re7 (ty7 S) (kr7 (ty7 S) (o + i)))
def LOKo (o : Nat) (S : sS) (c M : Int) (n : Nat) : Prop := ∀ i : Nat, i < n → NWLo o S i ∧ c + i < M
def LNWo (o : Nat) (S U : sS) (n : Nat) : Prop := Xi U 891 9 = n ∧ ∀ i : Nat, i < n → Xi U 892 i = kr7 (ty7 S) (o + i) ∧ Xi U 893 i = re7 (ty7 S) (kr7 (ty7 S) (o + i))
def TLSo (o : Nat) (S S1 : sS) (z c M : Int) (n : Nat) : Prop := ∀ k : Nat, k < n → LOKo o S c M k → (¬ NWLo o S k → z = 0 ∧ FTO S S1 3 (kr7 (ty7 S) (o + k))) ∧ (NWLo o S k → M ≤ c + k → z = 0 ∧ FTO S S1 9 (kr7 (ty7 S) (o + k)))
theorem nwl_ofo {o : Nat} {S U : sS} {n : Nat} {a b : Int} (h : SMV S U) (l : LNWo o S U n) (ha : a = kr7 (ty7 S) (o + n)) (hb : b = re7 (ty7 S) (kr7 (ty7 S) (o + n))) : nwC U a b ↔ NWLo o S n := by sorry
theorem lnw_so {o : Nat} {S U V : sS} {n : Nat} {a b : Int} (l : LNWo o S U n) (ha : a = kr7 (ty7 S) (o + n)) (hb : b = re7 (ty7 S) (kr7 (ty7 S) (o + n))) (r : Xi V 891 9 = Xi U 891 9 + 1 ∧ Xi V 892 (Xi U 891 9).toNat = a ∧ Xi V 893 (Xi U 891 9).toNat = b ∧ ∀ j : Nat, (j : Int) < Xi U 891 9 → Xi V 892 j = Xi U 892 j ∧ Xi V 893 j = Xi U 893 j) : LNWo o S V (n + 1) := by sorry
theorem lok_so {o : Nat} {S : sS} {c M : Int} {n : Nat} (l : LOKo o S c M n) (h : NWLo o S n) (hc : c + n < M) : LOKo o S c M (n + 1) := by sorry
theorem lok_bo {o : Nat} {S : sS} {c M : Int} {n : Nat} (l : LOKo o S c M n) (h : 0 ≤ c) (hM : 0 ≤ M) : (n : Int) ≤ M := by sorry
/-- a fault in a LIST -/
theorem tls_fo {o : Nat} {S P S1 : sS} {z c M : Int} {n N : Nat} {X : Prop} {a b : Int} (l : LOKo o S c M n) (hw : nwC P a b ↔ NWLo o S n) (p : ∀ r, pc7 P r = pc7 S r) (ha : a = kr7 (ty7 S) (o + n)) (h9 : Xi P 891 9 = n) (n3 : ¬ nwC P a b → z = 0 ∧ FTO P S1 3 a) (n9 : nwC P a b → M ≤ c + Xi P 891 9 → z = 0 ∧ FTO P S1 9 a) (ok : nwC P a b → c + Xi P 891 9 < M → z = 1 ∧ X) (hz : z = 0) : TLSo o S S1 0 c M N := by sorry
theorem tls_yo {o : Nat} {S S1 : sS} {z c M : Int} {N : Nat} (l : LOKo o S c M N) : TLSo o S S1 z c M N := by sorry
/-- names of a LIST told one after the other -/
def TNLo (o : Nat) (S : sS) (so c : Int) : Nat → sS → Prop
  | 0, V => SMV S V
  | n + 1, V => ∃ (W : sS) (i : Nat), TNLo o S so c n W ∧ NMI W V i so (c + n) (wRw S 879 (kr7 (ty7 S) (o + n)) (re7 (ty7 S) (kr7 (ty7 S) (o + n))) 0) (wRw S 879 (kr7 (ty7 S) (o + n)) (re7 (ty7 S) (kr7 (ty7 S) (o + n))) 1) (wRw S 879 (kr7 (ty7 S) (o + n)) (re7 (ty7 S) (kr7 (ty7 S) (o + n))) 2)
theorem tnl_po {o : Nat} {S V V' : sS} {so c : Int} : ∀ {n : Nat}, TNLo o S so c n V → (∀ j, Xi V' 3 j = Xi V 3 j) → (∀ j, Xi V' 4 j = Xi V 4 j) → (∀ j, Xj V' 2 j = Xj V 2 j) → Xi V' 1 3 = Xi V 1 3 → (∀ j, Xj V' 879 j = Xj V 879 j) → TNLo o S so c n V' := by sorry
theorem tnl_so {o : Nat} {S V V' : sS} {so c w a b : Int} {n : Nat} (h : TNLo o S so c n V) (e : ∃ i : Nat, NMI V V' i so w (wRw V 879 a b 0) (wRw V 879 a b 1) (wRw V 879 a b 2)) (k : ∀ j, Xj V 879 j = Xj S 879 j) (ha : a = kr7 (ty7 S) (o + n)) (hb : b = re7 (ty7 S) (kr7 (ty7 S) (o + n))) (hw : w = c + n) : TNLo o S so c (n + 1) V' := by sorry
/-- while a LIST is taken only news are written -/
def LSUo (o : Nat) (S U : sS) (n : Nat) : Prop := LNWo o S U n ∧ NRB U ∧ Xi U 876 8 = 0 ∧ (∀ k j : Nat, k < 876 → Xi U k j = Xi S k j) ∧ (∀ k j : Nat, (k < 876 ∨ (877 ≤ k ∧ k < 890)) → Xj U k j = Xj S k j) ∧ (Xi U 876 7 = Xi S 876 7 ∧ Xi U 876 5 = Xi S 876 5 ∧ Xi U 890 3 = Xi S 890 3) ∧ ∀ k j : Nat, 877 ≤ k → k < 890 → Xi U k j = Xi S k j
theorem lsu_0o {o : Nat} {S : sS} (h9 : Xi S 891 9 = 0) (hb : NRB S) (hf : Xi S 876 8 = 0) : LSUo o S S 0 := by sorry
theorem LSUo.v {o : Nat} {S U : sS} {n : Nat} (h : LSUo o S U n) : SMV S U := by sorry
theorem LSUo.t {o : Nat} {S U : sS} {n : Nat} (h : LSUo o S U n) : ty7 U = ty7 S := by sorry
theorem LSUo.p {o : Nat} {S U : sS} {n : Nat} (h : LSUo o S U n) (r : Int) : pc7 U r = pc7 S r := by sorry
theorem LSUo.c {o : Nat} {S U : sS} {n : Nat} (h : LSUo o S U n) (c : CEN S) : CEN U := by sorry
theorem lsu_so {o : Nat} {S U V : sS} {n : Nat} {a b : Int} {l : List rec} (g : LSUo o S U n) (F : FR l U V) (ha : a = kr7 (ty7 S) (o + n)) (hb : b = re7 (ty7 S) (kr7 (ty7 S) (o + n))) (nb : NRB V) (r : Xi V 876 8 = 0 ∧ Xi V 891 9 = Xi U 891 9 + 1 ∧ Xi V 892 (Xi U 891 9).toNat = a ∧ Xi V 893 (Xi U 891 9).toNat = b ∧ ∀ j : Nat, (j : Int) < Xi U 891 9 → Xi V 892 j = Xi U 892 j ∧ Xi V 893 j = Xi U 893 j) (a1 : kdis l [(0, 876), (877, 891), (894, 904)] = true) (a2 : mdf l 876 7 = false) (a3 : mdf l 876 5 = false) : LSUo o S V (n + 1) := by sorry
theorem lsu_no {o : Nat} {S U : sS} {c M v : Int} (g : LSUo o S U (cR (ty7 S) v.toNat - o)) (l : LOKo o S c M (cR (ty7 S) v.toNat - o)) (hb : ¬ bg7 (ty7 U) v) (hv : 0 ≤ v) : LSUo o S U (cR (ty7 S) (v + 1).toNat - o) ∧ LOKo o S c M (cR (ty7 S) (v + 1).toNat - o) := by sorry
theorem lsu_to {o : Nat} {S U V : sS} {c M v b z : Int} {l1 : List rec} (ho : o ≤ cR (ty7 S) v.toNat) (g : LSUo o S U (cR (ty7 S) v.toNat - o)) (l : LOKo o S c M (cR (ty7 S) v.toNat - o)) (hb : bg7 (ty7 U) v) (e : re7 (ty7 S) v = b) (hv : 0 ≤ v ∧ v ≤ 5130) (hr : Xi S 876 7 ≤ 5130) (F : FR l1 U V) (n3 : ¬ nwC U v b → z = 0 ∧ FTO U V 3 v) (n9 : nwC U v b → M ≤ c + Xi U 891 9 → z = 0 ∧ FTO U V 9 v) (ok : nwC U v b → c + Xi U 891 9 < M → z = 1 ∧ Xi V 876 8 = 0 ∧ Xi V 891 9 = Xi U 891 9 + 1 ∧ Xi V 892 (Xi U 891 9).toNat = v ∧ Xi V 893 (Xi U 891 9).toNat = b ∧ ∀ j : Nat, (j : Int) < Xi U 891 9 → Xi V 892 j = Xi U 892 j ∧ Xi V 893 j = Xi U 893 j) (nb : z = 1 → NRB V) (hz : z ≠ 0) (a1 : kdis l1 [(0, 876), (877, 891), (894, 904)] = true := by rfl) (a2 : mdf l1 876 7 = false := by rfl) (a3 : mdf l1 876 5 = false := by rfl) : LSUo o S V (cR (ty7 S) (v + 1).toNat - o) ∧ LOKo o S c M (cR (ty7 S) (v + 1).toNat - o) := by sorry
theorem lsu_fo {o : Nat} {S U V : sS} {c M v b z : Int} {N : Nat} {X : Prop} (ho : o ≤ cR (ty7 S) v.toNat) (g : LSUo o S U (cR (ty7 S) v.toNat - o)) (l : LOKo o S c M (cR (ty7 S) v.toNat - o)) (hb : bg7 (ty7 U) v) (e : re7 (ty7 S) v = b) (hv : 0 ≤ v ∧ v ≤ 5130) (hr : Xi S 876 7 ≤ 5130) (n3 : ¬ nwC U v b → z = 0 ∧ FTO U V 3 v) (n9 : nwC U v b → M ≤ c + Xi U 891 9 → z = 0 ∧ FTO U V 9 v) (ok : nwC U v b → c + Xi U 891 9 < M → z = 1 ∧ X) (hz : z = 0) : TLSo o S V 0 c M N ∧ ((cR (ty7 S) v.toNat - o) < N → ¬ LOKo o S c M N) := by sorry
theorem lnw_ko {o : Nat} {S U V : sS} {n : Nat} (h : LNWo o S U n) (x : Xi V 891 9 = Xi U 891 9) (a : ∀ j, Xi V 892 j = Xi U 892 j) (b : ∀ j, Xi V 893 j = Xi U 893 j) : LNWo o S V n := by sorry
end
end
section
section
/-! 15, 16: the class tells values -/
def tv5 (S : sS) (a e : Int) : Int := if 1 < tmC S a e then tmC S a e else -1
def cvC (S : sS) (tp : Int) : Nat → Int
  | 0 => 0
  | n + 1 => cvC S tp n + (if Xi S 8 n = tp then 1 else 0)
theorem cvC_b {S : sS} {tp : Int} : ∀ n : Nat, 0 ≤ cvC S tp n ∧ cvC S tp n ≤ n := by sorry
theorem cvC_k {S U : sS} {tp : Int} (h : ∀ j : Nat, Xi U 8 j = Xi S 8 j) : ∀ n : Nat, cvC U tp n = cvC S tp n := by sorry
def tV5 (S : sS) : Int := tv5 S (bA (ty7 S) 0) (re7 (ty7 S) (bA (ty7 S) 0))
def n0V (S : sS) : Nat := cR (ty7 S) (Xi S 890 3 + 1).toNat
def nV5 (S : sS) : Nat := cR (ty7 S) (Xi S 876 7 - 1).toNat - n0V S
def cV5 (S : sS) : Int := cvC S (tV5 S) (Xi S 5 4).toNat
def TVL (S S1 : sS) (z : Int) : Prop :=
  (tV5 S = -1 → z = 0 ∧ FTO S S1 4 (bA (ty7 S) 0)) ∧
  (tV5 S ≠ -1 → sn2 S ≠ -1 → z = 0 ∧ FTO S S1 4 (sn2 S)) ∧
  (tV5 S ≠ -1 → sn2 S = -1 → TLSo (n0V S) S S1 z (cV5 S) 8 (nV5 S)) ∧
  (tV5 S ≠ -1 → sn2 S = -1 → LOKo (n0V S) S (cV5 S) 8 (nV5 S) → z = 1 ∧ Xi S1 876 8 = 0 ∧ TNLo (n0V S) S 4 (Xi S 5 4) (nV5 S) S1 ∧ Xi S1 5 4 = Xi S 5 4 + nV5 S ∧ (∀ j, j ≠ 4 → Xi S1 5 j = Xi S 5 j) ∧ ARN S S1 8 (Xi S 5 4) (tV5 S) (nV5 S))

abbrev Q_to_lastRow__p (S : sS) : pst := fun r S1 => S = S1 ∧ (∃ z : Int, r = some (iv z) ∧ (-2147483648 ≤ z ∧ z ≤ 2147483647) ∧ (z = Xi S 876 7 - 1))
set_option maxRecDepth 100000 in
theorem t_to_lastRow__p {S : sS} (hH : RI S) (h7 : 0 ≤ Xi S 876 7) (d : Nat) : Mp lay0 (d + 1) m_to_lastRow [.ref 876] S (Q_to_lastRow__p S) := by sorry
abbrev Q_re_typeMeant__p (S : sS) (from_ : Int) : pst := fun r S1 => S = S1 ∧ (∃ z : Int, r = some (iv z) ∧ (-2147483648 ≤ z ∧ z ≤ 2147483647) ∧ (z = tv5 S from_ (re7 (ty7 S) from_)))
set_option maxRecDepth 100000 in
theorem t_re_typeMeant__p {S : sS} (hH : RI S) (from_ : Int) (hfrom_ : 0 ≤ from_ ∧ from_ ≤ 5140) (h13 : 0 ≤ Xi S 1 3 ∧ Xi S 1 3 ≤ 200) (hCE : CEN S) (hr : Xi S 876 7 ≤ 5130) (d : Nat) : Mp lay0 (d + 3) m_re_typeMeant [.ref 891, iv from_] S (Q_re_typeMeant__p S from_) := by sorry
abbrev Q_vo_valuesOf__p (S : sS) (type : Int) : pst := fun r S1 => S = S1 ∧ (∃ z : Int, r = some (iv z) ∧ (-2147483648 ≤ z ∧ z ≤ 2147483647) ∧ (z = cvC S type (Xi S 5 4).toNat))
set_option maxRecDepth 100000 in
theorem t_vo_valuesOf__p {S : sS} (hH : RI S) (type : Int) (htype : -2147483648 ≤ type ∧ type ≤ 2147483647) (hc : 0 ≤ Xi S 5 4 ∧ Xi S 5 4 ≤ 64) (d : Nat) : Mp lay0 (d + 1) m_vo_valuesOf [.ref 1, iv type] S (Q_vo_valuesOf__p S type) := by sorry
def md_re_tellValues__p : List rec := [(1, 2, 3, 4), (2, 3, 0, 100000), (3, 4, 0, 100000), (4, 5, 0, 100000), (5, 6, 0, 100000), (8, 9, 0, 100000), (876, 877, 8, 9), (876, 877, 9, 10), (891, 892, 9, 10), (892, 893, 0, 100000), (893, 894, 0, 100000)]
abbrev Q_re_tellValues__p (S : sS) : pst := fun r S1 => RI S1 ∧ FR md_re_tellValues__p S S1 ∧ (∃ z : Int, r = some (iv z) ∧ (0 ≤ z ∧ z ≤ 1) ∧ (TVL S S1 z))
set_option maxRecDepth 100000 in
theorem t_re_tellValues__p {S : sS} (hH : RI S) (h13 : 0 ≤ Xi S 1 3 ∧ Xi S 1 3 ≤ 200) (hCE : CEN S) (hNB : NRB S) (hf : Xi S 876 8 = 0) (hr : Xi S 876 7 ≤ 5130) (ht : 0 ≤ Xi S 890 3 ∧ Xi S 890 3 ≤ 5125) (hn0 : Xi S 891 9 = 0) (h2 : Xi S 1 3 < 199) (hfn : FN1 S) (hc : 0 ≤ Xi S 5 4 ∧ Xi S 5 4 ≤ 64) (hc8 : Hid (LOKo (n0V S) S (cV5 S) 8 (nV5 S) → Xi S 5 4 + nV5 S ≤ 62)) (hE : Hid (2 ≤ tV5 S → LOKo (n0V S) S (cV5 S) 8 (nV5 S) → Xi S 1 3 + nV5 S ≤ 199)) (hrw : Xi S 890 3 + 1 < Xi S 876 7) (d : Nat) : Mp lay0 (d + 4) m_re_tellValues [.ref 891] S (Q_re_tellValues__p S) := by sorry
end
end
section
section
/-! 20: the class relates: lists of objects -/
def ioW (S : sS) (b k : Int) : Nat → Int → Option Int
  | 0, _ => none
  | n + 1, i =>
    if b ≤ i then some 0
    else if fnd S 2 (bA (ty7 S) i) (ruF S (bA (ty7 S) i) b) = -1 ∨ isK S (Xi S 21 (fnd S 2 (bA (ty7 S) i) (ruF S (bA (ty7 S) i) b)).toNat) k = 0 then some 0
    else if ruF S (bA (ty7 S) i) b = b then some 1
    else if ty7 S (ruF S (bA (ty7 S) i) b) = 104 then
      (if ty7 S (ruF S (bA (ty7 S) i) b + 1) = 16 then ioW S b k n (ruF S (bA (ty7 S) i) b + 2) else ioW S b k n (ruF S (bA (ty7 S) i) b + 1))
    else if ty7 S (ruF S (bA (ty7 S) i) b) = 16 then ioW S b k n (ruF S (bA (ty7 S) i) b + 1)
    else some 0
def ioV (S : sS) (a b k : Int) : Int := (ioW S b k 6000 a).getD 0
theorem io_up {S : sS} {b k : Int} : ∀ (n : Nat) (i z : Int), ioW S b k n i = some z → ioW S b k (n + 1) i = some z := by sorry
theorem io_ups {S : sS} {b k i z : Int} {n : Nat} (h : ioW S b k n i = some z) : ∀ m : Nat, ioW S b k (n + m) i = some z := by sorry
theorem io_le {S : sS} {b k i z y : Int} {n m : Nat} (h : ioW S b k n i = some z) (q : ioW S b k m i = some y) : z = y := by sorry
theorem fnd_lt {S : sS} {s a b : Int} (hs : 0 ≤ s) (h : fnd S s a b ≠ -1) : a < b := by sorry
theorem bA_b {T : Int → Int} {i : Int} : i ≤ bA T i := by sorry
theorem io_end {S : sS} {b k : Int} : ∀ (n : Nat) (i : Int), (b - i).toNat < n → ∃ z, ioW S b k n i = some z := by sorry
theorem io_V {S : sS} {a b k z : Int} {n : Nat} (h : ioW S b k n a = some z) (hb : (b - a).toNat < 6000) : z = ioV S a b k := by sorry
def IOC (S : sS) (b k a i : Int) : Prop := ∀ (n : Nat) (z : Int), ioW S b k n i = some z → ∃ m, ioW S b k m a = some z
theorem ioc_0 {S : sS} {b k a : Int} : IOC S b k a a := by sorry
theorem ioc_v {S : sS} {b k a i z : Int} (c : IOC S b k a i) (hb : (b - a).toNat < 6000) (h : ioW S b k 1 i = some z) : z = ioV S a b k := by sorry
theorem io_n1 {S : sS} {b k i i1 e o : Int} (h0 : i < b) (h1 : i1 = bA (ty7 S) i) (h2 : e = ruF S i1 b) (h3 : o = fnd S 2 i1 e) (q : o = -1 ∨ isK S (Xi S 21 o.toNat) k = 0) : ioW S b k 1 i = some 0 := by sorry
theorem io_y1 {S : sS} {b k i i1 e o : Int} (h0 : i < b) (h1 : i1 = bA (ty7 S) i) (h2 : e = ruF S i1 b) (h3 : o = fnd S 2 i1 e) (q : ¬ (o = -1 ∨ isK S (Xi S 21 o.toNat) k = 0)) (q2 : e = b) : ioW S b k 1 i = some 1 := by sorry
theorem io_x1 {S : sS} {b k i i1 e o : Int} (h0 : i < b) (h1 : i1 = bA (ty7 S) i) (h2 : e = ruF S i1 b) (h3 : o = fnd S 2 i1 e) (q : ¬ (o = -1 ∨ isK S (Xi S 21 o.toNat) k = 0)) (q2 : e ≠ b) (q3 : ty7 S e ≠ 104) (q4 : ty7 S e ≠ 16) : ioW S b k 1 i = some 0 := by sorry
theorem io_s2 {S : sS} {b k a i i1 e o : Int} (h0 : i < b) (c : IOC S b k a i) (h1 : i1 = bA (ty7 S) i) (h2 : e = ruF S i1 b) (h3 : o = fnd S 2 i1 e) (q : ¬ (o = -1 ∨ isK S (Xi S 21 o.toNat) k = 0)) (q2 : e ≠ b) (q3 : ty7 S e = 104) (q4 : ty7 S (e + 1) = 16) : IOC S b k a (e + 2) := by sorry
theorem io_s1 {S : sS} {b k a i i1 e o : Int} (h0 : i < b) (c : IOC S b k a i) (h1 : i1 = bA (ty7 S) i) (h2 : e = ruF S i1 b) (h3 : o = fnd S 2 i1 e) (q : ¬ (o = -1 ∨ isK S (Xi S 21 o.toNat) k = 0)) (q2 : e ≠ b) (q3 : ty7 S e = 104 ∨ ty7 S e = 16) (q4 : ty7 S e = 104 → ty7 S (e + 1) ≠ 16) : IOC S b k a (e + 1) := by sorry
/-! relations of the class -/
def bz7 (r b : Int) : Prop := iandF r (ixorF (ishlF 1 b) (-1)) = 0
def okT (S : sS) (rl a b : Int) : Prop := (Xi S 17 rl.toNat = 0 ∨ bz7 (Xi S (189 + rl.toNat) a.toNat) b) ∧ (Xi S 16 rl.toNat = 0 ∨ ∀ x : Nat, x < 24 → (x : Int) ≠ a → relF S rl x b = 0)
def TRT (S S1 : sS) (z rl a b : Int) : Prop :=
  (okT S rl a b → z = 1 ∧ Xi S1 (189 + rl.toNat) a.toNat = iorF (Xi S (189 + rl.toNat) a.toNat) (ishlF 1 b) ∧ ∀ (r x : Nat), r < 6 → (r ≠ rl.toNat ∨ x ≠ a.toNat) → Xi S1 (189 + r) x = Xi S (189 + r) x) ∧ (okT S rl a b → S1 = uI S (189 + rl.toNat) a.toNat (Int32.ofInt (iorF (Xi S (189 + rl.toNat) a.toNat) (ishlF 1 b)))) ∧
  (¬ okT S rl a b → z = 0 ∧ S1 = S)
theorem trt_y {S U : sS} {rl a b : Int} (g : okT S rl a b) (e : U = uI S (189 + rl.toNat) a.toNat (Int32.ofInt (iorF (Xi S (189 + rl.toNat) a.toNat) (ishlF 1 b)))) : TRT S U 1 rl a b := by sorry
theorem trt_n {S : sS} {rl a b : Int} (g : ¬ okT S rl a b) : TRT S S 0 rl a b := by sorry
theorem ty7_F {l : List rec} {S T : sS} (h : FR l S T) (e : (kdis l [(877, 878)] && !(mdf l 876 7)) = true) : ty7 T = ty7 S := by sorry
theorem bgr_F {l : List rec} {S T : sS} (h : FR l S T) (e : (kdis l [(877, 878)] && !(mdf l 876 7)) = true) {r a : Int} : bgr T r a = bgr S r a := by sorry
def pFo (S : sS) (v i : Int) : Int := if bgr S i 0 = 1 then fnd S 2 i (ruF S i v) else -1
def pTo (S : sS) (v j : Int) : Int := if bgr S j (v + 1) = 1 then fnd S 2 j (re7 (ty7 S) j) else -1
def RIN (S : sS) (rl a v : Int) : Nat → sS → sS → Prop
  | 0, U, V => V = U
  | n + 1, U, V => ∃ W, RIN S rl a v n U W ∧ ((pTo S v (v + 1 + n) = -1 ∧ V = W) ∨ (pTo S v (v + 1 + n) ≠ -1 ∧ TRT W V 1 rl a (pTo S v (v + 1 + n))))
def ROU (S : sS) (rl v l : Int) : Nat → sS → sS → Prop
  | 0, U, V => V = U
  | n + 1, U, V => ∃ W, ROU S rl v l n U W ∧ ((pFo S v n = -1 ∧ V = W) ∨ (pFo S v n ≠ -1 ∧ RIN S rl (pFo S v n) v (l - v - 1).toNat W V))
def RAL (S S1 : sS) (z rl v l : Int) : Prop :=
  (z = 1 → ROU S rl v l v.toNat S S1) ∧
  (z = 0 → ∃ (i j : Nat) (U W : sS), (i : Int) < v ∧ (j : Int) < l - v - 1 ∧ ROU S rl v l i S U ∧ pFo S v i ≠ -1 ∧ RIN S rl (pFo S v i) v j U W ∧ pTo S v (v + 1 + j) ≠ -1 ∧ ¬ okT W rl (pFo S v i) (pTo S v (v + 1 + j)))
theorem pFo_y {S : sS} {v i b e o : Int} (hb : b = bgr S i 0) (h1 : b ≠ 0) (he : e = ruF S i v) (ho : o = fnd S 2 i e) : o = pFo S v i := by sorry
theorem pFo_n {S : sS} {v i b : Int} (hb : b = bgr S i 0) (h1 : b = 0) : -1 = pFo S v i := by sorry
theorem pTo_y {S : sS} {v i b e o : Int} (hb : b = bgr S i (v + 1)) (h1 : b ≠ 0) (he : re7 (ty7 S) i = e) (ho : o = fnd S 2 i e) : o = pTo S v i := by sorry
theorem pTo_n {S : sS} {v i b : Int} (hb : b = bgr S i (v + 1)) (h1 : b = 0) : -1 = pTo S v i := by sorry
theorem pFo_b {S : sS} {v i : Int} (w : WH2 S) (h : CEN S) (q : pFo S v i ≠ -1) : 0 ≤ pFo S v i ∧ pFo S v i < Xi S 5 2 := by sorry
theorem pTo_b {S : sS} {v i : Int} (w : WH2 S) (h : CEN S) (q : pTo S v i ≠ -1) : 0 ≤ pTo S v i ∧ pTo S v i < Xi S 5 2 := by sorry
def RIO (S : sS) (rl v l i j a : Int) (T : sS) : Prop := a = pFo S v i ∧ ∃ W, ROU S rl v l i.toNat S W ∧ RIN S rl a v (j - v - 1).toNat W T
theorem rio_0 {S T : sS} {rl v l i a : Int} (h : ROU S rl v l i.toNat S T) (e : a = pFo S v i) : RIO S rl v l i (v + 1) a T := by sorry
theorem rio_n {S T : sS} {rl v l i j a : Int} (h : RIO S rl v l i j a T) (hj : v + 1 ≤ j) (q : pTo S v j = -1) : RIO S rl v l i (j + 1) a T := by sorry
theorem rio_y {S T V : sS} {rl v l i j a t z : Int} (h : RIO S rl v l i j a T) (hj : v + 1 ≤ j) (e : t = pTo S v j) (q : t ≠ -1) (k : TRT T V z rl a t) (hz : z = 1) : RIO S rl v l i (j + 1) a V := by sorry
theorem rou_y {S T : sS} {rl v l i a : Int} (hi : 0 ≤ i) (h : RIO S rl v l i l a T) (q : a ≠ -1) : ROU S rl v l (i + 1).toNat S T := by sorry
theorem rou_n {S T : sS} {rl v l i j a : Int} (hi : 0 ≤ i) (h : RIO S rl v l i j a T) (q : a = -1) (hj : j = v + 1) : ROU S rl v l (i + 1).toNat S T := by sorry
theorem ral_0 {S T V : sS} {rl v l i j a t z : Int} (h : RIO S rl v l i j a T) (hi : 0 ≤ i ∧ i < v) (hj : v + 1 ≤ j ∧ j < l) (qa : a ≠ -1) (e : t = pTo S v j) (q : t ≠ -1) (k : TRT T V z rl a t) (hz : z = 0) : RAL S V 0 rl v l := by sorry
/-! 20: the class tells -/
def fl7 (T : Int → Int) : Nat → Int
  | 0 => 0
  | n + 1 => if fl7 T n ≠ 0 ∨ T n = 16 ∨ T n = 104 then 1 else 0
def vbL (S : sS) (n : Nat) : Int := if ty7 S n = 100 then fnd S (if fl7 (ty7 S) (n + 1) ≠ 0 then 7 else 13) n (n + 1) else -1
def qvL (S : sS) (l : Int) (n : Nat) : Prop := vbL S n ≠ -1 ∧ ioV S 0 n (Xi S 14 (Xi S 18 (vbL S n).toNat).toNat) ≠ 0 ∧ ioV S (n + 1) l (Xi S 15 (Xi S 18 (vbL S n).toNat).toNat) ≠ 0
noncomputable def cnL (S : sS) (l : Int) : Nat → Int
  | 0 => 0
  | n + 1 => @ite Int (qvL S l n) (Classical.propDecidable _) (cnL S l n + 1) (cnL S l n)
noncomputable def psL (S : sS) (l : Int) : Nat → Int
  | 0 => -1
  | n + 1 => @ite Int (qvL S l n) (Classical.propDecidable _) n (psL S l n)
theorem vb_y {S : sS} {n f s z : Int} (h0 : 0 ≤ n) (ht : ty7 S n = 100) (hf : f = fl7 (ty7 S) (n + 1).toNat) (hz : z = fnd S s n (n + 1)) (hs : (f ≠ 0 ∧ s = 7) ∨ (f = 0 ∧ s = 13)) : z = vbL S n.toNat := by sorry
theorem vb_n {S : sS} {n : Int} (h0 : 0 ≤ n) (ht : ty7 S n ≠ 100) : -1 = vbL S n.toNat := by sorry
def LIN (S : sS) (l n c p r : Int) : Prop := c = cnL S l n.toNat ∧ p = psL S l n.toNat ∧ (p = -1 → c = 0) ∧ (p ≠ -1 → 0 ≤ p ∧ p < n ∧ qvL S l p.toNat ∧ r = Xi S 18 (vbL S p.toNat).toNat) ∧ 0 ≤ c ∧ c ≤ n
theorem lin_0 {S : sS} {l r : Int} : LIN S l 0 0 (-1) r := by sorry
theorem lin_n {S : sS} {l n c p r : Int} (h : LIN S l n c p r) (h0 : 0 ≤ n) (q : ¬ qvL S l n.toNat) : LIN S l (n + 1) c p r := by sorry
theorem lin_y {S : sS} {l n c p r v x y : Int} (h : LIN S l n c p r) (h0 : 0 ≤ n) (hv : v = vbL S n.toNat) (h1 : v ≠ -1) (hx : x = ioV S 0 n (Xi S 14 (Xi S 18 v.toNat).toNat)) (h2 : x ≠ 0) (hy : y = ioV S (n + 1) l (Xi S 15 (Xi S 18 v.toNat).toNat)) (h3 : y ≠ 0) : LIN S l (n + 1) (c + 1) n (Xi S 18 v.toNat) := by sorry
def LI1 (S : sS) (l p r : Int) : Prop := cnL S l l.toNat = 1 ∧ p = psL S l l.toNat ∧ qvL S l p.toNat ∧ r = Xi S 18 (vbL S p.toNat).toNat
theorem lin_1 {S : sS} {l n c p r : Int} (h : LIN S l n c p r) (hc : n = l ∧ c = 1) (hv : ∀ n : Nat, vbL S n ≠ -1 → 0 ≤ Xi S 18 (vbL S n).toNat ∧ Xi S 18 (vbL S n).toNat ≤ 5) : (0 ≤ p ∧ p < l ∧ 0 ≤ r ∧ r ≤ 5) ∧ LI1 S l p r := by sorry
def TLQ (S S1 : sS) (z : Int) : Prop :=
  (cnL S (Xi S 876 7 - 1) (Xi S 876 7 - 1).toNat ≠ 1 → z = 0 ∧ FTO S S1 (if cnL S (Xi S 876 7 - 1) (Xi S 876 7 - 1).toNat = 0 then 4 else 7) 0) ∧
  (cnL S (Xi S 876 7 - 1) (Xi S 876 7 - 1).toNat = 1 → ∃ (p r x : Int) (T : sS), (0 ≤ p ∧ p < Xi S 876 7 - 1 ∧ 0 ≤ r ∧ r ≤ 5) ∧ LI1 S (Xi S 876 7 - 1) p r ∧ RAL S T x r p (Xi S 876 7 - 1) ∧ ((x = 1 ∧ z = 1 ∧ S1 = T) ∨ (x = 0 ∧ z = 0 ∧ FTO S S1 5 0)))
theorem tlo_n {S S1 : sS} {z : Int} (h : cnL S (Xi S 876 7 - 1) (Xi S 876 7 - 1).toNat ≠ 1) (hz : z = 0) (f : FTO S S1 (if cnL S (Xi S 876 7 - 1) (Xi S 876 7 - 1).toNat = 0 then 4 else 7) 0) : TLQ S S1 z := by sorry
theorem tlo_t {S S1 : sS} {z p r x l : Int} (a : 0 ≤ p ∧ p < Xi S 876 7 - 1 ∧ 0 ≤ r ∧ r ≤ 5) (b : LI1 S (Xi S 876 7 - 1) p r) (c : RAL S S1 x r p l) (hl : l = Xi S 876 7 - 1 ∧ x = 1) (hz : z = 1) : TLQ S S1 z := by sorry
theorem tlo_f {S T S1 : sS} {z p r x l : Int} (a : 0 ≤ p ∧ p < Xi S 876 7 - 1 ∧ 0 ≤ r ∧ r ≤ 5) (b : LI1 S (Xi S 876 7 - 1) p r) (c : RAL S T x r p l) (hl : l = Xi S 876 7 - 1 ∧ x = 0) (hz : z = 0) (f : FTO S S1 5 0) : TLQ S S1 z := by sorry
abbrev Q_re_isObjectList__p (S : sS) (from_ : Int) (to : Int) (kind : Int) : pst := fun r S1 => S = S1 ∧ (∃ z : Int, r = some (iv z) ∧ (0 ≤ z ∧ z ≤ 1) ∧ (z = ioV S from_ to kind))
set_option maxRecDepth 100000 in
theorem t_re_isObjectList__p {S : sS} (hH : RI S) (from_ : Int) (to : Int) (kind : Int) (hfrom_ : 0 ≤ from_ ∧ from_ ≤ 5140) (hto : 0 ≤ to ∧ to ≤ 5130) (hkind : -2147483648 ≤ kind ∧ kind ≤ 2147483647) (h13 : 0 ≤ Xi S 1 3 ∧ Xi S 1 3 ≤ 200) (hCE : CEN S) (hr : Xi S 876 7 ≤ 5130) (d : Nat) : Mp lay0 (d + 3) m_re_isObjectList [.ref 891, iv from_, iv to, iv kind] S (Q_re_isObjectList__p S from_ to kind) := by sorry
abbrev Q_wo_isRelated__p (S : sS) (rl : Int) (a : Int) (b : Int) : pst := fun r S1 => S = S1 ∧ (∃ z : Int, r = some (iv z) ∧ (0 ≤ z ∧ z ≤ 1) ∧ (z = relF S rl a b))
set_option maxRecDepth 100000 in
theorem t_wo_isRelated__p {S : sS} (hH : RI S) (rl : Int) (a : Int) (b : Int) (hrl : 0 ≤ rl ∧ rl ≤ 5) (ha : 0 ≤ a ∧ a ≤ 23) (hb : 0 ≤ b ∧ b ≤ 23) (d : Nat) : Mp lay0 (d + 1) m_wo_isRelated [.ref 20, iv rl, iv a, iv b] S (Q_wo_isRelated__p S rl a b) := by sorry
def md_wo_tellRelated__p : List rec := [(189, 195, 0, 100000)]
abbrev Q_wo_tellRelated__p (S : sS) (rl : Int) (a : Int) (b : Int) : pst := fun r S1 => RI S1 ∧ FR md_wo_tellRelated__p S S1 ∧ (∃ z : Int, r = some (iv z) ∧ (0 ≤ z ∧ z ≤ 1) ∧ (TRT S S1 z rl a b))
set_option maxRecDepth 100000 in
theorem t_wo_tellRelated__p {S : sS} (hH : RI S) (rl : Int) (a : Int) (b : Int) (hrl : 0 ≤ rl ∧ rl ≤ 5) (ha : 0 ≤ a ∧ a ≤ 23) (hb : 0 ≤ b ∧ b ≤ 23) (d : Nat) : Mp lay0 (d + 2) m_wo_tellRelated [.ref 20, iv rl, iv a, iv b] S (Q_wo_tellRelated__p S rl a b) := by sorry
def md_re_relateAll__p : List rec := [(189, 195, 0, 100000)]
abbrev Q_re_relateAll__p (S : sS) (rl : Int) (vr : Int) (la : Int) : pst := fun r S1 => RI S1 ∧ FR md_re_relateAll__p S S1 ∧ (∃ z : Int, r = some (iv z) ∧ (0 ≤ z ∧ z ≤ 1) ∧ (RAL S S1 z rl vr la))
set_option maxRecDepth 100000 in
theorem t_re_relateAll__p {S : sS} (hH : RI S) (rl : Int) (vr : Int) (la : Int) (hrl : 0 ≤ rl ∧ rl ≤ 5) (hvr : 0 ≤ vr ∧ vr ≤ 5130) (hla : 0 ≤ la ∧ la ≤ 5130) (h13 : 0 ≤ Xi S 1 3 ∧ Xi S 1 3 ≤ 200) (hCE : CEN S) (hr : Xi S 876 7 ≤ 5130) (hw2 : WH2 S) (hc : 0 ≤ Xi S 5 2 ∧ Xi S 5 2 ≤ 24) (hvl : vr + 1 ≤ la) (d : Nat) : Mp lay0 (d + 3) m_re_relateAll [.ref 891, iv rl, iv vr, iv la] S (Q_re_relateAll__p S rl vr la) := by sorry
def md_re_tellLoose__p : List rec := [(189, 195, 0, 100000), (876, 877, 8, 9), (876, 877, 9, 10)]
abbrev Q_re_tellLoose__p (S : sS) : pst := fun r S1 => RI S1 ∧ FR md_re_tellLoose__p S S1 ∧ (∃ z : Int, r = some (iv z) ∧ (0 ≤ z ∧ z ≤ 1) ∧ (TLQ S S1 z))
set_option maxRecDepth 100000 in
theorem t_re_tellLoose__p {S : sS} (hH : RI S) (h13 : 0 ≤ Xi S 1 3 ∧ Xi S 1 3 ≤ 200) (hCE : CEN S) (hf : Xi S 876 8 = 0) (hr : Xi S 876 7 ≤ 5130) (hw2 : WH2 S) (hc : 0 ≤ Xi S 5 2 ∧ Xi S 5 2 ≤ 24) (h7 : 0 < Xi S 876 7) (hvr : Hid (∀ n : Nat, vbL S n ≠ -1 → 0 ≤ Xi S 18 (vbL S n).toNat ∧ Xi S 18 (vbL S n).toNat ≤ 5)) (d : Nat) : Mp lay0 (d + 4) m_re_tellLoose [.ref 891] S (Q_re_tellLoose__p S) := by sorry
end
end
section
section
/-! 20: the reference: lists of objects -/
def oaR (S : sS) (f t : Int) : Int := if f < t ∧ 100 ≤ Xi S 907 f.toNat ∧ Xi S 907 f.toNat ≤ 103 then f + 1 else f
noncomputable def obR (S : sS) (f t : Int) : Int := @ite Int ((∀ j : Nat, oaR S f t ≤ j → (j : Int) < t → Xi S 907 j = 3) ∧ msR S (oaR S f t) (t - oaR S f t) 4 ≠ -1) (Classical.propDecidable _) (msR S (oaR S f t) (t - oaR S f t) 4) (-9)
theorem ob_w {S : sS} {f t i v : Int} (hi : i = oaR S f t) (h : oaR S f t ≤ v ∧ 0 ≤ v ∧ v < t) (q : Xi S 907 v.toNat ≠ 3) : -9 = obR S f t := by sorry
theorem ob_n {S : sS} {f t i z n : Int} (hi : i = oaR S f t) (hn : n = t - i) (hz : z = msR S i n 4) (q : z = -1) : -9 = obR S f t := by sorry
theorem ob_y {S : sS} {f t i z n : Int} (hi : i = oaR S f t) (hn : n = t - i) (hz : z = msR S i n 4) (q : z ≠ -1) (h : ∀ j : Nat, oaR S f t ≤ j → (j : Int) < t → Xi S 907 j = 3) : z = obR S f t := by sorry
def nxF (S : sS) (b : Int) : Nat → Int → Int
  | 0, i => i
  | n + 1, i => if Xi S 907 i.toNat = 116 ∨ Xi S 907 i.toNat = 44 then i else nxF S b n (i + 1)
def nxS (S : sS) (b i : Int) : Int := nxF S b (b - i).toNat i
theorem nx_s {S : sS} {b i : Int} (h : i < b) (q : Xi S 907 i.toNat ≠ 116) (r : Xi S 907 i.toNat ≠ 44) : nxS S b i = nxS S b (i + 1) := by sorry
theorem nx_e {S : sS} {b i : Int} (h : b ≤ i ∨ Xi S 907 i.toNat = 116 ∨ Xi S 907 i.toNat = 44) : nxS S b i = i := by sorry
theorem nx_b {S : sS} {b : Int} : ∀ (n : Nat) (i : Int), i ≤ nxF S b n i := by sorry
def nxP (S : sS) (b e : Int) : Int := if e < b ∧ Xi S 907 e.toNat = 44 ∧ e + 1 < b ∧ Xi S 907 (e + 1).toNat = 116 then e + 2 else e + 1
noncomputable def lW (S : sS) (b k : Int) : Nat → Int → List Int → Option (List Int)
  | 0, _, _ => none
  | n + 1, i, c =>
    if obR S i (nxS S b i) = -9 ∨ blR S (Xi S 918 (obR S i (nxS S b i)).toNat) k = 0 then some []
    else if b ≤ nxS S b i then some (c ++ [obR S i (nxS S b i)])
    else lW S b k n (nxP S b (nxS S b i)) (c ++ [obR S i (nxS S b i)])
noncomputable def lV (S : sS) (a b k : Int) : List Int := (lW S b k 6000 a []).getD []
theorem lw_up {S : sS} {b k : Int} : ∀ (n : Nat) (i : Int) (c l : List Int), lW S b k n i c = some l → lW S b k (n + 1) i c = some l := by sorry
theorem lw_ups {S : sS} {b k i : Int} {c l : List Int} {n : Nat} (h : lW S b k n i c = some l) : ∀ m : Nat, lW S b k (n + m) i c = some l := by sorry
theorem lw_end {S : sS} {b k : Int} : ∀ (n : Nat) (i : Int) (c : List Int), (b - i).toNat < n → ∃ l, lW S b k n i c = some l := by sorry
theorem lw_V {S : sS} {a b k : Int} {l : List Int} {n : Nat} (h : lW S b k n a [] = some l) (hb : (b - a).toNat < 6000) : l = lV S a b k := by sorry
/-- what stands in an array -/
def ARL (T : sS) (c : Nat) (l : List Int) : Prop := ∀ (j : Nat) (h : j < l.length), Xi T c j = l[j]
theorem arl_e {T : sS} {c : Nat} : ARL T c [] := by sorry
theorem arl_p {T U : sS} {c : Nat} {l : List Int} {o : Int} {i : Nat} (h : ARL T c l) (hr : rg o) (hi : i = l.length) (e : U = uI T c i (Int32.ofInt o)) : ARL U c (l ++ [o]) := by sorry
theorem arl_fr {T U : sS} {c : Nat} {l : List Int} (h : ARL T c l) (f : ∀ j, Xi U c j = Xi T c j) : ARL U c l := by sorry
/-- the loop: something is still to come (m = 1), or it is through -/
def LOC (S T : sS) (c : Nat) (a b k i m n : Int) : Prop := ∃ l : List Int, n = l.length ∧ ARL T c l ∧
  (m ≠ 0 → ∀ (f : Nat) (r : List Int), lW S b k f i l = some r → ∃ g, lW S b k g a [] = some r) ∧
  (m = 0 → ∃ g, lW S b k g a [] = some l)
def LOF (S T : sS) (c : Nat) (a b k z : Int) : Prop := z = ((lV S a b k).length : Int) ∧ ARL T c (if z = 0 then [] else lV S a b k)
theorem loc_0 {S T : sS} {c : Nat} {a b k : Int} : LOC S T c a b k a 1 0 := by sorry
theorem loc_x {S T U : sS} {c : Nat} {a b k i m n e o : Int} (h : LOC S T c a b k i m n) (hm : m ≠ 0) (hb : (b - a).toNat < 6000) (he : e = nxS S b i) (ho : o = obR S i e) (q : o = -9 ∨ blR S (Xi S 918 o.toNat) k = 0) : LOF S U c a b k 0 := by sorry
theorem loc_s {S T U : sS} {c : Nat} {a b k i m n e o m2 i2 : Int} {u : Nat} (h : LOC S T c a b k i m n) (hm : m ≠ 0) (he : e = nxS S b i) (ho : o = obR S i e) (q : ¬ (o = -9 ∨ blR S (Xi S 918 o.toNat) k = 0)) (hr : rg o) (hu : (u : Int) = n) (eU : U = uI T c u (Int32.ofInt o)) (h2 : (b ≤ e ∧ m2 = 0) ∨ (e < b ∧ m2 = 1 ∧ i2 = nxP S b e)) : LOC S U c a b k i2 m2 (n + 1) := by sorry
theorem loc_z {S T : sS} {c : Nat} {a b k i m n : Int} (h : LOC S T c a b k i m n) (hm : m = 0) (hb : (b - a).toNat < 6000) : LOF S T c a b k n := by sorry
theorem tkR_F {l : List rec} {S T : sS} (h : FR l S T) (e : kdis l [(907, 908)] = true) (j : Nat) : Xi T 907 j = Xi S 907 j := by sorry
theorem oaR_F {l : List rec} {S T : sS} (h : FR l S T) (e : kdis l [(907, 908)] = true) {f t : Int} : oaR T f t = oaR S f t := by sorry
theorem obR_F {l : List rec} {S T : sS} (h : FR l S T) (e : kdis l [(907, 908)] = true) (e2 : ∀ t n s, msR T t n s = msR S t n s) {f t : Int} : obR T f t = obR S f t := by sorry
theorem nxF_F {l : List rec} {S T : sS} (h : FR l S T) (e : kdis l [(907, 908)] = true) {b : Int} : ∀ (n : Nat) (i : Int), nxF T b n i = nxF S b n i := by sorry
theorem nxP_F {l : List rec} {S T : sS} (h : FR l S T) (e : kdis l [(907, 908)] = true) {b i : Int} : nxP T b i = nxP S b i := by sorry
/-! 20: the reference relates -/
def rlB (S : sS) (r x y : Int) : Int := Xi S 940 (576 * r + 24 * x + y).toNat
def okW (S : sS) (r a b : Int) : Prop := ∀ x : Nat, (x : Int) < Xi S 904 19 → ¬ (Xi S 938 r.toNat ≠ 0 ∧ (x : Int) ≠ a ∧ rlB S r x b ≠ 0) ∧ ¬ (Xi S 939 r.toNat ≠ 0 ∧ (x : Int) ≠ b ∧ rlB S r a x ≠ 0)
def TRR (S S1 : sS) (z r a b : Int) : Prop := (okW S r a b → z = 1 ∧ S1 = uI S 940 (576 * r + 24 * a + b).toNat (Int32.ofInt 1)) ∧ (¬ okW S r a b → z = 0 ∧ S1 = S)
def DIN (S : sS) (r a : Int) : Nat → sS → sS → Prop
  | 0, U, V => V = U
  | n + 1, U, V => ∃ W, DIN S r a n U W ∧ TRR W V 1 r a (Xi S 989 n)
def DOU (S : sS) (r m : Int) : Nat → sS → sS → Prop
  | 0, U, V => V = U
  | n + 1, U, V => ∃ W, DOU S r m n U W ∧ DIN S r (Xi S 988 n) m.toNat W V
def DIO (S : sS) (i j : Int) (T : sS) : Prop := ∃ W, DOU S (Xi S 904 147) (Xi S 904 146) i.toNat S W ∧ DIN S (Xi S 904 147) (Xi S 988 i.toNat) j.toNat W T
def DFA (S : sS) (f : Int) (T : sS) : Prop := ∃ (i j : Nat) (U W : sS), (i : Int) < Xi S 904 144 ∧ (j : Int) < Xi S 904 146 ∧ DOU S (Xi S 904 147) (Xi S 904 146) i S U ∧ DIN S (Xi S 904 147) (Xi S 988 i) j U W ∧ ¬ okW W (Xi S 904 147) (Xi S 988 i) (Xi S 989 j) ∧ NTB (NT3 T) 5 (Xi S 908 f.toNat)
def DSY (S S1 : sS) (f : Int) : Prop := (Xi S1 904 106 = 0 → DOU S (Xi S 904 147) (Xi S 904 146) (Xi S 904 144).toNat S S1) ∧ (Xi S1 904 106 ≠ 0 → DFA S f S1)
theorem dio_0 {S T : sS} {i : Int} (h : DOU S (Xi S 904 147) (Xi S 904 146) i.toNat S T) : DIO S i 0 T := by sorry
theorem dio_s {S T V : sS} {i j z : Int} (h : DIO S i j T) (hj : 0 ≤ j) (k : TRR T V z (Xi S 904 147) (Xi S 988 i.toNat) (Xi S 989 j.toNat)) (hz : z = 1) : DIO S i (j + 1) V := by sorry
theorem dou_s {S T : sS} {i j : Int} (h : DIO S i j T) (hi : 0 ≤ i) (hj : j.toNat = (Xi S 904 146).toNat) : DOU S (Xi S 904 147) (Xi S 904 146) (i + 1).toNat S T := by sorry
theorem dfa_i {S T V X : sS} {i j z f : Int} (h : DIO S i j T) (hi : 0 ≤ i ∧ i < Xi S 904 144) (hj : 0 ≤ j ∧ j < Xi S 904 146) (k : TRR T V z (Xi S 904 147) (Xi S 988 i.toNat) (Xi S 989 j.toNat)) (hz : z = 0) (hn : NTB (NT3 X) 5 (Xi S 908 f.toNat)) : DFA S f X := by sorry
/-! 20: the reference asks -/
def sgF (S : sS) (f : Int) : Nat → Int
  | 0 => 1
  | n + 1 => if sgF S f n ≠ 0 ∧ Xi S 907 (f + n).toNat ≠ 116 ∧ Xi S 907 (f + n).toNat ≠ 44 then 1 else 0
noncomputable def vbA (S : sS) (f : Int) (n : Nat) : Int := if Xi S 907 (f + n).toNat = 3 then msR S (f + n) 1 (if sgF S f n ≠ 0 then 10 else 9) else -1
noncomputable def rA (S : sS) (f : Int) (n : Nat) : Int := Xi S 941 (vbA S f n).toNat
noncomputable def lA_ (S : sS) (f : Int) (n : Nat) : List Int := lV S f (f + n) (Xi S 936 (rA S f n).toNat)
noncomputable def lB_ (S : sS) (f d : Int) (n : Nat) : List Int := lV S (f + n + 1) d (Xi S 937 (rA S f n).toNat)
def qvR (S : sS) (f d : Int) (n : Nat) : Prop := vbA S f n ≠ -1 ∧ 0 < n ∧ f + n + 1 < d ∧ lA_ S f n ≠ [] ∧ lB_ S f d n ≠ []
noncomputable def cnA (S : sS) (f d : Int) : Nat → Int
  | 0 => 0
  | n + 1 => @ite Int (qvR S f d n) (Classical.propDecidable _) (cnA S f d n + 1) (cnA S f d n)
noncomputable def psA (S : sS) (f d : Int) : Nat → Int
  | 0 => -1
  | n + 1 => @ite Int (psA S f d n = -1 ∧ qvR S f d n) (Classical.propDecidable _) n (psA S f d n)
def SAQ (S T : sS) (f d : Int) (p : Nat) : Prop := Xi T 904 144 = (lA_ S f p).length ∧ Xi T 904 146 = (lB_ S f d p).length ∧ Xi T 904 147 = rA S f p ∧ ARL T 988 (lA_ S f p) ∧ ARL T 989 (lB_ S f d p)
def SAC (S T : sS) (f d n c : Int) : Prop := c = cnA S f d n.toNat ∧ 0 ≤ c ∧ (c = 0 → psA S f d n.toNat = -1) ∧ (0 < c → 0 ≤ psA S f d n.toNat ∧ psA S f d n.toNat < n ∧ qvR S f d (psA S f d n.toNat).toNat ∧ SAQ S T f d (psA S f d n.toNat).toNat)
def KSY (T U : sS) : Prop := Xi U 904 144 = Xi T 904 144 ∧ Xi U 904 146 = Xi T 904 146 ∧ Xi U 904 147 = Xi T 904 147 ∧ (∀ j, Xi U 988 j = Xi T 988 j) ∧ ∀ j, Xi U 989 j = Xi T 989 j
theorem KSY.rf {T : sS} : KSY T T := by sorry
theorem KSY.tr {T U V : sS} (h : KSY T U) (k : KSY U V) : KSY T V := by sorry
theorem KSY_FR {l : List rec} {T U : sS} (h : FR l T U) (e : mD l [144, 146, 147] = true) (e2 : kdis l [(988, 990)] = true) : KSY T U := by sorry
theorem saq_k {S T U : sS} {f d : Int} {p : Nat} (k : KSY T U) (h : SAQ S T f d p) : SAQ S U f d p := by sorry
theorem sac_0 {S T : sS} {f d n : Int} (h : n.toNat = 0) : SAC S T f d n 0 := by sorry
theorem sac_n {S T U : sS} {f d n m c : Int} (h : SAC S T f d n c) (h0 : 0 ≤ n) (hm : m = n + 1) (k : 0 < c → KSY T U) (q : ¬ qvR S f d n.toNat) : SAC S U f d m c := by sorry
theorem sac_y {S T U : sS} {f d n m c : Int} (h : SAC S T f d n c) (h0 : 0 ≤ n) (hm : m = n + 1) (hc : 0 < c) (k : KSY T U) (q : qvR S f d n.toNat) : SAC S U f d m (c + 1) := by sorry
theorem sac_z {S T U : sS} {f d n m c : Int} (h : SAC S T f d n c) (h0 : 0 ≤ n) (hm : m = n + 1) (hc : c = 0) (q : qvR S f d n.toNat) (s : SAQ S U f d n.toNat) : SAC S U f d m (c + 1) := by sorry
theorem vr_y {S : sS} {f i n s z g : Int} (hi : 0 ≤ n ∧ i = f + n) (ht : Xi S 907 i.toNat = 3) (hg : g = sgF S f n.toNat) (hz : z = msR S i 1 s) (hs : (g ≠ 0 ∧ s = 10) ∨ (g = 0 ∧ s = 9)) : z = vbA S f n.toNat := by sorry
theorem vr_n {S : sS} {f i n : Int} (hi : 0 ≤ n ∧ i = f + n) (ht : Xi S 907 i.toNat ≠ 3) : -1 = vbA S f n.toNat := by sorry
theorem sg_s {S : sS} {f i n m g x : Int} (hi : 0 ≤ n ∧ i = f + n ∧ m = n + 1) (hg : g = sgF S f n.toNat) (hx : (x = 1 ∧ g ≠ 0 ∧ Xi S 907 i.toNat ≠ 116 ∧ Xi S 907 i.toNat ≠ 44) ∨ (x = 0 ∧ (g = 0 ∨ Xi S 907 i.toNat = 116 ∨ Xi S 907 i.toNat = 44))) : x = sgF S f m.toNat := by sorry
theorem lW_F {l : List rec} {S T : sS} (h : FR l S T) (e : kdis l [(907, 908)] = true) (e2 : ∀ t n s, msR T t n s = msR S t n s) (e3 : kdis l [(917, 918)] = true) (e4 : kdis l [(918, 919)] = true) {b k : Int} : ∀ (n : Nat) (i : Int) (c : List Int), lW T b k n i c = lW S b k n i c := by sorry
theorem lV_F {l : List rec} {S T : sS} (h : FR l S T) (e : kdis l [(907, 908)] = true) (e2 : ∀ t n s, msR T t n s = msR S t n s) (e3 : kdis l [(917, 918)] = true) (e4 : kdis l [(918, 919)] = true) {a b k : Int} : lV T a b k = lV S a b k := by sorry
theorem lof_F {l : List rec} {S P T : sS} {c : Nat} {a b k z : Int} (h : FR l S P) (e : kdis l [(907, 908)] = true) (e2 : ∀ t n s, msR P t n s = msR S t n s) (e3 : kdis l [(917, 918)] = true) (e4 : kdis l [(918, 919)] = true) (q : LOF P T c a b k z) : LOF S T c a b k z := by sorry
theorem lof_z {S T : sS} {c : Nat} {a b k z : Int} (q : LOF S T c a b k z) (h : z ≤ 0) : lV S a b k = [] := by sorry
theorem lof_p {S T : sS} {c : Nat} {a b k z : Int} (q : LOF S T c a b k z) (h : 0 < z) : lV S a b k ≠ [] ∧ ARL T c (lV S a b k) := by sorry
theorem saq_i {l : List rec} {S A B U1 U2 U3 : sS} {f d i j n z1 z2 r k1 k2 : Int} (hn : 0 ≤ n ∧ i = f + n ∧ j = f + n + 1) (hr : r = rA S f n.toNat) (hk : k1 = Xi S 936 r.toNat) (hk2 : k2 = Xi S 937 r.toNat) (q1 : LOF S A 988 f i k1 z1) (h1 : 0 < z1) (F : FR l A B) (e : kdis l [(988, 989)] = true) (q2 : LOF S B 989 j d k2 z2) (h2 : 0 < z2) (r1 : rg z1) (r2 : rg z2) (r3 : rg r) (e1 : U1 = uI B 904 144 (Int32.ofInt z1)) (e2 : U2 = uI U1 904 146 (Int32.ofInt z2)) (e3 : U3 = uI U2 904 147 (Int32.ofInt r)) : SAQ S U3 f d n.toNat := by sorry
def RSY (S S1 : sS) (f d : Int) : Prop := NT3 S1 = (if cnA S f d (d - f).toNat < 2 then (if 0 < cnA S f d (d - f).toNat then NT3 S else ntF (NT3 S) 4 (Xi S 908 f.toNat)) else ntF (if 0 < cnA S f d (d - f).toNat then NT3 S else ntF (NT3 S) 4 (Xi S 908 f.toNat)) 7 (Xi S 908 f.toNat)) ∧ SAC S S1 f d (d - f) (cnA S f d (d - f).toNat)
theorem sac_k {S T U : sS} {f d n c : Int} (k : KSY T U) (h : SAC S T f d n c) : SAC S U f d n c := by sorry
theorem rsy_i {S T S1 : sS} {f d c : Int} (q : SAC S T f d (d - f) c) (k : KSY T S1) (n : NT3 S1 = (if c < 2 then (if 0 < c then NT3 S else ntF (NT3 S) 4 (Xi S 908 f.toNat)) else ntF (if 0 < c then NT3 S else ntF (NT3 S) 4 (Xi S 908 f.toNat)) 7 (Xi S 908 f.toNat))) : RSY S S1 f d := by sorry
theorem qvr_i {S A B : sS} {c1 c2 : Nat} {f d i j n z1 z2 k1 k2 : Int} (hv : vbA S f n.toNat ≠ -1) (hn : 0 < n ∧ i = f + n ∧ j = f + n + 1 ∧ j < d) (hk : k1 = Xi S 936 (rA S f n.toNat).toNat) (hk2 : k2 = Xi S 937 (rA S f n.toNat).toNat) (q1 : LOF S A c1 f i k1 z1) (h1 : 0 < z1) (q2 : LOF S B c2 j d k2 z2) (h2 : 0 < z2) : qvR S f d n.toNat := by sorry
theorem qvr_1 {S A : sS} {c1 : Nat} {f d i n z1 k1 : Int} (hn : 0 < n ∧ i = f + n) (hk : k1 = Xi S 936 (rA S f n.toNat).toNat) (q1 : LOF S A c1 f i k1 z1) (h1 : z1 ≤ 0) : ¬ qvR S f d n.toNat := by sorry
theorem qvr_2 {S A : sS} {c1 : Nat} {f d j n z1 k2 : Int} (hn : 0 < n ∧ j = f + n + 1) (hk : k2 = Xi S 937 (rA S f n.toNat).toNat) (q1 : LOF S A c1 j d k2 z1) (h1 : z1 ≤ 0) : ¬ qvR S f d n.toNat := by sorry
abbrev Q_mo_objectOf__p (S : sS) (from_ : Int) (to : Int) : pst := fun r S1 => S = S1 ∧ (∃ z : Int, r = some (iv z) ∧ (-2147483648 ≤ z ∧ z ≤ 2147483647) ∧ (z = obR S from_ to))
set_option maxRecDepth 100000 in
theorem t_mo_objectOf__p {S : sS} (hH : RI S) (from_ : Int) (to : Int) (hfrom_ : 0 ≤ from_ ∧ from_ ≤ 6000) (hto : 0 ≤ to ∧ to ≤ 6000) (hLS : LSP S) (h15 : 0 ≤ Xi S 904 15) (d : Nat) : Mp lay0 (d + 4) m_mo_objectOf [.ref 904, iv from_, iv to] S (Q_mo_objectOf__p S from_ to) := by sorry
def md_mo_listOf__p : List rec := [(988, 989, 0, 100000)]
abbrev Q_mo_listOf__p (S : sS) (from_ : Int) (to : Int) (kind : Int) : pst := fun r S1 => RI S1 ∧ FR md_mo_listOf__p S S1 ∧ (∃ z : Int, r = some (iv z) ∧ (-2147483648 ≤ z ∧ z ≤ 2147483647) ∧ (LOF S S1 988 from_ to kind z))
set_option maxRecDepth 100000 in
theorem t_mo_listOf__p {S : sS} (hH : RI S) (from_ : Int) (to : Int) (kind : Int) (hfrom_ : 0 ≤ from_ ∧ from_ ≤ 5140) (hto : 0 ≤ to ∧ to ≤ 5140) (hkind : -2147483648 ≤ kind ∧ kind ≤ 2147483647) (hLS : LSP S) (h15 : 0 ≤ Xi S 904 15) (hB : ABV S) (hko : Hid (∀ j : Nat, -1 ≤ Xi S 918 j ∧ Xi S 918 j ≤ 15)) (d : Nat) : Mp lay0 (d + 5) m_mo_listOf [.ref 904, iv from_, iv to, .ref 988, iv kind] S (Q_mo_listOf__p S from_ to kind) := by sorry
def md_mo_listOf__q : List rec := [(989, 990, 0, 100000)]
abbrev Q_mo_listOf__q (S : sS) (from_ : Int) (to : Int) (kind : Int) : pst := fun r S1 => RI S1 ∧ FR md_mo_listOf__q S S1 ∧ (∃ z : Int, r = some (iv z) ∧ (-2147483648 ≤ z ∧ z ≤ 2147483647) ∧ (LOF S S1 989 from_ to kind z))
set_option maxRecDepth 100000 in
theorem t_mo_listOf__q {S : sS} (hH : RI S) (from_ : Int) (to : Int) (kind : Int) (hfrom_ : 0 ≤ from_ ∧ from_ ≤ 5140) (hto : 0 ≤ to ∧ to ≤ 5140) (hkind : -2147483648 ≤ kind ∧ kind ≤ 2147483647) (hLS : LSP S) (h15 : 0 ≤ Xi S 904 15) (hB : ABV S) (hko : Hid (∀ j : Nat, -1 ≤ Xi S 918 j ∧ Xi S 918 j ≤ 15)) (d : Nat) : Mp lay0 (d + 5) m_mo_listOf [.ref 904, iv from_, iv to, .ref 989, iv kind] S (Q_mo_listOf__q S from_ to kind) := by sorry
def md_mo_listOf__r : List rec := [(990, 991, 0, 100000)]
abbrev Q_mo_listOf__r (S : sS) (from_ : Int) (to : Int) (kind : Int) : pst := fun r S1 => RI S1 ∧ FR md_mo_listOf__r S S1 ∧ (∃ z : Int, r = some (iv z) ∧ (-2147483648 ≤ z ∧ z ≤ 2147483647) ∧ (LOF S S1 990 from_ to kind z))
set_option maxRecDepth 100000 in
theorem t_mo_listOf__r {S : sS} (hH : RI S) (from_ : Int) (to : Int) (kind : Int) (hfrom_ : 0 ≤ from_ ∧ from_ ≤ 5140) (hto : 0 ≤ to ∧ to ≤ 5140) (hkind : -2147483648 ≤ kind ∧ kind ≤ 2147483647) (hLS : LSP S) (h15 : 0 ≤ Xi S 904 15) (hB : ABV S) (hko : Hid (∀ j : Nat, -1 ≤ Xi S 918 j ∧ Xi S 918 j ≤ 15)) (d : Nat) : Mp lay0 (d + 5) m_mo_listOf [.ref 904, iv from_, iv to, .ref 990, iv kind] S (Q_mo_listOf__r S from_ to kind) := by sorry
def md_mo_relate__p : List rec := [(940, 941, 0, 100000)]
abbrev Q_mo_relate__p (S : sS) (r1 : Int) (o1 : Int) (o2 : Int) : pst := fun r S1 => RI S1 ∧ FR md_mo_relate__p S S1 ∧ (∃ z : Int, r = some (iv z) ∧ (0 ≤ z ∧ z ≤ 1) ∧ (TRR S S1 z r1 o1 o2))
set_option maxRecDepth 100000 in
theorem t_mo_relate__p {S : sS} (hH : RI S) (r1 : Int) (o1 : Int) (o2 : Int) (hr1 : 0 ≤ r1 ∧ r1 ≤ 5) (ho1 : 0 ≤ o1 ∧ o1 ≤ 23) (ho2 : 0 ≤ o2 ∧ o2 ≤ 23) (hob : 0 ≤ Xi S 904 19 ∧ Xi S 904 19 ≤ 24) (d : Nat) : Mp lay0 (d + 1) m_mo_relate [.ref 904, iv r1, iv o1, iv o2] S (Q_mo_relate__p S r1 o1 o2) := by sorry
def md_mo_doSaying__p : List rec := [(904, 905, 105, 106), (904, 905, 106, 107), (940, 941, 0, 100000)]
abbrev Q_mo_doSaying__p (S : sS) (first : Int) : pst := fun r S1 => RI S1 ∧ FR md_mo_doSaying__p S S1 ∧ (r = none ∧ (DSY S S1 first))
set_option maxRecDepth 100000 in
theorem t_mo_doSaying__p {S : sS} (hH : RI S) (first : Int) (hfirst : 0 ≤ first ∧ first ≤ 5001) (hob : 0 ≤ Xi S 904 19 ∧ Xi S 904 19 ≤ 24) (h0 : Xi S 904 106 = 0) (hrl : 0 ≤ Xi S 904 147 ∧ Xi S 904 147 ≤ 5) (h144 : 0 ≤ Xi S 904 144 ∧ Xi S 904 144 ≤ 5200) (h146 : 0 ≤ Xi S 904 146 ∧ Xi S 904 146 ≤ 5200) (ha : Hid (∀ i : Nat, (i : Int) < Xi S 904 144 → 0 ≤ Xi S 988 i ∧ Xi S 988 i ≤ 23)) (hb : Hid (∀ i : Nat, (i : Int) < Xi S 904 146 → 0 ≤ Xi S 989 i ∧ Xi S 989 i ≤ 23)) (d : Nat) : Mp lay0 (d + 2) m_mo_doSaying [.ref 904, iv first] S (Q_mo_doSaying__p S first) := by sorry
def md_mo_askSaying__p : List rec := [(904, 905, 104, 105), (904, 905, 105, 106), (904, 905, 106, 107), (904, 905, 144, 145), (904, 905, 146, 147), (904, 905, 147, 148), (988, 989, 0, 100000), (989, 990, 0, 100000), (990, 991, 0, 100000)]
abbrev Q_mo_askSaying__p (S : sS) (dd : Nat) (first : Int) : pst := fun r S1 => RI S1 ∧ FR md_mo_askSaying__p S S1 ∧ (r = none ∧ (RSY S S1 first dd))
set_option maxRecDepth 100000 in
theorem t_mo_askSaying__p {S : sS} (hH : RI S) (dd : Nat) (first : Int) (hfirst : 0 ≤ first ∧ first ≤ 5001) (hLS : LSP S) (h15 : 0 ≤ Xi S 904 15) (hB : ABV S) (hko : Hid (∀ j : Nat, -1 ≤ Xi S 918 j ∧ Xi S 918 j ≤ 15)) (hd : first ≤ (dd : Int) ∧ (dd : Int) ≤ 5001) (he : Xi S 907 dd = 46) (hu : Hid (∀ j : Nat, first ≤ (j : Int) → j < dd → Xi S 907 j ≠ 46)) (d : Nat) : Mp lay0 (d + 6) m_mo_askSaying [.ref 904, iv first] S (Q_mo_askSaying__p S dd first) := by sorry
def md_mo_asked__20 : List rec := [(904, 905, 64, 65), (904, 905, 104, 105), (904, 905, 105, 106), (904, 905, 106, 107), (904, 905, 108, 109), (904, 905, 109, 110), (904, 905, 110, 111), (904, 905, 112, 113), (904, 905, 113, 114), (904, 905, 115, 116), (904, 905, 116, 117), (904, 905, 117, 118), (904, 905, 125, 126), (904, 905, 128, 129), (904, 905, 129, 130), (904, 905, 130, 131), (904, 905, 142, 143), (904, 905, 144, 145), (904, 905, 146, 147), (904, 905, 147, 148), (904, 905, 150, 151), (904, 905, 151, 152), (904, 905, 153, 154), (904, 905, 154, 155), (904, 905, 156, 157), (904, 905, 157, 158), (904, 905, 158, 159), (904, 905, 160, 161), (966, 967, 0, 100000), (967, 968, 0, 100000), (968, 969, 0, 100000), (969, 970, 0, 100000), (970, 971, 0, 100000), (971, 972, 0, 100000), (972, 973, 0, 100000), (973, 974, 0, 100000), (974, 975, 0, 100000), (975, 976, 0, 100000), (976, 977, 0, 100000), (977, 978, 0, 100000), (978, 979, 0, 100000), (979, 980, 0, 100000), (980, 981, 0, 100000), (981, 982, 0, 100000), (982, 983, 0, 100000), (983, 984, 0, 100000), (984, 985, 0, 100000), (985, 986, 0, 100000), (986, 987, 0, 100000), (987, 988, 0, 100000), (988, 989, 0, 100000), (989, 990, 0, 100000), (990, 991, 0, 100000), (991, 992, 0, 100000), (992, 993, 0, 100000), (993, 994, 0, 100000), (994, 995, 0, 100000)]
abbrev Q_mo_asked__20 (S : sS) (dd : Nat) (first : Int) : pst := fun r S1 => RI S1 ∧ FR md_mo_asked__20 S S1 ∧ (r = none ∧ (∃ P : sS, FR lA S P ∧ (Xi P 904 106 = 0 ∧ Xi P 904 108 = 0) ∧ RSY P S1 first dd))
set_option maxRecDepth 100000 in
theorem t_mo_asked__20 {S : sS} (hH : RI S) (dd : Nat) (first : Int) (hfirst : 0 ≤ first ∧ first ≤ 5001) (hLS : LSP S) (h15 : 0 ≤ Xi S 904 15) (hB : ABV S) (hko : Hid (∀ j : Nat, -1 ≤ Xi S 918 j ∧ Xi S 918 j ≤ 15)) (hd : first ≤ (dd : Int) ∧ (dd : Int) ≤ 5001) (he : Xi S 907 dd = 46) (hu : Hid (∀ j : Nat, first ≤ (j : Int) → j < dd → Xi S 907 j ≠ 46)) (hs : Xi S 904 70 = 20) (d : Nat) : Mp lay0 (d + 13) m_mo_asked [.ref 904, iv first] S (Q_mo_asked__20 S dd first) := by sorry
def md_mo_does__20 : List rec := [(904, 905, 15, 16), (904, 905, 16, 17), (904, 905, 18, 19), (904, 905, 19, 20), (904, 905, 23, 24), (904, 905, 30, 31), (904, 905, 32, 33), (904, 905, 41, 42), (904, 905, 47, 48), (904, 905, 49, 50), (904, 905, 51, 52), (904, 905, 55, 56), (904, 905, 60, 61), (904, 905, 64, 65), (904, 905, 73, 74), (904, 905, 105, 106), (904, 905, 106, 107), (904, 905, 113, 114), (904, 905, 117, 118), (912, 913, 0, 100000), (913, 914, 0, 100000), (914, 915, 0, 100000), (915, 916, 0, 100000), (916, 917, 0, 100000), (917, 918, 0, 100000), (918, 919, 0, 100000), (919, 920, 0, 100000), (920, 921, 0, 100000), (921, 922, 0, 100000), (922, 923, 0, 100000), (923, 924, 0, 100000), (924, 925, 0, 100000), (925, 926, 0, 100000), (926, 927, 0, 100000), (927, 928, 0, 100000), (928, 929, 0, 100000), (929, 930, 0, 100000), (930, 931, 0, 100000), (931, 932, 0, 100000), (932, 933, 0, 100000), (933, 934, 0, 100000), (934, 935, 0, 100000), (935, 936, 0, 100000), (936, 937, 0, 100000), (937, 938, 0, 100000), (938, 939, 0, 100000), (939, 940, 0, 100000), (940, 941, 0, 100000), (941, 942, 0, 100000), (942, 943, 0, 100000), (943, 944, 0, 100000), (944, 945, 0, 100000), (945, 946, 0, 100000), (946, 947, 0, 100000), (947, 948, 0, 100000), (948, 949, 0, 100000), (949, 950, 0, 100000)]
abbrev Q_mo_does__20 (S : sS) (first : Int) : pst := fun r S1 => RI S1 ∧ FR md_mo_does__20 S S1 ∧ (r = none ∧ (DSY S S1 first))
set_option maxRecDepth 100000 in
theorem t_mo_does__20 {S : sS} (hH : RI S) (first : Int) (hfirst : 0 ≤ first ∧ first ≤ 5001) (hob : 0 ≤ Xi S 904 19 ∧ Xi S 904 19 ≤ 24) (h0 : Xi S 904 106 = 0) (hrl : 0 ≤ Xi S 904 147 ∧ Xi S 904 147 ≤ 5) (h144 : 0 ≤ Xi S 904 144 ∧ Xi S 904 144 ≤ 5200) (h146 : 0 ≤ Xi S 904 146 ∧ Xi S 904 146 ≤ 5200) (ha : Hid (∀ i : Nat, (i : Int) < Xi S 904 144 → 0 ≤ Xi S 988 i ∧ Xi S 988 i ≤ 23)) (hb : Hid (∀ i : Nat, (i : Int) < Xi S 904 146 → 0 ≤ Xi S 989 i ∧ Xi S 989 i ≤ 23)) (hs : Xi S 904 70 = 20) (d : Nat) : Mp lay0 (d + 8) m_mo_does [.ref 904, iv first] S (Q_mo_does__20 S first) := by sorry
end
end
section
section
/-! 1: the words of a command's text -/
theorem SMK_j {ks : List (Nat × Nat)} {S S1 : sS} (h : SMK ks S S1) (k : Nat) (e : inK ks k = true) (j : Nat) : Xj S1 k j = Xj S k j := by sorry
def BYT (S : sS) (t : Nat) : Prop := ∀ j : Nat, -128 ≤ Xi S t j ∧ Xi S t j ≤ 127
theorem tp_F {l : List rec} {S T : sS} {t : Nat} (h : FR l S T) (e : kdis l [(902, 904)] = true) (ht : tp t) : Xi T t = Xi S t := by sorry
theorem BYT_F {l : List rec} {S T : sS} {t : Nat} (h : FR l S T) (e : kdis l [(902, 904)] = true) (ht : tp t) (b : BYT S t) : BYT T t := by sorry
/-- the words in [ ]: where it ends (-1: not at all) and where they lie -/
noncomputable def gWk (B : Nat → Int) (kf : Int → Int → Prop) (to : Int) : Nat → Int → List (Int × Int) → Option (Int × List (Int × Int))
  | 0, _, _ => none
  | n + 1, i, l =>
    if to ≤ i then some (-1, l)
    else if B i.toNat = 93 then (if l = [] then some (-1, l) else some (i + 1, l))
    else if B i.toNat = 32 then gWk B kf to n (i + 1) l
    else @ite (Option (Int × List (Int × Int))) (we7 B to i = i ∨ 12 < we7 B to i - i ∨ ¬ kf i (we7 B to i)) (Classical.propDecidable _) (some (-1, l)) (gWk B kf to n (we7 B to i) (l ++ [(i, we7 B to i)]))
noncomputable def gWv (B : Nat → Int) (kf : Int → Int → Prop) (to i : Int) : Int × List (Int × Int) := (gWk B kf to 6000 i []).getD (-1, [])
theorem we7_b {B : Nat → Int} {e p : Int} : p ≤ we7 B e p ∧ (p ≤ e → we7 B e p ≤ e) := by sorry
theorem gw_up {B : Nat → Int} {kf : Int → Int → Prop} {to : Int} : ∀ (n : Nat) (i : Int) (l : List (Int × Int)) (r : Int × List (Int × Int)), gWk B kf to n i l = some r → gWk B kf to (n + 1) i l = some r := by sorry
theorem gw_ups {B : Nat → Int} {kf : Int → Int → Prop} {to i : Int} {l : List (Int × Int)} {r : Int × List (Int × Int)} {n : Nat} (h : gWk B kf to n i l = some r) : ∀ m : Nat, gWk B kf to (n + m) i l = some r := by sorry
theorem gw_end {B : Nat → Int} {kf : Int → Int → Prop} {to : Int} : ∀ (n : Nat) (i : Int) (l : List (Int × Int)), (to - i).toNat < n → ∃ r, gWk B kf to n i l = some r := by sorry
theorem gw_V {B : Nat → Int} {kf : Int → Int → Prop} {to i : Int} {r : Int × List (Int × Int)} {n : Nat} (h : gWk B kf to n i [] = some r) (hb : (to - i).toNat < 6000) : r = gWv B kf to i := by sorry
def GWC (B : Nat → Int) (kf : Int → Int → Prop) (to a i : Int) (l : List (Int × Int)) : Prop := ∀ (n : Nat) (r : Int × List (Int × Int)), gWk B kf to n i l = some r → ∃ m, gWk B kf to m a [] = some r
theorem gwc_0 {B : Nat → Int} {kf : Int → Int → Prop} {to a : Int} : GWC B kf to a a [] := by sorry
theorem gwc_v {B : Nat → Int} {kf : Int → Int → Prop} {to a i : Int} {l : List (Int × Int)} {r : Int × List (Int × Int)} (c : GWC B kf to a i l) (hb : (to - a).toNat < 6000) (h : gWk B kf to 1 i l = some r) : r = gWv B kf to a := by sorry
theorem gwc_b {B : Nat → Int} {kf : Int → Int → Prop} {to a i : Int} {l : List (Int × Int)} (c : GWC B kf to a i l) (h0 : i < to) (h : B i.toNat = 32) : GWC B kf to a (i + 1) l := by sorry
theorem gwc_w {B : Nat → Int} {kf : Int → Int → Prop} {to a i e : Int} {l : List (Int × Int)} (c : GWC B kf to a i l) (h0 : i < to) (h : B i.toNat ≠ 93 ∧ B i.toNat ≠ 32) (he : e = we7 B to i) (h1 : e ≠ i ∧ e - i ≤ 12) (hk : kf i e) : GWC B kf to a e (l ++ [(i, e)]) := by sorry
theorem gw_x {B : Nat → Int} {kf : Int → Int → Prop} {to i e : Int} {l : List (Int × Int)} (h0 : i < to) (h : B i.toNat ≠ 93 ∧ B i.toNat ≠ 32) (he : e = we7 B to i) (h1 : e = i ∨ 12 < e - i ∨ ¬ kf i e) : gWk B kf to 1 i l = some (-1, l) := by sorry
theorem gw_z {B : Nat → Int} {kf : Int → Int → Prop} {to i : Int} {l : List (Int × Int)} (h0 : to ≤ i) : gWk B kf to 1 i l = some (-1, l) := by sorry
theorem gw_y {B : Nat → Int} {kf : Int → Int → Prop} {to i : Int} {l : List (Int × Int)} (h0 : i < to) (h : B i.toNat = 93) : gWk B kf to 1 i l = if l = [] then some (-1, l) else some (i + 1, l) := by sorry
/-- what the class keeps of it -/
def kf7 (S : sS) (t : Nat) (a e : Int) : Prop := ky7 (Xj S 880) (c27 (Xi S t) a.toNat (e - a).toNat) 100 = 100
def GPR (S T : sS) (t : Nat) (l : List (Int × Int)) : Prop := Xi T 882 10 = l.length ∧ ∀ (j : Nat) (h : j < l.length), j < 3 → Xj T 888 j = c27 (Xi S t) l[j].1.toNat (l[j].2 - l[j].1).toNat
def GLC (S T : sS) (t : Nat) (to a i : Int) : Prop := ∃ l, GPR S T t l ∧ GWC (Xi S t) (kf7 S t) to a i l
def GPO (S T : sS) (t : Nat) (a to z : Int) : Prop := z = (gWv (Xi S t) (kf7 S t) to a).1 ∧ (z ≠ -1 → GPR S T t (gWv (Xi S t) (kf7 S t) to a).2)
theorem glc_0 {S T : sS} {t : Nat} {to a : Int} (h : Xi T 882 10 = 0) : GLC S T t to a a := by sorry
theorem glc_b {S T : sS} {t : Nat} {to a i : Int} (c : GLC S T t to a i) (h0 : i < to) (h : Xi S t i.toNat = 32) : GLC S T t to a (i + 1) := by sorry
theorem glc_w {S T U : sS} {t : Nat} {to a i e w : Int} (c : GLC S T t to a i) (h0 : i < to) (h : Xi S t i.toNat ≠ 93 ∧ Xi S t i.toNat ≠ 32) (he : e = we7 (Xi S t) to i) (h1 : e ≠ i ∧ e - i ≤ 12) (hw : w = c27 (Xi S t) i.toNat (e - i).toNat) (hk : ky7 (Xj S 880) w 100 = 100) (u1 : Xi U 882 10 = Xi T 882 10 + 1) (u2 : Xi T 882 10 < 3 → Xj U 888 (Xi T 882 10).toNat = w) (u3 : ∀ j : Nat, (j : Int) < Xi T 882 10 → Xj U 888 j = Xj T 888 j) : GLC S U t to a e := by sorry
theorem glc_z {S T : sS} {t : Nat} {to a i : Int} (c : GLC S T t to a i) (hb : (to - a).toNat < 6000) (h0 : to ≤ i) : GPO S T t a to (-1) := by sorry
theorem glc_x {S T : sS} {t : Nat} {to a i e w : Int} (c : GLC S T t to a i) (hb : (to - a).toNat < 6000) (h0 : i < to) (h : Xi S t i.toNat ≠ 93 ∧ Xi S t i.toNat ≠ 32) (he : e = we7 (Xi S t) to i) (h1 : e = i ∨ 12 < e - i ∨ (e - i ≤ 12 ∧ w = c27 (Xi S t) i.toNat (e - i).toNat ∧ ky7 (Xj S 880) w 100 ≠ 100)) : GPO S T t a to (-1) := by sorry
theorem glc_y {S T : sS} {t : Nat} {to a i z : Int} (c : GLC S T t to a i) (hb : (to - a).toNat < 6000) (h0 : i < to) (h : Xi S t i.toNat = 93) (hz : (0 < Xi T 882 10 ∧ z = i + 1) ∨ (Xi T 882 10 ≤ 0 ∧ z = -1)) : GPO S T t a to z := by sorry
theorem glc_ws {S T P U : sS} {t : Nat} {to a i e w : Int} (c : GLC S T t to a i) (h0 : i < to) (h : Xi S t i.toNat ≠ 93 ∧ Xi S t i.toNat ≠ 32) (he : e = we7 (Xi S t) to i) (h1 : e ≠ i ∧ e - i ≤ 12) (hw : w = c27 (Xi S t) i.toNat (e - i).toNat) (hk : ky7 (Xj S 880) w 100 = 100) (hr : rgL w) (hb : 0 ≤ Xi T 882 10 ∧ Xi T 882 10 < 3) (e1 : P = uJ T 888 (Xi T 882 10).toNat (Int64.ofInt w)) (e2 : U = uI P 882 10 (Int32.ofInt (Xi T 882 10 + 1))) : GLC S U t to a e := by sorry
theorem glc_wk {S T U : sS} {t : Nat} {to a i e w : Int} (c : GLC S T t to a i) (h0 : i < to) (h : Xi S t i.toNat ≠ 93 ∧ Xi S t i.toNat ≠ 32) (he : e = we7 (Xi S t) to i) (h1 : e ≠ i ∧ e - i ≤ 12) (hw : w = c27 (Xi S t) i.toNat (e - i).toNat) (hk : ky7 (Xj S 880) w 100 = 100) (hb : 3 ≤ Xi T 882 10 ∧ Xi T 882 10 ≤ 6000) (e2 : U = uI T 882 10 (Int32.ofInt (Xi T 882 10 + 1))) : GLC S U t to a e := by sorry
theorem gw_r {B : Nat → Int} {kf : Int → Int → Prop} {to : Int} : ∀ (n : Nat) (i : Int) (l : List (Int × Int)) (r : Int × List (Int × Int)), gWk B kf to n i l = some r → r.1 = -1 ∨ (i < r.1 ∧ r.1 ≤ to) := by sorry
theorem gwv_r {B : Nat → Int} {kf : Int → Int → Prop} {to i : Int} (hb : (to - i).toNat < 6000) : (gWv B kf to i).1 = -1 ∨ (i < (gWv B kf to i).1 ∧ (gWv B kf to i).1 ≤ to) := by sorry
/-! the whole text -/
noncomputable def tWk (B : Nat → Int) (kf : Int → Int → Prop) (to : Int) : Nat → Int → List (Int × Int) → Int → List (Int × Int) → Option (Int × List (Int × Int) × Int × List (Int × Int))
  | 0, _, _, _, _ => none
  | n + 1, i, l, gi, g =>
    if to ≤ i then some (if l = [] then 0 else 1, l, gi, g)
    else if B i.toNat = 32 then tWk B kf to n (i + 1) l gi g
    else if l.length = 8 ∨ (B i.toNat = 91 ∧ gi ≠ -1) then some (0, l, gi, g)
    else if B i.toNat = 91 then
      (if (gWv B kf to (i + 1)).1 = -1 ∨ ((gWv B kf to (i + 1)).1 < to ∧ B (gWv B kf to (i + 1)).1.toNat ≠ 32) then some (0, l, gi, g)
       else tWk B kf to n (gWv B kf to (i + 1)).1 (l ++ [(-1, -1)]) l.length (gWv B kf to (i + 1)).2)
    else if we7 B to i = i ∨ 12 < we7 B to i - i ∨ (we7 B to i < to ∧ B (we7 B to i).toNat ≠ 32) then some (0, l, gi, g)
    else tWk B kf to n (we7 B to i) (l ++ [(i, we7 B to i)]) gi g
noncomputable def tWv (B : Nat → Int) (kf : Int → Int → Prop) (to i : Int) : Int × List (Int × Int) × Int × List (Int × Int) := (tWk B kf to 6000 i [] (-1) []).getD (0, [], -1, [])
theorem tw_up {B : Nat → Int} {kf : Int → Int → Prop} {to : Int} : ∀ (n : Nat) (i : Int) (l : List (Int × Int)) (gi : Int) (g : List (Int × Int)) (r : Int × List (Int × Int) × Int × List (Int × Int)), tWk B kf to n i l gi g = some r → tWk B kf to (n + 1) i l gi g = some r := by sorry
theorem tw_ups {B : Nat → Int} {kf : Int → Int → Prop} {to i gi : Int} {l g : List (Int × Int)} {r : Int × List (Int × Int) × Int × List (Int × Int)} {n : Nat} (h : tWk B kf to n i l gi g = some r) : ∀ m : Nat, tWk B kf to (n + m) i l gi g = some r := by sorry
theorem twk_e {B : Nat → Int} {kf : Int → Int → Prop} {to : Int} (hb : to < 5999) : ∀ (n : Nat) (i : Int) (l : List (Int × Int)) (gi : Int) (g : List (Int × Int)), 0 ≤ i → (to - i).toNat < n → ∃ r, tWk B kf to n i l gi g = some r := by sorry
theorem tw_V {B : Nat → Int} {kf : Int → Int → Prop} {to i : Int} {r : Int × List (Int × Int) × Int × List (Int × Int)} {n : Nat} (h : tWk B kf to n i [] (-1) [] = some r) (hb : 0 ≤ i ∧ to < 5999) : r = tWv B kf to i := by sorry
def TWC (B : Nat → Int) (kf : Int → Int → Prop) (to a i : Int) (l : List (Int × Int)) (gi : Int) (g : List (Int × Int)) : Prop := ∀ (n : Nat) (r : Int × List (Int × Int) × Int × List (Int × Int)), tWk B kf to n i l gi g = some r → ∃ m, tWk B kf to m a [] (-1) [] = some r
theorem twc_v {B : Nat → Int} {kf : Int → Int → Prop} {to a i gi : Int} {l g : List (Int × Int)} {r : Int × List (Int × Int) × Int × List (Int × Int)} (c : TWC B kf to a i l gi g) (hb : 0 ≤ a ∧ to < 5999) (h : tWk B kf to 1 i l gi g = some r) : r = tWv B kf to a := by sorry
/-- what the class keeps of it -/
def TXR (S T : sS) (t : Nat) (l : List (Int × Int)) (gi : Int) (g : List (Int × Int)) : Prop :=
  Xi T 885 (Xi S 882 3).toNat = gi ∧ Xi T 886 (Xi S 882 3).toNat = -1 ∧ (gi = -1 ∨ (0 ≤ gi ∧ gi < l.length)) ∧ l.length ≤ 8 ∧ (gi ≠ -1 → GPR S T t g) ∧
  ∀ (j : Nat) (h : j < l.length), (j : Int) ≠ gi → Xj T 887 (Xi S 882 3 * 8 + j).toNat = c27 (Xi S t) l[j].1.toNat (l[j].2 - l[j].1).toNat
def TLC (S T : sS) (t : Nat) (to a i n : Int) : Prop := ∃ l gi g, n = l.length ∧ TXR S T t l gi g ∧ TWC (Xi S t) (kf7 S t) to a i l gi g
def TXO (S T : sS) (t : Nat) (a to z : Int) : Prop := z = (tWv (Xi S t) (kf7 S t) to a).1 ∧ (z = 1 → Xi T 884 (Xi S 882 3).toNat = (tWv (Xi S t) (kf7 S t) to a).2.1.length ∧ TXR S T t (tWv (Xi S t) (kf7 S t) to a).2.1 (tWv (Xi S t) (kf7 S t) to a).2.2.1 (tWv (Xi S t) (kf7 S t) to a).2.2.2)
theorem tlc_0 {S T : sS} {t : Nat} {to a : Int} (h : Xi T 885 (Xi S 882 3).toNat = -1) (h2 : Xi T 886 (Xi S 882 3).toNat = -1) : TLC S T t to a a 0 := by sorry
theorem tlc_b {S T : sS} {t : Nat} {to a i n : Int} (c : TLC S T t to a i n) (h0 : i < to) (h : Xi S t i.toNat = 32) : TLC S T t to a (i + 1) n := by sorry
theorem tlc_x {S T U : sS} {t : Nat} {to a i n : Int} (c : TLC S T t to a i n) (hb : 0 ≤ a ∧ to < 5999) (h0 : i < to) (h : Xi S t i.toNat ≠ 32) (q : n = 8 ∨ (Xi S t i.toNat = 91 ∧ Xi T 885 (Xi S 882 3).toNat ≠ -1)) : TXO S U t a to 0 := by sorry
theorem tlc_gx {S T U : sS} {t : Nat} {to a i n z : Int} (c : TLC S T t to a i n) (hb : 0 ≤ a ∧ to < 5999) (h0 : i < to) (h : Xi S t i.toNat = 91) (hn : n ≠ 8) (hg : Xi T 885 (Xi S 882 3).toNat = -1) (hz : z = (gWv (Xi S t) (kf7 S t) to (i + 1)).1) (q : z = -1 ∨ (z < to ∧ Xi S t z.toNat ≠ 32)) : TXO S U t a to 0 := by sorry
theorem tlc_wx {S T U : sS} {t : Nat} {to a i n e : Int} (c : TLC S T t to a i n) (hb : 0 ≤ a ∧ to < 5999) (h0 : i < to) (h : Xi S t i.toNat ≠ 91 ∧ Xi S t i.toNat ≠ 32) (hn : n ≠ 8) (he : e = we7 (Xi S t) to i) (q : e = i ∨ 12 < e - i ∨ (e < to ∧ Xi S t e.toNat ≠ 32)) : TXO S U t a to 0 := by sorry
theorem GPR_J {S T U : sS} {t : Nat} {g : List (Int × Int)} (h : GPR S T t g) (h1 : Xi U 882 10 = Xi T 882 10) (h2 : ∀ j, Xj U 888 j = Xj T 888 j) : GPR S U t g := by sorry
theorem tlc_w {S T U : sS} {t : Nat} {to a i n e w : Int} (c : TLC S T t to a i n) (h3 : 0 ≤ Xi S 882 3) (h0 : i < to) (h : Xi S t i.toNat ≠ 91 ∧ Xi S t i.toNat ≠ 32) (hn : n ≠ 8) (he : e = we7 (Xi S t) to i) (q : ¬ (e = i ∨ 12 < e - i ∨ (e < to ∧ Xi S t e.toNat ≠ 32))) (hw : w = c27 (Xi S t) i.toNat (e - i).toNat) (hr : rgL w) (eU : U = uJ T 887 (Xi S 882 3 * 8 + n).toNat (Int64.ofInt w)) : TLC S U t to a e (n + 1) := by sorry
theorem tlc_g {l1 : List rec} {S T P U : sS} {t : Nat} {to a i n z : Int} (c : TLC S T t to a i n) (h3 : 0 ≤ Xi S 882 3) (h0 : i < to) (h : Xi S t i.toNat = 91) (hn : n ≠ 8) (hr : rg n) (hg : Xi T 885 (Xi S 882 3).toNat = -1) (eP : P = uI T 885 (Xi S 882 3).toNat (Int32.ofInt n)) (F : FR l1 P U) (f1 : kdis l1 [(885, 888)] = true) (o : GPO S U t (i + 1) to z) (q : ¬ (z = -1 ∨ (z < to ∧ Xi S t z.toNat ≠ 32))) : TLC S U t to a z (n + 1) := by sorry
theorem tlc_z {S T U : sS} {t : Nat} {to a i n z : Int} (c : TLC S T t to a i n) (h3 : 0 ≤ Xi S 882 3) (hb : 0 ≤ a ∧ to < 5999) (h0 : to ≤ i) (eU : U = uI T 884 (Xi S 882 3).toNat (Int32.ofInt n)) (hr : rg n) (hz : (0 < n ∧ z = 1) ∨ (n ≤ 0 ∧ z = 0)) : TXO S U t a to z := by sorry
theorem gpo_F {l : List rec} {S P U : sS} {t : Nat} {a to z : Int} (h : FR l S P) (e : kdis l [(902, 904)] = true) (e2 : kdis l [(880, 881)] = true) (ht : tp t) (o : GPO P U t a to z) : GPO S U t a to z := by sorry
abbrev Q_rs_letterOf__p (S : sS) (b : Int) : pst := fun r S1 => S = S1 ∧ (∃ z : Int, r = some (iv z) ∧ (-2147483648 ≤ z ∧ z ≤ 2147483647) ∧ (z = lt7 b))
set_option maxRecDepth 100000 in
theorem t_rs_letterOf__p {S : sS} (hH : RI S) (b : Int) (hb : -128 ≤ b ∧ b ≤ 127) (d : Nat) : Mp lay0 (d + 1) m_rs_letterOf [iv b] S (Q_rs_letterOf__p S b) := by sorry
abbrev Q_to_keyOf__p (S : sS) (code : Int) : pst := fun r S1 => S = S1 ∧ (∃ z : Int, r = some (iv z) ∧ (-2147483648 ≤ z ∧ z ≤ 2147483647) ∧ (z = ky7 (Xj S 880) code 100))
set_option maxRecDepth 100000 in
theorem t_to_keyOf__p {S : sS} (hH : RI S) (code : Int) (hw : rgL code) (d : Nat) : Mp lay0 (d + 1) m_to_keyOf [.ref 876, jw code] S (Q_to_keyOf__p S code) := by sorry
abbrev Q_co_wordEnd__p (S : sS) (t : Nat) (from_ : Int) (to : Int) : pst := fun r S1 => S = S1 ∧ (∃ z : Int, r = some (iv z) ∧ (-2147483648 ≤ z ∧ z ≤ 2147483647) ∧ (z = we7 (Xi S t) to from_) ∧ (from_ ≤ z ∧ (z ≤ to ∨ z = from_)))
set_option maxRecDepth 100000 in
theorem t_co_wordEnd__p {S : sS} (hH : RI S) (t : Nat) (from_ : Int) (to : Int) (ht : tp t) (hfrom_ : 0 ≤ from_ ∧ from_ ≤ 5000) (hto : 0 ≤ to ∧ to ≤ 5000) (hby : BYT S t) (d : Nat) : Mp lay0 (d + 2) m_co_wordEnd [.ref t, iv from_, iv to] S (Q_co_wordEnd__p S t from_ to) := by sorry
abbrev Q_co_codeOf__p (S : sS) (t : Nat) (from_ : Int) (to : Int) : pst := fun r S1 => S = S1 ∧ (∃ z : Int, r = some (jw z) ∧ (z = c27 (Xi S t) from_.toNat (m12 (to - from_))) ∧ (rgL z))
set_option maxRecDepth 100000 in
theorem t_co_codeOf__p {S : sS} (hH : RI S) (t : Nat) (from_ : Int) (to : Int) (ht : tp t) (hfrom_ : 0 ≤ from_ ∧ from_ ≤ 5000) (hto : 0 ≤ to ∧ to ≤ 5000) (hby : BYT S t) (hft : from_ ≤ to) (d : Nat) : Mp lay0 (d + 2) m_co_codeOf [.ref t, iv from_, iv to] S (Q_co_codeOf__p S t from_ to) := by sorry
def md_co_takeGap__p : List rec := [(882, 883, 10, 11), (888, 889, 0, 100000)]
abbrev Q_co_takeGap__p (S : sS) (t : Nat) (from_ : Int) (to : Int) : pst := fun r S1 => RI S1 ∧ FR md_co_takeGap__p S S1 ∧ (∃ z : Int, r = some (iv z) ∧ (-2147483648 ≤ z ∧ z ≤ 2147483647) ∧ (GPO S S1 t from_ to z) ∧ (z = -1 ∨ (from_ ≤ z ∧ z ≤ to)))
set_option maxRecDepth 100000 in
theorem t_co_takeGap__p {S : sS} (hH : RI S) (t : Nat) (from_ : Int) (to : Int) (ht : tp t) (hfrom_ : 0 ≤ from_ ∧ from_ ≤ 5000) (hto : 0 ≤ to ∧ to ≤ 5000) (hby : BYT S t) (hft : from_ ≤ to) (d : Nat) : Mp lay0 (d + 3) m_co_takeGap [.ref 882, .ref t, iv from_, iv to] S (Q_co_takeGap__p S t from_ to) := by sorry
def md_co_takeText__p : List rec := [(882, 883, 10, 11), (884, 885, 0, 100000), (885, 886, 0, 100000), (886, 887, 0, 100000), (887, 888, 0, 100000), (888, 889, 0, 100000)]
abbrev Q_co_takeText__p (S : sS) (t : Nat) (from_ : Int) (to : Int) : pst := fun r S1 => RI S1 ∧ FR md_co_takeText__p S S1 ∧ (∃ z : Int, r = some (iv z) ∧ (0 ≤ z ∧ z ≤ 1) ∧ (TXO S S1 t from_ to z))
set_option maxRecDepth 100000 in
theorem t_co_takeText__p {S : sS} (hH : RI S) (t : Nat) (from_ : Int) (to : Int) (ht : tp t) (hfrom_ : 0 ≤ from_ ∧ from_ ≤ 5000) (hto : 0 ≤ to ∧ to ≤ 5000) (hby : BYT S t) (hft : from_ ≤ to) (hc : 0 ≤ Xi S 882 3 ∧ Xi S 882 3 < 20) (d : Nat) : Mp lay0 (d + 4) m_co_takeText [.ref 882, .ref t, iv from_, iv to] S (Q_co_takeText__p S t from_ to) := by sorry
end
section
/-! PARTIAL rows: strings -/
section PSTR
variable {f : Nat} {lay : Nat → Nat × Nat} {d pc : Nat} {q : mT} {L : List (Nat × Value)} {st : List Value} {S : sS} {Q : pst}
theorem y_gst {ix j : Nat} {b : Bool} (hc : lk q.2.2.2.2.2 pc = some (.getstatic ix)) (hf : fLs q.2.2.2.2.1 ix = some (91, j, b)) (h : Pl f lay d q (pc + 3) L (iv 1 :: st) S Q) : Pl f lay d q pc L st S Q := by sorry
theorem y_strV {ix i : Nat} {b : Bool} (hc : lk q.2.2.2.2.2 pc = some (.getfield ix)) (hf : fLs q.2.2.2.2.1 ix = some (90, 0, b)) (hi : (strT[i]?).isSome = true) (h : Pl f lay d q (pc + 3) L (.ref (SV + i) :: st) S Q) : Pl f lay d q pc L (.ref (SB + i) :: st) S Q := by sorry
theorem y_strC {ix i : Nat} {b : Bool} (hc : lk q.2.2.2.2.2 pc = some (.getfield ix)) (hf : fLs q.2.2.2.2.1 ix = some (90, 1, b)) (hi : (strT[i]?).isSome = true) (h : Pl f lay d q (pc + 3) L (iv 0 :: st) S Q) : Pl f lay d q pc L (.ref (SB + i) :: st) S Q := by sorry
theorem y_strL {i n : Nat} {x : String × Nat × String × List Int32} (hc : lk q.2.2.2.2.2 pc = some .arraylength) (hi : strT[i]? = some x) (hn : x.2.2.2.length = n) (h : Pl f lay d q (pc + 1) L (iv (n : Int) :: st) S Q) : Pl f lay d q pc L (.ref (SV + i) :: st) S Q := by sorry
theorem y_strB {i n : Nat} {z : Int} {x : String × Nat × String × List Int32} (hc : lk q.2.2.2.2.2 pc = some .baload) (hi : strT[i]? = some x) (hn : x.2.2.2.length = n) (h0 : 0 ≤ z) (h1 : z < n) (hz : rg z) (h : Pl f lay d q (pc + 1) L (iv (x.2.2.2.getD z.toNat 0).toInt :: st) S Q) : Pl f lay d q pc L (iv z :: .ref (SV + i) :: st) S Q := by sorry
theorem y_i2cV {x : Int} (hc : lk q.2.2.2.2.2 pc = some .i2c) (h : Pl f lay d q (pc + 1) L (iv (((Int32.ofInt x).toUInt32 % 65536).toInt32).toInt :: st) S Q) : Pl f lay d q pc L (iv x :: st) S Q := by sorry
theorem i2c_r {x : Int} : retI (some .char) (Int32.ofInt (((Int32.ofInt x).toUInt32 % 65536).toInt32).toInt) = true := by sorry
end PSTR
/-- a letter of a string, as the JDK's rows read it -/
def chS (x : String × Nat × String × List Int32) (a : Int) : Int := (((Int32.ofInt (iandF (x.2.2.2.getD a.toNat 0).toInt 255)).toUInt32 % 65536).toInt32).toInt
section PSTS
variable {S : sS} {i : Nat} {x : String × Nat × String × List Int32}
theorem t_js_coder__p (h : strT[i]? = some x) (d : Nat) : Mp lay0 (d + 1) m_js_coder [.ref (SB + i)] S (fun r S1 => S = S1 ∧ r = some (iv 0)) := by sorry
theorem t_js_isLatin1__p (h : strT[i]? = some x) (d : Nat) : Mp lay0 (d + 1) m_js_isLatin1 [.ref (SB + i)] S (fun r S1 => S = S1 ∧ r = some (iv 1)) := by sorry
theorem t_js_length__p (h : strT[i]? = some x) (d : Nat) : Mp lay0 (d + 2) m_js_length [.ref (SB + i)] S (fun r S1 => S = S1 ∧ r = some (iv x.2.2.2.length)) := by sorry
theorem t_js_checkIndex__p {a n : Int} (h0 : 0 ≤ a) (h1 : a < n) (ha : rg a) (hn : rg n) (d : Nat) : Mp lay0 (d + 1) m_js_checkIndex [iv a, iv n] S (fun r S1 => S = S1 ∧ r = none) := by sorry
theorem t_jl_charAt__p (h : strT[i]? = some x) {a : Int} (h0 : 0 ≤ a) (h1 : a < x.2.2.2.length) (d : Nat) : Mp lay0 (d + 2) m_jl_charAt [.ref (SV + i), iv a] S (fun r S1 => S = S1 ∧ r = some (iv (chS x a))) := by sorry
theorem t_js_charAt__p (h : strT[i]? = some x) {a : Int} (h0 : 0 ≤ a) (h1 : a < x.2.2.2.length) (d : Nat) : Mp lay0 (d + 3) m_js_charAt [.ref (SB + i), iv a] S (fun r S1 => S = S1 ∧ r = some (iv (chS x a))) := by sorry
end PSTS
def cS7 (x : String × Nat × String × List Int32) : Nat → Int
  | 0 => 0
  | n + 1 => cS7 x n * 27 + lt7 (chS x n)
def cS5 (x : String × Nat × String × List Int32) : Nat → Int
  | 0 => 0
  | n + 1 => lorF (lshlF (cS5 x n) 5) (chS x n - 96)
theorem chS_all : (strT.all (fun q => (List.range q.2.2.2.length).all (fun k => decide (0 ≤ chS q k ∧ chS q k ≤ 127)))) = true := by sorry
theorem chS_b {i : Nat} {x : String × Nat × String × List Int32} {a : Int} (h : strT[i]? = some x) (h0 : 0 ≤ a) (h1 : a < x.2.2.2.length) : 0 ≤ chS x a ∧ chS x a ≤ 127 := by sorry
theorem cS7_r {x : String × Nat × String × List Int32} : ∀ n : Nat, 0 ≤ cS7 x n ∧ cS7 x n < 27 ^ n := by sorry
theorem cS7_g {x : String × Nat × String × List Int32} {n : Nat} (h : n ≤ 12) : rgL (cS7 x n) := by sorry
abbrev Q_vo_codeOf__p (S : sS) (i : Nat) (xi : String × Nat × String × List Int32) : pst := fun r S1 => S = S1 ∧ (∃ z : Int, r = some (jw z) ∧ (z = cS7 xi xi.2.2.2.length) ∧ (rgL z))
set_option maxRecDepth 100000 in
theorem t_vo_codeOf__p {S : sS} (hH : RI S) (i : Nat) (xi : String × Nat × String × List Int32) (hi : strT[i]? = some xi) (hl : xi.2.2.2.length ≤ 12) (d : Nat) : Mp lay0 (d + 4) m_vo_codeOf [.ref (SB + i)] S (Q_vo_codeOf__p S i xi) := by sorry
abbrev Q_mo_packed__p (S : sS) (i : Nat) (xi : String × Nat × String × List Int32) : pst := fun r S1 => S = S1 ∧ (∃ z : Int, r = some (jw z) ∧ (z = cS5 xi xi.2.2.2.length))
set_option maxRecDepth 100000 in
theorem t_mo_packed__p {S : sS} (hH : RI S) (i : Nat) (xi : String × Nat × String × List Int32) (hi : strT[i]? = some xi) (d : Nat) : Mp lay0 (d + 4) m_mo_packed [.ref (SB + i)] S (Q_mo_packed__p S i xi) := by sorry
end
section
/-! 1: the class understands -/
def mnG (S : sS) : Int := if 1 ≤ Xi S 882 10 ∧ Xi S 882 10 ≤ 3 then mnR S 888 0 (Xi S 882 10).toNat else -1
def SUI (S S1 : sS) (z a : Int) : Prop :=
  (Xi S 19 a.toNat = -1 ∨ Xi S 885 (Xi S 882 3).toNat = -1 → (z = 1 → Xi S 19 a.toNat = -1 ∧ Xi S 885 (Xi S 882 3).toNat = -1) ∧ (z = 0 → ¬ (Xi S 19 a.toNat = -1 ∧ Xi S 885 (Xi S 882 3).toNat = -1)) ∧ S1 = S) ∧
  (Xi S 19 a.toNat = -2 → Xi S 885 (Xi S 882 3).toNat ≠ -1 → (z = 1 → Xi S 882 10 = 1 ∧ Xj S 888 0 = 1230908633051) ∧ (z = 0 → ¬ (Xi S 882 10 = 1 ∧ Xj S 888 0 = 1230908633051)) ∧ S1 = uI S 886 (Xi S 882 3).toNat (Int32.ofInt (-2))) ∧
  (Xi S 19 a.toNat ≠ -1 → Xi S 19 a.toNat ≠ -2 → Xi S 885 (Xi S 882 3).toNat ≠ -1 → (z = 1 → mnG S / 256 = 0 ∧ isK S (mnG S % 256) (Xi S 19 a.toNat) ≠ 0) ∧ (z = 0 → ¬ (mnG S / 256 = 0 ∧ isK S (mnG S % 256) (Xi S 19 a.toNat) ≠ 0)) ∧ S1 = uI S 886 (Xi S 882 3).toNat (Int32.ofInt (mnG S % 256)))
theorem isK_F {l : List rec} {S T : sS} (h : FR l S T) (e : kdis l [(6, 7)] = true) (k o : Int) : isK T k o = isK S k o := by sorry
theorem gwk_len {B : Nat → Int} {kf : Int → Int → Prop} {to : Int} : ∀ (n : Nat) (i : Int) (l : List (Int × Int)) (r : Int × List (Int × Int)), gWk B kf to n i l = some r → (r.2.length : Int) ≤ l.length + n := by sorry
theorem gwv_len {B : Nat → Int} {kf : Int → Int → Prop} {to i : Int} (h : (to - i).toNat < 5000) : ((gWv B kf to i).2.length : Int) ≤ 5000 := by sorry
theorem tw_g {B : Nat → Int} {kf : Int → Int → Prop} {to : Int} (hb : to < 5000) : ∀ (n : Nat) (i : Int) (l : List (Int × Int)) (gi : Int) (g : List (Int × Int)) (r : Int × List (Int × Int) × Int × List (Int × Int)), 0 ≤ i → (g.length : Int) ≤ 5000 → tWk B kf to n i l gi g = some r → (r.2.2.2.length : Int) ≤ 5000 := by sorry
theorem txo_g {S T : sS} {t : Nat} {a to z : Int} (hb : 0 ≤ a ∧ to < 5000) (o : TXO S T t a to z) (hz : z = 1) (hg : Xi T 885 (Xi S 882 3).toNat ≠ -1) : 0 ≤ Xi T 882 10 ∧ Xi T 882 10 ≤ 5000 := by sorry
def TUN (h1 h2 : List rec) (S S1 : sS) (ts : Nat) (z a f to : Int) : Prop :=
  (20 ≤ Xi S 882 3 → z = 0 ∧ FTO S S1 9 1) ∧
  (Xi S 882 3 < 20 → ∃ (T : sS) (x : Int), FR h1 S T ∧ TXO S T ts f to x ∧
    ((x = 0 ∧ z = 0 ∧ FTO S S1 8 1) ∨ (x = 1 ∧ a = -1 ∧ z = 0 ∧ FTO S S1 4 3) ∨
     (x = 1 ∧ a ≠ -1 ∧ ∃ (U : sS) (y : Int), FR h2 T U ∧ SUI T U y a ∧ ((y = 0 ∧ z = 0 ∧ FTO S S1 8 1) ∨ (y = 1 ∧ z = 1 ∧ S1 = uI (uI U 883 (Xi S 882 3).toNat (Int32.ofInt a)) 882 3 (Int32.ofInt (Xi S 882 3 + 1)))))))

def md_co_addAs__p : List rec := [(882, 883, 3, 4), (883, 884, 0, 100000)]
abbrev Q_co_addAs__p (S : sS) (act : Int) : pst := fun r S1 => RI S1 ∧ FR md_co_addAs__p S S1 ∧ (r = none ∧ (S1 = uI (uI S 883 (Xi S 882 3).toNat (Int32.ofInt act)) 882 3 (Int32.ofInt (Xi S 882 3 + 1))))
set_option maxRecDepth 100000 in
theorem t_co_addAs__p {S : sS} (hH : RI S) (act : Int) (hact : -2147483648 ≤ act ∧ act ≤ 2147483647) (hc : 0 ≤ Xi S 882 3 ∧ Xi S 882 3 ≤ 100) (d : Nat) : Mp lay0 (d + 1) m_co_addAs [.ref 882, iv act] S (Q_co_addAs__p S act) := by sorry
def md_co_suits__p : List rec := [(886, 887, 0, 100000)]
abbrev Q_co_suits__p (S : sS) (act : Int) : pst := fun r S1 => RI S1 ∧ FR md_co_suits__p S S1 ∧ (∃ z : Int, r = some (iv z) ∧ (0 ≤ z ∧ z ≤ 1) ∧ (SUI S S1 z act))
set_option maxRecDepth 100000 in
theorem t_co_suits__p {S : sS} (hH : RI S) (act : Int) (hact : -2147483648 ≤ act ∧ act ≤ 2147483647) (h13 : 0 ≤ Xi S 1 3 ∧ Xi S 1 3 ≤ 200) (hCE : CEN S) (hc : 0 ≤ Xi S 882 3 ∧ Xi S 882 3 < 20) (hgw : Xi S 885 (Xi S 882 3).toNat ≠ -1 → 0 ≤ Xi S 882 10 ∧ Xi S 882 10 ≤ 5000) (d : Nat) : Mp lay0 (d + 5) m_co_suits [.ref 882, iv act] S (Q_co_suits__p S act) := by sorry
def md_re_understand__p : List rec := [(876, 877, 8, 9), (876, 877, 9, 10), (882, 883, 3, 4), (882, 883, 10, 11), (883, 884, 0, 100000), (884, 885, 0, 100000), (885, 886, 0, 100000), (886, 887, 0, 100000), (887, 888, 0, 100000), (888, 889, 0, 100000)]
abbrev Q_re_understand__p (S : sS) (ts : Nat) : pst := fun r S1 => RI S1 ∧ FR md_re_understand__p S S1 ∧ (∃ z : Int, r = some (iv z) ∧ (0 ≤ z ∧ z ≤ 1) ∧ (TUN md_co_takeText__p md_co_suits__p S S1 ts z (fnd S 8 3 (re7 (ty7 S) 3)) (pc7 S 1 + 1) (pc7 S 1 + 1 + Xj S 879 1)))
set_option maxRecDepth 100000 in
theorem t_re_understand__p {S : sS} (hH : RI S) (ts : Nat) (hts : S.2.2 876 4 = some ts) (htp : tp ts) (h13 : 0 ≤ Xi S 1 3 ∧ Xi S 1 3 ≤ 200) (hCE : CEN S) (hf : Xi S 876 8 = 0) (hr : Xi S 876 7 ≤ 5130) (hby : BYT S ts) (hcc : 0 ≤ Xi S 882 3 ∧ Xi S 882 3 ≤ 20) (h1r : 1 < Xi S 876 7) (hpx : 0 ≤ pc7 S 1 ∧ 0 ≤ Xj S 879 1 ∧ pc7 S 1 + 1 + Xj S 879 1 < 5000) (d : Nat) : Mp lay0 (d + 6) m_re_understand [.ref 891] S (Q_re_understand__p S ts) := by sorry
end
end
section
section
/-! 1: the reference: the words of a command -/
/-- what the reference keeps of it -/
def kfR (S : sS) (a e : Int) : Prop := ky7 (Xj S 911) (c32 (Xi S 906) a.toNat (e - a).toNat) (-1) = -1
def GPRR (S T : sS) (l : List (Int × Int)) : Prop := Xi T 904 150 = l.length ∧ ∀ (j : Nat) (h : j < l.length), j < 3 → Xj T 991 j = c32 (Xi S 906) l[j].1.toNat (l[j].2 - l[j].1).toNat
def GLCR (S T : sS) (to a i : Int) : Prop := ∃ l, GPRR S T l ∧ GWC (Xi S 906) (kfR S) to a i l
def GPOR (S T : sS) (a to z : Int) : Prop := z = (gWv (Xi S 906) (kfR S) to a).1 ∧ (z ≠ -1 → GPRR S T (gWv (Xi S 906) (kfR S) to a).2)
theorem rglc_0 {S T : sS} {to a : Int} (h : Xi T 904 150 = 0) : GLCR S T to a a := by sorry
theorem rglc_b {S T : sS} {to a i : Int} (c : GLCR S T to a i) (h0 : i < to) (h : Xi S 906 i.toNat = 32) : GLCR S T to a (i + 1) := by sorry
theorem rglc_w {S T U : sS} {to a i e w : Int} (c : GLCR S T to a i) (h0 : i < to) (h : Xi S 906 i.toNat ≠ 93 ∧ Xi S 906 i.toNat ≠ 32) (he : e = we7 (Xi S 906) to i) (h1 : e ≠ i ∧ e - i ≤ 12) (hw : w = c32 (Xi S 906) i.toNat (e - i).toNat) (hk : ky7 (Xj S 911) w (-1) = -1) (u1 : Xi U 904 150 = Xi T 904 150 + 1) (u2 : Xi T 904 150 < 3 → Xj U 991 (Xi T 904 150).toNat = w) (u3 : ∀ j : Nat, (j : Int) < Xi T 904 150 → Xj U 991 j = Xj T 991 j) : GLCR S U to a e := by sorry
theorem rglc_z {S T : sS} {to a i : Int} (c : GLCR S T to a i) (hb : (to - a).toNat < 6000) (h0 : to ≤ i) : GPOR S T a to (-1) := by sorry
theorem rglc_x {S T : sS} {to a i e w : Int} (c : GLCR S T to a i) (hb : (to - a).toNat < 6000) (h0 : i < to) (h : Xi S 906 i.toNat ≠ 93 ∧ Xi S 906 i.toNat ≠ 32) (he : e = we7 (Xi S 906) to i) (h1 : e = i ∨ 12 < e - i ∨ (e - i ≤ 12 ∧ w = c32 (Xi S 906) i.toNat (e - i).toNat ∧ ky7 (Xj S 911) w (-1) ≠ -1)) : GPOR S T a to (-1) := by sorry
theorem rglc_y {S T : sS} {to a i z : Int} (c : GLCR S T to a i) (hb : (to - a).toNat < 6000) (h0 : i < to) (h : Xi S 906 i.toNat = 93) (hz : (0 < Xi T 904 150 ∧ z = i + 1) ∨ (Xi T 904 150 ≤ 0 ∧ z = -1)) : GPOR S T a to z := by sorry
theorem rglc_ws {S T P U : sS} {to a i e w : Int} (c : GLCR S T to a i) (h0 : i < to) (h : Xi S 906 i.toNat ≠ 93 ∧ Xi S 906 i.toNat ≠ 32) (he : e = we7 (Xi S 906) to i) (h1 : e ≠ i ∧ e - i ≤ 12) (hw : w = c32 (Xi S 906) i.toNat (e - i).toNat) (hk : ky7 (Xj S 911) w (-1) = -1) (hr : rgL w) (hb : 0 ≤ Xi T 904 150 ∧ Xi T 904 150 < 3) (e1 : P = uJ T 991 (Xi T 904 150).toNat (Int64.ofInt w)) (e2 : U = uI P 904 150 (Int32.ofInt (Xi T 904 150 + 1))) : GLCR S U to a e := by sorry
theorem rglc_wk {S T U : sS} {to a i e w : Int} (c : GLCR S T to a i) (h0 : i < to) (h : Xi S 906 i.toNat ≠ 93 ∧ Xi S 906 i.toNat ≠ 32) (he : e = we7 (Xi S 906) to i) (h1 : e ≠ i ∧ e - i ≤ 12) (hw : w = c32 (Xi S 906) i.toNat (e - i).toNat) (hk : ky7 (Xj S 911) w (-1) = -1) (hb : 3 ≤ Xi T 904 150 ∧ Xi T 904 150 ≤ 6000) (e2 : U = uI T 904 150 (Int32.ofInt (Xi T 904 150 + 1))) : GLCR S U to a e := by sorry
theorem we7_x {B : Nat → Int} {e p q : Int} (h : we7 B e p = we7 B e q) (hq : e ≤ q ∨ ltr (B q.toNat) = 0) : q = we7 B e p := by sorry
theorem we7_t {B : Nat → Int} {e p q : Int} (h : we7 B e p = we7 B e q) (hq : q < e) (w : ltr (B q.toNat) = 1) : we7 B e p = we7 B e (q + 1) := by sorry
theorem kyR_y {K : Nat → Int} {w z : Int} (h : z = (if ky7 K w (-1) = -1 then 3 else 100 + ky7 K w (-1))) (hz : z = 3) (hr : ky7 K w (-1) = -1 ∨ 0 ≤ ky7 K w (-1)) : ky7 K w (-1) = -1 := by sorry
theorem kyR_n {K : Nat → Int} {w z : Int} (h : z = (if ky7 K w (-1) = -1 then 3 else 100 + ky7 K w (-1))) (hz : z ≠ 3) : ky7 K w (-1) ≠ -1 := by sorry
theorem kyF_rn {K : Nat → Int} {c : Int} : ∀ (n : Nat) (v : Int), 0 ≤ v → kyF K c (-1) n v = -1 ∨ 0 ≤ kyF K c (-1) n v := by sorry
theorem BYT_R {l : List rec} {S T : sS} (h : FR l S T) (e : kdis l [(906, 907)] = true) (b : BYT S 906) : BYT T 906 := by sorry
/-! 1: the reference: the whole text -/
def TXRR (S T : sS) (l : List (Int × Int)) (gi : Int) (g : List (Int × Int)) : Prop :=
  Xi T 904 151 = l.length ∧ (gi = -1 ∨ (0 ≤ gi ∧ gi < l.length)) ∧ l.length ≤ 8 ∧ Xi T 904 150 = g.length ∧ (gi = -1 → g = []) ∧ (gi ≠ -1 → g ≠ [] ∧ GPRR S T g) ∧
  ∀ (j : Nat) (h : j < l.length), Xj T 992 j = if (j : Int) = gi then 0 else c32 (Xi S 906) l[j].1.toNat (l[j].2 - l[j].1).toNat
def bdR (S : sS) (to a : Int) : Prop := (tWv (Xi S 906) (kfR S) to a).1 = 0
def TLCR (S T : sS) (to a i b : Int) : Prop := ∃ l gi g, TXRR S T l gi g ∧
  ((b ≠ 0 ∨ ¬ (i < to ∧ Xi S 906 i.toNat ≠ 32)) → TWC (Xi S 906) (kfR S) to a i l gi g) ∧ (b = 0 → i < to → Xi S 906 i.toNat ≠ 32 → bdR S to a)
def TXOR (S T : sS) (a to z : Int) : Prop := z = (tWv (Xi S 906) (kfR S) to a).1 ∧ (z = 1 → TXRR S T (tWv (Xi S 906) (kfR S) to a).2.1 (tWv (Xi S 906) (kfR S) to a).2.2.1 (tWv (Xi S 906) (kfR S) to a).2.2.2)
theorem tcr_0 {S T : sS} {to a : Int} (h : Xi T 904 151 = 0) (h2 : Xi T 904 150 = 0) : TLCR S T to a a 1 := by sorry
theorem tcr_b {S T : sS} {to a i b : Int} (c : TLCR S T to a i b) (h0 : i < to) (h : Xi S 906 i.toNat = 32) : TLCR S T to a (i + 1) 1 := by sorry
theorem tcr_x {S T : sS} {to a i b n : Int} (c : TLCR S T to a i b) (hb : 0 ≤ a ∧ to < 5999) (hn : n = Xi T 904 151) (h0 : i < to) (h : Xi S 906 i.toNat ≠ 32) (q : b = 0 ∨ n = 8) : bdR S to a := by sorry
theorem tcr_n {S T : sS} {to a i b : Int} (c : TLCR S T to a i b) (hb : 0 ≤ a ∧ to < 5999) (b0 : b ≠ 0) (h0 : i < to) (h : Xi S 906 i.toNat ≠ 32) (hl : ltr (Xi S 906 i.toNat) = 0) (q : Xi S 906 i.toNat ≠ 91 ∨ Xi T 904 150 ≠ 0) : bdR S to a := by sorry
theorem ltr_91 {c : Int} (h : ltr c = 1) : c ≠ 91 ∧ c ≠ 32 := by sorry
theorem tcr_l {S T : sS} {to a i b e n : Int} (c : TLCR S T to a i b) (hb : 0 ≤ a ∧ to < 5999) (b0 : b ≠ 0) (h0 : i < to) (hl : ltr (Xi S 906 i.toNat) = 1) (hn : n = Xi T 904 151) (h8 : n ≠ 8) (he : e = we7 (Xi S 906) to i) (q : 12 < e - i) : bdR S to a := by sorry
theorem tcr_w {S T P U : sS} {to a i b e n w : Int} (c : TLCR S T to a i b) (hb : 0 ≤ a ∧ to < 5999) (b0 : b ≠ 0) (h0 : i < to) (hl : ltr (Xi S 906 i.toNat) = 1) (hn : n = Xi T 904 151) (h8 : 0 ≤ n ∧ n ≠ 8) (he : e = we7 (Xi S 906) to i) (h1 : i < e ∧ e - i ≤ 12) (hw : w = c32 (Xi S 906) i.toNat (e - i).toNat) (hr : rgL w) (eP : P = uJ T 992 n.toNat (Int64.ofInt w)) (eU : U = uI P 904 151 (Int32.ofInt (n + 1))) : TLCR S U to a e 0 := by sorry
theorem gwk_pos {B : Nat → Int} {kf : Int → Int → Prop} {to : Int} : ∀ (n : Nat) (i : Int) (l : List (Int × Int)) (r : Int × List (Int × Int)), gWk B kf to n i l = some r → r.1 ≠ -1 → 0 < r.2.length := by sorry
theorem gwv_pos {B : Nat → Int} {kf : Int → Int → Prop} {to i : Int} (h : (to - i).toNat < 6000) (hz : (gWv B kf to i).1 ≠ -1) : 0 < (gWv B kf to i).2.length := by sorry
theorem tcr_g1 {S T : sS} {to a i b z n : Int} (c : TLCR S T to a i b) (hb : 0 ≤ a ∧ to < 5999) (b0 : b ≠ 0) (h0 : i < to) (h : Xi S 906 i.toNat = 91) (hn : n = Xi T 904 151) (h8 : n ≠ 8) (h5 : Xi T 904 150 = 0) (hz : z = (gWv (Xi S 906) (kfR S) to (i + 1)).1) (q : z = -1) : bdR S to a := by sorry
theorem tcr_g {l1 : List rec} {S T G P U : sS} {to a i b z n m : Int} (c : TLCR S T to a i b) (hi0 : 0 ≤ i) (hb : 0 ≤ a ∧ to < 5999) (b0 : b ≠ 0) (h0 : i < to) (h : Xi S 906 i.toNat = 91) (hn : n = Xi T 904 151) (h8 : 0 ≤ n ∧ n ≠ 8) (h5 : Xi T 904 150 = 0) (F : FR l1 T G) (f1 : kdis l1 [(992, 993)] = true) (f2 : mdf l1 904 151 = false) (o : GPOR S G (i + 1) to z) (hz : z ≠ -1) (hm : m = n) (eP : P = uJ G 992 m.toNat (Int64.ofInt 0)) (eU : U = uI P 904 151 (Int32.ofInt (n + 1))) : TLCR S U to a z 0 := by sorry
theorem tcr_z {S T : sS} {to a i b z : Int} (c : TLCR S T to a i b) (hb : 0 ≤ a ∧ to < 5999) (h0 : to ≤ i) (hz : (0 < Xi T 904 151 ∧ z = 1) ∨ (Xi T 904 151 ≤ 0 ∧ z = 0)) : TXOR S T a to z := by sorry
theorem tcr_f {S T : sS} {to a z : Int} (c : bdR S to a) (hz : z = 0) : TXOR S T a to z := by sorry
theorem gpor_F {l : List rec} {S P U : sS} {a to z : Int} (h : FR l S P) (e : kdis l [(906, 907)] = true) (e2 : kdis l [(911, 912)] = true) (o : GPOR P U a to z) : GPOR S U a to z := by sorry
abbrev Q_mo_in__p (S : sS) (v : Int) (lo : Int) (hi : Int) : pst := fun r S1 => S = S1 ∧ (∃ z : Int, r = some (iv z) ∧ (0 ≤ z ∧ z ≤ 1) ∧ ((z = 1 → lo ≤ v ∧ v ≤ hi) ∧ (z = 0 → v < lo ∨ hi < v)))
set_option maxRecDepth 100000 in
theorem t_mo_in__p {S : sS} (hH : RI S) (v : Int) (lo : Int) (hi : Int) (hv : -2147483648 ≤ v ∧ v ≤ 2147483647) (hlo : -2147483648 ≤ lo ∧ lo ≤ 2147483647) (hhi : -2147483648 ≤ hi ∧ hi ≤ 2147483647) (d : Nat) : Mp lay0 (d + 1) m_mo_in [iv v, iv lo, iv hi] S (Q_mo_in__p S v lo hi) := by sorry
abbrev Q_mo_small__p (S : sS) (c : Int) : pst := fun r S1 => S = S1 ∧ (∃ z : Int, r = some (iv z) ∧ (-2147483648 ≤ z ∧ z ≤ 2147483647) ∧ (z = sml c))
set_option maxRecDepth 100000 in
theorem t_mo_small__p {S : sS} (hH : RI S) (c : Int) (hc : -128 ≤ c ∧ c ≤ 127) (d : Nat) : Mp lay0 (d + 2) m_mo_small [iv c] S (Q_mo_small__p S c) := by sorry
abbrev Q_mo_isLetter__p (S : sS) (c : Int) : pst := fun r S1 => S = S1 ∧ (∃ z : Int, r = some (iv z) ∧ (0 ≤ z ∧ z ≤ 1) ∧ (z = ltr c))
set_option maxRecDepth 100000 in
theorem t_mo_isLetter__p {S : sS} (hH : RI S) (c : Int) (hc : -128 ≤ c ∧ c ≤ 127) (d : Nat) : Mp lay0 (d + 3) m_mo_isLetter [iv c] S (Q_mo_isLetter__p S c) := by sorry
abbrev Q_mo_wordOf__p (S : sS) (t : Nat) (from_ : Int) (n : Int) : pst := fun r S1 => S = S1 ∧ (∃ z : Int, r = some (jw z) ∧ (z = c32 (Xi S t) from_.toNat n.toNat) ∧ (rgL z))
set_option maxRecDepth 100000 in
theorem t_mo_wordOf__p {S : sS} (hH : RI S) (t : Nat) (from_ : Int) (n : Int) (ht : bp t) (hfrom_ : 0 ≤ from_ ∧ from_ ≤ 5000) (hn : 0 ≤ n ∧ n ≤ 12) (hby : BYT S t) (hl : ∀ i : Nat, from_ ≤ (i : Int) → (i : Int) < from_ + n → ltr (Xi S t i) = 1) (d : Nat) : Mp lay0 (d + 3) m_mo_wordOf [.ref t, iv from_, iv n] S (Q_mo_wordOf__p S t from_ n) := by sorry
abbrev Q_mo_keyOf__p (S : sS) (w : Int) : pst := fun r S1 => S = S1 ∧ (∃ z : Int, r = some (iv z) ∧ (-2147483648 ≤ z ∧ z ≤ 2147483647) ∧ (z = (if ky7 (Xj S 911) w (-1) = -1 then 3 else 100 + ky7 (Xj S 911) w (-1))))
set_option maxRecDepth 100000 in
theorem t_mo_keyOf__p {S : sS} (hH : RI S) (w : Int) (hw : rgL w) (d : Nat) : Mp lay0 (d + 1) m_mo_keyOf [.ref 904, jw w] S (Q_mo_keyOf__p S w) := by sorry
def md_mo_slot__p : List rec := [(904, 905, 150, 151), (991, 992, 0, 100000)]
abbrev Q_mo_slot__p (S : sS) (from_ : Int) (end_ : Int) : pst := fun r S1 => RI S1 ∧ FR md_mo_slot__p S S1 ∧ (∃ z : Int, r = some (iv z) ∧ (-2147483648 ≤ z ∧ z ≤ 2147483647) ∧ (GPOR S S1 from_ end_ z) ∧ (z = -1 ∨ (from_ < z ∧ z ≤ end_)))
set_option maxRecDepth 100000 in
theorem t_mo_slot__p {S : sS} (hH : RI S) (from_ : Int) (end_ : Int) (hfrom_ : 0 ≤ from_ ∧ from_ ≤ 5000) (hend_ : 0 ≤ end_ ∧ end_ ≤ 5000) (hb6 : BYT S 906) (hfe : from_ ≤ end_) (h0 : Xi S 904 150 = 0) (d : Nat) : Mp lay0 (d + 4) m_mo_slot [.ref 904, iv from_, iv end_] S (Q_mo_slot__p S from_ end_) := by sorry
def md_mo_isCommand__p : List rec := [(904, 905, 150, 151), (904, 905, 151, 152), (991, 992, 0, 100000), (992, 993, 0, 100000)]
abbrev Q_mo_isCommand__p (S : sS) (from_ : Int) (n : Int) : pst := fun r S1 => RI S1 ∧ FR md_mo_isCommand__p S S1 ∧ (∃ z : Int, r = some (iv z) ∧ (0 ≤ z ∧ z ≤ 1) ∧ (TXOR S S1 from_ (from_ + n) z))
set_option maxRecDepth 100000 in
theorem t_mo_isCommand__p {S : sS} (hH : RI S) (from_ : Int) (n : Int) (hfrom_ : 0 ≤ from_ ∧ from_ ≤ 5000) (hn : 0 ≤ n ∧ n ≤ 5000) (hb6 : BYT S 906) (hn5 : from_ + n ≤ 5000) (d : Nat) : Mp lay0 (d + 5) m_mo_isCommand [.ref 904, iv from_, iv n] S (Q_mo_isCommand__p S from_ n) := by sorry
end
end
section
section
/-! 1: the reference asks and does -/
theorem TXOR_K {S T U : sS} {a to z : Int} (o : TXOR S T a to z) (h0 : Xi U 904 150 = Xi T 904 150) (h1 : Xi U 904 151 = Xi T 904 151) (h2 : ∀ j, Xj U 991 j = Xj T 991 j) (h3 : ∀ j, Xj U 992 j = Xj T 992 j) : TXOR S U a to z := by sorry
theorem TXOR_FR {l : List rec} {S T U : sS} {a to z : Int} (h : FR l T U) (e : mD l [150, 151] = true) (e2 : kdis l [(991, 993)] = true) (o : TXOR S T a to z) : TXOR S U a to z := by sorry
theorem txor_S {l : List rec} {S P U : sS} {a to z : Int} (h : FR l S P) (e : kdis l [(906, 907)] = true) (e2 : kdis l [(911, 912)] = true) (o : TXOR P U a to z) : TXOR S U a to z := by sorry
noncomputable def fmC (S T : sS) : Int := if 1 ≤ Xi T 904 150 ∧ Xi T 904 150 ≤ 3 then fdR S (Xj T 991 0) (if 1 < Xi T 904 150 then Xj T 991 1 else 0) (if 2 < Xi T 904 150 then Xj T 991 2 else 0) (Xi T 904 150) (Xi S 904 15).toNat else -1
theorem fmC_l {S T : sS} {v : Int} (h15 : 0 ≤ Xi S 904 15) (e : v = fmC S T) (h : v ≠ -1) : ((v.toNat : Nat) : Int) < Xi S 904 15 := by sorry
def okKC (S T : sS) (k : Int) : Prop := (k = -1 → Xi T 904 150 = 0) ∧ (k = -2 → Xi T 904 150 = 1 ∧ Xj T 991 0 = 4726783092206) ∧ (k ≠ -1 → k ≠ -2 → fmC S T ≠ -1 ∧ Xi S 914 (fmC S T).toNat = 0 ∧ blR S (Xi S 915 (fmC S T).toNat) k ≠ 0)
def okC (S T : sS) (a x : Int) : Prop := x ≠ 0 ∧ (a ≠ -1 → okKC S T (Xi S 942 a.toNat))
def nkC (S T : sS) (a x n : Int) : Prop := (x = 0 ∨ a = -1 → n = -1) ∧ (x ≠ 0 → a ≠ -1 → (Xi S 942 a.toNat = -1 → n = -1) ∧ (Xi S 942 a.toNat = -2 → n = -2) ∧ (Xi S 942 a.toNat ≠ -1 → Xi S 942 a.toNat ≠ -2 → okC S T a x → n = Xi S 915 (fmC S T).toNat))
def QCM (S T : sS) (a f to v : Int) : Prop := ∃ x : Int, TXOR S T f to x ∧ (v ≠ 0 → okC S T a x) ∧ (v = 0 → ¬ okC S T a x) ∧ nkC S T a x (Xi T 904 153)
theorem qcm_0 {S T : sS} {a f to v : Int} (o : TXOR S T f to v) (h : v = 0 ∨ a = -1) (hn : Xi T 904 153 = -1) : QCM S T a f to v := by sorry
theorem qcm_k {S T : sS} {a f to x v : Int} (o : TXOR S T f to x) (hx : x ≠ 0) (ha : a ≠ -1) (h1 : v ≠ 0 → okKC S T (Xi S 942 a.toNat)) (h0 : v = 0 → ¬ okKC S T (Xi S 942 a.toNat)) (hn : (Xi S 942 a.toNat = -1 → Xi T 904 153 = -1) ∧ (Xi S 942 a.toNat = -2 → Xi T 904 153 = -2) ∧ (Xi S 942 a.toNat ≠ -1 → Xi S 942 a.toNat ≠ -2 → v ≠ 0 → Xi T 904 153 = Xi S 915 (fmC S T).toNat)) : QCM S T a f to v := by sorry
def n1C (S : sS) : Int × Int × Int := if Xi S 904 55 < 20 then NT3 S else ntF (NT3 S) 9 (Xi S 908 (Xi S 904 81).toNat)
noncomputable def n2C (S : sS) : Int × Int × Int := if rnR S 0 11 ≠ -1 then n1C S else ntF (n1C S) 4 (pR S 0)
def RCO (S S1 : sS) : Prop := ∃ v : Int, QCM S S1 (rnR S 0 11) (Xi S 908 (Xi S 904 81).toNat + 1) (Xi S 908 (Xi S 904 81).toNat + 1 + Xi S 909 (Xi S 904 81).toNat) v ∧ NT3 S1 = (if v ≠ 0 then n2C S else ntF (n2C S) 8 (Xi S 908 (Xi S 904 81).toNat))
theorem QCM_FR {l : List rec} {S T U : sS} {a f to v : Int} (h : FR l T U) (e : mD l [150, 151, 153] = true) (e2 : kdis l [(991, 993)] = true) (o : QCM S T a f to v) : QCM S U a f to v := by sorry
theorem fmC_u {S T U : sS} {v : Int32} (e : U = uI T 904 153 v) : fmC S U = fmC S T := by sorry
theorem txor_p {S T : sS} {a to z : Int} (o : TXOR S T a to z) (h : z = 1) : 0 ≤ Xi T 904 150 := by sorry
def RDCM (S S1 : sS) : Prop := S1 = uI (cpJ (uI (uI (uI S 946 (Xi S 904 55).toNat (Int32.ofInt (rnR S 0 11))) 947 (Xi S 904 55).toNat (Int32.ofInt (Xi S 904 151))) 949 (Xi S 904 55).toNat (Int32.ofInt (Xi S 904 153))) 992 948 (0 : Int).toNat (8 * Xi S 904 55).toNat (8 : Int).toNat) 904 55 (Int32.ofInt (Xi S 904 55 + 1))

def md_mo_askCommand__p : List rec := [(904, 905, 104, 105), (904, 905, 105, 106), (904, 905, 106, 107), (904, 905, 150, 151), (904, 905, 151, 152), (904, 905, 153, 154), (991, 992, 0, 100000), (992, 993, 0, 100000)]
abbrev Q_mo_askCommand__p (S : sS) : pst := fun r S1 => RI S1 ∧ FR md_mo_askCommand__p S S1 ∧ (r = none ∧ (RCO S S1))
set_option maxRecDepth 100000 in
theorem t_mo_askCommand__p {S : sS} (hH : RI S) (hLS : LSP S) (h15 : 0 ≤ Xi S 904 15) (hRB : RBD S) (hB : ABV S) (hb6 : BYT S 906) (hkx : Hid (∀ j : Nat, -1 ≤ Xi S 915 j ∧ Xi S 915 j ≤ 300)) (hlx : Hid (∀ j : Nat, (j : Int) < Xi S 904 15 → Xi S 914 j = 0 → Xi S 915 j ≤ 15)) (htt : 0 ≤ (Xi S 908 (Xi S 904 81).toNat) ∧ 0 ≤ Xi S 909 (Xi S 904 81).toNat ∧ (Xi S 908 (Xi S 904 81).toNat + 1 + Xi S 909 (Xi S 904 81).toNat) < 5000) (d : Nat) : Mp lay0 (d + 6) m_mo_askCommand [.ref 904] S (Q_mo_askCommand__p S) := by sorry
def md_mo_doCommand__p : List rec := [(904, 905, 55, 56), (946, 947, 0, 100000), (947, 948, 0, 100000), (948, 949, 0, 100000), (949, 950, 0, 100000)]
abbrev Q_mo_doCommand__p (S : sS) : pst := fun r S1 => RI S1 ∧ FR md_mo_doCommand__p S S1 ∧ (r = none ∧ (RDCM S S1))
set_option maxRecDepth 100000 in
theorem t_mo_doCommand__p {S : sS} (hH : RI S) (hLS : LSP S) (h15 : 0 ≤ Xi S 904 15) (hRB : RBD S) (h55 : 0 ≤ Xi S 904 55 ∧ Xi S 904 55 ≤ 19) (d : Nat) : Mp lay0 (d + 5) m_mo_doCommand [.ref 904] S (Q_mo_doCommand__p S) := by sorry
def md_mo_asked__1 : List rec := [(904, 905, 64, 65), (904, 905, 104, 105), (904, 905, 105, 106), (904, 905, 106, 107), (904, 905, 108, 109), (904, 905, 109, 110), (904, 905, 110, 111), (904, 905, 112, 113), (904, 905, 113, 114), (904, 905, 115, 116), (904, 905, 116, 117), (904, 905, 117, 118), (904, 905, 125, 126), (904, 905, 128, 129), (904, 905, 129, 130), (904, 905, 130, 131), (904, 905, 142, 143), (904, 905, 144, 145), (904, 905, 146, 147), (904, 905, 147, 148), (904, 905, 150, 151), (904, 905, 151, 152), (904, 905, 153, 154), (904, 905, 154, 155), (904, 905, 156, 157), (904, 905, 157, 158), (904, 905, 158, 159), (904, 905, 160, 161), (966, 967, 0, 100000), (967, 968, 0, 100000), (968, 969, 0, 100000), (969, 970, 0, 100000), (970, 971, 0, 100000), (971, 972, 0, 100000), (972, 973, 0, 100000), (973, 974, 0, 100000), (974, 975, 0, 100000), (975, 976, 0, 100000), (976, 977, 0, 100000), (977, 978, 0, 100000), (978, 979, 0, 100000), (979, 980, 0, 100000), (980, 981, 0, 100000), (981, 982, 0, 100000), (982, 983, 0, 100000), (983, 984, 0, 100000), (984, 985, 0, 100000), (985, 986, 0, 100000), (986, 987, 0, 100000), (987, 988, 0, 100000), (988, 989, 0, 100000), (989, 990, 0, 100000), (990, 991, 0, 100000), (991, 992, 0, 100000), (992, 993, 0, 100000), (993, 994, 0, 100000), (994, 995, 0, 100000)]
abbrev Q_mo_asked__1 (S : sS) (first : Int) : pst := fun r S1 => RI S1 ∧ FR md_mo_asked__1 S S1 ∧ (r = none ∧ (∃ P : sS, FR lA S P ∧ (Xi P 904 106 = 0 ∧ Xi P 904 108 = 0) ∧ RCO P S1))
set_option maxRecDepth 100000 in
theorem t_mo_asked__1 {S : sS} (hH : RI S) (first : Int) (hfirst : 0 ≤ first ∧ first ≤ 5001) (hLS : LSP S) (h15 : 0 ≤ Xi S 904 15) (hRB : RBD S) (hB : ABV S) (hb6 : BYT S 906) (hkx : Hid (∀ j : Nat, -1 ≤ Xi S 915 j ∧ Xi S 915 j ≤ 300)) (hlx : Hid (∀ j : Nat, (j : Int) < Xi S 904 15 → Xi S 914 j = 0 → Xi S 915 j ≤ 15)) (htt : 0 ≤ (Xi S 908 (Xi S 904 81).toNat) ∧ 0 ≤ Xi S 909 (Xi S 904 81).toNat ∧ (Xi S 908 (Xi S 904 81).toNat + 1 + Xi S 909 (Xi S 904 81).toNat) < 5000) (hs : Xi S 904 70 = 1) (d : Nat) : Mp lay0 (d + 13) m_mo_asked [.ref 904, iv first] S (Q_mo_asked__1 S first) := by sorry
def md_mo_does__1 : List rec := [(904, 905, 15, 16), (904, 905, 16, 17), (904, 905, 18, 19), (904, 905, 19, 20), (904, 905, 23, 24), (904, 905, 30, 31), (904, 905, 32, 33), (904, 905, 41, 42), (904, 905, 47, 48), (904, 905, 49, 50), (904, 905, 51, 52), (904, 905, 55, 56), (904, 905, 60, 61), (904, 905, 64, 65), (904, 905, 73, 74), (904, 905, 105, 106), (904, 905, 106, 107), (904, 905, 113, 114), (904, 905, 117, 118), (912, 913, 0, 100000), (913, 914, 0, 100000), (914, 915, 0, 100000), (915, 916, 0, 100000), (916, 917, 0, 100000), (917, 918, 0, 100000), (918, 919, 0, 100000), (919, 920, 0, 100000), (920, 921, 0, 100000), (921, 922, 0, 100000), (922, 923, 0, 100000), (923, 924, 0, 100000), (924, 925, 0, 100000), (925, 926, 0, 100000), (926, 927, 0, 100000), (927, 928, 0, 100000), (928, 929, 0, 100000), (929, 930, 0, 100000), (930, 931, 0, 100000), (931, 932, 0, 100000), (932, 933, 0, 100000), (933, 934, 0, 100000), (934, 935, 0, 100000), (935, 936, 0, 100000), (936, 937, 0, 100000), (937, 938, 0, 100000), (938, 939, 0, 100000), (939, 940, 0, 100000), (940, 941, 0, 100000), (941, 942, 0, 100000), (942, 943, 0, 100000), (943, 944, 0, 100000), (944, 945, 0, 100000), (945, 946, 0, 100000), (946, 947, 0, 100000), (947, 948, 0, 100000), (948, 949, 0, 100000), (949, 950, 0, 100000)]
abbrev Q_mo_does__1 (S : sS) (first : Int) : pst := fun r S1 => RI S1 ∧ FR md_mo_does__1 S S1 ∧ (r = none ∧ (RDCM S S1))
set_option maxRecDepth 100000 in
theorem t_mo_does__1 {S : sS} (hH : RI S) (first : Int) (hfirst : 0 ≤ first ∧ first ≤ 5001) (hLS : LSP S) (h15 : 0 ≤ Xi S 904 15) (hRB : RBD S) (h55 : 0 ≤ Xi S 904 55 ∧ Xi S 904 55 ≤ 19) (hs : Xi S 904 70 = 1) (d : Nat) : Mp lay0 (d + 8) m_mo_does [.ref 904, iv first] S (Q_mo_does__1 S first) := by sorry
end
end
section
section
/-! tests of the class: whom they speak of -/
def thk (T : Int → Int) (a : Int) : Int := if T a = 2 ∧ T (a + 1) = 53 then 53 else T a
def the7 (T : Int → Int) (a : Int) : Int := if T a = 2 ∧ T (a + 1) = 53 then a + 2 else a + 1
def whoC (S : sS) (a l : Int) : Int := if thk (ty7 S) a = 53 ∨ thk (ty7 S) a = 54 then (if thk (ty7 S) a = Xi S 895 3 ∧ Xi S 895 4 ≠ -1 then -2 else -1) else fnd S 2 (bA (ty7 S) a) (ruF S (bA (ty7 S) a) l)
def whkC (S : sS) (a l : Int) : Int := if thk (ty7 S) a = 53 ∨ thk (ty7 S) a = 54 then (if thk (ty7 S) a = Xi S 895 3 ∧ Xi S 895 4 ≠ -1 then Xi S 895 4 else -1) else (if fnd S 2 (bA (ty7 S) a) (ruF S (bA (ty7 S) a) l) ≠ -1 then Xi S 21 (fnd S 2 (bA (ty7 S) a) (ruF S (bA (ty7 S) a) l)).toNat else -1)
def whrC (S : sS) (a : Int) : Int := if thk (ty7 S) a = 53 ∨ thk (ty7 S) a = 54 then a else bA (ty7 S) a
def wheC (S : sS) (a l : Int) : Int := if thk (ty7 S) a = 53 ∨ thk (ty7 S) a = 54 then the7 (ty7 S) a else ruF S (bA (ty7 S) a) l
def RTH (S S1 : sS) (a l z : Int) : Prop := Xi S1 895 5 = whoC S a l ∧ Xi S1 895 6 = whkC S a l ∧ Xi S1 895 7 = whrC S a ∧ z = wheC S a l
theorem rth_s {S S1 : sS} {a l z k e : Int} (hk : k = thk (ty7 S) a) (he : e = the7 (ty7 S) a) (h : k = 53 ∨ k = 54) (hw : (k = Xi S 895 3 ∧ Xi S 895 4 ≠ -1 ∧ Xi S1 895 5 = -2 ∧ Xi S1 895 6 = Xi S 895 4) ∨ (¬ (k = Xi S 895 3 ∧ Xi S 895 4 ≠ -1) ∧ Xi S1 895 5 = -1 ∧ Xi S1 895 6 = -1)) (hr : Xi S1 895 7 = a) (hz : z = e) : RTH S S1 a l z := by sorry
theorem rth_n {S S1 : sS} {a l z k b o : Int} (hk : k = thk (ty7 S) a) (h : ¬ (k = 53 ∨ k = 54)) (hb : b = bA (ty7 S) a) (hz : z = ruF S b l) (ho : o = fnd S 2 b z) (h5 : Xi S1 895 5 = o) (h6 : (o = -1 ∧ Xi S1 895 6 = -1) ∨ (o ≠ -1 ∧ Xi S1 895 6 = Xi S 21 o.toNat)) (hr : Xi S1 895 7 = b) : RTH S S1 a l z := by sorry
theorem thk_n {T : Int → Int} {a k : Int} (hk : k = thk T a) (h : ¬ (k = 53 ∨ k = 54)) : T a = k := by sorry
def md_me_startSelf__p : List rec := [(895, 896, 3, 4), (895, 896, 4, 5)]
abbrev Q_me_startSelf__p (S : sS) (key : Int) (kind : Int) : pst := fun r S1 => RI S1 ∧ FR md_me_startSelf__p S S1 ∧ (r = none ∧ (S1 = uI (uI S 895 3 (Int32.ofInt key)) 895 4 (Int32.ofInt kind)))
set_option maxRecDepth 100000 in
theorem t_me_startSelf__p {S : sS} (hH : RI S) (key : Int) (kind : Int) (hkey : -2147483648 ≤ key ∧ key ≤ 2147483647) (hkind : -2147483648 ≤ kind ∧ kind ≤ 2147483647) (d : Nat) : Mp lay0 (d + 1) m_me_startSelf [.ref 895, iv key, iv kind] S (Q_me_startSelf__p S key kind) := by sorry
def md_me_readThing__p : List rec := [(895, 896, 5, 6), (895, 896, 6, 7), (895, 896, 7, 8)]
abbrev Q_me_readThing__p (S : sS) (from_ : Int) (limit : Int) : pst := fun r S1 => RI S1 ∧ FR md_me_readThing__p S S1 ∧ (∃ z : Int, r = some (iv z) ∧ (-2147483648 ≤ z ∧ z ≤ 2147483647) ∧ (RTH S S1 from_ limit z) ∧ (from_ ≤ z ∧ z ≤ 5142))
set_option maxRecDepth 100000 in
theorem t_me_readThing__p {S : sS} (hH : RI S) (from_ : Int) (limit : Int) (hfrom_ : 0 ≤ from_ ∧ from_ ≤ 5140) (hlimit : -1 ≤ limit ∧ limit ≤ 5140) (h13 : 0 ≤ Xi S 1 3 ∧ Xi S 1 3 ≤ 200) (hCE : CEN S) (hr : Xi S 876 7 ≤ 5130) (d : Nat) : Mp lay0 (d + 2) m_me_readThing [.ref 895, iv from_, iv limit] S (Q_me_readThing__p S from_ limit) := by sorry
end
section
/-! tests of the class: sayings -/
def vs7 (S : sS) (i : Int) : Int := if ty7 S i = 100 then fnd S 13 i (i + 1) else -1
def rs7 (S : sS) (i : Int) : Int := Xi S 18 (vs7 S i).toNat
def qsA (S : sS) (a i : Int) : Prop := wheC S a i = i ∧ isK S (whkC S a i) (Xi S 14 (rs7 S i).toNat) ≠ 0 ∧ whoC S a i ≠ -1
def qsC (S : sS) (a b i : Int) : Prop := vs7 S i ≠ -1 ∧ qsA S a i ∧ wheC S (i + 1) b = b ∧ isK S (whkC S (i + 1) b) (Xi S 15 (rs7 S i).toNat) ≠ 0
noncomputable def cnS (S : sS) (a b : Int) : Nat → Int
  | 0 => 0
  | n + 1 => @ite Int (qsC S a b (a + n)) (Classical.propDecidable _) (cnS S a b n + 1) (cnS S a b n)
noncomputable def psS (S : sS) (a b : Int) : Nat → Int
  | 0 => -1
  | n + 1 => @ite Int (qsC S a b (a + n)) (Classical.propDecidable _) (a + n) (psS S a b n)
def CLS (T : sS) (cl : Nat) (r w x : Int) : Prop := Xi T (276 + cl) 3 = r ∧ Xi T (276 + cl) 2 = w ∧ Xi T (276 + cl) 6 = x
def SYC (S T : sS) (cl : Nat) (a b i c : Int) : Prop := c = cnS S a b (i - a).toNat ∧ 0 ≤ c ∧ c ≤ i - a ∧ Xi T (276 + cl) 0 = 6 ∧ KCL S T cl ∧
  (0 < c → a ≤ psS S a b (i - a).toNat ∧ psS S a b (i - a).toNat < i ∧ qsC S a b (psS S a b (i - a).toNat) ∧ CLS T cl (rs7 S (psS S a b (i - a).toNat)) (whoC S a (psS S a b (i - a).toNat)) (whoC S (psS S a b (i - a).toNat + 1) b))
theorem syc_0 {S T : sS} {cl : Nat} {a b : Int} (h6 : Xi T (276 + cl) 0 = 6) (k : KCL S T cl) : SYC S T cl a b a 0 := by sorry
theorem syc_n {S T U : sS} {cl : Nat} {a b i c : Int} (h : SYC S T cl a b i c) (hi : a ≤ i) (q : ¬ qsC S a b i) (k : ∀ j, Xi U (276 + cl) j = Xi T (276 + cl) j) (kk : KCL T U cl) : SYC S U cl a b (i + 1) c := by sorry
theorem syc_y {S T U : sS} {cl : Nat} {a b i c : Int} (h : SYC S T cl a b i c) (hi : a ≤ i) (q : qsC S a b i) (f : Xi U (276 + cl) 0 = Xi T (276 + cl) 0) (s : CLS U cl (rs7 S i) (whoC S a i) (whoC S (i + 1) b)) (kk : KCL T U cl) : SYC S U cl a b (i + 1) (c + 1) := by sorry
def SYO (S S1 : sS) (cl : Nat) (a b z : Int) : Prop := Xi S1 (276 + cl) 0 = 6 ∧ KCL S S1 cl ∧
  (cnS S a b (b - a).toNat ≠ 1 → z = 0 ∧ FTO S S1 (if cnS S a b (b - a).toNat = 0 then 4 else 7) a) ∧
  (cnS S a b (b - a).toNat = 1 → z = 1 ∧ Xi S1 876 8 = Xi S 876 8 ∧ SYC S S1 cl a b b 1)
theorem rth_F {l : List rec} {S P U : sS} {a b z : Int} (h : FR l S P) (e1 : (kdis l [(877, 878)] && !(mdf l 876 7)) = true) (e2 : (kdis l kA && !(mdf l 1 3)) = true) (e3 : mdf l 895 3 = false) (e4 : mdf l 895 4 = false) (e5 : kdis l [(21, 22)] = true) (o : RTH P U a b z) : RTH S U a b z := by sorry
def md_rr_saying__p : List rec := [(276, 876, 0, 1), (276, 876, 2, 3), (276, 876, 3, 4), (276, 876, 6, 7), (876, 877, 8, 9), (876, 877, 9, 10), (895, 896, 5, 6), (895, 896, 6, 7), (895, 896, 7, 8)]
abbrev Q_rr_saying__p (S : sS) (from_ : Int) (to : Int) (cl : Nat) : pst := fun r S1 => RI S1 ∧ FR md_rr_saying__p S S1 ∧ (∃ z : Int, r = some (iv z) ∧ (0 ≤ z ∧ z ≤ 1) ∧ (SYO S S1 cl from_ to z))
set_option maxRecDepth 100000 in
theorem t_rr_saying__p {S : sS} (hH : RI S) (from_ : Int) (to : Int) (cl : Nat) (hfrom_ : 0 ≤ from_ ∧ from_ ≤ 5130) (hto : 0 ≤ to ∧ to ≤ 5130) (hcl : cl < 600) (h13 : 0 ≤ Xi S 1 3 ∧ Xi S 1 3 ≤ 200) (hCE : CEN S) (hf : Xi S 876 8 = 0) (hr : Xi S 876 7 ≤ 5130) (hft : from_ ≤ to) (d : Nat) : Mp lay0 (d + 3) m_rr_saying [.ref 899, iv from_, iv to, .ref (276 + cl)] S (Q_rr_saying__p S from_ to cl) := by sorry
end
end
section
section
/-! tests of the class: places, properties -/
def plR (S : sS) (a : Int) : Int := if ty7 S a = 8 ∨ ty7 S a = 9 then a + 1 else a + 2
def PLT (S S1 : sS) (cl : Nat) (a b z : Int) : Prop := KCL S S1 cl ∧ Xi S1 (276 + cl) 0 = 5 ∧ Xi S1 (276 + cl) 4 = wyC (ty7 S a) ∧ Xi S1 (276 + cl) 6 = whoC S (plR S a) b ∧
  (whoC S (plR S a) b = -1 → z = 0 ∧ (Xi S 876 8 = 0 → FTO S S1 4 (whrC S (plR S a)))) ∧ (whoC S (plR S a) b ≠ -1 → z = 1 ∧ Xi S1 876 8 = Xi S 876 8)
def POT (S S1 : sS) (cl : Nat) (a o num l z : Int) : Prop := KCL S S1 cl ∧ Xi S1 (276 + cl) 2 = whoC S (o + 1) l ∧
  (pOK S a o (whkC S (o + 1) l) num → Xi S1 (276 + cl) 3 = mnV S a o % 256) ∧
  (¬ pOK S a o (whkC S (o + 1) l) num → z = 0 ∧ (Xi S 876 8 = 0 → FTO S S1 4 a)) ∧
  (pOK S a o (whkC S (o + 1) l) num → whoC S (o + 1) l = -1 → z = 0 ∧ (Xi S 876 8 = 0 → FTO S S1 4 (whrC S (o + 1)))) ∧
  (pOK S a o (whkC S (o + 1) l) num → whoC S (o + 1) l ≠ -1 → z = 1 ∧ Xi S1 876 8 = Xi S 876 8)
theorem pOK_F {l : List rec} {S T : sS} (h : FR l S T) (e : (kdis l kA && !(mdf l 1 3)) = true) (e3 : kdis l kA = true) {a b k n : Int} : pOK T a b k n = pOK S a b k n := by sorry
def NAD (S S1 : sS) (c : Nat) (m p : Int) : Prop := KCL S S1 c ∧ Xi S1 (276 + c) 0 = (if p = -1 then 0 else 1) ∧ Xi S1 (276 + c) 3 = (if p = -1 then m else p) ∧ Xi S1 (276 + c) 4 = m
theorem nad_g {S A B U : sS} {c : Nat} {m f w : Int} (hm : rg m) (hf : rg f) (hw : rg w) (e1 : A = uI S (276 + c) 0 (Int32.ofInt f)) (e2 : B = uI A (276 + c) 3 (Int32.ofInt w)) (e3 : U = uI B (276 + c) 4 (Int32.ofInt m)) : KCL S U c ∧ Xi U (276 + c) 0 = f ∧ Xi U (276 + c) 3 = w ∧ Xi U (276 + c) 4 = m := by sorry
theorem nad_i {S A B U : sS} {c : Nat} {m p : Int} (h : p = -1 ∧ rg m) (e1 : A = uI S (276 + c) 0 (Int32.ofInt 0)) (e2 : B = uI A (276 + c) 3 (Int32.ofInt m)) (e3 : U = uI B (276 + c) 4 (Int32.ofInt m)) : NAD S U c m p := by sorry
theorem nad_p {S A B U : sS} {c : Nat} {m p : Int} (h : p ≠ -1 ∧ rg m ∧ rg p) (e1 : A = uI S (276 + c) 0 (Int32.ofInt 1)) (e2 : B = uI A (276 + c) 3 (Int32.ofInt p)) (e3 : U = uI B (276 + c) 4 (Int32.ofInt m)) : NAD S U c m p := by sorry
def md_rr_placeTest__p : List rec := [(276, 876, 0, 1), (276, 876, 4, 5), (276, 876, 6, 7), (876, 877, 8, 9), (876, 877, 9, 10), (895, 896, 5, 6), (895, 896, 6, 7), (895, 896, 7, 8)]
abbrev Q_rr_placeTest__p (S : sS) (from_ : Int) (to : Int) (cl : Nat) : pst := fun r S1 => RI S1 ∧ FR md_rr_placeTest__p S S1 ∧ (∃ z : Int, r = some (iv z) ∧ (0 ≤ z ∧ z ≤ 1) ∧ (PLT S S1 cl from_ to z))
set_option maxRecDepth 100000 in
theorem t_rr_placeTest__p {S : sS} (hH : RI S) (from_ : Int) (to : Int) (cl : Nat) (hfrom_ : 0 ≤ from_ ∧ from_ ≤ 5130) (hto : -1 ≤ to ∧ to ≤ 5130) (hcl : cl < 600) (h13 : 0 ≤ Xi S 1 3 ∧ Xi S 1 3 ≤ 200) (hCE : CEN S) (hr : Xi S 876 7 ≤ 5130) (d : Nat) : Mp lay0 (d + 3) m_rr_placeTest [.ref 899, iv from_, iv to, .ref (276 + cl)] S (Q_rr_placeTest__p S from_ to cl) := by sorry
def md_rr_propertyOfThing__p : List rec := [(276, 876, 2, 3), (276, 876, 3, 4), (876, 877, 8, 9), (876, 877, 9, 10), (895, 896, 5, 6), (895, 896, 6, 7), (895, 896, 7, 8)]
abbrev Q_rr_propertyOfThing__p (S : sS) (from_ : Int) (off : Int) (num : Int) (cl : Nat) : pst := fun r S1 => RI S1 ∧ FR md_rr_propertyOfThing__p S S1 ∧ (∃ z : Int, r = some (iv z) ∧ (0 ≤ z ∧ z ≤ 1) ∧ (POT S S1 cl from_ off num (Xi S 876 7 - 1) z))
set_option maxRecDepth 100000 in
theorem t_rr_propertyOfThing__p {S : sS} (hH : RI S) (from_ : Int) (off : Int) (num : Int) (cl : Nat) (hfrom_ : 0 ≤ from_ ∧ from_ ≤ 5130) (hoff : 0 ≤ off ∧ off ≤ 5130) (hnum : 0 ≤ num ∧ num ≤ 1) (hcl : cl < 600) (h13 : 0 ≤ Xi S 1 3 ∧ Xi S 1 3 ≤ 200) (hCE : CEN S) (hr : Xi S 876 7 ≤ 5130) (h7 : 0 ≤ Xi S 876 7) (d : Nat) : Mp lay0 (d + 3) m_rr_propertyOfThing [.ref 899, iv from_, iv off, iv num, .ref (276 + cl)] S (Q_rr_propertyOfThing__p S from_ off num cl) := by sorry
def md_rr_nameAdjective__p : List rec := [(276, 876, 0, 1), (276, 876, 3, 4), (276, 876, 4, 5)]
abbrev Q_rr_nameAdjective__p (S : sS) (c : Nat) (met : Int) (prop : Int) : pst := fun r S1 => RI S1 ∧ FR md_rr_nameAdjective__p S S1 ∧ (r = none ∧ (NAD S S1 c met prop))
set_option maxRecDepth 100000 in
theorem t_rr_nameAdjective__p {S : sS} (hH : RI S) (c : Nat) (met : Int) (prop : Int) (hc : c < 600) (hmet : -2147483648 ≤ met ∧ met ≤ 2147483647) (hprop : -2147483648 ≤ prop ∧ prop ≤ 2147483647) (d : Nat) : Mp lay0 (d + 1) m_rr_nameAdjective [.ref (276 + c), iv met, iv prop] S (Q_rr_nameAdjective__p S c met prop) := by sorry
end
section
/-! tests of the class -/
/-- a clause's fields -/
def CLM (T : sS) (cl : Nat) (f n w h t l m : Int) : Prop := Xi T (276 + cl) 0 = f ∧ Xi T (276 + cl) 1 = n ∧ Xi T (276 + cl) 2 = w ∧ Xi T (276 + cl) 3 = h ∧ Xi T (276 + cl) 4 = t ∧ Xi T (276 + cl) 5 = l ∧ Xi T (276 + cl) 6 = m
def numT (S : sS) (i : Int) : Int := if ty7 S (i + 1) = 51 ∨ ty7 S (i + 1) = 52 then 1 else 0
def ntT (S : sS) (i : Int) : Int := if ty7 S (i + 1) = 6 then 1 else 0
/-- a property's test is good: it keeps these -/
def PTY (S : sS) (a i l : Int) (f n w h t g : Int) : Prop :=
  pOK S (a + 1) (re7 (ty7 S) (a + 1)) (whkC S (re7 (ty7 S) (a + 1) + 1) l) (numT S i) ∧ w = whoC S (re7 (ty7 S) (a + 1) + 1) l ∧ w ≠ -1 ∧ h = mnV S (a + 1) (re7 (ty7 S) (a + 1)) % 256 ∧
  ((numT S i = 1 ∧ f = (if ty7 S (i + 1) = 51 then 2 else 3) ∧ n = 0 ∧ t = Xj S 879 (i + 3).toNat ∧ g = 0) ∨
   (numT S i = 0 ∧ n = ntT S i ∧ WHR S (i + 1 + ntT S i) (Xi S 9 h.toNat) t g ∧ f = (if Xi S 9 h.toNat = 1 then 4 else 1)))
def PTN (S : sS) (a i l : Int) (c r : Int) : Prop :=
  (¬ pOK S (a + 1) (re7 (ty7 S) (a + 1)) (whkC S (re7 (ty7 S) (a + 1) + 1) l) (numT S i) ∧ c = 4 ∧ r = a + 1) ∨
  (pOK S (a + 1) (re7 (ty7 S) (a + 1)) (whkC S (re7 (ty7 S) (a + 1) + 1) l) (numT S i) ∧ whoC S (re7 (ty7 S) (a + 1) + 1) l = -1 ∧ c = 4 ∧ r = whrC S (re7 (ty7 S) (a + 1) + 1)) ∨
  (pOK S (a + 1) (re7 (ty7 S) (a + 1)) (whkC S (re7 (ty7 S) (a + 1) + 1) l) (numT S i) ∧ whoC S (re7 (ty7 S) (a + 1) + 1) l ≠ -1 ∧ numT S i = 0 ∧ (∀ v g : Int, ¬ WHR S (i + 1 + ntT S i) (Xi S 9 (mnV S (a + 1) (re7 (ty7 S) (a + 1)) % 256).toNat) v g) ∧ c = 4 ∧ r = i + 1 + ntT S i)
def PTO (S S1 : sS) (cl : Nat) (a i l z : Int) : Prop := KCL S S1 cl ∧ (z = 1 → Xi S1 876 8 = Xi S 876 8 ∧ ∃ f n w h t g : Int, PTY S a i l f n w h t g ∧ CLM S1 cl f n w h t g (Xi S (276 + cl) 6)) ∧ (z = 0 → ∃ c r : Int, PTN S a i l c r ∧ (Xi S 876 8 = 0 → FTO S S1 c r))
theorem WHR_F {l : List rec} {S P : sS} (h : FR l S P) (e1 : (kdis l [(877, 878)] && !(mdf l 876 7)) = true) (e2 : (kdis l kA && !(mdf l 1 3)) = true) (e3 : kdis l kA = true) (e4 : kdis l [(878, 879)] = true) (e5 : mdf l 876 7 = false) (e6 : mdf l 876 5 = false) (r tp v g : Int) : WHR P r tp v g = WHR S r tp v g := by sorry
theorem pot_0 {S S1 : sS} {cl : Nat} {a o l z i : Int} (h : POT S S1 cl (a + 1) o (numT S i) l z) (ho : o = re7 (ty7 S) (a + 1)) (hz : z = 0) : ∃ c r : Int, PTN S a i l c r ∧ (Xi S 876 8 = 0 → FTO S S1 c r) := by sorry
theorem pot_1 {S S1 : sS} {cl : Nat} {a o l z i : Int} (h : POT S S1 cl (a + 1) o (numT S i) l z) (hz : z = 1) : pOK S (a + 1) o (whkC S (o + 1) l) (numT S i) ∧ whoC S (o + 1) l ≠ -1 ∧ Xi S1 (276 + cl) 2 = whoC S (o + 1) l ∧ Xi S1 (276 + cl) 3 = mnV S (a + 1) o % 256 ∧ Xi S1 876 8 = Xi S 876 8 := by sorry
theorem NVL_F {l : List rec} {S T : sS} (h : FR l S T) (e1 : kdis l [(877, 878)] = true) (e2 : mdf l 876 7 = false) (e3 : kdis l [(879, 880)] = true) (q : NVL S) : NVL T := by sorry
def md_rr_propertyTest__p : List rec := [(276, 876, 0, 1), (276, 876, 1, 2), (276, 876, 2, 3), (276, 876, 3, 4), (276, 876, 4, 5), (276, 876, 5, 6), (876, 877, 8, 9), (876, 877, 9, 10), (895, 896, 5, 6), (895, 896, 6, 7), (895, 896, 7, 8), (895, 896, 10, 11), (895, 896, 11, 12)]
abbrev Q_rr_propertyTest__p (S : sS) (from_ : Int) (is_ : Int) (cl : Nat) : pst := fun r S1 => RI S1 ∧ FR md_rr_propertyTest__p S S1 ∧ (∃ z : Int, r = some (iv z) ∧ (0 ≤ z ∧ z ≤ 1) ∧ (PTO S S1 cl from_ is_ (Xi S 876 7 - 1) z))
set_option maxRecDepth 100000 in
theorem t_rr_propertyTest__p {S : sS} (hH : RI S) (from_ : Int) (is_ : Int) (cl : Nat) (hfrom_ : 0 ≤ from_ ∧ from_ ≤ 5120) (his_ : 0 ≤ is_ ∧ is_ ≤ 5120) (hcl : cl < 600) (h13 : 0 ≤ Xi S 1 3 ∧ Xi S 1 3 ≤ 200) (hCE : CEN S) (hr : Xi S 876 7 ≤ 5130) (h7 : 0 ≤ Xi S 876 7) (hT : TOK S) (hS : SRX S) (hnv : Hid (NVL S)) (hpl : Hid (∀ j : Nat, 0 ≤ Xi S 878 j)) (h5 : Xi S 876 5 ≤ 5000) (hnm : Hid (numT S is_ = 1 → is_ + 3 < Xi S 876 7 ∧ 0 ≤ Xj S 879 (is_ + 3).toNat ∧ Xj S 879 (is_ + 3).toNat ≤ 2147483647)) (hc1 : Xi S (276 + cl) 1 = 0 ∧ Xi S (276 + cl) 5 = 0) (d : Nat) : Mp lay0 (d + 4) m_rr_propertyTest [.ref 899, iv from_, iv is_, .ref (276 + cl)] S (Q_rr_propertyTest__p S from_ is_ cl) := by sorry
end
end
section
section
/-! tests of the class: one test -/
def bpP (S : sS) (a : Int) : Prop := ty7 S a = 2 ∧ ty7 S (a + 1) = 100 ∧ ty7 S (re7 (ty7 S) (a + 1)) = 7
def isP (S : sS) (a b : Int) : Int := fo7 (ty7 S) 4 a b
def wJ (S : sS) (a b : Int) : Int := isP S a b + 1 + ntT S (isP S a b)
def plS (S : sS) (a b : Int) (t m : Int) : Prop := ty7 S (wJ S a b) ≠ 100 ∧ t = wyC (ty7 S (wJ S a b)) ∧ m = whoC S (plR S (wJ S a b)) b
def TSY (S : sS) (a b now : Int) (f n w h t g m : Int) : Prop :=
  (isP S a b = -1 ∧ cnS S a b (b - a).toNat = 1 ∧ f = 6 ∧ n = 0 ∧ w = whoC S a (psS S a b (b - a).toNat) ∧ h = rs7 S (psS S a b (b - a).toNat) ∧ t = 0 ∧ g = 0 ∧ m = whoC S (psS S a b (b - a).toNat + 1) b) ∨
  (isP S a b ≠ -1 ∧ bpP S a ∧ PTY S a (isP S a b) (Xi S 876 7 - 1) f n w h t g ∧ m = -1) ∨
  (isP S a b ≠ -1 ∧ ¬ bpP S a ∧ w = whoC S a b ∧ w ≠ -1 ∧ n = ntT S (isP S a b) ∧ g = 0 ∧
    ((plS S a b t m ∧ f = 5 ∧ h = -1 ∧ m ≠ -1) ∨
     (ty7 S (wJ S a b) = 100 ∧ raF S (whkC S a b) (wJ S a b) b (1 - n) (1 - now) = 1 ∧ f = (if rlF S (whkC S a b) (wJ S a b) b (1 - n) = -1 then 0 else 1) ∧ h = (if rlF S (whkC S a b) (wJ S a b) b (1 - n) = -1 then mnV S (wJ S a b) b % 256 else rlF S (whkC S a b) (wJ S a b) b (1 - n)) ∧ t = mnV S (wJ S a b) b % 256 ∧ m = -1)))
def TSN (S : sS) (a b now : Int) (c r : Int) : Prop :=
  (isP S a b = -1 ∧ cnS S a b (b - a).toNat ≠ 1 ∧ c = (if cnS S a b (b - a).toNat = 0 then 4 else 7) ∧ r = a) ∨
  (isP S a b ≠ -1 ∧ bpP S a ∧ PTN S a (isP S a b) (Xi S 876 7 - 1) c r) ∨
  (isP S a b ≠ -1 ∧ ¬ bpP S a ∧ whoC S a b = -1 ∧ c = 4 ∧ r = whrC S a) ∨
  (isP S a b ≠ -1 ∧ ¬ bpP S a ∧ whoC S a b ≠ -1 ∧ ty7 S (wJ S a b) ≠ 100 ∧ whoC S (plR S (wJ S a b)) b = -1 ∧ c = 4 ∧ r = whrC S (plR S (wJ S a b))) ∨
  (isP S a b ≠ -1 ∧ ¬ bpP S a ∧ whoC S a b ≠ -1 ∧ ty7 S (wJ S a b) = 100 ∧ raF S (whkC S a b) (wJ S a b) b (1 - ntT S (isP S a b)) (1 - now) ≠ 1 ∧ c = (if raF S (whkC S a b) (wJ S a b) b (1 - ntT S (isP S a b)) (1 - now) = 0 then 4 else 7) ∧ r = wJ S a b)
def TSO (S S1 : sS) (cl : Nat) (a b now z : Int) : Prop := KCL S S1 cl ∧ (z = 1 → Xi S1 876 8 = 0 ∧ ∃ f n w h t g m : Int, TSY S a b now f n w h t g m ∧ CLM S1 cl f n w h t g m) ∧ (z = 0 → ∃ c r : Int, TSN S a b now c r ∧ FTO S S1 c r)
theorem tso_s {S S1 : sS} {cl : Nat} {a b now z f0 : Int} (hf : Xi S 876 8 = 0) (hi : isP S a b = -1) (c : CLM S cl f0 0 (-1) (-1) 0 0 (-1)) (k1 : Xi S1 (276 + cl) 1 = Xi S (276 + cl) 1) (k4 : Xi S1 (276 + cl) 4 = Xi S (276 + cl) 4) (k5 : Xi S1 (276 + cl) 5 = Xi S (276 + cl) 5) (o : SYO S S1 cl a b z) : TSO S S1 cl a b now z := by sorry
theorem tso_p {S S1 : sS} {cl : Nat} {a b now z i l f0 : Int} (hf : Xi S 876 8 = 0) (hi : i = isP S a b) (h1 : i ≠ -1) (hl : l = Xi S 876 7 - 1) (hb : bpP S a) (c : CLM S cl f0 0 (-1) (-1) 0 0 (-1)) (o : PTO S S1 cl a i l z) : TSO S S1 cl a b now z := by sorry
theorem whoC_F {l : List rec} {S P : sS} (h : FR l S P) (e1 : (kdis l [(877, 878)] && !(mdf l 876 7)) = true) (e2 : (kdis l kA && !(mdf l 1 3)) = true) (e3 : mdf l 895 3 = false) (e4 : mdf l 895 4 = false) (a b : Int) : whoC P a b = whoC S a b := by sorry
theorem whrC_F {l : List rec} {S P : sS} (h : FR l S P) (e1 : (kdis l [(877, 878)] && !(mdf l 876 7)) = true) (a : Int) : whrC P a = whrC S a := by sorry
theorem plR_F {l : List rec} {S P : sS} (h : FR l S P) (e1 : (kdis l [(877, 878)] && !(mdf l 876 7)) = true) (a : Int) : plR P a = plR S a := by sorry
/-- what stands before the last part of a test -/
def TMD (S T : sS) (cl : Nat) (a b : Int) : Prop := KCL S T cl ∧ isP S a b ≠ -1 ∧ ¬ bpP S a ∧ whoC S a b ≠ -1 ∧ Xi T (276 + cl) 1 = ntT S (isP S a b) ∧ Xi T (276 + cl) 2 = whoC S a b ∧ Xi T (276 + cl) 3 = -1 ∧ Xi T (276 + cl) 4 = 0 ∧ Xi T (276 + cl) 5 = 0 ∧ Xi T (276 + cl) 6 = -1 ∧ Xi T 895 6 = whkC S a b ∧ Xi T 876 8 = 0
theorem tso_l {l : List rec} {S P U : sS} {cl : Nat} {a b w now z : Int} (t : TMD S P cl a b) (h : FR l S P) (e1 : (kdis l [(877, 878)] && !(mdf l 876 7)) = true) (e2 : (kdis l kA && !(mdf l 1 3)) = true) (e3 : mdf l 895 3 = false) (e4 : mdf l 895 4 = false) (e5 : kdis l [(878, 879)] = true) (e6 : mdf l 876 7 = false) (e7 : mdf l 876 5 = false) (hw : w = wJ S a b) (hy : ty7 S w ≠ 100) (k1 : Xi U (276 + cl) 1 = Xi P (276 + cl) 1) (k2 : Xi U (276 + cl) 2 = Xi P (276 + cl) 2) (k3 : Xi U (276 + cl) 3 = Xi P (276 + cl) 3) (k5 : Xi U (276 + cl) 5 = Xi P (276 + cl) 5) (o : PLT P U cl w b z) : TSO S U cl a b now z := by sorry
theorem tso_n {S P U : sS} {cl : Nat} {a b w now z r c v d : Int} (t : TMD S P cl a b) (kk : KCL P U cl) (hw : w = wJ S a b) (hy : ty7 S w = 100) (hr : r = raF S (whkC S a b) w b v d) (hv : v = 1 - ntT S (isP S a b)) (hd : d = 1 - now) (h1 : r ≠ 1) (hc : (r = 0 ∧ c = 4) ∨ (r ≠ 0 ∧ c = 7)) (hz : z = 0) (f : FTO S U c w) : TSO S U cl a b now z := by sorry
theorem tso_a {S P Q U : sS} {cl : Nat} {a b w now z r v d m p : Int} (t : TMD S P cl a b) (kk : KCL P Q cl) (kj : ∀ j, Xi Q (276 + cl) j = Xi P (276 + cl) j) (hw : w = wJ S a b) (hy : ty7 S w = 100) (hr : r = raF S (whkC S a b) w b v d) (hv : v = 1 - ntT S (isP S a b)) (hd : d = 1 - now) (h1 : r = 1) (hm : m = mnV S w b % 256) (hp : p = rlF S (whkC S a b) w b v) (n : NAD Q U cl m p) (k1 : Xi U (276 + cl) 1 = Xi Q (276 + cl) 1) (k2 : Xi U (276 + cl) 2 = Xi Q (276 + cl) 2) (k5 : Xi U (276 + cl) 5 = Xi Q (276 + cl) 5) (k6 : Xi U (276 + cl) 6 = Xi Q (276 + cl) 6) (h8 : Xi U 876 8 = Xi P 876 8) (hz : z = 1) : TSO S U cl a b now z := by sorry
theorem tso_w {S U : sS} {cl : Nat} {a b now z : Int} (kk : KCL S U cl) (h1 : isP S a b ≠ -1) (hb : ¬ bpP S a) (hw : whoC S a b = -1) (hz : z = 0) (f : FTO S U 4 (whrC S a)) : TSO S U cl a b now z := by sorry
theorem ntT_b {S : sS} {i : Int} : ntT S i = 0 ∨ ntT S i = 1 := by sorry
def md_rr_test__p : List rec := [(276, 876, 0, 1), (276, 876, 1, 2), (276, 876, 2, 3), (276, 876, 3, 4), (276, 876, 4, 5), (276, 876, 5, 6), (276, 876, 6, 7), (876, 877, 8, 9), (876, 877, 9, 10), (895, 896, 5, 6), (895, 896, 6, 7), (895, 896, 7, 8), (895, 896, 8, 9), (895, 896, 9, 10), (895, 896, 10, 11), (895, 896, 11, 12)]
abbrev Q_rr_test__p (S : sS) (from_ : Int) (to : Int) (cl : Nat) (now : Int) : pst := fun r S1 => RI S1 ∧ FR md_rr_test__p S S1 ∧ (∃ z : Int, r = some (iv z) ∧ (0 ≤ z ∧ z ≤ 1) ∧ (TSO S S1 cl from_ to now z))
set_option maxRecDepth 100000 in
theorem t_rr_test__p {S : sS} (hH : RI S) (from_ : Int) (to : Int) (cl : Nat) (now : Int) (hfrom_ : 0 ≤ from_ ∧ from_ ≤ 5120) (hto : 0 ≤ to ∧ to ≤ 5120) (hcl : cl < 600) (hnow : 0 ≤ now ∧ now ≤ 1) (h13 : 0 ≤ Xi S 1 3 ∧ Xi S 1 3 ≤ 200) (hCE : CEN S) (hf : Xi S 876 8 = 0) (hr : Xi S 876 7 ≤ 5130) (h7 : 0 ≤ Xi S 876 7) (hT : TOK S) (hS : SRX S) (hnv : Hid (NVL S)) (hpl : Hid (∀ j : Nat, 0 ≤ Xi S 878 j)) (h5 : Xi S 876 5 ≤ 5000) (hft : from_ ≤ to) (hib : (isP S from_ to) = -1 ∨ (0 ≤ (isP S from_ to) ∧ (isP S from_ to) ≤ 5110)) (hnm : Hid (numT S (isP S from_ to) = 1 → (isP S from_ to) + 3 < Xi S 876 7 ∧ 0 ≤ Xj S 879 ((isP S from_ to) + 3).toNat ∧ Xj S 879 ((isP S from_ to) + 3).toNat ≤ 2147483647)) (hclm : Hid (∃ f0 : Int, CLM S cl f0 0 (-1) (-1) 0 0 (-1))) (d : Nat) : Mp lay0 (d + 5) m_rr_test [.ref 899, iv from_, iv to, .ref (276 + cl), iv now] S (Q_rr_test__p S from_ to cl now) := by sorry
end
section
/-! tests of the class: several -/
/-- what a state must have in common with another for tests to mean the same -/
def AGT (S P : sS) : Prop := ty7 P = ty7 S ∧ (∀ x y, ruF P x y = ruF S x y) ∧ (∀ s x y, fnd P s x y = fnd S s x y) ∧ (∀ x y, mnV P x y = mnV S x y) ∧ (∀ k o, isK P k o = isK S k o) ∧ (∀ k, pps P k = pps S k) ∧ (∀ r, pc7 P r = pc7 S r) ∧ (∀ j, Xj P 879 j = Xj S 879 j) ∧ (∀ c j, c = 8 ∨ c = 9 ∨ c = 14 ∨ c = 15 ∨ c = 18 ∨ c = 21 → Xi P c j = Xi S c j) ∧ (∀ k a b v d, raF P k a b v d = raF S k a b v d) ∧ (∀ k a b v, rlF P k a b v = rlF S k a b v) ∧ Xi P 895 3 = Xi S 895 3 ∧ Xi P 895 4 = Xi S 895 4 ∧ Xi P 876 7 = Xi S 876 7
theorem AGT_F {l : List rec} {S P : sS} (h : FR l S P) (e1 : (kdis l [(877, 878)] && !(mdf l 876 7)) = true) (e2 : (kdis l kA && !(mdf l 1 3)) = true) (e3 : kdis l kA = true) (e4 : kdis l [(878, 879)] = true) (e5 : mdf l 876 7 = false) (e6 : mdf l 876 5 = false) (e7 : kdis l [(8, 22)] = true) (e8 : mdf l 895 3 = false) (e9 : mdf l 895 4 = false) (ea : kdis l [(6, 7)] = true) (eb : kdis l [(9, 10)] = true) (ec : kdis l [(8, 9)] = true) : AGT S P := by sorry
section AG
variable {S P : sS}
theorem whoC_A (g : AGT S P) (a b : Int) : whoC P a b = whoC S a b := by sorry
theorem whkC_A (g : AGT S P) (a b : Int) : whkC P a b = whkC S a b := by sorry
theorem whrC_A (g : AGT S P) (a : Int) : whrC P a = whrC S a := by sorry
theorem wheC_A (g : AGT S P) (a b : Int) : wheC P a b = wheC S a b := by sorry
theorem plR_A (g : AGT S P) (a : Int) : plR P a = plR S a := by sorry
theorem vs7_A (g : AGT S P) (i : Int) : vs7 P i = vs7 S i := by sorry
theorem rs7_A (g : AGT S P) (i : Int) : rs7 P i = rs7 S i := by sorry
theorem qsC_A (g : AGT S P) (a b i : Int) : qsC P a b i = qsC S a b i := by sorry
theorem cnS_A (g : AGT S P) (a b : Int) : ∀ n : Nat, cnS P a b n = cnS S a b n := by sorry
theorem psS_A (g : AGT S P) (a b : Int) : ∀ n : Nat, psS P a b n = psS S a b n := by sorry
theorem numT_A (g : AGT S P) (i : Int) : numT P i = numT S i := by sorry
theorem ntT_A (g : AGT S P) (i : Int) : ntT P i = ntT S i := by sorry
theorem isP_A (g : AGT S P) (a b : Int) : isP P a b = isP S a b := by sorry
theorem wJ_A (g : AGT S P) (a b : Int) : wJ P a b = wJ S a b := by sorry
theorem bpP_A (g : AGT S P) (a : Int) : bpP P a = bpP S a := by sorry
theorem pOK_A (g : AGT S P) (a b k n : Int) : pOK P a b k n = pOK S a b k n := by sorry
theorem WHR_A (g : AGT S P) (r tp v l : Int) : WHR P r tp v l = WHR S r tp v l := by sorry
theorem PTY_A (g : AGT S P) (a i l f n w h t q : Int) : PTY P a i l f n w h t q = PTY S a i l f n w h t q := by sorry
theorem PTN_A (g : AGT S P) (a i l c r : Int) : PTN P a i l c r = PTN S a i l c r := by sorry
theorem TSY_A (g : AGT S P) (a b now f n w h t q m : Int) : TSY P a b now f n w h t q m = TSY S a b now f n w h t q m := by sorry
theorem TSN_A (g : AGT S P) (a b now c r : Int) : TSN P a b now c r = TSN S a b now c r := by sorry
end AG

def md_cl_start__p : List rec := [(276, 876, 0, 1), (276, 876, 1, 2), (276, 876, 2, 3), (276, 876, 3, 4), (276, 876, 4, 5), (276, 876, 5, 6), (276, 876, 6, 7)]
abbrev Q_cl_start__p (S : sS) (c : Nat) (form : Int) : pst := fun r S1 => RI S1 ∧ FR md_cl_start__p S S1 ∧ (r = none ∧ (CLM S1 c form 0 (-1) (-1) 0 0 (-1)) ∧ (KCL S S1 c))
set_option maxRecDepth 100000 in
theorem t_cl_start__p {S : sS} (hH : RI S) (c : Nat) (form : Int) (hc : c < 600) (hform : 0 ≤ form ∧ form ≤ 11) (d : Nat) : Mp lay0 (d + 1) m_cl_start [.ref (276 + c), iv form] S (Q_cl_start__p S c form) := by sorry
def md_bo_nextClause__p : List rec := [(246, 247, 5, 6), (276, 876, 0, 1), (276, 876, 1, 2), (276, 876, 2, 3), (276, 876, 3, 4), (276, 876, 4, 5), (276, 876, 5, 6), (276, 876, 6, 7)]
abbrev Q_bo_nextClause__p (S : sS) (form : Int) : pst := fun r S1 => RI S1 ∧ FR md_bo_nextClause__p S S1 ∧ (∃ z : Nat, r = some (.ref (276 + z)) ∧ z < 600 ∧ (Xi S1 246 5 = Xi S 246 5 + 1) ∧ ((z : Int) = Xi S 246 5) ∧ (KCL S S1 z) ∧ (CLM S1 z form 0 (-1) (-1) 0 0 (-1)))
set_option maxRecDepth 100000 in
theorem t_bo_nextClause__p {S : sS} (hH : RI S) (form : Int) (hform : 0 ≤ form ∧ form ≤ 11) (hcc : 0 ≤ Xi S 246 5 ∧ Xi S 246 5 < 600) (d : Nat) : Mp lay0 (d + 2) m_bo_nextClause [.ref 246, iv form] S (Q_bo_nextClause__p S form) := by sorry
end
section
/-! tests of the class: a list of them -/
def pT7 (S : sS) (a : Int) : Nat → Int
  | 0 => a
  | k + 1 => te8 (ty7 S) 0 (pT7 S a k) + 1
def eT7 (S : sS) (a : Int) (k : Nat) : Int := te8 (ty7 S) 0 (pT7 S a k)
def TGD (S T : sS) (a : Int) (k : Nat) : Prop := ∃ f n w h t g m : Int, TSY S (pT7 S a k) (eT7 S a k) 0 f n w h t g m ∧ CLM T ((Xi S 246 5).toNat + k) f n w h t g m
def TCK (S T : sS) (a : Int) (n : Nat) : Prop := Xi T 899 6 = n ∧ Xi T 246 5 = Xi S 246 5 + n ∧ (∀ k : Nat, k < n → TGD S T a k) ∧ (∀ k : Nat, k + 1 < n → ty7 S (eT7 S a k) = 16) ∧ (∀ c j : Nat, c < (Xi S 246 5).toNat → Xi T (276 + c) j = Xi S (276 + c) j)
def TSS (S S1 : sS) (a z : Int) : Prop :=
  (a = -1 → z = 1 ∧ Xi S1 876 8 = 0 ∧ TCK S S1 a 0) ∧
  (a ≠ -1 → z = 1 → ∃ n : Nat, 0 < n ∧ n ≤ 6 ∧ Xi S1 876 8 = 0 ∧ TCK S S1 a n ∧ ty7 S (eT7 S a (n - 1)) ≠ 16) ∧
  (a ≠ -1 → z = 0 → ∃ n : Nat, n ≤ 6 ∧ (∀ k : Nat, k < n → ty7 S (eT7 S a k) = 16) ∧ (∀ k : Nat, k < n → ∃ f i w h t g m : Int, TSY S (pT7 S a k) (eT7 S a k) 0 f i w h t g m) ∧ ((n = 6 ∧ FTO S S1 9 (pT7 S a 6)) ∨ (n < 6 ∧ ∃ c r : Int, TSN S (pT7 S a n) (eT7 S a n) 0 c r ∧ FTO S S1 c r)))
theorem tck_0 {S T : sS} {a : Int} (h6 : Xi T 899 6 = 0) (h5 : Xi T 246 5 = Xi S 246 5) (k : ∀ c j : Nat, c < (Xi S 246 5).toNat → Xi T (276 + c) j = Xi S (276 + c) j) : TCK S T a 0 := by sorry
theorem tck_s {S T V : sS} {a : Int} {n cl : Nat} (c : TCK S T a n) (kk : KCL T V cl) (hcl : cl = (Xi S 246 5).toNat + n) (h6 : cl < 600) (mo : 0 < n → ty7 S (eT7 S a (n - 1)) = 16) (ty : ∃ f i w h t g m : Int, TSY S (pT7 S a n) (eT7 S a n) 0 f i w h t g m ∧ CLM V cl f i w h t g m) (v6 : Xi V 899 6 = n + 1) (v5 : Xi V 246 5 = Xi T 246 5 + 1) : TCK S V a (n + 1) := by sorry
theorem clm_e {T U : sS} {cl : Nat} {f i w h t g m : Int} (e : ∀ j, Xi U (276 + cl) j = Xi T (276 + cl) j) (c : CLM T cl f i w h t g m) : CLM U cl f i w h t g m := by sorry
/-- where tests lie -/
def TPQ (S : sS) (a : Int) : Prop := ∀ k : Nat, k ≤ 5 → (∀ j : Nat, j < k → ty7 S (eT7 S a j) = 16) → (0 ≤ pT7 S a k ∧ pT7 S a k ≤ Xi S 876 7 ∧ pT7 S a k ≤ eT7 S a k ∧ eT7 S a k ≤ 5100) ∧ (isP S (pT7 S a k) (eT7 S a k) = -1 ∨ (0 ≤ isP S (pT7 S a k) (eT7 S a k) ∧ isP S (pT7 S a k) (eT7 S a k) ≤ 5110)) ∧ (numT S (isP S (pT7 S a k) (eT7 S a k)) = 1 → isP S (pT7 S a k) (eT7 S a k) + 3 < Xi S 876 7 ∧ 0 ≤ Xj S 879 (isP S (pT7 S a k) (eT7 S a k) + 3).toNat ∧ Xj S 879 (isP S (pT7 S a k) (eT7 S a k) + 3).toNat ≤ 2147483647)
theorem tck_m {S T : sS} {a : Int} {n : Nat} (c : TCK S T a n) (mo : 0 < n → ty7 S (eT7 S a (n - 1)) = 16) : ∀ j : Nat, j < n → ty7 S (eT7 S a j) = 16 := by sorry
theorem tss_x {S T S1 : sS} {a z : Int} {n : Nat} (hz : z = 0) (ha : a ≠ -1) (c : TCK S T a n) (mo : 0 < n → ty7 S (eT7 S a (n - 1)) = 16) (hn : n ≤ 6) (r : (n = 6 ∧ FTO S S1 9 (pT7 S a 6)) ∨ (n < 6 ∧ ∃ c r : Int, TSN S (pT7 S a n) (eT7 S a n) 0 c r ∧ FTO S S1 c r)) : TSS S S1 a z := by sorry
theorem tss_g {S T : sS} {a : Int} {n : Nat} (c : TCK S T a n) (h8 : Xi T 876 8 = 0) (hn : n ≤ 6) (x : (a = -1 ∧ n = 0) ∨ (a ≠ -1 ∧ 0 < n ∧ ty7 S (eT7 S a (n - 1)) ≠ 16)) : TSS S T a 1 := by sorry
theorem tso_T {S P U : sS} {cl : Nat} {a b p e now z : Int} (g : AGT S P) (ha : a = p) (hb : b = e) (o : TSO P U cl a b now z) : KCL P U cl ∧ (z = 1 → Xi U 876 8 = 0 ∧ ∃ f n w h t q m : Int, TSY S p e now f n w h t q m ∧ CLM U cl f n w h t q m) ∧ (z = 0 → ∃ c r : Int, TSN S p e now c r ∧ FTO S U c r) := by sorry
def md_rr_tests__p : List rec := [(246, 247, 5, 6), (276, 876, 0, 1), (276, 876, 1, 2), (276, 876, 2, 3), (276, 876, 3, 4), (276, 876, 4, 5), (276, 876, 5, 6), (276, 876, 6, 7), (876, 877, 8, 9), (876, 877, 9, 10), (895, 896, 5, 6), (895, 896, 6, 7), (895, 896, 7, 8), (895, 896, 8, 9), (895, 896, 9, 10), (895, 896, 10, 11), (895, 896, 11, 12), (899, 900, 5, 6), (899, 900, 6, 7)]
end
section
/-! 2: the class defines -/
def SDF (S S1 : sS) (z k a e : Int) : Prop :=
  (k = -1 → z = 0 ∧ FTO S S1 4 3) ∧ (k ≠ -1 → ¬ nwC S a e → z = 0 ∧ FTO S S1 3 a) ∧ (k ≠ -1 → nwC S a e → 24 ≤ Xi S 5 3 → z = 0 ∧ FTO S S1 9 a) ∧
  (k ≠ -1 → nwC S a e → Xi S 5 3 < 24 → z = 1 ∧ Xi S1 876 8 = 0 ∧ Xi S1 891 9 = 1 ∧ Xi S1 892 0 = a ∧ Xi S1 893 0 = e ∧ Xi S1 895 3 = 54 ∧ Xi S1 895 4 = k)
def KTS (S S1 : sS) (i : Int) : Prop := S1 = uI (uI S 12 i.toNat (Int32.ofInt (Xi S 246 5 - Xi S 899 6))) 13 i.toNat (Int32.ofInt (Xi S 899 6))
def EDF (l : List rec) (S S1 : sS) (z : Int) : Prop := z = 1 ∧ ∃ (T : sS) (i : Nat), FR l S T ∧ NMI S T i 3 (Xi S 5 3) (wRw S 879 (Xi S 892 0) (Xi S 893 0) 0) (wRw S 879 (Xi S 892 0) (Xi S 893 0) 1) (wRw S 879 (Xi S 892 0) (Xi S 893 0) 2) ∧ Xi T 5 3 = Xi S 5 3 + 1 ∧ (∀ j, j ≠ 3 → Xi T 5 j = Xi S 5 j) ∧ KTS (uI (uI T 10 (Xi S 5 3).toNat (Int32.ofInt (Xi S 895 4))) 11 (Xi S 5 3).toNat (Int32.ofInt (-1))) S1 (Xi S 5 3)

def md_re_startDefinition__p : List rec := [(876, 877, 8, 9), (876, 877, 9, 10), (891, 892, 9, 10), (892, 893, 0, 100000), (893, 894, 0, 100000), (895, 896, 3, 4), (895, 896, 4, 5)]
abbrev Q_re_startDefinition__p (S : sS) : pst := fun r S1 => RI S1 ∧ FR md_re_startDefinition__p S S1 ∧ (∃ z : Int, r = some (iv z) ∧ (0 ≤ z ∧ z ≤ 1) ∧ (SDF S S1 z (fnd S 0 3 (re7 (ty7 S) 3)) (re7 (ty7 S) 3 + 1) (re7 (ty7 S) (re7 (ty7 S) 3 + 1))))
set_option maxRecDepth 100000 in
theorem t_re_startDefinition__p {S : sS} (hH : RI S) (h13 : 0 ≤ Xi S 1 3 ∧ Xi S 1 3 ≤ 200) (hCE : CEN S) (hNB : NRB S) (hf : Xi S 876 8 = 0) (hr : Xi S 876 7 ≤ 5130) (hn0 : Xi S 891 9 = 0) (h53 : 0 ≤ Xi S 5 3 ∧ Xi S 5 3 ≤ 24) (hto2 : (re7 (ty7 S) (re7 (ty7 S) 3 + 1)) ≤ 5130) (d : Nat) : Mp lay0 (d + 3) m_re_startDefinition [.ref 891] S (Q_re_startDefinition__p S) := by sorry
def md_rr_keepTests__p : List rec := [(12, 13, 0, 100000), (13, 14, 0, 100000)]
abbrev Q_rr_keepTests__p (S : sS) (adj : Int) : pst := fun r S1 => RI S1 ∧ FR md_rr_keepTests__p S S1 ∧ (r = none ∧ (KTS S S1 adj))
set_option maxRecDepth 100000 in
theorem t_rr_keepTests__p {S : sS} (hH : RI S) (adj : Int) (hadj : -2147483648 ≤ adj ∧ adj ≤ 2147483647) (hb : 0 ≤ Xi S 246 5 ∧ Xi S 246 5 ≤ 600 ∧ 0 ≤ Xi S 899 6 ∧ Xi S 899 6 ≤ 600) (d : Nat) : Mp lay0 (d + 1) m_rr_keepTests [.ref 899, iv adj] S (Q_rr_keepTests__p S adj) := by sorry
def md_re_endDefinition__p : List rec := [(1, 2, 3, 4), (2, 3, 0, 100000), (3, 4, 0, 100000), (4, 5, 0, 100000), (5, 6, 0, 100000), (10, 11, 0, 100000), (11, 12, 0, 100000), (12, 13, 0, 100000), (13, 14, 0, 100000)]
abbrev Q_re_endDefinition__p (S : sS) : pst := fun r S1 => RI S1 ∧ FR md_re_endDefinition__p S S1 ∧ (∃ z : Int, r = some (iv z) ∧ (0 ≤ z ∧ z ≤ 1) ∧ (EDF md_vo_tellNew__p S S1 z))
set_option maxRecDepth 100000 in
theorem t_re_endDefinition__p {S : sS} (hH : RI S) (h13 : 0 ≤ Xi S 1 3 ∧ Xi S 1 3 ≤ 200) (h2 : Xi S 1 3 < 200) (h53 : 0 ≤ Xi S 5 3 ∧ Xi S 5 3 ≤ 62) (hnf : 0 ≤ Xi S 892 0 ∧ Xi S 892 0 ≤ 6000 ∧ 0 ≤ Xi S 893 0 ∧ Xi S 893 0 ≤ 6000) (hb : 0 ≤ Xi S 246 5 ∧ Xi S 246 5 ≤ 600 ∧ 0 ≤ Xi S 899 6 ∧ Xi S 899 6 ≤ 600) (d : Nat) : Mp lay0 (d + 4) m_re_endDefinition [.ref 891] S (Q_re_endDefinition__p S) := by sorry
end
section
/-! tests of the reference: whom they speak of, sayings -/
def toR0 (S : sS) (f t : Int) : Prop := t - f = 1 ∧ Xi S 907 f.toNat = 154
def toR1 (S : sS) (f t : Int) : Prop := 0 < t - f ∧ Xi S 907 (t - 1).toNat = 153
noncomputable def toR (S : sS) (f t : Int) : Int :=
  @ite Int (toR0 S f t) (Classical.propDecidable _) (if Xi S 904 115 = -1 then -9 else -1)
    (@ite Int (toR1 S f t) (Classical.propDecidable _) (if Xi S 904 116 ≠ -1 ∧ (t - f = 1 ∨ (t - f = 2 ∧ Xi S 907 f.toNat = 102)) then -2 else -9) (obR S f t))
theorem toR_0 {S : sS} {f t z : Int} (h : toR0 S f t) (hz : (Xi S 904 115 = -1 ∧ z = -9) ∨ (Xi S 904 115 ≠ -1 ∧ z = -1)) : z = toR S f t := by sorry
theorem toR_1 {S : sS} {f t z : Int} (h0 : ¬ toR0 S f t) (h : toR1 S f t) (hz : ((Xi S 904 116 ≠ -1 ∧ (t - f = 1 ∨ (t - f = 2 ∧ Xi S 907 f.toNat = 102))) ∧ z = -2) ∨ (¬ (Xi S 904 116 ≠ -1 ∧ (t - f = 1 ∨ (t - f = 2 ∧ Xi S 907 f.toNat = 102))) ∧ z = -9)) : z = toR S f t := by sorry
theorem toR_2 {S : sS} {f t z : Int} (h0 : ¬ toR0 S f t) (h : ¬ toR1 S f t) (hz : z = obR S f t) : z = toR S f t := by sorry
def ktC (S : sS) (t : Int) : Int := if t = -1 then Xi S 904 115 else if t = -2 then Xi S 904 116 else if t = -9 then -1 else Xi S 918 t.toNat
def ftC (S : sS) (t k : Int) : Int := if t ≠ -9 ∧ blR S (ktC S t) k ≠ 0 then 1 else 0
noncomputable def vsR (S : sS) (i : Int) : Int := if Xi S 907 i.toNat = 3 then msR S i 1 10 else -1
noncomputable def rsR (S : sS) (i : Int) : Int := Xi S 941 (vsR S i).toNat
def qsR (S : sS) (f t i : Int) : Prop := vsR S i ≠ -1 ∧ ftC S (toR S f i) (Xi S 936 (rsR S i).toNat) ≠ 0 ∧ ftC S (toR S (i + 1) t) (Xi S 937 (rsR S i).toNat) ≠ 0
noncomputable def cnT (S : sS) (f t : Int) : Nat → Int
  | 0 => 0
  | n + 1 => @ite Int (qsR S f t (f + 1 + n)) (Classical.propDecidable _) (cnT S f t n + 1) (cnT S f t n)
noncomputable def psT (S : sS) (f t : Int) : Nat → Int
  | 0 => -1
  | n + 1 => @ite Int (psT S f t n = -1 ∧ qsR S f t (f + 1 + n)) (Classical.propDecidable _) (f + 1 + n) (psT S f t n)
theorem toR_F {l : List rec} {S T : sS} (h : FR l S T) (e : kdis l [(907, 908)] = true) (e2 : ∀ t n s, msR T t n s = msR S t n s) (e3 : mdf l 904 115 = false) (e4 : mdf l 904 116 = false) (f t : Int) : toR T f t = toR S f t := by sorry
theorem ftC_F {l : List rec} {S T : sS} (h : FR l S T) (e : kdis l [(917, 918)] = true) (e2 : kdis l [(918, 919)] = true) (e3 : mdf l 904 115 = false) (e4 : mdf l 904 116 = false) (t k : Int) : ftC T t k = ftC S t k := by sorry
def SYR (S T : sS) (q f t i c : Int) : Prop := c = cnT S f t (i - f - 1).toNat ∧ 0 ≤ c ∧ c ≤ i - f ∧ (c = 0 → psT S f t (i - f - 1).toNat = -1) ∧ (0 < c → psT S f t (i - f - 1).toNat ≠ -1 ∧ qsR S f t (psT S f t (i - f - 1).toNat) ∧ Xi T 971 q.toNat = toR S f (psT S f t (i - f - 1).toNat) ∧ Xi T 975 q.toNat = toR S (psT S f t (i - f - 1).toNat + 1) t ∧ Xi T 972 q.toNat = rsR S (psT S f t (i - f - 1).toNat))
theorem syr_0 {S T : sS} {q f t : Int} : SYR S T q f t (f + 1) 0 := by sorry
theorem syr_n {S T : sS} {q f t i c : Int} (h : SYR S T q f t i c) (hi : f + 1 ≤ i) (w : ¬ qsR S f t i) : SYR S T q f t (i + 1) c := by sorry
theorem syr_y {S T : sS} {q f t i c : Int} (h : SYR S T q f t i c) (hi : f + 1 ≤ i ∧ 0 ≤ f) (w : qsR S f t i) (hc : 0 < c) : SYR S T q f t (i + 1) (c + 1) := by sorry
theorem syr_z {S T U : sS} {q f t i c : Int} (h : SYR S T q f t i c) (hi : f + 1 ≤ i ∧ 0 ≤ f) (w : qsR S f t i) (hc : c = 0) (k1 : Xi U 971 q.toNat = toR S f i) (k2 : Xi U 975 q.toNat = toR S (i + 1) t) (k3 : Xi U 972 q.toNat = rsR S i) : SYR S U q f t (i + 1) (c + 1) := by sorry
def SYRO (S S1 : sS) (q f t z : Int) : Prop := ∃ i : Int, f + 1 ≤ i ∧ t ≤ i + 1 ∧ (i = f + 1 ∨ i < t) ∧ SYR S S1 q f t i z

abbrev Q_mo_kindOfThing__p (S : sS) (th : Int) : pst := fun r S1 => S = S1 ∧ (∃ z : Int, r = some (iv z) ∧ (-2147483648 ≤ z ∧ z ≤ 2147483647) ∧ (z = ktC S th))
set_option maxRecDepth 100000 in
theorem t_mo_kindOfThing__p {S : sS} (hH : RI S) (th : Int) (hth : -2147483648 ≤ th ∧ th ≤ 2147483647) (d : Nat) : Mp lay0 (d + 1) m_mo_kindOfThing [.ref 904, iv th] S (Q_mo_kindOfThing__p S th) := by sorry
abbrev Q_mo_fits__p (S : sS) (th : Int) (kind : Int) : pst := fun r S1 => S = S1 ∧ (∃ z : Int, r = some (iv z) ∧ (0 ≤ z ∧ z ≤ 1) ∧ (z = ftC S th kind))
set_option maxRecDepth 100000 in
theorem t_mo_fits__p {S : sS} (hH : RI S) (th : Int) (kind : Int) (hth : -2147483648 ≤ th ∧ th ≤ 2147483647) (hkind : -2147483648 ≤ kind ∧ kind ≤ 2147483647) (hB : ABV S) (hkx : Hid (∀ j : Nat, -1 ≤ Xi S 918 j ∧ Xi S 918 j ≤ 15)) (hit : (-1 ≤ Xi S 904 115 ∧ Xi S 904 115 ≤ 15) ∧ (-1 ≤ Xi S 904 116 ∧ Xi S 904 116 ≤ 15)) (d : Nat) : Mp lay0 (d + 2) m_mo_fits [.ref 904, iv th, iv kind] S (Q_mo_fits__p S th kind) := by sorry
abbrev Q_mo_thingOf__p (S : sS) (from_ : Int) (to : Int) : pst := fun r S1 => S = S1 ∧ (∃ z : Int, r = some (iv z) ∧ (-2147483648 ≤ z ∧ z ≤ 2147483647) ∧ (z = toR S from_ to))
set_option maxRecDepth 100000 in
theorem t_mo_thingOf__p {S : sS} (hH : RI S) (from_ : Int) (to : Int) (hfrom_ : 0 ≤ from_ ∧ from_ ≤ 5140) (hto : 0 ≤ to ∧ to ≤ 5140) (hLS : LSP S) (h15 : 0 ≤ Xi S 904 15) (d : Nat) : Mp lay0 (d + 5) m_mo_thingOf [.ref 904, iv from_, iv to] S (Q_mo_thingOf__p S from_ to) := by sorry
end
end
section
section
/-! tests of the reference: what is meant -/
noncomputable def mtV (S : sS) (td rn : Int) : Int := if td / 10000 = 0 then (if Xi S 904 115 = -1 then -9 else -1) else if td / 10000 = 1 then (if Xi S 904 116 = -1 then -9 else -2) else (if td / 10000 = 2 ∧ rnR S rn 4 = -1 then -9 else rnR S rn 4)
def MTO (S S1 : sS) (z td rn : Int) : Prop := z = mtV S td rn ∧ NT3 S1 = (if z ≠ -9 then NT3 S else ntF (NT3 S) 4 (Xi S 908 (td % 10000).toNat))
def pmK (S : sS) (rn th : Int) : Prop := rnR S rn 7 ≠ -1 ∧ (th = -9 ∨ hsR S (ktC S th) (rnR S rn 7) ≠ 0)
noncomputable def pmZ (S : sS) (rn th : Int) : Int := if rnR S rn 7 ≠ -1 ∧ th ≠ -9 ∧ hsR S (ktC S th) (rnR S rn 7) ≠ 0 then rnR S rn 7 else -1
def PMN (S S1 : sS) (rn th : Int) : Prop := (pmK S rn th → NT3 S1 = NT3 S) ∧ (¬ pmK S rn th → NT3 S1 = ntF (NT3 S) 4 (pR S rn))
def PMO (S S1 : sS) (z rn th : Int) : Prop := z = pmZ S rn th ∧ PMN S S1 rn th
def NMO (S S1 : sS) (rn : Int) : Prop := (rnR S rn 7 = -1 ∨ Xi S 928 (rnR S rn 7).toNat = 0 → NT3 S1 = NT3 S) ∧ (¬ (rnR S rn 7 = -1 ∨ Xi S 928 (rnR S rn 7).toNat = 0) → NT3 S1 = ntF (NT3 S) 4 (pR S rn))
theorem HSF {l : List rec} {S P : sS} {a b : Int} (h : FR l S P) (e1 : kdis l [(917, 918)] = true) (e2 : kdis l [(929, 930)] = true) : hsR P a b = hsR S a b := by sorry
def md_mo_meant__p : List rec := [(904, 905, 104, 105), (904, 905, 105, 106), (904, 905, 106, 107)]
abbrev Q_mo_meant__p (S : sS) (td : Int) (rn : Int) : pst := fun r S1 => RI S1 ∧ FR md_mo_meant__p S S1 ∧ (∃ z : Int, r = some (iv z) ∧ (-2147483648 ≤ z ∧ z ≤ 2147483647) ∧ (MTO S S1 z td rn))
set_option maxRecDepth 100000 in
theorem t_mo_meant__p {S : sS} (hH : RI S) (td : Int) (rn : Int) (htd : 0 ≤ td ∧ td ≤ 29999) (hrn : -2147483648 ≤ rn ∧ rn ≤ 2147483647) (hLS : LSP S) (h15 : 0 ≤ Xi S 904 15) (hRB : RBD S) (d : Nat) : Mp lay0 (d + 5) m_mo_meant [.ref 904, iv td, iv rn] S (Q_mo_meant__p S td rn) := by sorry
def md_mo_propertyMeant__p : List rec := [(904, 905, 104, 105), (904, 905, 105, 106), (904, 905, 106, 107)]
abbrev Q_mo_propertyMeant__p (S : sS) (rn : Int) (th : Int) : pst := fun r S1 => RI S1 ∧ FR md_mo_propertyMeant__p S S1 ∧ (∃ z : Int, r = some (iv z) ∧ (-2147483648 ≤ z ∧ z ≤ 2147483647) ∧ (PMO S S1 z rn th))
set_option maxRecDepth 100000 in
theorem t_mo_propertyMeant__p {S : sS} (hH : RI S) (rn : Int) (th : Int) (hrn : -2147483648 ≤ rn ∧ rn ≤ 2147483647) (hth : -2147483648 ≤ th ∧ th ≤ 2147483647) (hLS : LSP S) (h15 : 0 ≤ Xi S 904 15) (hRB : RBD S) (hB : ABV S) (hkx : Hid (∀ j : Nat, -1 ≤ Xi S 918 j ∧ Xi S 918 j ≤ 15)) (hit : (-1 ≤ Xi S 904 115 ∧ Xi S 904 115 ≤ 15) ∧ (-1 ≤ Xi S 904 116 ∧ Xi S 904 116 ≤ 15)) (hpx : Hid (-1 ≤ rnR S rn 7 ∧ rnR S rn 7 ≤ 11)) (d : Nat) : Mp lay0 (d + 5) m_mo_propertyMeant [.ref 904, iv rn, iv th] S (Q_mo_propertyMeant__p S rn th) := by sorry
def md_mo_numberMeant__p : List rec := [(904, 905, 104, 105), (904, 905, 105, 106), (904, 905, 106, 107)]
abbrev Q_mo_numberMeant__p (S : sS) (rn : Int) : pst := fun r S1 => RI S1 ∧ FR md_mo_numberMeant__p S S1 ∧ (r = none ∧ (NMO S S1 rn))
set_option maxRecDepth 100000 in
theorem t_mo_numberMeant__p {S : sS} (hH : RI S) (rn : Int) (hrn : -2147483648 ≤ rn ∧ rn ≤ 2147483647) (hLS : LSP S) (h15 : 0 ≤ Xi S 904 15) (hRB : RBD S) (d : Nat) : Mp lay0 (d + 5) m_mo_numberMeant [.ref 904, iv rn] S (Q_mo_numberMeant__p S rn) := by sorry
end
section
/-! tests of the reference: what states must have in common -/
def AGQ (S P : sS) : Prop := (∀ j, Xi P 907 j = Xi S 907 j) ∧ (∀ t n s, msR P t n s = msR S t n s) ∧ (∀ k o, blR P k o = blR S k o) ∧ (∀ c j, c = 918 ∨ c = 936 ∨ c = 937 ∨ c = 941 ∨ c = 908 → Xi P c j = Xi S c j) ∧ Xi P 904 115 = Xi S 904 115 ∧ Xi P 904 116 = Xi S 904 116
theorem AGQ_F {l : List rec} {S P : sS} (h : FR l S P) (e1 : kdis l [(907, 909)] = true) (e2 : (kdis l kLX && mD l [15]) = true) (e3 : kdis l [(917, 919)] = true) (e4 : kdis l [(936, 942)] = true) (e5 : mdf l 904 115 = false) (e6 : mdf l 904 116 = false) (e7 : kdis l [(917, 918)] = true) : AGQ S P := by sorry
section AGQS
variable {S P : sS}
theorem oaR_A (g : AGQ S P) (f t : Int) : oaR P f t = oaR S f t := by sorry
theorem obR_A (g : AGQ S P) (f t : Int) : obR P f t = obR S f t := by sorry
theorem toR_A (g : AGQ S P) (f t : Int) : toR P f t = toR S f t := by sorry
theorem ktC_A (g : AGQ S P) (t : Int) : ktC P t = ktC S t := by sorry
theorem ftC_A (g : AGQ S P) (t k : Int) : ftC P t k = ftC S t k := by sorry
theorem vsR_A (g : AGQ S P) (i : Int) : vsR P i = vsR S i := by sorry
theorem rsR_A (g : AGQ S P) (i : Int) : rsR P i = rsR S i := by sorry
theorem qsR_A (g : AGQ S P) (f t i : Int) : qsR P f t i = qsR S f t i := by sorry
theorem cnT_A (g : AGQ S P) (a b : Int) : ∀ n : Nat, cnT P a b n = cnT S a b n := by sorry
theorem psT_A (g : AGQ S P) (a b : Int) : ∀ n : Nat, psT P a b n = psT S a b n := by sorry
theorem SYR_A {U : sS} (g : AGQ S P) (q f t i c : Int) : SYR P U q f t i c = SYR S U q f t i c := by sorry
theorem SYRO_A {U : sS} (g : AGQ S P) {q f t z : Int} (o : SYRO P U q f t z) : SYRO S U q f t z := by sorry
theorem SYRO_K {T U : sS} {q f t z : Int} (o : SYRO S T q f t z) (k : ∀ c, c = 971 ∨ c = 972 ∨ c = 975 → ∀ j, Xi U c j = Xi T c j) : SYRO S U q f t z := by sorry
end AGQS
/-- a saying is tested -/
def TM5 (S S1 : sS) (i q : Int) : Prop := Xi S1 969 q.toNat = 5 ∧ Xi S1 970 q.toNat = Xi S 953 i.toNat ∧ ∃ c : Int, SYRO S S1 q (Xi S 961 i.toNat) (Xi S 962 i.toNat) c ∧
  NT3 S1 = (if c < 2 then (if 0 < c then NT3 S else ntF (NT3 S) 4 (Xi S 908 (Xi S 961 i.toNat).toNat)) else ntF (if 0 < c then NT3 S else ntF (NT3 S) 4 (Xi S 908 (Xi S 961 i.toNat).toNat)) 7 (Xi S 908 (Xi S 961 i.toNat).toNat))
end
section
/-! tests of the reference: places, numbers, properties -/
theorem mtV_F {S P : sS} {td rn : Int} (g : SMR S P) (h5 : Xi P 904 115 = Xi S 904 115) (h6 : Xi P 904 116 = Xi S 904 116) : mtV P td rn = mtV S td rn := by sorry
theorem mto_F {S P U : sS} {z td rn t r : Int} {N : Int × Int × Int} (m : MTO P U z td rn) (g : SMR S P) (h5 : Xi P 904 115 = Xi S 904 115) (h6 : Xi P 904 116 = Xi S 904 116) (n : NT3 P = N) (k : ∀ j, Xi P 908 j = Xi S 908 j) (ht : td = t) (hr : rn = r) : z = mtV S t r ∧ NT3 U = (if z ≠ -9 then N else ntF N 4 (Xi S 908 (t % 10000).toNat)) := by sorry
noncomputable def mT1 (S : sS) (i : Int) : Int := mtV S (Xi S 954 i.toNat) (Xi S 955 i.toNat)
noncomputable def nT1 (S : sS) (i : Int) : Int × Int × Int := if mT1 S i ≠ -9 then NT3 S else ntF (NT3 S) 4 (Xi S 908 (Xi S 954 i.toNat % 10000).toNat)
noncomputable def mT2 (S : sS) (i : Int) : Int := mtV S (Xi S 959 i.toNat) (Xi S 960 i.toNat)
/-- what every test but a saying begins with -/
def TMB (S T : sS) (i q : Int) : Prop := Xi T 969 q.toNat = Xi S 952 i.toNat ∧ Xi T 970 q.toNat = Xi S 953 i.toNat ∧ Xi T 971 q.toNat = mT1 S i
def TM4 (S S1 : sS) (i q : Int) : Prop := TMB S S1 i q ∧ Xi S1 975 q.toNat = mT2 S i ∧ Xi S1 973 q.toNat = Xi S 958 i.toNat ∧ NT3 S1 = (if mT2 S i ≠ -9 then nT1 S i else ntF (nT1 S i) 4 (Xi S 908 (Xi S 959 i.toNat % 10000).toNat))
end
section
/-! tests of the reference: properties, numbers -/
theorem pmo_F {l : List rec} {S P U : sS} {z rn th r t : Int} {N : Int × Int × Int} (m : PMO P U z rn th) (h : FR l S P) (g : SMR S P) (e1 : kdis l [(917, 918)] = true) (e2 : kdis l [(929, 930)] = true) (e3 : kdis l [(918, 919)] = true) (h5 : Xi P 904 115 = Xi S 904 115) (h6 : Xi P 904 116 = Xi S 904 116) (n : NT3 P = N) (hr : rn = r) (ht : th = t) : z = pmZ S r t ∧ (pmK S r t → NT3 U = N) ∧ (¬ pmK S r t → NT3 U = ntF N 4 (pR S r)) := by sorry
theorem wmr_F {l : List rec} {S P U : sS} {t r tp q t1 r1 p1 : Int} {N : Int × Int × Int} (m : WMR P U t r tp q) (h : FR l S P) (g : SMR S P) (e1 : kdis l [(907, 911)] = true) (e2 : kdis l [(927, 928)] = true) (n : NT3 P = N) (ht : t = t1) (hr : r = r1) (hp : tp = p1) : (wOKR S t1 r1 p1 → NT3 U = N) ∧ (¬ wOKR S t1 r1 p1 → NT3 U = ntF N 4 (Xi S 908 t1.toNat)) ∧ Xi U 973 q.toNat = wvR S t1 r1 ∧ Xi U 974 q.toNat = wlR S t1 := by sorry
noncomputable def nT2 (S : sS) (i : Int) : Int × Int × Int := @ite (Int × Int × Int) (pmK S (Xi S 956 i.toNat) (mT1 S i)) (Classical.propDecidable _) (nT1 S i) (ntF (nT1 S i) 4 (pR S (Xi S 956 i.toNat)))
noncomputable def pT0 (S : sS) (i : Int) : Int := pmZ S (Xi S 956 i.toNat) (mT1 S i)
def TM0 (S S1 : sS) (i q : Int) : Prop := TMB S S1 i q ∧ Xi S1 972 q.toNat = pT0 S i ∧ (pT0 S i = -1 → NT3 S1 = nT2 S i) ∧
  (pT0 S i ≠ -1 → (wOKR S (Xi S 957 i.toNat) (Xi S 960 i.toNat) (Xi S 928 (pT0 S i).toNat) → NT3 S1 = nT2 S i) ∧ (¬ wOKR S (Xi S 957 i.toNat) (Xi S 960 i.toNat) (Xi S 928 (pT0 S i).toNat) → NT3 S1 = ntF (nT2 S i) 4 (Xi S 908 (Xi S 957 i.toNat).toNat)) ∧ Xi S1 973 q.toNat = wvR S (Xi S 957 i.toNat) (Xi S 960 i.toNat) ∧ Xi S1 974 q.toNat = wlR S (Xi S 957 i.toNat))
theorem nT2_i {S T : sS} {i : Int} (a : pmK S (Xi S 956 i.toNat) (mT1 S i) → NT3 T = nT1 S i) (b : ¬ pmK S (Xi S 956 i.toNat) (mT1 S i) → NT3 T = ntF (nT1 S i) 4 (pR S (Xi S 956 i.toNat))) : NT3 T = nT2 S i := by sorry
end
section
/-! tests of the reference: numbers, adjectives -/
theorem nmo_F {l : List rec} {S P U : sS} {rn r : Int} {N : Int × Int × Int} (m : NMO P U rn) (h : FR l S P) (g : SMR S P) (e1 : kdis l [(928, 929)] = true) (n : NT3 P = N) (hr : rn = r) : (rnR S r 7 = -1 ∨ Xi S 928 (rnR S r 7).toNat = 0 → NT3 U = N) ∧ (¬ (rnR S r 7 = -1 ∨ Xi S 928 (rnR S r 7).toNat = 0) → NT3 U = ntF N 4 (pR S r)) := by sorry
def TM1 (S S1 : sS) (i q : Int) : Prop := TMB S S1 i q ∧ Xi S1 972 q.toNat = pT0 S i ∧ Xi S1 973 q.toNat = Xj S 910 (Xi S 957 i.toNat).toNat ∧ (rnR S (Xi S 956 i.toNat) 7 = -1 ∨ Xi S 928 (rnR S (Xi S 956 i.toNat) 7).toNat = 0 → NT3 S1 = nT2 S i) ∧ (¬ (rnR S (Xi S 956 i.toNat) 7 = -1 ∨ Xi S 928 (rnR S (Xi S 956 i.toNat) 7).toNat = 0) → NT3 S1 = ntF (nT2 S i) 4 (pR S (Xi S 956 i.toNat)))
end
section
/-! tests of the reference: adjectives -/
def rT3 (S : sS) (i : Int) : Int := Xi S 956 i.toNat
noncomputable def aT3 (S : sS) (i now : Int) : Int := if 3 < Xi S 951 (rT3 S i).toNat then 0 else adR S (Xi S 950 (rT3 S i).toNat) (Xi S 951 (rT3 S i).toNat) (ktC S (mT1 S i)) (1 - now) (1 - Xi S 953 i.toNat)
noncomputable def cT3 (S : sS) (i now : Int) : Int := acR S (Xi S 950 (rT3 S i).toNat) (Xi S 951 (rT3 S i).toNat) (ktC S (mT1 S i)) (1 - now) (1 - Xi S 953 i.toNat)
def TM3 (S S1 : sS) (i q now : Int) : Prop := TMB S S1 i q ∧ (mT1 S i = -9 → NT3 S1 = nT1 S i) ∧ (mT1 S i ≠ -9 →
  NT3 S1 = (if aT3 S i now < 2 then (if 0 < aT3 S i now then nT1 S i else ntF (nT1 S i) 4 (pR S (rT3 S i))) else ntF (if 0 < aT3 S i now then nT1 S i else ntF (nT1 S i) 4 (pR S (rT3 S i))) 7 (pR S (rT3 S i))) ∧ (0 < aT3 S i now → Xi S1 973 q.toNat = cT3 S i now) ∧ (¬ 0 < aT3 S i now → Xi S1 973 q.toNat = 0))
theorem tmb_k {S T U : sS} {i q : Int} (h : TMB S T i q) (a : Xi U 969 q.toNat = Xi T 969 q.toNat) (b : Xi U 970 q.toNat = Xi T 970 q.toNat) (c : Xi U 971 q.toNat = Xi T 971 q.toNat) : TMB S U i q := by sorry
end
end
section
section
def md_mo_sayings__k : List rec := [(971, 972, 0, 100000), (972, 973, 0, 100000), (975, 976, 0, 100000)]
abbrev Q_mo_sayings__k (S : sS) (from_ : Int) (to : Int) (q : Int) : pst := fun r S1 => RI S1 ∧ FR md_mo_sayings__k S S1 ∧ (∃ z : Int, r = some (iv z) ∧ (-2147483648 ≤ z ∧ z ≤ 2147483647) ∧ (SYRO S S1 q from_ to z) ∧ (KQ S1 S q))
set_option maxRecDepth 100000 in
theorem t_mo_sayings__k {S : sS} (hH : RI S) (from_ : Int) (to : Int) (q : Int) (hfrom_ : 0 ≤ from_ ∧ from_ ≤ 5140) (hto : 0 ≤ to ∧ to ≤ 5140) (hq : 0 ≤ q ∧ q ≤ 3000) (hLS : LSP S) (h15 : 0 ≤ Xi S 904 15) (hB : ABV S) (hkx : Hid (∀ j : Nat, -1 ≤ Xi S 918 j ∧ Xi S 918 j ≤ 15)) (hit : (-1 ≤ Xi S 904 115 ∧ Xi S 904 115 ≤ 15) ∧ (-1 ≤ Xi S 904 116 ∧ Xi S 904 116 ≤ 15)) (d : Nat) : Mp lay0 (d + 6) m_mo_sayings [.ref 904, iv from_, iv to, iv q] S (Q_mo_sayings__k S from_ to q) := by sorry
def md_mo_whatMeant__k : List rec := [(904, 905, 104, 105), (904, 905, 105, 106), (904, 905, 106, 107), (973, 974, 0, 100000), (974, 975, 0, 100000)]
abbrev Q_mo_whatMeant__k (S : sS) (t : Int) (rr : Int) (type : Int) (q : Int) : pst := fun r S1 => RI S1 ∧ FR md_mo_whatMeant__k S S1 ∧ (r = none ∧ (WMR S S1 t rr type q) ∧ (KQ S1 S q))
set_option maxRecDepth 100000 in
theorem t_mo_whatMeant__k {S : sS} (hH : RI S) (t : Int) (rr : Int) (type : Int) (q : Int) (ht : -2147483648 ≤ t ∧ t ≤ 2147483647) (hrr : -2147483648 ≤ rr ∧ rr ≤ 2147483647) (htype : -2147483648 ≤ type ∧ type ≤ 2147483647) (hq : -2147483648 ≤ q ∧ q ≤ 2147483647) (hLS : LSP S) (h15 : 0 ≤ Xi S 904 15) (hRB : RBD S) (hnum : Hid (Xi S 907 t.toNat = 4 → 0 ≤ Xj S 910 t.toNat ∧ Xj S 910 t.toNat ≤ 2147483647)) (hplc : Xi S 908 t.toNat ≤ 100000) (d : Nat) : Mp lay0 (d + 5) m_mo_whatMeant [.ref 904, iv t, iv rr, iv type, iv q] S (Q_mo_whatMeant__k S t rr type q) := by sorry
def md_mo_testMeant__5k : List rec := [(904, 905, 64, 65), (904, 905, 104, 105), (904, 905, 105, 106), (904, 905, 106, 107), (904, 905, 113, 114), (969, 970, 0, 100000), (970, 971, 0, 100000), (971, 972, 0, 100000), (972, 973, 0, 100000), (973, 974, 0, 100000), (974, 975, 0, 100000), (975, 976, 0, 100000)]
abbrev Q_mo_testMeant__5k (S : sS) (i : Int) (q : Int) (isNow : Int) : pst := fun r S1 => RI S1 ∧ FR md_mo_testMeant__5k S S1 ∧ (r = none ∧ (TM5 S S1 i q) ∧ (KQ S1 S q))
set_option maxRecDepth 100000 in
theorem t_mo_testMeant__5k {S : sS} (hH : RI S) (i : Int) (q : Int) (isNow : Int) (hi : 0 ≤ i ∧ i ≤ 1699) (hq : 0 ≤ q ∧ q ≤ 2399) (hisNow : 0 ≤ isNow ∧ isNow ≤ 1) (hLS : LSP S) (h15 : 0 ≤ Xi S 904 15) (hB : ABV S) (hkx : Hid (∀ j : Nat, -1 ≤ Xi S 918 j ∧ Xi S 918 j ≤ 15)) (hit : (-1 ≤ Xi S 904 115 ∧ Xi S 904 115 ≤ 15) ∧ (-1 ≤ Xi S 904 116 ∧ Xi S 904 116 ≤ 15)) (hfm : Xi S 952 i.toNat = 5) (hnt : 0 ≤ Xi S 953 i.toNat ∧ Xi S 953 i.toNat ≤ 1) (hte : (0 ≤ Xi S 961 i.toNat ∧ Xi S 961 i.toNat ≤ 5140) ∧ (0 ≤ Xi S 962 i.toNat ∧ Xi S 962 i.toNat ≤ 5140)) (d : Nat) : Mp lay0 (d + 7) m_mo_testMeant [.ref 904, iv i, iv q, iv isNow] S (Q_mo_testMeant__5k S i q isNow) := by sorry
def md_mo_testMeant__4k : List rec := [(904, 905, 64, 65), (904, 905, 104, 105), (904, 905, 105, 106), (904, 905, 106, 107), (904, 905, 113, 114), (969, 970, 0, 100000), (970, 971, 0, 100000), (971, 972, 0, 100000), (972, 973, 0, 100000), (973, 974, 0, 100000), (974, 975, 0, 100000), (975, 976, 0, 100000)]
abbrev Q_mo_testMeant__4k (S : sS) (i : Int) (q : Int) (isNow : Int) : pst := fun r S1 => RI S1 ∧ FR md_mo_testMeant__4k S S1 ∧ (r = none ∧ (TM4 S S1 i q) ∧ (KQ S1 S q))
set_option maxRecDepth 100000 in
theorem t_mo_testMeant__4k {S : sS} (hH : RI S) (i : Int) (q : Int) (isNow : Int) (hi : 0 ≤ i ∧ i ≤ 1699) (hq : 0 ≤ q ∧ q ≤ 2399) (hisNow : 0 ≤ isNow ∧ isNow ≤ 1) (hLS : LSP S) (h15 : 0 ≤ Xi S 904 15) (hRB : RBD S) (hfm : Xi S 952 i.toNat = 4) (hnt : 0 ≤ Xi S 953 i.toNat ∧ Xi S 953 i.toNat ≤ 1) (htd : 0 ≤ Xi S 954 i.toNat ∧ Xi S 954 i.toNat ≤ 29999) (hto : 0 ≤ Xi S 959 i.toNat ∧ Xi S 959 i.toNat ≤ 29999) (d : Nat) : Mp lay0 (d + 7) m_mo_testMeant [.ref 904, iv i, iv q, iv isNow] S (Q_mo_testMeant__4k S i q isNow) := by sorry
def md_mo_testMeant__0k : List rec := [(904, 905, 64, 65), (904, 905, 104, 105), (904, 905, 105, 106), (904, 905, 106, 107), (904, 905, 113, 114), (969, 970, 0, 100000), (970, 971, 0, 100000), (971, 972, 0, 100000), (972, 973, 0, 100000), (973, 974, 0, 100000), (974, 975, 0, 100000), (975, 976, 0, 100000)]
abbrev Q_mo_testMeant__0k (S : sS) (i : Int) (q : Int) (isNow : Int) : pst := fun r S1 => RI S1 ∧ FR md_mo_testMeant__0k S S1 ∧ (r = none ∧ (TM0 S S1 i q) ∧ (KQ S1 S q))
set_option maxRecDepth 100000 in
theorem t_mo_testMeant__0k {S : sS} (hH : RI S) (i : Int) (q : Int) (isNow : Int) (hi : 0 ≤ i ∧ i ≤ 1699) (hq : 0 ≤ q ∧ q ≤ 2399) (hisNow : 0 ≤ isNow ∧ isNow ≤ 1) (hLS : LSP S) (h15 : 0 ≤ Xi S 904 15) (hRB : RBD S) (hB : ABV S) (hkx : Hid (∀ j : Nat, -1 ≤ Xi S 918 j ∧ Xi S 918 j ≤ 15)) (hit : (-1 ≤ Xi S 904 115 ∧ Xi S 904 115 ≤ 15) ∧ (-1 ≤ Xi S 904 116 ∧ Xi S 904 116 ≤ 15)) (hfm : Xi S 952 i.toNat = 0) (hnt : 0 ≤ Xi S 953 i.toNat ∧ Xi S 953 i.toNat ≤ 1) (htd : 0 ≤ Xi S 954 i.toNat ∧ Xi S 954 i.toNat ≤ 29999) (hpx : Hid (-1 ≤ rnR S (Xi S 956 i.toNat) 7 ∧ rnR S (Xi S 956 i.toNat) 7 ≤ 11)) (hnum : Hid (Xi S 907 (Xi S 957 i.toNat).toNat = 4 → 0 ≤ Xj S 910 (Xi S 957 i.toNat).toNat ∧ Xj S 910 (Xi S 957 i.toNat).toNat ≤ 2147483647)) (hplc : Xi S 908 (Xi S 957 i.toNat).toNat ≤ 100000) (d : Nat) : Mp lay0 (d + 7) m_mo_testMeant [.ref 904, iv i, iv q, iv isNow] S (Q_mo_testMeant__0k S i q isNow) := by sorry
def md_mo_testMeant__1k : List rec := [(904, 905, 64, 65), (904, 905, 104, 105), (904, 905, 105, 106), (904, 905, 106, 107), (904, 905, 113, 114), (969, 970, 0, 100000), (970, 971, 0, 100000), (971, 972, 0, 100000), (972, 973, 0, 100000), (973, 974, 0, 100000), (974, 975, 0, 100000), (975, 976, 0, 100000)]
abbrev Q_mo_testMeant__1k (S : sS) (i : Int) (q : Int) (isNow : Int) : pst := fun r S1 => RI S1 ∧ FR md_mo_testMeant__1k S S1 ∧ (r = none ∧ (TM1 S S1 i q) ∧ (KQ S1 S q))
set_option maxRecDepth 100000 in
theorem t_mo_testMeant__1k {S : sS} (hH : RI S) (i : Int) (q : Int) (isNow : Int) (hi : 0 ≤ i ∧ i ≤ 1699) (hq : 0 ≤ q ∧ q ≤ 2399) (hisNow : 0 ≤ isNow ∧ isNow ≤ 1) (hLS : LSP S) (h15 : 0 ≤ Xi S 904 15) (hRB : RBD S) (hB : ABV S) (hkx : Hid (∀ j : Nat, -1 ≤ Xi S 918 j ∧ Xi S 918 j ≤ 15)) (hit : (-1 ≤ Xi S 904 115 ∧ Xi S 904 115 ≤ 15) ∧ (-1 ≤ Xi S 904 116 ∧ Xi S 904 116 ≤ 15)) (hfm : Xi S 952 i.toNat = 1 ∨ Xi S 952 i.toNat = 2) (hnt : 0 ≤ Xi S 953 i.toNat ∧ Xi S 953 i.toNat ≤ 1) (htd : 0 ≤ Xi S 954 i.toNat ∧ Xi S 954 i.toNat ≤ 29999) (hpx : Hid (-1 ≤ rnR S (Xi S 956 i.toNat) 7 ∧ rnR S (Xi S 956 i.toNat) 7 ≤ 11)) (hnum : 0 ≤ Xj S 910 (Xi S 957 i.toNat).toNat ∧ Xj S 910 (Xi S 957 i.toNat).toNat ≤ 2147483647) (d : Nat) : Mp lay0 (d + 7) m_mo_testMeant [.ref 904, iv i, iv q, iv isNow] S (Q_mo_testMeant__1k S i q isNow) := by sorry
def md_mo_testMeant__3k : List rec := [(904, 905, 64, 65), (904, 905, 104, 105), (904, 905, 105, 106), (904, 905, 106, 107), (904, 905, 113, 114), (969, 970, 0, 100000), (970, 971, 0, 100000), (971, 972, 0, 100000), (972, 973, 0, 100000), (973, 974, 0, 100000), (974, 975, 0, 100000), (975, 976, 0, 100000)]
abbrev Q_mo_testMeant__3k (S : sS) (i : Int) (q : Int) (isNow : Int) : pst := fun r S1 => RI S1 ∧ FR md_mo_testMeant__3k S S1 ∧ (r = none ∧ (TM3 S S1 i q isNow) ∧ (KQ S1 S q))
set_option maxRecDepth 100000 in
theorem t_mo_testMeant__3k {S : sS} (hH : RI S) (i : Int) (q : Int) (isNow : Int) (hi : 0 ≤ i ∧ i ≤ 1699) (hq : 0 ≤ q ∧ q ≤ 2399) (hisNow : 0 ≤ isNow ∧ isNow ≤ 1) (hLS : LSP S) (h15 : 0 ≤ Xi S 904 15) (hRB : RBD S) (hB : ABV S) (hkx : Hid (∀ j : Nat, -1 ≤ Xi S 918 j ∧ Xi S 918 j ≤ 15)) (hit : (-1 ≤ Xi S 904 115 ∧ Xi S 904 115 ≤ 15) ∧ (-1 ≤ Xi S 904 116 ∧ Xi S 904 116 ≤ 15)) (hLX : LXR S) (hp32 : 0 ≤ Xi S 904 32 ∧ Xi S 904 32 ≤ 12) (hfm : Xi S 952 i.toNat = 3) (hnt : 0 ≤ Xi S 953 i.toNat ∧ Xi S 953 i.toNat ≤ 1) (htd : 0 ≤ Xi S 954 i.toNat ∧ Xi S 954 i.toNat ≤ 29999) (hrf : 0 ≤ Xi S 950 (rT3 S i).toNat ∧ Xi S 950 (rT3 S i).toNat ≤ 6000) (d : Nat) : Mp lay0 (d + 7) m_mo_testMeant [.ref 904, iv i, iv q, iv isNow] S (Q_mo_testMeant__3k S i q isNow) := by sorry
/-! tests of the reference: one test, whatever its form -/
def TRK (S : sS) (i : Int) : Prop := (0 ≤ Xi S 952 i.toNat ∧ Xi S 952 i.toNat ≤ 5) ∧ (0 ≤ Xi S 953 i.toNat ∧ Xi S 953 i.toNat ≤ 1) ∧
  (Xi S 952 i.toNat = 5 → (0 ≤ Xi S 961 i.toNat ∧ Xi S 961 i.toNat ≤ 5140) ∧ (0 ≤ Xi S 962 i.toNat ∧ Xi S 962 i.toNat ≤ 5140)) ∧
  (Xi S 952 i.toNat ≠ 5 → 0 ≤ Xi S 954 i.toNat ∧ Xi S 954 i.toNat ≤ 29999) ∧ (Xi S 952 i.toNat = 4 → 0 ≤ Xi S 959 i.toNat ∧ Xi S 959 i.toNat ≤ 29999) ∧
  (Xi S 952 i.toNat = 3 → 0 ≤ Xi S 950 (rT3 S i).toNat ∧ Xi S 950 (rT3 S i).toNat ≤ 6000) ∧
  (Xi S 952 i.toNat ≤ 2 → -1 ≤ rnR S (Xi S 956 i.toNat) 7 ∧ rnR S (Xi S 956 i.toNat) 7 ≤ 11) ∧
  (Xi S 952 i.toNat = 0 → (Xi S 907 (Xi S 957 i.toNat).toNat = 4 → 0 ≤ Xj S 910 (Xi S 957 i.toNat).toNat ∧ Xj S 910 (Xi S 957 i.toNat).toNat ≤ 2147483647) ∧ Xi S 908 (Xi S 957 i.toNat).toNat ≤ 100000) ∧
  (Xi S 952 i.toNat = 1 ∨ Xi S 952 i.toNat = 2 → 0 ≤ Xj S 910 (Xi S 957 i.toNat).toNat ∧ Xj S 910 (Xi S 957 i.toNat).toNat ≤ 2147483647)
def TMX (S S1 : sS) (i q now : Int) : Prop := (Xi S 952 i.toNat = 5 → TM5 S S1 i q) ∧ (Xi S 952 i.toNat = 4 → TM4 S S1 i q) ∧ (Xi S 952 i.toNat = 3 → TM3 S S1 i q now) ∧ (Xi S 952 i.toNat = 0 → TM0 S S1 i q) ∧ (Xi S 952 i.toNat = 1 ∨ Xi S 952 i.toNat = 2 → TM1 S S1 i q) ∧ KQ S1 S q
def md_mo_testMeant__p : List rec := [(904, 905, 64, 65), (904, 905, 104, 105), (904, 905, 105, 106), (904, 905, 106, 107), (904, 905, 113, 114), (969, 970, 0, 100000), (970, 971, 0, 100000), (971, 972, 0, 100000), (972, 973, 0, 100000), (973, 974, 0, 100000), (974, 975, 0, 100000), (975, 976, 0, 100000)]
abbrev Q_mo_testMeant__p (S : sS) (i : Int) (q : Int) (isNow : Int) : pst := fun r S1 => RI S1 ∧ FR md_mo_testMeant__p S S1 ∧ (r = none ∧ (TMX S S1 i q isNow))
set_option maxRecDepth 100000 in
theorem t_mo_testMeant__p {S : sS} (hH : RI S) (i : Int) (q : Int) (isNow : Int) (hi : 0 ≤ i ∧ i ≤ 1699) (hq : 0 ≤ q ∧ q ≤ 2399) (hisNow : 0 ≤ isNow ∧ isNow ≤ 1) (hLS : LSP S) (h15 : 0 ≤ Xi S 904 15) (hRB : RBD S) (hB : ABV S) (hkx : Hid (∀ j : Nat, -1 ≤ Xi S 918 j ∧ Xi S 918 j ≤ 15)) (hit : (-1 ≤ Xi S 904 115 ∧ Xi S 904 115 ≤ 15) ∧ (-1 ≤ Xi S 904 116 ∧ Xi S 904 116 ≤ 15)) (hLX : LXR S) (hp32 : 0 ≤ Xi S 904 32 ∧ Xi S 904 32 ≤ 12) (htk : Hid (TRK S i)) (d : Nat) : Mp lay0 (d + 7) m_mo_testMeant [.ref 904, iv i, iv q, iv isNow] S (Q_mo_testMeant__p S i q isNow) := by sorry
end
end
section
section
/-! tests of the reference: all of a sentence's tests -/
theorem TRK_F {l : List rec} {S P : sS} {i : Int} (h : FR l S P) (g : SMR S P) (e1 : kdis l [(907, 911)] = true) (e2 : kdis l [(950, 963)] = true) (t : TRK S i) : TRK P i := by sorry
def TSR (lN lT : List rec) (S : sS) : Nat → sS → Prop
  | 0, T => T = S
  | n + 1, T => ∃ W A : sS, TSR lN lT S n W ∧ FR lN W A ∧ NT3 A = (if (n : Int) < 6 then NT3 W else ntF (NT3 W) 9 (Xi S 908 (Xi S 961 n).toNat)) ∧ FR lT A T ∧ TMX A T n (Xi S 904 117 + n) 0

def md_mo_testsMeant__p : List rec := [(904, 905, 64, 65), (904, 905, 104, 105), (904, 905, 105, 106), (904, 905, 106, 107), (904, 905, 113, 114), (969, 970, 0, 100000), (970, 971, 0, 100000), (971, 972, 0, 100000), (972, 973, 0, 100000), (973, 974, 0, 100000), (974, 975, 0, 100000), (975, 976, 0, 100000)]
abbrev Q_mo_testsMeant__p (S : sS) : pst := fun r S1 => RI S1 ∧ FR md_mo_testsMeant__p S S1 ∧ (r = none ∧ (TSR md_mo_need__p md_mo_testMeant__p S (Xi S 904 94).toNat S1))
set_option maxRecDepth 100000 in
theorem t_mo_testsMeant__p {S : sS} (hH : RI S) (hLS : LSP S) (h15 : 0 ≤ Xi S 904 15) (hRB : RBD S) (hB : ABV S) (hkx : Hid (∀ j : Nat, -1 ≤ Xi S 918 j ∧ Xi S 918 j ≤ 15)) (hit : (-1 ≤ Xi S 904 115 ∧ Xi S 904 115 ≤ 15) ∧ (-1 ≤ Xi S 904 116 ∧ Xi S 904 116 ≤ 15)) (hLX : LXR S) (hp32 : 0 ≤ Xi S 904 32 ∧ Xi S 904 32 ≤ 12) (h94 : 0 ≤ Xi S 904 94 ∧ Xi S 904 94 ≤ 1700) (h117 : 0 ≤ Xi S 904 117 ∧ Xi S 904 117 + Xi S 904 94 ≤ 2400) (htk : Hid (∀ k : Nat, (k : Int) < Xi S 904 94 → TRK S k)) (d : Nat) : Mp lay0 (d + 8) m_mo_testsMeant [.ref 904] S (Q_mo_testsMeant__p S) := by sorry
end
section
/-! 2: the reference asks and does -/
def RA2 (lK lM lN lT : List rec) (P S1 : sS) : Prop := ∃ A C : sS, FR lK P A ∧ NT3 A = (if rnR P 0 0 = -1 then ntF (NT3 P) 4 (pR P 0) else NT3 P) ∧ FR lM (uI A 904 115 (Int32.ofInt (rnR P 0 0))) C ∧ MBN (uI A 904 115 (Int32.ofInt (rnR P 0 0))) C 1 (Xi P 904 23) 24 ∧ TSR lN lT C (Xi P 904 94).toNat S1
def RD2 (lA : List rec) (S S1 : sS) : Prop := ∃ A B : sS, FR lA S A ∧ ADJ S A (rnR S 0 0) (-1) ∧ B = uI (uI (uI A 923 (Xi S 904 23).toNat (Int32.ofInt (Xi S 904 117))) 924 (Xi S 904 23).toNat (Int32.ofInt (Xi S 904 94))) 904 117 (Int32.ofInt (Xi S 904 117 + Xi S 904 94)) ∧ TLR B S1 5 (Xi S 904 23) (Xj B 910 (Xi B 950 1).toNat) (if 1 < Xi B 951 1 then Xj B 910 (Xi B 950 1 + 1).toNat else 0) (if 2 < Xi B 951 1 then Xj B 910 (Xi B 950 1 + 2).toNat else 0) (Xi B 951 1) ∧ FR md_mo_tellRun__p B S1

def md_mo_doDefined__p : List rec := [(904, 905, 15, 16), (904, 905, 23, 24), (904, 905, 117, 118), (912, 913, 0, 100000), (913, 914, 0, 100000), (914, 915, 0, 100000), (915, 916, 0, 100000), (916, 917, 0, 100000), (921, 922, 0, 100000), (922, 923, 0, 100000), (923, 924, 0, 100000), (924, 925, 0, 100000)]
abbrev Q_mo_doDefined__p (S : sS) : pst := fun r S1 => RI S1 ∧ FR md_mo_doDefined__p S S1 ∧ (r = none ∧ (RD2 md_mo_addAdjective__p S S1))
set_option maxRecDepth 100000 in
theorem t_mo_doDefined__p {S : sS} (hH : RI S) (hLS : LSP S) (h15 : 0 ≤ Xi S 904 15) (hRB : RBD S) (ha : 0 ≤ Xi S 904 23 ∧ Xi S 904 23 ≤ 30) (h94 : 0 ≤ Xi S 904 94 ∧ Xi S 904 94 ≤ 1700) (h117 : 0 ≤ Xi S 904 117 ∧ Xi S 904 117 ≤ 2400) (d : Nat) : Mp lay0 (d + 5) m_mo_doDefined [.ref 904] S (Q_mo_doDefined__p S) := by sorry
def md_mo_does__2 : List rec := [(904, 905, 15, 16), (904, 905, 16, 17), (904, 905, 18, 19), (904, 905, 19, 20), (904, 905, 23, 24), (904, 905, 30, 31), (904, 905, 32, 33), (904, 905, 41, 42), (904, 905, 47, 48), (904, 905, 49, 50), (904, 905, 51, 52), (904, 905, 55, 56), (904, 905, 60, 61), (904, 905, 64, 65), (904, 905, 73, 74), (904, 905, 105, 106), (904, 905, 106, 107), (904, 905, 113, 114), (904, 905, 117, 118), (912, 913, 0, 100000), (913, 914, 0, 100000), (914, 915, 0, 100000), (915, 916, 0, 100000), (916, 917, 0, 100000), (917, 918, 0, 100000), (918, 919, 0, 100000), (919, 920, 0, 100000), (920, 921, 0, 100000), (921, 922, 0, 100000), (922, 923, 0, 100000), (923, 924, 0, 100000), (924, 925, 0, 100000), (925, 926, 0, 100000), (926, 927, 0, 100000), (927, 928, 0, 100000), (928, 929, 0, 100000), (929, 930, 0, 100000), (930, 931, 0, 100000), (931, 932, 0, 100000), (932, 933, 0, 100000), (933, 934, 0, 100000), (934, 935, 0, 100000), (935, 936, 0, 100000), (936, 937, 0, 100000), (937, 938, 0, 100000), (938, 939, 0, 100000), (939, 940, 0, 100000), (940, 941, 0, 100000), (941, 942, 0, 100000), (942, 943, 0, 100000), (943, 944, 0, 100000), (944, 945, 0, 100000), (945, 946, 0, 100000), (946, 947, 0, 100000), (947, 948, 0, 100000), (948, 949, 0, 100000), (949, 950, 0, 100000)]
abbrev Q_mo_does__2 (S : sS) (first : Int) : pst := fun r S1 => RI S1 ∧ FR md_mo_does__2 S S1 ∧ (r = none ∧ (RD2 md_mo_addAdjective__p S S1))
set_option maxRecDepth 100000 in
theorem t_mo_does__2 {S : sS} (hH : RI S) (first : Int) (hfirst : 0 ≤ first ∧ first ≤ 5001) (hLS : LSP S) (h15 : 0 ≤ Xi S 904 15) (hRB : RBD S) (ha : 0 ≤ Xi S 904 23 ∧ Xi S 904 23 ≤ 30) (h94 : 0 ≤ Xi S 904 94 ∧ Xi S 904 94 ≤ 1700) (h117 : 0 ≤ Xi S 904 117 ∧ Xi S 904 117 ≤ 2400) (hs : Xi S 904 70 = 2) (d : Nat) : Mp lay0 (d + 8) m_mo_does [.ref 904, iv first] S (Q_mo_does__2 S first) := by sorry
def md_mo_asked__2 : List rec := [(904, 905, 64, 65), (904, 905, 104, 105), (904, 905, 105, 106), (904, 905, 106, 107), (904, 905, 108, 109), (904, 905, 109, 110), (904, 905, 110, 111), (904, 905, 112, 113), (904, 905, 113, 114), (904, 905, 115, 116), (904, 905, 116, 117), (904, 905, 117, 118), (904, 905, 125, 126), (904, 905, 128, 129), (904, 905, 129, 130), (904, 905, 130, 131), (904, 905, 142, 143), (904, 905, 144, 145), (904, 905, 146, 147), (904, 905, 147, 148), (904, 905, 150, 151), (904, 905, 151, 152), (904, 905, 153, 154), (904, 905, 154, 155), (904, 905, 156, 157), (904, 905, 157, 158), (904, 905, 158, 159), (904, 905, 160, 161), (966, 967, 0, 100000), (967, 968, 0, 100000), (968, 969, 0, 100000), (969, 970, 0, 100000), (970, 971, 0, 100000), (971, 972, 0, 100000), (972, 973, 0, 100000), (973, 974, 0, 100000), (974, 975, 0, 100000), (975, 976, 0, 100000), (976, 977, 0, 100000), (977, 978, 0, 100000), (978, 979, 0, 100000), (979, 980, 0, 100000), (980, 981, 0, 100000), (981, 982, 0, 100000), (982, 983, 0, 100000), (983, 984, 0, 100000), (984, 985, 0, 100000), (985, 986, 0, 100000), (986, 987, 0, 100000), (987, 988, 0, 100000), (988, 989, 0, 100000), (989, 990, 0, 100000), (990, 991, 0, 100000), (991, 992, 0, 100000), (992, 993, 0, 100000), (993, 994, 0, 100000), (994, 995, 0, 100000)]
abbrev Q_mo_asked__2 (S : sS) (first : Int) : pst := fun r S1 => RI S1 ∧ FR md_mo_asked__2 S S1 ∧ (r = none ∧ (∃ P : sS, FR lA S P ∧ (Xi P 904 106 = 0 ∧ Xi P 904 108 = 0 ∧ Xi P 904 116 = -1) ∧ RA2 md_mo_kindOfRun__p md_mo_mustBeNew__p md_mo_need__p md_mo_testMeant__p P S1))
set_option maxRecDepth 100000 in
theorem t_mo_asked__2 {S : sS} (hH : RI S) (first : Int) (hfirst : 0 ≤ first ∧ first ≤ 5001) (hLS : LSP S) (h15 : 0 ≤ Xi S 904 15) (hRB : RBD S) (hB : ABV S) (hkx : Hid (∀ j : Nat, -1 ≤ Xi S 918 j ∧ Xi S 918 j ≤ 15)) (hLX : LXR S) (hp32 : 0 ≤ Xi S 904 32 ∧ Xi S 904 32 ≤ 12) (h94 : 0 ≤ Xi S 904 94 ∧ Xi S 904 94 ≤ 1700) (h117 : 0 ≤ Xi S 904 117 ∧ Xi S 904 117 + Xi S 904 94 ≤ 2400) (htk : Hid (∀ k : Nat, (k : Int) < Xi S 904 94 → TRK S k)) (hs : Xi S 904 70 = 2) (hk0 : -1 ≤ rnR S 0 0 ∧ rnR S 0 0 ≤ 15) (d : Nat) : Mp lay0 (d + 13) m_mo_asked [.ref 904, iv first] S (Q_mo_asked__2 S first) := by sorry
end
section
/-! rules of the class: the head's parts -/
def RLM (T : sS) (ru : Nat) (s a o k n tc pc f : Int) : Prop := Xi T (248 + ru) 0 = s ∧ Xi T (248 + ru) 1 = a ∧ Xi T (248 + ru) 2 = o ∧ Xi T (248 + ru) 3 = k ∧ Xi T (248 + ru) 4 = n ∧ Xi T (248 + ru) 5 = tc ∧ Xi T (248 + ru) 6 = pc ∧ Xi T (248 + ru) 7 = f
def nnD (k : Int) : Int := if k = -2 then -1 else k
def nnK (S : sS) (ru : Nat) : Int := nnD (if Xi S (248 + ru) 2 ≠ -1 then Xi S 21 (Xi S (248 + ru) 2).toNat else if Xi S (248 + ru) 3 ≠ -1 then Xi S (248 + ru) 3 else Xi S 19 (Xi S (248 + ru) 1).toNat)
theorem nnK_o {S : sS} {ru : Nat} (h : Xi S (248 + ru) 2 ≠ -1) : nnK S ru = nnD (Xi S 21 (Xi S (248 + ru) 2).toNat) := by sorry
theorem nnK_k {S : sS} {ru : Nat} (g : Xi S (248 + ru) 2 = -1) (h : Xi S (248 + ru) 3 ≠ -1) : nnK S ru = nnD (Xi S (248 + ru) 3) := by sorry
theorem nnK_a {S : sS} {ru : Nat} (g : Xi S (248 + ru) 2 = -1) (h : Xi S (248 + ru) 3 = -1) : nnK S ru = nnD (Xi S 19 (Xi S (248 + ru) 1).toNat) := by sorry
def aaQ (S : sS) (a b i : Int) : Prop := fnd S 8 a i ≠ -1 ∧ fnd S 2 i b ≠ -1 ∧ isK S (Xi S 21 (fnd S 2 i b).toNat) (Xi S 19 (fnd S 8 a i).toNat) ≠ 0
noncomputable def aaF (S : sS) (a b : Int) : Nat → Int × Int × Int
  | 0 => (fnd S 8 a b, -1, if fnd S 8 a b = -1 then 0 else 1)
  | n + 1 => @ite (Int × Int × Int) (aaQ S a b (a + 1 + n)) (Classical.propDecidable _) (fnd S 8 a (a + 1 + n), fnd S 2 (a + 1 + n) b, (aaF S a b n).2.2 + 1) (aaF S a b n)
theorem aa_y {S : sS} {a b i x y c : Int} (h : aaF S a b (i - a - 1).toNat = (x, y, c)) (hi : a + 1 ≤ i) (q : aaQ S a b i) : aaF S a b (i + 1 - a - 1).toNat = (fnd S 8 a i, fnd S 2 i b, c + 1) := by sorry
theorem aa_n {S : sS} {a b i x y c : Int} (h : aaF S a b (i - a - 1).toNat = (x, y, c)) (hi : a + 1 ≤ i) (q : ¬ aaQ S a b i) : aaF S a b (i + 1 - a - 1).toNat = (x, y, c) := by sorry
/-- ACTING without ART RUN -/
def AAO (S S1 : sS) (ru : Nat) (a b z : Int) : Prop := KRU S S1 ru ∧ (∀ j : Nat, j ≠ 1 → j ≠ 2 → Xi S1 (248 + ru) j = Xi S (248 + ru) j) ∧ Xi S1 (248 + ru) 1 = (aaF S a b (b - a - 1).toNat).1 ∧ Xi S1 (248 + ru) 2 = (aaF S a b (b - a - 1).toNat).2.1 ∧
  ((aaF S a b (b - a - 1).toNat).2.2 = 1 → z = 1 ∧ Xi S1 876 8 = 0) ∧ ((aaF S a b (b - a - 1).toNat).2.2 ≠ 1 → z = 0 ∧ FTO S S1 (if (aaF S a b (b - a - 1).toNat).2.2 = 0 then 4 else 7) a)
theorem aao_w {S A B : sS} {ru : Nat} {x y : Int} (hx : rg x) (hy : rg y) (e1 : A = uI S (248 + ru) ((1 : Int).toNat) (Int32.ofInt x)) (e2 : B = uI A (248 + ru) ((2 : Int).toNat) (Int32.ofInt y)) : KRU S B ru ∧ (∀ j : Nat, j ≠ 1 → j ≠ 2 → Xi B (248 + ru) j = Xi S (248 + ru) j) ∧ Xi B (248 + ru) 1 = x ∧ Xi B (248 + ru) 2 = y := by sorry
abbrev Q_rr_sortOfRule__p (S : sS) (sort : Int) : pst := fun r S1 => S = S1 ∧ (∃ z : Int, r = some (iv z) ∧ (-2147483648 ≤ z ∧ z ≤ 2147483647) ∧ (z = if sort = 3 then 0 else if sort = 4 then 2 else if sort = 5 then 1 else 3))
set_option maxRecDepth 100000 in
theorem t_rr_sortOfRule__p {S : sS} (hH : RI S) (sort : Int) (hsort : -2147483648 ≤ sort ∧ sort ≤ 2147483647) (d : Nat) : Mp lay0 (d + 1) m_rr_sortOfRule [iv sort] S (Q_rr_sortOfRule__p S sort) := by sorry
def md_bo_startRule__p : List rec := [(248, 272, 0, 100000)]
abbrev Q_bo_startRule__p (S : sS) (sort : Int) : pst := fun r S1 => RI S1 ∧ FR md_bo_startRule__p S S1 ∧ (∃ z : Nat, r = some (.ref (248 + z)) ∧ z < 24 ∧ ((z : Int) = Xi S 246 2) ∧ (KRU S S1 z) ∧ (RLM S1 z sort (-1) (-1) (-1) 0 0 0 (Xi S 246 5)))
set_option maxRecDepth 100000 in
theorem t_bo_startRule__p {S : sS} (hH : RI S) (sort : Int) (hsort : 0 ≤ sort ∧ sort ≤ 3) (hr : 0 ≤ Xi S 246 2 ∧ Xi S 246 2 < 24) (d : Nat) : Mp lay0 (d + 1) m_bo_startRule [.ref 246, iv sort] S (Q_bo_startRule__p S sort) := by sorry
def md_rr_nameNoun__p : List rec := [(895, 896, 3, 4), (895, 896, 4, 5)]
abbrev Q_rr_nameNoun__p (S : sS) (ru : Nat) : pst := fun r S1 => RI S1 ∧ FR md_rr_nameNoun__p S S1 ∧ (r = none ∧ (S1 = uI (uI S 895 3 (Int32.ofInt 53)) 895 4 (Int32.ofInt (nnK S ru))))
set_option maxRecDepth 100000 in
theorem t_rr_nameNoun__p {S : sS} (hH : RI S) (ru : Nat) (hru : S.2.2 899 4 = some (248 + ru)) (hrk : ru < 24) (d : Nat) : Mp lay0 (d + 2) m_rr_nameNoun [.ref 899] S (Q_rr_nameNoun__p S ru) := by sorry
abbrev Q_rr_whenEnd__p (S : sS) : pst := fun r S1 => S = S1 ∧ (∃ z : Int, r = some (iv z) ∧ (-2147483648 ≤ z ∧ z ≤ 2147483647) ∧ (z = if ty7 S (Xi S 899 5) = 37 then Xi S 899 5 + 1 else -1))
set_option maxRecDepth 100000 in
theorem t_rr_whenEnd__p {S : sS} (hH : RI S) (h5 : 0 ≤ Xi S 899 5 ∧ Xi S 899 5 ≤ 5140) (d : Nat) : Mp lay0 (d + 2) m_rr_whenEnd [.ref 899] S (Q_rr_whenEnd__p S) := by sorry
def md_rr_actingAlone__p : List rec := [(248, 272, 0, 100000), (876, 877, 8, 9), (876, 877, 9, 10)]
abbrev Q_rr_actingAlone__p (S : sS) (ru : Nat) (from_ : Int) (to : Int) : pst := fun r S1 => RI S1 ∧ FR md_rr_actingAlone__p S S1 ∧ (∃ z : Int, r = some (iv z) ∧ (0 ≤ z ∧ z ≤ 1) ∧ (AAO S S1 ru from_ to z))
set_option maxRecDepth 100000 in
theorem t_rr_actingAlone__p {S : sS} (hH : RI S) (ru : Nat) (from_ : Int) (to : Int) (hfrom_ : 0 ≤ from_ ∧ from_ ≤ 5130) (hto : 0 ≤ to ∧ to ≤ 5130) (hru : S.2.2 899 4 = some (248 + ru)) (hrk : ru < 24) (h13 : 0 ≤ Xi S 1 3 ∧ Xi S 1 3 ≤ 200) (hCE : CEN S) (hf : Xi S 876 8 = 0) (d : Nat) : Mp lay0 (d + 3) m_rr_actingAlone [.ref 899, iv from_, iv to] S (Q_rr_actingAlone__p S ru from_ to) := by sorry
end
end
section
section
/-! rules of the class: ACTING with ART RUN -/
theorem ccC_F {l : List rec} {S T : sS} (h : FR l S T) (e : (kdis l kA && !(mdf l 1 3)) = true) (e6 : kdis l [(6, 7)] = true) {a t pl d al m : Int} : ccC T a t pl d al m = ccC S a t pl d al m := by sorry
theorem ccT_F {l : List rec} {S T : sS} (h : FR l S T) (e : (kdis l kA && !(mdf l 1 3)) = true) (e6 : kdis l [(6, 7)] = true) {a t pl d al v : Int} : ccT T a t pl d al v = ccT S a t pl d al v := by sorry
def obI (S : sS) (l h k : Int) : Int := if 0 ≤ whoC S l h ∧ isK S (whkC S l h) k ≠ 0 then 1 else 0
def rdC (S : sS) (l h k : Int) : Int := if h - l ≤ 6 then ccT S l h 0 1 k 4 else 0
theorem rdC_b {S : sS} {l h k : Int} : 0 ≤ rdC S l h k ∧ rdC S l h k ≤ 13349232 := by sorry
def AOM (S T : sS) (ru : Nat) (A K l h : Int) : Prop := ∃ m : Int, (1 ≤ m ∧ m ≤ 3 ∧ m ≤ h - l) ∧ ccC S l h 0 1 K m = 1 ∧ Xi T (248 + ru) 1 = A ∧ Xi T (248 + ru) 3 = ckC S h 0 m ∧ Xi T (248 + ru) 4 = Xi T 895 14 ∧ (∀ j : Nat, j ≠ 1 → j ≠ 3 → j ≠ 4 → Xi T (248 + ru) j = Xi S (248 + ru) j) ∧ KPC T (fA S (ckC S h 0 m) l 1) (g1C S l) (g2C S (ckC S h 0 m) l) (h - m - l) ∧ KRU S T ru
def AOC (S T : sS) (n : Nat) : Prop := Xi T 246 5 = Xi S 246 5 + n ∧ (∀ i : Nat, i < n → CLM T ((Xi S 246 5).toNat + i) (if Xi T 897 i = -1 then 0 else 1) 0 (-2) (if Xi T 897 i = -1 then Xi T 896 i else Xi T 897 i) (Xi T 896 i) 0 (-1)) ∧ (∀ c j : Nat, c < (Xi S 246 5).toNat → Xi T (276 + c) j = Xi S (276 + c) j)
def AOW (S S1 : sS) (ru : Nat) (A o : Int) : Prop := KRU S S1 ru ∧ (∀ j : Nat, j ≠ 1 → j ≠ 2 → Xi S1 (248 + ru) j = Xi S (248 + ru) j) ∧ Xi S1 (248 + ru) 1 = A ∧ Xi S1 (248 + ru) 2 = o ∧ Xi S1 246 5 = Xi S 246 5 ∧ (∀ c j : Nat, c < 600 → Xi S1 (276 + c) j = Xi S (276 + c) j)
def AOR (S S1 : sS) (ru : Nat) (A K l h z : Int) : Prop :=
  (obI S l h K + rdC S l h K ≠ 1 → z = 0 ∧ FTO S S1 (if obI S l h K = 1 ∨ 0 < rdC S l h K then 7 else 4) l) ∧
  (obI S l h K + rdC S l h K = 1 → obI S l h K = 1 → z = 1 ∧ Xi S1 876 8 = 0 ∧ AOW S S1 ru A (whoC S l h)) ∧
  (obI S l h K + rdC S l h K = 1 → obI S l h K = 0 → z = 1 ∧ Xi S1 876 8 = 0 ∧ ∃ n : Nat, Xi S1 895 14 = n ∧ AOM S S1 ru A K l h ∧ AOC S S1 n)
def AOO (S S1 : sS) (ru : Nat) (a b h z : Int) : Prop :=
  (fnd S 8 a b = -1 → z = 0 ∧ FTO S S1 4 a) ∧ (fnd S 8 a b ≠ -1 → Xi S 19 (fnd S 8 a b).toNat < 0 → z = 0 ∧ FTO S S1 4 (b + 1)) ∧
  (fnd S 8 a b ≠ -1 → 0 ≤ Xi S 19 (fnd S 8 a b).toNat → AOR S S1 ru (fnd S 8 a b) (Xi S 19 (fnd S 8 a b).toNat) (b + 1) h z)
theorem aoo_r {S S1 : sS} {ru : Nat} {a b h z A K : Int} (hA : A = fnd S 8 a b) (hK : K = Xi S 19 (fnd S 8 a b).toNat) (n : A ≠ -1) (k : 0 ≤ K) (r : AOR S S1 ru A K (b + 1) h z) : AOO S S1 ru a b h z := by sorry
theorem aor_f {S S1 : sS} {ru : Nat} {A K l h z o r c : Int} (ho : o = obI S l h K) (hr : r = rdC S l h K) (hn : o + r ≠ 1) (hz : z = 0) (hc : c = if o = 1 ∨ 0 < r then 7 else 4) (f : FTO S S1 c l) : AOR S S1 ru A K l h z := by sorry
theorem aor_o {S S1 : sS} {ru : Nat} {A K l h z o r : Int} (ho : o = obI S l h K) (hr : r = rdC S l h K) (hn : o + r = 1) (h1 : o = 1) (hz : z = 1) (f : Xi S1 876 8 = 0) (w : AOW S S1 ru A (whoC S l h)) : AOR S S1 ru A K l h z := by sorry
theorem aor_k {S S1 : sS} {ru : Nat} {A K l h z : Int} {n : Nat} (hn : obI S l h K = 0 ∧ rdC S l h K = 1) (hz : z = 1) (f : Xi S1 876 8 = 0) (hl : Xi S1 895 14 = n) (m : AOM S S1 ru A K l h) (c : AOC S S1 n) : AOR S S1 ru A K l h z := by sorry
theorem aoc_s {S T U : sS} {n cl : Nat} (c : AOC S T n) (hcl : cl = (Xi S 246 5).toNat + n) (h6 : cl < 600) (k : KCL T U cl) (e5 : Xi U 246 5 = Xi T 246 5 + 1) (e6 : ∀ j, Xi U 896 j = Xi T 896 j) (e7 : ∀ j, Xi U 897 j = Xi T 897 j) (cm : CLM U cl (if Xi T 897 n = -1 then 0 else 1) 0 (-2) (if Xi T 897 n = -1 then Xi T 896 n else Xi T 897 n) (Xi T 896 n) 0 (-1)) : AOC S U (n + 1) := by sorry
theorem aom_k {S T U : sS} {ru : Nat} {A K l h : Int} (m : AOM S T ru A K l h) (hr : ru < 24) (e4 : Xi U 895 14 = Xi T 895 14) (e6 : ∀ j, Xi U 896 j = Xi T 896 j) (e7 : ∀ j, Xi U 897 j = Xi T 897 j) (er : ∀ k j : Nat, k < 24 → Xi U (248 + k) j = Xi T (248 + k) j) : AOM S U ru A K l h := by sorry
theorem nad_clm {T N W U : sS} {cl : Nat} {m p : Int} (hc : CLM N cl 0 0 (-1) (-1) 0 0 (-1)) (e : W = uI N (276 + cl) 2 (Int32.ofInt (-2))) (n : NAD W U cl m p) (f1 : Xi U (276 + cl) 1 = Xi W (276 + cl) 1) (f2 : Xi U (276 + cl) 2 = Xi W (276 + cl) 2) (f5 : Xi U (276 + cl) 5 = Xi W (276 + cl) 5) (f6 : Xi U (276 + cl) 6 = Xi W (276 + cl) 6) : CLM U cl (if p = -1 then 0 else 1) 0 (-2) (if p = -1 then m else p) m 0 (-1) := by sorry
def md_rr_actingOn__p : List rec := [(246, 247, 5, 6), (248, 272, 0, 100000), (276, 876, 0, 1), (276, 876, 1, 2), (276, 876, 2, 3), (276, 876, 3, 4), (276, 876, 4, 5), (276, 876, 5, 6), (276, 876, 6, 7), (876, 877, 8, 9), (876, 877, 9, 10), (895, 896, 5, 6), (895, 896, 6, 7), (895, 896, 7, 8), (895, 896, 8, 9), (895, 896, 9, 10), (895, 896, 12, 13), (895, 896, 13, 14), (895, 896, 14, 15), (896, 897, 0, 100000), (897, 898, 0, 100000), (898, 899, 0, 100000)]
abbrev Q_rr_actingOn__p (S : sS) (ru : Nat) (from_ : Int) (to : Int) : pst := fun r S1 => RI S1 ∧ FR md_rr_actingOn__p S S1 ∧ (∃ z : Int, r = some (iv z) ∧ (0 ≤ z ∧ z ≤ 1) ∧ (AOO S S1 ru from_ to (Xi S 899 5) z))
set_option maxRecDepth 100000 in
theorem t_rr_actingOn__p {S : sS} (hH : RI S) (ru : Nat) (from_ : Int) (to : Int) (hfrom_ : 0 ≤ from_ ∧ from_ ≤ 5130) (hto : 0 ≤ to ∧ to ≤ 5130) (hru : S.2.2 899 4 = some (248 + ru)) (hrk : ru < 24) (h13 : 0 ≤ Xi S 1 3 ∧ Xi S 1 3 ≤ 200) (hCE : CEN S) (hf : Xi S 876 8 = 0) (hr : Xi S 876 7 ≤ 5130) (hcc : 0 ≤ Xi S 246 5 ∧ Xi S 246 5 + 6 ≤ 600) (hh : 0 ≤ Xi S 899 5 ∧ Xi S 899 5 ≤ 5140) (hak : Hid (∀ j : Nat, -2 ≤ Xi S 19 j ∧ Xi S 19 j ≤ 15)) (d : Nat) : Mp lay0 (d + 5) m_rr_actingOn [.ref 899, iv from_, iv to] S (Q_rr_actingOn__p S ru from_ to) := by sorry
end
end
section
section
/-! rules of the class: the head -/
theorem RI_R {S : sS} {k j : Nat} {v : Option Nat} (h : RI S) (e : rT k j = none) (er : rRw.all (fun q => !(Nat.beq q.1 k)) = true)
    (h8 : k = 0 ∧ j = 8 → ∃ t, v = some t ∧ tp t) (h9 : k = 0 ∧ j = 9 → ∃ t, v = some t ∧ tp t) (h20 : k = 20 ∧ j = 1 → ∃ t, v = some t ∧ (t = 245 ∨ tp t)) (h76 : k = 876 ∧ j = 4 → ∃ t, v = some t ∧ (t = 881 ∨ tp t)) (h99 : k = 899 ∧ j = 4 → ∃ i, v = some (248 + i) ∧ i < 24) : RI (uR S k j v) := by sorry
theorem Xi_uR {S : sS} {k j : Nat} {v : Option Nat} (a b : Nat) : Xi (uR S k j v) a b = Xi S a b := by sorry
def soR (sort : Int) : Int := if sort = 3 then 0 else if sort = 4 then 2 else if sort = 5 then 1 else 3
def RHB (l : List rec) (S B : sS) (ru : Nat) (sort : Int) : Prop := FR l S B ∧ RLM B ru (soR sort) (-1) (-1) (-1) 0 0 0 (Xi S 246 5) ∧ KRU S B ru ∧ Xi B 895 3 = 53 ∧ Xi B 895 4 = -1 ∧ Xi B 899 5 = (if sort = 3 ∨ sort = 4 then 1 else 2) ∧ B.2.2 899 4 = some (248 + ru) ∧ Xi B 246 5 = Xi S 246 5 ∧ Xi B 876 8 = 0 ∧ (∀ c j : Nat, c < 600 → Xi B (276 + c) j = Xi S (276 + c) j)
theorem rlm_e {T U : sS} {ru : Nat} {s a o k n tc pc f : Int} (e : ∀ j, Xi U (248 + ru) j = Xi T (248 + ru) j) (h : RLM T ru s a o k n tc pc f) : RLM U ru s a o k n tc pc f := by sorry
def onA (B : sS) : Prop := 0 ≤ ty7 B (re7 (ty7 B) (Xi B 899 5)) ∧ ty7 B (re7 (ty7 B) (Xi B 899 5)) ≤ 3
noncomputable def hdB (B : sS) : sS := uI B 899 5 (Int32.ofInt (@ite Int (onA B) (Classical.propDecidable _) (re7 (ty7 B) (re7 (ty7 B) (Xi B 899 5) + 1)) (re7 (ty7 B) (Xi B 899 5))))
theorem hdB_y {B C : sS} {v : Int} (h : onA B) (e : C = uI B 899 5 (Int32.ofInt v)) (hv : v = re7 (ty7 B) (re7 (ty7 B) (Xi B 899 5) + 1)) : C = hdB B := by sorry
theorem hdB_n {B C : sS} {v : Int} (h : ¬ onA B) (e : C = uI B 899 5 (Int32.ofInt v)) (hv : v = re7 (ty7 B) (Xi B 899 5)) : C = hdB B := by sorry
def RHA (l : List rec) (B S1 : sS) (ru : Nat) (z : Int) : Prop := ∃ (D : sS) (w : Int), FR l (hdB B) D ∧ (w = 0 ∨ w = 1) ∧ (onA B → AOO (hdB B) D ru (Xi B 899 5) (re7 (ty7 B) (Xi B 899 5)) (Xi (hdB B) 899 5) w ∧ FR md_rr_actingOn__p (hdB B) D) ∧ (¬ onA B → AAO (hdB B) D ru (Xi B 899 5) (re7 (ty7 B) (Xi B 899 5)) w ∧ FR md_rr_actingAlone__p (hdB B) D) ∧ (w = 0 → z = 0 ∧ S1 = D) ∧ (w = 1 → z = 1 ∧ S1 = uI (uI D 895 3 (Int32.ofInt 53)) 895 4 (Int32.ofInt (nnK D ru)))
def RHO (l : List rec) (S S1 : sS) (sort z : Int) : Prop := (24 ≤ Xi S 246 2 → z = 0 ∧ FTO S S1 9 0) ∧ (Xi S 246 2 < 24 → ∃ B : sS, RHB l S B (Xi S 246 2).toNat sort ∧ (sort = 6 → z = 1 ∧ S1 = B) ∧ (sort ≠ 6 → RHA l B S1 (Xi S 246 2).toNat z))
theorem rho_6 {l : List rec} {S B : sS} {ru : Nat} {z sort : Int} (hr : ru = (Xi S 246 2).toNat) (h4 : Xi S 246 2 < 24) (b : RHB l S B ru sort) (q : sort = 6) (hz : z = 1) : RHO l S B sort z := by sorry
theorem rho_a {l : List rec} {S B S1 : sS} {ru : Nat} {z sort : Int} (hr : ru = (Xi S 246 2).toNat) (h4 : Xi S 246 2 < 24) (b : RHB l S B ru sort) (q : sort ≠ 6) (a : RHA l B S1 ru z) : RHO l S S1 sort z := by sorry
theorem rha_y {l : List rec} {B C D S1 : sS} {ru : Nat} {a b h w z : Int} (o : onA B) (hC : C = hdB B) (f : FR l C D) (f2 : FR md_rr_actingOn__p C D) (ha : a = Xi B 899 5) (hb : b = re7 (ty7 B) (Xi B 899 5)) (hh : h = Xi C 899 5) (hw : w = 0 ∨ w = 1) (x : AOO C D ru a b h w) (e0 : w = 0 → z = 0 ∧ S1 = D) (e1 : w = 1 → z = 1 ∧ S1 = uI (uI D 895 3 (Int32.ofInt 53)) 895 4 (Int32.ofInt (nnK D ru))) : RHA l B S1 ru z := by sorry
theorem rha_n {l : List rec} {B C D S1 : sS} {ru : Nat} {a b w z : Int} (o : ¬ onA B) (hC : C = hdB B) (f : FR l C D) (f2 : FR md_rr_actingAlone__p C D) (ha : a = Xi B 899 5) (hb : b = re7 (ty7 B) (Xi B 899 5)) (hw : w = 0 ∨ w = 1) (x : AAO C D ru a b w) (e0 : w = 0 → z = 0 ∧ S1 = D) (e1 : w = 1 → z = 1 ∧ S1 = uI (uI D 895 3 (Int32.ofInt 53)) 895 4 (Int32.ofInt (nnK D ru))) : RHA l B S1 ru z := by sorry
def md_rr_ruleHead__p : List rec := [(246, 247, 5, 6), (248, 272, 0, 100000), (276, 876, 0, 1), (276, 876, 1, 2), (276, 876, 2, 3), (276, 876, 3, 4), (276, 876, 4, 5), (276, 876, 5, 6), (276, 876, 6, 7), (876, 877, 8, 9), (876, 877, 9, 10), (895, 896, 3, 4), (895, 896, 4, 5), (895, 896, 5, 6), (895, 896, 6, 7), (895, 896, 7, 8), (895, 896, 8, 9), (895, 896, 9, 10), (895, 896, 12, 13), (895, 896, 13, 14), (895, 896, 14, 15), (896, 897, 0, 100000), (897, 898, 0, 100000), (898, 899, 0, 100000), (899, 900, 4, 5), (899, 900, 5, 6)]
abbrev Q_rr_ruleHead__p (S : sS) (sort : Int) : pst := fun r S1 => RI S1 ∧ FR md_rr_ruleHead__p S S1 ∧ (∃ z : Int, r = some (iv z) ∧ (0 ≤ z ∧ z ≤ 1) ∧ (RHO md_rr_ruleHead__p S S1 sort z))
set_option maxRecDepth 100000 in
theorem t_rr_ruleHead__p {S : sS} (hH : RI S) (sort : Int) (hsort : 3 ≤ sort ∧ sort ≤ 6) (h13 : 0 ≤ Xi S 1 3 ∧ Xi S 1 3 ≤ 200) (hCE : CEN S) (hf : Xi S 876 8 = 0) (hr : Xi S 876 7 ≤ 5130) (h7 : 0 ≤ Xi S 876 7) (hcc : 0 ≤ Xi S 246 5 ∧ Xi S 246 5 + 6 ≤ 600) (hr2 : 0 ≤ Xi S 246 2) (hak : Hid (∀ j : Nat, -2 ≤ Xi S 19 j ∧ Xi S 19 j ≤ 15)) (d : Nat) : Mp lay0 (d + 6) m_rr_ruleHead [.ref 899, iv sort] S (Q_rr_ruleHead__p S sort) := by sorry
end
end
section
section
/-! rules of the class: PHRASES but say -/
def MVO (S S1 : sS) (cl : Nat) (a b z : Int) : Prop := KCL S S1 cl ∧
  (isK S (whkC S a b) 0 = 0 → z = 0 ∧ FTO S S1 4 (whrC S a)) ∧
  (isK S (whkC S a b) 0 ≠ 0 → whoC S (wheC S a b + 1) b = -1 → z = 0 ∧ FTO S S1 4 (whrC S (wheC S a b + 1))) ∧
  (isK S (whkC S a b) 0 ≠ 0 → whoC S (wheC S a b + 1) b ≠ -1 → z = 1 ∧ Xi S1 876 8 = 0 ∧ CLM S1 cl 8 0 (whoC S a b) (-1) 0 0 (whoC S (wheC S a b + 1) b))
def TRN (S S1 : sS) (cl : Nat) (a m b z : Int) : Prop := KCL S S1 cl ∧
  (fnd S 8 a m = -1 ∨ Xi S 19 (fnd S 8 a m).toNat < 0 → z = 0 ∧ FTO S S1 4 a) ∧
  (fnd S 8 a m ≠ -1 → 0 ≤ Xi S 19 (fnd S 8 a m).toNat → whoC S m b = -1 → z = 0 ∧ FTO S S1 4 (whrC S m)) ∧
  (fnd S 8 a m ≠ -1 → 0 ≤ Xi S 19 (fnd S 8 a m).toNat → whoC S m b ≠ -1 → z = 1 ∧ Xi S1 876 8 = 0 ∧ CLM S1 cl 10 0 (whoC S m b) (fnd S 8 a m) 0 0 (-1))
def taQ (S : sS) (a b i : Int) : Prop := fnd S 8 a i ≠ -1 ∧ fnd S 2 i b ≠ -1 ∧ 0 ≤ Xi S 19 (fnd S 8 a i).toNat
noncomputable def taF (S : sS) (a b : Int) : Nat → Int × Int × Int
  | 0 => if fnd S 8 a b ≠ -1 ∧ Xi S 19 (fnd S 8 a b).toNat = -1 then (fnd S 8 a b, -1, 1) else (-1, -1, 0)
  | n + 1 => @ite (Int × Int × Int) (taQ S a b (a + 1 + n)) (Classical.propDecidable _) (fnd S 8 a (a + 1 + n), fnd S 2 (a + 1 + n) b, (taF S a b n).2.2 + 1) (taF S a b n)
theorem ta_y {S : sS} {a b i x y c : Int} (h : taF S a b (i - a - 1).toNat = (x, y, c)) (hi : a + 1 ≤ i) (q : taQ S a b i) : taF S a b (i + 1 - a - 1).toNat = (fnd S 8 a i, fnd S 2 i b, c + 1) := by sorry
theorem ta_n {S : sS} {a b i : Int} {p : Int × Int × Int} (h : taF S a b (i - a - 1).toNat = p) (hi : a + 1 ≤ i) (q : ¬ taQ S a b i) : taF S a b (i + 1 - a - 1).toNat = p := by sorry
def TAL (S T : sS) (cl : Nat) (a b i c : Int) : Prop := taF S a b (i - a - 1).toNat = (Xi T (276 + cl) 3, Xi T (276 + cl) 2, c) ∧ KCL S T cl ∧ (∀ j : Nat, j ≠ 2 → j ≠ 3 → Xi T (276 + cl) j = Xi S (276 + cl) j)
def TAO (S S1 : sS) (cl : Nat) (a b z : Int) : Prop := KCL S S1 cl ∧
  ((taF S a b (b - a - 1).toNat).2.2 ≠ 1 → z = 0 ∧ FTO S S1 (if (taF S a b (b - a - 1).toNat).2.2 = 0 then 4 else 7) a) ∧
  ((taF S a b (b - a - 1).toNat).2.2 = 1 → z = 1 ∧ Xi S1 876 8 = 0 ∧ CLM S1 cl 10 0 (taF S a b (b - a - 1).toNat).2.1 (taF S a b (b - a - 1).toNat).1 0 0 (-1))
theorem tac_y {S T A U : sS} {cl : Nat} {a b i c x y : Int} (h : TAL S T cl a b i c) (hi : a + 1 ≤ i) (q : taQ S a b i) (hx : x = fnd S 8 a i) (hy : y = fnd S 2 i b) (r1 : rg x) (r2 : rg y) (e1 : A = uI T (276 + cl) 3 (Int32.ofInt x)) (e2 : U = uI A (276 + cl) 2 (Int32.ofInt y)) : TAL S U cl a b (i + 1) (c + 1) := by sorry
theorem tac_n {S T : sS} {cl : Nat} {a b i c : Int} (h : TAL S T cl a b i c) (hi : a + 1 ≤ i) (q : ¬ taQ S a b i) : TAL S T cl a b (i + 1) c := by sorry
theorem tac_0 {S : sS} {cl : Nat} {a b i : Int} (hi : i = a + 1) (h2 : Xi S (276 + cl) 2 = -1) (h3 : Xi S (276 + cl) 3 = -1) (q : ¬ (fnd S 8 a b ≠ -1 ∧ Xi S 19 (fnd S 8 a b).toNat = -1)) : TAL S S cl a b i 0 := by sorry
theorem tac_1 {S U : sS} {cl : Nat} {a b i : Int} (hi : i = a + 1) (h2 : Xi S (276 + cl) 2 = -1) (r : rg (fnd S 8 a b)) (q : fnd S 8 a b ≠ -1 ∧ Xi S 19 (fnd S 8 a b).toNat = -1) (e : U = uI S (276 + cl) 3 (Int32.ofInt (fnd S 8 a b))) : TAL S U cl a b i 1 := by sorry
theorem tao_y {S T : sS} {cl : Nat} {a b i c z : Int} (h : TAL S T cl a b i c) (hi : (i - a - 1).toNat = (b - a - 1).toNat) (hc : c = 1) (hz : z = 1) (f : Xi T 876 8 = 0) (m : CLM S cl 10 0 (-1) (-1) 0 0 (-1)) : TAO S T cl a b z := by sorry
theorem tao_n {S T U : sS} {cl : Nat} {a b i c z k : Int} (h : TAL S T cl a b i c) (hi : (i - a - 1).toNat = (b - a - 1).toNat) (hc : c ≠ 1) (hz : z = 0) (hk : k = if c = 0 then 4 else 7) (u : KCL T U cl) (f : FTO S U k a) : TAO S U cl a b z := by sorry
def ADO (S S1 : sS) (cl : Nat) (key a b z : Int) : Prop := ∃ U : sS, U = uI (uI S (276 + cl) 0 (Int32.ofInt 9)) (276 + cl) 4 (Int32.ofInt (Xj S 879 (b - 1).toNat * (if key = 46 then 1 else -1))) ∧ POT U S1 cl (a + 1) (re7 (ty7 S) (a + 1)) 1 (Xi S 876 7 - 1) z ∧ FR md_rr_propertyOfThing__p U S1
def TRO (S S1 : sS) (cl : Nat) (a b z : Int) : Prop := ∃ U : sS, U = uI S (276 + cl) 0 (Int32.ofInt 10) ∧ (re7 (ty7 S) a = b → TAO U S1 cl a b z) ∧ (re7 (ty7 S) a ≠ b → TRN U S1 cl a (re7 (ty7 S) a) b z)
def OPO (S S1 : sS) (cl : Nat) (key a b z : Int) : Prop := (key = 45 → MVO S S1 cl a b z) ∧ (key = 46 ∨ key = 47 → ADO S S1 cl key a b z) ∧ (key = 49 → TRO S S1 cl a b z) ∧ (key ≠ 45 → key ≠ 46 → key ≠ 47 → key ≠ 49 → z = 1 ∧ S1 = S)

def md_rr_movePhrase__p : List rec := [(276, 876, 0, 1), (276, 876, 2, 3), (276, 876, 6, 7), (876, 877, 8, 9), (876, 877, 9, 10), (895, 896, 5, 6), (895, 896, 6, 7), (895, 896, 7, 8)]
abbrev Q_rr_movePhrase__p (S : sS) (from_ : Int) (to : Int) (cl : Nat) : pst := fun r S1 => RI S1 ∧ FR md_rr_movePhrase__p S S1 ∧ (∃ z : Int, r = some (iv z) ∧ (0 ≤ z ∧ z ≤ 1) ∧ (MVO S S1 cl from_ to z))
set_option maxRecDepth 100000 in
theorem t_rr_movePhrase__p {S : sS} (hH : RI S) (from_ : Int) (to : Int) (cl : Nat) (hfrom_ : 0 ≤ from_ ∧ from_ ≤ 5130) (hto : -1 ≤ to ∧ to ≤ 5130) (hcl : cl < 600) (h13 : 0 ≤ Xi S 1 3 ∧ Xi S 1 3 ≤ 200) (hCE : CEN S) (hf : Xi S 876 8 = 0) (hr : Xi S 876 7 ≤ 5130) (hwe : wheC S from_ to ≤ 5139) (hclm : Hid (∃ f0 : Int, CLM S cl f0 0 (-1) (-1) 0 0 (-1))) (d : Nat) : Mp lay0 (d + 3) m_rr_movePhrase [.ref 899, iv from_, iv to, .ref (276 + cl)] S (Q_rr_movePhrase__p S from_ to cl) := by sorry
def md_rr_tryOn__p : List rec := [(276, 876, 2, 3), (276, 876, 3, 4), (876, 877, 8, 9), (876, 877, 9, 10), (895, 896, 5, 6), (895, 896, 6, 7), (895, 896, 7, 8)]
abbrev Q_rr_tryOn__p (S : sS) (from_ : Int) (behind : Int) (to : Int) (cl : Nat) : pst := fun r S1 => RI S1 ∧ FR md_rr_tryOn__p S S1 ∧ (∃ z : Int, r = some (iv z) ∧ (0 ≤ z ∧ z ≤ 1) ∧ (TRN S S1 cl from_ behind to z))
set_option maxRecDepth 100000 in
theorem t_rr_tryOn__p {S : sS} (hH : RI S) (from_ : Int) (behind : Int) (to : Int) (cl : Nat) (hfrom_ : 0 ≤ from_ ∧ from_ ≤ 5130) (hbehind : 0 ≤ behind ∧ behind ≤ 5140) (hto : -1 ≤ to ∧ to ≤ 5140) (hcl : cl < 600) (h13 : 0 ≤ Xi S 1 3 ∧ Xi S 1 3 ≤ 200) (hCE : CEN S) (hf : Xi S 876 8 = 0) (hr : Xi S 876 7 ≤ 5130) (hclm : Hid (CLM S cl 10 0 (-1) (-1) 0 0 (-1))) (d : Nat) : Mp lay0 (d + 3) m_rr_tryOn [.ref 899, iv from_, iv behind, iv to, .ref (276 + cl)] S (Q_rr_tryOn__p S from_ behind to cl) := by sorry
def md_rr_tryAlone__p : List rec := [(276, 876, 2, 3), (276, 876, 3, 4), (876, 877, 8, 9), (876, 877, 9, 10)]
abbrev Q_rr_tryAlone__p (S : sS) (from_ : Int) (to : Int) (cl : Nat) : pst := fun r S1 => RI S1 ∧ FR md_rr_tryAlone__p S S1 ∧ (∃ z : Int, r = some (iv z) ∧ (0 ≤ z ∧ z ≤ 1) ∧ (TAO S S1 cl from_ to z))
set_option maxRecDepth 100000 in
theorem t_rr_tryAlone__p {S : sS} (hH : RI S) (from_ : Int) (to : Int) (cl : Nat) (hfrom_ : 0 ≤ from_ ∧ from_ ≤ 5130) (hto : 0 ≤ to ∧ to ≤ 5130) (hcl : cl < 600) (h13 : 0 ≤ Xi S 1 3 ∧ Xi S 1 3 ≤ 200) (hCE : CEN S) (hf : Xi S 876 8 = 0) (hclm : Hid (CLM S cl 10 0 (-1) (-1) 0 0 (-1))) (d : Nat) : Mp lay0 (d + 3) m_rr_tryAlone [.ref 899, iv from_, iv to, .ref (276 + cl)] S (Q_rr_tryAlone__p S from_ to cl) := by sorry
def md_rr_otherPhrase__p : List rec := [(276, 876, 0, 1), (276, 876, 2, 3), (276, 876, 3, 4), (276, 876, 4, 5), (276, 876, 6, 7), (876, 877, 8, 9), (876, 877, 9, 10), (895, 896, 5, 6), (895, 896, 6, 7), (895, 896, 7, 8)]
abbrev Q_rr_otherPhrase__p (S : sS) (key : Int) (from_ : Int) (to : Int) (cl : Nat) : pst := fun r S1 => RI S1 ∧ FR md_rr_otherPhrase__p S S1 ∧ (∃ z : Int, r = some (iv z) ∧ (0 ≤ z ∧ z ≤ 1) ∧ (OPO S S1 cl key from_ to z))
set_option maxRecDepth 100000 in
theorem t_rr_otherPhrase__p {S : sS} (hH : RI S) (key : Int) (from_ : Int) (to : Int) (cl : Nat) (hkey : 0 ≤ key ∧ key ≤ 108) (hfrom_ : 0 ≤ from_ ∧ from_ ≤ 5129) (hto : 0 ≤ to ∧ to ≤ 5130) (hcl : cl < 600) (h13 : 0 ≤ Xi S 1 3 ∧ Xi S 1 3 ≤ 200) (hCE : CEN S) (hf : Xi S 876 8 = 0) (hr : Xi S 876 7 ≤ 5130) (h7 : 0 ≤ Xi S 876 7) (hwe : Hid (key = 45 → wheC S from_ to ≤ 5139)) (hvl : Hid (key = 46 ∨ key = 47 → 0 ≤ to - 1 ∧ to - 1 < Xi S 876 7 ∧ 0 ≤ Xj S 879 (to - 1).toNat ∧ Xj S 879 (to - 1).toNat ≤ 2147483647)) (hclm : Hid (CLM S cl 11 0 (-1) (-1) 0 0 (-1))) (d : Nat) : Mp lay0 (d + 4) m_rr_otherPhrase [.ref 899, iv key, iv from_, iv to, .ref (276 + cl)] S (Q_rr_otherPhrase__p S key from_ to cl) := by sorry
end
section
/-! rules of the class: the words in [ ] -/
theorem ky7_r7 {K : Nat → Int} {c : Int} : 0 ≤ ky7 K c 100 ∧ ky7 K c 100 ≤ 100 := by sorry
def PLH (S T : sS) : Prop := (∀ j : Nat, 0 ≤ Xi S 878 j) → ∀ j : Nat, 0 ≤ Xi T 878 j
theorem PLH.rf {S : sS} : PLH S S := by sorry
theorem PLH.tr {S T U : sS} (a : PLH S T) (b : PLH T U) : PLH S U := by sorry
theorem plh_o {S T : sS} {k i : Nat} {v : Int} (e : T = uI S k i (Int32.ofInt v)) (hk : k ≠ 878 := by decide) : PLH S T := by sorry
theorem plh_of {S U1 U2 U3 U4 : sS} {a b : Nat} {ty pl v x : Int} (e1 : U1 = uI S 877 a (Int32.ofInt ty)) (e2 : U2 = uI U1 878 a (Int32.ofInt pl)) (e3 : U3 = uJ U2 879 a (Int64.ofInt v)) (e4 : U4 = uI U3 876 b (Int32.ofInt x)) (h : 0 ≤ pl ∧ pl ≤ 5000) : PLH S U4 := by sorry
def WLp (B : Nat → Int) (to : Int) : Int → List (Int × Int) → Int → Prop
  | a, [], p => a ≤ p ∧ p ≤ to ∧ ∀ q : Int, a ≤ q → q < p → B q.toNat = 32
  | a, (s, e) :: L, p => (a ≤ s ∧ s < to ∧ ∀ q : Int, a ≤ q → q < s → B q.toNat = 32) ∧ B s.toNat ≠ 32 ∧ e = we7 B to s ∧ e ≠ s ∧ e - s ≤ 12 ∧ WLp B to e L p
theorem wl_b {B : Nat → Int} {to : Int} : ∀ (L : List (Int × Int)) {a p : Int}, WLp B to a L p → p < to → B p.toNat = 32 → WLp B to a L (p + 1) := by sorry
theorem wl_w {B : Nat → Int} {to e : Int} : ∀ (L : List (Int × Int)) {a p : Int}, WLp B to a L p → p < to → B p.toNat ≠ 32 → e = we7 B to p → e ≠ p → e - p ≤ 12 → e ≤ to → WLp B to a (L ++ [(p, e)]) e := by sorry
def icd (S : sS) (ts : Nat) (x : Int × Int) : Int := c27 (Xi S ts) x.1.toNat (x.2 - x.1).toNat
def IRW (S T : sS) (ts : Nat) (L : List (Int × Int)) : Prop := ∀ i : Nat, i < L.length → Xi T 877 ((Xi S 876 6).toNat + i) = ky7 (Xj S 880) (icd S ts (L.getD i (0, 0))) 100 ∧ Xi T 878 ((Xi S 876 6).toNat + i) = (L.getD i (0, 0)).1 ∧ Xj T 879 ((Xi S 876 6).toNat + i) = icd S ts (L.getD i (0, 0))
def ILC (S T : sS) (ts : Nat) (a to p : Int) : Prop := ∃ L : List (Int × Int), WLp (Xi S ts) to a L p ∧ IRW S T ts L ∧ KR S T (Xi S 876 6) ∧ Xi T 876 7 = Xi S 876 6 + L.length ∧ (L.length : Int) ≤ p - a
def TIO (S S1 : sS) (ts : Nat) (a to z : Int) : Prop := KR S S1 (Xi S 876 6) ∧ (Xi S 876 6 ≤ Xi S1 876 7 ∧ Xi S1 876 7 ≤ Xi S 876 6 + (to - a) + 1) ∧
  (z = -1 → ∃ (L : List (Int × Int)) (p : Int), WLp (Xi S ts) to a L p ∧ p < to ∧ Xi S ts p.toNat ≠ 32 ∧ (we7 (Xi S ts) to p = p ∨ 12 < we7 (Xi S ts) to p - p)) ∧
  (z ≠ -1 → z = Xi S 876 6 ∧ ∃ L : List (Int × Int), WLp (Xi S ts) to a L to ∧ IRW S S1 ts L ∧ Xi S1 876 7 = Xi S 876 6 + L.length + 1 ∧ Xi S1 877 ((Xi S 876 6).toNat + L.length) = 107 ∧ Xi S1 878 ((Xi S 876 6).toNat + L.length) = to ∧ Xj S1 879 ((Xi S 876 6).toNat + L.length) = 0)
theorem ilc_0 {S T : sS} {ts : Nat} {a to : Int} (h : a ≤ to) (e : T = uI S 876 7 (Int32.ofInt (Xi S 876 6))) (hr : rg (Xi S 876 6)) : ILC S T ts a to a := by sorry
theorem ilc_b {S T : sS} {ts : Nat} {a to p : Int} (h : ILC S T ts a to p) (hp : p < to) (hb : Xi S ts p.toNat = 32) : ILC S T ts a to (p + 1) := by sorry
theorem irw_k {S T U : sS} {ts : Nat} {L : List (Int × Int)} (h0 : 0 ≤ Xi S 876 6) (h : IRW S T ts L) (h4 : Xi T 876 7 = Xi S 876 6 + L.length) (k : KR T U (Xi T 876 7)) : IRW S U ts L := by sorry
theorem ilc_w {S T U : sS} {ts : Nat} {a to p e k c : Int} (h : ILC S T ts a to p) (h0 : 0 ≤ Xi S 876 6) (hp : p < to) (hb : Xi S ts p.toNat ≠ 32) (he : e = we7 (Xi S ts) to p) (hn : e ≠ p) (h12 : e - p ≤ 12) (ht : e ≤ to) (hlt : p < e) (hk : k = ky7 (Xj S 880) c 100) (hc : c = c27 (Xi S ts) p.toNat (e - p).toNat) (n : NT T U k p c) (kr : KR T U (Xi T 876 7)) (r : Xi U 876 7 = Xi T 876 7 + 1) : ILC S U ts a to e := by sorry
theorem tio_x {S T : sS} {ts : Nat} {a to p z : Int} (h : ILC S T ts a to p) (hp : p < to) (hb : Xi S ts p.toNat ≠ 32) (hw : we7 (Xi S ts) to p = p ∨ 12 < we7 (Xi S ts) to p - p) (hz : z = -1) : TIO S T ts a to z := by sorry
theorem tio_z {S T U : sS} {ts : Nat} {a to p z : Int} (h : ILC S T ts a to p) (h0 : 0 ≤ Xi S 876 6) (hp : p = to) (n : NT T U 107 to 0) (kr : KR T U (Xi T 876 7)) (r : Xi U 876 7 = Xi T 876 7 + 1) (hz : z = Xi S 876 6) : TIO S U ts a to z := by sorry
def IAO (S S1 : sS) (thing prop : Int) : Prop := (Xi S 246 8 < 1666 → S1 = uI (uI (uI S 274 (Xi S 246 8).toNat (Int32.ofInt thing)) 275 (Xi S 246 8).toNat (Int32.ofInt prop)) 246 8 (Int32.ofInt (Xi S 246 8 + 1))) ∧ (1666 ≤ Xi S 246 8 → S1 = S)

def md_to_note__p : List rec := [(876, 877, 7, 8), (877, 878, 0, 100000), (878, 879, 0, 100000), (879, 880, 0, 100000)]
abbrev Q_to_note__p (S : sS) (ty : Int) (pl : Int) (v : Int) : pst := fun r S1 => RI S1 ∧ FR md_to_note__p S S1 ∧ (r = none ∧ (NT S S1 ty pl v) ∧ (KR S S1 (Xi S 876 7)) ∧ (Xi S1 876 7 = Xi S 876 7 + 1) ∧ (PLH S S1))
set_option maxRecDepth 100000 in
theorem t_to_note__p {S : sS} (hH : RI S) (ty : Int) (pl : Int) (v : Int) (hty : 0 ≤ ty ∧ ty ≤ 108) (hpl : 0 ≤ pl ∧ pl ≤ 5000) (hrw : 0 ≤ Xi S 876 7 ∧ Xi S 876 7 < 5130) (hvr : rgL v) (d : Nat) : Mp lay0 (d + 1) m_to_note [.ref 876, iv ty, iv pl, jw v] S (Q_to_note__p S ty pl v) := by sorry
def md_to_scanWord__p : List rec := [(876, 877, 7, 8), (877, 878, 0, 100000), (878, 879, 0, 100000), (879, 880, 0, 100000)]
abbrev Q_to_scanWord__p (S : sS) (ts : Nat) (from_ : Int) (limit : Int) : pst := fun r S1 => RI S1 ∧ FR md_to_scanWord__p S S1 ∧ (∃ z : Int, r = some (iv z) ∧ (-2147483648 ≤ z ∧ z ≤ 2147483647) ∧ (z = (if we7 (Xi S ts) limit from_ = from_ ∨ 12 < we7 (Xi S ts) limit from_ - from_ then -1 else we7 (Xi S ts) limit from_)) ∧ (z ≠ -1 → from_ < z ∧ z ≤ limit ∧ NT S S1 (ky7 (Xj S 880) (c27 (Xi S ts) from_.toNat (z - from_).toNat) 100) from_ (c27 (Xi S ts) from_.toNat (z - from_).toNat) ∧ Xi S1 876 7 = Xi S 876 7 + 1) ∧ (KR S S1 (Xi S 876 7)) ∧ (z = -1 → S1 = S) ∧ (PLH S S1))
set_option maxRecDepth 100000 in
theorem t_to_scanWord__p {S : sS} (hH : RI S) (ts : Nat) (from_ : Int) (limit : Int) (hfrom_ : 0 ≤ from_ ∧ from_ ≤ 5000) (hlimit : 0 ≤ limit ∧ limit ≤ 5000) (hts : S.2.2 876 4 = some ts) (htp : tp ts) (hby : BYT S ts) (hrw : 0 ≤ Xi S 876 7 ∧ Xi S 876 7 < 5130) (d : Nat) : Mp lay0 (d + 2) m_to_scanWord [.ref 876, iv from_, iv limit] S (Q_to_scanWord__p S ts from_ limit) := by sorry
def md_to_takeInside__p : List rec := [(876, 877, 7, 8), (877, 878, 0, 100000), (878, 879, 0, 100000), (879, 880, 0, 100000)]
abbrev Q_to_takeInside__p (S : sS) (ts : Nat) (from_ : Int) (to : Int) : pst := fun r S1 => RI S1 ∧ FR md_to_takeInside__p S S1 ∧ (∃ z : Int, r = some (iv z) ∧ (-2147483648 ≤ z ∧ z ≤ 2147483647) ∧ (TIO S S1 ts from_ to z) ∧ (PLH S S1))
set_option maxRecDepth 100000 in
theorem t_to_takeInside__p {S : sS} (hH : RI S) (ts : Nat) (from_ : Int) (to : Int) (hfrom_ : 0 ≤ from_ ∧ from_ ≤ 5000) (hto : 0 ≤ to ∧ to ≤ 5000) (hts : S.2.2 876 4 = some ts) (htp : tp ts) (hby : BYT S ts) (hft : from_ ≤ to ∧ to ≤ from_ + 121) (hc6 : 0 ≤ Xi S 876 6 ∧ Xi S 876 6 ≤ 5005) (d : Nat) : Mp lay0 (d + 3) m_to_takeInside [.ref 876, iv from_, iv to] S (Q_to_takeInside__p S ts from_ to) := by sorry
def md_bo_addInsert__p : List rec := [(246, 247, 8, 9), (274, 275, 0, 100000), (275, 276, 0, 100000)]
abbrev Q_bo_addInsert__p (S : sS) (thing : Int) (prop : Int) : pst := fun r S1 => RI S1 ∧ FR md_bo_addInsert__p S S1 ∧ (r = none ∧ (IAO S S1 thing prop))
set_option maxRecDepth 100000 in
theorem t_bo_addInsert__p {S : sS} (hH : RI S) (thing : Int) (prop : Int) (hthing : -2147483648 ≤ thing ∧ thing ≤ 2147483647) (hprop : -2147483648 ≤ prop ∧ prop ≤ 2147483647) (hi8 : 0 ≤ Xi S 246 8) (d : Nat) : Mp lay0 (d + 1) m_bo_addInsert [.ref 246, iv thing, iv prop] S (Q_bo_addInsert__p S thing prop) := by sorry
end
section
/-! rules of the class: what stands in [ ] -/
noncomputable def inT (T : sS) (c : Int) : Int := @ite Int (bpP T c) (Classical.propDecidable _) (re7 (ty7 T) (c + 1) + 1) c
noncomputable def inP (T : sS) (c : Int) : Int := @ite Int (bpP T c) (Classical.propDecidable _) (fnd T 5 (c + 1) (re7 (ty7 T) (c + 1))) (-1)
def inOK (T : sS) (c : Int) : Prop := wheC T (inT T c) (Xi T 876 7 - 1) = Xi T 876 7 - 1 ∧ whoC T (inT T c) (Xi T 876 7 - 1) ≠ -1 ∧ (bpP T c → fnd T 5 (c + 1) (re7 (ty7 T) (c + 1)) ≠ -1 ∧ iandF (ishrF (pps T (whkC T (inT T c) (Xi T 876 7 - 1))) (fnd T 5 (c + 1) (re7 (ty7 T) (c + 1)))) 1 ≠ 0)
def KIN (T U : sS) : Prop := Xi U 246 8 = Xi T 246 8 ∧ ∀ j, Xi U 274 j = Xi T 274 j ∧ Xi U 275 j = Xi T 275 j
def INA (T S1 : sS) (c z : Int) : Prop := (¬ inOK T c → z = 0 ∧ KIN T S1) ∧ (inOK T c → z = 1 ∧ ∃ U : sS, KIN T U ∧ IAO U S1 (whoC T (inT T c) (Xi T 876 7 - 1)) (inP T c))
def INO (S S1 : sS) (ts : Nat) (a to z : Int) : Prop := ∃ (T : sS) (c : Int), TIO S T ts a to c ∧ FR md_to_takeInside__p S T ∧ (c = -1 → z = 0 ∧ S1 = T) ∧ (c ≠ -1 → INA T S1 c z)
theorem KIN.rf {T : sS} : KIN T T := by sorry
theorem kin_F {l : List rec} {T U : sS} (h : FR l T U) (e : kdis l [(274, 276)] = true) (e8 : mdf l 246 8 = false) : KIN T U := by sorry
theorem inT_y {T : sS} {c : Int} (h : bpP T c) : inT T c = re7 (ty7 T) (c + 1) + 1 := by sorry
theorem inT_n {T : sS} {c : Int} (h : ¬ bpP T c) : inT T c = c := by sorry
theorem inP_y {T : sS} {c : Int} (h : bpP T c) : inP T c = fnd T 5 (c + 1) (re7 (ty7 T) (c + 1)) := by sorry
theorem inP_n {T : sS} {c : Int} (h : ¬ bpP T c) : inP T c = -1 := by sorry
theorem ino_b {S T : sS} {ts : Nat} {a to z c : Int} (t : TIO S T ts a to c) (f : FR md_to_takeInside__p S T) (hc : c = -1) (hz : z = 0) : INO S T ts a to z := by sorry
theorem ino_n {S T U : sS} {ts : Nat} {a to z c : Int} (t : TIO S T ts a to c) (f : FR md_to_takeInside__p S T) (hc : c ≠ -1) (hz : z = 0) (k : KIN T U) (n : ¬ inOK T c) : INO S U ts a to z := by sorry
theorem ino_y {S T U V : sS} {ts : Nat} {a to z c w p : Int} (t : TIO S T ts a to c) (f : FR md_to_takeInside__p S T) (hc : c ≠ -1) (hz : z = 1) (k : KIN T U) (n : inOK T c) (hw : w = whoC T (inT T c) (Xi T 876 7 - 1)) (hp : p = inP T c) (i : IAO U V w p) : INO S V ts a to z := by sorry
theorem kr_F {l : List rec} {S T U : sS} {n : Int} (h : FR l T U) (e : kdis l [(877, 880)] = true) (k : KR S T n) : KR S U n := by sorry
theorem plh_F {l : List rec} {S T U : sS} (h : FR l T U) (e : kdis l [(877, 880)] = true) (k : PLH S T) : PLH S U := by sorry
def RWW (S T : sS) : Prop := ∀ r : Nat, Xi S 876 6 ≤ r → (r : Int) < Xi T 876 7 → Xi T 877 r ≤ 100 ∨ Xi T 877 r = 107
theorem rww_F {l : List rec} {S T U : sS} (h : FR l T U) (e : kdis l [(877, 880)] = true) (e7 : mdf l 876 7 = false) (k : RWW S T) : RWW S U := by sorry
theorem tio_rw {S T : sS} {ts : Nat} {a to z : Int} (h : TIO S T ts a to z) (h0 : 0 ≤ Xi S 876 6) (hz : z ≠ -1) : RWW S T := by sorry
theorem iao_8 {S T : sS} {a b : Int} (h : IAO S T a b) (h0 : 0 ≤ Xi S 246 8) : 0 ≤ Xi T 246 8 := by sorry
theorem ino_eq {S T : sS} {ts : Nat} {a b z w : Int} (h : INO S T ts a b z) (e : z = w) : INO S T ts a b w := by sorry
def md_rr_insert__p : List rec := [(246, 247, 8, 9), (274, 275, 0, 100000), (275, 276, 0, 100000), (876, 877, 7, 8), (877, 878, 0, 100000), (878, 879, 0, 100000), (879, 880, 0, 100000), (895, 896, 5, 6), (895, 896, 6, 7), (895, 896, 7, 8)]
abbrev Q_rr_insert__p (S : sS) (ts : Nat) (from_ : Int) (to : Int) : pst := fun r S1 => RI S1 ∧ FR md_rr_insert__p S S1 ∧ (∃ z : Int, r = some (iv z) ∧ (0 ≤ z ∧ z ≤ 1) ∧ (INO S S1 ts from_ to z) ∧ (KR S S1 (Xi S 876 6)) ∧ (Xi S 876 6 ≤ Xi S1 876 7 ∧ Xi S1 876 7 ≤ Xi S 876 6 + (to - from_) + 1) ∧ (PLH S S1) ∧ (z = 1 → RWW S S1) ∧ (0 ≤ Xi S1 246 8))
set_option maxRecDepth 100000 in
theorem t_rr_insert__p {S : sS} (hH : RI S) (ts : Nat) (from_ : Int) (to : Int) (hfrom_ : 0 ≤ from_ ∧ from_ ≤ 5000) (hto : 0 ≤ to ∧ to ≤ 5000) (hts : S.2.2 876 4 = some ts) (htp : tp ts) (h13 : 0 ≤ Xi S 1 3 ∧ Xi S 1 3 ≤ 200) (hCE : CEN S) (hby : BYT S ts) (hft : from_ ≤ to ∧ to ≤ from_ + 121) (hc6 : 0 ≤ Xi S 876 6 ∧ Xi S 876 6 ≤ 5005) (hi8 : 0 ≤ Xi S 246 8) (d : Nat) : Mp lay0 (d + 4) m_rr_insert [.ref 899, iv from_, iv to] S (Q_rr_insert__p S ts from_ to) := by sorry
end
end
section
section
/-! rules of the class: say -/
def brF (B : Nat → Int) (f : Int) : Nat → Option (Int × List (Int × Int))
  | 0 => some (-1, [])
  | n + 1 => match brF B f n with
    | none => none
    | some (o, L) => if B (f + n).toNat = 91 then (if o = -1 then some (f + n, L) else none) else if B (f + n).toNat = 93 then (if o = -1 then none else some (-1, (o, f + n) :: L)) else some (o, L)
theorem brF_1 {B : Nat → Int} {f o : Int} {n : Nat} {L : List (Int × Int)} (h : brF B f n = some (o, L)) : brF B f (n + 1) = (if B (f + n).toNat = 91 then (if o = -1 then some (f + n, L) else none) else if B (f + n).toNat = 93 then (if o = -1 then none else some (-1, (o, f + n) :: L)) else some (o, L)) := by sorry
theorem brF_0 {B : Nat → Int} {f : Int} {n : Nat} (h : brF B f n = none) : brF B f (n + 1) = none := by sorry
theorem br_m {B : Nat → Int} {f : Int} {n : Nat} (h : brF B f n = none) : ∀ d : Nat, brF B f (n + d) = none := by sorry
theorem br_o {B : Nat → Int} {f o p : Int} {L : List (Int × Int)} (h : brF B f (p - f).toNat = some (o, L)) (hp : f ≤ p) (ho : o = -1) (hb : B p.toNat = 91) : brF B f (p + 1 - f).toNat = some (p, L) := by sorry
theorem brk_c {B : Nat → Int} {f o p : Int} {L : List (Int × Int)} (h : brF B f (p - f).toNat = some (o, L)) (hp : f ≤ p) (ho : o ≠ -1) (hb : B p.toNat = 93) : brF B f (p + 1 - f).toNat = some (-1, (o, p) :: L) := by sorry
theorem br_k {B : Nat → Int} {f o p : Int} {L : List (Int × Int)} (h : brF B f (p - f).toNat = some (o, L)) (hp : f ≤ p) (h1 : B p.toNat ≠ 91) (h2 : B p.toNat ≠ 93) : brF B f (p + 1 - f).toNat = some (o, L) := by sorry
theorem br_x {B : Nat → Int} {f o p : Int} {n : Nat} {L : List (Int × Int)} (h : brF B f (p - f).toNat = some (o, L)) (hp : f ≤ p) (hn : p < f + n) (hb : (B p.toNat = 91 ∧ o ≠ -1) ∨ (B p.toNat = 93 ∧ o = -1)) : brF B f n = none := by sorry
def ICH (S : sS) (ts : Nat) : List (Int × Int) → sS → Prop
  | [], T => T = S
  | (o, q) :: L, T => ∃ W : sS, ICH S ts L W ∧ FR md_rr_insert__p W T ∧ INO W T ts (o + 1) q 1
def syW (S : sS) (cl : Nat) (row : Int) : sS := uI (uI (uI (uI S (276 + cl) 0 (Int32.ofInt 7)) (276 + cl) 3 (Int32.ofInt (Xi S 246 8))) (276 + cl) 4 (Int32.ofInt (pc7 S row + 1))) (276 + cl) 5 (Int32.ofInt (Xj S 879 row.toNat))
theorem syW_of {S A B C D : sS} {cl : Nat} {row a b c : Int} (e1 : A = uI S (276 + cl) 0 (Int32.ofInt 7)) (e2 : B = uI A (276 + cl) 3 (Int32.ofInt a)) (e3 : C = uI B (276 + cl) 4 (Int32.ofInt b)) (e4 : D = uI C (276 + cl) 5 (Int32.ofInt c)) (ha : a = Xi S 246 8) (hb : b = pc7 S row + 1) (hc : c = Xj S 879 row.toNat) : D = syW S cl row := by sorry
def ROK (S T : sS) : Prop := (Xi T 876 7 = Xi S 876 7 ∧ ∀ r, Xi T 877 r = Xi S 877 r ∧ Xi T 878 r = Xi S 878 r ∧ Xj T 879 r = Xj S 879 r) ∨ RWW S T
def SYL (S T : sS) (ts cl : Nat) (row p o : Int) : Prop := ∃ L : List (Int × Int), brF (Xi S ts) (pc7 S row + 1) (p - (pc7 S row + 1)).toNat = some (o, L) ∧ ICH (syW S cl row) ts L T ∧ KR S T (Xi S 876 6) ∧ PLH S T ∧ KCL S T cl ∧ CLM T cl 7 0 (-1) (Xi S 246 8) (pc7 S row + 1) (Xj S 879 row.toNat) (-1) ∧ ROK S T
theorem syl_0 {S T : sS} {ts cl : Nat} {row p : Int} (e : T = syW S cl row) (hp : p = pc7 S row + 1) (hcl : cl < 600) (c : CLM S cl 11 0 (-1) (-1) 0 0 (-1)) (r1 : rg (Xi S 246 8)) (r2 : rg (pc7 S row + 1)) (r3 : rg (Xj S 879 row.toNat)) : SYL S T ts cl row p (-1) := by sorry
theorem syl_o {S T : sS} {ts cl : Nat} {row p o : Int} (h : SYL S T ts cl row p o) (hp : pc7 S row + 1 ≤ p) (ho : o = -1) (hb : Xi S ts p.toNat = 91) : SYL S T ts cl row (p + 1) p := by sorry
theorem syl_k {S T : sS} {ts cl : Nat} {row p o : Int} (h : SYL S T ts cl row p o) (hp : pc7 S row + 1 ≤ p) (h1 : Xi S ts p.toNat ≠ 91) (h2 : Xi S ts p.toNat ≠ 93) : SYL S T ts cl row (p + 1) o := by sorry
theorem syl_c {S W T : sS} {ts cl : Nat} {row p o : Int} (h : SYL S W ts cl row p o) (hp : pc7 S row + 1 ≤ p) (ho : o ≠ -1) (hb : Xi S ts p.toNat = 93) (hcl : cl < 600) (f : FR md_rr_insert__p W T) (i : INO W T ts (o + 1) p 1) (k : KR W T (Xi W 876 6)) (e6 : Xi W 876 6 = Xi S 876 6) (pl : PLH W T) (rw_ : RWW W T) : SYL S T ts cl row (p + 1) (-1) := by sorry
def SYX (S : sS) (ts cl : Nat) (row : Int) : Prop := brF (Xi S ts) (pc7 S row + 1) (Xj S 879 row.toNat).toNat = none ∨ (∃ (o : Int) (L : List (Int × Int)), brF (Xi S ts) (pc7 S row + 1) (Xj S 879 row.toNat).toNat = some (o, L) ∧ o ≠ -1) ∨
  (∃ (p o : Int) (L : List (Int × Int)) (W W1 : sS), pc7 S row + 1 ≤ p ∧ p < pc7 S row + 1 + Xj S 879 row.toNat ∧ brF (Xi S ts) (pc7 S row + 1) (p - (pc7 S row + 1)).toNat = some (o, L) ∧ o ≠ -1 ∧ Xi S ts p.toNat = 93 ∧ ICH (syW S cl row) ts L W ∧ INO W W1 ts (o + 1) p 0)
def SYT (S S1 : sS) (ts cl : Nat) (row z : Int) : Prop := (z = 1 → Xi S1 876 8 = 0 ∧ SYL S S1 ts cl row (pc7 S row + 1 + Xj S 879 row.toNat) (-1)) ∧ (z = 0 → FTO S S1 8 row ∧ SYX S ts cl row)
theorem syt_y {S T : sS} {ts cl : Nat} {row p o z : Int} (h : SYL S T ts cl row p o) (hp : p = pc7 S row + 1 + Xj S 879 row.toNat) (ho : o = -1) (hz : z = 1) (hf : Xi T 876 8 = 0) : SYT S T ts cl row z := by sorry
theorem syt_o {S T U : sS} {ts cl : Nat} {row p o z : Int} (h : SYL S T ts cl row p o) (hp : p = pc7 S row + 1 + Xj S 879 row.toNat) (ho : o ≠ -1) (hz : z = 0) (hf : FTO S U 8 row) : SYT S U ts cl row z := by sorry
theorem syt_x {S T U : sS} {ts cl : Nat} {row p o z : Int} (h : SYL S T ts cl row p o) (hp : pc7 S row + 1 ≤ p) (hq : p < pc7 S row + 1 + Xj S 879 row.toNat) (hb : (Xi S ts p.toNat = 91 ∧ o ≠ -1) ∨ (Xi S ts p.toNat = 93 ∧ o = -1)) (hz : z = 0) (hf : FTO S U 8 row) : SYT S U ts cl row z := by sorry
theorem syt_i {S T T1 U : sS} {ts cl : Nat} {row p o z : Int} (h : SYL S T ts cl row p o) (hp : pc7 S row + 1 ≤ p) (hq : p < pc7 S row + 1 + Xj S 879 row.toNat) (ho : o ≠ -1) (hb : Xi S ts p.toNat = 93) (i : INO T T1 ts (o + 1) p 0) (hz : z = 0) (hf : FTO S U 8 row) : SYT S U ts cl row z := by sorry
theorem pc_kr {S T : sS} {n r : Int} (k : KR S T n) (h0 : 0 ≤ r) (h : r < n) (a : n ≤ Xi S 876 7) (b : n ≤ Xi T 876 7) : pc7 T r = pc7 S r := by sorry
def md_rr_sayText__p : List rec := [(246, 247, 8, 9), (274, 275, 0, 100000), (275, 276, 0, 100000), (276, 876, 0, 1), (276, 876, 3, 4), (276, 876, 4, 5), (276, 876, 5, 6), (876, 877, 7, 8), (876, 877, 8, 9), (876, 877, 9, 10), (877, 878, 0, 100000), (878, 879, 0, 100000), (879, 880, 0, 100000), (895, 896, 5, 6), (895, 896, 6, 7), (895, 896, 7, 8)]
abbrev Q_rr_sayText__p (S : sS) (ts : Nat) (row : Int) (cl : Nat) : pst := fun r S1 => RI S1 ∧ FR md_rr_sayText__p S S1 ∧ (∃ z : Int, r = some (iv z) ∧ (0 ≤ z ∧ z ≤ 1) ∧ (SYT S S1 ts cl row z) ∧ (0 ≤ Xi S1 246 8) ∧ (Xi S 876 6 ≤ Xi S1 876 7 ∧ Xi S1 876 7 ≤ 5130))
set_option maxRecDepth 100000 in
theorem t_rr_sayText__p {S : sS} (hH : RI S) (ts : Nat) (row : Int) (cl : Nat) (hrow : 0 ≤ row ∧ row ≤ 5130) (hcl : cl < 600) (hts : S.2.2 876 4 = some ts) (htp : tp ts) (h13 : 0 ≤ Xi S 1 3 ∧ Xi S 1 3 ≤ 200) (hCE : CEN S) (hf : Xi S 876 8 = 0) (hr : Xi S 876 7 ≤ 5130) (hby : BYT S ts) (hT : TOK S) (hpl : Hid (∀ j : Nat, 0 ≤ Xi S 878 j)) (h5 : Xi S 876 5 ≤ 5000) (hty : ty7 S row = 102) (hc6 : 0 ≤ Xi S 876 6 ∧ Xi S 876 6 ≤ 5005) (hc7 : Xi S 876 6 ≤ Xi S 876 7) (hrc : row < Xi S 876 6) (hi8 : 0 ≤ Xi S 246 8) (hclm : Hid (CLM S cl 11 0 (-1) (-1) 0 0 (-1))) (d : Nat) : Mp lay0 (d + 5) m_rr_sayText [.ref 899, iv row, .ref (276 + cl)] S (Q_rr_sayText__p S ts row cl) := by sorry
end
section
/-! rules of the class: PHRASES -/
def pP7 (S : sS) (a : Int) : Nat → Int
  | 0 => a
  | k + 1 => te8 (ty7 S) 1 (pP7 S a k) + 1
def eP7 (S : sS) (a : Int) (k : Nat) : Int := te8 (ty7 S) 1 (pP7 S a k)
/-- the sentence's rows stay, what lies behind them may change -/
def AGU (S T : sS) : Prop := KR S T (Xi S 876 6) ∧ (Xi S 876 6 ≤ Xi T 876 7 ∧ Xi T 876 7 ≤ 5130) ∧ TOK T ∧ NVL T ∧ (∀ j : Nat, 0 ≤ Xi T 878 j) ∧ 0 ≤ Xi T 246 8
theorem agu_F {l : List rec} {S T U : sS} (h : FR l T U) (e : kdis l [(877, 880)] = true) (e7 : mdf l 876 7 = false) (e5 : mdf l 876 5 = false) (e8 : mdf l 246 8 = false) (g : AGU S T) : AGU S U := by sorry
theorem agu_w {S T U : sS} {x j : Nat} {v : Int} (e : U = uI T x j (Int32.ofInt v)) (hx : x < 876 ∨ 880 ≤ x) (h8 : x ≠ 246 ∨ j ≠ 8) (g : AGU S T) : AGU S U := by sorry
theorem agu_s {S A B : sS} {ts cl : Nat} {row p o : Int} (h : SYL A B ts cl row p o) (g : AGU S A) (e6 : Xi A 876 6 = Xi S 876 6) (e5 : Xi B 876 5 = Xi A 876 5) (n : Xi A 876 6 ≤ Xi B 876 7 ∧ Xi B 876 7 ≤ 5130) (i : 0 ≤ Xi B 246 8) : AGU S B := by sorry
theorem agu_t {S T : sS} (g : AGU S T) (h : Xi S 876 6 ≤ Xi S 876 7) {i : Int} (h0 : 0 ≤ i) (h1 : i < Xi S 876 6) : ty7 T i = ty7 S i := by sorry
theorem te8F_ge {T : Int → Int} {now : Int} : ∀ (n : Nat) (p : Int), p ≤ te8F T now n p := by sorry
theorem te8F_cg {T U : Int → Int} {now : Int} : ∀ (n : Nat) (p : Int), (∀ i, p ≤ i → i ≤ te8F T now n p → U i = T i) → te8F U now n p = te8F T now n p := by sorry
theorem agu_e {S T : sS} (g : AGU S T) (h : Xi S 876 6 ≤ Xi S 876 7) {p now : Int} (h0 : 0 ≤ p) (h1 : te8 (ty7 S) now p < Xi S 876 6) : te8 (ty7 T) now p = te8 (ty7 S) now p := by sorry
/-- where phrases lie -/
def PHB (T : sS) (key p e : Int) : Prop := (key = 43 → ty7 T (p + 1) = 102 ∧ p + 1 < Xi T 876 6) ∧ (key = 44 → p + 1 ≤ e ∧ (isP T (p + 1) e = -1 ∨ (0 ≤ isP T (p + 1) e ∧ isP T (p + 1) e ≤ 5110)) ∧ (numT T (isP T (p + 1) e) = 1 → isP T (p + 1) e + 3 < Xi T 876 7 ∧ 0 ≤ Xj T 879 (isP T (p + 1) e + 3).toNat ∧ Xj T 879 (isP T (p + 1) e + 3).toNat ≤ 2147483647)) ∧ (key = 45 → wheC T (p + 1) e ≤ 5139) ∧ (key = 46 ∨ key = 47 → 0 ≤ e - 1 ∧ e - 1 < Xi T 876 7 ∧ 0 ≤ Xj T 879 (e - 1).toNat ∧ Xj T 879 (e - 1).toNat ≤ 2147483647)
def PPQ (S : sS) (a : Int) : Prop := ∀ k : Nat, k ≤ 7 → (∀ j : Nat, j < k → ty7 S (eP7 S a j) = 105) → (0 ≤ pP7 S a k ∧ pP7 S a k ≤ eP7 S a k ∧ eP7 S a k < Xi S 876 6 ∧ eP7 S a k ≤ 5100) ∧ (0 ≤ ty7 S (pP7 S a k) ∧ ty7 S (pP7 S a k) ≤ 108) ∧ ∀ T : sS, AGU S T → Xi T 876 6 = Xi S 876 6 → PHB T (ty7 S (pP7 S a k)) (pP7 S a k) (eP7 S a k)
/-- what a phrase may change -/
def lPX : List rec := [(246, 247, 8, 9), (274, 275, 0, 100000), (275, 276, 0, 100000), (276, 876, 0, 1), (276, 876, 1, 2), (276, 876, 2, 3), (276, 876, 3, 4), (276, 876, 4, 5), (276, 876, 5, 6), (276, 876, 6, 7), (876, 877, 7, 8), (876, 877, 8, 9), (876, 877, 9, 10), (877, 878, 0, 100000), (878, 879, 0, 100000), (879, 880, 0, 100000), (895, 896, 5, 6), (895, 896, 6, 7), (895, 896, 7, 8), (895, 896, 8, 9), (895, 896, 9, 10), (895, 896, 10, 11), (895, 896, 11, 12)]
def PHX (A B : sS) (ts cl : Nat) (key p e z : Int) : Prop := (key = 43 → SYT A B ts cl (p + 1) z) ∧ (key = 44 → TSO A B cl (p + 1) e 1 z) ∧ (key ≠ 43 → key ≠ 44 → OPO A B cl key (p + 1) e z) ∧ FR lPX A B ∧ (key ≠ 43 → KIN A B)
def NXC (W A : sS) : Prop := FR md_bo_nextClause__p W A ∧ Xi A 246 5 = Xi W 246 5 + 1 ∧ KCL W A (Xi W 246 5).toNat ∧ CLM A (Xi W 246 5).toNat 11 0 (-1) (-1) 0 0 (-1)
theorem nxc_of {W A : sS} {z : Nat} (f : FR md_bo_nextClause__p W A) (p : Xi A 246 5 = Xi W 246 5 + 1) (q : (z : Int) = Xi W 246 5) (k : KCL W A z) (c : CLM A z 11 0 (-1) (-1) 0 0 (-1)) : NXC W A := by sorry
def PHC (l : List rec) (S : sS) (ru ts : Nat) : Nat → sS → Prop
  | 0, T => T = S
  | n + 1, T => ∃ W A B : sS, PHC l S ru ts n W ∧ NXC W A ∧ AGU S A ∧ FR l S A ∧ PHX A B ts (Xi W 246 5).toNat (ty7 S (pP7 S (Xi S 899 5 + 1) n)) (pP7 S (Xi S 899 5 + 1) n) (eP7 S (Xi S 899 5 + 1) n) 1 ∧ FR l S B ∧ T = uI B (248 + ru) 6 (Int32.ofInt (n + 1))
def RPO (l : List rec) (S S1 : sS) (ru ts : Nat) (z : Int) : Prop :=
  (z = 1 → ∃ (n : Nat) (T : sS), 0 < n ∧ n ≤ 8 ∧ PHC l S ru ts n T ∧ (∀ j : Nat, j + 1 < n → ty7 S (eP7 S (Xi S 899 5 + 1) j) = 105) ∧ ty7 S (eP7 S (Xi S 899 5 + 1) (n - 1)) ≠ 105 ∧ S1 = uI (uI T (248 + ru) 5 (Int32.ofInt (Xi S 899 6))) 246 2 (Int32.ofInt (Xi S 246 2 + 1)) ∧ Xi S1 876 8 = 0) ∧
  (z = 0 → ∃ (n : Nat) (W : sS), n ≤ 8 ∧ PHC l S ru ts n W ∧ (∀ j : Nat, j < n → ty7 S (eP7 S (Xi S 899 5 + 1) j) = 105) ∧ ((n = 8 ∧ FTO W S1 9 (pP7 S (Xi S 899 5 + 1) 8) ∧ AGU S W) ∨ (n < 8 ∧ ∃ A : sS, NXC W A ∧ AGU S A ∧ FR l S A ∧ PHX A S1 ts (Xi W 246 5).toNat (ty7 S (pP7 S (Xi S 899 5 + 1) n)) (pP7 S (Xi S 899 5 + 1) n) (eP7 S (Xi S 899 5 + 1) n) 0)))
theorem kin_G {l : List rec} {A B : sS} (F : FR l A B) (e1 : mdf l 246 8 = false) (e2 : kdis l [(274, 276)] = true) : KIN A B := by sorry
theorem phx_s {A B : sS} {ts cl cm : Nat} {key p e z k q : Int} (hk : k = key) (hc : cl = cm) (h : SYT A B ts cl q z) (hp : q = p + 1) (hy : key = 43) (F : FR md_rr_sayText__p A B) : PHX A B ts cm k p e z := by sorry
theorem phx_n {A B : sS} {ts cl cm : Nat} {key p e z k q f : Int} (hk : k = key) (hc : cl = cm) (h : TSO A B cl q f 1 z) (hp : q = p + 1) (he : f = e) (hy : key = 44) (F : FR md_rr_test__p A B) : PHX A B ts cm k p e z := by sorry
theorem phx_o {A B : sS} {ts cl cm : Nat} {key p e z k q f : Int} (hk : k = key) (hc : cl = cm) (h : OPO A B cl key q f z) (hp : q = p + 1) (he : f = e) (h3 : key ≠ 43) (h4 : key ≠ 44) (F : FR md_rr_otherPhrase__p A B) : PHX A B ts cm k p e z := by sorry
theorem rpo_9 {l : List rec} {S W S1 : sS} {ru ts n : Nat} {z : Int} (hz : z = 0) (hn : n = 8) (c : PHC l S ru ts n W) (m : ∀ j : Nat, j < n → ty7 S (eP7 S (Xi S 899 5 + 1) j) = 105) {q : Int} (hq : q = pP7 S (Xi S 899 5 + 1) n) (f : FTO W S1 9 q) (g : AGU S W) : RPO l S S1 ru ts z := by sorry
theorem rpo_n {l : List rec} {S W A S1 : sS} {ru ts n : Nat} {z w : Int} (hz : z = 0) (hn : n < 8) (c : PHC l S ru ts n W) (m : ∀ j : Nat, j < n → ty7 S (eP7 S (Xi S 899 5 + 1) j) = 105) (x : NXC W A) (g : AGU S A) (f : FR l S A) (hw : w = 0) (p : PHX A S1 ts (Xi W 246 5).toNat (ty7 S (pP7 S (Xi S 899 5 + 1) n)) (pP7 S (Xi S 899 5 + 1) n) (eP7 S (Xi S 899 5 + 1) n) w) : RPO l S S1 ru ts z := by sorry
theorem rpo_y {l : List rec} {S T U S1 : sS} {ru ts n : Nat} {z a b : Int} (hz : z = 1) (h0 : 0 < n) (hn : n ≤ 8) (c : PHC l S ru ts n T) (m : ∀ j : Nat, j + 1 < n → ty7 S (eP7 S (Xi S 899 5 + 1) j) = 105) (x : ty7 S (eP7 S (Xi S 899 5 + 1) (n - 1)) ≠ 105) (e1 : U = uI T (248 + ru) 5 (Int32.ofInt a)) (e2 : S1 = uI U 246 2 (Int32.ofInt b)) (ha : a = Xi S 899 6) (hb : b = Xi S 246 2 + 1) (f : Xi S1 876 8 = 0) : RPO l S S1 ru ts z := by sorry
theorem phx_8 {A B : sS} {ts cl : Nat} {key p e z : Int} (h : PHX A B ts cl key p e z) (hz : z = 1) (f : Xi A 876 8 = 0) : Xi B 876 8 = 0 := by sorry
def md_rr_rulePhrases__p : List rec := [(246, 247, 2, 3), (246, 247, 5, 6), (246, 247, 8, 9), (248, 272, 0, 100000), (274, 275, 0, 100000), (275, 276, 0, 100000), (276, 876, 0, 1), (276, 876, 1, 2), (276, 876, 2, 3), (276, 876, 3, 4), (276, 876, 4, 5), (276, 876, 5, 6), (276, 876, 6, 7), (876, 877, 7, 8), (876, 877, 8, 9), (876, 877, 9, 10), (877, 878, 0, 100000), (878, 879, 0, 100000), (879, 880, 0, 100000), (895, 896, 5, 6), (895, 896, 6, 7), (895, 896, 7, 8), (895, 896, 8, 9), (895, 896, 9, 10), (895, 896, 10, 11), (895, 896, 11, 12)]
abbrev Q_rr_rulePhrases__p (S : sS) (ru : Nat) (ts : Nat) : pst := fun r S1 => RI S1 ∧ FR md_rr_rulePhrases__p S S1 ∧ (∃ z : Int, r = some (iv z) ∧ (0 ≤ z ∧ z ≤ 1) ∧ (RPO md_rr_rulePhrases__p S S1 ru ts z))
set_option maxRecDepth 100000 in
theorem t_rr_rulePhrases__p {S : sS} (hH : RI S) (ru : Nat) (ts : Nat) (hts : S.2.2 876 4 = some ts) (htp : tp ts) (hru : S.2.2 899 4 = some (248 + ru)) (hrk : ru < 24) (h13 : 0 ≤ Xi S 1 3 ∧ Xi S 1 3 ≤ 200) (hCE : CEN S) (hf : Xi S 876 8 = 0) (hr : Xi S 876 7 ≤ 5130) (hby : BYT S ts) (h7 : 0 ≤ Xi S 876 7) (hT : TOK S) (hS : SRX S) (hnv : Hid (NVL S)) (hpl : Hid (∀ j : Nat, 0 ≤ Xi S 878 j)) (h5 : Xi S 876 5 ≤ 5000) (hc6 : 0 ≤ Xi S 876 6 ∧ Xi S 876 6 ≤ 5005) (hc7 : Xi S 876 6 ≤ Xi S 876 7) (hi8 : 0 ≤ Xi S 246 8) (hcc : 0 ≤ Xi S 246 5 ∧ Xi S 246 5 + 8 ≤ 600) (h2r : 0 ≤ Xi S 246 2 ∧ Xi S 246 2 ≤ 24) (h99 : 0 ≤ Xi S 899 5 ∧ Xi S 899 5 ≤ 5140) (hpq : Hid (PPQ S (Xi S 899 5 + 1))) (d : Nat) : Mp lay0 (d + 6) m_rr_rulePhrases [.ref 899] S (Q_rr_rulePhrases__p S ru ts) := by sorry
end
end
section
section
/-! rules of the reference: what stands in [ ] -/
def kyr (S : sS) (w : Int) : Int := if ky7 (Xj S 911) w (-1) = -1 then 3 else 100 + ky7 (Xj S 911) w (-1)
def ikR (S : sS) (i : Int) : Int := kyr S (Xj S 994 i.toNat)
def icr (S : sS) (x : Int × Int) : Int := c32 (Xi S 906) x.1.toNat (x.2 - x.1).toNat
def RIW (S T : sS) (L : List (Int × Int)) : Prop := Xi T 904 160 = L.length ∧ ∀ i : Nat, i < L.length → Xj T 994 i = icr S (L.getD i (0, 0))
def RWL (S T : sS) (a e p : Int) : Prop := ∃ L : List (Int × Int), WLp (Xi S 906) e a L p ∧ RIW S T L
def RWO (S S1 : sS) (a e z : Int) : Prop := (z = -1 → ∃ (L : List (Int × Int)) (p : Int), WLp (Xi S 906) e a L p ∧ (p = e ∨ (p < e ∧ Xi S 906 p.toNat ≠ 32 ∧ Xi S 906 p.toNat ≠ 93 ∧ (we7 (Xi S 906) e p = p ∨ 12 < we7 (Xi S 906) e p - p ∨ L.length = 64)))) ∧
  (z ≠ -1 → ∃ L : List (Int × Int), WLp (Xi S 906) e a L (z - 1) ∧ z - 1 < e ∧ Xi S 906 (z - 1).toNat = 93 ∧ RIW S S1 L)
theorem rwl_0 {S T : sS} {a e : Int} (h : a ≤ e) (q : T = uI S 904 160 (Int32.ofInt 0)) : RWL S T a e a := by sorry
theorem rwl_b {S T : sS} {a e p : Int} (h : RWL S T a e p) (hp : p < e) (hb : Xi S 906 p.toNat = 32) : RWL S T a e (p + 1) := by sorry
theorem rwl_w {S T P U : sS} {a e p q w : Int} (h : RWL S T a e p) (hp : p < e) (hb : Xi S 906 p.toNat ≠ 32) (hq : q = we7 (Xi S 906) e p) (hn : q ≠ p) (h12 : q - p ≤ 12) (he : q ≤ e) (hw : w = c32 (Xi S 906) p.toNat (q - p).toNat) (hr : rgL w) (hi : 0 ≤ Xi T 904 160 ∧ Xi T 904 160 ≤ 64) (e1 : P = uJ T 994 (Xi T 904 160).toNat (Int64.ofInt w)) (e2 : U = uI P 904 160 (Int32.ofInt (Xi T 904 160 + 1))) : RWL S U a e q := by sorry
theorem rwl_e {S T : sS} {a e p z : Int} (h : RWL S T a e p) (hp : p = e) (hz : z = -1) : RWO S T a e z := by sorry
theorem rwl_x {S T : sS} {a e p q z : Int} (h : RWL S T a e p) (hp : p < e) (hb : Xi S 906 p.toNat ≠ 32) (hc : Xi S 906 p.toNat ≠ 93) (hq : q = we7 (Xi S 906) e p) (hx : q = p ∨ 12 < q - p ∨ Xi T 904 160 = 64) (hz : z = -1) : RWO S T a e z := by sorry
theorem rwl_y {S T : sS} {a e p z : Int} (h : RWL S T a e p) (hp : p < e) (hb : Xi S 906 p.toNat = 93) (hz : z = p + 1) (hn : z ≠ -1) : RWO S T a e z := by sorry
def frK (S : sS) (a n : Int) : Prop := ∀ j : Int, 0 ≤ j → j < n → ikR S (a + j) = 3
noncomputable def fiR (S : sS) (a n : Int) : Int := @ite Int (frK S a n ∧ 1 ≤ n ∧ n ≤ 3) (Classical.propDecidable _) (fdR S (Xj S 994 a.toNat) (if 1 < n then Xj S 994 (a + 1).toNat else 0) (if 2 < n then Xj S 994 (a + 2).toNat else 0) n (Xi S 904 15).toNat) (-1)
theorem fiR_l {S : sS} {v a n : Int} (h15 : 0 ≤ Xi S 904 15) (e : v = fiR S a n) (h : v ≠ -1) : ((v.toNat : Nat) : Int) < Xi S 904 15 := by sorry
theorem fiR_n {S : sS} {a n : Int} (h : ¬ (frK S a n ∧ 1 ≤ n ∧ n ≤ 3)) : fiR S a n = -1 := by sorry
theorem fiR_y {S : sS} {a n x y w : Int} (h : frK S a n) (hn : 1 ≤ n ∧ n ≤ 3) (hx : x = Xj S 994 a.toNat) (hy : y = (if 1 < n then Xj S 994 (a + 1).toNat else 0)) (hw : w = (if 2 < n then Xj S 994 (a + 2).toNat else 0)) : fiR S a n = fdR S x y w n (Xi S 904 15).toNat := by sorry
/-- THING in [ ], when nothing is written -/
noncomputable def itR (S : sS) (a : Int) : Int := if 0 < Xi S 904 160 - a ∧ ikR S (Xi S 904 160 - 1) = 153 then (if (Xi S 904 160 - a = 1 ∨ (Xi S 904 160 - a = 2 ∧ ikR S a = 102)) ∧ Xi S 904 116 ≠ -1 then -2 else -9) else
  (if fiR S (if 0 < Xi S 904 160 - a ∧ 100 ≤ ikR S a ∧ ikR S a ≤ 103 then a + 1 else a) (Xi S 904 160 - (if 0 < Xi S 904 160 - a ∧ 100 ≤ ikR S a ∧ ikR S a ≤ 103 then a + 1 else a)) ≠ -1 ∧ Xi S 914 (fiR S (if 0 < Xi S 904 160 - a ∧ 100 ≤ ikR S a ∧ ikR S a ≤ 103 then a + 1 else a) (Xi S 904 160 - (if 0 < Xi S 904 160 - a ∧ 100 ≤ ikR S a ∧ ikR S a ≤ 103 then a + 1 else a))).toNat = 4 then Xi S 915 (fiR S (if 0 < Xi S 904 160 - a ∧ 100 ≤ ikR S a ∧ ikR S a ≤ 103 then a + 1 else a) (Xi S 904 160 - (if 0 < Xi S 904 160 - a ∧ 100 ≤ ikR S a ∧ ikR S a ≤ 103 then a + 1 else a))).toNat else -9)
theorem itR_1 {S : sS} {a : Int} (h : 0 < Xi S 904 160 - a ∧ ikR S (Xi S 904 160 - 1) = 153) (g : (Xi S 904 160 - a = 1 ∨ (Xi S 904 160 - a = 2 ∧ ikR S a = 102)) ∧ Xi S 904 116 ≠ -1) : itR S a = -2 := by sorry
theorem itR_2 {S : sS} {a : Int} (h : 0 < Xi S 904 160 - a ∧ ikR S (Xi S 904 160 - 1) = 153) (g : ¬ ((Xi S 904 160 - a = 1 ∨ (Xi S 904 160 - a = 2 ∧ ikR S a = 102)) ∧ Xi S 904 116 ≠ -1)) : itR S a = -9 := by sorry
theorem itR_3 {S : sS} {a f k z : Int} (h : ¬ (0 < Xi S 904 160 - a ∧ ikR S (Xi S 904 160 - 1) = 153)) (hf : f = (if 0 < Xi S 904 160 - a ∧ 100 ≤ ikR S a ∧ ikR S a ≤ 103 then a + 1 else a)) (hk : k = fiR S f (Xi S 904 160 - f)) (hz : z = (if k ≠ -1 ∧ Xi S 914 k.toNat = 4 then Xi S 915 k.toNat else -9)) : z = itR S a := by sorry
/-- the first word behind the first that isn't FREE -/
def ofF (S : sS) : Nat → Int → Int
  | 0, i => i
  | m + 1, i => if i < Xi S 904 160 ∧ ikR S i = 3 then ofF S m (i + 1) else i
def ofR (S : sS) : Int := ofF S 65 1
theorem ofF_s {S : sS} {i : Int} (h0 : 1 ≤ i) (h1 : i < Xi S 904 160) (h2 : Xi S 904 160 ≤ 64) (h3 : ikR S i = 3) : ofF S (66 - i).toNat i = ofF S (66 - (i + 1)).toNat (i + 1) := by sorry
theorem ofF_e {S : sS} {i : Int} {n : Nat} (h : ¬ (i < Xi S 904 160 ∧ ikR S i = 3)) : ofF S n i = i := by sorry
def isO (S : sS) : Prop := 0 < Xi S 904 160 ∧ ikR S 0 = 102 ∧ 1 < ofR S ∧ ofR S < Xi S 904 160 ∧ ikR S (ofR S) = 107
noncomputable def itA (S : sS) : Int := itR S (@ite Int (isO S) (Classical.propDecidable _) (ofR S + 1) 0)
noncomputable def ipR (S : sS) : Int := if fiR S 1 (ofR S - 1) ≠ -1 ∧ Xi S 914 (fiR S 1 (ofR S - 1)).toNat = 7 then Xi S 915 (fiR S 1 (ofR S - 1)).toNat else -1
/-- what stands in [ ] is as it must be -/
def sIOK (S : sS) : Prop := itA S ≠ -9 ∧ (isO S → ipR S ≠ -1 ∧ hsR S (ktC S (itA S)) (ipR S) ≠ 0)
theorem itA_y {S : sS} (h : isO S) : itA S = itR S (ofR S + 1) := by sorry
theorem itA_n {S : sS} (h : ¬ isO S) : itA S = itR S 0 := by sorry
theorem ktC_r {S : sS} {t : Int} (h : ∀ j : Nat, -1 ≤ Xi S 918 j ∧ Xi S 918 j ≤ 15) (a : -1 ≤ Xi S 904 115 ∧ Xi S 904 115 ≤ 15) (b : -1 ≤ Xi S 904 116 ∧ Xi S 904 116 ≤ 15) : -1 ≤ ktC S t ∧ ktC S t ≤ 15 := by sorry
def md_mo_words__p : List rec := [(904, 905, 160, 161), (994, 995, 0, 100000)]
abbrev Q_mo_words__p (S : sS) (from_ : Int) (end_ : Int) : pst := fun r S1 => RI S1 ∧ FR md_mo_words__p S S1 ∧ (∃ z : Int, r = some (iv z) ∧ (-2147483648 ≤ z ∧ z ≤ 2147483647) ∧ (RWO S S1 from_ end_ z) ∧ (z = -1 ∨ (from_ < z ∧ z ≤ end_)) ∧ (0 ≤ Xi S1 904 160 ∧ Xi S1 904 160 ≤ 64))
set_option maxRecDepth 100000 in
theorem t_mo_words__p {S : sS} (hH : RI S) (from_ : Int) (end_ : Int) (hfrom_ : 0 ≤ from_ ∧ from_ ≤ 5000) (hend_ : 0 ≤ end_ ∧ end_ ≤ 5000) (hb6 : BYT S 906) (hfe : from_ ≤ end_) (d : Nat) : Mp lay0 (d + 4) m_mo_words [.ref 904, iv from_, iv end_] S (Q_mo_words__p S from_ end_) := by sorry
abbrev Q_mo_foundIn__p (S : sS) (from_ : Int) (n : Int) : pst := fun r S1 => S = S1 ∧ (∃ z : Int, r = some (iv z) ∧ (-2147483648 ≤ z ∧ z ≤ 2147483647) ∧ (z = fiR S from_ n))
set_option maxRecDepth 100000 in
theorem t_mo_foundIn__p {S : sS} (hH : RI S) (from_ : Int) (n : Int) (hfrom_ : 0 ≤ from_ ∧ from_ ≤ 64) (hn : -64 ≤ n ∧ n ≤ 64) (hn : from_ + n ≤ 64) (hLS : LSP S) (h15 : 0 ≤ Xi S 904 15) (d : Nat) : Mp lay0 (d + 2) m_mo_foundIn [.ref 904, iv from_, iv n] S (Q_mo_foundIn__p S from_ n) := by sorry
abbrev Q_mo_insideThing__d (S : sS) (from_ : Int) : pst := fun r S1 => S = S1 ∧ (∃ z : Int, r = some (iv z) ∧ (-2147483648 ≤ z ∧ z ≤ 2147483647) ∧ (z = itR S from_))
set_option maxRecDepth 100000 in
theorem t_mo_insideThing__d {S : sS} (hH : RI S) (from_ : Int) (hfrom_ : 0 ≤ from_ ∧ from_ ≤ 64) (hLS : LSP S) (h15 : 0 ≤ Xi S 904 15) (hdr : Xi S 904 157 = 1) (hi6 : 0 ≤ Xi S 904 160 ∧ Xi S 904 160 ≤ 64) (d : Nat) : Mp lay0 (d + 3) m_mo_insideThing [.ref 904, iv from_] S (Q_mo_insideThing__d S from_) := by sorry
def md_mo_saysInside__d : List rec := [(1000, 1001, 0, 1)]
abbrev Q_mo_saysInside__d (S : sS) : pst := fun r S1 => RI S1 ∧ FR md_mo_saysInside__d S S1 ∧ (∃ z : Int, r = some (iv z) ∧ (0 ≤ z ∧ z ≤ 1) ∧ (S1 = S) ∧ ((z = 1 → sIOK S) ∧ (z = 0 → ¬ sIOK S)))
set_option maxRecDepth 100000 in
theorem t_mo_saysInside__d {S : sS} (hH : RI S) (hLS : LSP S) (h15 : 0 ≤ Xi S 904 15) (hB : ABV S) (hkx : Hid (∀ j : Nat, -1 ≤ Xi S 918 j ∧ Xi S 918 j ≤ 15)) (hdr : Xi S 904 157 = 1) (hi6 : 0 ≤ Xi S 904 160 ∧ Xi S 904 160 ≤ 64) (hlx7 : Hid (∀ j : Nat, (j : Int) < Xi S 904 15 → Xi S 914 j = 7 → 0 ≤ Xi S 915 j ∧ Xi S 915 j ≤ 11)) (hit : (-1 ≤ Xi S 904 115 ∧ Xi S 904 115 ≤ 15) ∧ (-1 ≤ Xi S 904 116 ∧ Xi S 904 116 ≤ 15)) (d : Nat) : Mp lay0 (d + 5) m_mo_saysInside [.ref 904] S (Q_mo_saysInside__d S) := by sorry
end
section
/-! rules of the reference: what a text says -/
def RCH (S : sS) (e : Int) : List (Int × Int) → sS → Prop
  | [], T => T = S
  | (o, q) :: L, T => ∃ W : sS, RCH S e L W ∧ FR md_mo_words__p W T ∧ RWO W T (o + 1) e (q + 1) ∧ sIOK T
def RWS (S S1 : sS) (f n z : Int) : Prop := (z = 1 → ∃ L : List (Int × Int), brF (Xi S 906) f n.toNat = some (-1, L) ∧ RCH S (f + n) L S1) ∧
  (z = 0 → brF (Xi S 906) f n.toNat = none ∨ ∃ (p : Int) (L : List (Int × Int)) (W W1 : sS), f ≤ p ∧ p < f + n ∧ brF (Xi S 906) f (p - f).toNat = some (-1, L) ∧ RCH S (f + n) L W ∧ Xi S 906 p.toNat = 91 ∧ FR md_mo_words__p W W1 ∧ (RWO W W1 (p + 1) (f + n) (-1) ∨ ∃ q : Int, RWO W W1 (p + 1) (f + n) (q + 1) ∧ q + 1 ≠ -1 ∧ ¬ sIOK W1))
theorem br_run {B : Nat → Int} {f o p : Int} {L : List (Int × Int)} (h : brF B f (p - f).toNat = some (o, L)) (hp : f ≤ p) : ∀ (d : Nat), (∀ i : Int, p ≤ i → i < p + d → B i.toNat ≠ 91 ∧ B i.toNat ≠ 93) → brF B f (p + d - f).toNat = some (o, L) := by sorry
theorem we7_lt {B : Nat → Int} {e : Int} {s i : Int} (h1 : s ≤ i) (h2 : i < we7 B e s) : lt7 (B i.toNat) > 0 := by sorry
theorem wl_nb {B : Nat → Int} {e : Int} : ∀ (L : List (Int × Int)) {a p : Int}, WLp B e a L p → ∀ i : Int, a ≤ i → i < p → B i.toNat ≠ 91 ∧ B i.toNat ≠ 93 := by sorry
theorem wl_ap {B : Nat → Int} {e : Int} : ∀ (L : List (Int × Int)) {a p : Int}, WLp B e a L p → a ≤ p := by sorry
theorem br_in {B : Nat → Int} {f p q e : Int} {L L2 : List (Int × Int)} (h : brF B f (p - f).toNat = some (-1, L)) (hp : f ≤ p) (h1 : B p.toNat = 91) (w : WLp B e (p + 1) L2 q) (h0 : 0 ≤ p) (h2 : B q.toNat = 93) : brF B f (q + 1 - f).toNat = some (-1, (p, q) :: L) := by sorry
def RWV (S T : sS) (f n p : Int) : Prop := ∃ L : List (Int × Int), brF (Xi S 906) f (p - f).toNat = some (-1, L) ∧ RCH S (f + n) L T
theorem rwv_0 {S : sS} {f n : Int} : RWV S S f n f := by sorry
theorem rwv_k {S T : sS} {f n p : Int} (h : RWV S T f n p) (hp : f ≤ p) (h1 : Xi S 906 p.toNat ≠ 91) (h2 : Xi S 906 p.toNat ≠ 93) : RWV S T f n (p + 1) := by sorry
theorem rwv_i {S W T : sS} {f n p z : Int} (h : RWV S W f n p) (h0 : 0 ≤ p) (hp : f ≤ p) (h1 : Xi S 906 p.toNat = 91) (b6 : Xi W 906 = Xi S 906) (fr : FR md_mo_words__p W T) (o : RWO W T (p + 1) (f + n) z) (hz : z ≠ -1) (k : sIOK T) : RWV S T f n z := by sorry
theorem rws_y {S T : sS} {f n p z : Int} (h : RWV S T f n p) (hp : p = f + n) (hz : z = 1) : RWS S T f n z := by sorry
theorem rws_c {S T : sS} {f n p z : Int} (h : RWV S T f n p) (hp : f ≤ p) (hq : p < f + n) (hb : Xi S 906 p.toNat = 93) (hz : z = 0) : RWS S T f n z := by sorry
theorem rws_w {S W T : sS} {f n p z w : Int} (h : RWV S W f n p) (hp : f ≤ p) (hq : p < f + n) (hb : Xi S 906 p.toNat = 91) (fr : FR md_mo_words__p W T) (o : RWO W T (p + 1) (f + n) w) (hw : w = -1) (hz : z = 0) : RWS S T f n z := by sorry
theorem rws_s {S W T : sS} {f n p z w : Int} (h : RWV S W f n p) (hp : f ≤ p) (hq : p < f + n) (hb : Xi S 906 p.toNat = 91) (fr : FR md_mo_words__p W T) (o : RWO W T (p + 1) (f + n) w) (hw : w ≠ -1) (k : ¬ sIOK T) (hz : z = 0) : RWS S T f n z := by sorry
def md_mo_put__d : List rec := [(1000, 1001, 0, 1)]
abbrev Q_mo_put__d (S : sS) (c : Int) : pst := fun r S1 => RI S1 ∧ FR md_mo_put__d S S1 ∧ (r = none ∧ (S1 = S))
set_option maxRecDepth 100000 in
theorem t_mo_put__d {S : sS} (hH : RI S) (c : Int) (hc : -2147483648 ≤ c ∧ c ≤ 2147483647) (hdr : Xi S 904 157 = 1) (d : Nat) : Mp lay0 (d + 1) m_mo_put [.ref 904, iv c] S (Q_mo_put__d S c) := by sorry
def md_mo_written__d : List rec := [(904, 905, 160, 161), (994, 995, 0, 100000), (1000, 1001, 0, 1)]
abbrev Q_mo_written__d (S : sS) (from_ : Int) (n : Int) : pst := fun r S1 => RI S1 ∧ FR md_mo_written__d S S1 ∧ (∃ z : Int, r = some (iv z) ∧ (0 ≤ z ∧ z ≤ 1) ∧ (RWS S S1 from_ n z))
set_option maxRecDepth 100000 in
theorem t_mo_written__d {S : sS} (hH : RI S) (from_ : Int) (n : Int) (hfrom_ : 0 ≤ from_ ∧ from_ ≤ 5000) (hn : 0 ≤ n ∧ n ≤ 5000) (hA : from_ + n ≤ 5000) (hb6 : BYT S 906) (hLS : LSP S) (h15 : 0 ≤ Xi S 904 15) (hB : ABV S) (hkx : Hid (∀ j : Nat, -1 ≤ Xi S 918 j ∧ Xi S 918 j ≤ 15)) (hdr : Xi S 904 157 = 1) (hlx7 : Hid (∀ j : Nat, (j : Int) < Xi S 904 15 → Xi S 914 j = 7 → 0 ≤ Xi S 915 j ∧ Xi S 915 j ≤ 11)) (hit : (-1 ≤ Xi S 904 115 ∧ Xi S 904 115 ≤ 15) ∧ (-1 ≤ Xi S 904 116 ∧ Xi S 904 116 ≤ 15)) (d : Nat) : Mp lay0 (d + 6) m_mo_written [.ref 904, iv from_, iv n] S (Q_mo_written__d S from_ n) := by sorry
def SAYD (S S1 : sS) (f n noun z : Int) : Prop := ∃ B T : sS, B = uI (uI S 904 157 (Int32.ofInt 1)) 904 158 (Int32.ofInt noun) ∧ RWS B T f n z ∧ FR md_mo_written__d B T ∧ S1 = uI T 904 157 (Int32.ofInt 0)

def md_mo_says__d : List rec := [(904, 905, 157, 158), (904, 905, 158, 159), (904, 905, 160, 161), (994, 995, 0, 100000), (1000, 1001, 0, 1)]
abbrev Q_mo_says__d (S : sS) (from_ : Int) (n : Int) (noun : Int) : pst := fun r S1 => RI S1 ∧ FR md_mo_says__d S S1 ∧ (∃ z : Int, r = some (iv z) ∧ (0 ≤ z ∧ z ≤ 1) ∧ (SAYD S S1 from_ n noun z))
set_option maxRecDepth 100000 in
theorem t_mo_says__d {S : sS} (hH : RI S) (from_ : Int) (n : Int) (noun : Int) (hfrom_ : 0 ≤ from_ ∧ from_ ≤ 5000) (hn : 0 ≤ n ∧ n ≤ 5000) (hnoun : -1 ≤ noun ∧ noun ≤ 23) (hA : from_ + n ≤ 5000) (hb6 : BYT S 906) (hLS : LSP S) (h15 : 0 ≤ Xi S 904 15) (hB : ABV S) (hkx : Hid (∀ j : Nat, -1 ≤ Xi S 918 j ∧ Xi S 918 j ≤ 15)) (hlx7 : Hid (∀ j : Nat, (j : Int) < Xi S 904 15 → Xi S 914 j = 7 → 0 ≤ Xi S 915 j ∧ Xi S 915 j ≤ 11)) (hit : (-1 ≤ Xi S 904 115 ∧ Xi S 904 115 ≤ 15) ∧ (-1 ≤ Xi S 904 116 ∧ Xi S 904 116 ≤ 15)) (d : Nat) : Mp lay0 (d + 7) m_mo_says [.ref 904, iv from_, iv n, iv noun] S (Q_mo_says__d S from_ n noun) := by sorry
end
end
section
section
/-! rules of the reference: ACTING without ART RUN -/
def acQ (S : sS) (f n tr m : Int) : Prop := msR S f m 11 ≠ -1 ∧ msR S (f + m) (n - m) 4 ≠ -1 ∧ 0 ≤ Xi S 942 (msR S f m 11).toNat ∧ (tr ≠ 0 ∨ blR S (Xi S 918 (msR S (f + m) (n - m) 4).toNat) (Xi S 942 (msR S f m 11).toNat) ≠ 0)
noncomputable def acF (S : sS) (f n tr : Int) : Nat → Int × Int × Int
  | 0 => if msR S f n 11 ≠ -1 ∧ (tr = 0 ∨ Xi S 942 (msR S f n 11).toNat = -1) then (msR S f n 11, -1, 1) else (0, 0, 0)
  | k + 1 => @ite (Int × Int × Int) (acQ S f n tr ((k : Int) + 1)) (Classical.propDecidable _) (if (acF S f n tr k).2.2 = 0 then (msR S f ((k : Int) + 1) 11, msR S (f + ((k : Int) + 1)) (n - ((k : Int) + 1)) 4, 1) else ((acF S f n tr k).1, (acF S f n tr k).2.1, (acF S f n tr k).2.2 + 1)) (acF S f n tr k)
def acK (n : Int) : Nat := if n ≤ 3 then (n - 1).toNat else 3
def ACL (S T : sS) (f n tr m c : Int) : Prop := (acF S f n tr (m - 1).toNat).2.2 = c ∧ (0 < c → Xi T 904 128 = (acF S f n tr (m - 1).toNat).1 ∧ Xi T 904 129 = (acF S f n tr (m - 1).toNat).2.1)
def ACO (S S1 : sS) (rn tr z : Int) : Prop := (acF S (Xi S 950 rn.toNat) (Xi S 951 rn.toNat) tr (acK (Xi S 951 rn.toNat))).2.2 = z ∧ (0 < z → Xi S1 904 128 = (acF S (Xi S 950 rn.toNat) (Xi S 951 rn.toNat) tr (acK (Xi S 951 rn.toNat))).1 ∧ Xi S1 904 129 = (acF S (Xi S 950 rn.toNat) (Xi S 951 rn.toNat) tr (acK (Xi S 951 rn.toNat))).2.1)
theorem acl_0 {S : sS} {f n tr m : Int} (hm : m = 1) (h : ¬ (msR S f n 11 ≠ -1 ∧ (tr = 0 ∨ Xi S 942 (msR S f n 11).toNat = -1))) : ACL S S f n tr m 0 := by sorry
theorem acl_1 {S A T : sS} {f n tr m a : Int} (hm : m = 1) (ha : a = msR S f n 11) (ra : rg a) (h : a ≠ -1 ∧ (tr = 0 ∨ Xi S 942 a.toNat = -1)) (e1 : A = uI S 904 128 (Int32.ofInt a)) (e2 : T = uI A 904 129 (Int32.ofInt (-1))) : ACL S T f n tr m 1 := by sorry
theorem acx_e {m : Int} (hm : 1 ≤ m) : (m + 1 - 1).toNat = (m - 1).toNat + 1 ∧ (((m - 1).toNat : Nat) : Int) + 1 = m := by sorry
theorem acl_n {S T : sS} {f n tr m c : Int} (h : ACL S T f n tr m c) (hm : 1 ≤ m) (q : ¬ acQ S f n tr m) : ACL S T f n tr (m + 1) c := by sorry
theorem acl_f {S T A U : sS} {f n tr m c a o : Int} (h : ACL S T f n tr m c) (hm : 1 ≤ m) (q : acQ S f n tr m) (hc : c = 0) (ha : a = msR S f m 11) (ho : o = msR S (f + m) (n - m) 4) (ra : rg a) (ro : rg o) (e1 : A = uI T 904 128 (Int32.ofInt a)) (e2 : U = uI A 904 129 (Int32.ofInt o)) : ACL S U f n tr (m + 1) (c + 1) := by sorry
theorem acl_y {S T U : sS} {f n tr m c : Int} (h : ACL S T f n tr m c) (hm : 1 ≤ m) (q : acQ S f n tr m) (hc : 0 < c) (e1 : Xi U 904 128 = Xi T 904 128) (e2 : Xi U 904 129 = Xi T 904 129) : ACL S U f n tr (m + 1) (c + 1) := by sorry
theorem aco_i {S T : sS} {rn tr m c f n : Int} (h : ACL S T f n tr m c) (hf : f = Xi S 950 rn.toNat) (hn : n = Xi S 951 rn.toNat) (hm : (1 ≤ m ∧ m ≤ 4) ∧ (m = 1 ∨ m ≤ n) ∧ (n ≤ m ∨ 3 < m)) : ACO S T rn tr c := by sorry
def md_mo_actings__p : List rec := [(904, 905, 128, 129), (904, 905, 129, 130)]
abbrev Q_mo_actings__p (S : sS) (rn : Int) (isTry : Int) : pst := fun r S1 => RI S1 ∧ FR md_mo_actings__p S S1 ∧ (∃ z : Int, r = some (iv z) ∧ (-2147483648 ≤ z ∧ z ≤ 2147483647) ∧ (ACO S S1 rn isTry z))
set_option maxRecDepth 100000 in
theorem t_mo_actings__p {S : sS} (hH : RI S) (rn : Int) (isTry : Int) (hrn : 0 ≤ rn ∧ rn ≤ 2599) (hisTry : 0 ≤ isTry ∧ isTry ≤ 1) (hLS : LSP S) (h15 : 0 ≤ Xi S 904 15) (hB : ABV S) (hkx : Hid (∀ j : Nat, -1 ≤ Xi S 918 j ∧ Xi S 918 j ≤ 15)) (hrn : 0 ≤ (Xi S 950 rn.toNat) ∧ (Xi S 950 rn.toNat) ≤ 6000 ∧ 0 ≤ (Xi S 951 rn.toNat) ∧ (Xi S 951 rn.toNat) ≤ 6000) (d : Nat) : Mp lay0 (d + 4) m_mo_actings [.ref 904, iv rn, iv isTry] S (Q_mo_actings__p S rn isTry) := by sorry
end
end
section
section
/-! rules of the reference: PHRASES -/
def pTS (S : sS) (i : Int) : Int := Xi S 964 i.toNat
def phA (S : sS) (i q p : Int) : sS := uI (uI S 976 p.toNat (Int32.ofInt (Xi S 963 i.toNat))) 977 p.toNat (Int32.ofInt q)
def xPS (S : sS) (i : Int) : Int := Xi S 957 (pTS S i).toNat
def PM0 (S S1 : sS) (i q p : Int) : Prop := ∃ (B C : sS) (z : Int), B = uI (uI (phA S i q p) 973 q.toNat (Int32.ofInt (Xi S 908 (xPS S i).toNat + 1))) 974 q.toNat (Int32.ofInt (Xi S 909 (xPS S i).toNat)) ∧ SAYD B C (Xi S 908 (xPS S i).toNat + 1) (Xi S 909 (xPS S i).toNat) (-1) z ∧ FR md_mo_says__d B C ∧ FR md_mo_need__p C S1 ∧ NT3 S1 = (if z = 0 then ntF (NT3 C) 8 (Xi C 908 (xPS S i).toNat) else NT3 C) ∧ (z = 0 ∨ z = 1)
def PM1 (S S1 : sS) (i q p : Int) : Prop := TMX (phA S i q p) S1 (pTS S i) q 1 ∧ FR md_mo_testMeant__p (phA S i q p) S1
def PM2 (S S1 : sS) (i q p : Int) : Prop := ∃ (B C D E : sS) (z w g : Int), MTO (phA S i q p) B z (Xi S 954 (pTS S i).toNat) (Xi S 955 (pTS S i).toNat) ∧ FR md_mo_meant__p (phA S i q p) B ∧ C = uI B 971 q.toNat (Int32.ofInt z) ∧ (g = 0 ∨ g = 1) ∧ (g = 1 ↔ z = -9 ∨ blR C (ktC C z) 0 ≠ 0) ∧ NT3 D = (if g = 0 then ntF (NT3 C) 4 (Xi C 908 (Xi S 954 (pTS S i).toNat % 10000).toNat) else NT3 C) ∧ FR md_mo_need__p C D ∧ MTO D E w (Xi S 959 (pTS S i).toNat) (Xi S 960 (pTS S i).toNat) ∧ FR md_mo_meant__p D E ∧ S1 = uI E 975 q.toNat (Int32.ofInt w)
def PM3 (S S1 : sS) (i q p : Int) : Prop := ∃ (B C D E F : sS) (z w : Int), MTO (phA S i q p) B z (Xi S 954 (pTS S i).toNat) (Xi S 955 (pTS S i).toNat) ∧ FR md_mo_meant__p (phA S i q p) B ∧ C = uI B 971 q.toNat (Int32.ofInt z) ∧ PMO C D w (Xi S 956 (pTS S i).toNat) z ∧ FR md_mo_propertyMeant__p C D ∧ E = uI D 972 q.toNat (Int32.ofInt w) ∧ NMO E F (Xi S 956 (pTS S i).toNat) ∧ FR md_mo_numberMeant__p E F ∧ S1 = uI F 973 q.toNat (Int32.ofInt (Xj S 910 (xPS S i).toNat))
def PM5 (S S1 : sS) (i q p : Int) : Prop := ∃ (B C D E : sS) (g a z : Int), (g = 0 ∨ g = 1) ∧ a = rnR S (Xi S 956 (pTS S i).toNat) 11 ∧ (g = 1 ↔ a ≠ -1 ∧ 0 ≤ Xi S 942 a.toNat) ∧ NT3 B = (if g = 0 then ntF (NT3 (phA S i q p)) 4 (pR S (Xi S 956 (pTS S i).toNat)) else NT3 (phA S i q p)) ∧ FR md_mo_need__p (phA S i q p) B ∧ C = uI B 972 q.toNat (Int32.ofInt a) ∧ MTO C D z (Xi S 954 (pTS S i).toNat) (Xi S 955 (pTS S i).toNat) ∧ FR md_mo_meant__p C D ∧ E = uI D 971 q.toNat (Int32.ofInt z) ∧ S1 = uI E 970 q.toNat (Int32.ofInt 0)
def PM6 (S S1 : sS) (i q p : Int) : Prop := ∃ (B C D E G : sS) (n t o : Int), ACO (phA S i q p) B (Xi S 956 (pTS S i).toNat) 1 n ∧ FR md_mo_actings__p (phA S i q p) B ∧ NT3 C = (if 0 < n then NT3 B else ntF (NT3 B) 4 (pR S (Xi S 956 (pTS S i).toNat))) ∧ FR md_mo_need__p B C ∧ NT3 D = (if n < 2 then NT3 C else ntF (NT3 C) 7 (pR S (Xi S 956 (pTS S i).toNat))) ∧ FR md_mo_need__p C D ∧ t = (if 0 < n then Xi B 904 128 else 0) ∧ o = (if 0 < n then Xi B 904 129 else -1) ∧ E = uI D 972 q.toNat (Int32.ofInt t) ∧ G = uI E 971 q.toNat (Int32.ofInt o) ∧ S1 = uI G 970 q.toNat (Int32.ofInt (if o = -1 then 1 else 0))
theorem phA_of {S A B : sS} {i q p v : Int} (e1 : A = uI S 976 p.toNat (Int32.ofInt v)) (hv : v = Xi S 963 i.toNat) (e2 : B = uI A 977 p.toNat (Int32.ofInt q)) : B = phA S i q p := by sorry
theorem xi_of {T U : sS} {k j : Nat} {z : Int} (e : U = uI T k j (Int32.ofInt z)) (r : rg z) : Xi U k j = z := by sorry
def md_mo_phraseMeant__0 : List rec := [(904, 905, 64, 65), (904, 905, 104, 105), (904, 905, 105, 106), (904, 905, 106, 107), (904, 905, 113, 114), (904, 905, 128, 129), (904, 905, 129, 130), (904, 905, 154, 155), (904, 905, 156, 157), (904, 905, 157, 158), (904, 905, 158, 159), (904, 905, 160, 161), (969, 970, 0, 100000), (970, 971, 0, 100000), (971, 972, 0, 100000), (972, 973, 0, 100000), (973, 974, 0, 100000), (974, 975, 0, 100000), (975, 976, 0, 100000), (976, 977, 0, 100000), (977, 978, 0, 100000), (993, 994, 0, 100000), (994, 995, 0, 100000), (1000, 1001, 0, 1)]
abbrev Q_mo_phraseMeant__0 (S : sS) (i : Int) (q : Int) (p : Int) : pst := fun r S1 => RI S1 ∧ FR md_mo_phraseMeant__0 S S1 ∧ (r = none ∧ (PM0 S S1 i q p))
set_option maxRecDepth 100000 in
theorem t_mo_phraseMeant__0 {S : sS} (hH : RI S) (i : Int) (q : Int) (p : Int) (hi : 0 ≤ i ∧ i ≤ 1699) (hq : 0 ≤ q ∧ q ≤ 2399) (hp : 0 ≤ p ∧ p ≤ 1999) (hLS : LSP S) (h15 : 0 ≤ Xi S 904 15) (hB : ABV S) (hkx : Hid (∀ j : Nat, -1 ≤ Xi S 918 j ∧ Xi S 918 j ≤ 15)) (hit : (-1 ≤ Xi S 904 115 ∧ Xi S 904 115 ≤ 15) ∧ (-1 ≤ Xi S 904 116 ∧ Xi S 904 116 ≤ 15)) (hb6 : BYT S 906) (hlx7 : Hid (∀ j : Nat, (j : Int) < Xi S 904 15 → Xi S 914 j = 7 → 0 ≤ Xi S 915 j ∧ Xi S 915 j ≤ 11)) (htq : 0 ≤ Xi S 964 i.toNat ∧ Xi S 964 i.toNat ≤ 1699) (hpw : Xi S 963 i.toNat = 0) (hxl : 0 ≤ Xi S 908 (xPS S i).toNat ∧ 0 ≤ Xi S 909 (xPS S i).toNat ∧ Xi S 908 (xPS S i).toNat + 1 + Xi S 909 (xPS S i).toNat ≤ 5000) (d : Nat) : Mp lay0 (d + 8) m_mo_phraseMeant [.ref 904, iv i, iv q, iv p] S (Q_mo_phraseMeant__0 S i q p) := by sorry
def md_mo_phraseMeant__1 : List rec := [(904, 905, 64, 65), (904, 905, 104, 105), (904, 905, 105, 106), (904, 905, 106, 107), (904, 905, 113, 114), (904, 905, 128, 129), (904, 905, 129, 130), (904, 905, 154, 155), (904, 905, 156, 157), (904, 905, 157, 158), (904, 905, 158, 159), (904, 905, 160, 161), (969, 970, 0, 100000), (970, 971, 0, 100000), (971, 972, 0, 100000), (972, 973, 0, 100000), (973, 974, 0, 100000), (974, 975, 0, 100000), (975, 976, 0, 100000), (976, 977, 0, 100000), (977, 978, 0, 100000), (993, 994, 0, 100000), (994, 995, 0, 100000), (1000, 1001, 0, 1)]
abbrev Q_mo_phraseMeant__1 (S : sS) (i : Int) (q : Int) (p : Int) : pst := fun r S1 => RI S1 ∧ FR md_mo_phraseMeant__1 S S1 ∧ (r = none ∧ (PM1 S S1 i q p))
set_option maxRecDepth 100000 in
theorem t_mo_phraseMeant__1 {S : sS} (hH : RI S) (i : Int) (q : Int) (p : Int) (hi : 0 ≤ i ∧ i ≤ 1699) (hq : 0 ≤ q ∧ q ≤ 2399) (hp : 0 ≤ p ∧ p ≤ 1999) (hLS : LSP S) (h15 : 0 ≤ Xi S 904 15) (hRB : RBD S) (hB : ABV S) (hkx : Hid (∀ j : Nat, -1 ≤ Xi S 918 j ∧ Xi S 918 j ≤ 15)) (hit : (-1 ≤ Xi S 904 115 ∧ Xi S 904 115 ≤ 15) ∧ (-1 ≤ Xi S 904 116 ∧ Xi S 904 116 ≤ 15)) (hLX : LXR S) (hp32 : 0 ≤ Xi S 904 32 ∧ Xi S 904 32 ≤ 12) (htq : 0 ≤ Xi S 964 i.toNat ∧ Xi S 964 i.toNat ≤ 1699) (hpw : Xi S 963 i.toNat = 1) (htk : Hid (TRK S (pTS S i))) (d : Nat) : Mp lay0 (d + 8) m_mo_phraseMeant [.ref 904, iv i, iv q, iv p] S (Q_mo_phraseMeant__1 S i q p) := by sorry
def md_mo_phraseMeant__2 : List rec := [(904, 905, 64, 65), (904, 905, 104, 105), (904, 905, 105, 106), (904, 905, 106, 107), (904, 905, 113, 114), (904, 905, 128, 129), (904, 905, 129, 130), (904, 905, 154, 155), (904, 905, 156, 157), (904, 905, 157, 158), (904, 905, 158, 159), (904, 905, 160, 161), (969, 970, 0, 100000), (970, 971, 0, 100000), (971, 972, 0, 100000), (972, 973, 0, 100000), (973, 974, 0, 100000), (974, 975, 0, 100000), (975, 976, 0, 100000), (976, 977, 0, 100000), (977, 978, 0, 100000), (993, 994, 0, 100000), (994, 995, 0, 100000), (1000, 1001, 0, 1)]
abbrev Q_mo_phraseMeant__2 (S : sS) (i : Int) (q : Int) (p : Int) : pst := fun r S1 => RI S1 ∧ FR md_mo_phraseMeant__2 S S1 ∧ (r = none ∧ (PM2 S S1 i q p))
set_option maxRecDepth 100000 in
theorem t_mo_phraseMeant__2 {S : sS} (hH : RI S) (i : Int) (q : Int) (p : Int) (hi : 0 ≤ i ∧ i ≤ 1699) (hq : 0 ≤ q ∧ q ≤ 2399) (hp : 0 ≤ p ∧ p ≤ 1999) (hLS : LSP S) (h15 : 0 ≤ Xi S 904 15) (hRB : RBD S) (hB : ABV S) (hkx : Hid (∀ j : Nat, -1 ≤ Xi S 918 j ∧ Xi S 918 j ≤ 15)) (hit : (-1 ≤ Xi S 904 115 ∧ Xi S 904 115 ≤ 15) ∧ (-1 ≤ Xi S 904 116 ∧ Xi S 904 116 ≤ 15)) (htq : 0 ≤ Xi S 964 i.toNat ∧ Xi S 964 i.toNat ≤ 1699) (hpw : Xi S 963 i.toNat = 2) (htd : 0 ≤ Xi S 954 (pTS S i).toNat ∧ Xi S 954 (pTS S i).toNat ≤ 29999) (hto : 0 ≤ Xi S 959 (pTS S i).toNat ∧ Xi S 959 (pTS S i).toNat ≤ 29999) (d : Nat) : Mp lay0 (d + 8) m_mo_phraseMeant [.ref 904, iv i, iv q, iv p] S (Q_mo_phraseMeant__2 S i q p) := by sorry
def md_mo_phraseMeant__3 : List rec := [(904, 905, 64, 65), (904, 905, 104, 105), (904, 905, 105, 106), (904, 905, 106, 107), (904, 905, 113, 114), (904, 905, 128, 129), (904, 905, 129, 130), (904, 905, 154, 155), (904, 905, 156, 157), (904, 905, 157, 158), (904, 905, 158, 159), (904, 905, 160, 161), (969, 970, 0, 100000), (970, 971, 0, 100000), (971, 972, 0, 100000), (972, 973, 0, 100000), (973, 974, 0, 100000), (974, 975, 0, 100000), (975, 976, 0, 100000), (976, 977, 0, 100000), (977, 978, 0, 100000), (993, 994, 0, 100000), (994, 995, 0, 100000), (1000, 1001, 0, 1)]
abbrev Q_mo_phraseMeant__3 (S : sS) (i : Int) (q : Int) (p : Int) : pst := fun r S1 => RI S1 ∧ FR md_mo_phraseMeant__3 S S1 ∧ (r = none ∧ (PM3 S S1 i q p))
set_option maxRecDepth 100000 in
theorem t_mo_phraseMeant__3 {S : sS} (hH : RI S) (i : Int) (q : Int) (p : Int) (hi : 0 ≤ i ∧ i ≤ 1699) (hq : 0 ≤ q ∧ q ≤ 2399) (hp : 0 ≤ p ∧ p ≤ 1999) (hLS : LSP S) (h15 : 0 ≤ Xi S 904 15) (hRB : RBD S) (hB : ABV S) (hkx : Hid (∀ j : Nat, -1 ≤ Xi S 918 j ∧ Xi S 918 j ≤ 15)) (hit : (-1 ≤ Xi S 904 115 ∧ Xi S 904 115 ≤ 15) ∧ (-1 ≤ Xi S 904 116 ∧ Xi S 904 116 ≤ 15)) (htq : 0 ≤ Xi S 964 i.toNat ∧ Xi S 964 i.toNat ≤ 1699) (hpw : Xi S 963 i.toNat = 3 ∨ Xi S 963 i.toNat = 4) (htd : 0 ≤ Xi S 954 (pTS S i).toNat ∧ Xi S 954 (pTS S i).toNat ≤ 29999) (hpx : Hid (-1 ≤ rnR S (Xi S 956 (pTS S i).toNat) 7 ∧ rnR S (Xi S 956 (pTS S i).toNat) 7 ≤ 11)) (hnum : 0 ≤ Xj S 910 (xPS S i).toNat ∧ Xj S 910 (xPS S i).toNat ≤ 2147483647) (d : Nat) : Mp lay0 (d + 8) m_mo_phraseMeant [.ref 904, iv i, iv q, iv p] S (Q_mo_phraseMeant__3 S i q p) := by sorry
def md_mo_phraseMeant__5 : List rec := [(904, 905, 64, 65), (904, 905, 104, 105), (904, 905, 105, 106), (904, 905, 106, 107), (904, 905, 113, 114), (904, 905, 128, 129), (904, 905, 129, 130), (904, 905, 154, 155), (904, 905, 156, 157), (904, 905, 157, 158), (904, 905, 158, 159), (904, 905, 160, 161), (969, 970, 0, 100000), (970, 971, 0, 100000), (971, 972, 0, 100000), (972, 973, 0, 100000), (973, 974, 0, 100000), (974, 975, 0, 100000), (975, 976, 0, 100000), (976, 977, 0, 100000), (977, 978, 0, 100000), (993, 994, 0, 100000), (994, 995, 0, 100000), (1000, 1001, 0, 1)]
abbrev Q_mo_phraseMeant__5 (S : sS) (i : Int) (q : Int) (p : Int) : pst := fun r S1 => RI S1 ∧ FR md_mo_phraseMeant__5 S S1 ∧ (r = none ∧ (PM5 S S1 i q p))
set_option maxRecDepth 100000 in
theorem t_mo_phraseMeant__5 {S : sS} (hH : RI S) (i : Int) (q : Int) (p : Int) (hi : 0 ≤ i ∧ i ≤ 1699) (hq : 0 ≤ q ∧ q ≤ 2399) (hp : 0 ≤ p ∧ p ≤ 1999) (hLS : LSP S) (h15 : 0 ≤ Xi S 904 15) (hRB : RBD S) (htq : 0 ≤ Xi S 964 i.toNat ∧ Xi S 964 i.toNat ≤ 1699) (hpw : Xi S 963 i.toNat = 5) (hnt : Xi S 953 (pTS S i).toNat = 1) (htd : 0 ≤ Xi S 954 (pTS S i).toNat ∧ Xi S 954 (pTS S i).toNat ≤ 29999) (d : Nat) : Mp lay0 (d + 8) m_mo_phraseMeant [.ref 904, iv i, iv q, iv p] S (Q_mo_phraseMeant__5 S i q p) := by sorry
def md_mo_phraseMeant__6 : List rec := [(904, 905, 64, 65), (904, 905, 104, 105), (904, 905, 105, 106), (904, 905, 106, 107), (904, 905, 113, 114), (904, 905, 128, 129), (904, 905, 129, 130), (904, 905, 154, 155), (904, 905, 156, 157), (904, 905, 157, 158), (904, 905, 158, 159), (904, 905, 160, 161), (969, 970, 0, 100000), (970, 971, 0, 100000), (971, 972, 0, 100000), (972, 973, 0, 100000), (973, 974, 0, 100000), (974, 975, 0, 100000), (975, 976, 0, 100000), (976, 977, 0, 100000), (977, 978, 0, 100000), (993, 994, 0, 100000), (994, 995, 0, 100000), (1000, 1001, 0, 1)]
abbrev Q_mo_phraseMeant__6 (S : sS) (i : Int) (q : Int) (p : Int) : pst := fun r S1 => RI S1 ∧ FR md_mo_phraseMeant__6 S S1 ∧ (r = none ∧ (PM6 S S1 i q p))
set_option maxRecDepth 100000 in
theorem t_mo_phraseMeant__6 {S : sS} (hH : RI S) (i : Int) (q : Int) (p : Int) (hi : 0 ≤ i ∧ i ≤ 1699) (hq : 0 ≤ q ∧ q ≤ 2399) (hp : 0 ≤ p ∧ p ≤ 1999) (hLS : LSP S) (h15 : 0 ≤ Xi S 904 15) (hB : ABV S) (hkx : Hid (∀ j : Nat, -1 ≤ Xi S 918 j ∧ Xi S 918 j ≤ 15)) (htq : 0 ≤ Xi S 964 i.toNat ∧ Xi S 964 i.toNat ≤ 1699) (hpw : Xi S 963 i.toNat = 5) (hnt : Xi S 953 (pTS S i).toNat = 0) (hrn : (0 ≤ Xi S 956 (pTS S i).toNat ∧ Xi S 956 (pTS S i).toNat ≤ 2599) ∧ 0 ≤ Xi S 950 (Xi S 956 (pTS S i).toNat).toNat ∧ Xi S 950 (Xi S 956 (pTS S i).toNat).toNat ≤ 6000 ∧ 0 ≤ Xi S 951 (Xi S 956 (pTS S i).toNat).toNat ∧ Xi S 951 (Xi S 956 (pTS S i).toNat).toNat ≤ 6000) (d : Nat) : Mp lay0 (d + 8) m_mo_phraseMeant [.ref 904, iv i, iv q, iv p] S (Q_mo_phraseMeant__6 S i q p) := by sorry
def md_mo_phraseMeant__7 : List rec := [(904, 905, 64, 65), (904, 905, 104, 105), (904, 905, 105, 106), (904, 905, 106, 107), (904, 905, 113, 114), (904, 905, 128, 129), (904, 905, 129, 130), (904, 905, 154, 155), (904, 905, 156, 157), (904, 905, 157, 158), (904, 905, 158, 159), (904, 905, 160, 161), (969, 970, 0, 100000), (970, 971, 0, 100000), (971, 972, 0, 100000), (972, 973, 0, 100000), (973, 974, 0, 100000), (974, 975, 0, 100000), (975, 976, 0, 100000), (976, 977, 0, 100000), (977, 978, 0, 100000), (993, 994, 0, 100000), (994, 995, 0, 100000), (1000, 1001, 0, 1)]
abbrev Q_mo_phraseMeant__7 (S : sS) (i : Int) (q : Int) (p : Int) : pst := fun r S1 => RI S1 ∧ FR md_mo_phraseMeant__7 S S1 ∧ (r = none ∧ (S1 = phA S i q p))
set_option maxRecDepth 100000 in
theorem t_mo_phraseMeant__7 {S : sS} (hH : RI S) (i : Int) (q : Int) (p : Int) (hi : 0 ≤ i ∧ i ≤ 1699) (hq : 0 ≤ q ∧ q ≤ 2399) (hp : 0 ≤ p ∧ p ≤ 1999) (hpw : Xi S 963 i.toNat = 6) (d : Nat) : Mp lay0 (d + 8) m_mo_phraseMeant [.ref 904, iv i, iv q, iv p] S (Q_mo_phraseMeant__7 S i q p) := by sorry
end
end
section
section
/-! rules of the reference: one PHRASE, whatever its sort -/
def PKB (S : sS) (i : Int) : Prop := (0 ≤ Xi S 963 i.toNat ∧ Xi S 963 i.toNat ≤ 6) ∧ (0 ≤ Xi S 964 i.toNat ∧ Xi S 964 i.toNat ≤ 1699) ∧
  (Xi S 963 i.toNat = 0 → 0 ≤ Xi S 908 (xPS S i).toNat ∧ 0 ≤ Xi S 909 (xPS S i).toNat ∧ Xi S 908 (xPS S i).toNat + 1 + Xi S 909 (xPS S i).toNat ≤ 5000) ∧
  (Xi S 963 i.toNat = 1 → TRK S (pTS S i)) ∧
  (Xi S 963 i.toNat = 2 ∨ Xi S 963 i.toNat = 3 ∨ Xi S 963 i.toNat = 4 ∨ (Xi S 963 i.toNat = 5 ∧ Xi S 953 (pTS S i).toNat = 1) → 0 ≤ Xi S 954 (pTS S i).toNat ∧ Xi S 954 (pTS S i).toNat ≤ 29999) ∧
  (Xi S 963 i.toNat = 2 → 0 ≤ Xi S 959 (pTS S i).toNat ∧ Xi S 959 (pTS S i).toNat ≤ 29999) ∧
  (Xi S 963 i.toNat = 3 ∨ Xi S 963 i.toNat = 4 → (-1 ≤ rnR S (Xi S 956 (pTS S i).toNat) 7 ∧ rnR S (Xi S 956 (pTS S i).toNat) 7 ≤ 11) ∧ 0 ≤ Xj S 910 (xPS S i).toNat ∧ Xj S 910 (xPS S i).toNat ≤ 2147483647) ∧
  (Xi S 963 i.toNat = 5 → (Xi S 953 (pTS S i).toNat = 0 ∨ Xi S 953 (pTS S i).toNat = 1) ∧ (0 ≤ Xi S 956 (pTS S i).toNat ∧ Xi S 956 (pTS S i).toNat ≤ 2599) ∧ 0 ≤ Xi S 950 (Xi S 956 (pTS S i).toNat).toNat ∧ Xi S 950 (Xi S 956 (pTS S i).toNat).toNat ≤ 6000 ∧ 0 ≤ Xi S 951 (Xi S 956 (pTS S i).toNat).toNat ∧ Xi S 951 (Xi S 956 (pTS S i).toNat).toNat ≤ 6000)
def PMX (S S1 : sS) (i q p : Int) : Prop := (Xi S 963 i.toNat = 0 → PM0 S S1 i q p) ∧ (Xi S 963 i.toNat = 1 → PM1 S S1 i q p) ∧ (Xi S 963 i.toNat = 2 → PM2 S S1 i q p) ∧ (Xi S 963 i.toNat = 3 ∨ Xi S 963 i.toNat = 4 → PM3 S S1 i q p) ∧
  (Xi S 963 i.toNat = 5 → Xi S 953 (pTS S i).toNat = 1 → PM5 S S1 i q p) ∧ (Xi S 963 i.toNat = 5 → Xi S 953 (pTS S i).toNat = 0 → PM6 S S1 i q p) ∧ (Xi S 963 i.toNat = 6 → S1 = phA S i q p)
def md_mo_phraseMeant__p : List rec := md_mo_phraseMeant__0
abbrev Q_mo_phraseMeant__p (S : sS) (i : Int) (q : Int) (p : Int) : pst := fun r S1 => RI S1 ∧ FR md_mo_phraseMeant__p S S1 ∧ (r = none ∧ (PMX S S1 i q p))
set_option maxRecDepth 100000 in
theorem t_mo_phraseMeant__p {S : sS} (hH : RI S) (i : Int) (q : Int) (p : Int) (hi : 0 ≤ i ∧ i ≤ 1699) (hq : 0 ≤ q ∧ q ≤ 2399) (hp : 0 ≤ p ∧ p ≤ 1999) (hLS : LSP S) (h15 : 0 ≤ Xi S 904 15) (hRB : RBD S) (hB : ABV S) (hkx : Hid (∀ j : Nat, -1 ≤ Xi S 918 j ∧ Xi S 918 j ≤ 15)) (hit : (-1 ≤ Xi S 904 115 ∧ Xi S 904 115 ≤ 15) ∧ (-1 ≤ Xi S 904 116 ∧ Xi S 904 116 ≤ 15)) (hLX : LXR S) (hp32 : 0 ≤ Xi S 904 32 ∧ Xi S 904 32 ≤ 12) (hb6 : BYT S 906) (hlx7 : Hid (∀ j : Nat, (j : Int) < Xi S 904 15 → Xi S 914 j = 7 → 0 ≤ Xi S 915 j ∧ Xi S 915 j ≤ 11)) (hpk : Hid (PKB S i)) (d : Nat) : Mp lay0 (d + 8) m_mo_phraseMeant [.ref 904, iv i, iv q, iv p] S (Q_mo_phraseMeant__p S i q p) := by sorry
end
section
/-! rules of the reference: the head -/
def acA (S : sS) (l : Int) : sS := uI (uI (uI (uI (uI S 979 l.toNat (Int32.ofInt (-1))) 980 l.toNat (Int32.ofInt (-1))) 981 l.toNat (Int32.ofInt (-1))) 982 l.toNat (Int32.ofInt 0)) 904 116 (Int32.ofInt (-1))
theorem acA_of {S A B C D E : sS} {l : Int} (e1 : A = uI S 979 l.toNat (Int32.ofInt (-1))) (e2 : B = uI A 980 l.toNat (Int32.ofInt (-1))) (e3 : C = uI B 981 l.toNat (Int32.ofInt (-1))) (e4 : D = uI C 982 l.toNat (Int32.ofInt 0)) (e5 : E = uI D 904 116 (Int32.ofInt (-1))) : E = acA S l := by sorry
def nkA (S B : sS) : Int := if Xi B 904 129 ≠ -1 then Xi S 918 (Xi B 904 129).toNat else (if -1 < Xi S 942 (Xi B 904 128).toNat then Xi S 942 (Xi B 904 128).toNat else -1)
def AMA (S S1 : sS) (l : Int) : Prop := ∃ (B C D : sS) (n : Int), ACO (acA S l) B (Xi S 904 102) 0 n ∧ FR md_mo_actings__p (acA S l) B ∧ NT3 C = (if 0 < n then NT3 B else ntF (NT3 B) 4 (pR S (Xi S 904 102))) ∧ FR md_mo_need__p B C ∧ NT3 D = (if n < 2 then NT3 C else ntF (NT3 C) 7 (pR S (Xi S 904 102))) ∧ FR md_mo_need__p C D ∧ (¬ 0 < n → S1 = D) ∧ (0 < n → S1 = uI (uI (uI D 979 l.toNat (Int32.ofInt (Xi B 904 128))) 980 l.toNat (Int32.ofInt (Xi B 904 129))) 904 116 (Int32.ofInt (nkA S B)))
noncomputable def amo (S : sS) (a : Int) : Int := if rnR S (Xi S 904 103) 4 ≠ -1 ∧ blR S (Xi S 918 (rnR S (Xi S 904 103) 4).toNat) (Xi S 942 a.toNat) ≠ 0 then rnR S (Xi S 904 103) 4 else -1
noncomputable def nkO (S E : sS) (a : Int) : Int := if amo S a ≠ -1 then Xi S 918 (amo S a).toNat else if 0 < Xi E 904 109 then Xi E 904 110 else -1
noncomputable def amH (S E G : sS) (l a : Int) : sS := uI (uI (uI G 979 l.toNat (Int32.ofInt a)) 980 l.toNat (Int32.ofInt (amo S a))) 904 116 (Int32.ofInt (nkO S E a))
def AMP (S S1 C : sS) (l a : Int) : Prop := ∃ D E F G : sS, D = uI C 904 109 (Int32.ofInt 0) ∧ ((Xi S 951 (Xi S 904 103).toNat ≤ 6 → KDS D E (Xi S 950 (Xi S 904 103).toNat) (Xi S 951 (Xi S 904 103).toNat) 0 1 (Xi S 942 a.toNat) 4) ∧ (6 < Xi S 951 (Xi S 904 103).toNat → E = D)) ∧ FR md_mo_describe__p D E ∧
  F = uI E 904 109 (Int32.ofInt (Xi E 904 109 + (if amo S a ≠ -1 then 1 else 0))) ∧ FR md_mo_oneReading__p F G ∧ NT3 G = (if Xi F 904 109 ≤ 0 then ntF (NT3 F) 4 (pR S (Xi S 904 103)) else if 2 ≤ Xi F 904 109 then ntF (NT3 F) 7 (pR S (Xi S 904 103)) else NT3 F) ∧
  (¬ (0 < Xi E 904 109 ∧ amo S a = -1) → S1 = amH S E G l a) ∧ (0 < Xi E 904 109 ∧ amo S a = -1 → S1 = cpI (uI (uI (amH S E G l a) 981 l.toNat (Int32.ofInt (Xi E 904 110))) 982 l.toNat (Int32.ofInt (Xi E 904 112))) 967 983 0 (6 * l).toNat 6)
def AMB (S B : sS) (l a : Int) : Prop := a = rnR S (Xi S 904 102) 11 ∧ FR md_mo_need__p (acA S l) B ∧ NT3 B = (if a ≠ -1 then NT3 (acA S l) else ntF (NT3 (acA S l)) 4 (pR S (Xi S 904 102)))
def AMC (S C : sS) (l a : Int) : Prop := a ≠ -1 ∧ ∃ B : sS, AMB S B l a ∧ FR md_mo_need__p B C ∧ NT3 C = (if 0 ≤ Xi S 942 a.toNat then NT3 B else ntF (NT3 B) 4 (pR S (Xi S 904 103)))
def AMO (S S1 : sS) (l : Int) : Prop := AMB S S1 l (-1) ∨ (∃ a : Int, Xi S 942 a.toNat < 0 ∧ AMC S S1 l a) ∨ (∃ (a : Int) (C : sS), 0 ≤ Xi S 942 a.toNat ∧ AMC S C l a ∧ AMP S S1 C l a)

def md_mo_actingMeant__6 : List rec := [(904, 905, 64, 65), (904, 905, 104, 105), (904, 905, 105, 106), (904, 905, 106, 107), (904, 905, 109, 110), (904, 905, 110, 111), (904, 905, 112, 113), (904, 905, 113, 114), (904, 905, 116, 117), (904, 905, 128, 129), (904, 905, 129, 130), (967, 968, 0, 100000), (968, 969, 0, 100000), (979, 980, 0, 100000), (980, 981, 0, 100000), (981, 982, 0, 100000), (982, 983, 0, 100000), (983, 984, 0, 100000)]
abbrev Q_mo_actingMeant__6 (S : sS) (l : Int) : pst := fun r S1 => RI S1 ∧ FR md_mo_actingMeant__6 S S1 ∧ (r = none ∧ (S1 = acA S l))
set_option maxRecDepth 100000 in
theorem t_mo_actingMeant__6 {S : sS} (hH : RI S) (l : Int) (hl : 0 ≤ l ∧ l ≤ 23) (hs6 : Xi S 904 70 = 6) (d : Nat) : Mp lay0 (d + 11) m_mo_actingMeant [.ref 904, iv l] S (Q_mo_actingMeant__6 S l) := by sorry
def md_mo_actingMeant__1 : List rec := [(904, 905, 64, 65), (904, 905, 104, 105), (904, 905, 105, 106), (904, 905, 106, 107), (904, 905, 109, 110), (904, 905, 110, 111), (904, 905, 112, 113), (904, 905, 113, 114), (904, 905, 116, 117), (904, 905, 128, 129), (904, 905, 129, 130), (967, 968, 0, 100000), (968, 969, 0, 100000), (979, 980, 0, 100000), (980, 981, 0, 100000), (981, 982, 0, 100000), (982, 983, 0, 100000), (983, 984, 0, 100000)]
abbrev Q_mo_actingMeant__1 (S : sS) (l : Int) : pst := fun r S1 => RI S1 ∧ FR md_mo_actingMeant__1 S S1 ∧ (r = none ∧ (AMA S S1 l))
set_option maxRecDepth 100000 in
theorem t_mo_actingMeant__1 {S : sS} (hH : RI S) (l : Int) (hl : 0 ≤ l ∧ l ≤ 23) (hLS : LSP S) (h15 : 0 ≤ Xi S 904 15) (hB : ABV S) (hkx : Hid (∀ j : Nat, -1 ≤ Xi S 918 j ∧ Xi S 918 j ≤ 15)) (hs6 : Xi S 904 70 ≠ 6) (ho : Xi S 904 103 = -1) (hr2 : 0 ≤ Xi S 904 102 ∧ Xi S 904 102 ≤ 2599) (hrg : 0 ≤ Xi S 950 ((Xi S 904 102)).toNat ∧ Xi S 950 ((Xi S 904 102)).toNat ≤ 6000 ∧ 0 ≤ Xi S 951 ((Xi S 904 102)).toNat ∧ Xi S 951 ((Xi S 904 102)).toNat ≤ 6000) (d : Nat) : Mp lay0 (d + 11) m_mo_actingMeant [.ref 904, iv l] S (Q_mo_actingMeant__1 S l) := by sorry
end
end
section
section
/-! rules of the reference: the head with ART RUN -/
theorem amb_1 {S B : sS} {l a : Int} (h : AMB S B l a) (e : a = -1) : AMB S B l (-1) := by sorry
theorem dcR_up {S : sS} {f n pl d al m : Int} (h : 0 ≤ Xi S 904 32 ∧ Xi S 904 32 ≤ 12) (hn : n - m ≤ 6) : dcR S f n pl d al m ≤ 4449744 := by sorry
theorem dcT_up {S : sS} {f n pl d al v : Int} (h : 0 ≤ Xi S 904 32 ∧ Xi S 904 32 ≤ 12) (hn : n ≤ 6) : dcT S f n pl d al v ≤ 13349232 := by sorry
theorem kds_b {D E : sS} {f n pl d al v : Int} (o : (n ≤ 6 → KDS D E f n pl d al v) ∧ (6 < n → E = D)) (z : Xi D 904 109 = 0) (h : 0 ≤ Xi D 904 32 ∧ Xi D 904 32 ≤ 12) : 0 ≤ Xi E 904 109 ∧ Xi E 904 109 ≤ 13349232 := by sorry
def md_mo_actingMeant__2 : List rec := [(904, 905, 64, 65), (904, 905, 104, 105), (904, 905, 105, 106), (904, 905, 106, 107), (904, 905, 109, 110), (904, 905, 110, 111), (904, 905, 112, 113), (904, 905, 113, 114), (904, 905, 116, 117), (904, 905, 128, 129), (904, 905, 129, 130), (967, 968, 0, 100000), (968, 969, 0, 100000), (979, 980, 0, 100000), (980, 981, 0, 100000), (981, 982, 0, 100000), (982, 983, 0, 100000), (983, 984, 0, 100000)]
abbrev Q_mo_actingMeant__2 (S : sS) (l : Int) : pst := fun r S1 => RI S1 ∧ FR md_mo_actingMeant__2 S S1 ∧ (r = none ∧ (AMO S S1 l))
set_option maxRecDepth 100000 in
theorem t_mo_actingMeant__2 {S : sS} (hH : RI S) (l : Int) (hl : 0 ≤ l ∧ l ≤ 23) (hLS : LSP S) (h15 : 0 ≤ Xi S 904 15) (hRB : RBD S) (hB : ABV S) (hkx : Hid (∀ j : Nat, -1 ≤ Xi S 918 j ∧ Xi S 918 j ≤ 15)) (hLX : LXR S) (hp32 : 0 ≤ Xi S 904 32 ∧ Xi S 904 32 ≤ 12) (hkk : Hid (∀ k : Nat, (k : Int) < Xi S 904 15 → Xi S 914 k ≤ 1 → Xi S 915 k ≤ 15)) (hak : Hid (∀ j : Nat, -2 ≤ Xi S 942 j ∧ Xi S 942 j ≤ 15)) (hs6 : Xi S 904 70 ≠ 6) (ho : Xi S 904 103 ≠ -1) (hr3 : 0 ≤ Xi S 904 103 ∧ Xi S 904 103 ≤ 2599) (hrg : 0 ≤ (Xi S 950 (Xi S 904 103).toNat) ∧ (Xi S 950 (Xi S 904 103).toNat) ≤ 5900 ∧ 0 ≤ (Xi S 951 (Xi S 904 103).toNat) ∧ (Xi S 951 (Xi S 904 103).toNat) ≤ 6000) (d : Nat) : Mp lay0 (d + 11) m_mo_actingMeant [.ref 904, iv l] S (Q_mo_actingMeant__2 S l) := by sorry
end
section
/-! rules of the reference: the head, whatever it is -/
theorem ms_kr {S : sS} {t n : Int} (h15 : 0 ≤ Xi S 904 15) (hx : LXR S) (hk : ∀ k : Nat, (k : Int) < Xi S 904 15 → Xi S 914 k ≤ 1 → Xi S 915 k ≤ 15) : -1 ≤ msR S t n 0 ∧ msR S t n 0 ≤ 15 := by sorry
theorem acA_x {S : sS} {l : Int} : Xi (acA S l) 904 116 = -1 := by sorry
theorem acA_sm {S : sS} {l : Int} : SMR S (acA S l) := by sorry
def AMX (S S1 : sS) (l : Int) : Prop := (Xi S 904 70 = 6 → S1 = acA S l) ∧ (Xi S 904 70 ≠ 6 → Xi S 904 103 = -1 → AMA S S1 l) ∧ (Xi S 904 70 ≠ 6 → Xi S 904 103 ≠ -1 → AMO S S1 l)
theorem nkA_r {S B : sS} (hk : ∀ j : Nat, -1 ≤ Xi S 918 j ∧ Xi S 918 j ≤ 15) (ha : ∀ j : Nat, -2 ≤ Xi S 942 j ∧ Xi S 942 j ≤ 15) : -1 ≤ nkA S B ∧ nkA S B ≤ 15 := by sorry
theorem ama_nk {S S1 : sS} {l : Int} (hk : ∀ j : Nat, -1 ≤ Xi S 918 j ∧ Xi S 918 j ≤ 15) (ha : ∀ j : Nat, -2 ≤ Xi S 942 j ∧ Xi S 942 j ≤ 15) (h : AMA S S1 l) : -1 ≤ Xi S1 904 116 ∧ Xi S1 904 116 ≤ 15 := by sorry
theorem amc_sm {S C : sS} {l a : Int} (h : AMC S C l a) : SMR S C ∧ Xi C 904 116 = -1 := by sorry
theorem nkO_r {S D E : sS} {a f n al : Int} (hk : ∀ j : Nat, -1 ≤ Xi S 918 j ∧ Xi S 918 j ≤ 15) (h15 : 0 ≤ Xi S 904 15) (hx : LXR S) (hkk : ∀ k : Nat, (k : Int) < Xi S 904 15 → Xi S 914 k ≤ 1 → Xi S 915 k ≤ 15) (sm : SMR S D) (z : Xi D 904 109 = 0) (o : (n ≤ 6 → KDS D E f n 0 1 al 4) ∧ (6 < n → E = D)) : -1 ≤ nkO S E a ∧ nkO S E a ≤ 15 := by sorry
theorem amo_nk {S S1 : sS} {l : Int} (hk : ∀ j : Nat, -1 ≤ Xi S 918 j ∧ Xi S 918 j ≤ 15) (h15 : 0 ≤ Xi S 904 15) (hx : LXR S) (hkk : ∀ k : Nat, (k : Int) < Xi S 904 15 → Xi S 914 k ≤ 1 → Xi S 915 k ≤ 15) (h : AMO S S1 l) : -1 ≤ Xi S1 904 116 ∧ Xi S1 904 116 ≤ 15 := by sorry
def AGB (S : sS) : Prop := Xi S 904 70 ≠ 6 → (0 ≤ Xi S 904 102 ∧ Xi S 904 102 ≤ 2599) ∧ (0 ≤ Xi S 950 (Xi S 904 102).toNat ∧ Xi S 950 (Xi S 904 102).toNat ≤ 6000 ∧ 0 ≤ Xi S 951 (Xi S 904 102).toNat ∧ Xi S 951 (Xi S 904 102).toNat ≤ 6000) ∧ (Xi S 904 103 ≠ -1 → (0 ≤ Xi S 904 103 ∧ Xi S 904 103 ≤ 2599) ∧ 0 ≤ Xi S 950 (Xi S 904 103).toNat ∧ Xi S 950 (Xi S 904 103).toNat ≤ 5900 ∧ 0 ≤ Xi S 951 (Xi S 904 103).toNat ∧ Xi S 951 (Xi S 904 103).toNat ≤ 6000)
def md_mo_actingMeant__p : List rec := md_mo_actingMeant__1
abbrev Q_mo_actingMeant__p (S : sS) (l : Int) : pst := fun r S1 => RI S1 ∧ FR md_mo_actingMeant__p S S1 ∧ (r = none ∧ (AMX S S1 l) ∧ (-1 ≤ Xi S1 904 116 ∧ Xi S1 904 116 ≤ 15))
set_option maxRecDepth 100000 in
theorem t_mo_actingMeant__p {S : sS} (hH : RI S) (l : Int) (hl : 0 ≤ l ∧ l ≤ 23) (hLS : LSP S) (h15 : 0 ≤ Xi S 904 15) (hRB : RBD S) (hB : ABV S) (hkx : Hid (∀ j : Nat, -1 ≤ Xi S 918 j ∧ Xi S 918 j ≤ 15)) (hLX : LXR S) (hp32 : 0 ≤ Xi S 904 32 ∧ Xi S 904 32 ≤ 12) (hkk : Hid (∀ k : Nat, (k : Int) < Xi S 904 15 → Xi S 914 k ≤ 1 → Xi S 915 k ≤ 15)) (hak : Hid (∀ j : Nat, -2 ≤ Xi S 942 j ∧ Xi S 942 j ≤ 15)) (hgb : Hid (AGB S)) (d : Nat) : Mp lay0 (d + 11) m_mo_actingMeant [.ref 904, iv l] S (Q_mo_actingMeant__p S l) := by sorry
end
end
section
section
/-! rules of the reference: a RULE -/
theorem PKB_F {l : List rec} {S P : sS} {i : Int} (h : FR l S P) (g : SMR S P) (e1 : kdis l [(907, 911)] = true) (e2 : kdis l [(950, 966)] = true) (e3 : kdis l [(950, 963)] = true) (t : PKB S i) : PKB P i := by sorry
def RPH (lN lP : List rec) (S D : sS) (q0 p0 : Int) : Nat → sS → Prop
  | 0, T => T = D
  | n + 1, T => ∃ W A : sS, RPH lN lP S D q0 p0 n W ∧ FR lN W A ∧ NT3 A = (if (n : Int) < 8 then NT3 W else ntF (NT3 W) 9 (Xi S 908 (Xi S 965 n).toNat)) ∧ FR lP A T ∧ PMX A T n (q0 + n) (p0 + n)
/-- what a RULE leaves -/
def soQ (s : Int) : Int := if s = 3 then 0 else if s = 5 then 1 else if s = 4 then 2 else 3
def rlW (E : sS) (l q : Int) : sS := uI (uI (uI (uI (uI (uI (uI (uI E 978 l.toNat (Int32.ofInt (soQ (Xi E 904 70)))) 984 l.toNat (Int32.ofInt (Xi E 904 117))) 985 l.toNat (Int32.ofInt (Xi E 904 94))) 986 l.toNat (Int32.ofInt (Xi E 904 125))) 987 l.toNat (Int32.ofInt (Xi E 904 98))) 904 117 (Int32.ofInt (q + Xi E 904 98))) 904 125 (Int32.ofInt (Xi E 904 125 + Xi E 904 98))) 904 130 (Int32.ofInt (Xi E 904 130 + 1))
def RMM (S W : sS) (first : Int) (i : Nat) : Prop := ∃ A B C D : sS, FR md_mo_need__p S A ∧ NT3 A = (if Xi S 904 130 < 24 then NT3 S else ntF (NT3 S) 9 (Xi S 908 first.toNat)) ∧ AMX A B (if Xi S 904 130 < 23 then Xi S 904 130 else 23) ∧ FR md_mo_actingMeant__p A B ∧ C = uI B 904 115 (Int32.ofInt (-1)) ∧ TSR md_mo_need__p md_mo_testMeant__p C (Xi S 904 94).toNat D ∧ FR md_mo_testsMeant__p C D ∧ RPH md_mo_need__p md_mo_phraseMeant__p S D (Xi S 904 117 + Xi S 904 94) (Xi S 904 125) i W
def RML (S S1 : sS) (first : Int) : Prop := ∃ E : sS, RMM S E first (Xi S 904 98).toNat ∧ (Xi E 904 106 ≠ 0 → S1 = E) ∧ (Xi E 904 106 = 0 → S1 = rlW E (if Xi S 904 130 < 23 then Xi S 904 130 else 23) (Xi S 904 117 + Xi S 904 94))
theorem rmm_s {S W A T : sS} {first i q p : Int} (h : RMM S W first i.toNat) (h0 : 0 ≤ i) (f : FR md_mo_need__p W A) (n : NT3 A = (if i < 8 then NT3 W else ntF (NT3 W) 9 (Xi S 908 (Xi S 965 i.toNat).toNat))) (g : FR md_mo_phraseMeant__p A T) (x : PMX A T i q p) (hq : q = Xi S 904 117 + Xi S 904 94 + i) (hp : p = Xi S 904 125 + i) : RMM S T first (i + 1).toNat := by sorry
theorem rlW_of {E A1 A2 A3 A4 A5 A6 A7 S1 : sS} {l q v1 v2 v3 v4 v5 v6 v7 v8 : Int} (e1 : A1 = uI E 978 l.toNat (Int32.ofInt v1)) (e2 : A2 = uI A1 984 l.toNat (Int32.ofInt v2)) (e3 : A3 = uI A2 985 l.toNat (Int32.ofInt v3)) (e4 : A4 = uI A3 986 l.toNat (Int32.ofInt v4)) (e5 : A5 = uI A4 987 l.toNat (Int32.ofInt v5)) (e6 : A6 = uI A5 904 117 (Int32.ofInt v6)) (e7 : A7 = uI A6 904 125 (Int32.ofInt v7)) (e8 : S1 = uI A7 904 130 (Int32.ofInt v8))
    (h1 : v1 = soQ (Xi E 904 70)) (h2 : v2 = Xi E 904 117) (h3 : v3 = Xi E 904 94) (h4 : v4 = Xi E 904 125) (h5 : v5 = Xi E 904 98) (h6 : v6 = q + Xi E 904 98) (h7 : v7 = Xi E 904 125 + Xi E 904 98) (h8 : v8 = Xi E 904 130 + 1) : S1 = rlW E l q := by sorry
theorem soQ_v {s v : Int} (h : (s = 3 ∧ v = 0) ∨ (s = 5 ∧ v = 1) ∨ (s = 4 ∧ v = 2) ∨ (s ≠ 3 ∧ s ≠ 4 ∧ s ≠ 5 ∧ v = 3)) : v = soQ s := by sorry
def md_mo_ruleMeant__p : List rec := [(904, 905, 64, 65), (904, 905, 104, 105), (904, 905, 105, 106), (904, 905, 106, 107), (904, 905, 109, 110), (904, 905, 110, 111), (904, 905, 112, 113), (904, 905, 113, 114), (904, 905, 115, 116), (904, 905, 116, 117), (904, 905, 117, 118), (904, 905, 125, 126), (904, 905, 128, 129), (904, 905, 129, 130), (904, 905, 130, 131), (904, 905, 154, 155), (904, 905, 156, 157), (904, 905, 157, 158), (904, 905, 158, 159), (904, 905, 160, 161), (967, 968, 0, 100000), (968, 969, 0, 100000), (969, 970, 0, 100000), (970, 971, 0, 100000), (971, 972, 0, 100000), (972, 973, 0, 100000), (973, 974, 0, 100000), (974, 975, 0, 100000), (975, 976, 0, 100000), (976, 977, 0, 100000), (977, 978, 0, 100000), (978, 979, 0, 100000), (979, 980, 0, 100000), (980, 981, 0, 100000), (981, 982, 0, 100000), (982, 983, 0, 100000), (983, 984, 0, 100000), (984, 985, 0, 100000), (985, 986, 0, 100000), (986, 987, 0, 100000), (987, 988, 0, 100000), (993, 994, 0, 100000), (994, 995, 0, 100000), (1000, 1001, 0, 1)]
abbrev Q_mo_ruleMeant__p (S : sS) (first : Int) : pst := fun r S1 => RI S1 ∧ FR md_mo_ruleMeant__p S S1 ∧ (r = none ∧ (RML S S1 first))
set_option maxRecDepth 100000 in
theorem t_mo_ruleMeant__p {S : sS} (hH : RI S) (first : Int) (hfirst : 0 ≤ first ∧ first ≤ 5001) (hLS : LSP S) (h15 : 0 ≤ Xi S 904 15) (hRB : RBD S) (hB : ABV S) (hkx : Hid (∀ j : Nat, -1 ≤ Xi S 918 j ∧ Xi S 918 j ≤ 15)) (hLX : LXR S) (hp32 : 0 ≤ Xi S 904 32 ∧ Xi S 904 32 ≤ 12) (hkk : Hid (∀ k : Nat, (k : Int) < Xi S 904 15 → Xi S 914 k ≤ 1 → Xi S 915 k ≤ 15)) (hak : Hid (∀ j : Nat, -2 ≤ Xi S 942 j ∧ Xi S 942 j ≤ 15)) (hb6 : BYT S 906) (hlx7 : Hid (∀ j : Nat, (j : Int) < Xi S 904 15 → Xi S 914 j = 7 → 0 ≤ Xi S 915 j ∧ Xi S 915 j ≤ 11)) (hgb : Hid (AGB S)) (h94 : 0 ≤ Xi S 904 94 ∧ Xi S 904 94 ≤ 1700) (h98 : 0 ≤ Xi S 904 98 ∧ Xi S 904 98 ≤ 1700) (h117 : 0 ≤ Xi S 904 117 ∧ Xi S 904 117 + Xi S 904 94 + Xi S 904 98 ≤ 2400) (h125 : 0 ≤ Xi S 904 125 ∧ Xi S 904 125 + Xi S 904 98 ≤ 2000) (h130 : 0 ≤ Xi S 904 130 ∧ Xi S 904 130 ≤ 24) (htk : Hid (∀ k : Nat, (k : Int) < Xi S 904 94 → TRK S k)) (hpk : Hid (∀ k : Nat, (k : Int) < Xi S 904 98 → PKB S k)) (d : Nat) : Mp lay0 (d + 12) m_mo_ruleMeant [.ref 904, iv first] S (Q_mo_ruleMeant__p S first) := by sorry
end
section
def md_mo_asked__3 : List rec := [(904, 905, 64, 65), (904, 905, 104, 105), (904, 905, 105, 106), (904, 905, 106, 107), (904, 905, 108, 109), (904, 905, 109, 110), (904, 905, 110, 111), (904, 905, 112, 113), (904, 905, 113, 114), (904, 905, 115, 116), (904, 905, 116, 117), (904, 905, 117, 118), (904, 905, 125, 126), (904, 905, 128, 129), (904, 905, 129, 130), (904, 905, 130, 131), (904, 905, 142, 143), (904, 905, 144, 145), (904, 905, 146, 147), (904, 905, 147, 148), (904, 905, 150, 151), (904, 905, 151, 152), (904, 905, 153, 154), (904, 905, 154, 155), (904, 905, 156, 157), (904, 905, 157, 158), (904, 905, 158, 159), (904, 905, 160, 161), (966, 967, 0, 100000), (967, 968, 0, 100000), (968, 969, 0, 100000), (969, 970, 0, 100000), (970, 971, 0, 100000), (971, 972, 0, 100000), (972, 973, 0, 100000), (973, 974, 0, 100000), (974, 975, 0, 100000), (975, 976, 0, 100000), (976, 977, 0, 100000), (977, 978, 0, 100000), (978, 979, 0, 100000), (979, 980, 0, 100000), (980, 981, 0, 100000), (981, 982, 0, 100000), (982, 983, 0, 100000), (983, 984, 0, 100000), (984, 985, 0, 100000), (985, 986, 0, 100000), (986, 987, 0, 100000), (987, 988, 0, 100000), (988, 989, 0, 100000), (989, 990, 0, 100000), (990, 991, 0, 100000), (991, 992, 0, 100000), (992, 993, 0, 100000), (993, 994, 0, 100000), (994, 995, 0, 100000), (1000, 1001, 0, 1)]
abbrev Q_mo_asked__3 (S : sS) (first : Int) : pst := fun r S1 => RI S1 ∧ FR md_mo_asked__3 S S1 ∧ (r = none ∧ (∃ P : sS, FR lA S P ∧ (Xi P 904 106 = 0 ∧ Xi P 904 108 = 0 ∧ Xi P 904 115 = -1 ∧ Xi P 904 116 = -1) ∧ RML P S1 first))
set_option maxRecDepth 100000 in
theorem t_mo_asked__3 {S : sS} (hH : RI S) (first : Int) (hfirst : 0 ≤ first ∧ first ≤ 5001) (hLS : LSP S) (h15 : 0 ≤ Xi S 904 15) (hRB : RBD S) (hB : ABV S) (hkx : Hid (∀ j : Nat, -1 ≤ Xi S 918 j ∧ Xi S 918 j ≤ 15)) (hLX : LXR S) (hp32 : 0 ≤ Xi S 904 32 ∧ Xi S 904 32 ≤ 12) (hkk : Hid (∀ k : Nat, (k : Int) < Xi S 904 15 → Xi S 914 k ≤ 1 → Xi S 915 k ≤ 15)) (hak : Hid (∀ j : Nat, -2 ≤ Xi S 942 j ∧ Xi S 942 j ≤ 15)) (hb6 : BYT S 906) (hlx7 : Hid (∀ j : Nat, (j : Int) < Xi S 904 15 → Xi S 914 j = 7 → 0 ≤ Xi S 915 j ∧ Xi S 915 j ≤ 11)) (hgb : Hid (AGB S)) (h94 : 0 ≤ Xi S 904 94 ∧ Xi S 904 94 ≤ 1700) (h98 : 0 ≤ Xi S 904 98 ∧ Xi S 904 98 ≤ 1700) (h117 : 0 ≤ Xi S 904 117 ∧ Xi S 904 117 + Xi S 904 94 + Xi S 904 98 ≤ 2400) (h125 : 0 ≤ Xi S 904 125 ∧ Xi S 904 125 + Xi S 904 98 ≤ 2000) (h130 : 0 ≤ Xi S 904 130 ∧ Xi S 904 130 ≤ 24) (htk : Hid (∀ k : Nat, (k : Int) < Xi S 904 94 → TRK S k)) (hpk : Hid (∀ k : Nat, (k : Int) < Xi S 904 98 → PKB S k)) (hs : 3 ≤ Xi S 904 70 ∧ Xi S 904 70 ≤ 6) (d : Nat) : Mp lay0 (d + 13) m_mo_asked [.ref 904, iv first] S (Q_mo_asked__3 S first) := by sorry
def md_mo_does__3 : List rec := [(904, 905, 15, 16), (904, 905, 16, 17), (904, 905, 18, 19), (904, 905, 19, 20), (904, 905, 23, 24), (904, 905, 30, 31), (904, 905, 32, 33), (904, 905, 41, 42), (904, 905, 47, 48), (904, 905, 49, 50), (904, 905, 51, 52), (904, 905, 55, 56), (904, 905, 60, 61), (904, 905, 64, 65), (904, 905, 73, 74), (904, 905, 105, 106), (904, 905, 106, 107), (904, 905, 113, 114), (904, 905, 117, 118), (912, 913, 0, 100000), (913, 914, 0, 100000), (914, 915, 0, 100000), (915, 916, 0, 100000), (916, 917, 0, 100000), (917, 918, 0, 100000), (918, 919, 0, 100000), (919, 920, 0, 100000), (920, 921, 0, 100000), (921, 922, 0, 100000), (922, 923, 0, 100000), (923, 924, 0, 100000), (924, 925, 0, 100000), (925, 926, 0, 100000), (926, 927, 0, 100000), (927, 928, 0, 100000), (928, 929, 0, 100000), (929, 930, 0, 100000), (930, 931, 0, 100000), (931, 932, 0, 100000), (932, 933, 0, 100000), (933, 934, 0, 100000), (934, 935, 0, 100000), (935, 936, 0, 100000), (936, 937, 0, 100000), (937, 938, 0, 100000), (938, 939, 0, 100000), (939, 940, 0, 100000), (940, 941, 0, 100000), (941, 942, 0, 100000), (942, 943, 0, 100000), (943, 944, 0, 100000), (944, 945, 0, 100000), (945, 946, 0, 100000), (946, 947, 0, 100000), (947, 948, 0, 100000), (948, 949, 0, 100000), (949, 950, 0, 100000)]
abbrev Q_mo_does__3 (S : sS) (first : Int) : pst := fun r S1 => RI S1 ∧ FR md_mo_does__3 S S1 ∧ (r = none ∧ (S1 = S))
set_option maxRecDepth 100000 in
theorem t_mo_does__3 {S : sS} (hH : RI S) (first : Int) (hfirst : 0 ≤ first ∧ first ≤ 5001) (hs : 3 ≤ Xi S 904 70 ∧ Xi S 904 70 ≤ 6) (d : Nat) : Mp lay0 (d + 8) m_mo_does [.ref 904, iv first] S (Q_mo_does__3 S first) := by sorry
end
end
section
section
/-! the reference's reading: what is kept of tests and phrases -/
def tkR (S : sS) (i : Int) : Int := Xi S 907 i.toNat
theorem tkR_F7 {l : List rec} {S P : sS} (h : FR l S P) (e : kdis l [(907, 908)] = true) : tkR P = tkR S := by sorry
/-- a RUN stands from p to q -/
def RQ (T : Int → Int) (p q : Int) : Prop := p < q ∧ (∀ i : Int, p ≤ i → i < q → T i = 3) ∧ T q ≠ 3
/-- the run r is p to q -/
def RR (V : sS) (r p q : Int) : Prop := (0 ≤ r ∧ r < Xi V 904 69) ∧ Xi V 950 r.toNat = p ∧ Xi V 951 r.toNat = q - p
def RUNK (S V : sS) : Prop := Xi S 904 69 ≤ Xi V 904 69 ∧ ∀ r : Nat, (r : Int) < Xi S 904 69 → Xi V 950 r = Xi S 950 r ∧ Xi V 951 r = Xi S 951 r
theorem RUNK.rf {S : sS} : RUNK S S := by sorry
theorem RUNK.tr {S V W : sS} (h : RUNK S V) (g : RUNK V W) : RUNK S W := by sorry
theorem runk_F {l : List rec} {S V W : sS} (f : FR l V W) (e : kdis l [(950, 952)] = true) (e9 : mdf l 904 69 = false) (h : RUNK S V) : RUNK S W := by sorry
theorem runk_w {S V W : sS} {k j : Nat} {v : Int32} (e : W = uI V k j v) (h1 : k ≠ 950 ∧ k ≠ 951 ∧ (k ≠ 904 ∨ j ≠ 69)) (h : RUNK S V) : RUNK S W := by sorry
theorem rr_k {V W : sS} {r p q : Int} (h : RR V r p q) (k : RUNK V W) : RR W r p q := by sorry
def bT (T : Int → Int) (p : Int) : Int := if 100 ≤ T p ∧ T p ≤ 103 then p + 1 else p
/-- a THING stands from p to e -/
def TH3 (T : Int → Int) (V : sS) (p e so ta tr : Int) : Prop :=
  (T p = 154 ∧ so = 0 ∧ ta = p ∧ e = p + 1) ∨ (T p = 153 ∧ so = 1 ∧ ta = p ∧ e = p + 1) ∨ (T p = 102 ∧ T (p + 1) = 153 ∧ so = 1 ∧ ta = p ∧ e = p + 2) ∨
  (T p ≠ 154 ∧ T p ≠ 153 ∧ ¬ (T p = 102 ∧ T (p + 1) = 153) ∧ so = 2 ∧ ta = bT T p ∧ RQ T (bT T p) e ∧ RR V tr (bT T p) e)
theorem th3_k {T : Int → Int} {V W : sS} {p e so ta tr : Int} (h : TH3 T V p e so ta tr) (k : RUNK V W) : TH3 T W p e so ta tr := by sorry
/-- entries of tests that stay -/
def KTE (S V : sS) : Prop := ∀ c k : Nat, 952 ≤ c → c ≤ 962 → (k : Int) < Xi S 904 93 → Xi V c k = Xi S c k
theorem KTE.rf {S : sS} : KTE S S := by sorry
theorem kte_F {l : List rec} {S V W : sS} (f : FR l V W) (e : kdis l [(952, 963)] = true) (h : KTE S V) : KTE S W := by sorry
theorem kte_t {S V W : sS} (h : KTE S V) (g : KTE V W) (e : Xi S 904 93 ≤ Xi V 904 93) : KTE S W := by sorry
theorem kte_w {S V W : sS} {x j : Nat} {v : Int32} (e : W = uI V x j v) (hx : (x < 952 ∨ 962 < x) ∨ Xi S 904 93 ≤ (j : Int)) (h : KTE S V) : KTE S W := by sorry
def RNT (T : Int → Int) (S S1 : sS) (z : Int) : Prop := Xi S 904 65 = 0 ∧ (0 ≤ Xi S 904 8 ∧ Xi S 904 8 ≤ 5001) ∧ RQ T (Xi S 904 8) (Xi S1 904 8) ∧ z = Xi S 904 69 ∧ Xi S1 904 69 = Xi S 904 69 + 1 ∧ RR S1 z (Xi S 904 8) (Xi S1 904 8)
def NMT (T : Int → Int) (S S1 : sS) (z : Int) : Prop := Xi S 904 65 = 0 ∧ (0 ≤ Xi S 904 8 ∧ Xi S 904 8 ≤ 5001) ∧ RQ T (bT T (Xi S 904 8)) (Xi S1 904 8) ∧ z = Xi S 904 69 ∧ Xi S1 904 69 = Xi S 904 69 + 1 ∧ RR S1 z (bT T (Xi S 904 8)) (Xi S1 904 8)

abbrev Q_mo_isNext__t (S : sS) (k : Int) : pst := fun r S1 => S = S1 ∧ (∃ z : Int, r = some (iv z) ∧ (0 ≤ z ∧ z ≤ 1) ∧ ((z = 1 → Xi S 904 65 = 0 ∧ tkR S (Xi S 904 8) = k ∧ 0 ≤ Xi S 904 8 ∧ Xi S 904 8 ≤ 5001) ∧ (z = 0 → Xi S 904 65 ≠ 0 ∨ tkR S (Xi S 904 8) ≠ k)))
set_option maxRecDepth 100000 in
theorem t_mo_isNext__t {S : sS} (hH : RI S) (k : Int) (hk : -2147483648 ≤ k ∧ k ≤ 2147483647) (d : Nat) : Mp lay0 (d + 1) m_mo_isNext [.ref 904, iv k] S (Q_mo_isNext__t S k) := by sorry
abbrev Q_mo_look__t (S : sS) : pst := fun r S1 => S = S1 ∧ (∃ z : Int, r = some (iv z) ∧ (-2147483648 ≤ z ∧ z ≤ 2147483647) ∧ ((Xi S 904 65 = 0 → z = tkR S (Xi S 904 8) ∧ 0 ≤ Xi S 904 8 ∧ Xi S 904 8 ≤ 5001) ∧ (Xi S 904 65 ≠ 0 → z = 1)))
set_option maxRecDepth 100000 in
theorem t_mo_look__t {S : sS} (hH : RI S) (d : Nat) : Mp lay0 (d + 1) m_mo_look [.ref 904] S (Q_mo_look__t S) := by sorry
def md_mo_odd__t : List rec := [(904, 905, 65, 66), (904, 905, 66, 67)]
abbrev Q_mo_odd__t (S : sS) : pst := fun r S1 => RI S1 ∧ FR md_mo_odd__t S S1 ∧ (r = none ∧ (Xi S1 904 65 ≠ 0) ∧ (Xi S1 904 8 = Xi S 904 8))
set_option maxRecDepth 100000 in
theorem t_mo_odd__t {S : sS} (hH : RI S) (d : Nat) : Mp lay0 (d + 1) m_mo_odd [.ref 904] S (Q_mo_odd__t S) := by sorry
def md_mo_take__t : List rec := [(904, 905, 8, 9), (904, 905, 65, 66), (904, 905, 66, 67)]
abbrev Q_mo_take__t (S : sS) (k : Int) : pst := fun r S1 => RI S1 ∧ FR md_mo_take__t S S1 ∧ (r = none ∧ (Xi S1 904 65 = 0 → Xi S 904 65 = 0 ∧ tkR S (Xi S 904 8) = k ∧ 0 ≤ Xi S 904 8 ∧ Xi S1 904 8 = Xi S 904 8 + 1))
set_option maxRecDepth 100000 in
theorem t_mo_take__t {S : sS} (hH : RI S) (k : Int) (hk : -2147483648 ≤ k ∧ k ≤ 2147483647) (d : Nat) : Mp lay0 (d + 2) m_mo_take [.ref 904, iv k] S (Q_mo_take__t S k) := by sorry
def md_mo_art__t : List rec := [(904, 905, 8, 9), (904, 905, 65, 66), (904, 905, 66, 67)]
abbrev Q_mo_art__t (S : sS) : pst := fun r S1 => RI S1 ∧ FR md_mo_art__t S S1 ∧ (r = none ∧ (Xi S1 904 65 = 0 → Xi S 904 65 = 0 ∧ (100 ≤ tkR S (Xi S 904 8) ∧ tkR S (Xi S 904 8) ≤ 103) ∧ 0 ≤ Xi S 904 8 ∧ Xi S1 904 8 = Xi S 904 8 + 1))
set_option maxRecDepth 100000 in
theorem t_mo_art__t {S : sS} (hH : RI S) (d : Nat) : Mp lay0 (d + 2) m_mo_art [.ref 904] S (Q_mo_art__t S) := by sorry
def md_mo_run__t : List rec := [(904, 905, 8, 9), (904, 905, 65, 66), (904, 905, 66, 67), (904, 905, 69, 70), (950, 951, 0, 100000), (951, 952, 0, 100000)]
abbrev Q_mo_run__t (S : sS) : pst := fun r S1 => RI S1 ∧ FR md_mo_run__t S S1 ∧ (∃ z : Int, r = some (iv z) ∧ (-2147483648 ≤ z ∧ z ≤ 2147483647) ∧ (Xi S1 904 65 = 0 → RNT (tkR S) S S1 z) ∧ (RUNK S S1))
set_option maxRecDepth 100000 in
theorem t_mo_run__t {S : sS} (hH : RI S) (d : Nat) : Mp lay0 (d + 2) m_mo_run [.ref 904] S (Q_mo_run__t S) := by sorry
def md_mo_name__t : List rec := [(904, 905, 8, 9), (904, 905, 65, 66), (904, 905, 66, 67), (904, 905, 69, 70), (950, 951, 0, 100000), (951, 952, 0, 100000)]
abbrev Q_mo_name__t (S : sS) : pst := fun r S1 => RI S1 ∧ FR md_mo_name__t S S1 ∧ (∃ z : Int, r = some (iv z) ∧ (-2147483648 ≤ z ∧ z ≤ 2147483647) ∧ (Xi S1 904 65 = 0 → NMT (tkR S) S S1 z) ∧ (RUNK S S1))
set_option maxRecDepth 100000 in
theorem t_mo_name__t {S : sS} (hH : RI S) (d : Nat) : Mp lay0 (d + 3) m_mo_name [.ref 904] S (Q_mo_name__t S) := by sorry
end
section
def md_mo_thing__t : List rec := [(904, 905, 8, 9), (904, 905, 65, 66), (904, 905, 66, 67), (904, 905, 69, 70), (904, 905, 99, 100), (904, 905, 100, 101), (904, 905, 101, 102), (950, 951, 0, 100000), (951, 952, 0, 100000)]
abbrev Q_mo_thing__t (S : sS) : pst := fun r S1 => RI S1 ∧ FR md_mo_thing__t S S1 ∧ (r = none ∧ (Xi S1 904 65 = 0 → Xi S 904 65 = 0 ∧ (0 ≤ Xi S 904 8 ∧ Xi S 904 8 ≤ 5001) ∧ TH3 (tkR S) S1 (Xi S 904 8) (Xi S1 904 8) (Xi S1 904 100) (Xi S1 904 101) (Xi S1 904 99)) ∧ (RUNK S S1))
set_option maxRecDepth 100000 in
theorem t_mo_thing__t {S : sS} (hH : RI S) (d : Nat) : Mp lay0 (d + 4) m_mo_thing [.ref 904] S (Q_mo_thing__t S) := by sorry
/-! the reference's reading: what is kept of a THING, of the RUN of -/
def THE (T : Int → Int) (V : sS) (p e x y : Int) : Prop := ∃ so ta tr : Int, TH3 T V p e so ta tr ∧ x = so * 10000 + ta ∧ y = tr
theorem th3_b {T : Int → Int} {V : sS} {p e so ta tr : Int} (h : TH3 T V p e so ta tr) : (0 ≤ so ∧ so ≤ 2) ∧ (ta = p ∨ ta = p + 1) := by sorry
theorem the_k {T : Int → Int} {V W : sS} {p e x y : Int} (h : THE T V p e x y) (k : RUNK V W) : THE T W p e x y := by sorry
theorem the_of {T : Int → Int} {A B C : sS} {p e e1 : Int} {c : Nat} {i j : Nat} (h : TH3 T A p e (Xi A 904 100) (Xi A 904 101) (Xi A 904 99)) (hp : 0 ≤ p ∧ p ≤ 5001) (k : RUNK A C) {v w : Int} (e25 : B = uI A 954 i (Int32.ofInt v)) (e38 : C = uI B 955 j (Int32.ofInt w)) (hv : v = Xi A 904 100 * 10000 + Xi A 904 101 ∧ w = Xi A 904 99) (hc : i = c ∧ j = c ∧ e1 = e) : THE T C p e1 (Xi C 954 c) (Xi C 955 c) := by sorry
/-- the RUN of stands from p on, what is behind it at e -/
def PRE (T : Int → Int) (V : sS) (p e x : Int) : Prop := ∃ q : Int, T p = 102 ∧ RQ T (p + 1) q ∧ T q = 107 ∧ e = q + 1 ∧ RR V x (p + 1) q

def md_mo_thingOfTest__t : List rec := [(904, 905, 8, 9), (904, 905, 65, 66), (904, 905, 66, 67), (904, 905, 69, 70), (904, 905, 99, 100), (904, 905, 100, 101), (904, 905, 101, 102), (950, 951, 0, 100000), (951, 952, 0, 100000), (954, 955, 0, 100000), (955, 956, 0, 100000)]
abbrev Q_mo_thingOfTest__t (S : sS) : pst := fun r S1 => RI S1 ∧ FR md_mo_thingOfTest__t S S1 ∧ (r = none ∧ (Xi S1 904 65 = 0 → Xi S 904 65 = 0 ∧ (0 ≤ Xi S 904 8 ∧ Xi S 904 8 ≤ 5001) ∧ THE (tkR S) S1 (Xi S 904 8) (Xi S1 904 8) (Xi S1 954 (Xi S 904 93).toNat) (Xi S1 955 (Xi S 904 93).toNat)) ∧ (RUNK S S1) ∧ (KTE S S1))
set_option maxRecDepth 100000 in
theorem t_mo_thingOfTest__t {S : sS} (hH : RI S) (d : Nat) : Mp lay0 (d + 5) m_mo_thingOfTest [.ref 904] S (Q_mo_thingOfTest__t S) := by sorry
def md_mo_property__t : List rec := [(904, 905, 8, 9), (904, 905, 65, 66), (904, 905, 66, 67), (904, 905, 69, 70), (950, 951, 0, 100000), (951, 952, 0, 100000), (956, 957, 0, 100000)]
abbrev Q_mo_property__t (S : sS) : pst := fun r S1 => RI S1 ∧ FR md_mo_property__t S S1 ∧ (r = none ∧ (Xi S1 904 65 = 0 → Xi S 904 65 = 0 ∧ (0 ≤ Xi S 904 8 ∧ Xi S 904 8 ≤ 5001) ∧ PRE (tkR S) S1 (Xi S 904 8) (Xi S1 904 8) (Xi S1 956 (Xi S 904 93).toNat)) ∧ (RUNK S S1) ∧ (KTE S S1))
set_option maxRecDepth 100000 in
theorem t_mo_property__t {S : sS} (hH : RI S) (d : Nat) : Mp lay0 (d + 3) m_mo_property [.ref 904] S (Q_mo_property__t S) := by sorry
end
section
/-! the reference's reading: what is kept of PLACES, of WHAT -/
def PLE (T : Int → Int) (p e w : Int) : Prop := (T p = 108 ∧ w = 1 ∧ e = p + 1) ∨ (T p = 109 ∧ w = 2 ∧ e = p + 1) ∨ (T p = 129 ∧ T (p + 1) = 107 ∧ w = 3 ∧ e = p + 2) ∨ (T p = 130 ∧ T (p + 1) = 110 ∧ w = 4 ∧ e = p + 2) ∨ (T p = 131 ∧ T (p + 1) = 110 ∧ w = 5 ∧ e = p + 2)
def WHE (T : Int → Int) (V : sS) (p e r : Int) : Prop := ((T p = 4 ∨ T p = 5) ∧ e = p + 1) ∨ (T p ≠ 4 ∧ T p ≠ 5 ∧ RQ T p e ∧ RR V r p e)
theorem whe_k {T : Int → Int} {V W : sS} {p e r : Int} (h : WHE T V p e r) (k : RUNK V W) : WHE T W p e r := by sorry
def TWE (T : Int → Int) (V : sS) (now p e n0 f n w r : Int) : Prop :=
  (now = 0 ∧ ((T p = 151 ∧ f = 1) ∨ (T p = 152 ∧ f = 2)) ∧ T (p + 1) = 150 ∧ w = p + 2 ∧ T (p + 2) = 4 ∧ e = p + 3 ∧ n = n0) ∨
  (¬ (now = 0 ∧ (T p = 151 ∨ T p = 152)) ∧ f = 0 ∧ ∃ b : Int, ((now = 0 ∧ T p = 106 ∧ n = 1 ∧ b = p + 1) ∨ (¬ (now = 0 ∧ T p = 106) ∧ n = 0 ∧ b = p)) ∧ w = b ∧ WHE T V b e r)
theorem twe_k {T : Int → Int} {V W : sS} {now p e n0 f n w r : Int} (h : TWE T V now p e n0 f n w r) (k : RUNK V W) : TWE T W now p e n0 f n w r := by sorry
def md_mo_placing__t : List rec := [(904, 905, 8, 9), (904, 905, 65, 66), (904, 905, 66, 67)]
abbrev Q_mo_placing__t (S : sS) : pst := fun r S1 => RI S1 ∧ FR md_mo_placing__t S S1 ∧ (∃ z : Int, r = some (iv z) ∧ (-2147483648 ≤ z ∧ z ≤ 2147483647) ∧ (Xi S1 904 65 = 0 → Xi S 904 65 = 0 ∧ (0 ≤ Xi S 904 8 ∧ Xi S 904 8 ≤ 5001) ∧ PLE (tkR S) (Xi S 904 8) (Xi S1 904 8) z))
set_option maxRecDepth 100000 in
theorem t_mo_placing__t {S : sS} (hH : RI S) (d : Nat) : Mp lay0 (d + 3) m_mo_placing [.ref 904] S (Q_mo_placing__t S) := by sorry
def md_mo_what__t : List rec := [(904, 905, 8, 9), (904, 905, 65, 66), (904, 905, 66, 67), (904, 905, 69, 70), (904, 905, 78, 79), (950, 951, 0, 100000), (951, 952, 0, 100000)]
abbrev Q_mo_what__t (S : sS) : pst := fun r S1 => RI S1 ∧ FR md_mo_what__t S S1 ∧ (r = none ∧ (Xi S1 904 65 = 0 → Xi S 904 65 = 0 ∧ (0 ≤ Xi S 904 8 ∧ Xi S 904 8 ≤ 5001) ∧ WHE (tkR S) S1 (Xi S 904 8) (Xi S1 904 8) (Xi S1 904 69 - 1)) ∧ (Xi S1 904 78 = Xi S 904 8) ∧ (RUNK S S1))
set_option maxRecDepth 100000 in
theorem t_mo_what__t {S : sS} (hH : RI S) (d : Nat) : Mp lay0 (d + 3) m_mo_what [.ref 904] S (Q_mo_what__t S) := by sorry
end
end
section
section
def md_mo_testedWhat__t : List rec := [(904, 905, 8, 9), (904, 905, 65, 66), (904, 905, 66, 67), (904, 905, 69, 70), (904, 905, 78, 79), (950, 951, 0, 100000), (951, 952, 0, 100000), (952, 953, 0, 100000), (953, 954, 0, 100000), (957, 958, 0, 100000), (960, 961, 0, 100000)]
abbrev Q_mo_testedWhat__t (S : sS) (isNow : Int) : pst := fun r S1 => RI S1 ∧ FR md_mo_testedWhat__t S S1 ∧ (r = none ∧ (Xi S1 904 65 = 0 → Xi S 904 65 = 0 ∧ (0 ≤ Xi S 904 8 ∧ Xi S 904 8 ≤ 5001) ∧ TWE (tkR S) S1 isNow (Xi S 904 8) (Xi S1 904 8) (Xi S 953 (Xi S 904 93).toNat) (Xi S1 952 (Xi S 904 93).toNat) (Xi S1 953 (Xi S 904 93).toNat) (Xi S1 957 (Xi S 904 93).toNat) (Xi S1 960 (Xi S 904 93).toNat)) ∧ (RUNK S S1) ∧ (KTE S S1))
set_option maxRecDepth 100000 in
theorem t_mo_testedWhat__t {S : sS} (hH : RI S) (isNow : Int) (hisNow : 0 ≤ isNow ∧ isNow ≤ 1) (h69 : 0 ≤ Xi S 904 69) (d : Nat) : Mp lay0 (d + 4) m_mo_testedWhat [.ref 904, iv isNow] S (Q_mo_testedWhat__t S isNow) := by sorry
end
section
/-! the reference's reading: what is kept of a TEST -/
def ETR (k now : Int) : Prop := k = 46 ∨ k = 59 ∨ k = 1 ∨ (now = 0 ∧ (k = 116 ∨ k = 58))
def BOF (T : Int → Int) (t : Int) : Prop := T t = 102 ∧ ∃ q : Int, RQ T (t + 1) q ∧ T q = 107
def IST (T : Int → Int) (now p : Int) : Prop := ∃ t : Int, p ≤ t ∧ ETR (T t) now ∧ (∀ i : Int, p ≤ i → i < t → ¬ ETR (T i) now) ∧ ∃ i : Int, p ≤ i ∧ i < t ∧ T i = 104
def ISL (T : Int → Int) (now p k is : Int) : Prop := p ≤ k ∧ (∀ i : Int, p ≤ i → i < k → ¬ ETR (T i) now) ∧ (is = 0 ∨ is = 1) ∧ (is = 1 → ∃ i : Int, p ≤ i ∧ i < k ∧ T i = 104) ∧ (is = 0 → ∀ i : Int, p ≤ i → i < k → T i ≠ 104)
theorem isl_0 {T : Int → Int} {now p : Int} : ISL T now p p 0 := by sorry
theorem isl_s {T : Int → Int} {now p k is js v : Int} (h : ISL T now p k is) (hv : v = T k) (hn : ¬ ETR v now) (hj : js = (if is = 1 ∨ v = 104 then 1 else 0)) : ISL T now p (k + 1) js := by sorry
theorem isl_y {T : Int → Int} {now p k is : Int} (h : ISL T now p k is) (hk : ETR (T k) now) (hi : is = 1) : IST T now p := by sorry
theorem isl_n {T : Int → Int} {now p k is : Int} (h : ISL T now p k is) (hk : ETR (T k) now) (hi : is = 0) : ¬ IST T now p := by sorry
def LSE (k : Int) : Prop := k = 3 ∨ (100 ≤ k ∧ k ≤ 103) ∨ k = 154 ∨ k = 153
def TSB (T : Int → Int) (V : sS) (c : Nat) (p e now : Int) : Prop :=
  (¬ IST T now p ∧ Xi V 952 c = 5 ∧ Xi V 953 c = 0 ∧ p < e ∧ ∀ i : Int, p ≤ i → i < e → LSE (T i)) ∨
  (IST T now p ∧ BOF T p ∧ ∃ q r : Int, PRE T V p q (Xi V 956 c) ∧ THE T V q r (Xi V 954 c) (Xi V 955 c) ∧ T r = 104 ∧ TWE T V now (r + 1) e 0 (Xi V 952 c) (Xi V 953 c) (Xi V 957 c) (Xi V 960 c)) ∨
  (IST T now p ∧ ¬ BOF T p ∧ ∃ r b : Int, THE T V p r (Xi V 954 c) (Xi V 955 c) ∧ T r = 104 ∧ ((T (r + 1) = 106 ∧ Xi V 953 c = 1 ∧ b = r + 2) ∨ (T (r + 1) ≠ 106 ∧ Xi V 953 c = 0 ∧ b = r + 1)) ∧
    ((T b = 3 ∧ Xi V 952 c = 3 ∧ RQ T b e ∧ RR V (Xi V 956 c) b e) ∨ (T b ≠ 3 ∧ now = 0 ∧ Xi V 952 c = 4 ∧ ∃ g : Int, PLE T b g (Xi V 958 c) ∧ THE T V g e (Xi V 959 c) (Xi V 960 c))))
def TSTR (T : Int → Int) (V : sS) (c : Nat) (p e now : Int) : Prop := Xi V 961 c = p ∧ Xi V 962 c = e ∧ ETR (T e) now ∧ TSB T V c p e now
theorem pre_k {T : Int → Int} {V W : sS} {p e x : Int} (h : PRE T V p e x) (k : RUNK V W) : PRE T W p e x := by sorry
/-- the same entries, more runs -/
theorem tsb_k {T : Int → Int} {V W : sS} {c : Nat} {p e now : Int} (h : TSB T V c p e now) (k : RUNK V W) (x : ∀ z : Nat, 952 ≤ z → z ≤ 960 → Xi W z c = Xi V z c) : TSB T W c p e now := by sorry
theorem tstr_k {T : Int → Int} {V W : sS} {c : Nat} {p e now : Int} (h : TSTR T V c p e now) (k : RUNK V W) (x : ∀ z : Nat, 952 ≤ z → z ≤ 962 → Xi W z c = Xi V z c) : TSTR T W c p e now := by sorry
/-- what holds behind the middle of a test -/
def TMID (S V : sS) (now : Int) : Prop := (Xi V 904 65 = 0 → Xi S 904 65 = 0 ∧ TSB (tkR S) V (Xi S 904 93).toNat (Xi S 904 8) (Xi V 904 8) now) ∧ RUNK S V ∧ KTE S V ∧ Xi V 904 93 = Xi S 904 93 ∧ Xi V 961 (Xi S 904 93).toNat = Xi S 904 8

abbrev Q_mo_endsTest__t (S : sS) (k : Int) (isNow : Int) : pst := fun r S1 => S = S1 ∧ (∃ z : Int, r = some (iv z) ∧ (0 ≤ z ∧ z ≤ 1) ∧ ((z = 1 → ETR k isNow) ∧ (z = 0 → ¬ ETR k isNow)))
set_option maxRecDepth 100000 in
theorem t_mo_endsTest__t {S : sS} (hH : RI S) (k : Int) (isNow : Int) (hk : -2147483648 ≤ k ∧ k ≤ 2147483647) (hisNow : 0 ≤ isNow ∧ isNow ≤ 1) (d : Nat) : Mp lay0 (d + 1) m_mo_endsTest [.ref 904, iv k, iv isNow] S (Q_mo_endsTest__t S k isNow) := by sorry
abbrev Q_mo_beginsOf__t (S : sS) (t : Int) : pst := fun r S1 => S = S1 ∧ (∃ z : Int, r = some (iv z) ∧ (0 ≤ z ∧ z ≤ 1) ∧ ((z = 1 → BOF (tkR S) t) ∧ (z = 0 → ¬ BOF (tkR S) t)))
set_option maxRecDepth 100000 in
theorem t_mo_beginsOf__t {S : sS} (hH : RI S) (t : Int) (ht : -2147483648 ≤ t ∧ t ≤ 2147483646) (d : Nat) : Mp lay0 (d + 1) m_mo_beginsOf [.ref 904, iv t] S (Q_mo_beginsOf__t S t) := by sorry
/-! the reference's reading: a TEST, its ways -/
theorem mid_p {S U A B C D : sS} {now : Int} (hu : Xi U 904 8 = Xi S 904 8 ∧ Xi U 904 65 = Xi S 904 65 ∧ Xi U 904 93 = Xi S 904 93) (f : Xi U 961 (Xi S 904 93).toNat = Xi S 904 8 ∧ Xi U 953 (Xi S 904 93).toNat = 0) (k0 : RUNK S U) (q0 : KTE S U) (is : IST (tkR S) now (Xi S 904 8)) (bo : BOF (tkR S) (Xi S 904 8))
    (t1 : Xi A 904 65 = 0 → Xi U 904 65 = 0 ∧ (0 ≤ Xi U 904 8 ∧ Xi U 904 8 ≤ 5001) ∧ PRE (tkR S) A (Xi U 904 8) (Xi A 904 8) (Xi A 956 (Xi S 904 93).toNat)) (f1 : FR md_mo_property__t U A) (k1 : RUNK U A) (q1 : KTE U A)
    (t2 : Xi B 904 65 = 0 → Xi A 904 65 = 0 ∧ (0 ≤ Xi A 904 8 ∧ Xi A 904 8 ≤ 5001) ∧ THE (tkR S) B (Xi A 904 8) (Xi B 904 8) (Xi B 954 (Xi S 904 93).toNat) (Xi B 955 (Xi S 904 93).toNat)) (f2 : FR md_mo_thingOfTest__t A B) (k2 : RUNK A B) (q2 : KTE A B)
    (t3 : Xi C 904 65 = 0 → Xi B 904 65 = 0 ∧ tkR S (Xi B 904 8) = 104 ∧ 0 ≤ Xi B 904 8 ∧ Xi C 904 8 = Xi B 904 8 + 1) (f3 : FR md_mo_take__t B C)
    (t4 : Xi D 904 65 = 0 → Xi C 904 65 = 0 ∧ (0 ≤ Xi C 904 8 ∧ Xi C 904 8 ≤ 5001) ∧ TWE (tkR S) D now (Xi C 904 8) (Xi D 904 8) (Xi C 953 (Xi S 904 93).toNat) (Xi D 952 (Xi S 904 93).toNat) (Xi D 953 (Xi S 904 93).toNat) (Xi D 957 (Xi S 904 93).toNat) (Xi D 960 (Xi S 904 93).toNat)) (f4 : FR md_mo_testedWhat__t C D) (k4 : RUNK C D) (q4 : KTE C D) : TMID S D now := by sorry
/-- up to what stands behind is, not -/
def THB (S E : sS) (now : Int) : Prop := (Xi E 904 65 = 0 → Xi S 904 65 = 0 ∧ ∃ r : Int, THE (tkR S) E (Xi S 904 8) r (Xi E 954 (Xi S 904 93).toNat) (Xi E 955 (Xi S 904 93).toNat) ∧ tkR S r = 104 ∧ ((tkR S (r + 1) = 106 ∧ Xi E 953 (Xi S 904 93).toNat = 1 ∧ Xi E 904 8 = r + 2) ∨ (tkR S (r + 1) ≠ 106 ∧ Xi E 953 (Xi S 904 93).toNat = 0 ∧ Xi E 904 8 = r + 1))) ∧ RUNK S E ∧ KTE S E ∧ Xi E 904 93 = Xi S 904 93 ∧ Xi E 961 (Xi S 904 93).toNat = Xi S 904 8
theorem thb_of {S U A B C D : sS} {now n x : Int} (hu : Xi U 904 8 = Xi S 904 8 ∧ Xi U 904 65 = Xi S 904 65 ∧ Xi U 904 93 = Xi S 904 93) (f : Xi U 961 (Xi S 904 93).toNat = Xi S 904 8) (k0 : RUNK S U) (q0 : KTE S U) (h93 : 0 ≤ Xi S 904 93)
    (t1 : Xi A 904 65 = 0 → Xi U 904 65 = 0 ∧ (0 ≤ Xi U 904 8 ∧ Xi U 904 8 ≤ 5001) ∧ THE (tkR S) A (Xi U 904 8) (Xi A 904 8) (Xi A 954 (Xi S 904 93).toNat) (Xi A 955 (Xi S 904 93).toNat)) (f1 : FR md_mo_thingOfTest__t U A) (k1 : RUNK U A) (q1 : KTE U A)
    (t2 : Xi B 904 65 = 0 → Xi A 904 65 = 0 ∧ tkR S (Xi A 904 8) = 104 ∧ 0 ≤ Xi A 904 8 ∧ Xi B 904 8 = Xi A 904 8 + 1) (f2 : FR md_mo_take__t A B)
    (t3 : (n = 1 → Xi B 904 65 = 0 ∧ tkR S (Xi B 904 8) = 106 ∧ 0 ≤ Xi B 904 8 ∧ Xi B 904 8 ≤ 5001) ∧ (n = 0 → Xi B 904 65 ≠ 0 ∨ tkR S (Xi B 904 8) ≠ 106)) (hn : n = 0 ∨ n = 1) (e3 : C = uI B 953 (Xi S 904 93).toNat (Int32.ofInt n)) (e4 : D = uI C 904 8 (Int32.ofInt x)) (hx : x = Xi B 904 8 + n) : THB S D now := by sorry
theorem mid_r {S E F A D : sS} {now z : Int} (h : THB S E now) (is : IST (tkR S) now (Xi S 904 8)) (bo : ¬ BOF (tkR S) (Xi S 904 8)) (t0 : Xi E 904 65 = 0 ∧ tkR S (Xi E 904 8) = 3) (e1 : F = uI E 952 (Xi S 904 93).toNat (Int32.ofInt 3)) (t1 : Xi A 904 65 = 0 → RNT (tkR S) F A z) (f1 : FR md_mo_run__t F A) (k1 : RUNK F A) (rz : rg z) (e2 : D = uI A 956 (Xi S 904 93).toNat (Int32.ofInt z)) (h93 : 0 ≤ Xi S 904 93) : TMID S D now := by sorry
theorem mid_l {S E F A B C D G : sS} {now z : Int} (h : THB S E now) (is : IST (tkR S) now (Xi S 904 8)) (bo : ¬ BOF (tkR S) (Xi S 904 8)) (hn : now = 0) (t0 : Xi E 904 65 ≠ 0 ∨ tkR S (Xi E 904 8) ≠ 3) (e1 : F = uI E 952 (Xi S 904 93).toNat (Int32.ofInt 4)) (t1 : Xi A 904 65 = 0 → Xi F 904 65 = 0 ∧ (0 ≤ Xi F 904 8 ∧ Xi F 904 8 ≤ 5001) ∧ PLE (tkR S) (Xi F 904 8) (Xi A 904 8) z) (f1 : FR md_mo_placing__t F A) (rz : rg z) (e2 : B = uI A 958 (Xi S 904 93).toNat (Int32.ofInt z))
    (t2 : Xi C 904 65 = 0 → Xi B 904 65 = 0 ∧ (0 ≤ Xi B 904 8 ∧ Xi B 904 8 ≤ 5001) ∧ TH3 (tkR S) C (Xi B 904 8) (Xi C 904 8) (Xi C 904 100) (Xi C 904 101) (Xi C 904 99)) (f2 : FR md_mo_thing__t B C) (k2 : RUNK B C) {v u : Int} (e3 : D = uI C 959 (Xi S 904 93).toNat (Int32.ofInt v)) (e4 : G = uI D 960 (Xi S 904 93).toNat (Int32.ofInt u)) (hv : v = Xi C 904 100 * 10000 + Xi C 904 101) (hu : u = Xi C 904 99) (h93 : 0 ≤ Xi S 904 93) : TMID S G now := by sorry
theorem mid_o {S E A : sS} {now : Int} (k : RUNK S E) (q : KTE S E) (c : Xi E 904 93 = Xi S 904 93) (f : Xi E 961 (Xi S 904 93).toNat = Xi S 904 8) (t : Xi A 904 65 ≠ 0) (f1 : FR md_mo_odd__t E A) : TMID S A now := by sorry
end
end
section
section
def md_mo_test__t : List rec := [(904, 905, 8, 9), (904, 905, 65, 66), (904, 905, 66, 67), (904, 905, 69, 70), (904, 905, 78, 79), (904, 905, 93, 94), (904, 905, 99, 100), (904, 905, 100, 101), (904, 905, 101, 102), (950, 951, 0, 100000), (951, 952, 0, 100000), (952, 953, 0, 100000), (953, 954, 0, 100000), (954, 955, 0, 100000), (955, 956, 0, 100000), (956, 957, 0, 100000), (957, 958, 0, 100000), (958, 959, 0, 100000), (959, 960, 0, 100000), (960, 961, 0, 100000), (961, 962, 0, 100000), (962, 963, 0, 100000)]
abbrev Q_mo_test__t (S : sS) (isNow : Int) : pst := fun r S1 => RI S1 ∧ FR md_mo_test__t S S1 ∧ (r = none ∧ (Xi S1 904 65 = 0 → Xi S 904 65 = 0 ∧ TSTR (tkR S) S1 (Xi S 904 93).toNat (Xi S 904 8) (Xi S1 904 8) isNow) ∧ (RUNK S S1) ∧ (KTE S S1) ∧ (Xi S1 904 93 = Xi S 904 93 + 1))
set_option maxRecDepth 100000 in
theorem t_mo_test__t {S : sS} (hH : RI S) (isNow : Int) (hisNow : 0 ≤ isNow ∧ isNow ≤ 1) (h69 : 0 ≤ Xi S 904 69) (h93 : 0 ≤ Xi S 904 93) (d : Nat) : Mp lay0 (d + 6) m_mo_test [.ref 904, iv isNow] S (Q_mo_test__t S isNow) := by sorry
end
section
/-! the reference's reading: what is kept of TESTS -/
def TSQ (T : Int → Int) (V : sS) (c : Nat) (p : Int) : Nat → Int → Prop
  | 0, _ => False
  | 1, e => TSTR T V c p e 0
  | n + 2, e => ∃ q : Int, TSQ T V c p (n + 1) q ∧ T q = 116 ∧ TSTR T V (c + (n + 1)) (q + 1) e 0
theorem tsq_k {T : Int → Int} {V W : sS} {c : Nat} {p : Int} (k : RUNK V W) : ∀ (n : Nat) {e : Int}, (∀ z i : Nat, 952 ≤ z → z ≤ 962 → i < c + n → Xi W z i = Xi V z i) → TSQ T V c p n e → TSQ T W c p n e := by sorry
def TS5 (S V : sS) : Prop := (Xi V 904 65 = 0 → Xi S 904 65 = 0 ∧ ∃ n : Nat, 0 < n ∧ TSQ (tkR S) V (Xi S 904 93).toNat (Xi S 904 8) n (Xi V 904 8) ∧ Xi V 904 93 = Xi S 904 93 + n) ∧ RUNK S V ∧ KTE S V ∧ Xi S 904 93 ≤ Xi V 904 93
theorem ts5_1 {S V : sS} (t : Xi V 904 65 = 0 → Xi S 904 65 = 0 ∧ TSTR (tkR S) V (Xi S 904 93).toNat (Xi S 904 8) (Xi V 904 8) 0) (k : RUNK S V) (q : KTE S V) (c : Xi V 904 93 = Xi S 904 93 + 1) : TS5 S V := by sorry
theorem ts5_s {S V U W : sS} {x : Int} (h : TS5 S V) (h93 : 0 ≤ Xi S 904 93) (i : Xi V 904 65 = 0 ∧ tkR S (Xi V 904 8) = 116 ∧ 0 ≤ Xi V 904 8 ∧ Xi V 904 8 ≤ 5001) (e : U = uI V 904 8 (Int32.ofInt x)) (hx : x = Xi V 904 8 + 1) (t : Xi W 904 65 = 0 → Xi U 904 65 = 0 ∧ TSTR (tkR S) W (Xi U 904 93).toNat (Xi U 904 8) (Xi W 904 8) 0) (k : RUNK U W) (q : KTE U W) (c : Xi W 904 93 = Xi U 904 93 + 1) : TS5 S W := by sorry
def md_mo_tests__t : List rec := [(904, 905, 8, 9), (904, 905, 65, 66), (904, 905, 66, 67), (904, 905, 69, 70), (904, 905, 78, 79), (904, 905, 93, 94), (904, 905, 94, 95), (904, 905, 99, 100), (904, 905, 100, 101), (904, 905, 101, 102), (950, 951, 0, 100000), (951, 952, 0, 100000), (952, 953, 0, 100000), (953, 954, 0, 100000), (954, 955, 0, 100000), (955, 956, 0, 100000), (956, 957, 0, 100000), (957, 958, 0, 100000), (958, 959, 0, 100000), (959, 960, 0, 100000), (960, 961, 0, 100000), (961, 962, 0, 100000), (962, 963, 0, 100000)]
abbrev Q_mo_tests__t (S : sS) : pst := fun r S1 => RI S1 ∧ FR md_mo_tests__t S S1 ∧ (r = none ∧ (Xi S1 904 65 = 0 → Xi S 904 65 = 0 ∧ ∃ n : Nat, 0 < n ∧ TSQ (tkR S) S1 (Xi S 904 93).toNat (Xi S 904 8) n (Xi S1 904 8) ∧ tkR S (Xi S1 904 8) ≠ 116 ∧ Xi S1 904 93 = Xi S 904 93 + n) ∧ (RUNK S S1) ∧ (KTE S S1) ∧ (Xi S 904 93 ≤ Xi S1 904 93) ∧ (Xi S1 904 94 = Xi S1 904 93))
set_option maxRecDepth 100000 in
theorem t_mo_tests__t {S : sS} (hH : RI S) (h69 : 0 ≤ Xi S 904 69) (h93 : 0 ≤ Xi S 904 93) (d : Nat) : Mp lay0 (d + 7) m_mo_tests [.ref 904] S (Q_mo_tests__t S) := by sorry
end
end
section
section
/-! the reference's reading: what is kept of a PHRASE -/
def KPE (S V : sS) : Prop := ∀ c k : Nat, 963 ≤ c → c ≤ 965 → (k : Int) < Xi S 904 98 → Xi V c k = Xi S c k
theorem KPE.rf {S : sS} : KPE S S := by sorry
theorem kpe_F {l : List rec} {S V W : sS} (f : FR l V W) (e : kdis l [(963, 966)] = true) (h : KPE S V) : KPE S W := by sorry
theorem kpe_w {S V W : sS} {x j : Nat} {v : Int32} (e : W = uI V x j v) (hx : (x < 963 ∨ 965 < x) ∨ Xi S 904 98 ≤ (j : Int)) (h : KPE S V) : KPE S W := by sorry
/-- the entries of the phrase: its test's are c, its own are m -/
def PHE (T : Int → Int) (V : sS) (c m : Nat) (p e : Int) : Prop :=
  (T p = 143 ∧ Xi V 963 m = 0 ∧ Xi V 957 c = p + 1 ∧ T (p + 1) = 5 ∧ e = p + 2) ∨
  (T p = 144 ∧ Xi V 963 m = 1 ∧ TSTR T V c (p + 1) e 1) ∨
  (T p = 145 ∧ Xi V 963 m = 2 ∧ ∃ r : Int, THE T V (p + 1) r (Xi V 954 c) (Xi V 955 c) ∧ T r = 111 ∧ THE T V (r + 1) e (Xi V 959 c) (Xi V 960 c)) ∨
  (((T p = 146 ∧ Xi V 963 m = 3) ∨ (T p = 147 ∧ Xi V 963 m = 4)) ∧ ∃ q r : Int, PRE T V (p + 1) q (Xi V 956 c) ∧ THE T V q r (Xi V 954 c) (Xi V 955 c) ∧ T r = 110 ∧ Xi V 957 c = r + 1 ∧ T (r + 1) = 4 ∧ e = r + 2) ∨
  (T p = 149 ∧ Xi V 963 m = 5 ∧ ∃ r : Int, RQ T (p + 1) r ∧ RR V (Xi V 956 c) (p + 1) r ∧ (((T r = 154 ∨ T r = 153 ∨ (100 ≤ T r ∧ T r ≤ 103)) ∧ Xi V 953 c = 1 ∧ THE T V r e (Xi V 954 c) (Xi V 955 c)) ∨ (¬ (T r = 154 ∨ T r = 153 ∨ (100 ≤ T r ∧ T r ≤ 103)) ∧ Xi V 953 c = 0 ∧ e = r))) ∨
  (T p = 148 ∧ Xi V 963 m = 6 ∧ e = p + 1)
theorem phe_k {T : Int → Int} {V W : sS} {c m : Nat} {p e : Int} (h : PHE T V c m p e) (k : RUNK V W) (x : ∀ z : Nat, 952 ≤ z → z ≤ 962 → Xi W z c = Xi V z c) (y : Xi W 963 m = Xi V 963 m) : PHE T W c m p e := by sorry
/-- behind the beginning of a phrase -/
def PBG (S U : sS) (k : Int) : Prop := (Xi S 904 65 = 0 ∧ Xi U 904 65 = 0) ∧ Xi U 904 8 = Xi S 904 8 + 1 ∧ (Xi U 904 93 = Xi S 904 93 ∧ Xi U 904 98 = Xi S 904 98) ∧ RUNK S U ∧ KTE S U ∧ KPE S U ∧ (Xi U 965 (Xi S 904 98).toNat = Xi S 904 8 ∧ Xi U 964 (Xi S 904 98).toNat = Xi S 904 93) ∧ tkR S (Xi S 904 8) = k ∧ (0 ≤ Xi S 904 8 ∧ Xi S 904 8 ≤ 5001)
/-- behind the middle of a phrase -/
def PMID (S V : sS) : Prop := (Xi V 904 65 = 0 → Xi S 904 65 = 0 ∧ Xi V 904 93 = Xi S 904 93 + 1 ∧ PHE (tkR S) V (Xi S 904 93).toNat (Xi S 904 98).toNat (Xi S 904 8) (Xi V 904 8)) ∧ RUNK S V ∧ KTE S V ∧ KPE S V ∧ (Xi S 904 93 ≤ Xi V 904 93 ∧ Xi V 904 98 = Xi S 904 98) ∧ Xi V 965 (Xi S 904 98).toNat = Xi S 904 8 ∧ Xi V 964 (Xi S 904 98).toNat = Xi S 904 93
section PHM
variable {S U F A B C D G H : sS}
theorem pm_say {x y : Int} (h : PBG S U 143) (h93 : 0 ≤ Xi S 904 93 ∧ 0 ≤ Xi S 904 98) (e1 : F = uI U 963 (Xi S 904 98).toNat (Int32.ofInt 0)) (e2 : A = uI F 957 (Xi S 904 93).toNat (Int32.ofInt x)) (hx : x = Xi U 904 8) (t : Xi B 904 65 = 0 → Xi A 904 65 = 0 ∧ tkR S (Xi A 904 8) = 5 ∧ 0 ≤ Xi A 904 8 ∧ Xi B 904 8 = Xi A 904 8 + 1) (f : FR md_mo_take__t A B) (e3 : C = uI B 904 93 (Int32.ofInt y)) (hy : y = Xi S 904 93 + 1 ∧ y ≤ 2000) : PMID S C := by sorry
theorem pm_now (h : PBG S U 144) (h93 : 0 ≤ Xi S 904 93 ∧ 0 ≤ Xi S 904 98) (e1 : F = uI U 963 (Xi S 904 98).toNat (Int32.ofInt 1)) (t : Xi A 904 65 = 0 → Xi F 904 65 = 0 ∧ TSTR (tkR S) A (Xi F 904 93).toNat (Xi F 904 8) (Xi A 904 8) 1) (f : FR md_mo_test__t F A) (k : RUNK F A) (q : KTE F A) (c : Xi A 904 93 = Xi F 904 93 + 1) : PMID S A := by sorry
theorem pm_move {v u y : Int} (h : PBG S U 145) (h93 : 0 ≤ Xi S 904 93 ∧ 0 ≤ Xi S 904 98) (e1 : F = uI U 963 (Xi S 904 98).toNat (Int32.ofInt 2)) (t1 : Xi A 904 65 = 0 → Xi F 904 65 = 0 ∧ (0 ≤ Xi F 904 8 ∧ Xi F 904 8 ≤ 5001) ∧ THE (tkR S) A (Xi F 904 8) (Xi A 904 8) (Xi A 954 (Xi S 904 93).toNat) (Xi A 955 (Xi S 904 93).toNat)) (f1 : FR md_mo_thingOfTest__t F A) (k1 : RUNK F A) (q1 : KTE F A)
    (t2 : Xi B 904 65 = 0 → Xi A 904 65 = 0 ∧ tkR S (Xi A 904 8) = 111 ∧ 0 ≤ Xi A 904 8 ∧ Xi B 904 8 = Xi A 904 8 + 1) (f2 : FR md_mo_take__t A B) (t3 : Xi C 904 65 = 0 → Xi B 904 65 = 0 ∧ (0 ≤ Xi B 904 8 ∧ Xi B 904 8 ≤ 5001) ∧ TH3 (tkR S) C (Xi B 904 8) (Xi C 904 8) (Xi C 904 100) (Xi C 904 101) (Xi C 904 99)) (f3 : FR md_mo_thing__t B C) (k3 : RUNK B C)
    (e3 : D = uI C 959 (Xi S 904 93).toNat (Int32.ofInt v)) (e4 : G = uI D 960 (Xi S 904 93).toNat (Int32.ofInt u)) (hv : v = Xi C 904 100 * 10000 + Xi C 904 101) (hu : u = Xi C 904 99) (e5 : H = uI G 904 93 (Int32.ofInt y)) (hy : y = Xi S 904 93 + 1 ∧ y ≤ 2000) : PMID S H := by sorry
theorem pm_add {kk w x y : Int} (h : PBG S U kk) (h93 : 0 ≤ Xi S 904 93 ∧ 0 ≤ Xi S 904 98) (hk : (kk = 146 ∧ w = 3) ∨ (kk = 147 ∧ w = 4)) (e1 : F = uI U 963 (Xi S 904 98).toNat (Int32.ofInt w)) (t1 : Xi A 904 65 = 0 → Xi F 904 65 = 0 ∧ (0 ≤ Xi F 904 8 ∧ Xi F 904 8 ≤ 5001) ∧ PRE (tkR S) A (Xi F 904 8) (Xi A 904 8) (Xi A 956 (Xi S 904 93).toNat)) (f1 : FR md_mo_property__t F A) (k1 : RUNK F A) (q1 : KTE F A)
    (t2 : Xi B 904 65 = 0 → Xi A 904 65 = 0 ∧ (0 ≤ Xi A 904 8 ∧ Xi A 904 8 ≤ 5001) ∧ THE (tkR S) B (Xi A 904 8) (Xi B 904 8) (Xi B 954 (Xi S 904 93).toNat) (Xi B 955 (Xi S 904 93).toNat)) (f2 : FR md_mo_thingOfTest__t A B) (k2 : RUNK A B) (q2 : KTE A B)
    (t3 : Xi C 904 65 = 0 → Xi B 904 65 = 0 ∧ tkR S (Xi B 904 8) = 110 ∧ 0 ≤ Xi B 904 8 ∧ Xi C 904 8 = Xi B 904 8 + 1) (f3 : FR md_mo_take__t B C) (e3 : D = uI C 957 (Xi S 904 93).toNat (Int32.ofInt x)) (hx : x = Xi C 904 8) (t4 : Xi G 904 65 = 0 → Xi D 904 65 = 0 ∧ tkR S (Xi D 904 8) = 4 ∧ 0 ≤ Xi D 904 8 ∧ Xi G 904 8 = Xi D 904 8 + 1) (f4 : FR md_mo_take__t D G) (e5 : H = uI G 904 93 (Int32.ofInt y)) (hy : y = Xi S 904 93 + 1 ∧ y ≤ 2000) : PMID S H := by sorry
theorem pm_stop {y : Int} (h : PBG S U 148) (h93 : 0 ≤ Xi S 904 93 ∧ 0 ≤ Xi S 904 98) (e1 : F = uI U 963 (Xi S 904 98).toNat (Int32.ofInt 6)) (e2 : A = uI F 904 93 (Int32.ofInt y)) (hy : y = Xi S 904 93 + 1 ∧ y ≤ 2000) : PMID S A := by sorry
/-- try, up to its RUN -/
def PTY1 (S C : sS) (n : Int) : Prop := (Xi C 904 65 = 0 → Xi S 904 65 = 0 ∧ tkR S (Xi S 904 8) = 149 ∧ RQ (tkR S) (Xi S 904 8 + 1) (Xi C 904 8) ∧ RR C (Xi C 956 (Xi S 904 93).toNat) (Xi S 904 8 + 1) (Xi C 904 8)) ∧ RUNK S C ∧ KTE S C ∧ KPE S C ∧ (Xi C 904 93 = Xi S 904 93 ∧ Xi C 904 98 = Xi S 904 98) ∧ Xi C 965 (Xi S 904 98).toNat = Xi S 904 8 ∧ Xi C 964 (Xi S 904 98).toNat = Xi S 904 93 ∧ Xi C 963 (Xi S 904 98).toNat = 5 ∧ Xi C 953 (Xi S 904 93).toNat = n
theorem pm_try1 {z n : Int} (h : PBG S U 149) (h93 : 0 ≤ Xi S 904 93 ∧ 0 ≤ Xi S 904 98) (e1 : F = uI U 963 (Xi S 904 98).toNat (Int32.ofInt 5)) (t1 : Xi A 904 65 = 0 → RNT (tkR S) F A z) (f1 : FR md_mo_run__t F A) (k1 : RUNK F A) (rz : rg z) (e2 : B = uI A 956 (Xi S 904 93).toNat (Int32.ofInt z)) (e3 : C = uI B 953 (Xi S 904 93).toNat (Int32.ofInt n)) (hn : n = 0 ∨ n = 1) : PTY1 S C n := by sorry
theorem pm_try2 {y : Int} (h : PTY1 S C 1) (h93 : 0 ≤ Xi S 904 93 ∧ 0 ≤ Xi S 904 98) (hq : Xi C 904 65 = 0 → tkR S (Xi C 904 8) = 154 ∨ tkR S (Xi C 904 8) = 153 ∨ (100 ≤ tkR S (Xi C 904 8) ∧ tkR S (Xi C 904 8) ≤ 103)) (t1 : Xi D 904 65 = 0 → Xi C 904 65 = 0 ∧ (0 ≤ Xi C 904 8 ∧ Xi C 904 8 ≤ 5001) ∧ THE (tkR S) D (Xi C 904 8) (Xi D 904 8) (Xi D 954 (Xi S 904 93).toNat) (Xi D 955 (Xi S 904 93).toNat)) (f1 : FR md_mo_thingOfTest__t C D) (k1 : RUNK C D) (q1 : KTE C D) (e2 : G = uI D 904 93 (Int32.ofInt y)) (hy : y = Xi S 904 93 + 1 ∧ y ≤ 2000) : PMID S G := by sorry
theorem pm_try3 {y : Int} (h : PTY1 S C 0) (h93 : 0 ≤ Xi S 904 93 ∧ 0 ≤ Xi S 904 98) (hq : Xi C 904 65 = 0 → ¬ (tkR S (Xi C 904 8) = 154 ∨ tkR S (Xi C 904 8) = 153 ∨ (100 ≤ tkR S (Xi C 904 8) ∧ tkR S (Xi C 904 8) ≤ 103))) (e2 : G = uI C 904 93 (Int32.ofInt y)) (hy : y = Xi S 904 93 + 1 ∧ y ≤ 2000) : PMID S G := by sorry
end PHM

/-! the reference's reading: a PHRASE, its beginning -/
theorem uix {U T : sS} {k : Nat} {i j : Int} {v : Int32} (e : U = uI T k i.toNat v) (h : i = j) : U = uI T k j.toNat v := by sorry
def PB0 (S U : sS) : Prop := RUNK S U ∧ KTE S U ∧ KPE S U ∧ (Xi U 904 93 = Xi S 904 93 ∧ Xi U 904 98 = Xi S 904 98) ∧ Xi U 965 (Xi S 904 98).toNat = Xi S 904 8 ∧ Xi U 964 (Xi S 904 98).toNat = Xi S 904 93
theorem pb0_of {S A B C U : sS} {v1 v2 v3 x : Int} (h93 : 0 ≤ Xi S 904 93 ∧ 0 ≤ Xi S 904 98) (e1 : A = uI S 965 (Xi S 904 98).toNat (Int32.ofInt v1)) (e2 : B = uI A 964 (Xi S 904 98).toNat (Int32.ofInt v2)) (e3 : C = uI B 961 (Xi S 904 93).toNat (Int32.ofInt v3)) (h1 : v1 = Xi S 904 8) (h2 : v2 = Xi S 904 93) (e4 : U = uI C 904 8 (Int32.ofInt x)) : PB0 S U := by sorry
theorem pbg_of {S U : sS} {k kk x : Int} {C : sS} (h : PB0 S U) (c65 : Xi C 904 65 = Xi S 904 65) (c8 : Xi C 904 8 = Xi S 904 8) (t : (Xi S 904 65 = 0 → k = tkR S (Xi S 904 8) ∧ 0 ≤ Xi S 904 8 ∧ Xi S 904 8 ≤ 5001) ∧ (Xi S 904 65 ≠ 0 → k = 1)) (hk : k = kk ∧ 143 ≤ kk) (e4 : U = uI C 904 8 (Int32.ofInt x)) (hx : x = Xi C 904 8 + 1) : PBG S U kk := by sorry
theorem pm_odd {S U A B : sS} {v : Int32} (h : PB0 S U) (e : A = uI U 904 8 v) (t : Xi B 904 65 ≠ 0) (f : FR md_mo_odd__t A B) : PMID S B := by sorry
def md_mo_phrase__t : List rec := [(904, 905, 8, 9), (904, 905, 65, 66), (904, 905, 66, 67), (904, 905, 69, 70), (904, 905, 78, 79), (904, 905, 93, 94), (904, 905, 98, 99), (904, 905, 99, 100), (904, 905, 100, 101), (904, 905, 101, 102), (950, 951, 0, 100000), (951, 952, 0, 100000), (952, 953, 0, 100000), (953, 954, 0, 100000), (954, 955, 0, 100000), (955, 956, 0, 100000), (956, 957, 0, 100000), (957, 958, 0, 100000), (958, 959, 0, 100000), (959, 960, 0, 100000), (960, 961, 0, 100000), (961, 962, 0, 100000), (962, 963, 0, 100000), (963, 964, 0, 100000), (964, 965, 0, 100000), (965, 966, 0, 100000)]
abbrev Q_mo_phrase__t (S : sS) : pst := fun r S1 => RI S1 ∧ FR md_mo_phrase__t S S1 ∧ (r = none ∧ (Xi S1 904 65 = 0 → Xi S 904 65 = 0 ∧ Xi S1 904 93 = Xi S 904 93 + 1 ∧ PHE (tkR S) S1 (Xi S 904 93).toNat (Xi S 904 98).toNat (Xi S 904 8) (Xi S1 904 8) ∧ (tkR S (Xi S1 904 8) = 59 ∨ tkR S (Xi S1 904 8) = 46)) ∧ (RUNK S S1) ∧ (KTE S S1) ∧ (KPE S S1) ∧ (Xi S1 904 98 = Xi S 904 98 + 1 ∧ Xi S 904 93 ≤ Xi S1 904 93) ∧ (Xi S1 965 (Xi S 904 98).toNat = Xi S 904 8 ∧ Xi S1 964 (Xi S 904 98).toNat = Xi S 904 93))
set_option maxRecDepth 100000 in
set_option maxHeartbeats 4000000 in
theorem c409_mo_phrase__t {S : sS} (hH : RI S) (h69 : 0 ≤ Xi S 904 69) (h93 : 0 ≤ Xi S 904 93) (h98 : 0 ≤ Xi S 904 98) (d : Nat) (fu : Nat) : ∀  (T1 : sS) (_ : RI T1) (_ : FR md_mo_phrase__t S T1), (Hid (PMID S T1)) → (Xi T1 904 98 < 1700) → Pl fu lay0 (d + 6) m_mo_phrase 409 [(0, .ref 904)] [] T1 (Q_mo_phrase__t S) := by sorry
set_option maxRecDepth 100000 in
set_option maxHeartbeats 4000000 in
theorem c395_mo_phrase__t {S : sS} (hH : RI S) (h69 : 0 ≤ Xi S 904 69) (h93 : 0 ≤ Xi S 904 93) (h98 : 0 ≤ Xi S 904 98) (d : Nat) (fu : Nat) : ∀  (T4 : sS) (_ : RI T4) (_ : FR md_mo_phrase__t S T4), (Xi S 904 98 < 1700) → (Xi T4 904 98 = Xi S 904 98) → (Hid (PB0 S T4)) → Pl fu lay0 (d + 6) m_mo_phrase 395 [(0, .ref 904)] [] T4 (Q_mo_phrase__t S) := by sorry
set_option maxRecDepth 100000 in
set_option maxHeartbeats 4000000 in
theorem c96_mo_phrase__t {S : sS} (hH : RI S) (h69 : 0 ≤ Xi S 904 69) (h93 : 0 ≤ Xi S 904 93) (h98 : 0 ≤ Xi S 904 98) (d : Nat) (fu : Nat) : ∀  (T7 : sS) (_ : RI T7) (_ : FR md_mo_phrase__t S T7) (v1 : Int), (-2147483648 ≤ v1 ∧ v1 ≤ 2147483647) → (v1 = Xi S 904 98) → (Xi S 904 93 < 1700) → (Xi S 904 98 < 1700) → (Xi T7 904 93 = Xi S 904 93) → (Xi T7 904 98 = Xi S 904 98) → (0 ≤ Xi T7 904 69) → (Hid (PBG S T7 143)) → Pl fu lay0 (d + 6) m_mo_phrase 96 [(0, .ref 904), (1, iv v1)] [] T7 (Q_mo_phrase__t S) := by sorry
set_option maxRecDepth 100000 in
set_option maxHeartbeats 4000000 in
theorem c134_mo_phrase__t {S : sS} (hH : RI S) (h69 : 0 ≤ Xi S 904 69) (h93 : 0 ≤ Xi S 904 93) (h98 : 0 ≤ Xi S 904 98) (d : Nat) (fu : Nat) : ∀  (T12 : sS) (_ : RI T12) (_ : FR md_mo_phrase__t S T12) (v1 : Int), (-2147483648 ≤ v1 ∧ v1 ≤ 2147483647) → (v1 = Xi S 904 98) → (Xi S 904 93 < 1700) → (Xi S 904 98 < 1700) → (Xi T12 904 93 = Xi S 904 93) → (Xi T12 904 98 = Xi S 904 98) → (0 ≤ Xi T12 904 69) → (Hid (PBG S T12 144)) → Pl fu lay0 (d + 6) m_mo_phrase 134 [(0, .ref 904), (1, iv v1)] [] T12 (Q_mo_phrase__t S) := by sorry
set_option maxRecDepth 100000 in
set_option maxHeartbeats 4000000 in
theorem c149_mo_phrase__t {S : sS} (hH : RI S) (h69 : 0 ≤ Xi S 904 69) (h93 : 0 ≤ Xi S 904 93) (h98 : 0 ≤ Xi S 904 98) (d : Nat) (fu : Nat) : ∀  (T15 : sS) (_ : RI T15) (_ : FR md_mo_phrase__t S T15) (v1 : Int), (-2147483648 ≤ v1 ∧ v1 ≤ 2147483647) → (v1 = Xi S 904 98) → (Xi S 904 93 < 1700) → (Xi S 904 98 < 1700) → (Xi T15 904 93 = Xi S 904 93) → (Xi T15 904 98 = Xi S 904 98) → (0 ≤ Xi T15 904 69) → (Hid (PBG S T15 145)) → Pl fu lay0 (d + 6) m_mo_phrase 149 [(0, .ref 904), (1, iv v1)] [] T15 (Q_mo_phrase__t S) := by sorry
set_option maxRecDepth 100000 in
set_option maxHeartbeats 4000000 in
theorem c218_mo_phrase__t {S : sS} (hH : RI S) (h69 : 0 ≤ Xi S 904 69) (h93 : 0 ≤ Xi S 904 93) (h98 : 0 ≤ Xi S 904 98) (d : Nat) (fu : Nat) : ∀  (T23 : sS) (_ : RI T23) (_ : FR md_mo_phrase__t S T23) (v1 : Int) (v2 : Int), (-2147483648 ≤ v1 ∧ v1 ≤ 2147483647) → (-2147483648 ≤ v2 ∧ v2 ≤ 2147483647) → (v1 = Xi S 904 98) → (Xi S 904 93 < 1700) → (Xi S 904 98 < 1700) → (Xi T23 904 93 = Xi S 904 93) → (Xi T23 904 98 = Xi S 904 98) → (0 ≤ Xi T23 904 69) → (v2 = 146 ∨ v2 = 147) → (Hid (PBG S T23 v2)) → Pl fu lay0 (d + 6) m_mo_phrase 218 [(0, .ref 904), (1, iv v1), (2, iv v2)] [] T23 (Q_mo_phrase__t S) := by sorry
set_option maxRecDepth 100000 in
set_option maxHeartbeats 4000000 in
theorem c374_mo_phrase__t {S : sS} (hH : RI S) (h69 : 0 ≤ Xi S 904 69) (h93 : 0 ≤ Xi S 904 93) (h98 : 0 ≤ Xi S 904 98) (d : Nat) (fu : Nat) : ∀  (T38 : sS) (_ : RI T38) (_ : FR md_mo_phrase__t S T38) (v1 : Int), (-2147483648 ≤ v1 ∧ v1 ≤ 2147483647) → (v1 = Xi S 904 98) → (Xi S 904 93 < 1700) → (Xi S 904 98 < 1700) → (Xi T38 904 93 = Xi S 904 93) → (Xi T38 904 98 = Xi S 904 98) → (0 ≤ Xi T38 904 69) → (Hid (PBG S T38 148)) → Pl fu lay0 (d + 6) m_mo_phrase 374 [(0, .ref 904), (1, iv v1)] [] T38 (Q_mo_phrase__t S) := by sorry
set_option maxRecDepth 100000 in
set_option maxHeartbeats 4000000 in
theorem c281_mo_phrase__t {S : sS} (hH : RI S) (h69 : 0 ≤ Xi S 904 69) (h93 : 0 ≤ Xi S 904 93) (h98 : 0 ≤ Xi S 904 98) (d : Nat) (fu : Nat) : ∀  (T41 : sS) (_ : RI T41) (_ : FR md_mo_phrase__t S T41) (v1 : Int), (-2147483648 ≤ v1 ∧ v1 ≤ 2147483647) → (v1 = Xi S 904 98) → (Xi S 904 93 < 1700) → (Xi S 904 98 < 1700) → (Xi T41 904 93 = Xi S 904 93) → (Xi T41 904 98 = Xi S 904 98) → (0 ≤ Xi T41 904 69) → (Hid (PBG S T41 149)) → Pl fu lay0 (d + 6) m_mo_phrase 281 [(0, .ref 904), (1, iv v1)] [] T41 (Q_mo_phrase__t S) := by sorry
set_option maxRecDepth 100000 in
set_option maxHeartbeats 4000000 in
theorem t_mo_phrase__t {S : sS} (hH : RI S) (h69 : 0 ≤ Xi S 904 69) (h93 : 0 ≤ Xi S 904 93) (h98 : 0 ≤ Xi S 904 98) (d : Nat) : Mp lay0 (d + 7) m_mo_phrase [.ref 904] S (Q_mo_phrase__t S) := by sorry
end
section
/-! the reference's reading: what is kept of PHRASES, definitions -/
def PH1 (T : Int → Int) (V : sS) (c m : Nat) (p e : Int) : Prop := PHE T V c m p e ∧ Xi V 965 m = p ∧ Xi V 964 m = c ∧ (T e = 59 ∨ T e = 46)
def PSQ (T : Int → Int) (V : sS) (c m : Nat) (p : Int) : Nat → Int → Prop
  | 0, _ => False
  | 1, e => PH1 T V c m p e
  | n + 2, e => ∃ q : Int, PSQ T V c m p (n + 1) q ∧ T q = 59 ∧ PH1 T V (c + (n + 1)) (m + (n + 1)) (q + 1) e
theorem ph1_k {T : Int → Int} {V W : sS} {c m : Nat} {p e : Int} (h : PH1 T V c m p e) (k : RUNK V W) (x : ∀ z : Nat, 952 ≤ z → z ≤ 962 → Xi W z c = Xi V z c) (y : ∀ z : Nat, 963 ≤ z → z ≤ 965 → Xi W z m = Xi V z m) : PH1 T W c m p e := by sorry
theorem psq_k {T : Int → Int} {V W : sS} {c m : Nat} {p : Int} (k : RUNK V W) : ∀ (n : Nat) {e : Int}, (∀ z i : Nat, 952 ≤ z → z ≤ 962 → i < c + n → Xi W z i = Xi V z i) → (∀ z i : Nat, 963 ≤ z → z ≤ 965 → i < m + n → Xi W z i = Xi V z i) → PSQ T V c m p n e → PSQ T W c m p n e := by sorry
def PS4 (S V : sS) : Prop := (Xi V 904 65 = 0 → Xi S 904 65 = 0 ∧ ∃ n : Nat, 0 < n ∧ PSQ (tkR S) V (Xi S 904 93).toNat (Xi S 904 98).toNat (Xi S 904 8) n (Xi V 904 8) ∧ Xi V 904 93 = Xi S 904 93 + n ∧ Xi V 904 98 = Xi S 904 98 + n) ∧ RUNK S V ∧ KTE S V ∧ KPE S V ∧ Xi S 904 93 ≤ Xi V 904 93 ∧ Xi S 904 98 ≤ Xi V 904 98
theorem ps4_1 {S V : sS} (h93 : 0 ≤ Xi S 904 93) (t : Xi V 904 65 = 0 → Xi S 904 65 = 0 ∧ Xi V 904 93 = Xi S 904 93 + 1 ∧ PHE (tkR S) V (Xi S 904 93).toNat (Xi S 904 98).toNat (Xi S 904 8) (Xi V 904 8) ∧ (tkR S (Xi V 904 8) = 59 ∨ tkR S (Xi V 904 8) = 46)) (k : RUNK S V) (q : KTE S V) (p : KPE S V) (c : Xi V 904 98 = Xi S 904 98 + 1 ∧ Xi S 904 93 ≤ Xi V 904 93) (f : Xi V 965 (Xi S 904 98).toNat = Xi S 904 8 ∧ Xi V 964 (Xi S 904 98).toNat = Xi S 904 93) : PS4 S V := by sorry
theorem ps4_s {S V U W : sS} {x : Int} (h : PS4 S V) (h93 : 0 ≤ Xi S 904 93 ∧ 0 ≤ Xi S 904 98) (i : Xi V 904 65 = 0 ∧ tkR S (Xi V 904 8) = 59 ∧ 0 ≤ Xi V 904 8 ∧ Xi V 904 8 ≤ 5001) (e : U = uI V 904 8 (Int32.ofInt x)) (hx : x = Xi V 904 8 + 1) (t : Xi W 904 65 = 0 → Xi U 904 65 = 0 ∧ Xi W 904 93 = Xi U 904 93 + 1 ∧ PHE (tkR S) W (Xi U 904 93).toNat (Xi U 904 98).toNat (Xi U 904 8) (Xi W 904 8) ∧ (tkR S (Xi W 904 8) = 59 ∨ tkR S (Xi W 904 8) = 46)) (k : RUNK U W) (q : KTE U W) (p : KPE U W) (c : Xi W 904 98 = Xi U 904 98 + 1 ∧ Xi U 904 93 ≤ Xi W 904 93) (f : Xi W 965 (Xi U 904 98).toNat = Xi U 904 8 ∧ Xi W 964 (Xi U 904 98).toNat = Xi U 904 93) : PS4 S W := by sorry
/-- a definition: its words -/
def DFE (T : Int → Int) (V : sS) (c r0 : Nat) (p e : Int) : Prop := T (p + 1) = 58 ∧ (100 ≤ T (p + 2) ∧ T (p + 2) ≤ 103) ∧ ∃ (r q : Int) (n : Nat), RQ T (p + 3) r ∧ RR V r0 (p + 3) r ∧ T r = 104 ∧ RQ T (r + 1) q ∧ RR V ((r0 : Int) + 1) (r + 1) q ∧ T q = 136 ∧ 0 < n ∧ TSQ T V c (q + 1) n e ∧ T e ≠ 116 ∧ Xi V 904 93 = c + n ∧ Xi V 904 94 = Xi V 904 93
theorem dfe_of {S A B C D E F G H : sS} {x z1 z2 : Int} (h0 : (0 ≤ Xi S 904 8 ∧ Xi S 904 8 ≤ 5001) ∧ 0 ≤ Xi S 904 69 ∧ 0 ≤ Xi S 904 93) (e : A = uI S 904 8 (Int32.ofInt x)) (hx : x = Xi S 904 8 + 1)
    (t1 : Xi B 904 65 = 0 → Xi A 904 65 = 0 ∧ tkR S (Xi A 904 8) = 58 ∧ 0 ≤ Xi A 904 8 ∧ Xi B 904 8 = Xi A 904 8 + 1) (f1 : FR md_mo_take__t A B)
    (t2 : Xi C 904 65 = 0 → Xi B 904 65 = 0 ∧ (100 ≤ tkR S (Xi B 904 8) ∧ tkR S (Xi B 904 8) ≤ 103) ∧ 0 ≤ Xi B 904 8 ∧ Xi C 904 8 = Xi B 904 8 + 1) (f2 : FR md_mo_art__t B C)
    (t3 : Xi D 904 65 = 0 → RNT (tkR S) C D z1) (f3 : FR md_mo_run__t C D) (k3 : RUNK C D)
    (t4 : Xi E 904 65 = 0 → Xi D 904 65 = 0 ∧ tkR S (Xi D 904 8) = 104 ∧ 0 ≤ Xi D 904 8 ∧ Xi E 904 8 = Xi D 904 8 + 1) (f4 : FR md_mo_take__t D E)
    (t5 : Xi F 904 65 = 0 → RNT (tkR S) E F z2) (f5 : FR md_mo_run__t E F) (k5 : RUNK E F)
    (t6 : Xi G 904 65 = 0 → Xi F 904 65 = 0 ∧ tkR S (Xi F 904 8) = 136 ∧ 0 ≤ Xi F 904 8 ∧ Xi G 904 8 = Xi F 904 8 + 1) (f6 : FR md_mo_take__t F G)
    (t7 : Xi H 904 65 = 0 → Xi G 904 65 = 0 ∧ ∃ n : Nat, 0 < n ∧ TSQ (tkR S) H (Xi G 904 93).toNat (Xi G 904 8) n (Xi H 904 8) ∧ tkR S (Xi H 904 8) ≠ 116 ∧ Xi H 904 93 = Xi G 904 93 + n) (k7 : RUNK G H) (w7 : Xi H 904 94 = Xi H 904 93) (b : Xi H 904 65 = 0) : Xi S 904 65 = 0 ∧ DFE (tkR S) H (Xi S 904 93).toNat (Xi S 904 69).toNat (Xi S 904 8) (Xi H 904 8) := by sorry
def md_mo_phrases__t : List rec := [(904, 905, 8, 9), (904, 905, 65, 66), (904, 905, 66, 67), (904, 905, 69, 70), (904, 905, 78, 79), (904, 905, 93, 94), (904, 905, 98, 99), (904, 905, 99, 100), (904, 905, 100, 101), (904, 905, 101, 102), (950, 951, 0, 100000), (951, 952, 0, 100000), (952, 953, 0, 100000), (953, 954, 0, 100000), (954, 955, 0, 100000), (955, 956, 0, 100000), (956, 957, 0, 100000), (957, 958, 0, 100000), (958, 959, 0, 100000), (959, 960, 0, 100000), (960, 961, 0, 100000), (961, 962, 0, 100000), (962, 963, 0, 100000), (963, 964, 0, 100000), (964, 965, 0, 100000), (965, 966, 0, 100000)]
abbrev Q_mo_phrases__t (S : sS) : pst := fun r S1 => RI S1 ∧ FR md_mo_phrases__t S S1 ∧ (r = none ∧ (Xi S1 904 65 = 0 → Xi S 904 65 = 0 ∧ ∃ n : Nat, 0 < n ∧ PSQ (tkR S) S1 (Xi S 904 93).toNat (Xi S 904 98).toNat (Xi S 904 8) n (Xi S1 904 8) ∧ tkR S (Xi S1 904 8) ≠ 59 ∧ Xi S1 904 93 = Xi S 904 93 + n ∧ Xi S1 904 98 = Xi S 904 98 + n) ∧ (RUNK S S1) ∧ (KTE S S1) ∧ (KPE S S1))
set_option maxRecDepth 100000 in
theorem t_mo_phrases__t {S : sS} (hH : RI S) (h69 : 0 ≤ Xi S 904 69) (h93 : 0 ≤ Xi S 904 93) (h98 : 0 ≤ Xi S 904 98) (d : Nat) : Mp lay0 (d + 8) m_mo_phrases [.ref 904] S (Q_mo_phrases__t S) := by sorry
def md_mo_partTwo__t : List rec := [(904, 905, 8, 9), (904, 905, 65, 66), (904, 905, 66, 67), (904, 905, 69, 70), (904, 905, 78, 79), (904, 905, 93, 94), (904, 905, 94, 95), (904, 905, 99, 100), (904, 905, 100, 101), (904, 905, 101, 102), (950, 951, 0, 100000), (951, 952, 0, 100000), (952, 953, 0, 100000), (953, 954, 0, 100000), (954, 955, 0, 100000), (955, 956, 0, 100000), (956, 957, 0, 100000), (957, 958, 0, 100000), (958, 959, 0, 100000), (959, 960, 0, 100000), (960, 961, 0, 100000), (961, 962, 0, 100000), (962, 963, 0, 100000)]
abbrev Q_mo_partTwo__t (S : sS) : pst := fun r S1 => RI S1 ∧ FR md_mo_partTwo__t S S1 ∧ (r = none ∧ (Xi S1 904 65 = 0 → Xi S 904 65 = 0 ∧ DFE (tkR S) S1 (Xi S 904 93).toNat (Xi S 904 69).toNat (Xi S 904 8) (Xi S1 904 8)))
set_option maxRecDepth 100000 in
theorem t_mo_partTwo__t {S : sS} (hH : RI S) (h69 : 0 ≤ Xi S 904 69) (h93 : 0 ≤ Xi S 904 93) (hat : 0 ≤ Xi S 904 8 ∧ Xi S 904 8 ≤ 5001) (d : Nat) : Mp lay0 (d + 8) m_mo_partTwo [.ref 904] S (Q_mo_partTwo__t S) := by sorry
end
end
section
section
/-! the reference's reading: what is kept of a RULE -/
def ARK (k : Int) : Prop := 100 ≤ k ∧ k ≤ 103
/-- behind the first key (and of) -/
def RB0 (S V : sS) (s : Int) : Prop := (Xi V 904 65 = 0 → (s = 5 ∧ tkR S (Xi S 904 8 + 1) = 107 ∧ Xi V 904 8 = Xi S 904 8 + 2) ∨ (s ≠ 5 ∧ Xi V 904 8 = Xi S 904 8 + 1)) ∧ RUNK S V ∧ KTE S V ∧ KPE S V ∧ (Xi V 904 93 = Xi S 904 93 ∧ Xi V 904 98 = Xi S 904 98 ∧ Xi V 904 94 = Xi S 904 94 ∧ Xi V 904 69 = Xi S 904 69)
theorem rb0_n {S A B : sS} {s x : Int} (hat : 0 ≤ Xi S 904 8 ∧ Xi S 904 8 ≤ 5001) (e1 : A = uI S 904 70 (Int32.ofInt s)) (e2 : B = uI A 904 8 (Int32.ofInt x)) (hx : x = Xi S 904 8 + 1) (hs : s ≠ 5) : RB0 S B s := by sorry
theorem rb0_5 {S A B C : sS} {s x : Int} (hat : 0 ≤ Xi S 904 8 ∧ Xi S 904 8 ≤ 5001) (e1 : A = uI S 904 70 (Int32.ofInt s)) (e2 : B = uI A 904 8 (Int32.ofInt x)) (hx : x = Xi S 904 8 + 1) (hs : s = 5) (t : Xi C 904 65 = 0 → Xi B 904 65 = 0 ∧ tkR S (Xi B 904 8) = 107 ∧ 0 ≤ Xi B 904 8 ∧ Xi C 904 8 = Xi B 904 8 + 1) (f : FR md_mo_take__t B C) : RB0 S C s := by sorry
/-- ahead of the tests -/
def HDE (T : Int → Int) (V : sS) (s p h : Int) : Prop := ∃ a : Int, ((s = 5 ∧ T (p + 1) = 107 ∧ a = p + 2) ∨ (s ≠ 5 ∧ a = p + 1)) ∧
  ((s = 6 ∧ T a = 142 ∧ h = a + 1) ∨ (s ≠ 6 ∧ ∃ r : Int, RQ T a r ∧ RR V (Xi V 904 102) a r ∧ ((¬ ARK (T r) ∧ Xi V 904 103 = -1 ∧ h = r) ∨ (ARK (T r) ∧ RQ T (r + 1) h ∧ RR V (Xi V 904 103) (r + 1) h))))
theorem hde_k {T : Int → Int} {V W : sS} {s p h : Int} (x : HDE T V s p h) (k : RUNK V W) (y : Xi W 904 102 = Xi V 904 102 ∧ Xi W 904 103 = Xi V 904 103) : HDE T W s p h := by sorry
def RHD (S V : sS) (s : Int) : Prop := (Xi V 904 65 = 0 → HDE (tkR S) V s (Xi S 904 8) (Xi V 904 8)) ∧ RUNK S V ∧ KTE S V ∧ KPE S V ∧ (Xi V 904 93 = Xi S 904 93 ∧ Xi V 904 98 = Xi S 904 98 ∧ Xi V 904 94 = Xi S 904 94)
theorem rhd_6 {S B C : sS} {s : Int} (h : RB0 S B s) (hs : s = 6) (t : Xi C 904 65 = 0 → Xi B 904 65 = 0 ∧ tkR S (Xi B 904 8) = 142 ∧ 0 ≤ Xi B 904 8 ∧ Xi C 904 8 = Xi B 904 8 + 1) (f : FR md_mo_take__t B C) : RHD S C s := by sorry
theorem rhd_a {S B A C D : sS} {s z : Int} (h : RB0 S B s) (hs : s ≠ 6) (t : Xi A 904 65 = 0 → RNT (tkR S) B A z) (f : FR md_mo_run__t B A) (k : RUNK B A) (e1 : C = uI A 904 102 (Int32.ofInt z)) (e2 : D = uI C 904 103 (Int32.ofInt (-1))) (rz : rg z) (q : Xi D 904 65 = 0 → ¬ ARK (tkR S (Xi D 904 8))) : RHD S D s := by sorry
theorem rhd_o {S B A C D E F G : sS} {s z y x : Int} (h : RB0 S B s) (hs : s ≠ 6) (t : Xi A 904 65 = 0 → RNT (tkR S) B A z) (f : FR md_mo_run__t B A) (k : RUNK B A) (e1 : C = uI A 904 102 (Int32.ofInt z)) (e2 : D = uI C 904 103 (Int32.ofInt (-1))) (rz : rg z) (q : Xi D 904 65 = 0 ∧ ARK (tkR S (Xi D 904 8))) (e3 : E = uI D 904 8 (Int32.ofInt x)) (hx : x = Xi D 904 8 + 1) (rx : rg x) (t2 : Xi F 904 65 = 0 → RNT (tkR S) E F y) (f2 : FR md_mo_run__t E F) (k2 : RUNK E F) (e4 : G = uI F 904 103 (Int32.ofInt y)) (ry : rg y) : RHD S G s := by sorry
/-- the tests of a rule: n of them, from h on, then the : at g -/
def WHT (T : Int → Int) (V : sS) (c n : Nat) (t0 h g : Int) : Prop := (T h = 137 ∧ 0 < n ∧ TSQ T V c (h + 1) n g ∧ Xi V 904 94 = c + n) ∨ (T h ≠ 137 ∧ n = 0 ∧ g = h ∧ Xi V 904 94 = t0)
def RWH (S V : sS) (s : Int) : Prop := (Xi V 904 65 = 0 → ∃ (n : Nat) (h : Int), HDE (tkR S) V s (Xi S 904 8) h ∧ WHT (tkR S) V (Xi S 904 93).toNat n (Xi S 904 94) h (Xi V 904 8) ∧ Xi V 904 93 = Xi S 904 93 + n) ∧ RUNK S V ∧ KTE S V ∧ KPE S V ∧ (Xi S 904 93 ≤ Xi V 904 93 ∧ Xi V 904 98 = Xi S 904 98)
theorem rwh_n {S V : sS} {s : Int} (h : RHD S V s) (q : Xi V 904 65 ≠ 0 ∨ tkR S (Xi V 904 8) ≠ 137) : RWH S V s := by sorry
theorem rwh_y {S V U W : sS} {s x : Int} (h93 : 0 ≤ Xi S 904 93) (h : RHD S V s) (q : Xi V 904 65 = 0 ∧ tkR S (Xi V 904 8) = 137 ∧ 0 ≤ Xi V 904 8 ∧ Xi V 904 8 ≤ 5001) (e : U = uI V 904 8 (Int32.ofInt x)) (hx : x = Xi V 904 8 + 1) (t : Xi W 904 65 = 0 → Xi U 904 65 = 0 ∧ ∃ n : Nat, 0 < n ∧ TSQ (tkR S) W (Xi U 904 93).toNat (Xi U 904 8) n (Xi W 904 8) ∧ tkR S (Xi W 904 8) ≠ 116 ∧ Xi W 904 93 = Xi U 904 93 + n) (f : FR md_mo_tests__t U W) (k : RUNK U W) (r : KTE U W) (c : Xi U 904 93 ≤ Xi W 904 93) (w : Xi W 904 94 = Xi W 904 93) : RWH S W s := by sorry
/-- a RULE, all of it -/
def RUE (T : Int → Int) (V : sS) (c m : Nat) (t0 s p e : Int) : Prop := ∃ (n k : Nat) (h g : Int), HDE T V s p h ∧ WHT T V c n t0 h g ∧ T g = 58 ∧ 0 < k ∧ PSQ T V (c + n) m (g + 1) k e ∧ T e ≠ 59 ∧ Xi V 904 93 = c + n + k ∧ Xi V 904 98 = m + k
theorem rue_of {S V A W : sS} {s : Int} (h0 : 0 ≤ Xi S 904 93 ∧ 0 ≤ Xi S 904 98) (h : RWH S V s) (t1 : Xi A 904 65 = 0 → Xi V 904 65 = 0 ∧ tkR S (Xi V 904 8) = 58 ∧ 0 ≤ Xi V 904 8 ∧ Xi A 904 8 = Xi V 904 8 + 1) (f1 : FR md_mo_take__t V A) (t2 : Xi W 904 65 = 0 → Xi A 904 65 = 0 ∧ ∃ n : Nat, 0 < n ∧ PSQ (tkR S) W (Xi A 904 93).toNat (Xi A 904 98).toNat (Xi A 904 8) n (Xi W 904 8) ∧ tkR S (Xi W 904 8) ≠ 59 ∧ Xi W 904 93 = Xi A 904 93 + n ∧ Xi W 904 98 = Xi A 904 98 + n) (f2 : FR md_mo_phrases__t A W) (k2 : RUNK A W) (q2 : KTE A W) (b : Xi W 904 65 = 0) : RUE (tkR S) W (Xi S 904 93).toNat (Xi S 904 98).toNat (Xi S 904 94) s (Xi S 904 8) (Xi W 904 8) := by sorry
def md_mo_rule__t : List rec := [(904, 905, 8, 9), (904, 905, 65, 66), (904, 905, 66, 67), (904, 905, 69, 70), (904, 905, 70, 71), (904, 905, 78, 79), (904, 905, 93, 94), (904, 905, 94, 95), (904, 905, 98, 99), (904, 905, 99, 100), (904, 905, 100, 101), (904, 905, 101, 102), (904, 905, 102, 103), (904, 905, 103, 104), (950, 951, 0, 100000), (951, 952, 0, 100000), (952, 953, 0, 100000), (953, 954, 0, 100000), (954, 955, 0, 100000), (955, 956, 0, 100000), (956, 957, 0, 100000), (957, 958, 0, 100000), (958, 959, 0, 100000), (959, 960, 0, 100000), (960, 961, 0, 100000), (961, 962, 0, 100000), (962, 963, 0, 100000), (963, 964, 0, 100000), (964, 965, 0, 100000), (965, 966, 0, 100000)]
abbrev Q_mo_rule__t (S : sS) (s : Int) : pst := fun r S1 => RI S1 ∧ FR md_mo_rule__t S S1 ∧ (r = none ∧ (Xi S1 904 65 = 0 → RUE (tkR S) S1 (Xi S 904 93).toNat (Xi S 904 98).toNat (Xi S 904 94) s (Xi S 904 8) (Xi S1 904 8)))
set_option maxRecDepth 100000 in
theorem c107_mo_rule__t {S : sS} (hH : RI S) (s : Int) (hs : 3 ≤ s ∧ s ≤ 6) (h69 : 0 ≤ Xi S 904 69) (h93 : 0 ≤ Xi S 904 93) (h98 : 0 ≤ Xi S 904 98) (hat : 0 ≤ Xi S 904 8 ∧ Xi S 904 8 ≤ 5001) (h65 : Xi S 904 65 = 0) (d : Nat) (fu : Nat) : ∀  (T1 : sS) (_ : RI T1) (_ : FR md_mo_rule__t S T1), (Hid (RWH S T1 s)) → Pl fu lay0 (d + 8) m_mo_rule 107 [(0, .ref 904)] [] T1 (Q_mo_rule__t S s) := by sorry
set_option maxRecDepth 100000 in
theorem c83_mo_rule__t {S : sS} (hH : RI S) (s : Int) (hs : 3 ≤ s ∧ s ≤ 6) (h69 : 0 ≤ Xi S 904 69) (h93 : 0 ≤ Xi S 904 93) (h98 : 0 ≤ Xi S 904 98) (hat : 0 ≤ Xi S 904 8 ∧ Xi S 904 8 ≤ 5001) (h65 : Xi S 904 65 = 0) (d : Nat) (fu : Nat) : ∀  (T4 : sS) (_ : RI T4) (_ : FR md_mo_rule__t S T4), (Hid (RHD S T4 s)) → Pl fu lay0 (d + 8) m_mo_rule 83 [(0, .ref 904)] [] T4 (Q_mo_rule__t S s) := by sorry
set_option maxRecDepth 100000 in
theorem c26_mo_rule__t {S : sS} (hH : RI S) (s : Int) (hs : 3 ≤ s ∧ s ≤ 6) (h69 : 0 ≤ Xi S 904 69) (h93 : 0 ≤ Xi S 904 93) (h98 : 0 ≤ Xi S 904 98) (hat : 0 ≤ Xi S 904 8 ∧ Xi S 904 8 ≤ 5001) (h65 : Xi S 904 65 = 0) (d : Nat) (fu : Nat) : ∀  (T7 : sS) (_ : RI T7) (_ : FR md_mo_rule__t S T7), (Hid (RB0 S T7 s)) → Pl fu lay0 (d + 8) m_mo_rule 26 [(0, .ref 904), (1, iv s)] [] T7 (Q_mo_rule__t S s) := by sorry
set_option maxRecDepth 100000 in
theorem t_mo_rule__t {S : sS} (hH : RI S) (s : Int) (hs : 3 ≤ s ∧ s ≤ 6) (h69 : 0 ≤ Xi S 904 69) (h93 : 0 ≤ Xi S 904 93) (h98 : 0 ≤ Xi S 904 98) (hat : 0 ≤ Xi S 904 8 ∧ Xi S 904 8 ≤ 5001) (h65 : Xi S 904 65 = 0) (d : Nat) : Mp lay0 (d + 9) m_mo_rule [.ref 904, iv s] S (Q_mo_rule__t S s) := by sorry
end
section
/-! the reference's reading: what is kept of a definition, of a RULE, up to the dot -/
theorem dfe_k {T : Int → Int} {V W : sS} {c r0 : Nat} {p e : Int} (h : DFE T V c r0 p e) (k : RUNK V W) (q : KTE V W) (x : Xi W 904 93 = Xi V 904 93 ∧ Xi W 904 94 = Xi V 904 94) : DFE T W c r0 p e := by sorry
theorem rue_k {T : Int → Int} {V W : sS} {c m : Nat} {t0 s p e : Int} (h : RUE T V c m t0 s p e) (k : RUNK V W) (q : KTE V W) (u : KPE V W) (x : Xi W 904 93 = Xi V 904 93 ∧ Xi W 904 94 = Xi V 904 94 ∧ Xi W 904 98 = Xi V 904 98) (y : Xi W 904 102 = Xi V 904 102 ∧ Xi W 904 103 = Xi V 904 103) : RUE T W c m t0 s p e := by sorry
/-- a sentence begins -/
def SBG (S U : sS) : Prop := Xi U 904 65 = 0 ∧ Xi U 904 69 = 0 ∧ Xi U 904 93 = 0 ∧ Xi U 904 94 = 0 ∧ Xi U 904 98 = 0 ∧ Xi U 904 8 = Xi S 904 8
theorem sbg_of {S A B C D E F U : sS} (e1 : A = uI S 904 65 (Int32.ofInt 0)) (e2 : B = uI A 904 69 (Int32.ofInt 0)) (e3 : C = uI B 904 93 (Int32.ofInt 0)) (e4 : D = uI C 904 94 (Int32.ofInt 0)) (e5 : E = uI D 904 98 (Int32.ofInt 0)) (e6 : F = uI E 904 75 (Int32.ofInt 0)) (e7 : U = uI F 904 76 (Int32.ofInt 0)) : SBG S U := by sorry
theorem sen_2 {S U V W X : sS} (h : SBG S U) (e1 : V = uI U 904 70 (Int32.ofInt 2)) (t1 : Xi W 904 65 = 0 → Xi V 904 65 = 0 ∧ DFE (tkR S) W (Xi V 904 93).toNat (Xi V 904 69).toNat (Xi V 904 8) (Xi W 904 8)) (t2 : Xi X 904 65 = 0 → Xi W 904 65 = 0 ∧ tkR S (Xi W 904 8) = 46 ∧ 0 ≤ Xi W 904 8 ∧ Xi X 904 8 = Xi W 904 8 + 1) (f2 : FR md_mo_take__t W X) (b : Xi X 904 65 = 0) : ∃ e : Int, DFE (tkR S) X 0 0 (Xi S 904 8) e ∧ tkR S e = 46 ∧ Xi X 904 8 = e + 1 := by sorry
theorem sen_3 {S U W X : sS} {s : Int} (h : SBG S U) (t1 : Xi W 904 65 = 0 → RUE (tkR S) W (Xi U 904 93).toNat (Xi U 904 98).toNat (Xi U 904 94) s (Xi U 904 8) (Xi W 904 8)) (t2 : Xi X 904 65 = 0 → Xi W 904 65 = 0 ∧ tkR S (Xi W 904 8) = 46 ∧ 0 ≤ Xi W 904 8 ∧ Xi X 904 8 = Xi W 904 8 + 1) (f2 : FR md_mo_take__t W X) (b : Xi X 904 65 = 0) : ∃ e : Int, RUE (tkR S) X 0 0 0 s (Xi S 904 8) e ∧ tkR S e = 46 ∧ Xi X 904 8 = e + 1 := by sorry
def sKR (k : Int) : Int := if k = 138 then 3 else if k = 140 then 4 else if k = 139 then 5 else 6

def md_mo_sentence__t2 : List rec := [(904, 905, 8, 9), (904, 905, 65, 66), (904, 905, 66, 67), (904, 905, 69, 70), (904, 905, 70, 71), (904, 905, 71, 72), (904, 905, 72, 73), (904, 905, 73, 74), (904, 905, 74, 75), (904, 905, 75, 76), (904, 905, 76, 77), (904, 905, 77, 78), (904, 905, 78, 79), (904, 905, 79, 80), (904, 905, 80, 81), (904, 905, 81, 82), (904, 905, 93, 94), (904, 905, 94, 95), (904, 905, 98, 99), (904, 905, 99, 100), (904, 905, 100, 101), (904, 905, 101, 102), (904, 905, 102, 103), (904, 905, 103, 104), (950, 951, 0, 100000), (951, 952, 0, 100000), (952, 953, 0, 100000), (953, 954, 0, 100000), (954, 955, 0, 100000), (955, 956, 0, 100000), (956, 957, 0, 100000), (957, 958, 0, 100000), (958, 959, 0, 100000), (959, 960, 0, 100000), (960, 961, 0, 100000), (961, 962, 0, 100000), (962, 963, 0, 100000), (963, 964, 0, 100000), (964, 965, 0, 100000), (965, 966, 0, 100000)]
abbrev Q_mo_sentence__t2 (S : sS) : pst := fun r S1 => RI S1 ∧ FR md_mo_sentence__t2 S S1 ∧ (r = none ∧ (Xi S1 904 65 = 0 → ∃ e : Int, DFE (tkR S) S1 0 0 (Xi S 904 8) e ∧ tkR S e = 46 ∧ Xi S1 904 8 = e + 1))
set_option maxRecDepth 100000 in
theorem t_mo_sentence__t2 {S : sS} (hH : RI S) (hat : 0 ≤ Xi S 904 8 ∧ Xi S 904 8 ≤ 5001) (hk : tkR S (Xi S 904 8) = 135) (d : Nat) : Mp lay0 (d + 10) m_mo_sentence [.ref 904] S (Q_mo_sentence__t2 S) := by sorry
def md_mo_sentence__t3 : List rec := [(904, 905, 8, 9), (904, 905, 65, 66), (904, 905, 66, 67), (904, 905, 69, 70), (904, 905, 70, 71), (904, 905, 71, 72), (904, 905, 72, 73), (904, 905, 73, 74), (904, 905, 74, 75), (904, 905, 75, 76), (904, 905, 76, 77), (904, 905, 77, 78), (904, 905, 78, 79), (904, 905, 79, 80), (904, 905, 80, 81), (904, 905, 81, 82), (904, 905, 93, 94), (904, 905, 94, 95), (904, 905, 98, 99), (904, 905, 99, 100), (904, 905, 100, 101), (904, 905, 101, 102), (904, 905, 102, 103), (904, 905, 103, 104), (950, 951, 0, 100000), (951, 952, 0, 100000), (952, 953, 0, 100000), (953, 954, 0, 100000), (954, 955, 0, 100000), (955, 956, 0, 100000), (956, 957, 0, 100000), (957, 958, 0, 100000), (958, 959, 0, 100000), (959, 960, 0, 100000), (960, 961, 0, 100000), (961, 962, 0, 100000), (962, 963, 0, 100000), (963, 964, 0, 100000), (964, 965, 0, 100000), (965, 966, 0, 100000)]
abbrev Q_mo_sentence__t3 (S : sS) : pst := fun r S1 => RI S1 ∧ FR md_mo_sentence__t3 S S1 ∧ (r = none ∧ (Xi S1 904 65 = 0 → ∃ e : Int, RUE (tkR S) S1 0 0 0 (sKR (tkR S (Xi S 904 8))) (Xi S 904 8) e ∧ tkR S e = 46 ∧ Xi S1 904 8 = e + 1))
set_option maxRecDepth 100000 in
theorem t_mo_sentence__t3 {S : sS} (hH : RI S) (hat : 0 ≤ Xi S 904 8 ∧ Xi S 904 8 ≤ 5001) (hk : 138 ≤ tkR S (Xi S 904 8) ∧ tkR S (Xi S 904 8) ≤ 141) (d : Nat) : Mp lay0 (d + 10) m_mo_sentence [.ref 904] S (Q_mo_sentence__t3 S) := by sorry
end
section
/-! class and reference: the vocabularies -/
/-- the entry i of the class is the entry k of the reference -/
def WE (U S : sS) (i k : Nat) : Prop := sg7 (Xi S 914 k) = Xi U 3 i ∧ Xi S 915 k = Xi U 4 i ∧ (1 ≤ Xi S 912 k ∧ Xi S 912 k ≤ 3) ∧
  (∀ j : Nat, j < 3 → cd7 (Xj U 2 (3 * i + j)) ∧ ((j : Int) < Xi S 912 k → 0 < Xj U 2 (3 * i + j)) ∧ (Xi S 912 k ≤ (j : Int) → Xj U 2 (3 * i + j) = 0)) ∧
  (Xi S 916 k = 0 → ∀ j : Nat, (j : Int) < Xi S 912 k → Xj S 913 (3 * k + j) = cv (Xj U 2 (3 * i + j))) ∧
  (Xi S 916 k ≠ 0 → 150094635296999121 ≤ Xj U 2 (3 * i + ((Xi S 912 k).toNat - 1)) ∧ (Xi S 914 k = 10 ∨ ((Xi S 914 k = 1 ∨ Xi S 914 k = 3) ∧ Xj U 2 (3 * i + ((Xi S 912 k).toNat - 1)) % 27 = 19 ∧ ∀ j : Nat, (j : Int) < Xi S 912 k → Xj S 913 (3 * k + j) = cv (if (j : Int) + 1 = Xi S 912 k then Xj U 2 (3 * i + j) / 27 else Xj U 2 (3 * i + j)) ∧ ((j : Int) + 1 < Xi S 912 k → Xj U 2 (3 * i + j) < 150094635296999121)))) ∧ (Xi S 916 k = 0 → ∀ j : Nat, j < 3 → Xj U 2 (3 * i + j) < 150094635296999121)
def UNW (U : sS) : Prop := ∀ i j : Nat, (i : Int) < Xi U 1 3 → (j : Int) < Xi U 1 3 → (∀ t : Nat, t < 3 → Xj U 2 (3 * i + t) = Xj U 2 (3 * j + t)) → i = j
def VOC (U S : sS) : Prop := (Xi U 1 3 = Xi S 904 15 ∧ 0 ≤ Xi U 1 3) ∧ (∀ i : Nat, (i : Int) < Xi U 1 3 → ∃ k : Nat, (k : Int) < Xi U 1 3 ∧ WE U S i k) ∧ (∀ k : Nat, (k : Int) < Xi U 1 3 → ∃ i : Nat, (i : Int) < Xi U 1 3 ∧ WE U S i k) ∧ UNW U
abbrev mtC (U : sS) (a b c : Int) (i : Nat) : Prop := Xj U 2 (3 * i) = a ∧ Xj U 2 (3 * i + 1) = b ∧ Xj U 2 (3 * i + 2) = c
theorem msc_n {U : sS} {a b c : Int} : ∀ (m i : Nat), (∀ j : Nat, i ≤ j → j < i + m → ¬ mtC U a b c j) → msc U a b c m i = -1 := by sorry
theorem msc_y {U : sS} {a b c : Int} {i : Nat} (hi : mtC U a b c i) : ∀ (m s : Nat), s ≤ i → i < s + m → (∀ j : Nat, s ≤ j → j < s + m → mtC U a b c j → j = i) → msc U a b c m s = Xi U 3 i * 256 + Xi U 4 i := by sorry
theorem fdR_is {S : sS} {a b c n : Int} : ∀ m : Nat, fdR S a b c n m ≠ -1 → ∃ k : Nat, fdR S a b c n m = k ∧ k < m ∧ lxE S a b c n k := by sorry
theorem fdR_nn {S : sS} {a b c n : Int} {k : Nat} (hk : lxE S a b c n k) : ∀ m : Nat, k < m → fdR S a b c n m ≠ -1 := by sorry
/-- words of a run: the class's w, the reference's cv w -/
def wdC (w : Int) : Prop := 0 < w ∧ w < 150094635296999121
theorem wd_cd {w : Int} (h : wdC w) : cd7 w := by sorry
/-- a run of n words: an entry of one is that of the other -/
theorem we_mt {U S : sS} {i k : Nat} {x y z n : Int} (h : WE U S i k) (hn : 1 ≤ n ∧ n ≤ 3) (hx : wdC x) (hy : 1 < n → wdC y) (hz : 2 < n → wdC z) : lxE S (cv x) (if 1 < n then cv y else 0) (if 2 < n then cv z else 0) n k ↔ mtC U x (if 1 < n then y else 0) (if 2 < n then z else 0) i := by sorry
/-- three words mean the same to both -/
theorem voc_m {U S : sS} {x y z n : Int} (h : VOC U S) (hn : 1 ≤ n ∧ n ≤ 3) (hx : wdC x) (hy : 1 < n → wdC y) (hz : 2 < n → wdC z) : mnF U x (if 1 < n then y else 0) (if 2 < n then z else 0) = (if fdR S (cv x) (if 1 < n then cv y else 0) (if 2 < n then cv z else 0) n (Xi S 904 15).toNat = -1 then -1 else sg7 (Xi S 914 (fdR S (cv x) (if 1 < n then cv y else 0) (if 2 < n then cv z else 0) n (Xi S 904 15).toNat).toNat) * 256 + Xi S 915 (fdR S (cv x) (if 1 < n then cv y else 0) (if 2 < n then cv z else 0) n (Xi S 904 15).toNat).toNat) := by sorry
/-- rows from a to b are words, and the reference's words from t on are theirs -/
def RWD (U S : sS) (a b t : Int) : Prop := ∀ j : Int, 0 ≤ j → j < b - a → wdC (Xj U 879 (a + j).toNat) ∧ Xj S 910 (t + j).toNat = cv (Xj U 879 (a + j).toNat)
theorem voc_mn {U S : sS} {a b t : Int} (h : VOC U S) (ha : 0 ≤ a ∧ b ≤ 5130) (w : RWD U S a b t) : mnV U a b = mR S t (b - a) := by sorry
end
section
/-! class and reference: a sentence in both -/
/-- the row r and the token f + r -/
def TKW (U S : sS) (f r : Nat) : Prop := Xi S 908 (f + r) = Xi U 878 r ∧ Xi S 907 (f + r) = tr7 (Xi U 877 r) ∧ (Xi U 877 r = 100 → wdC (Xj U 879 r) ∧ Xj S 910 (f + r) = cv (Xj U 879 r)) ∧ (Xi U 877 r = 101 → Xj S 910 (f + r) = Xj U 879 r) ∧ (Xi U 877 r = 102 → Xi S 909 (f + r) = Xj U 879 r)
theorem ty_row {U : sS} {i : Int} (h : ty7 U i = 100) : 0 ≤ i ∧ i < Xi U 876 7 ∧ Xi U 877 i.toNat = 100 := by sorry
theorem srl_of {U S : sS} {f : Nat} (v : VOC U S) (t : ∀ r : Nat, (r : Int) < Xi U 876 7 → TKW U S f r) (hr : Xi U 876 7 ≤ 5130) : SRL U S f := by sorry
/-- the same kinds of tokens -/
theorem tkw_t {U S : sS} {f : Nat} (t : ∀ r : Nat, (r : Int) < Xi U 876 7 → TKW U S f r) {i : Int} (h0 : 0 ≤ i) (h1 : i < Xi U 876 7) : tkR S (f + i) = tr7 (ty7 U i) := by sorry
end
section
/-! class and reference: the vocabularies grow alike -/
/-- the pair (i, k) is the same before and behind -/
theorem we_k {U U1 S S1 : sS} {i k : Nat} (h : WE U S i k) (a : Xi U1 3 i = Xi U 3 i ∧ Xi U1 4 i = Xi U 4 i ∧ ∀ t, t < 3 → Xj U1 2 (3 * i + t) = Xj U 2 (3 * i + t)) (b : Xi S1 914 k = Xi S 914 k ∧ Xi S1 915 k = Xi S 915 k ∧ Xi S1 912 k = Xi S 912 k ∧ Xi S1 916 k = Xi S 916 k ∧ ∀ t, t < 3 → Xj S1 913 (3 * k + t) = Xj S 913 (3 * k + t)) : WE U1 S1 i k := by sorry
theorem voc_add {U U1 S S1 : sS} {N : Nat} (h : VOC U S) (hN : (N : Int) = Xi U 1 3) (cU : Xi U1 1 3 = Xi U 1 3 + 1) (cS : Xi S1 904 15 = Xi S 904 15 + 1) (kU : ∀ j : Nat, j ≠ N → Xi U1 3 j = Xi U 3 j ∧ Xi U1 4 j = Xi U 4 j ∧ ∀ t, t < 3 → Xj U1 2 (3 * j + t) = Xj U 2 (3 * j + t)) (kS : ∀ j : Nat, j ≠ N → Xi S1 914 j = Xi S 914 j ∧ Xi S1 915 j = Xi S 915 j ∧ Xi S1 912 j = Xi S 912 j ∧ Xi S1 916 j = Xi S 916 j ∧ ∀ t, t < 3 → Xj S1 913 (3 * j + t) = Xj S 913 (3 * j + t)) (w : WE U1 S1 N N) (nw : ∀ j : Nat, j < N → ¬ ∀ t, t < 3 → Xj U 2 (3 * j + t) = Xj U1 2 (3 * N + t)) : VOC U1 S1 := by sorry
/-- no two entries of the class have sort and number in common -/
def USW (U : sS) : Prop := ∀ i j : Nat, (i : Int) < Xi U 1 3 → (j : Int) < Xi U 1 3 → Xi U 3 i = Xi U 3 j → Xi U 4 i = Xi U 4 j → i = j
theorem usw_add {U U1 : sS} {N : Nat} (h : USW U) (hN : (N : Int) = Xi U 1 3) (cU : Xi U1 1 3 = Xi U 1 3 + 1) (kU : ∀ j : Nat, j ≠ N → Xi U1 3 j = Xi U 3 j ∧ Xi U1 4 j = Xi U 4 j) (fr : ∀ j : Nat, (j : Int) < Xi U 1 3 → Xi U 3 j = Xi U1 3 N → Xi U 4 j ≠ Xi U1 4 N) : USW U1 := by sorry
/-- one entry is named anew -/
theorem voc_ren {U U1 S S1 : sS} {p q : Nat} (h : VOC U S) (us : USW U) (hx : LXR S) (hp : (p : Int) < Xi U 1 3) (hq : (q : Int) < Xi U 1 3) (pq : WE U S p q) (cU : Xi U1 1 3 = Xi U 1 3) (cS : Xi S1 904 15 = Xi S 904 15) (kU : ∀ j : Nat, j ≠ p → Xi U1 3 j = Xi U 3 j ∧ Xi U1 4 j = Xi U 4 j ∧ ∀ t, t < 3 → Xj U1 2 (3 * j + t) = Xj U 2 (3 * j + t)) (kS : ∀ j : Nat, j ≠ q → Xi S1 914 j = Xi S 914 j ∧ Xi S1 915 j = Xi S 915 j ∧ Xi S1 912 j = Xi S 912 j ∧ Xi S1 916 j = Xi S 916 j ∧ ∀ t, t < 3 → Xj S1 913 (3 * j + t) = Xj S 913 (3 * j + t)) (uS : ∀ k l : Nat, (k : Int) < Xi S 904 15 → (l : Int) < Xi S 904 15 → Xi S 914 k = Xi S 914 l → Xi S 915 k = Xi S 915 l → k = l) (w : WE U1 S1 p q) (nw : ∀ j : Nat, (j : Int) < Xi U 1 3 → j ≠ p → ¬ ∀ t, t < 3 → Xj U 2 (3 * j + t) = Xj U1 2 (3 * p + t)) : VOC U1 S1 := by sorry
/-- what means nothing stands in no entry -/
theorem msc_ne {U : sS} {a b c : Int} (hC : CEN U) : ∀ (m s : Nat), (s : Int) + m ≤ Xi U 1 3 → msc U a b c m s = -1 → ∀ j : Nat, s ≤ j → j < s + m → ¬ mtC U a b c j := by sorry
/-- the words of new rows stand in no entry -/
theorem new_ne {U : sS} {a b : Int} (hC : CEN U) (h0 : 0 ≤ Xi U 1 3) (ha : 0 ≤ a ∧ b ≤ 5130) (hn : 1 ≤ b - a ∧ b - a ≤ 3) (h : mnV U a b = -1) : ∀ j : Nat, (j : Int) < Xi U 1 3 → ¬ mtC U (wRw U 879 a b 0) (wRw U 879 a b 1) (wRw U 879 a b 2) j := by sorry
end
section
/-! class and reference: bits -/
def gb (x p : Int) : Bool := (Int32.ofInt x).toBitVec.getLsbD p.toNat
theorem sm_31 {p : Int} (h : 0 ≤ p ∧ p < 32) : ((Int32.ofInt p &&& 31).toBitVec.smod 32).toNat = p.toNat := by sorry
theorem and1 (b : BitVec 32) : (b &&& 1#32).toInt = if b.getLsbD 0 then 1 else 0 := by sorry
theorem bt_gb {x p : Int} (h : 0 ≤ p ∧ p < 32) : iandF (ishrF x p) 1 = if gb x p then 1 else 0 := by sorry
theorem gb_or {x y p : Int} : gb (iorF x y) p = (gb x p || gb y p) := by sorry
theorem gb_and {x y p : Int} : gb (iandF x y) p = (gb x p && gb y p) := by sorry
theorem gb_shl {p q : Int} (hp : 0 ≤ p ∧ p < 32) (hq : 0 ≤ q ∧ q < 32) : gb (ishlF 1 q) p = decide (p = q) := by sorry
theorem gb_0 {p : Int} : gb 0 p = false := by sorry
end
section
/-! class and reference: kinds -/
def KND (U S : sS) : Prop := (Xi U 5 0 = Xi S 904 16 ∧ 0 ≤ Xi U 5 0 ∧ Xi U 5 0 ≤ 16) ∧ ∀ k : Nat, (k : Int) < Xi U 5 0 → Xi U 6 k = Xi S 917 k ∧ ((-1 ≤ Xi S 917 k ∧ Xi S 917 k < k) ∧ 0 ≤ Xi U 7 k ∧ Xi U 7 k < 4096) ∧ ∀ p : Int, 0 ≤ p → p < 12 → (gb (Xi U 7 k) p = true ↔ Xi S 929 (12 * (k : Int) + p).toNat ≠ 0)
theorem knd_bl {U S : sS} {o : Int} (h : KND U S) : ∀ (f g : Nat) (k : Int), k < Xi U 5 0 → k + 1 ≤ f → k + 1 ≤ g → isKn U o f k = blN S o g k := by sorry
theorem isK_bl {U S : sS} {k o : Int} (h : KND U S) (hk : k < Xi U 5 0) : isK U k o = blR S k o := by sorry
theorem knd_hs {U S : sS} {p : Int} (h : KND U S) (hp : 0 ≤ p ∧ p < 12) : ∀ (f g : Nat) (k a : Int), k < Xi U 5 0 → k + 1 ≤ f → k + 1 ≤ g → (gb (ppn U f k a) p = true ↔ gb a p = true ∨ hsN S p g k ≠ 0) := by sorry
theorem pps_hs {U S : sS} {k p : Int} (h : KND U S) (hk : k < Xi U 5 0) (hp : 0 ≤ p ∧ p < 12) : iandF (ishrF (pps U k) p) 1 ≠ 0 ↔ hsR S k p ≠ 0 := by sorry
theorem iorF_12 {x y : Int} (hx : 0 ≤ x ∧ x < 4096) (hy : 0 ≤ y ∧ y < 4096) : 0 ≤ iorF x y ∧ iorF x y < 4096 := by sorry
theorem ish_l : ∀ n : Fin 12, 0 ≤ ishlF 1 (n.val : Int) ∧ ishlF 1 (n.val : Int) < 4096 := by sorry
theorem ish_12 {p : Int} (hp : 0 ≤ p ∧ p < 12) : 0 ≤ ishlF 1 p ∧ ishlF 1 p < 4096 := by sorry
/-- bits of properties lie below 4096 -/
theorem ppn_12 {U S : sS} (h : KND U S) : ∀ (n : Nat) (k a : Int), k < Xi U 5 0 → (0 ≤ a ∧ a < 4096) → 0 ≤ ppn U n k a ∧ ppn U n k a < 4096 := by sorry
theorem pps_12 {U S : sS} (h : KND U S) {k : Int} (hk : k < Xi U 5 0) : 0 ≤ pps U k ∧ pps U k < 4096 := by sorry
/-- a property more of a kind -/
theorem knd_has {U U1 S S1 : sS} {k p : Int} (h : KND U S) (hk : 0 ≤ k ∧ k < Xi U 5 0) (hp : 0 ≤ p ∧ p < 12) (a : KHS U U1 k p) (b : KHR S S1 k p) (c0 : Xi U1 5 0 = Xi U 5 0) (c1 : Xi S1 904 16 = Xi S 904 16) (c6 : ∀ j, Xi U1 6 j = Xi U 6 j) (c9 : ∀ j, Xi S1 917 j = Xi S 917 j) : KND U1 S1 := by sorry
end
end
section
section
def md_mo_doFifteen__1f : List rec := [(904, 905, 105, 106), (904, 905, 106, 107), (925, 926, 0, 100000), (926, 927, 0, 100000), (933, 934, 0, 100000), (934, 935, 0, 100000), (935, 936, 0, 100000)]
abbrev Q_mo_doFifteen__1f (S : sS) : pst := fun r S1 => RI S1 ∧ FR md_mo_doFifteen__1f S S1 ∧ (r = none)
set_option maxRecDepth 100000 in
theorem t_mo_doFifteen__1f {S : sS} (hH : RI S) (hLS : LSP S) (h15 : 0 ≤ Xi S 904 15) (hRB : RBD S) (hLX : LXR S) (hct : Hid (∀ j : Nat, -1 ≤ Xi S 922 j ∧ Xi S 922 j ≤ 23)) (hh : Xi S 904 142 = 1) (hz0 : Xi S 904 106 = 0) (hk : rnR S (Xi S 904 71) 0 ≠ -1 ∧ rnR S (Xi S 904 71) 0 ≤ 15) (hra : 0 ≤ Xi S 967 0 ∧ Xi S 967 0 ≤ 7000) (d : Nat) : Mp lay0 (d + 7) m_mo_doFifteen [.ref 904] S (Q_mo_doFifteen__1f S) := by sorry
def md_mo_doFifteen__2f : List rec := [(904, 905, 15, 16), (904, 905, 30, 31), (912, 913, 0, 100000), (913, 914, 0, 100000), (914, 915, 0, 100000), (915, 916, 0, 100000), (916, 917, 0, 100000), (927, 928, 0, 100000)]
abbrev Q_mo_doFifteen__2f (S : sS) : pst := fun r S1 => RI S1 ∧ FR md_mo_doFifteen__2f S S1 ∧ (r = none)
set_option maxRecDepth 100000 in
theorem t_mo_doFifteen__2f {S : sS} (hH : RI S) (hLS : LSP S) (h15 : 0 ≤ Xi S 904 15) (hRB : RBD S) (hLX : LXR S) (hh : Xi S 904 142 = 2) (hw : 0 ≤ Xi S 904 78 ∧ Xi S 904 78 ≤ Xi S 904 69 ∧ Xi S 904 69 ≤ 2600) (hv : 0 ≤ Xi S 904 30 ∧ Xi S 904 30 + (Xi S 904 69 - Xi S 904 78) ≤ 64) (d : Nat) : Mp lay0 (d + 7) m_mo_doFifteen [.ref 904] S (Q_mo_doFifteen__2f S) := by sorry
def md_mo_doFifteen__3f : List rec := [(904, 905, 15, 16), (904, 905, 19, 20), (904, 905, 60, 61), (904, 905, 73, 74), (904, 905, 105, 106), (904, 905, 106, 107), (912, 913, 0, 100000), (913, 914, 0, 100000), (914, 915, 0, 100000), (915, 916, 0, 100000), (916, 917, 0, 100000), (918, 919, 0, 100000), (919, 920, 0, 100000), (920, 921, 0, 100000), (925, 926, 0, 100000), (926, 927, 0, 100000), (930, 931, 0, 100000), (931, 932, 0, 100000), (932, 933, 0, 100000)]
abbrev Q_mo_doFifteen__3f (S : sS) : pst := fun r S1 => RI S1 ∧ FR md_mo_doFifteen__3f S S1 ∧ (r = none)
set_option maxRecDepth 100000 in
theorem t_mo_doFifteen__3f {S : sS} (hH : RI S) (hLS : LSP S) (h15 : 0 ≤ Xi S 904 15) (hRB : RBD S) (hLX : LXR S) (hB : ABV S) (hl : 0 ≤ Xi S 904 71 ∧ Xi S 904 71 ≤ 2600 ∧ 0 ≤ Xi S 904 72 ∧ Xi S 904 72 ≤ 2600) (hkb : Hid (KB3 S)) (ho4 : Hid (OB4 S)) (hct : Hid (∀ j : Nat, -1 ≤ Xi S 922 j ∧ Xi S 922 j ≤ 23)) (hz0 : Xi S 904 106 = 0) (ha : 0 ≤ Xi S 904 19 ∧ Xi S 904 19 ≤ 24) (hr74 : -1 ≤ Xi S 904 74 ∧ Xi S 904 74 ≤ 2600) (hlq : Hid (LOQ S (Xi S 904 71) (Xi S 904 72).toNat)) (h110 : -1 ≤ Xi S 904 110 ∧ Xi S 904 110 ≤ 15) (h112 : 0 ≤ Xi S 904 112 ∧ Xi S 904 112 ≤ 6) (hra : Hid (Xi S 904 70 ≠ 13 → ∀ i : Nat, (i : Int) < Xi S 904 112 → 0 ≤ Xi S 967 i ∧ Xi S 967 i ≤ 7000)) (hh : Xi S 904 142 = 3) (d : Nat) : Mp lay0 (d + 7) m_mo_doFifteen [.ref 904] S (Q_mo_doFifteen__3f S) := by sorry
def md_mo_doFifteen__4f : List rec := [(904, 905, 60, 61), (904, 905, 64, 65), (904, 905, 105, 106), (904, 905, 106, 107), (904, 905, 113, 114), (925, 926, 0, 100000), (926, 927, 0, 100000), (930, 931, 0, 100000), (931, 932, 0, 100000), (932, 933, 0, 100000)]
abbrev Q_mo_doFifteen__4f (S : sS) : pst := fun r S1 => RI S1 ∧ FR md_mo_doFifteen__4f S S1 ∧ (r = none)
set_option maxRecDepth 100000 in
theorem t_mo_doFifteen__4f {S : sS} (hH : RI S) (hLS : LSP S) (h15 : 0 ≤ Xi S 904 15) (hRB : RBD S) (hLX : LXR S) (hB : ABV S) (hl : 0 ≤ Xi S 904 71 ∧ Xi S 904 71 ≤ 2600 ∧ 0 ≤ Xi S 904 72 ∧ Xi S 904 72 ≤ 2600) (hkb : Hid (KB3 S)) (hct : Hid (∀ j : Nat, -1 ≤ Xi S 922 j ∧ Xi S 922 j ≤ 23)) (hp32 : 0 ≤ Xi S 904 32 ∧ Xi S 904 32 ≤ 12) (hh : Xi S 904 142 = 4) (hz0 : Xi S 904 106 = 0) (hfw : 0 ≤ Xi S 950 (Xi S 904 78).toNat ∧ Xi S 950 (Xi S 904 78).toNat ≤ 5100) (hac : Hid (∀ i : Nat, (i : Int) < Xi S 904 72 → (0 ≤ o15R S i ∧ o15R S i ≤ 23) ∧ 0 ≤ a15R S (o15R S i) ∧ a15R S (o15R S i) ≤ 7000)) (d : Nat) : Mp lay0 (d + 7) m_mo_doFifteen [.ref 904] S (Q_mo_doFifteen__4f S) := by sorry
def md_mo_does__0f : List rec := [(904, 905, 105, 106), (904, 905, 106, 107), (930, 931, 0, 100000), (931, 932, 0, 100000), (932, 933, 0, 100000)]
abbrev Q_mo_does__0f (S : sS) (first : Int) : pst := fun r S1 => RI S1 ∧ FR md_mo_does__0f S S1 ∧ (r = none)
set_option maxRecDepth 100000 in
theorem t_mo_does__0f {S : sS} (hH : RI S) (first : Int) (hfirst : 0 ≤ first ∧ first ≤ 5001) (hs : Xi S 904 70 = 0) (hz0 : Xi S 904 106 = 0) (h60 : 0 ≤ Xi S 904 60 ∧ Xi S 904 60 ≤ 23) (h8 : -1 ≤ Xi S 908 (Xi S 904 81).toNat ∧ Xi S 908 (Xi S 904 81).toNat ≤ 100000) (d : Nat) : Mp lay0 (d + 8) m_mo_does [.ref 904, iv first] S (Q_mo_does__0f S first) := by sorry
def md_mo_does__1f : List rec := [(904, 905, 55, 56), (946, 947, 0, 100000), (947, 948, 0, 100000), (948, 949, 0, 100000), (949, 950, 0, 100000)]
abbrev Q_mo_does__1f (S : sS) (first : Int) : pst := fun r S1 => RI S1 ∧ FR md_mo_does__1f S S1 ∧ (r = none)
set_option maxRecDepth 100000 in
theorem t_mo_does__1f {S : sS} (hH : RI S) (first : Int) (hfirst : 0 ≤ first ∧ first ≤ 5001) (hLS : LSP S) (h15 : 0 ≤ Xi S 904 15) (hRB : RBD S) (h55 : 0 ≤ Xi S 904 55 ∧ Xi S 904 55 ≤ 19) (hs : Xi S 904 70 = 1) (d : Nat) : Mp lay0 (d + 8) m_mo_does [.ref 904, iv first] S (Q_mo_does__1f S first) := by sorry
def md_mo_does__2f : List rec := [(904, 905, 15, 16), (904, 905, 23, 24), (904, 905, 117, 118), (912, 913, 0, 100000), (913, 914, 0, 100000), (914, 915, 0, 100000), (915, 916, 0, 100000), (916, 917, 0, 100000), (921, 922, 0, 100000), (922, 923, 0, 100000), (923, 924, 0, 100000), (924, 925, 0, 100000)]
abbrev Q_mo_does__2f (S : sS) (first : Int) : pst := fun r S1 => RI S1 ∧ FR md_mo_does__2f S S1 ∧ (r = none)
set_option maxRecDepth 100000 in
theorem t_mo_does__2f {S : sS} (hH : RI S) (first : Int) (hfirst : 0 ≤ first ∧ first ≤ 5001) (hLS : LSP S) (h15 : 0 ≤ Xi S 904 15) (hRB : RBD S) (ha : 0 ≤ Xi S 904 23 ∧ Xi S 904 23 ≤ 30) (h94 : 0 ≤ Xi S 904 94 ∧ Xi S 904 94 ≤ 1700) (h117 : 0 ≤ Xi S 904 117 ∧ Xi S 904 117 ≤ 2400) (hs : Xi S 904 70 = 2) (d : Nat) : Mp lay0 (d + 8) m_mo_does [.ref 904, iv first] S (Q_mo_does__2f S first) := by sorry
def md_mo_does__7f : List rec := [(904, 905, 15, 16), (904, 905, 47, 48), (912, 913, 0, 100000), (913, 914, 0, 100000), (914, 915, 0, 100000), (915, 916, 0, 100000), (916, 917, 0, 100000), (941, 942, 0, 100000)]
abbrev Q_mo_does__7f (S : sS) (first : Int) : pst := fun r S1 => RI S1 ∧ FR md_mo_does__7f S S1 ∧ (r = none)
set_option maxRecDepth 100000 in
theorem t_mo_does__7f {S : sS} (hH : RI S) (first : Int) (hfirst : 0 ≤ first ∧ first ≤ 5001) (hLS : LSP S) (h15 : 0 ≤ Xi S 904 15) (hRB : RBD S) (hs : Xi S 904 70 = 7) (ha : 0 ≤ Xi S 904 47 ∧ Xi S 904 47 ≤ 8) (d : Nat) : Mp lay0 (d + 8) m_mo_does [.ref 904, iv first] S (Q_mo_does__7f S first) := by sorry
def md_mo_does__8f : List rec := [(904, 905, 15, 16), (912, 913, 0, 100000), (913, 914, 0, 100000), (914, 915, 0, 100000), (915, 916, 0, 100000), (916, 917, 0, 100000)]
abbrev Q_mo_does__8f (S : sS) (first : Int) : pst := fun r S1 => RI S1 ∧ FR md_mo_does__8f S S1 ∧ (r = none)
set_option maxRecDepth 100000 in
theorem t_mo_does__8f {S : sS} (hH : RI S) (first : Int) (hfirst : 0 ≤ first ∧ first ≤ 5001) (hLS : LSP S) (h15 : 0 ≤ Xi S 904 15) (hRB : RBD S) (hs : Xi S 904 70 = 8) (h15b : Xi S 904 15 ≤ 100000) (d : Nat) : Mp lay0 (d + 8) m_mo_does [.ref 904, iv first] S (Q_mo_does__8f S first) := by sorry
def md_mo_does__9f : List rec := [(904, 905, 105, 106), (904, 905, 106, 107), (930, 931, 0, 100000), (931, 932, 0, 100000), (932, 933, 0, 100000), (933, 934, 0, 100000), (934, 935, 0, 100000), (935, 936, 0, 100000)]
abbrev Q_mo_does__9f (S : sS) (first : Int) : pst := fun r S1 => RI S1 ∧ FR md_mo_does__9f S S1 ∧ (r = none)
set_option maxRecDepth 100000 in
theorem t_mo_does__9f {S : sS} (hH : RI S) (first : Int) (hfirst : 0 ≤ first ∧ first ≤ 5001) (hLS : LSP S) (h15 : 0 ≤ Xi S 904 15) (hRB : RBD S) (hLX : LXR S) (hz0 : Xi S 904 106 = 0) (h7 : rnR S 0 7 ≠ -1) (h17 : rnR S 1 4 = -1 → rnR S 1 0 ≠ -1) (hs : Xi S 904 70 = 9) (d : Nat) : Mp lay0 (d + 8) m_mo_does [.ref 904, iv first] S (Q_mo_does__9f S first) := by sorry
def md_mo_does__10f : List rec := [(904, 905, 15, 16), (904, 905, 16, 17), (904, 905, 18, 19), (912, 913, 0, 100000), (913, 914, 0, 100000), (914, 915, 0, 100000), (915, 916, 0, 100000), (916, 917, 0, 100000), (917, 918, 0, 100000), (926, 927, 0, 100000), (929, 930, 0, 100000), (933, 934, 0, 100000)]
abbrev Q_mo_does__10f (S : sS) (first : Int) : pst := fun r S1 => RI S1 ∧ FR md_mo_does__10f S S1 ∧ (r = none)
set_option maxRecDepth 100000 in
theorem t_mo_does__10f {S : sS} (hH : RI S) (first : Int) (hfirst : 0 ≤ first ∧ first ≤ 5001) (hLS : LSP S) (h15 : 0 ≤ Xi S 904 15) (hRB : RBD S) (hLX : LXR S) (hl : 0 ≤ Xi S 904 71 ∧ Xi S 904 71 ≤ 2600 ∧ 0 ≤ Xi S 904 72 ∧ Xi S 904 72 ≤ 2600) (hs : Xi S 904 70 = 10) (ha : 0 ≤ Xi S 904 16 ∧ Xi S 904 16 ≤ 16 ∧ 0 ≤ Xi S 904 18 ∧ Xi S 904 18 ≤ 8) (hb : cKR S + Xi S 904 72 ≤ 16) (h15b : Xi S 904 15 ≤ 100000) (d : Nat) : Mp lay0 (d + 8) m_mo_does [.ref 904, iv first] S (Q_mo_does__10f S first) := by sorry
def md_mo_does__11f : List rec := [(904, 905, 15, 16), (904, 905, 49, 50), (912, 913, 0, 100000), (913, 914, 0, 100000), (914, 915, 0, 100000), (915, 916, 0, 100000), (916, 917, 0, 100000), (942, 943, 0, 100000)]
abbrev Q_mo_does__11f (S : sS) (first : Int) : pst := fun r S1 => RI S1 ∧ FR md_mo_does__11f S S1 ∧ (r = none)
set_option maxRecDepth 100000 in
theorem t_mo_does__11f {S : sS} (hH : RI S) (first : Int) (hfirst : 0 ≤ first ∧ first ≤ 5001) (hLS : LSP S) (h15 : 0 ≤ Xi S 904 15) (hRB : RBD S) (hLX : LXR S) (hl : 0 ≤ Xi S 904 71 ∧ Xi S 904 71 ≤ 2600 ∧ 0 ≤ Xi S 904 72 ∧ Xi S 904 72 ≤ 2600) (hs : Xi S 904 70 = 11) (hk : Hid (Xi S 904 78 ≠ -1 → rnR S (Xi S 904 78) 0 ≠ -1)) (ha : 0 ≤ Xi S 904 49 ∧ Xi S 904 49 + Xi S 904 72 ≤ 12) (h15b : Xi S 904 15 ≤ 100000) (d : Nat) : Mp lay0 (d + 8) m_mo_does [.ref 904, iv first] S (Q_mo_does__11f S first) := by sorry
def md_mo_does__12f : List rec := [(904, 905, 15, 16), (904, 905, 19, 20), (904, 905, 60, 61), (904, 905, 105, 106), (904, 905, 106, 107), (912, 913, 0, 100000), (913, 914, 0, 100000), (914, 915, 0, 100000), (915, 916, 0, 100000), (916, 917, 0, 100000), (918, 919, 0, 100000), (919, 920, 0, 100000), (920, 921, 0, 100000), (925, 926, 0, 100000), (926, 927, 0, 100000), (930, 931, 0, 100000), (931, 932, 0, 100000), (932, 933, 0, 100000)]
abbrev Q_mo_does__12f (S : sS) (first : Int) : pst := fun r S1 => RI S1 ∧ FR md_mo_does__12f S S1 ∧ (r = none)
set_option maxRecDepth 100000 in
theorem t_mo_does__12f {S : sS} (hH : RI S) (first : Int) (hfirst : 0 ≤ first ∧ first ≤ 5001) (hLS : LSP S) (h15 : 0 ≤ Xi S 904 15) (hRB : RBD S) (hLX : LXR S) (hB : ABV S) (hl : 0 ≤ Xi S 904 71 ∧ Xi S 904 71 ≤ 2600 ∧ 0 ≤ Xi S 904 72 ∧ Xi S 904 72 ≤ 2600) (hkb : Hid (KB3 S)) (ho4 : Hid (OB4 S)) (hct : Hid (∀ j : Nat, -1 ≤ Xi S 922 j ∧ Xi S 922 j ≤ 23)) (hz0 : Xi S 904 106 = 0) (ha : 0 ≤ Xi S 904 19 ∧ Xi S 904 19 ≤ 24) (hr74 : -1 ≤ Xi S 904 74 ∧ Xi S 904 74 ≤ 2600) (hlq : Hid (LOQ S (Xi S 904 71) (Xi S 904 72).toNat)) (h110 : -1 ≤ Xi S 904 110 ∧ Xi S 904 110 ≤ 15) (h112 : 0 ≤ Xi S 904 112 ∧ Xi S 904 112 ≤ 6) (hra : Hid (Xi S 904 70 ≠ 13 → ∀ i : Nat, (i : Int) < Xi S 904 112 → 0 ≤ Xi S 967 i ∧ Xi S 967 i ≤ 7000)) (hs : Xi S 904 70 = 12) (d : Nat) : Mp lay0 (d + 8) m_mo_does [.ref 904, iv first] S (Q_mo_does__12f S first) := by sorry
def md_mo_does__13f : List rec := [(904, 905, 15, 16), (904, 905, 19, 20), (904, 905, 60, 61), (904, 905, 105, 106), (904, 905, 106, 107), (912, 913, 0, 100000), (913, 914, 0, 100000), (914, 915, 0, 100000), (915, 916, 0, 100000), (916, 917, 0, 100000), (918, 919, 0, 100000), (919, 920, 0, 100000), (920, 921, 0, 100000), (925, 926, 0, 100000), (926, 927, 0, 100000), (930, 931, 0, 100000), (931, 932, 0, 100000), (932, 933, 0, 100000)]
abbrev Q_mo_does__13f (S : sS) (first : Int) : pst := fun r S1 => RI S1 ∧ FR md_mo_does__13f S S1 ∧ (r = none)
set_option maxRecDepth 100000 in
theorem t_mo_does__13f {S : sS} (hH : RI S) (first : Int) (hfirst : 0 ≤ first ∧ first ≤ 5001) (hLS : LSP S) (h15 : 0 ≤ Xi S 904 15) (hRB : RBD S) (hLX : LXR S) (hB : ABV S) (hl : 0 ≤ Xi S 904 71 ∧ Xi S 904 71 ≤ 2600 ∧ 0 ≤ Xi S 904 72 ∧ Xi S 904 72 ≤ 2600) (hkb : Hid (KB3 S)) (ho4 : Hid (OB4 S)) (hct : Hid (∀ j : Nat, -1 ≤ Xi S 922 j ∧ Xi S 922 j ≤ 23)) (hz0 : Xi S 904 106 = 0) (ha : 0 ≤ Xi S 904 19 ∧ Xi S 904 19 ≤ 24) (hr74 : -1 ≤ Xi S 904 74 ∧ Xi S 904 74 ≤ 2600) (hlq : Hid (LOQ S (Xi S 904 71) (Xi S 904 72).toNat)) (h110 : -1 ≤ Xi S 904 110 ∧ Xi S 904 110 ≤ 15) (h112 : 0 ≤ Xi S 904 112 ∧ Xi S 904 112 ≤ 6) (hra : Hid (Xi S 904 70 ≠ 13 → ∀ i : Nat, (i : Int) < Xi S 904 112 → 0 ≤ Xi S 967 i ∧ Xi S 967 i ≤ 7000)) (hs : Xi S 904 70 = 13) (d : Nat) : Mp lay0 (d + 8) m_mo_does [.ref 904, iv first] S (Q_mo_does__13f S first) := by sorry
def md_mo_does__14f : List rec := [(904, 905, 15, 16), (904, 905, 19, 20), (904, 905, 51, 52), (904, 905, 60, 61), (904, 905, 105, 106), (904, 905, 106, 107), (912, 913, 0, 100000), (913, 914, 0, 100000), (914, 915, 0, 100000), (915, 916, 0, 100000), (916, 917, 0, 100000), (918, 919, 0, 100000), (919, 920, 0, 100000), (920, 921, 0, 100000), (925, 926, 0, 100000), (930, 931, 0, 100000), (943, 944, 0, 100000), (944, 945, 0, 100000), (945, 946, 0, 100000)]
abbrev Q_mo_does__14f (S : sS) (first : Int) : pst := fun r S1 => RI S1 ∧ FR md_mo_does__14f S S1 ∧ (r = none)
set_option maxRecDepth 100000 in
theorem t_mo_does__14f {S : sS} (hH : RI S) (first : Int) (hfirst : 0 ≤ first ∧ first ≤ 5001) (hLS : LSP S) (h15 : 0 ≤ Xi S 904 15) (hRB : RBD S) (hrr : 0 ≤ Xi S 904 71 ∧ Xi S 904 71 ≤ 2600 ∧ -2 ≤ Xi S 904 78 ∧ Xi S 904 78 ≤ 2600 ∧ -1 ≤ Xi S 904 74 ∧ Xi S 904 74 ≤ 2600 ∧ 0 ≤ Xi S 904 72 ∧ Xi S 904 72 ≤ 2600) (hs : Xi S 904 70 = 14) (hz0 : Xi S 904 106 = 0) (ha : 0 ≤ Xi S 904 19 ∧ Xi S 904 19 ≤ 24) (hn : Hid (rnR S (Xi S 904 71) 4 = -1 → Xi S 904 19 ≤ 23)) (hw : 0 ≤ Xi S 904 51 ∧ Xi S 904 51 ≤ 144) (d : Nat) : Mp lay0 (d + 8) m_mo_does [.ref 904, iv first] S (Q_mo_does__14f S first) := by sorry
def md_mo_does__17f : List rec := [(904, 905, 15, 16), (904, 905, 32, 33), (904, 905, 105, 106), (904, 905, 106, 107), (912, 913, 0, 100000), (913, 914, 0, 100000), (914, 915, 0, 100000), (915, 916, 0, 100000), (916, 917, 0, 100000), (928, 929, 0, 100000), (929, 930, 0, 100000)]
abbrev Q_mo_does__17f (S : sS) (first : Int) : pst := fun r S1 => RI S1 ∧ FR md_mo_does__17f S S1 ∧ (r = none)
set_option maxRecDepth 100000 in
theorem t_mo_does__17f {S : sS} (hH : RI S) (first : Int) (hfirst : 0 ≤ first ∧ first ≤ 5001) (hLS : LSP S) (h15 : 0 ≤ Xi S 904 15) (hRB : RBD S) (hLX : LXR S) (hs : Xi S 904 70 = 17) (hz0 : Xi S 904 106 = 0) (hk : rnR S 0 0 ≠ -1) (ha : 0 ≤ Xi S 904 32 ∧ Xi S 904 32 ≤ 12) (d : Nat) : Mp lay0 (d + 8) m_mo_does [.ref 904, iv first] S (Q_mo_does__17f S first) := by sorry
def md_mo_does__18f : List rec := [(904, 905, 15, 16), (904, 905, 23, 24), (912, 913, 0, 100000), (913, 914, 0, 100000), (914, 915, 0, 100000), (915, 916, 0, 100000), (916, 917, 0, 100000), (921, 922, 0, 100000), (922, 923, 0, 100000), (924, 925, 0, 100000)]
abbrev Q_mo_does__18f (S : sS) (first : Int) : pst := fun r S1 => RI S1 ∧ FR md_mo_does__18f S S1 ∧ (r = none)
set_option maxRecDepth 100000 in
theorem t_mo_does__18f {S : sS} (hH : RI S) (first : Int) (hfirst : 0 ≤ first ∧ first ≤ 5001) (hLS : LSP S) (h15 : 0 ≤ Xi S 904 15) (hRB : RBD S) (hs : Xi S 904 70 = 18) (hk : rnR S 0 0 ≠ -1) (ha : 0 ≤ Xi S 904 23 ∧ Xi S 904 23 ≤ 24) (d : Nat) : Mp lay0 (d + 8) m_mo_does [.ref 904, iv first] S (Q_mo_does__18f S first) := by sorry
def md_mo_does__19f : List rec := [(904, 905, 15, 16), (904, 905, 41, 42), (912, 913, 0, 100000), (913, 914, 0, 100000), (914, 915, 0, 100000), (915, 916, 0, 100000), (916, 917, 0, 100000), (936, 937, 0, 100000), (937, 938, 0, 100000), (938, 939, 0, 100000), (939, 940, 0, 100000)]
abbrev Q_mo_does__19f (S : sS) (first : Int) : pst := fun r S1 => RI S1 ∧ FR md_mo_does__19f S S1 ∧ (r = none)
set_option maxRecDepth 100000 in
theorem t_mo_does__19f {S : sS} (hH : RI S) (first : Int) (hfirst : 0 ≤ first ∧ first ≤ 5001) (hLS : LSP S) (h15 : 0 ≤ Xi S 904 15) (hRB : RBD S) (hs : Xi S 904 70 = 19) (ha : 0 ≤ Xi S 904 41 ∧ Xi S 904 41 ≤ 6) (hb : (Xi S 904 79 = 0 ∨ Xi S 904 79 = 1) ∧ (Xi S 904 80 = 0 ∨ Xi S 904 80 = 1)) (d : Nat) : Mp lay0 (d + 8) m_mo_does [.ref 904, iv first] S (Q_mo_does__19f S first) := by sorry
def md_mo_does__20f : List rec := [(904, 905, 105, 106), (904, 905, 106, 107), (940, 941, 0, 100000)]
abbrev Q_mo_does__20f (S : sS) (first : Int) : pst := fun r S1 => RI S1 ∧ FR md_mo_does__20f S S1 ∧ (r = none)
set_option maxRecDepth 100000 in
theorem t_mo_does__20f {S : sS} (hH : RI S) (first : Int) (hfirst : 0 ≤ first ∧ first ≤ 5001) (hob : 0 ≤ Xi S 904 19 ∧ Xi S 904 19 ≤ 24) (h0 : Xi S 904 106 = 0) (hrl : 0 ≤ Xi S 904 147 ∧ Xi S 904 147 ≤ 5) (h144 : 0 ≤ Xi S 904 144 ∧ Xi S 904 144 ≤ 5200) (h146 : 0 ≤ Xi S 904 146 ∧ Xi S 904 146 ≤ 5200) (ha : Hid (∀ i : Nat, (i : Int) < Xi S 904 144 → 0 ≤ Xi S 988 i ∧ Xi S 988 i ≤ 23)) (hb : Hid (∀ i : Nat, (i : Int) < Xi S 904 146 → 0 ≤ Xi S 989 i ∧ Xi S 989 i ≤ 23)) (hs : Xi S 904 70 = 20) (d : Nat) : Mp lay0 (d + 8) m_mo_does [.ref 904, iv first] S (Q_mo_does__20f S first) := by sorry
def md_mo_does__15af : List rec := [(904, 905, 105, 106), (904, 905, 106, 107), (925, 926, 0, 100000), (926, 927, 0, 100000), (933, 934, 0, 100000), (934, 935, 0, 100000), (935, 936, 0, 100000)]
abbrev Q_mo_does__15af (S : sS) (first : Int) : pst := fun r S1 => RI S1 ∧ FR md_mo_does__15af S S1 ∧ (r = none)
set_option maxRecDepth 100000 in
theorem t_mo_does__15af {S : sS} (hH : RI S) (first : Int) (hfirst : 0 ≤ first ∧ first ≤ 5001) (hLS : LSP S) (h15 : 0 ≤ Xi S 904 15) (hRB : RBD S) (hLX : LXR S) (hct : Hid (∀ j : Nat, -1 ≤ Xi S 922 j ∧ Xi S 922 j ≤ 23)) (hh : Xi S 904 142 = 1) (hz0 : Xi S 904 106 = 0) (hk : rnR S (Xi S 904 71) 0 ≠ -1 ∧ rnR S (Xi S 904 71) 0 ≤ 15) (hra : 0 ≤ Xi S 967 0 ∧ Xi S 967 0 ≤ 7000) (hs : 15 ≤ Xi S 904 70 ∧ Xi S 904 70 ≤ 16) (d : Nat) : Mp lay0 (d + 8) m_mo_does [.ref 904, iv first] S (Q_mo_does__15af S first) := by sorry
def md_mo_does__15bf : List rec := [(904, 905, 15, 16), (904, 905, 30, 31), (912, 913, 0, 100000), (913, 914, 0, 100000), (914, 915, 0, 100000), (915, 916, 0, 100000), (916, 917, 0, 100000), (927, 928, 0, 100000)]
abbrev Q_mo_does__15bf (S : sS) (first : Int) : pst := fun r S1 => RI S1 ∧ FR md_mo_does__15bf S S1 ∧ (r = none)
set_option maxRecDepth 100000 in
theorem t_mo_does__15bf {S : sS} (hH : RI S) (first : Int) (hfirst : 0 ≤ first ∧ first ≤ 5001) (hLS : LSP S) (h15 : 0 ≤ Xi S 904 15) (hRB : RBD S) (hLX : LXR S) (hh : Xi S 904 142 = 2) (hw : 0 ≤ Xi S 904 78 ∧ Xi S 904 78 ≤ Xi S 904 69 ∧ Xi S 904 69 ≤ 2600) (hv : 0 ≤ Xi S 904 30 ∧ Xi S 904 30 + (Xi S 904 69 - Xi S 904 78) ≤ 64) (hs : 15 ≤ Xi S 904 70 ∧ Xi S 904 70 ≤ 16) (d : Nat) : Mp lay0 (d + 8) m_mo_does [.ref 904, iv first] S (Q_mo_does__15bf S first) := by sorry
def md_mo_does__15cf : List rec := [(904, 905, 15, 16), (904, 905, 19, 20), (904, 905, 60, 61), (904, 905, 73, 74), (904, 905, 105, 106), (904, 905, 106, 107), (912, 913, 0, 100000), (913, 914, 0, 100000), (914, 915, 0, 100000), (915, 916, 0, 100000), (916, 917, 0, 100000), (918, 919, 0, 100000), (919, 920, 0, 100000), (920, 921, 0, 100000), (925, 926, 0, 100000), (926, 927, 0, 100000), (930, 931, 0, 100000), (931, 932, 0, 100000), (932, 933, 0, 100000)]
abbrev Q_mo_does__15cf (S : sS) (first : Int) : pst := fun r S1 => RI S1 ∧ FR md_mo_does__15cf S S1 ∧ (r = none)
set_option maxRecDepth 100000 in
theorem t_mo_does__15cf {S : sS} (hH : RI S) (first : Int) (hfirst : 0 ≤ first ∧ first ≤ 5001) (hLS : LSP S) (h15 : 0 ≤ Xi S 904 15) (hRB : RBD S) (hLX : LXR S) (hB : ABV S) (hl : 0 ≤ Xi S 904 71 ∧ Xi S 904 71 ≤ 2600 ∧ 0 ≤ Xi S 904 72 ∧ Xi S 904 72 ≤ 2600) (hkb : Hid (KB3 S)) (ho4 : Hid (OB4 S)) (hct : Hid (∀ j : Nat, -1 ≤ Xi S 922 j ∧ Xi S 922 j ≤ 23)) (hz0 : Xi S 904 106 = 0) (ha : 0 ≤ Xi S 904 19 ∧ Xi S 904 19 ≤ 24) (hr74 : -1 ≤ Xi S 904 74 ∧ Xi S 904 74 ≤ 2600) (hlq : Hid (LOQ S (Xi S 904 71) (Xi S 904 72).toNat)) (h110 : -1 ≤ Xi S 904 110 ∧ Xi S 904 110 ≤ 15) (h112 : 0 ≤ Xi S 904 112 ∧ Xi S 904 112 ≤ 6) (hra : Hid (Xi S 904 70 ≠ 13 → ∀ i : Nat, (i : Int) < Xi S 904 112 → 0 ≤ Xi S 967 i ∧ Xi S 967 i ≤ 7000)) (hh : Xi S 904 142 = 3) (hs : 15 ≤ Xi S 904 70 ∧ Xi S 904 70 ≤ 16) (d : Nat) : Mp lay0 (d + 8) m_mo_does [.ref 904, iv first] S (Q_mo_does__15cf S first) := by sorry
def md_mo_does__15df : List rec := [(904, 905, 60, 61), (904, 905, 64, 65), (904, 905, 105, 106), (904, 905, 106, 107), (904, 905, 113, 114), (925, 926, 0, 100000), (926, 927, 0, 100000), (930, 931, 0, 100000), (931, 932, 0, 100000), (932, 933, 0, 100000)]
abbrev Q_mo_does__15df (S : sS) (first : Int) : pst := fun r S1 => RI S1 ∧ FR md_mo_does__15df S S1 ∧ (r = none)
set_option maxRecDepth 100000 in
theorem t_mo_does__15df {S : sS} (hH : RI S) (first : Int) (hfirst : 0 ≤ first ∧ first ≤ 5001) (hLS : LSP S) (h15 : 0 ≤ Xi S 904 15) (hRB : RBD S) (hLX : LXR S) (hB : ABV S) (hl : 0 ≤ Xi S 904 71 ∧ Xi S 904 71 ≤ 2600 ∧ 0 ≤ Xi S 904 72 ∧ Xi S 904 72 ≤ 2600) (hkb : Hid (KB3 S)) (hct : Hid (∀ j : Nat, -1 ≤ Xi S 922 j ∧ Xi S 922 j ≤ 23)) (hp32 : 0 ≤ Xi S 904 32 ∧ Xi S 904 32 ≤ 12) (hh : Xi S 904 142 = 4) (hz0 : Xi S 904 106 = 0) (hfw : 0 ≤ Xi S 950 (Xi S 904 78).toNat ∧ Xi S 950 (Xi S 904 78).toNat ≤ 5100) (hac : Hid (∀ i : Nat, (i : Int) < Xi S 904 72 → (0 ≤ o15R S i ∧ o15R S i ≤ 23) ∧ 0 ≤ a15R S (o15R S i) ∧ a15R S (o15R S i) ≤ 7000)) (hs : 15 ≤ Xi S 904 70 ∧ Xi S 904 70 ≤ 16) (d : Nat) : Mp lay0 (d + 8) m_mo_does [.ref 904, iv first] S (Q_mo_does__15df S first) := by sorry
end
end
section
section
def md_mo_asked__0f : List rec := [(904, 905, 104, 105), (904, 905, 105, 106), (904, 905, 106, 107), (904, 905, 108, 109), (904, 905, 115, 116), (904, 905, 116, 117)]
abbrev Q_mo_asked__0f (S : sS) (first : Int) : pst := fun r S1 => RI S1 ∧ FR md_mo_asked__0f S S1 ∧ (r = none)
set_option maxRecDepth 100000 in
theorem t_mo_asked__0f {S : sS} (hH : RI S) (first : Int) (hfirst : 0 ≤ first ∧ first ≤ 5001) (hs : Xi S 904 70 = 0) (d : Nat) : Mp lay0 (d + 13) m_mo_asked [.ref 904, iv first] S (Q_mo_asked__0f S first) := by sorry
def md_mo_asked__1f : List rec := [(904, 905, 104, 105), (904, 905, 105, 106), (904, 905, 106, 107), (904, 905, 108, 109), (904, 905, 115, 116), (904, 905, 116, 117), (904, 905, 150, 151), (904, 905, 151, 152), (904, 905, 153, 154), (991, 992, 0, 100000), (992, 993, 0, 100000)]
abbrev Q_mo_asked__1f (S : sS) (first : Int) : pst := fun r S1 => RI S1 ∧ FR md_mo_asked__1f S S1 ∧ (r = none)
set_option maxRecDepth 100000 in
theorem t_mo_asked__1f {S : sS} (hH : RI S) (first : Int) (hfirst : 0 ≤ first ∧ first ≤ 5001) (hLS : LSP S) (h15 : 0 ≤ Xi S 904 15) (hRB : RBD S) (hB : ABV S) (hb6 : BYT S 906) (hkx : Hid (∀ j : Nat, -1 ≤ Xi S 915 j ∧ Xi S 915 j ≤ 300)) (hlx : Hid (∀ j : Nat, (j : Int) < Xi S 904 15 → Xi S 914 j = 0 → Xi S 915 j ≤ 15)) (htt : 0 ≤ (Xi S 908 (Xi S 904 81).toNat) ∧ 0 ≤ Xi S 909 (Xi S 904 81).toNat ∧ (Xi S 908 (Xi S 904 81).toNat + 1 + Xi S 909 (Xi S 904 81).toNat) < 5000) (hs : Xi S 904 70 = 1) (d : Nat) : Mp lay0 (d + 13) m_mo_asked [.ref 904, iv first] S (Q_mo_asked__1f S first) := by sorry
def md_mo_asked__2f : List rec := [(904, 905, 64, 65), (904, 905, 104, 105), (904, 905, 105, 106), (904, 905, 106, 107), (904, 905, 108, 109), (904, 905, 113, 114), (904, 905, 115, 116), (904, 905, 116, 117), (966, 967, 0, 100000), (969, 970, 0, 100000), (970, 971, 0, 100000), (971, 972, 0, 100000), (972, 973, 0, 100000), (973, 974, 0, 100000), (974, 975, 0, 100000), (975, 976, 0, 100000)]
abbrev Q_mo_asked__2f (S : sS) (first : Int) : pst := fun r S1 => RI S1 ∧ FR md_mo_asked__2f S S1 ∧ (r = none)
set_option maxRecDepth 100000 in
theorem t_mo_asked__2f {S : sS} (hH : RI S) (first : Int) (hfirst : 0 ≤ first ∧ first ≤ 5001) (hLS : LSP S) (h15 : 0 ≤ Xi S 904 15) (hRB : RBD S) (hB : ABV S) (hkx : Hid (∀ j : Nat, -1 ≤ Xi S 918 j ∧ Xi S 918 j ≤ 15)) (hLX : LXR S) (hp32 : 0 ≤ Xi S 904 32 ∧ Xi S 904 32 ≤ 12) (h94 : 0 ≤ Xi S 904 94 ∧ Xi S 904 94 ≤ 1700) (h117 : 0 ≤ Xi S 904 117 ∧ Xi S 904 117 + Xi S 904 94 ≤ 2400) (htk : Hid (∀ k : Nat, (k : Int) < Xi S 904 94 → TRK S k)) (hs : Xi S 904 70 = 2) (hk0 : -1 ≤ rnR S 0 0 ∧ rnR S 0 0 ≤ 15) (d : Nat) : Mp lay0 (d + 13) m_mo_asked [.ref 904, iv first] S (Q_mo_asked__2f S first) := by sorry
def md_mo_asked__3f : List rec := [(904, 905, 64, 65), (904, 905, 104, 105), (904, 905, 105, 106), (904, 905, 106, 107), (904, 905, 108, 109), (904, 905, 109, 110), (904, 905, 110, 111), (904, 905, 112, 113), (904, 905, 113, 114), (904, 905, 115, 116), (904, 905, 116, 117), (904, 905, 117, 118), (904, 905, 125, 126), (904, 905, 128, 129), (904, 905, 129, 130), (904, 905, 130, 131), (904, 905, 154, 155), (904, 905, 156, 157), (904, 905, 157, 158), (904, 905, 158, 159), (904, 905, 160, 161), (967, 968, 0, 100000), (968, 969, 0, 100000), (969, 970, 0, 100000), (970, 971, 0, 100000), (971, 972, 0, 100000), (972, 973, 0, 100000), (973, 974, 0, 100000), (974, 975, 0, 100000), (975, 976, 0, 100000), (976, 977, 0, 100000), (977, 978, 0, 100000), (978, 979, 0, 100000), (979, 980, 0, 100000), (980, 981, 0, 100000), (981, 982, 0, 100000), (982, 983, 0, 100000), (983, 984, 0, 100000), (984, 985, 0, 100000), (985, 986, 0, 100000), (986, 987, 0, 100000), (987, 988, 0, 100000), (993, 994, 0, 100000), (994, 995, 0, 100000), (1000, 1001, 0, 1)]
abbrev Q_mo_asked__3f (S : sS) (first : Int) : pst := fun r S1 => RI S1 ∧ FR md_mo_asked__3f S S1 ∧ (r = none)
set_option maxRecDepth 100000 in
theorem t_mo_asked__3f {S : sS} (hH : RI S) (first : Int) (hfirst : 0 ≤ first ∧ first ≤ 5001) (hLS : LSP S) (h15 : 0 ≤ Xi S 904 15) (hRB : RBD S) (hB : ABV S) (hkx : Hid (∀ j : Nat, -1 ≤ Xi S 918 j ∧ Xi S 918 j ≤ 15)) (hLX : LXR S) (hp32 : 0 ≤ Xi S 904 32 ∧ Xi S 904 32 ≤ 12) (hkk : Hid (∀ k : Nat, (k : Int) < Xi S 904 15 → Xi S 914 k ≤ 1 → Xi S 915 k ≤ 15)) (hak : Hid (∀ j : Nat, -2 ≤ Xi S 942 j ∧ Xi S 942 j ≤ 15)) (hb6 : BYT S 906) (hlx7 : Hid (∀ j : Nat, (j : Int) < Xi S 904 15 → Xi S 914 j = 7 → 0 ≤ Xi S 915 j ∧ Xi S 915 j ≤ 11)) (hgb : Hid (AGB S)) (h94 : 0 ≤ Xi S 904 94 ∧ Xi S 904 94 ≤ 1700) (h98 : 0 ≤ Xi S 904 98 ∧ Xi S 904 98 ≤ 1700) (h117 : 0 ≤ Xi S 904 117 ∧ Xi S 904 117 + Xi S 904 94 + Xi S 904 98 ≤ 2400) (h125 : 0 ≤ Xi S 904 125 ∧ Xi S 904 125 + Xi S 904 98 ≤ 2000) (h130 : 0 ≤ Xi S 904 130 ∧ Xi S 904 130 ≤ 24) (htk : Hid (∀ k : Nat, (k : Int) < Xi S 904 94 → TRK S k)) (hpk : Hid (∀ k : Nat, (k : Int) < Xi S 904 98 → PKB S k)) (hs : 3 ≤ Xi S 904 70 ∧ Xi S 904 70 ≤ 6) (d : Nat) : Mp lay0 (d + 13) m_mo_asked [.ref 904, iv first] S (Q_mo_asked__3f S first) := by sorry
def md_mo_asked__7f : List rec := [(904, 905, 104, 105), (904, 905, 105, 106), (904, 905, 106, 107), (904, 905, 108, 109), (904, 905, 115, 116), (904, 905, 116, 117)]
abbrev Q_mo_asked__7f (S : sS) (first : Int) : pst := fun r S1 => RI S1 ∧ FR md_mo_asked__7f S S1 ∧ (r = none)
set_option maxRecDepth 100000 in
theorem t_mo_asked__7f {S : sS} (hH : RI S) (first : Int) (hfirst : 0 ≤ first ∧ first ≤ 5001) (hLS : LSP S) (h15 : 0 ≤ Xi S 904 15) (hRB : RBD S) (hs : Xi S 904 70 = 7) (hp : pR S 0 < pR S 1) (ha : 0 ≤ Xi S 904 47 ∧ Xi S 904 47 ≤ 8) (d : Nat) : Mp lay0 (d + 13) m_mo_asked [.ref 904, iv first] S (Q_mo_asked__7f S first) := by sorry
def md_mo_asked__8f : List rec := [(904, 905, 104, 105), (904, 905, 105, 106), (904, 905, 106, 107), (904, 905, 108, 109), (904, 905, 115, 116), (904, 905, 116, 117), (966, 967, 0, 100000)]
abbrev Q_mo_asked__8f (S : sS) (first : Int) : pst := fun r S1 => RI S1 ∧ FR md_mo_asked__8f S S1 ∧ (r = none)
set_option maxRecDepth 100000 in
theorem t_mo_asked__8f {S : sS} (hH : RI S) (first : Int) (hfirst : 0 ≤ first ∧ first ≤ 5001) (hLS : LSP S) (h15 : 0 ≤ Xi S 904 15) (hRB : RBD S) (hs : Xi S 904 70 = 8) (hp : pR S 0 < pR S 1) (d : Nat) : Mp lay0 (d + 13) m_mo_asked [.ref 904, iv first] S (Q_mo_asked__8f S first) := by sorry
def md_mo_asked__9f : List rec := [(904, 905, 104, 105), (904, 905, 105, 106), (904, 905, 106, 107), (904, 905, 108, 109), (904, 905, 115, 116), (904, 905, 116, 117), (973, 974, 0, 100000), (974, 975, 0, 100000)]
abbrev Q_mo_asked__9f (S : sS) (first : Int) : pst := fun r S1 => RI S1 ∧ FR md_mo_asked__9f S S1 ∧ (r = none)
set_option maxRecDepth 100000 in
theorem t_mo_asked__9f {S : sS} (hH : RI S) (first : Int) (hfirst : 0 ≤ first ∧ first ≤ 5001) (hLS : LSP S) (h15 : 0 ≤ Xi S 904 15) (hRB : RBD S) (hLX : LXR S) (hB : ABV S) (hko : Hid (∀ j : Nat, -1 ≤ Xi S 918 j ∧ Xi S 918 j ≤ 15)) (h7 : rnR S 0 7 ≤ 11) (hk0 : rnR S 1 0 ≤ 15) (hp : pR S 0 < pR S 1) (hq : pR S 1 < Xi S 908 (Xi S 904 78).toNat) (hnum : Hid (Xi S 907 (Xi S 904 78).toNat = 4 → 0 ≤ Xj S 910 (Xi S 904 78).toNat ∧ Xj S 910 (Xi S 904 78).toNat ≤ 2147483647)) (hplc : Xi S 908 (Xi S 904 78).toNat ≤ 100000) (hs : Xi S 904 70 = 9) (d : Nat) : Mp lay0 (d + 13) m_mo_asked [.ref 904, iv first] S (Q_mo_asked__9f S first) := by sorry
def md_mo_asked__10f : List rec := [(904, 905, 104, 105), (904, 905, 105, 106), (904, 905, 106, 107), (904, 905, 108, 109), (904, 905, 115, 116), (904, 905, 116, 117), (966, 967, 0, 100000)]
abbrev Q_mo_asked__10f (S : sS) (first : Int) : pst := fun r S1 => RI S1 ∧ FR md_mo_asked__10f S S1 ∧ (r = none)
set_option maxRecDepth 100000 in
theorem t_mo_asked__10f {S : sS} (hH : RI S) (first : Int) (hfirst : 0 ≤ first ∧ first ≤ 5001) (hLS : LSP S) (h15 : 0 ≤ Xi S 904 15) (hRB : RBD S) (hs : Xi S 904 70 = 10) (hf : 0 ≤ Xi S 904 71 ∧ Xi S 904 71 ≤ 2600 ∧ 0 ≤ Xi S 904 72 ∧ Xi S 904 72 ≤ 2600) (hp : PLO S (Xi S 904 71) (Xi S 904 72).toNat (wK S)) (hcb : 0 ≤ Xi S 904 49 ∧ Xi S 904 49 ≤ 100 ∧ 0 ≤ Xi S 904 18 ∧ Xi S 904 18 ≤ 100 ∧ 0 ≤ Xi S 904 16 ∧ Xi S 904 16 ≤ 100) (d : Nat) : Mp lay0 (d + 13) m_mo_asked [.ref 904, iv first] S (Q_mo_asked__10f S first) := by sorry
def md_mo_asked__11f : List rec := [(904, 905, 104, 105), (904, 905, 105, 106), (904, 905, 106, 107), (904, 905, 108, 109), (904, 905, 115, 116), (904, 905, 116, 117), (966, 967, 0, 100000)]
abbrev Q_mo_asked__11f (S : sS) (first : Int) : pst := fun r S1 => RI S1 ∧ FR md_mo_asked__11f S S1 ∧ (r = none)
set_option maxRecDepth 100000 in
theorem t_mo_asked__11f {S : sS} (hH : RI S) (first : Int) (hfirst : 0 ≤ first ∧ first ≤ 5001) (hLS : LSP S) (h15 : 0 ≤ Xi S 904 15) (hRB : RBD S) (hs : Xi S 904 70 = 11) (hf : 0 ≤ Xi S 904 71 ∧ Xi S 904 71 ≤ 2600 ∧ 0 ≤ Xi S 904 72 ∧ Xi S 904 72 ≤ 2600) (hp : PLO S (Xi S 904 71) (Xi S 904 72).toNat (wK S)) (hcb : 0 ≤ Xi S 904 49 ∧ Xi S 904 49 ≤ 100 ∧ 0 ≤ Xi S 904 18 ∧ Xi S 904 18 ≤ 100 ∧ 0 ≤ Xi S 904 16 ∧ Xi S 904 16 ≤ 100) (d : Nat) : Mp lay0 (d + 13) m_mo_asked [.ref 904, iv first] S (Q_mo_asked__11f S first) := by sorry
def md_mo_asked__12f : List rec := [(904, 905, 64, 65), (904, 905, 104, 105), (904, 905, 105, 106), (904, 905, 106, 107), (904, 905, 108, 109), (904, 905, 109, 110), (904, 905, 110, 111), (904, 905, 112, 113), (904, 905, 113, 114), (904, 905, 115, 116), (904, 905, 116, 117), (966, 967, 0, 100000), (967, 968, 0, 100000), (968, 969, 0, 100000)]
abbrev Q_mo_asked__12f (S : sS) (first : Int) : pst := fun r S1 => RI S1 ∧ FR md_mo_asked__12f S S1 ∧ (r = none)
set_option maxRecDepth 100000 in
theorem t_mo_asked__12f {S : sS} (hH : RI S) (first : Int) (hfirst : 0 ≤ first ∧ first ≤ 5001) (hLS : LSP S) (h15 : 0 ≤ Xi S 904 15) (hRB : RBD S) (hLX : LXR S) (hB : ABV S) (hob : 0 ≤ Xi S 904 19 ∧ Xi S 904 19 ≤ 24) (hko : Hid (∀ j : Nat, -1 ≤ Xi S 918 j ∧ Xi S 918 j ≤ 15)) (hl : 0 ≤ Xi S 904 71 ∧ Xi S 904 71 ≤ 2600 ∧ 0 ≤ Xi S 904 72 ∧ Xi S 904 72 ≤ 2600) (hkk : Hid (∀ k : Nat, (k : Int) < Xi S 904 15 → Xi S 914 k ≤ 1 → Xi S 915 k ≤ 15)) (hp32 : 0 ≤ Xi S 904 32 ∧ Xi S 904 32 ≤ 12) (hr74 : -1 ≤ Xi S 904 74 ∧ Xi S 904 74 ≤ 2600) (hpl : PLL S (Xi S 904 71) (Xi S 904 72).toNat) (hs : Xi S 904 70 = 12) (hpp : Hid ((∀ k : Nat, k < (Xi S 904 72).toNat → pR S (Xi S 904 71 + k) < pR S (Xi S 904 78)) ∧ (Xi S 904 73 ≠ 0 → pR S (Xi S 904 78) < pR S (Xi S 904 74)))) (hfw : 0 ≤ fW S ∧ fW S ≤ 5100 ∧ 0 ≤ nW S ∧ nW S ≤ 5100) (h78 : 0 ≤ Xi S 904 78 ∧ Xi S 904 78 ≤ 2600) (d : Nat) : Mp lay0 (d + 13) m_mo_asked [.ref 904, iv first] S (Q_mo_asked__12f S first) := by sorry
def md_mo_asked__13f : List rec := [(904, 905, 104, 105), (904, 905, 105, 106), (904, 905, 106, 107), (904, 905, 108, 109), (904, 905, 115, 116), (904, 905, 116, 117), (966, 967, 0, 100000)]
abbrev Q_mo_asked__13f (S : sS) (first : Int) : pst := fun r S1 => RI S1 ∧ FR md_mo_asked__13f S S1 ∧ (r = none)
set_option maxRecDepth 100000 in
theorem t_mo_asked__13f {S : sS} (hH : RI S) (first : Int) (hfirst : 0 ≤ first ∧ first ≤ 5001) (hLS : LSP S) (h15 : 0 ≤ Xi S 904 15) (hRB : RBD S) (hLX : LXR S) (hB : ABV S) (hob : 0 ≤ Xi S 904 19 ∧ Xi S 904 19 ≤ 24) (hko : Hid (∀ j : Nat, -1 ≤ Xi S 918 j ∧ Xi S 918 j ≤ 15)) (hl : 0 ≤ Xi S 904 71 ∧ Xi S 904 71 ≤ 2600 ∧ 0 ≤ Xi S 904 72 ∧ Xi S 904 72 ≤ 2600) (hkk : Hid (∀ k : Nat, (k : Int) < Xi S 904 15 → Xi S 914 k ≤ 1 → Xi S 915 k ≤ 15)) (hp32 : 0 ≤ Xi S 904 32 ∧ Xi S 904 32 ≤ 12) (hr74 : -1 ≤ Xi S 904 74 ∧ Xi S 904 74 ≤ 2600) (hpl : PLL S (Xi S 904 71) (Xi S 904 72).toNat) (hs : Xi S 904 70 = 13) (hpp : Hid (Xi S 904 73 ≠ 0 → ∀ k : Nat, k < (Xi S 904 72).toNat → pR S (Xi S 904 71 + k) < pR S (Xi S 904 74))) (d : Nat) : Mp lay0 (d + 13) m_mo_asked [.ref 904, iv first] S (Q_mo_asked__13f S first) := by sorry
def md_mo_asked__14f : List rec := [(904, 905, 104, 105), (904, 905, 105, 106), (904, 905, 106, 107), (904, 905, 108, 109), (904, 905, 115, 116), (904, 905, 116, 117), (966, 967, 0, 100000)]
abbrev Q_mo_asked__14f (S : sS) (first : Int) : pst := fun r S1 => RI S1 ∧ FR md_mo_asked__14f S S1 ∧ (r = none)
set_option maxRecDepth 100000 in
theorem t_mo_asked__14f {S : sS} (hH : RI S) (first : Int) (hfirst : 0 ≤ first ∧ first ≤ 5001) (hLS : LSP S) (h15 : 0 ≤ Xi S 904 15) (hRB : RBD S) (hs : Xi S 904 70 = 14) (hB : ABV S) (hob : 0 ≤ Xi S 904 19 ∧ Xi S 904 19 ≤ 24) (hko : Hid (∀ j : Nat, -1 ≤ Xi S 918 j ∧ Xi S 918 j ≤ 15)) (hrr : 0 ≤ Xi S 904 71 ∧ Xi S 904 71 ≤ 2600 ∧ -2 ≤ Xi S 904 78 ∧ Xi S 904 78 ≤ 2600 ∧ -1 ≤ Xi S 904 74 ∧ Xi S 904 74 ≤ 2600 ∧ 0 ≤ Xi S 904 72 ∧ Xi S 904 72 ≤ 2600) (hp : Hid ((1 < Xi S 904 72 → pR S (Xi S 904 71) < pR S (Xi S 904 71 + 1) ∧ pR S (Xi S 904 71 + 1) < pR S (Xi S 904 78)) ∧ pR S (Xi S 904 71) < pR S (Xi S 904 78) ∧ pR S (Xi S 904 78) < pR S (Xi S 904 74))) (d : Nat) : Mp lay0 (d + 13) m_mo_asked [.ref 904, iv first] S (Q_mo_asked__14f S first) := by sorry
def md_mo_asked__15af : List rec := [(904, 905, 64, 65), (904, 905, 104, 105), (904, 905, 105, 106), (904, 905, 106, 107), (904, 905, 108, 109), (904, 905, 109, 110), (904, 905, 110, 111), (904, 905, 112, 113), (904, 905, 113, 114), (904, 905, 115, 116), (904, 905, 116, 117), (904, 905, 142, 143), (966, 967, 0, 100000), (967, 968, 0, 100000), (968, 969, 0, 100000)]
abbrev Q_mo_asked__15af (S : sS) (first : Int) : pst := fun r S1 => RI S1 ∧ FR md_mo_asked__15af S S1 ∧ (r = none)
set_option maxRecDepth 100000 in
theorem t_mo_asked__15af {S : sS} (hH : RI S) (first : Int) (hfirst : 0 ≤ first ∧ first ≤ 5001) (hLS : LSP S) (h15 : 0 ≤ Xi S 904 15) (hRB : RBD S) (hLX : LXR S) (hB : ABV S) (hu : Xi S 904 76 ≠ 0) (hp32 : 0 ≤ Xi S 904 32 ∧ Xi S 904 32 ≤ 12) (hk15 : rnR S (Xi S 904 71) 0 ≤ 15) (hfw : 0 ≤ Xi S 950 (Xi S 904 78).toNat ∧ Xi S 950 (Xi S 904 78).toNat ≤ 5100) (hl : 0 ≤ Xi S 904 71 ∧ Xi S 904 71 ≤ 2600) (hq1 : Hid (1 < Xi S 904 72 → pR S (Xi S 904 71) < pR S (Xi S 904 71 + 1))) (hq2 : Hid (1 < Xi S 904 72 → pR S (Xi S 904 71 + 1) < Xi S 908 (fW S).toNat)) (hs : Xi S 904 70 = 15) (d : Nat) : Mp lay0 (d + 13) m_mo_asked [.ref 904, iv first] S (Q_mo_asked__15af S first) := by sorry
def md_mo_asked__15bf : List rec := [(904, 905, 64, 65), (904, 905, 104, 105), (904, 905, 105, 106), (904, 905, 106, 107), (904, 905, 108, 109), (904, 905, 109, 110), (904, 905, 110, 111), (904, 905, 112, 113), (904, 905, 113, 114), (904, 905, 115, 116), (904, 905, 116, 117), (904, 905, 142, 143), (966, 967, 0, 100000), (967, 968, 0, 100000), (968, 969, 0, 100000)]
abbrev Q_mo_asked__15bf (S : sS) (first : Int) : pst := fun r S1 => RI S1 ∧ FR md_mo_asked__15bf S S1 ∧ (r = none)
set_option maxRecDepth 100000 in
theorem t_mo_asked__15bf {S : sS} (hH : RI S) (first : Int) (hfirst : 0 ≤ first ∧ first ≤ 5001) (hLS : LSP S) (h15 : 0 ≤ Xi S 904 15) (hRB : RBD S) (hu : Xi S 904 76 = 0) (hw : 0 ≤ Xi S 904 78 ∧ Xi S 904 78 ≤ Xi S 904 69 ∧ Xi S 904 69 ≤ 2600) (hv : 0 ≤ Xi S 904 30 ∧ Xi S 904 30 ≤ 64) (hl : 0 ≤ Xi S 904 71 ∧ Xi S 904 71 ≤ 2600) (hs : Xi S 904 70 = 15 ∧ Xi S 904 72 = 1 ∧ 1 < r2R S (Xi S 904 71) 2 3 ∧ Xi S 904 75 = 0) (d : Nat) : Mp lay0 (d + 13) m_mo_asked [.ref 904, iv first] S (Q_mo_asked__15bf S first) := by sorry
def md_mo_asked__15cf : List rec := [(904, 905, 64, 65), (904, 905, 104, 105), (904, 905, 105, 106), (904, 905, 106, 107), (904, 905, 108, 109), (904, 905, 109, 110), (904, 905, 110, 111), (904, 905, 112, 113), (904, 905, 113, 114), (904, 905, 115, 116), (904, 905, 116, 117), (904, 905, 142, 143), (966, 967, 0, 100000), (967, 968, 0, 100000), (968, 969, 0, 100000)]
abbrev Q_mo_asked__15cf (S : sS) (first : Int) : pst := fun r S1 => RI S1 ∧ FR md_mo_asked__15cf S S1 ∧ (r = none)
set_option maxRecDepth 100000 in
theorem t_mo_asked__15cf {S : sS} (hH : RI S) (first : Int) (hfirst : 0 ≤ first ∧ first ≤ 5001) (hLS : LSP S) (h15 : 0 ≤ Xi S 904 15) (hRB : RBD S) (hLX : LXR S) (hB : ABV S) (hko : Hid (∀ j : Nat, -1 ≤ Xi S 918 j ∧ Xi S 918 j ≤ 15)) (hl : 0 ≤ Xi S 904 71 ∧ Xi S 904 71 ≤ 2600 ∧ 0 ≤ Xi S 904 72 ∧ Xi S 904 72 ≤ 2600) (hob : 0 ≤ Xi S 904 19 ∧ Xi S 904 19 ≤ 24) (hkk : Hid (∀ k : Nat, (k : Int) < Xi S 904 15 → Xi S 914 k ≤ 1 → Xi S 915 k ≤ 15)) (hp32 : 0 ≤ Xi S 904 32 ∧ Xi S 904 32 ≤ 12) (hu : Xi S 904 76 = 0) (hs : Xi S 904 70 = 15) (hnv : Hid (1 < tU5 S → Xi S 904 75 ≠ 0)) (hfw : 0 ≤ fW S ∧ fW S ≤ 5100 ∧ 0 ≤ nW S ∧ nW S ≤ 5100) (hpl : PLL S (Xi S 904 71) (Xi S 904 72).toNat) (d : Nat) : Mp lay0 (d + 13) m_mo_asked [.ref 904, iv first] S (Q_mo_asked__15cf S first) := by sorry
def md_mo_asked__16f : List rec := [(904, 905, 64, 65), (904, 905, 104, 105), (904, 905, 105, 106), (904, 905, 106, 107), (904, 905, 108, 109), (904, 905, 109, 110), (904, 905, 110, 111), (904, 905, 112, 113), (904, 905, 113, 114), (904, 905, 115, 116), (904, 905, 116, 117), (904, 905, 142, 143), (966, 967, 0, 100000), (967, 968, 0, 100000), (968, 969, 0, 100000)]
abbrev Q_mo_asked__16f (S : sS) (first : Int) : pst := fun r S1 => RI S1 ∧ FR md_mo_asked__16f S S1 ∧ (r = none)
set_option maxRecDepth 100000 in
theorem t_mo_asked__16f {S : sS} (hH : RI S) (first : Int) (hfirst : 0 ≤ first ∧ first ≤ 5001) (hLS : LSP S) (h15 : 0 ≤ Xi S 904 15) (hRB : RBD S) (hu : Xi S 904 76 = 0) (hw : 0 ≤ Xi S 904 78 ∧ Xi S 904 78 ≤ Xi S 904 69 ∧ Xi S 904 69 ≤ 2600) (hv : 0 ≤ Xi S 904 30 ∧ Xi S 904 30 ≤ 64) (hl : 0 ≤ Xi S 904 71 ∧ Xi S 904 71 ≤ 2600) (hs : Xi S 904 70 = 16) (d : Nat) : Mp lay0 (d + 13) m_mo_asked [.ref 904, iv first] S (Q_mo_asked__16f S first) := by sorry
def md_mo_asked__17f : List rec := [(904, 905, 104, 105), (904, 905, 105, 106), (904, 905, 106, 107), (904, 905, 108, 109), (904, 905, 115, 116), (904, 905, 116, 117), (966, 967, 0, 100000)]
abbrev Q_mo_asked__17f (S : sS) (first : Int) : pst := fun r S1 => RI S1 ∧ FR md_mo_asked__17f S S1 ∧ (r = none)
set_option maxRecDepth 100000 in
theorem t_mo_asked__17f {S : sS} (hH : RI S) (first : Int) (hfirst : 0 ≤ first ∧ first ≤ 5001) (hLS : LSP S) (h15 : 0 ≤ Xi S 904 15) (hRB : RBD S) (hs : Xi S 904 70 = 17) (hp : pR S 0 < pR S 1 ∧ pR S 1 < pR S 2) (ha : 0 ≤ Xi S 904 32 ∧ Xi S 904 32 ≤ 12) (d : Nat) : Mp lay0 (d + 13) m_mo_asked [.ref 904, iv first] S (Q_mo_asked__17f S first) := by sorry
def md_mo_asked__18f : List rec := [(904, 905, 104, 105), (904, 905, 105, 106), (904, 905, 106, 107), (904, 905, 108, 109), (904, 905, 115, 116), (904, 905, 116, 117), (966, 967, 0, 100000)]
abbrev Q_mo_asked__18f (S : sS) (first : Int) : pst := fun r S1 => RI S1 ∧ FR md_mo_asked__18f S S1 ∧ (r = none)
set_option maxRecDepth 100000 in
theorem t_mo_asked__18f {S : sS} (hH : RI S) (first : Int) (hfirst : 0 ≤ first ∧ first ≤ 5001) (hLS : LSP S) (h15 : 0 ≤ Xi S 904 15) (hRB : RBD S) (hs : Xi S 904 70 = 18) (hp : pR S 0 < pR S 1 ∧ pR S 1 < pR S 2) (ha : 0 ≤ Xi S 904 23 ∧ Xi S 904 23 ≤ 24) (d : Nat) : Mp lay0 (d + 13) m_mo_asked [.ref 904, iv first] S (Q_mo_asked__18f S first) := by sorry
def md_mo_asked__19f : List rec := [(904, 905, 104, 105), (904, 905, 105, 106), (904, 905, 106, 107), (904, 905, 108, 109), (904, 905, 115, 116), (904, 905, 116, 117), (966, 967, 0, 100000)]
abbrev Q_mo_asked__19f (S : sS) (first : Int) : pst := fun r S1 => RI S1 ∧ FR md_mo_asked__19f S S1 ∧ (r = none)
set_option maxRecDepth 100000 in
theorem t_mo_asked__19f {S : sS} (hH : RI S) (first : Int) (hfirst : 0 ≤ first ∧ first ≤ 5001) (hLS : LSP S) (h15 : 0 ≤ Xi S 904 15) (hRB : RBD S) (hs : Xi S 904 70 = 19) (hp : pR S 0 < pR S 1 ∧ pR S 1 < pR S 2) (ha : 0 ≤ Xi S 904 41 ∧ Xi S 904 41 ≤ 6) (d : Nat) : Mp lay0 (d + 13) m_mo_asked [.ref 904, iv first] S (Q_mo_asked__19f S first) := by sorry
def md_mo_asked__20f : List rec := [(904, 905, 104, 105), (904, 905, 105, 106), (904, 905, 106, 107), (904, 905, 108, 109), (904, 905, 115, 116), (904, 905, 116, 117), (904, 905, 144, 145), (904, 905, 146, 147), (904, 905, 147, 148), (988, 989, 0, 100000), (989, 990, 0, 100000), (990, 991, 0, 100000)]
abbrev Q_mo_asked__20f (S : sS) (dd : Nat) (first : Int) : pst := fun r S1 => RI S1 ∧ FR md_mo_asked__20f S S1 ∧ (r = none)
set_option maxRecDepth 100000 in
theorem t_mo_asked__20f {S : sS} (hH : RI S) (dd : Nat) (first : Int) (hfirst : 0 ≤ first ∧ first ≤ 5001) (hLS : LSP S) (h15 : 0 ≤ Xi S 904 15) (hB : ABV S) (hko : Hid (∀ j : Nat, -1 ≤ Xi S 918 j ∧ Xi S 918 j ≤ 15)) (hd : first ≤ (dd : Int) ∧ (dd : Int) ≤ 5001) (he : Xi S 907 dd = 46) (hu : Hid (∀ j : Nat, first ≤ (j : Int) → j < dd → Xi S 907 j ≠ 46)) (hs : Xi S 904 70 = 20) (d : Nat) : Mp lay0 (d + 13) m_mo_asked [.ref 904, iv first] S (Q_mo_asked__20f S dd first) := by sorry
end
end
