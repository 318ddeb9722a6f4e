section
section
/-! QUESTIONS: tests and adjectives of both agree -/
theorem hasn_t {S : sS} {a : Nat} {k s : Int} (h : s ≠ 0) : ∀ n : Nat, hasn S a n k s = s := by sorry
theorem has_ch {U S : sS} {a : Nat} (kn : KND U S) (hq : ∀ k : Nat, (k : Int) < Xi U 5 0 → AV3 (Xi U (25 + (24 + k)) a) (Xi S 926 (24 * k + a))) : ∀ (n f : Nat) (k : Int), k < Xi U 5 0 → k + 1 ≤ n → k + 1 ≤ f → (chN S 926 24 a f k = -1 ∧ hasn U a n k 0 = 0) ∨ (0 ≤ chN S 926 24 a f k ∧ AV3 (hasn U a n k 0) (Xi S 926 (24 * chN S 926 24 a f k + a).toNat) ∧ Xi S 926 (24 * chN S 926 24 a f k + a).toNat ≠ 0) := by sorry
theorem td_r {U S : sS} {o a : Int} (h : RLQ U S) (ho : 0 ≤ o ∧ o < Xi U 5 2) (ha : 0 ≤ a ∧ a < Xi U 5 3) (hn : Xi U 11 a.toNat ≠ -1) : hasA U o a = tdR S o a := by sorry
/-- who is meant -/
theorem tmk_w {sk n w t self it noun : Int} (h : TMK sk n w t) (e : self = (if sk = 54 then it else noun)) : whU self w = thR it noun t := by sorry
theorem tmk_lt {sk n w t self : Int} (h : TMK sk n w t) (hs : w = -2 → 0 ≤ self ∧ self < n) : 0 ≤ whU self w ∧ whU self w < n := by sorry
theorem rlf_gb {U : sS} {r a b : Int} (hb : 0 ≤ b ∧ b < 32) : relF U r a b = if gb (Xi U (189 + r.toNat) a.toNat) b then 1 else 0 := by sorry
/-- one test -/
theorem tes_r {U S : sS} {q cl : Nat} {sk fm n w h t g m self it noun : Int} {ah ho : Int → Int → Int} (hw : RLQ U S) (c : CLM U cl fm n w h t g m) (f : TQF U S q sk fm n w h t g m) (e : self = (if sk = 54 then it else noun)) (hs : (w = -2 → 0 ≤ self ∧ self < Xi U 5 2) ∧ (fm = 6 → m = -2 → 0 ≤ self ∧ self < Xi U 5 2))
    (h1 : ∀ o a : Int, 0 ≤ o → o < Xi U 5 2 → 0 ≤ a → a < Xi U 5 3 → (ah o a = 0 ∧ ho o a = 0) ∨ (ah o a = 1 ∧ ho o a = 1)) (h2 : ∀ o a : Int, 100 ≤ a → ho o a = (if nuR S o (a % 100) = a / 100 - 1 then 1 else 0)) (h40 : ∀ j : Nat, 0 ≤ Xi S 940 j ∧ Xi S 940 j ≤ 1) : (hoC ah U cl self = 0 ∧ teR ho S q it noun = 0) ∨ (hoC ah U cl self = 1 ∧ teR ho S q it noun = 1) := by sorry
/-- adjectives at any depth -/
theorem ahq_r {U S : sS} (hA : RLB U S) (h40 : ∀ j : Nat, 0 ≤ Xi S 940 j ∧ Xi S 940 j ≤ 1) : ∀ (f : Nat) (o a : Int), 0 ≤ o → o < Xi U 5 2 → 0 ≤ a → a < Xi U 5 3 → (ahC U f o a = 0 ∧ hoR S f o a = 0) ∨ (ahC U f o a = 1 ∧ hoR S f o a = 1) := by sorry
theorem is_same {U S : sS} {o a z y : Int} (h : RLB U S) (h40 : ∀ j : Nat, 0 ≤ Xi S 940 j ∧ Xi S 940 j ≤ 1)
    (p : ((o < 0 ∨ Xi U 5 2 ≤ o ∨ a < 0 ∨ Xi U 5 3 ≤ a) → z = -1) ∧ (0 ≤ o → o < Xi U 5 2 → 0 ≤ a → a < Xi U 5 3 → (isK U (Xi U 21 o.toNat) (Xi U 10 a.toNat) = 0 → z = -1) ∧ (isK U (Xi U 21 o.toNat) (Xi U 10 a.toNat) ≠ 0 → (ahC U 8 o a = 0 → z = 0) ∧ (ahC U 8 o a ≠ 0 → z = 1))))
    (q : ((o < 0 ∨ Xi S 904 19 ≤ o ∨ a < 0 ∨ Xi S 904 23 ≤ a) → y = -1) ∧ (0 ≤ o → o < Xi S 904 19 → 0 ≤ a → a < Xi S 904 23 → (blR S (Xi S 918 o.toNat) (Xi S 921 a.toNat) = 0 → y = -1) ∧ (blR S (Xi S 918 o.toNat) (Xi S 921 a.toNat) ≠ 0 → (hoR S 8 o a = 0 → y = 0) ∧ (hoR S 8 o a ≠ 0 → y = 1)))) : z = y := by sorry
abbrev Q_mo_orderClass__c (S : sS) (ru : Int) : pst := fun r S1 => S = S1 ∧ (∃ z : Int, r = some (iv z) ∧ (0 ≤ z ∧ z ≤ 2) ∧ (z = ocR S ru.toNat))
set_option maxRecDepth 100000 in
theorem t_mo_orderClass__c {S : sS} (hH : HI S) (ru : Int) (hru : 0 ≤ ru ∧ ru ≤ 23) (d : Nat) : Mt lay0 (d + 1) m_mo_orderClass [.ref 904, iv ru] S (Q_mo_orderClass__c S ru) := by sorry
abbrev Q_mo_isAhead__q (S : sS) (ru : Int) (su : Int) : pst := fun r S1 => S = S1 ∧ (∃ z : Int, r = some (iv z) ∧ (0 ≤ z ∧ z ≤ 1) ∧ ((z = 1 → AHR S ru.toNat su.toNat) ∧ (z = 0 → ¬ AHR S ru.toNat su.toNat)))
set_option maxRecDepth 100000 in
theorem t_mo_isAhead__q {S : sS} (hH : HI S) (ru : Int) (su : Int) (hru : 0 ≤ ru ∧ ru ≤ 23) (hsu : 0 ≤ su ∧ su ≤ 23) (hB : ABV S) (d : Nat) : Mt lay0 (d + 2) m_mo_isAhead [.ref 904, iv ru, iv su] S (Q_mo_isAhead__q S ru su) := by sorry
abbrev Q_mo_orderOf__q (S : sS) (ru : Int) : pst := fun r S1 => S = S1 ∧ (∃ z : Int, r = some (iv z) ∧ (0 ≤ z ∧ z ≤ 24) ∧ (z = noR S (Xi S 904 130).toNat ru.toNat))
set_option maxRecDepth 100000 in
theorem t_mo_orderOf__q {S : sS} (hH : HI S) (ru : Int) (hru : 0 ≤ ru ∧ ru ≤ 23) (hB : ABV S) (d : Nat) : Mt lay0 (d + 3) m_mo_orderOf [.ref 904, iv ru] S (Q_mo_orderOf__q S ru) := by sorry
abbrev Q_mo_ruleAt__q (S : sS) (me : Int) (k : Int) : pst := fun r S1 => S = S1 ∧ (∃ z : Int, r = some (iv z) ∧ (-1 ≤ z ∧ z ≤ 23) ∧ (z ≠ -1 → z < Xi S 904 130) ∧ (z ≠ -1 → k ≤ 24) ∧ (z ≠ -1 → Xi S 978 z.toNat = me) ∧ ((z = -1 → ∀ r : Nat, (r : Int) < Xi S 904 130 → ¬ (Xi S 978 r = me ∧ noR S (Xi S 904 130).toNat r = k)) ∧ (z ≠ -1 → (0 ≤ z ∧ z < Xi S 904 130) ∧ Xi S 978 z.toNat = me ∧ noR S (Xi S 904 130).toNat z.toNat = k)))
set_option maxRecDepth 100000 in
theorem t_mo_ruleAt__q {S : sS} (hH : HI S) (me : Int) (k : Int) (hme : -2147483648 ≤ me ∧ me ≤ 2147483647) (hk : -2147483648 ≤ k ∧ k ≤ 2147483647) (hB : ABV S) (d : Nat) : Mt lay0 (d + 4) m_mo_ruleAt [.ref 904, iv me, iv k] S (Q_mo_ruleAt__q S me k) := by sorry
abbrev Q_mo_rule_2__q (S : sS) (i : Int) (w : Int) : pst := fun r S1 => S = S1 ∧ (∃ z : Int, r = some (iv z) ∧ (-1 ≤ z ∧ z ≤ 24) ∧ (((i < 0 ∨ Xi S 904 130 ≤ i ∨ w < 0 ∨ 7 < w) → z = -1) ∧ (0 ≤ i → i < Xi S 904 130 → (w = 0 → z = Xi S 978 i.toNat) ∧ (w = 1 → z = Xi S 979 i.toNat) ∧ (w = 2 → z = Xi S 980 i.toNat) ∧ (w = 3 → z = Xi S 981 i.toNat) ∧ (w = 4 → z = Xi S 982 i.toNat) ∧ (w = 5 → z = Xi S 985 i.toNat) ∧ (w = 6 → z = Xi S 987 i.toNat) ∧ (w = 7 → z = noR S (Xi S 904 130).toNat i.toNat))))
set_option maxRecDepth 100000 in
theorem t_mo_rule_2__q {S : sS} (hH : HI S) (i : Int) (w : Int) (hi : -2147483648 ≤ i ∧ i ≤ 2147483647) (hw : -2147483648 ≤ w ∧ w ≤ 2147483647) (hB : ABV S) (d : Nat) : Mt lay0 (d + 4) m_mo_rule_2 [.ref 904, iv i, iv w] S (Q_mo_rule_2__q S i w) := by sorry
abbrev Q_mo_isSameText__q (S : sS) (a : Int) (n : Int) (b : Int) (m : Int) : pst := fun r S1 => S = S1 ∧ (∃ z : Int, r = some (iv z) ∧ (0 ≤ z ∧ z ≤ 1) ∧ (z = sameR S a n b m))
set_option maxRecDepth 100000 in
theorem t_mo_isSameText__q {S : sS} (hH : HI S) (a : Int) (n : Int) (b : Int) (m : Int) (ha : -2147483648 ≤ a ∧ a ≤ 2147483647) (hn : -2147483648 ≤ n ∧ n ≤ 2147483647) (hb : -2147483648 ≤ b ∧ b ≤ 2147483647) (hm : -2147483648 ≤ m ∧ m ≤ 2147483647) (hA : OKT a n) (hB2 : OKT b m) (d : Nat) : Mt lay0 (d + 1) m_mo_isSameText [.ref 904, iv a, iv n, iv b, iv m] S (Q_mo_isSameText__q S a n b m) := by sorry
def md_mo_tested__q : List rec := [(904, 905, 154, 155)]
abbrev Q_mo_tested__q (S : sS) (q : Int) (it : Int) (noun : Int) (depth : Int) : pst := fun r S1 => HI S1 ∧ FR md_mo_tested__q S S1 ∧ (∃ z : Int, r = some (iv z) ∧ (0 ≤ z ∧ z ≤ 1) ∧ (z = teR (hoR S (8 - depth).toNat) S q.toNat it noun))
def md_mo_holds__q : List rec := [(904, 905, 154, 155)]
abbrev Q_mo_holds__q (S : sS) (o : Int) (a : Int) (dp : Int) : pst := fun r S1 => HI S1 ∧ FR md_mo_holds__q S S1 ∧ (∃ z : Int, r = some (iv z) ∧ (0 ≤ z ∧ z ≤ 1) ∧ (z = hoR S (8 - dp).toNat o a))
set_option maxRecDepth 100000 in
theorem u_mo_holds__q {S : sS} (hH : HI S) (o : Int) (a : Int) (dp : Int) (ho : 0 ≤ o ∧ o ≤ 23) (ha : 0 ≤ a ∧ a ≤ 6411) (hdp : 0 ≤ dp ∧ dp ≤ 8) (haa : ADM S a) (hB : ABV S) (hX : TXM S) (hD : DEFM S) (hoo : o < Xi S 904 19) (d : Nat) (hrec : ∀ {S : sS} (_ : HI S) (q : Int) (it : Int) (noun : Int) (depth : Int) (hq : 0 ≤ q ∧ q ≤ 2399) (hit : -1 ≤ it ∧ it ≤ 23) (hnoun : -1 ≤ noun ∧ noun ≤ 23) (hdepth : 0 ≤ depth ∧ depth ≤ 8) (hk : TQ S (0 ≤ it) (0 ≤ noun) q.toNat) (hB : ABV S) (hX : TXM S) (hD : DEFM S) (h1 : it < Xi S 904 19) (h2 : noun < Xi S 904 19), (dp < 8 ∧ depth = dp + 1) → Mt lay0 (d + 8) m_mo_tested [.ref 904, iv q, iv it, iv noun, iv depth] S (Q_mo_tested__q S q it noun depth)) : Mt lay0 (d + 9) m_mo_holds [.ref 904, iv o, iv a, iv dp] S (Q_mo_holds__q S o a dp) := by sorry
set_option maxRecDepth 100000 in
theorem u_mo_tested__q {S : sS} (hH : HI S) (q : Int) (it : Int) (noun : Int) (depth : Int) (hq : 0 ≤ q ∧ q ≤ 2399) (hit : -1 ≤ it ∧ it ≤ 23) (hnoun : -1 ≤ noun ∧ noun ≤ 23) (hdepth : 0 ≤ depth ∧ depth ≤ 8) (hk : TQ S (0 ≤ it) (0 ≤ noun) q.toNat) (hB : ABV S) (hX : TXM S) (hD : DEFM S) (h1 : it < Xi S 904 19) (h2 : noun < Xi S 904 19) (d : Nat) (hrec : ∀ {S : sS} (_ : HI S) (o : Int) (a : Int) (dp : Int) (ho : 0 ≤ o ∧ o ≤ 23) (ha : 0 ≤ a ∧ a ≤ 6411) (hdp : 0 ≤ dp ∧ dp ≤ 8) (haa : ADM S a) (hB : ABV S) (hX : TXM S) (hD : DEFM S) (hoo : o < Xi S 904 19), (dp = depth) → Mt lay0 (d + 7) m_mo_holds [.ref 904, iv o, iv a, iv dp] S (Q_mo_holds__q S o a dp)) : Mt lay0 (d + 8) m_mo_tested [.ref 904, iv q, iv it, iv noun, iv depth] S (Q_mo_tested__q S q it noun depth) := by sorry
theorem k_mhq (n : Nat) : ∀ (d : Nat) {S : sS} (_ : HI S) (o : Int) (a : Int) (dp : Int) (ho : 0 ≤ o ∧ o ≤ 23) (ha : 0 ≤ a ∧ a ≤ 6411) (hdp : 0 ≤ dp ∧ dp ≤ 8) (haa : ADM S a) (hB : ABV S) (hX : TXM S) (hD : DEFM S) (hoo : o < Xi S 904 19), (8 - dp).toNat = n → Mt lay0 (d + 2 * n + 9) m_mo_holds [.ref 904, iv o, iv a, iv dp] S (Q_mo_holds__q S o a dp) := by sorry
theorem t_mo_holds__q {S : sS} (hH : HI S) (o : Int) (a : Int) (dp : Int) (ho : 0 ≤ o ∧ o ≤ 23) (ha : 0 ≤ a ∧ a ≤ 6411) (hdp : 0 ≤ dp ∧ dp ≤ 8) (haa : ADM S a) (hB : ABV S) (hX : TXM S) (hD : DEFM S) (hoo : o < Xi S 904 19) (d : Nat) : Mt lay0 (d + 25) m_mo_holds [.ref 904, iv o, iv a, iv dp] S (Q_mo_holds__q S o a dp) := by sorry
theorem t_mo_tested__q {S : sS} (hH : HI S) (q : Int) (it : Int) (noun : Int) (depth : Int) (hq : 0 ≤ q ∧ q ≤ 2399) (hit : -1 ≤ it ∧ it ≤ 23) (hnoun : -1 ≤ noun ∧ noun ≤ 23) (hdepth : 0 ≤ depth ∧ depth ≤ 8) (hk : TQ S (0 ≤ it) (0 ≤ noun) q.toNat) (hB : ABV S) (hX : TXM S) (hD : DEFM S) (h1 : it < Xi S 904 19) (h2 : noun < Xi S 904 19) (d : Nat) : Mt lay0 (d + 26) m_mo_tested [.ref 904, iv q, iv it, iv noun, iv depth] S (Q_mo_tested__q S q it noun depth) := by sorry
def md_mo_is__q : List rec := [(904, 905, 154, 155)]
abbrev Q_mo_is__q (S : sS) (o : Int) (a : Int) : pst := fun r S1 => HI S1 ∧ FR md_mo_is__q S S1 ∧ (∃ z : Int, r = some (iv z) ∧ (-1 ≤ z ∧ z ≤ 1) ∧ (((o < 0 ∨ Xi S 904 19 ≤ o ∨ a < 0 ∨ Xi S 904 23 ≤ a) → z = -1) ∧ (0 ≤ o → o < Xi S 904 19 → 0 ≤ a → a < Xi S 904 23 → (blR S (Xi S 918 o.toNat) (Xi S 921 a.toNat) = 0 → z = -1) ∧ (blR S (Xi S 918 o.toNat) (Xi S 921 a.toNat) ≠ 0 → (hoR S 8 o a = 0 → z = 0) ∧ (hoR S 8 o a ≠ 0 → z = 1)))))
set_option maxRecDepth 100000 in
theorem t_mo_is__q {S : sS} (hH : HI S) (o : Int) (a : Int) (ho : -2147483648 ≤ o ∧ o ≤ 2147483647) (ha : -2147483648 ≤ a ∧ a ≤ 2147483647) (hB : ABV S) (hX : TXM S) (hD : DEFM S) (d : Nat) : Mt lay0 (d + 26) m_mo_is [.ref 904, iv o, iv a] S (Q_mo_is__q S o a) := by sorry
end
end
section
section
/-! OUTPUT: what is written -/
def OUP (c k f : Nat) (S T : sS) (L : List Int) : Prop := Xi T k f = min 2000 (Xi S k f + L.length) ∧ (∀ j : Nat, (j : Int) < Xi S k f → Xi T c j = Xi S c j) ∧ ∀ (i : Nat) (x : Int), L[i]? = some x → Xi S k f + i < 2000 → Xi T c ((Xi S k f).toNat + i) = x.bmod 256
theorem oup_0 {c k f : Nat} {S : sS} (h : 0 ≤ Xi S k f ∧ Xi S k f ≤ 2000) : OUP c k f S S [] := by sorry
theorem oup_f {c k f : Nat} {S : sS} {L : List Int} (h : 2000 ≤ Xi S k f) (g : Xi S k f ≤ 2000) : OUP c k f S S L := by sorry
theorem oup_1 {c k f : Nat} {S T U : sS} {b x : Int} (hc : c ≠ k) (h : 0 ≤ Xi S k f ∧ Xi S k f < 2000) (e1 : T = uI S c (Xi S k f).toNat (Int32.ofInt x)) (rx : rg x) (ex : x = b.bmod 256) (e2 : U = uI T k f (Int32.ofInt (Xi S k f + 1))) : OUP c k f S U [b] := by sorry
theorem oup_tr {c k f : Nat} {S T U : sS} {L M : List Int} (h0 : 0 ≤ Xi S k f ∧ Xi S k f ≤ 2000) (a : OUP c k f S T L) (b : OUP c k f T U M) : OUP c k f S U (L ++ M) := by sorry
theorem oup_e {c k f : Nat} {S T : sS} {L M : List Int} (h : OUP c k f S T L) (e : L = M) : OUP c k f S T M := by sorry
theorem oup_rf {c k f : Nat} {l : List rec} {S T U : sS} {L : List Int} (F : FR l S T) (e1 : mdf l k f = false) (e2 : kdis l [(c, c + 1)] = true) (h : OUP c k f T U L) : OUP c k f S U L := by sorry
/-- both pages are the same -/
def EQO (U S : sS) : Prop := (Xi U 900 4 = Xi S 904 156 ∧ 0 ≤ Xi U 900 4 ∧ Xi U 900 4 ≤ 2000) ∧ ∀ j : Nat, (j : Int) < Xi U 900 4 → Xi U 901 j = Xi S 993 j
theorem eqo_w {U U1 S S1 : sS} {L : List Int} (h : EQO U S) (a : OUP 901 900 4 U U1 L) (b : OUP 993 904 156 S S1 L) : EQO U1 S1 := by sorry
/-! texts, numbers -/
def txL (S : sS) (t : Nat) (a : Int) (n : Nat) : List Int := (List.range n).map (fun (i : Nat) => Xi S t (a + (i : Int)).toNat)
theorem txL_s {S : sS} {t : Nat} {a v : Int} (h : 0 ≤ v) : txL S t a (v + 1).toNat = txL S t a v.toNat ++ [Xi S t (a + v).toNat] := by sorry
theorem txL_0 {S : sS} {t : Nat} {a v : Int} (h : v ≤ 0) : txL S t a v.toNat = [] := by sorry
theorem txL_r {U S : sS} {a n b m : Int} (h : TXQ U S a n b m) : txL U (txr U) a n.toNat = txL S 906 b m.toNat := by sorry
/-- a number's digits from the k-th on -/
def dgN (a : Int) : Nat → List Int
  | 0 => [48 + a % 10]
  | k + 1 => (48 + a / 10 ^ (k + 1) % 10) :: dgN a k
def nmbL (v : Int) (k : Nat) : List Int := (if v < 0 then [45] else []) ++ dgN (if v < 0 then -v else v) k
/-- k is where a number begins -/
def NDG (a : Int) (k : Nat) : Prop := a / 10 ^ k ≤ 9 ∧ ∀ j : Nat, j < k → 9 < a / 10 ^ j
theorem ndg_u {a : Int} {k m : Nat} (h : NDG a k) (g : NDG a m) : k = m := by sorry
theorem wtx_e {S : sS} {t : Nat} {f v n : Int} (h : v = n ∨ (v ≤ 0 ∧ n ≤ 0)) : txL S t f v.toNat = txL S t f n.toNat := by sorry
/-! TURNS of the class as functions of states -/
def wrU (S : sS) (b : Int) : sS := if Xi S 900 4 < 2000 then uI (uI S 901 (Xi S 900 4).toNat (Int32.ofInt (b.bmod 256))) 900 4 (Int32.ofInt (Xi S 900 4 + 1)) else S
theorem wr_f {S : sS} {b : Int} (h : 2000 ≤ Xi S 900 4) : S = wrU S b := by sorry
theorem wr_1 {S T U : sS} {b x : Int} (h : Xi S 900 4 < 2000) (e1 : T = uI S 901 (Xi S 900 4).toNat (Int32.ofInt x)) (ex : x = b.bmod 256) (e2 : U = uI T 900 4 (Int32.ofInt (Xi S 900 4 + 1))) : U = wrU S b := by sorry
def wlF (S : sS) (L : List Int) : sS := L.foldl wrU S
theorem wlF_0 {S : sS} : S = wlF S [] := by sorry
theorem wlF_1 {S : sS} {b : Int} : wlF S [b] = wrU S b := by sorry
theorem wlF_a {S : sS} {L M : List Int} : wlF S (L ++ M) = wlF (wlF S L) M := by sorry
theorem wl_s {S T U : sS} {L : List Int} {b : Int} (h : T = wlF S L) (e : U = wrU T b) : U = wlF S (L ++ [b]) := by sorry
theorem wl_l {S T U : sS} {L M : List Int} (h : T = wlF S L) (e : U = wlF T M) : U = wlF S (L ++ M) := by sorry
/-- what a number is written as -/
def nmX (x : Int) (k : Nat) : List Int := if x = -2147483648 then [45, 40] else nmbL x k
def spF (S : sS) (o p v n : Int) : sS := uI (uI (uI S (66 + o.toNat) p.toNat (Int32.ofInt 1)) (107 + o.toNat) p.toNat (Int32.ofInt v)) (148 + o.toNat) p.toNat (Int32.ofInt n)
def saF (S : sS) (o a h : Int) : sS := if Xi S 11 a.toNat = -1 then uI S (25 + o.toNat) a.toNat (Int32.ofInt (if h = 0 then -1 else 1)) else uI (uI S (25 + o.toNat) a.toNat (Int32.ofInt (if h = 0 then -1 else 1))) (25 + o.toNat) (Xi S 11 a.toNat).toNat (Int32.ofInt (if h = 0 then 1 else -1))
theorem sa_i {S U : sS} {o a h v : Int} (e : U = uI S (25 + o.toNat) a.toNat (Int32.ofInt v)) (hv : (h = 0 ∧ v = -1) ∨ (h ≠ 0 ∧ v = 1)) (hc : Xi S 11 a.toNat = -1) : U = saF S o a h := by sorry
theorem sa_j {S U W : sS} {o a h v u : Int} (e : U = uI S (25 + o.toNat) a.toNat (Int32.ofInt v)) (e2 : W = uI U (25 + o.toNat) (Xi S 11 a.toNat).toNat (Int32.ofInt u)) (hv : (h = 0 ∧ v = -1 ∧ u = 1) ∨ (h ≠ 0 ∧ v = 1 ∧ u = -1)) (hc : Xi S 11 a.toNat ≠ -1) : W = saF S o a h := by sorry
/-- related now -/
def rn1 (S : sS) (r a : Int) : sS := if Xi S 17 r.toNat = 0 then S else uI S (189 + r.toNat) a.toNat (Int32.ofInt 0)
def rn2 (S : sS) (r b : Int) : Nat → sS
  | 0 => S
  | i + 1 => if Xi S 16 r.toNat = 0 then S else uI (rn2 S r b i) (189 + r.toNat) i (Int32.ofInt (iandF (Xi (rn2 S r b i) (189 + r.toNat) i) (ixorF (ishlF 1 b) (-1))))
theorem rn2_n {S : sS} {r b : Int} (h : Xi S 16 r.toNat = 0) : ∀ i : Nat, rn2 S r b i = S := by sorry
theorem rn2_s {S T U : sS} {r b v : Int} (h : T = rn2 S r b v.toNat) (hv : 0 ≤ v) (q : Xi S 16 r.toNat ≠ 0) (e : U = uI T (189 + r.toNat) v.toNat (Int32.ofInt (iandF (Xi T (189 + r.toNat) v.toNat) (ixorF (ishlF 1 b) (-1))))) : U = rn2 S r b (v + 1).toNat := by sorry
def rnF (S : sS) (r a b : Int) : sS := uI (rn2 (rn1 S r a) r b 24) (189 + r.toNat) a.toNat (Int32.ofInt (iorF (Xi (rn2 (rn1 S r a) r b 24) (189 + r.toNat) a.toNat) (ishlF 1 b)))
theorem rn_e {S T : sS} {r b v : Int} (h : T = rn2 S r b v.toNat) (q : 24 = v ∨ Xi S 16 r.toNat = 0) : T = rn2 S r b 24 := by sorry
/-- moved -/
def mhF (S : sS) (to : Int) : Int := if isK S (Xi S 21 to.toNat) 1 ≠ 0 ∨ isK S (Xi S 21 to.toNat) 2 ≠ 0 then 1 else if isK S (Xi S 21 to.toNat) 3 ≠ 0 then 2 else if isK S (Xi S 21 to.toNat) 4 ≠ 0 then 4 else 3
def mvF (S : sS) (who to : Int) : sS := if isK S (Xi S 21 who.toNat) 0 = 0 ∨ isW S to who ≠ 0 then S else plO S who (mhF S to) to
theorem mv_0 {S : sS} {who to : Int} (h : isK S (Xi S 21 who.toNat) 0 = 0 ∨ isW S to who ≠ 0) : S = mvF S who to := by sorry
theorem mv_1 {S T : sS} {who to v : Int} (h : isK S (Xi S 21 who.toNat) 0 ≠ 0) (g : isW S to who = 0) (hv : v = mhF S to) (e : T = plO S who v to) : T = mvF S who to := by sorry
theorem mh_1 {S : sS} {to : Int} (h : isK S (Xi S 21 to.toNat) 1 ≠ 0 ∨ isK S (Xi S 21 to.toNat) 2 ≠ 0) : (1 : Int) = mhF S to := by sorry
theorem mh_2 {S : sS} {to : Int} (h1 : isK S (Xi S 21 to.toNat) 1 = 0) (h2 : isK S (Xi S 21 to.toNat) 2 = 0) (h3 : isK S (Xi S 21 to.toNat) 3 ≠ 0) : (2 : Int) = mhF S to := by sorry
theorem mh_4 {S : sS} {to : Int} (h1 : isK S (Xi S 21 to.toNat) 1 = 0) (h2 : isK S (Xi S 21 to.toNat) 2 = 0) (h3 : isK S (Xi S 21 to.toNat) 3 = 0) (h4 : isK S (Xi S 21 to.toNat) 4 ≠ 0) : (4 : Int) = mhF S to := by sorry
theorem mh_3 {S : sS} {to : Int} (h1 : isK S (Xi S 21 to.toNat) 1 = 0) (h2 : isK S (Xi S 21 to.toNat) 2 = 0) (h3 : isK S (Xi S 21 to.toNat) 3 = 0) (h4 : isK S (Xi S 21 to.toNat) 4 = 0) : (3 : Int) = mhF S to := by sorry
/-! NUMBERS as they are written, for both sides: P says what was written so far -/
def sgL (x : Int) : List Int := if x < 0 then [45] else []
def UNT (a v : Int) : Prop := ∃ k : Nat, v = 10 ^ k ∧ ∀ j : Nat, j < k → 9 < a / 10 ^ j
theorem p10_pos (k : Nat) : (0 : Int) < 10 ^ k := by sorry
theorem p10_c {a p : Int} (hp : 0 < p) : p ≤ a / 10 ↔ 9 < a / p := by sorry
def NM1 (P : List Int → Prop) (x a v : Int) : Prop := P (sgL x) ∧ ((x ≠ -2147483648 ∧ a = (if x < 0 then -x else x) ∧ UNT a v) ∨ (x = -2147483648 ∧ a = -2147483648 ∧ v = 1))
def NMJ (P : List Int → Prop) (x a v : Int) : Prop := (x ≠ -2147483648 ∧ a = (if x < 0 then -x else x) ∧ ∃ (K : Nat) (L : List Int), NDG a K ∧ P (sgL x ++ L) ∧ ((∃ m : Nat, v = 10 ^ m ∧ L ++ dgN a m = dgN a K) ∨ (v = 0 ∧ L = dgN a K))) ∨ (x = -2147483648 ∧ a = -2147483648 ∧ ((v = 1 ∧ P [45]) ∨ (v = 0 ∧ P [45, 40])))
def NMZ (P : List Int → Prop) (x : Int) : Prop := ∃ k : Nat, (x ≠ -2147483648 → NDG (if x < 0 then -x else x) k) ∧ P (nmX x k)
theorem nm1_0 {P : List Int → Prop} {x a : Int} (h : P (sgL x)) (h1 : 0 ≤ x → a = x) (h2 : x < 0 → -2147483648 < x → a = -x) (h3 : x = -2147483648 → a = -2147483648) (hx : -2147483648 ≤ x) : NM1 P x a 1 := by sorry
theorem nm1_s {P : List Int → Prop} {x a v : Int} (h : NM1 P x a v) (hx : x ≠ -2147483648) (g : 9 < a / v) : NM1 P x a (v * 10) := by sorry
theorem nm1_g {P : List Int → Prop} {x a v : Int} (h : NM1 P x a v) (g : x ≠ -2147483648 → ¬ 9 < a / v) : NMJ P x a v := by sorry
theorem nmi_s {P Q : List Int → Prop} {x a v c w : Int} (h : NMJ P x a v) (hv : 0 < v) (hc : x ≠ -2147483648 → c = 48 + a / v % 10) (hm : x = -2147483648 → c = 40) (hw : w = v / 10) (f : ∀ L, P L → Q (L ++ [c])) : NMJ Q x a w := by sorry
theorem nmi_e {P : List Int → Prop} {x a v : Int} (h : NMJ P x a v) (hv : v ≤ 0) : NMZ P x := by sorry
theorem nmi_w {P : List Int → Prop} {x a v w : Int} (h : NMJ P x a v) (e : w = v) : NMJ P x a w := by sorry
/-! one more thing that is known of absolute values, quotients, remainders -/
section
variable {lay : Nat → Nat × Nat} {d pc : Nat} {q : mT} {L : List (Nat × Value)} {st : List Value} {S : sS} {Q : pst}
theorem l_idivE {x y : Int} (hc : lk q.2.2.2.2.2 pc = some .idiv) (h1 : 0 < y) (hx : rg x) (hy : rg y) (h : ∀ c : Int, (-2147483648 ≤ c ∧ c ≤ 2147483647) → (0 ≤ x → c = x / y) → (x < 0 → x ≤ c ∧ c ≤ 0) → (x = -2147483648 → y = 1 → c = -2147483648) → Rl lay d q (pc + 1) L (iv c :: st) S Q) : Rl lay d q pc L (iv y :: iv x :: st) S Q := by sorry
theorem l_iaddE {x y : Int} (hc : lk q.2.2.2.2.2 pc = some .iadd) (h : ∀ c : Int, (-2147483648 ≤ c ∧ c ≤ 2147483647) → (-2147483648 ≤ x + y → x + y ≤ 2147483647 → c = x + y) → Rl lay d q (pc + 1) L (iv c :: st) S Q) : Rl lay d q pc L (iv y :: iv x :: st) S Q := by sorry
theorem l_iremE {x y : Int} (hc : lk q.2.2.2.2.2 pc = some .irem) (h1 : 0 < y) (hx : rg x) (hy : rg y) (h : ∀ c : Int, (-2147483648 ≤ c ∧ c ≤ 2147483647) → (0 ≤ x → c = x % y) → True → (x = -2147483648 → y = 10 → c = -8) → Rl lay d q (pc + 1) L (iv c :: st) S Q) : Rl lay d q pc L (iv y :: iv x :: st) S Q := by sorry
theorem l_absE {ix na : Nat} {md : mT} {x : Int} (hc : lk q.2.2.2.2.2 pc = some (.invokestatic ix)) (hk : kLs q.2.2.2.2.1 ix = some (12, md, na)) (hs : Nat.ble (st.map (fun v => v.category)).sum 8 = true) (hx : rg x)
    (h : ∀ c : Int, (-2147483648 ≤ c ∧ c ≤ 2147483647) → (0 ≤ x → c = x) → (x < 0 → -2147483648 < x → c = -x) → (x = -2147483648 → c = -2147483648) → Rl lay d q (pc + 3) L (iv c :: st) S Q) : Rl lay d q pc L (iv x :: st) S Q := by sorry
end

def md_tu_write__w : List rec := [(900, 901, 4, 5), (901, 902, 0, 100000)]
abbrev Q_tu_write__w (S : sS) (b : Int) : pst := fun r S1 => HI S1 ∧ FR md_tu_write__w S S1 ∧ (r = none ∧ (S1 = wrU S b))
set_option maxRecDepth 100000 in
theorem t_tu_write__w {S : sS} (hH : HI S) (b : Int) (hb : -2147483648 ≤ b ∧ b ≤ 2147483647) (d : Nat) : Mt lay0 (d + 1) m_tu_write [.ref 900, iv b] S (Q_tu_write__w S b) := by sorry
def md_tu_writeText__w : List rec := [(900, 901, 4, 5), (901, 902, 0, 100000)]
abbrev Q_tu_writeText__w (S : sS) (f : Int) (n : Int) : pst := fun r S1 => HI S1 ∧ FR md_tu_writeText__w S S1 ∧ (r = none ∧ (S1 = wlF S (txL S (txr S) f n.toNat)))
set_option maxRecDepth 100000 in
theorem t_tu_writeText__w {S : sS} (hH : HI S) (f : Int) (n : Int) (hf : -2147483648 ≤ f ∧ f ≤ 2147483647) (hn : -2147483648 ≤ n ∧ n ≤ 2147483647) (hx : TXT S f n) (d : Nat) : Mt lay0 (d + 2) m_tu_writeText [.ref 900, iv f, iv n] S (Q_tu_writeText__w S f n) := by sorry
def md_tu_writeNumber__w : List rec := [(900, 901, 4, 5), (901, 902, 0, 100000)]
abbrev Q_tu_writeNumber__w (S : sS) (x : Int) : pst := fun r S1 => HI S1 ∧ FR md_tu_writeNumber__w S S1 ∧ (r = none ∧ (NMZ (fun L => S1 = wlF S L) x))
set_option maxRecDepth 100000 in
theorem t_tu_writeNumber__w {S : sS} (hH : HI S) (x : Int) (hx : -2147483648 ≤ x ∧ x ≤ 2147483647) (d : Nat) : Mt lay0 (d + 2) m_tu_writeNumber [.ref 900, iv x] S (Q_tu_writeNumber__w S x) := by sorry
def md_wo_setProperty__w : List rec := [(66, 106, 0, 100000), (107, 147, 0, 100000), (148, 188, 0, 100000)]
abbrev Q_wo_setProperty__w (S : sS) (row : Int) (p : Int) (value : Int) (length : Int) : pst := fun r S1 => HI S1 ∧ FR md_wo_setProperty__w S S1 ∧ (r = none ∧ (TX S → TXT S value length → TX S1) ∧ (S1 = spF S row p value length))
set_option maxRecDepth 100000 in
theorem t_wo_setProperty__w {S : sS} (hH : HI S) (row : Int) (p : Int) (value : Int) (length : Int) (hrow : 0 ≤ row ∧ row ≤ 39) (hp : 0 ≤ p ∧ p ≤ 11) (hvalue : -2147483648 ≤ value ∧ value ≤ 2147483647) (hlength : -2147483648 ≤ length ∧ length ≤ 2147483647) (d : Nat) : Mt lay0 (d + 1) m_wo_setProperty [.ref 20, iv row, iv p, iv value, iv length] S (Q_wo_setProperty__w S row p value length) := by sorry
def md_wo_setAdjective__w : List rec := [(25, 65, 0, 100000)]
abbrev Q_wo_setAdjective__w (S : sS) (row : Int) (a : Int) (holds : Int) : pst := fun r S1 => HI S1 ∧ FR md_wo_setAdjective__w S S1 ∧ (r = none ∧ (S1 = saF S row a holds))
set_option maxRecDepth 100000 in
theorem t_wo_setAdjective__w {S : sS} (hH : HI S) (row : Int) (a : Int) (holds : Int) (hrow : 0 ≤ row ∧ row ≤ 39) (ha : 0 ≤ a ∧ a ≤ 23) (hholds : 0 ≤ holds ∧ holds ≤ 1) (d : Nat) : Mt lay0 (d + 1) m_wo_setAdjective [.ref 20, iv row, iv a, iv holds] S (Q_wo_setAdjective__w S row a holds) := by sorry
def md_wo_relateNow__w : List rec := [(189, 195, 0, 100000)]
abbrev Q_wo_relateNow__w (S : sS) (rl : Int) (a : Int) (b : Int) : pst := fun r S1 => HI S1 ∧ FR md_wo_relateNow__w S S1 ∧ (r = none ∧ (S1 = rnF S rl a b))
set_option maxRecDepth 100000 in
theorem t_wo_relateNow__w {S : sS} (hH : HI S) (rl : Int) (a : Int) (b : Int) (hrl : 0 ≤ rl ∧ rl ≤ 5) (ha : 0 ≤ a ∧ a ≤ 23) (hb : 0 ≤ b ∧ b ≤ 23) (d : Nat) : Mt lay0 (d + 1) m_wo_relateNow [.ref 20, iv rl, iv a, iv b] S (Q_wo_relateNow__w S rl a b) := by sorry
def md_tu_move__w : List rec := [(22, 23, 0, 100000), (23, 24, 0, 100000)]
abbrev Q_tu_move__w (S : sS) (who : Int) (to : Int) : pst := fun r S1 => HI S1 ∧ FR md_tu_move__w S S1 ∧ (r = none ∧ (S1 = mvF S who to))
set_option maxRecDepth 100000 in
theorem t_tu_move__w {S : sS} (hH : HI S) (who : Int) (to : Int) (hwho : 0 ≤ who ∧ who ≤ 23) (hto : 0 ≤ to ∧ to ≤ 23) (d : Nat) : Mt lay0 (d + 3) m_tu_move [.ref 900, iv who, iv to] S (Q_tu_move__w S who to) := by sorry
def md_mo_put__q : List rec := [(904, 905, 156, 157), (993, 994, 0, 100000)]
abbrev Q_mo_put__q (S : sS) (c : Int) : pst := fun r S1 => HI S1 ∧ FR md_mo_put__q S S1 ∧ (r = none ∧ (Xi S 904 157 = 0 → OUP 993 904 156 S S1 [c]) ∧ (Xi S 904 157 ≠ 0 → S1 = S))
set_option maxRecDepth 100000 in
theorem t_mo_put__q {S : sS} (hH : HI S) (c : Int) (hc : -2147483648 ≤ c ∧ c ≤ 2147483647) (d : Nat) : Mt lay0 (d + 1) m_mo_put [.ref 904, iv c] S (Q_mo_put__q S c) := by sorry
end
section
/-! NAMES, inserts, what is said: the class -/
def lnF : Nat → Int → Int
  | 0, _ => 0
  | f + 1, w => if w < 27 then 1 else 1 + lnF f (w / 27)
def ln7 (w : Int) : Int := lnF 14 w
theorem lnF_i : ∀ (n f : Nat) (w : Int), n < f → (27 : Int) ^ n ≤ w → w < 27 ^ (n + 1) → lnF f w = n + 1 := by sorry
theorem ln7_i {w n : Int} (hn : 1 ≤ n ∧ n ≤ 14) (h1 : p27 n ≤ w) (h2 : w / 27 < p27 n) : ln7 w = n := by sorry
def ch7 (w l : Int) : Int := 96 + w / p27 (ln7 w - l) % 27
/-- byte of a name, from the i-th word on; nbT: within a word -/
def nbS (S : sS) (so wh : Int) : Nat → Nat → Int → Int
  | 0, _, _ => -1
  | f + 1, i, l => if l < 0 then -1 else if Xj S 2 i = 0 ∨ Xi S 3 (i / 3) ≠ so ∨ Xi S 4 (i / 3) ≠ wh then nbS S so wh f (i + 1) l
    else if i % 3 ≠ 0 ∧ l = 0 then 32
    else if l - (if i % 3 = 0 then 0 else 1) < ln7 (Xj S 2 i) then ch7 (Xj S 2 i) (l - (if i % 3 = 0 then 0 else 1)) else nbS S so wh f (i + 1) (l - (if i % 3 = 0 then 0 else 1) - ln7 (Xj S 2 i))
def nbT (S : sS) (so wh : Int) (f i : Nat) (w l : Int) : Int := if l < ln7 w then ch7 w l else nbS S so wh f i (l - ln7 w)
def nbC (S : sS) (so wh k : Int) : Int := nbS S so wh (3 * Xi S 1 3 - 0).toNat 0 k
theorem nb_e {S : sS} {so wh l v : Int} {i : Nat} (h : 3 * Xi S 1 3 ≤ v ∨ l < 0) : nbS S so wh (3 * Xi S 1 3 - v).toNat i l = -1 := by sorry
theorem nb_k {S : sS} {so wh l v : Int} (hv : 0 ≤ v ∧ v < 3 * Xi S 1 3) (hl : 0 ≤ l) (h : Xj S 2 v.toNat = 0 ∨ Xi S 3 (v / 3).toNat ≠ so ∨ Xi S 4 (v / 3).toNat ≠ wh) : nbS S so wh (3 * Xi S 1 3 - v).toNat v.toNat l = nbS S so wh (3 * Xi S 1 3 - (v + 1)).toNat (v + 1).toNat l := by sorry
theorem nb_32 {S : sS} {so wh l v : Int} (hv : 0 ≤ v ∧ v < 3 * Xi S 1 3) (hl : l = 0) (h1 : Xj S 2 v.toNat ≠ 0) (h2 : Xi S 3 (v / 3).toNat = so) (h3 : Xi S 4 (v / 3).toNat = wh) (h4 : v % 3 ≠ 0) : nbS S so wh (3 * Xi S 1 3 - v).toNat v.toNat l = 32 := by sorry
theorem nb_t {S : sS} {so wh l v g : Int} (hv : 0 ≤ v ∧ v < 3 * Xi S 1 3) (hl : 0 ≤ l) (h1 : Xj S 2 v.toNat ≠ 0) (h2 : Xi S 3 (v / 3).toNat = so) (h3 : Xi S 4 (v / 3).toNat = wh) (hg : (v % 3 = 0 ∧ g = 1) ∨ (v % 3 ≠ 0 ∧ g = 0 ∧ l ≠ 0)) : nbS S so wh (3 * Xi S 1 3 - v).toNat v.toNat l = nbT S so wh (3 * Xi S 1 3 - (v + 1)).toNat (v + 1).toNat (Xj S 2 v.toNat) (l - (1 - g)) := by sorry
theorem nbt_1 {S : sS} {so wh w l : Int} {f i : Nat} (h : l < ln7 w) : nbT S so wh f i w l = ch7 w l := by sorry
theorem nbt_2 {S : sS} {so wh w l : Int} {f i : Nat} (h : ¬ l < ln7 w) : nbT S so wh f i w l = nbS S so wh f i (l - ln7 w) := by sorry
theorem p27_d {n v : Int} (h : v = p27 n) (hn : 2 ≤ n) : v / 27 = p27 (n - 1) ∧ 27 ≤ v := by sorry
theorem ch_e {w v l c z : Int} (hv : v = p27 (ln7 w - l)) (hc : c = w / v % 27) (hz : z = 96 + c) : z = ch7 w l := by sorry
/-! only the page changes -/
def XW (S T : sS) : Prop := (∀ c j : Nat, c < 900 → Xi T c j = Xi S c j ∧ Xj T c j = Xj S c j) ∧ txr T = txr S ∧ (tp (txr S) → ∀ j : Nat, Xi T (txr T) j = Xi S (txr S) j)
theorem XW.f {l : List rec} {S T : sS} (F : FR l S T) (e : l = [(900, 901, 4, 5), (901, 902, 0, 100000)]) : XW S T := by sorry
theorem XW.rf {S : sS} : XW S S := by sorry
theorem nbS_x {S T : sS} {so wh : Int} (h : XW S T) : ∀ (f i : Nat) (l : Int), nbS T so wh f i l = nbS S so wh f i l := by sorry
theorem nbC_x {S T : sS} {so wh k : Int} (h : XW S T) : nbC T so wh k = nbC S so wh k := by sorry
theorem trwn_x {S T : sS} {p : Nat} (h : XW S T) : ∀ (f : Nat) (k : Int), k ≤ 15 → (∀ j : Nat, Xi S 6 j ≤ 15) → trwn T p f k = trwn S p f k := by sorry
theorem trw_x {S T : sS} {o : Int} {p : Nat} (h : XW S T) (ho : 0 ≤ o ∧ o ≤ 23) (q : ∀ j : Nat, Xi S 6 j ≤ 15) (q2 : ∀ j : Nat, Xi S 21 j ≤ 15) : trw T o p = trw S o p := by sorry
theorem fvn_x {S T : sS} {t : Int} (h : XW S T) : ∀ (f : Nat) (k : Int), fvn T t f k = fvn S t f k := by sorry
theorem vof_x {S T : sS} {o : Int} {p : Nat} (h : XW S T) (hH : HI S) (ho : 0 ≤ o ∧ o ≤ 23) : vof T o p = vof S o p ∧ lof T o p = lof S o p := by sorry
theorem txL_x {S T : sS} {a n : Int} (h : XW S T) (x : TXT S a n) : txL T (txr T) a n.toNat = txL S (txr S) a n.toNat := by sorry
/-- names as lists -/
def nmC (S : sS) (so wh : Int) : Nat → Nat → List Int
  | 0, _ => []
  | f + 1, k => if nbC S so wh k = -1 then [] else nbC S so wh k :: nmC S so wh f (k + 1)
theorem nmC_x {S T : sS} {so wh : Int} (h : XW S T) : ∀ (f k : Nat), nmC T so wh f k = nmC S so wh f k := by sorry
def nmQ (S : sS) (so wh : Int) : List Int := nmC S so wh 42 0
def NAM (S T : sS) (so wh v : Int) : Prop := ∃ L : List Int, T = wlF S L ∧ L ++ nmC S so wh (42 - v).toNat v.toNat = nmQ S so wh
theorem nam_0 {S : sS} {so wh : Int} : NAM S S so wh 0 := by sorry
theorem nam_s {S T U : sS} {so wh v b : Int} (h : NAM S T so wh v) (hv : 0 ≤ v ∧ v < 42) (hb : b = nbC S so wh v) (hn : b ≠ -1) (e : U = wrU T b) : NAM S U so wh (v + 1) := by sorry
theorem nam_e {S T : sS} {so wh v : Int} (h : NAM S T so wh v) (hv : 0 ≤ v) (q : 42 ≤ v ∨ nbC S so wh v = -1) : T = wlF S (nmQ S so wh) := by sorry
/-- a number's list -/
def ndF : Nat → Int → Nat
  | 0, _ => 0
  | f + 1, a => if a ≤ 9 then 0 else ndF f (a / 10) + 1
theorem ndF_i : ∀ (f : Nat) (a : Int), 0 ≤ a → a < 10 ^ (f + 1) → NDG a (ndF f a) := by sorry
def nmL (x : Int) : List Int := nmX x (ndF 10 (if x < 0 then -x else x))
theorem nmz_l {P : List Int → Prop} {x : Int} (h : NMZ P x) (hx : -2147483648 ≤ x ∧ x ≤ 2147483647) : P (nmL x) := by sorry
/-- an insert -/
def insL (S : sS) (o p : Int) : List Int := if p = -1 then nmQ S 2 o else if Xi S 9 p.toNat = 1 then txL S (txr S) (vof S o p.toNat) (lof S o p.toNat).toNat else if Xi S 9 p.toNat = 0 then nmL (vof S o p.toNat) else if vof S o p.toNat = -1 then [] else nmQ S 4 (vof S o p.toNat)
theorem insL_x {S T : sS} {o p : Int} (h : XW S T) (hH : HI S) (hX : TX S) (ho : p ≠ -1 → 0 ≤ o ∧ o ≤ 23) (hp : p ≤ 11) : insL T o p = insL S o p := by sorry
/-- what a text says -/
def thI (S : sS) (i : Int) : Int := if 0 ≤ i ∧ i < Xi S 246 8 then Xi S 274 i.toNat else -1
def ppI (S : sS) (i : Int) : Int := if 0 ≤ i ∧ i < Xi S 246 8 then Xi S 275 i.toNat else -1
theorem thi_i {S T : sS} {i z : Int} (h : XW S T) (q : 0 ≤ i → i < Xi T 246 8 → z = Xi T 274 i.toNat) (n : i < 0 ∨ Xi T 246 8 ≤ i → z = -1) : z = thI S i := by sorry
theorem ppi_i {S T : sS} {i z : Int} (h : XW S T) (q : 0 ≤ i → i < Xi T 246 8 → z = Xi T 275 i.toNat) (n : i < 0 ∨ Xi T 246 8 ≤ i → z = -1) : z = ppI S i := by sorry
def syL (S : sS) (noun a : Int) : Nat → Int → Int → Int → List Int
  | 0, _, _, _ => []
  | f + 1, i, nx, ins => if Xi S (txr S) (a + i).toNat = 91 then insL S (whU noun (thI S nx)) (ppI S nx) ++ syL S noun a f (i + 1) (nx + 1) 1 else if Xi S (txr S) (a + i).toNat = 93 then syL S noun a f (i + 1) nx 0 else if ins = 0 then Xi S (txr S) (a + i).toNat :: syL S noun a f (i + 1) nx 0 else syL S noun a f (i + 1) nx ins
def syA (S : sS) (cl : Nat) (noun : Int) : List Int := syL S noun (Xi S (276 + cl) 4) (Xi S (276 + cl) 5 - 0).toNat 0 (Xi S (276 + cl) 3) 0
def SYI (S T : sS) (cl : Nat) (noun i nx ins : Int) : Prop := ∃ L : List Int, T = wlF S L ∧ L ++ syL S noun (Xi S (276 + cl) 4) (Xi S (276 + cl) 5 - i).toNat i nx ins = syA S cl noun
theorem sy_0 {S : sS} {cl : Nat} {noun : Int} : SYI S S cl noun 0 (Xi S (276 + cl) 3) 0 := by sorry
theorem sy_i {S T U : sS} {cl : Nat} {noun i nx ins : Int} (h : SYI S T cl noun i nx ins) (hi : i < Xi S (276 + cl) 5) (b : Xi S (txr S) (Xi S (276 + cl) 4 + i).toNat = 91) (e : U = wlF T (insL S (whU noun (thI S nx)) (ppI S nx))) : SYI S U cl noun (i + 1) (nx + 1) 1 := by sorry
theorem sy_c {S T : sS} {cl : Nat} {noun i nx ins : Int} (h : SYI S T cl noun i nx ins) (hi : i < Xi S (276 + cl) 5) (b : Xi S (txr S) (Xi S (276 + cl) 4 + i).toNat = 93) : SYI S T cl noun (i + 1) nx 0 := by sorry
theorem sy_w {S T U : sS} {cl : Nat} {noun i nx ins b : Int} (h : SYI S T cl noun i nx ins) (hi : i < Xi S (276 + cl) 5) (eb : b = Xi S (txr S) (Xi S (276 + cl) 4 + i).toNat) (b1 : b ≠ 91) (b2 : b ≠ 93) (z : ins = 0) (e : U = wrU T b) : SYI S U cl noun (i + 1) nx ins := by sorry
theorem sy_n {S T : sS} {cl : Nat} {noun i nx ins : Int} (h : SYI S T cl noun i nx ins) (hi : i < Xi S (276 + cl) 5) (b1 : Xi S (txr S) (Xi S (276 + cl) 4 + i).toNat ≠ 91) (b2 : Xi S (txr S) (Xi S (276 + cl) 4 + i).toNat ≠ 93) (z : ins ≠ 0) : SYI S T cl noun (i + 1) nx ins := by sorry
theorem sy_e {S T : sS} {cl : Nat} {noun i nx ins : Int} (h : SYI S T cl noun i nx ins) (hi : Xi S (276 + cl) 5 ≤ i) : T = wlF S (syA S cl noun) := by sorry
/-- the words of the class's names are codes -/
def CW (S : sS) : Prop := ∀ i : Nat, (i : Int) < 3 * Xi S 1 3 → cd7 (Xj S 2 i)
theorem CW_FR {l : List rec} {S T : sS} (F : FR l S T) (e1 : mdf l 1 3 = false) (e2 : l.all (fun r => Nat.ble r.2.1 2 || Nat.ble (2 + 1) r.1) = true) (h : CW S) : CW T := by sorry
section
variable {lay : Nat → Nat × Nat} {d pc : Nat} {q : mT} {L : List (Nat × Value)} {st : List Value} {S : sS} {Q : pst}
theorem l_l2iE {x : Int} (hc : lk q.2.2.2.2.2 pc = some .l2i) (h : ∀ c : Int, (-2147483648 ≤ c ∧ c ≤ 2147483647) → (-2147483648 ≤ x → x ≤ 2147483647 → c = x) → Rl lay d q (pc + 1) L (iv c :: st) S Q) : Rl lay d q pc L (jw x :: st) S Q := by sorry
end

abbrev Q_vo_nameByte__w (S : sS) (sort : Int) (which : Int) (k : Int) : pst := fun r S1 => S = S1 ∧ (∃ z : Int, r = some (iv z) ∧ (-2147483648 ≤ z ∧ z ≤ 2147483647) ∧ (z = nbC S sort which k))
set_option maxRecDepth 100000 in
theorem t_vo_nameByte__w {S : sS} (hH : HI S) (sort : Int) (which : Int) (k : Int) (hsort : -2147483648 ≤ sort ∧ sort ≤ 2147483647) (hwhich : -2147483648 ≤ which ∧ which ≤ 2147483647) (hk : -2147483648 ≤ k ∧ k ≤ 2147483647) (cw : CW S) (d : Nat) : Mt lay0 (d + 1) m_vo_nameByte [.ref 1, iv sort, iv which, iv k] S (Q_vo_nameByte__w S sort which k) := by sorry
def md_tu_writeName__w : List rec := [(900, 901, 4, 5), (901, 902, 0, 100000)]
abbrev Q_tu_writeName__w (S : sS) (s : Int) (w : Int) : pst := fun r S1 => HI S1 ∧ FR md_tu_writeName__w S S1 ∧ (r = none ∧ (S1 = wlF S (nmQ S s w)))
set_option maxRecDepth 100000 in
theorem t_tu_writeName__w {S : sS} (hH : HI S) (s : Int) (w : Int) (hs : -2147483648 ≤ s ∧ s ≤ 2147483647) (hw : -2147483648 ≤ w ∧ w ≤ 2147483647) (cw : CW S) (d : Nat) : Mt lay0 (d + 2) m_tu_writeName [.ref 900, iv s, iv w] S (Q_tu_writeName__w S s w) := by sorry
def md_tu_writeInsert__w : List rec := [(900, 901, 4, 5), (901, 902, 0, 100000)]
abbrev Q_tu_writeInsert__w (S : sS) (o : Int) (p : Int) : pst := fun r S1 => HI S1 ∧ FR md_tu_writeInsert__w S S1 ∧ (r = none ∧ (S1 = wlF S (insL S o p)))
set_option maxRecDepth 100000 in
theorem t_tu_writeInsert__w {S : sS} (hH : HI S) (o : Int) (p : Int) (ho : -2 ≤ o ∧ o ≤ 23) (hp : -1 ≤ p ∧ p ≤ 11) (hX : TX S) (ho : p ≠ -1 → 0 ≤ o) (cw : CW S) (d : Nat) : Mt lay0 (d + 3) m_tu_writeInsert [.ref 900, iv o, iv p] S (Q_tu_writeInsert__w S o p) := by sorry
def md_tu_sayText__w : List rec := [(900, 901, 4, 5), (901, 902, 0, 100000)]
abbrev Q_tu_sayText__w (S : sS) (cl : Nat) (noun : Int) : pst := fun r S1 => HI S1 ∧ FR md_tu_sayText__w S S1 ∧ (r = none ∧ (TX S1) ∧ (S1 = wlF S (syA S cl noun ++ [10])))
set_option maxRecDepth 100000 in
theorem t_tu_sayText__w {S : sS} (hH : HI S) (cl : Nat) (noun : Int) (hcl : cl < 600) (hnoun : -1 ≤ noun ∧ noun ≤ 23) (hk : CLok S (0 ≤ noun) cl) (hf : Xi S (276 + cl) 0 = 7) (hX : TX S) (cw : CW S) (d : Nat) : Mt lay0 (d + 4) m_tu_sayText [.ref 900, .ref (276 + cl), iv noun] S (Q_tu_sayText__w S cl noun) := by sorry
end
end
