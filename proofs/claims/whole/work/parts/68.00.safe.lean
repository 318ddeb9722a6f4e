section
/-! SAFETY of methods: printed by wip/safe (vc.py, decl.py) -/
abbrev Q_vo_countOf (S : sS) (s : Int) : pst := fun r S1 => S = S1 ∧ (∃ z : Int, r = some (iv z) ∧ (-1 ≤ z ∧ z ≤ 64) ∧ (0 ≤ s → s ≤ 8 → z = Xi S 5 s.toNat ∧ 0 ≤ z) ∧ ((s = 0 → z ≤ 16) ∧ (s = 1 → z ≤ 8) ∧ (s = 2 → z ≤ 24) ∧ (s = 3 → z ≤ 24) ∧ (s = 4 → z ≤ 64) ∧ (s = 5 → z ≤ 12) ∧ (s = 6 → z ≤ 6) ∧ (s = 7 → z ≤ 8) ∧ (s = 8 → z ≤ 12)) ∧ (s < 0 ∨ 8 < s → z = -1))
set_option maxRecDepth 100000 in
theorem t_vo_countOf {S : sS} (hH : HI S) (s : Int) (hs : -2147483648 ≤ s ∧ s ≤ 2147483647) (d : Nat) : Mt lay0 (d + 1) m_vo_countOf [.ref 1, iv s] S (Q_vo_countOf S s) := by sorry
abbrev Q_vo_isKind (S : sS) (kind : Int) (other : Int) : pst := fun r S1 => S = S1 ∧ (∃ z : Int, r = some (iv z) ∧ (0 ≤ z ∧ z ≤ 1) ∧ (z = isK S kind other))
set_option maxRecDepth 100000 in
theorem t_vo_isKind {S : sS} (hH : HI S) (kind : Int) (other : Int) (hkind : -1 ≤ kind ∧ kind ≤ 15) (hother : -2147483648 ≤ other ∧ other ≤ 2147483647) (d : Nat) : Mt lay0 (d + 1) m_vo_isKind [.ref 1, iv kind, iv other] S (Q_vo_isKind S kind other) := by sorry
abbrev Q_wo_isA (S : sS) (o : Int) (kind : Int) : pst := fun r S1 => S = S1 ∧ (∃ z : Int, r = some (iv z) ∧ (0 ≤ z ∧ z ≤ 1) ∧ (z = isK S (Xi S 21 o.toNat) kind))
set_option maxRecDepth 100000 in
theorem t_wo_isA {S : sS} (hH : HI S) (o : Int) (kind : Int) (ho : 0 ≤ o ∧ o ≤ 23) (hkind : -2147483648 ≤ kind ∧ kind ≤ 2147483647) (d : Nat) : Mt lay0 (d + 2) m_wo_isA [.ref 20, iv o, iv kind] S (Q_wo_isA S o kind) := by sorry
abbrev Q_bo_clauseAt (S : sS) (i : Int) : pst := fun r S1 => S = S1 ∧ (∃ z : Nat, r = some (.ref (276 + z)) ∧ z < 600 ∧ (0 ≤ i → i < 600 → (z : Int) = i))
set_option maxRecDepth 100000 in
theorem t_bo_clauseAt {S : sS} (hH : HI S) (i : Int) (hi : -2147483648 ≤ i ∧ i ≤ 2147483647) (d : Nat) : Mt lay0 (d + 1) m_bo_clauseAt [.ref 246, iv i] S (Q_bo_clauseAt S i) := by sorry
abbrev Q_tu_whoIs (S : sS) (who : Int) (self : Int) : pst := fun r S1 => S = S1 ∧ (∃ z : Int, r = some (iv z) ∧ (-2 ≤ z ∧ z ≤ 23) ∧ ((who = -2 → z = self) ∧ (who ≠ -2 → z = who)))
set_option maxRecDepth 100000 in
theorem t_tu_whoIs {S : sS} (hH : HI S) (who : Int) (self : Int) (hwho : -2 ≤ who ∧ who ≤ 23) (hself : -1 ≤ self ∧ self ≤ 23) (d : Nat) : Mt lay0 (d + 1) m_tu_whoIs [iv who, iv self] S (Q_tu_whoIs S who self) := by sorry
abbrev Q_wo_hasAdjective (S : sS) (o : Int) (a : Int) : pst := fun r S1 => S = S1 ∧ (∃ z : Int, r = some (iv z) ∧ (0 ≤ z ∧ z ≤ 1) ∧ (z = hasA S o a))
set_option maxRecDepth 100000 in
theorem t_wo_hasAdjective {S : sS} (hH : HI S) (o : Int) (a : Int) (ho : 0 ≤ o ∧ o ≤ 23) (ha : 0 ≤ a ∧ a ≤ 23) (d : Nat) : Mt lay0 (d + 1) m_wo_hasAdjective [.ref 20, iv o, iv a] S (Q_wo_hasAdjective S o a) := by sorry
abbrev Q_wo_tellingRow (S : sS) (o : Int) (p : Int) : pst := fun r S1 => S = S1 ∧ (∃ z : Int, r = some (iv z) ∧ (-1 ≤ z ∧ z ≤ 39) ∧ (z = trw S o p.toNat))
set_option maxRecDepth 100000 in
theorem t_wo_tellingRow {S : sS} (hH : HI S) (o : Int) (p : Int) (ho : 0 ≤ o ∧ o ≤ 23) (hp : 0 ≤ p ∧ p ≤ 11) (d : Nat) : Mt lay0 (d + 1) m_wo_tellingRow [.ref 20, iv o, iv p] S (Q_wo_tellingRow S o p) := by sorry
abbrev Q_vo_firstValueOf (S : sS) (t : Int) : pst := fun r S1 => S = S1 ∧ (∃ z : Int, r = some (iv z) ∧ (-1 ≤ z ∧ z ≤ 63) ∧ (z = fvo S t))
set_option maxRecDepth 100000 in
theorem t_vo_firstValueOf {S : sS} (hH : HI S) (t : Int) (ht : -2147483648 ≤ t ∧ t ≤ 2147483647) (d : Nat) : Mt lay0 (d + 1) m_vo_firstValueOf [.ref 1, iv t] S (Q_vo_firstValueOf S t) := by sorry
abbrev Q_wo_valueOf (S : sS) (o : Int) (p : Int) : pst := fun r S1 => S = S1 ∧ (∃ z : Int, r = some (iv z) ∧ (-2147483648 ≤ z ∧ z ≤ 2147483647) ∧ (z = vof S o p.toNat))
set_option maxRecDepth 100000 in
theorem t_wo_valueOf {S : sS} (hH : HI S) (o : Int) (p : Int) (ho : 0 ≤ o ∧ o ≤ 23) (hp : 0 ≤ p ∧ p ≤ 11) (d : Nat) : Mt lay0 (d + 2) m_wo_valueOf [.ref 20, iv o, iv p] S (Q_wo_valueOf S o p) := by sorry
abbrev Q_wo_lengthOf (S : sS) (o : Int) (p : Int) : pst := fun r S1 => S = S1 ∧ (∃ z : Int, r = some (iv z) ∧ (-2147483648 ≤ z ∧ z ≤ 2147483647) ∧ (z = lof S o p.toNat))
set_option maxRecDepth 100000 in
theorem t_wo_lengthOf {S : sS} (hH : HI S) (o : Int) (p : Int) (ho : 0 ≤ o ∧ o ≤ 23) (hp : 0 ≤ p ∧ p ≤ 11) (d : Nat) : Mt lay0 (d + 2) m_wo_lengthOf [.ref 20, iv o, iv p] S (Q_wo_lengthOf S o p) := by sorry
abbrev Q_wo_isRelated (S : sS) (rl : Int) (a : Int) (b : Int) : pst := fun r S1 => S = S1 ∧ (∃ z : Int, r = some (iv z) ∧ (0 ≤ z ∧ z ≤ 1) ∧ (z = relF S rl a b))
set_option maxRecDepth 100000 in
theorem t_wo_isRelated {S : sS} (hH : HI S) (rl : Int) (a : Int) (b : Int) (hrl : 0 ≤ rl ∧ rl ≤ 5) (ha : 0 ≤ a ∧ a ≤ 23) (hb : 0 ≤ b ∧ b ≤ 23) (d : Nat) : Mt lay0 (d + 1) m_wo_isRelated [.ref 20, iv rl, iv a, iv b] S (Q_wo_isRelated S rl a b) := by sorry
abbrev Q_vo_kindsAbove (S : sS) (kind : Int) : pst := fun r S1 => S = S1 ∧ (∃ z : Int, r = some (iv z) ∧ (0 ≤ z ∧ z ≤ 16) ∧ (z = kab S kind))
set_option maxRecDepth 100000 in
theorem t_vo_kindsAbove {S : sS} (hH : HI S) (kind : Int) (hkind : 0 ≤ kind ∧ kind ≤ 15) (d : Nat) : Mt lay0 (d + 1) m_vo_kindsAbove [.ref 1, iv kind] S (Q_vo_kindsAbove S kind) := by sorry
abbrev Q_vo_propertiesOf (S : sS) (kind : Int) : pst := fun r S1 => S = S1 ∧ (∃ z : Int, r = some (iv z) ∧ (-2147483648 ≤ z ∧ z ≤ 2147483647) ∧ (z = pps S kind))
set_option maxRecDepth 100000 in
theorem t_vo_propertiesOf {S : sS} (hH : HI S) (kind : Int) (hkind : -1 ≤ kind ∧ kind ≤ 15) (d : Nat) : Mt lay0 (d + 1) m_vo_propertiesOf [.ref 1, iv kind] S (Q_vo_propertiesOf S kind) := by sorry
abbrev Q_vo_adjectivesOf (S : sS) (kind : Int) : pst := fun r S1 => S = S1 ∧ (∃ z : Int, r = some (iv z) ∧ (0 ≤ z ∧ z ≤ 24) ∧ (z = adjs S kind))
set_option maxRecDepth 100000 in
theorem t_vo_adjectivesOf {S : sS} (hH : HI S) (kind : Int) (hkind : -1 ≤ kind ∧ kind ≤ 15) (d : Nat) : Mt lay0 (d + 2) m_vo_adjectivesOf [.ref 1, iv kind] S (Q_vo_adjectivesOf S kind) := by sorry
abbrev Q_vo_valuesOf (S : sS) (t : Int) : pst := fun r S1 => S = S1 ∧ (∃ z : Int, r = some (iv z) ∧ (0 ≤ z ∧ z ≤ 64) ∧ (z = vals S t))
set_option maxRecDepth 100000 in
theorem t_vo_valuesOf {S : sS} (hH : HI S) (t : Int) (ht : -2147483648 ≤ t ∧ t ≤ 2147483647) (d : Nat) : Mt lay0 (d + 1) m_vo_valuesOf [.ref 1, iv t] S (Q_vo_valuesOf S t) := by sorry
abbrev Q_wo_isWithin (S : sS) (o : Int) (other : Int) : pst := fun r S1 => S = S1 ∧ (∃ z : Int, r = some (iv z) ∧ (0 ≤ z ∧ z ≤ 1) ∧ (z = isW S o other))
set_option maxRecDepth 100000 in
theorem t_wo_isWithin {S : sS} (hH : HI S) (o : Int) (other : Int) (ho : -1 ≤ o ∧ o ≤ 23) (hother : -2147483648 ≤ other ∧ other ≤ 2147483647) (d : Nat) : Mt lay0 (d + 1) m_wo_isWithin [.ref 20, iv o, iv other] S (Q_wo_isWithin S o other) := by sorry
abbrev Q_wo_roomBehind (S : sS) (room : Int) (dir : Int) : pst := fun r S1 => S = S1 ∧ (∃ z : Int, r = some (iv z) ∧ (-1 ≤ z ∧ z ≤ 23) ∧ (z = rbh S room dir))
set_option maxRecDepth 100000 in
theorem t_wo_roomBehind {S : sS} (hH : HI S) (room : Int) (dir : Int) (hroom : 0 ≤ room ∧ room ≤ 23) (hdir : 0 ≤ dir ∧ dir ≤ 5) (d : Nat) : Mt lay0 (d + 1) m_wo_roomBehind [.ref 20, iv room, iv dir] S (Q_wo_roomBehind S room dir) := by sorry
abbrev Q_rs_isArt (S : sS) (t : Int) : pst := fun r S1 => S = S1 ∧ (∃ z : Int, r = some (iv z) ∧ (0 ≤ z ∧ z ≤ 1) ∧ ((z = 1 → 0 ≤ t ∧ t ≤ 3) ∧ (z = 0 → t < 0 ∨ 3 < t)))
set_option maxRecDepth 100000 in
theorem t_rs_isArt {S : sS} (hH : HI S) (t : Int) (ht : -2147483648 ≤ t ∧ t ≤ 2147483647) (d : Nat) : Mt lay0 (d + 1) m_rs_isArt [iv t] S (Q_rs_isArt S t) := by sorry
abbrev Q_to_typeAt (S : sS) (row : Int) : pst := fun r S1 => S = S1 ∧ (∃ z : Int, r = some (iv z) ∧ (0 ≤ z ∧ z ≤ 108) ∧ (z ≠ 107 → 0 ≤ row ∧ row < Xi S 876 7 ∧ z = Xi S 877 row.toNat) ∧ (0 ≤ row → row < Xi S 876 7 → z = Xi S 877 row.toNat) ∧ (row < 0 ∨ Xi S 876 7 ≤ row → z = 107))
set_option maxRecDepth 100000 in
theorem t_to_typeAt {S : sS} (hH : HI S) (row : Int) (hrow : -2147483648 ≤ row ∧ row ≤ 2147483647) (d : Nat) : Mt lay0 (d + 1) m_to_typeAt [.ref 876, iv row] S (Q_to_typeAt S row) := by sorry
abbrev Q_bo_thingOfInsert (S : sS) (i : Int) : pst := fun r S1 => S = S1 ∧ (∃ z : Int, r = some (iv z) ∧ (-2 ≤ z ∧ z ≤ 23) ∧ (0 ≤ i → i < Xi S 246 8 → z = Xi S 274 i.toNat) ∧ (i < 0 ∨ Xi S 246 8 ≤ i → z = -1))
set_option maxRecDepth 100000 in
theorem t_bo_thingOfInsert {S : sS} (hH : HI S) (i : Int) (hi : -2147483648 ≤ i ∧ i ≤ 2147483647) (d : Nat) : Mt lay0 (d + 1) m_bo_thingOfInsert [.ref 246, iv i] S (Q_bo_thingOfInsert S i) := by sorry
abbrev Q_bo_propertyOfInsert (S : sS) (i : Int) : pst := fun r S1 => S = S1 ∧ (∃ z : Int, r = some (iv z) ∧ (-1 ≤ z ∧ z ≤ 11) ∧ (0 ≤ i → i < Xi S 246 8 → z = Xi S 275 i.toNat) ∧ (i < 0 ∨ Xi S 246 8 ≤ i → z = -1))
set_option maxRecDepth 100000 in
theorem t_bo_propertyOfInsert {S : sS} (hH : HI S) (i : Int) (hi : -2147483648 ≤ i ∧ i ≤ 2147483647) (d : Nat) : Mt lay0 (d + 1) m_bo_propertyOfInsert [.ref 246, iv i] S (Q_bo_propertyOfInsert S i) := by sorry
abbrev Q_rs_letterOf (S : sS) (b : Int) : pst := fun r S1 => S = S1 ∧ (∃ z : Int, r = some (iv z) ∧ (0 ≤ z ∧ z ≤ 26))
set_option maxRecDepth 100000 in
theorem t_rs_letterOf {S : sS} (hH : HI S) (b : Int) (hb : -2147483648 ≤ b ∧ b ≤ 2147483647) (d : Nat) : Mt lay0 (d + 1) m_rs_letterOf [iv b] S (Q_rs_letterOf S b) := by sorry
abbrev Q_to_closing (S : sS) (ts : Nat) (from_ : Int) : pst := fun r S1 => S = S1 ∧ (∃ z : Int, r = some (iv z) ∧ (-1 ≤ z ∧ z ≤ 4999) ∧ (z = -1 ∨ (from_ ≤ z ∧ z < Xi S 876 5)))
set_option maxRecDepth 100000 in
theorem t_to_closing {S : sS} (hH : HI S) (ts : Nat) (from_ : Int) (hfrom_ : 0 ≤ from_ ∧ from_ ≤ 5000) (hts : S.2.2 876 4 = some ts) (htp : tp ts) (d : Nat) : Mt lay0 (d + 1) m_to_closing [.ref 876, iv from_] S (Q_to_closing S ts from_) := by sorry
abbrev Q_to_skip (S : sS) (ts : Nat) (from_ : Int) : pst := fun r S1 => S = S1 ∧ (∃ z : Int, r = some (iv z) ∧ (0 ≤ z ∧ z ≤ 5000) ∧ (from_ ≤ z ∧ z ≤ Xi S 876 5))
set_option maxRecDepth 100000 in
theorem t_to_skip {S : sS} (hH : HI S) (ts : Nat) (from_ : Int) (hfrom_ : 0 ≤ from_ ∧ from_ ≤ 5000) (hts : S.2.2 876 4 = some ts) (htp : tp ts) (h5 : from_ ≤ Xi S 876 5) (d : Nat) : Mt lay0 (d + 2) m_to_skip [.ref 876, iv from_] S (Q_to_skip S ts from_) := by sorry
abbrev Q_to_keyOf (S : sS) (code : Int) : pst := fun r S1 => S = S1 ∧ (∃ z : Int, r = some (iv z) ∧ (0 ≤ z ∧ z ≤ 100))
set_option maxRecDepth 100000 in
theorem t_to_keyOf {S : sS} (hH : HI S) (code : Int) (d : Nat) : Mt lay0 (d + 1) m_to_keyOf [.ref 876, jw code] S (Q_to_keyOf S code) := by sorry
abbrev Q_to_endsBadly (S : sS) : pst := fun r S1 => S = S1 ∧ (∃ z : Int, r = some (iv z) ∧ (0 ≤ z ∧ z ≤ 1))
set_option maxRecDepth 100000 in
theorem t_to_endsBadly {S : sS} (hH : HI S) (d : Nat) : Mt lay0 (d + 2) m_to_endsBadly [.ref 876] S (Q_to_endsBadly S) := by sorry
abbrev Q_to_lastRow (S : sS) : pst := fun r S1 => S = S1 ∧ (∃ z : Int, r = some (iv z) ∧ (-1 ≤ z ∧ z ≤ 5129) ∧ (z = Xi S 876 7 - 1))
set_option maxRecDepth 100000 in
theorem t_to_lastRow {S : sS} (hH : HI S) (d : Nat) : Mt lay0 (d + 1) m_to_lastRow [.ref 876] S (Q_to_lastRow S) := by sorry
def md_to_wrong : List rec := [(876, 877, 8, 9), (876, 877, 9, 10)]
abbrev Q_to_wrong (S : sS) (code : Int) (row : Int) : pst := fun r S1 => HI S1 ∧ FR md_to_wrong S S1 ∧ (∃ z : Int, r = some (iv z) ∧ (0 ≤ z ∧ z ≤ 1) ∧ (z = 0) ∧ (1 ≤ code → Xi S1 876 8 ≠ 0))
set_option maxRecDepth 100000 in
theorem t_to_wrong {S : sS} (hH : HI S) (code : Int) (row : Int) (hcode : 0 ≤ code ∧ code ≤ 9) (hrow : -2147483648 ≤ row ∧ row ≤ 2147483647) (d : Nat) : Mt lay0 (d + 1) m_to_wrong [.ref 876, iv code, iv row] S (Q_to_wrong S code row) := by sorry
abbrev Q_to_runEndUpTo (S : sS) (from_ : Int) (limit : Int) : pst := fun r S1 => S = S1 ∧ (∃ z : Int, r = some (iv z) ∧ (-2147483648 ≤ z ∧ z ≤ 2147483647) ∧ (from_ ≤ z) ∧ (from_ < z → 0 ≤ from_ ∧ z ≤ limit ∧ z ≤ Xi S 876 7) ∧ (from_ < z → Xi S 877 from_.toNat = 100) ∧ (0 ≤ from_ → from_ < limit → from_ < Xi S 876 7 → Xi S 877 from_.toNat = 100 → from_ < z) ∧ (∀ r : Nat, from_ ≤ r → (r : Int) < z → Xi S 877 r = 100) ∧ (z < limit → z < Xi S 876 7 → 0 ≤ z → Xi S 877 z.toNat ≠ 100) ∧ (z = ruF S from_ limit))
set_option maxRecDepth 100000 in
theorem t_to_runEndUpTo {S : sS} (hH : HI S) (from_ : Int) (limit : Int) (hfrom_ : -2147483648 ≤ from_ ∧ from_ ≤ 2147483647) (hlimit : -2147483648 ≤ limit ∧ limit ≤ 2147483647) (d : Nat) : Mt lay0 (d + 1) m_to_runEndUpTo [.ref 876, iv from_, iv limit] S (Q_to_runEndUpTo S from_ limit) := by sorry
abbrev Q_to_runEnd (S : sS) (from_ : Int) : pst := fun r S1 => S = S1 ∧ (∃ z : Int, r = some (iv z) ∧ (-2147483648 ≤ z ∧ z ≤ 2147483647) ∧ (from_ ≤ z) ∧ (from_ < z → 0 ≤ from_ ∧ z ≤ Xi S 876 7) ∧ (from_ < z → Xi S 877 from_.toNat = 100) ∧ (0 ≤ from_ → from_ < Xi S 876 7 → Xi S 877 from_.toNat = 100 → from_ < z) ∧ (∀ r : Nat, from_ ≤ r → (r : Int) < z → Xi S 877 r = 100) ∧ (z < Xi S 876 7 → 0 ≤ z → Xi S 877 z.toNat ≠ 100) ∧ (z = ruF S from_ (Xi S 876 7)))
set_option maxRecDepth 100000 in
theorem t_to_runEnd {S : sS} (hH : HI S) (from_ : Int) (hfrom_ : -2147483648 ≤ from_ ∧ from_ ≤ 2147483647) (d : Nat) : Mt lay0 (d + 2) m_to_runEnd [.ref 876, iv from_] S (Q_to_runEnd S from_) := by sorry
abbrev Q_to_behindArt (S : sS) (row : Int) : pst := fun r S1 => S = S1 ∧ (∃ z : Int, r = some (iv z) ∧ (-2147483648 ≤ z ∧ z ≤ 2147483647) ∧ ((z = row ∨ (z = row + 1 ∧ 0 ≤ row ∧ row < Xi S 876 7 ∧ Xi S 877 row.toNat ≤ 3))))
set_option maxRecDepth 100000 in
theorem t_to_behindArt {S : sS} (hH : HI S) (row : Int) (hrow : -2147483648 ≤ row ∧ row ≤ 2147483646) (d : Nat) : Mt lay0 (d + 2) m_to_behindArt [.ref 876, iv row] S (Q_to_behindArt S row) := by sorry
abbrev Q_to_beginsProperty (S : sS) (row : Int) : pst := fun r S1 => S = S1 ∧ (∃ z : Int, r = some (iv z) ∧ (0 ≤ z ∧ z ≤ 1) ∧ (z = 1 → PROP S row))
set_option maxRecDepth 100000 in
theorem t_to_beginsProperty {S : sS} (hH : HI S) (row : Int) (hrow : -2147483647 ≤ row ∧ row ≤ 2147483645) (d : Nat) : Mt lay0 (d + 2) m_to_beginsProperty [.ref 876, iv row] S (Q_to_beginsProperty S row) := by sorry
abbrev Q_to_firstOf (S : sS) (type : Int) (from_ : Int) (to : Int) : pst := fun r S1 => S = S1 ∧ (∃ z : Int, r = some (iv z) ∧ (-2147483648 ≤ z ∧ z ≤ 2147483647) ∧ (z = -1 ∨ (from_ ≤ z ∧ z < to)))
set_option maxRecDepth 100000 in
theorem t_to_firstOf {S : sS} (hH : HI S) (type : Int) (from_ : Int) (to : Int) (htype : -2147483648 ≤ type ∧ type ≤ 2147483647) (hfrom_ : -2147483648 ≤ from_ ∧ from_ ≤ 2147483647) (hto : -2147483648 ≤ to ∧ to ≤ 5131) (d : Nat) : Mt lay0 (d + 2) m_to_firstOf [.ref 876, iv type, iv from_, iv to] S (Q_to_firstOf S type from_ to) := by sorry
abbrev Q_to_tellingKey (S : sS) : pst := fun r S1 => S = S1 ∧ (∃ z : Int, r = some (iv z) ∧ (-1 ≤ z ∧ z ≤ 5129) ∧ (z = -1 ∨ (0 ≤ z ∧ z < Xi S 876 7)))
set_option maxRecDepth 100000 in
theorem t_to_tellingKey {S : sS} (hH : HI S) (d : Nat) : Mt lay0 (d + 1) m_to_tellingKey [.ref 876] S (Q_to_tellingKey S) := by sorry
abbrev Q_to_testEnd (S : sS) (from_ : Int) (now : Int) : pst := fun r S1 => S = S1 ∧ (∃ z : Int, r = some (iv z) ∧ (0 ≤ z ∧ z ≤ 5140) ∧ (from_ ≤ z ∨ z = Xi S 876 7) ∧ (from_ ≤ Xi S 876 7 → from_ ≤ z ∧ z ≤ Xi S 876 7))
set_option maxRecDepth 100000 in
theorem t_to_testEnd {S : sS} (hH : HI S) (from_ : Int) (now : Int) (hfrom_ : 0 ≤ from_ ∧ from_ ≤ 5140) (hnow : 0 ≤ now ∧ now ≤ 1) (d : Nat) : Mt lay0 (d + 1) m_to_testEnd [.ref 876, iv from_, iv now] S (Q_to_testEnd S from_ now) := by sorry
abbrev Q_to_placeAt (S : sS) (row : Int) : pst := fun r S1 => S = S1 ∧ (∃ z : Int, r = some (iv z) ∧ (0 ≤ z ∧ z ≤ 5000) ∧ (0 ≤ row → row < Xi S 876 7 → z = Xi S 878 row.toNat))
set_option maxRecDepth 100000 in
theorem t_to_placeAt {S : sS} (hH : HI S) (row : Int) (hrow : -2147483648 ≤ row ∧ row ≤ 2147483647) (d : Nat) : Mt lay0 (d + 1) m_to_placeAt [.ref 876, iv row] S (Q_to_placeAt S row) := by sorry
abbrev Q_to_valueAt (S : sS) (row : Int) : pst := fun r S1 => S = S1 ∧ (∃ z : Int, r = some (iv z) ∧ (-2147483648 ≤ z ∧ z ≤ 2147483647) ∧ (0 ≤ row → row < Xi S 876 7 → 0 ≤ Xj S 879 row.toNat → Xj S 879 row.toNat ≤ 2147483647 → z = Xj S 879 row.toNat))
set_option maxRecDepth 100000 in
theorem t_to_valueAt {S : sS} (hH : HI S) (row : Int) (hrow : -2147483648 ≤ row ∧ row ≤ 2147483647) (d : Nat) : Mt lay0 (d + 1) m_to_valueAt [.ref 876, iv row] S (Q_to_valueAt S row) := by sorry
abbrev Q_to_beginsRun (S : sS) (row : Int) (from_ : Int) : pst := fun r S1 => S = S1 ∧ (∃ z : Int, r = some (iv z) ∧ (0 ≤ z ∧ z ≤ 1) ∧ (z = 1 → from_ ≤ row ∧ row < Xi S 876 7 ∧ (0 ≤ row → Xi S 877 row.toNat = 100)) ∧ (z = bgr S row from_))
set_option maxRecDepth 100000 in
theorem t_to_beginsRun {S : sS} (hH : HI S) (row : Int) (from_ : Int) (hrow : -2147483648 ≤ row ∧ row ≤ 2147483647) (hfrom_ : 0 ≤ from_ ∧ from_ ≤ 5131) (d : Nat) : Mt lay0 (d + 1) m_to_beginsRun [.ref 876, iv row, iv from_] S (Q_to_beginsRun S row from_) := by sorry
def md_gr_take : List rec := [(890, 891, 1, 2)]
abbrev Q_gr_take (S : sS) (ty : Int) : pst := fun r S1 => HI S1 ∧ FR md_gr_take S S1 ∧ (∃ z : Int, r = some (iv z) ∧ (0 ≤ z ∧ z ≤ 1) ∧ (Xi S 890 1 ≤ Xi S1 890 1 ∧ Xi S1 890 1 ≤ Xi S 876 7) ∧ (SAY S1 (Xi S1 890 1)) ∧ (z = 1 → Xi S1 890 1 = Xi S 890 1 + 1 ∧ Xi S 890 1 < Xi S 876 7 ∧ Xi S 877 (Xi S 890 1).toNat = ty) ∧ (z = 0 → Xi S1 890 1 = Xi S 890 1))
set_option maxRecDepth 100000 in
theorem t_gr_take {S : sS} (hH : HI S) (ty : Int) (hty : 0 ≤ ty ∧ ty ≤ 106) (ha : Xi S 890 1 ≤ Xi S 876 7) (hs : SAY S (Xi S 890 1)) (hn : ty ≠ 43) (d : Nat) : Mt lay0 (d + 2) m_gr_take [.ref 890, iv ty] S (Q_gr_take S ty) := by sorry
def md_gr_take__2 : List rec := [(890, 891, 1, 2)]
abbrev Q_gr_take__2 (S : sS) (ty : Int) : pst := fun r S1 => HI S1 ∧ FR md_gr_take__2 S S1 ∧ (∃ z : Int, r = some (iv z) ∧ (0 ≤ z ∧ z ≤ 1) ∧ (Xi S 890 1 ≤ Xi S1 890 1 ∧ Xi S1 890 1 ≤ Xi S 876 7) ∧ (z = 1 → Xi S1 890 1 = Xi S 890 1 + 1 ∧ Xi S 890 1 < Xi S 876 7 ∧ Xi S 877 (Xi S 890 1).toNat = ty) ∧ (z = 0 → Xi S1 890 1 = Xi S 890 1))
set_option maxRecDepth 100000 in
theorem t_gr_take__2 {S : sS} (hH : HI S) (ty : Int) (hty : 0 ≤ ty ∧ ty ≤ 106) (ha : Xi S 890 1 ≤ Xi S 876 7) (d : Nat) : Mt lay0 (d + 2) m_gr_take [.ref 890, iv ty] S (Q_gr_take__2 S ty) := by sorry
def md_gr_takeRun : List rec := [(890, 891, 1, 2)]
abbrev Q_gr_takeRun (S : sS) : pst := fun r S1 => HI S1 ∧ FR md_gr_takeRun S S1 ∧ (∃ z : Int, r = some (iv z) ∧ (0 ≤ z ∧ z ≤ 1) ∧ (Xi S 890 1 ≤ Xi S1 890 1 ∧ Xi S1 890 1 ≤ Xi S 876 7) ∧ (SAY S1 (Xi S1 890 1)) ∧ (z = 1 → Xi S 890 1 < Xi S1 890 1))
set_option maxRecDepth 100000 in
theorem t_gr_takeRun {S : sS} (hH : HI S) (ha : Xi S 890 1 ≤ Xi S 876 7) (hs : SAY S (Xi S 890 1)) (d : Nat) : Mt lay0 (d + 2) m_gr_takeRun [.ref 890] S (Q_gr_takeRun S) := by sorry
def md_gr_takeArt : List rec := [(890, 891, 1, 2)]
abbrev Q_gr_takeArt (S : sS) : pst := fun r S1 => HI S1 ∧ FR md_gr_takeArt S S1 ∧ (∃ z : Int, r = some (iv z) ∧ (0 ≤ z ∧ z ≤ 1) ∧ (Xi S 890 1 ≤ Xi S1 890 1 ∧ Xi S1 890 1 ≤ Xi S 876 7) ∧ (SAY S1 (Xi S1 890 1)) ∧ (z = 1 → Xi S1 890 1 = Xi S 890 1 + 1))
set_option maxRecDepth 100000 in
theorem t_gr_takeArt {S : sS} (hH : HI S) (ha : Xi S 890 1 ≤ Xi S 876 7) (hs : SAY S (Xi S 890 1)) (d : Nat) : Mt lay0 (d + 2) m_gr_takeArt [.ref 890] S (Q_gr_takeArt S) := by sorry
def md_gr_takeBe : List rec := [(890, 891, 1, 2)]
abbrev Q_gr_takeBe (S : sS) : pst := fun r S1 => HI S1 ∧ FR md_gr_takeBe S S1 ∧ (∃ z : Int, r = some (iv z) ∧ (0 ≤ z ∧ z ≤ 1) ∧ (Xi S 890 1 ≤ Xi S1 890 1 ∧ Xi S1 890 1 ≤ Xi S 876 7) ∧ (SAY S1 (Xi S1 890 1)))
set_option maxRecDepth 100000 in
theorem t_gr_takeBe {S : sS} (hH : HI S) (ha : Xi S 890 1 ≤ Xi S 876 7) (hs : SAY S (Xi S 890 1)) (d : Nat) : Mt lay0 (d + 3) m_gr_takeBe [.ref 890] S (Q_gr_takeBe S) := by sorry
def md_gr_takeHowMany : List rec := [(890, 891, 1, 2)]
abbrev Q_gr_takeHowMany (S : sS) : pst := fun r S1 => HI S1 ∧ FR md_gr_takeHowMany S S1 ∧ (∃ z : Int, r = some (iv z) ∧ (0 ≤ z ∧ z ≤ 1) ∧ (Xi S 890 1 ≤ Xi S1 890 1 ∧ Xi S1 890 1 ≤ Xi S 876 7) ∧ (SAY S1 (Xi S1 890 1)))
set_option maxRecDepth 100000 in
theorem t_gr_takeHowMany {S : sS} (hH : HI S) (ha : Xi S 890 1 ≤ Xi S 876 7) (hs : SAY S (Xi S 890 1)) (d : Nat) : Mt lay0 (d + 3) m_gr_takeHowMany [.ref 890] S (Q_gr_takeHowMany S) := by sorry
def md_gr_takeName : List rec := [(890, 891, 1, 2)]
abbrev Q_gr_takeName (S : sS) : pst := fun r S1 => HI S1 ∧ FR md_gr_takeName S S1 ∧ (∃ z : Int, r = some (iv z) ∧ (0 ≤ z ∧ z ≤ 1) ∧ (Xi S 890 1 ≤ Xi S1 890 1 ∧ Xi S1 890 1 ≤ Xi S 876 7) ∧ (SAY S1 (Xi S1 890 1)))
set_option maxRecDepth 100000 in
theorem t_gr_takeName {S : sS} (hH : HI S) (ha : Xi S 890 1 ≤ Xi S 876 7) (hs : SAY S (Xi S 890 1)) (d : Nat) : Mt lay0 (d + 3) m_gr_takeName [.ref 890] S (Q_gr_takeName S) := by sorry
def md_gr_takeBetween : List rec := [(890, 891, 1, 2)]
abbrev Q_gr_takeBetween (S : sS) : pst := fun r S1 => HI S1 ∧ FR md_gr_takeBetween S S1 ∧ (∃ z : Int, r = some (iv z) ∧ (0 ≤ z ∧ z ≤ 1) ∧ (Xi S 890 1 ≤ Xi S1 890 1 ∧ Xi S1 890 1 ≤ Xi S 876 7) ∧ (SAY S1 (Xi S1 890 1)))
set_option maxRecDepth 100000 in
theorem t_gr_takeBetween {S : sS} (hH : HI S) (ha : Xi S 890 1 ≤ Xi S 876 7) (hs : SAY S (Xi S 890 1)) (d : Nat) : Mt lay0 (d + 3) m_gr_takeBetween [.ref 890] S (Q_gr_takeBetween S) := by sorry
abbrev Q_gr_atPlace (S : sS) : pst := fun r S1 => S = S1 ∧ (∃ z : Int, r = some (iv z) ∧ (0 ≤ z ∧ z ≤ 1) ∧ (z = 1 → 0 ≤ Xi S 890 1 ∧ Xi S 890 1 < Xi S 876 7 ∧ Xi S 877 (Xi S 890 1).toNat ≠ 43))
set_option maxRecDepth 100000 in
theorem t_gr_atPlace {S : sS} (hH : HI S) (d : Nat) : Mt lay0 (d + 2) m_gr_atPlace [.ref 890] S (Q_gr_atPlace S) := by sorry
def md_gr_takeThing : List rec := [(890, 891, 1, 2)]
abbrev Q_gr_takeThing (S : sS) : pst := fun r S1 => HI S1 ∧ FR md_gr_takeThing S S1 ∧ (∃ z : Int, r = some (iv z) ∧ (0 ≤ z ∧ z ≤ 1) ∧ (Xi S 890 1 ≤ Xi S1 890 1 ∧ Xi S1 890 1 ≤ Xi S 876 7) ∧ (SAY S1 (Xi S1 890 1)))
set_option maxRecDepth 100000 in
theorem t_gr_takeThing {S : sS} (hH : HI S) (ha : Xi S 890 1 ≤ Xi S 876 7) (hs : SAY S (Xi S 890 1)) (d : Nat) : Mt lay0 (d + 3) m_gr_takeThing [.ref 890] S (Q_gr_takeThing S) := by sorry
end
section
/-! SAFETY of methods: printed by wip/safe (vc.py, decl.py) -/
def md_gr_takeWhat : List rec := [(890, 891, 1, 2)]
abbrev Q_gr_takeWhat (S : sS) : pst := fun r S1 => HI S1 ∧ FR md_gr_takeWhat S S1 ∧ (∃ z : Int, r = some (iv z) ∧ (0 ≤ z ∧ z ≤ 1) ∧ (Xi S 890 1 ≤ Xi S1 890 1 ∧ Xi S1 890 1 ≤ Xi S 876 7) ∧ (SAY S1 (Xi S1 890 1)))
set_option maxRecDepth 100000 in
theorem t_gr_takeWhat {S : sS} (hH : HI S) (ha : Xi S 890 1 ≤ Xi S 876 7) (hs : SAY S (Xi S 890 1)) (d : Nat) : Mt lay0 (d + 3) m_gr_takeWhat [.ref 890] S (Q_gr_takeWhat S) := by sorry
def md_gr_takeLoose : List rec := [(890, 891, 1, 2)]
abbrev Q_gr_takeLoose (S : sS) (one : Int) (other : Int) : pst := fun r S1 => HI S1 ∧ FR md_gr_takeLoose S S1 ∧ (∃ z : Int, r = some (iv z) ∧ (0 ≤ z ∧ z ≤ 1) ∧ (Xi S 890 1 ≤ Xi S1 890 1 ∧ Xi S1 890 1 ≤ Xi S 876 7) ∧ (SAY S1 (Xi S1 890 1)))
set_option maxRecDepth 100000 in
theorem t_gr_takeLoose {S : sS} (hH : HI S) (one : Int) (other : Int) (hone : 0 ≤ one ∧ one ≤ 106) (hother : 0 ≤ other ∧ other ≤ 106) (ha : Xi S 890 1 ≤ Xi S 876 7) (hs : SAY S (Xi S 890 1)) (h1 : one ≠ 43) (h2 : other ≠ 43) (d : Nat) : Mt lay0 (d + 2) m_gr_takeLoose [.ref 890, iv one, iv other] S (Q_gr_takeLoose S one other) := by sorry
def md_gr_takePlace : List rec := [(890, 891, 1, 2)]
abbrev Q_gr_takePlace (S : sS) (any : Int) : pst := fun r S1 => HI S1 ∧ FR md_gr_takePlace S S1 ∧ (∃ z : Int, r = some (iv z) ∧ (0 ≤ z ∧ z ≤ 1) ∧ (Xi S 890 1 ≤ Xi S1 890 1 ∧ Xi S1 890 1 ≤ Xi S 876 7) ∧ (SAY S1 (Xi S1 890 1)))
set_option maxRecDepth 100000 in
theorem t_gr_takePlace {S : sS} (hH : HI S) (any : Int) (hany : 0 ≤ any ∧ any ≤ 1) (ha : Xi S 890 1 ≤ Xi S 876 7) (hs : SAY S (Xi S 890 1)) (hp : Xi S 890 1 < Xi S 876 7 ∧ Xi S 877 (Xi S 890 1).toNat ≠ 43) (d : Nat) : Mt lay0 (d + 4) m_gr_takePlace [.ref 890, iv any] S (Q_gr_takePlace S any) := by sorry
def md_gr_takePropertyTest : List rec := [(890, 891, 1, 2)]
abbrev Q_gr_takePropertyTest (S : sS) (now : Int) : pst := fun r S1 => HI S1 ∧ FR md_gr_takePropertyTest S S1 ∧ (∃ z : Int, r = some (iv z) ∧ (0 ≤ z ∧ z ≤ 1) ∧ (Xi S 890 1 ≤ Xi S1 890 1 ∧ Xi S1 890 1 ≤ Xi S 876 7) ∧ (SAY S1 (Xi S1 890 1)))
set_option maxRecDepth 100000 in
theorem t_gr_takePropertyTest {S : sS} (hH : HI S) (now : Int) (hnow : 0 ≤ now ∧ now ≤ 1) (ha : Xi S 890 1 ≤ Xi S 876 7) (hs : SAY S (Xi S 890 1)) (hp : PROP S (Xi S 890 1)) (d : Nat) : Mt lay0 (d + 4) m_gr_takePropertyTest [.ref 890, iv now] S (Q_gr_takePropertyTest S now) := by sorry
def md_gr_takeTest : List rec := [(890, 891, 1, 2)]
abbrev Q_gr_takeTest (S : sS) (now : Int) : pst := fun r S1 => HI S1 ∧ FR md_gr_takeTest S S1 ∧ (∃ z : Int, r = some (iv z) ∧ (0 ≤ z ∧ z ≤ 1) ∧ (Xi S 890 1 ≤ Xi S1 890 1 ∧ Xi S1 890 1 ≤ Xi S 876 7) ∧ (SAY S1 (Xi S1 890 1)))
set_option maxRecDepth 100000 in
theorem t_gr_takeTest {S : sS} (hH : HI S) (now : Int) (hnow : 0 ≤ now ∧ now ≤ 1) (ha : Xi S 890 1 ≤ Xi S 876 7) (hs : SAY S (Xi S 890 1)) (d : Nat) : Mt lay0 (d + 5) m_gr_takeTest [.ref 890, iv now] S (Q_gr_takeTest S now) := by sorry
def md_gr_takeTests : List rec := [(890, 891, 1, 2)]
abbrev Q_gr_takeTests (S : sS) : pst := fun r S1 => HI S1 ∧ FR md_gr_takeTests S S1 ∧ (∃ z : Int, r = some (iv z) ∧ (0 ≤ z ∧ z ≤ 1) ∧ (Xi S 890 1 ≤ Xi S1 890 1 ∧ Xi S1 890 1 ≤ Xi S 876 7) ∧ (SAY S1 (Xi S1 890 1)))
set_option maxRecDepth 100000 in
theorem t_gr_takeTests {S : sS} (hH : HI S) (ha : Xi S 890 1 ≤ Xi S 876 7) (hs : SAY S (Xi S 890 1)) (d : Nat) : Mt lay0 (d + 6) m_gr_takeTests [.ref 890] S (Q_gr_takeTests S) := by sorry
def md_gr_takeActing : List rec := [(890, 891, 1, 2)]
abbrev Q_gr_takeActing (S : sS) : pst := fun r S1 => HI S1 ∧ FR md_gr_takeActing S S1 ∧ (∃ z : Int, r = some (iv z) ∧ (0 ≤ z ∧ z ≤ 1) ∧ (Xi S 890 1 ≤ Xi S1 890 1 ∧ Xi S1 890 1 ≤ Xi S 876 7) ∧ (SAY S1 (Xi S1 890 1)))
set_option maxRecDepth 100000 in
theorem t_gr_takeActing {S : sS} (hH : HI S) (ha : Xi S 890 1 ≤ Xi S 876 7) (hs : SAY S (Xi S 890 1)) (d : Nat) : Mt lay0 (d + 3) m_gr_takeActing [.ref 890] S (Q_gr_takeActing S) := by sorry
def md_gr_takeList : List rec := [(890, 891, 1, 2)]
abbrev Q_gr_takeList (S : sS) : pst := fun r S1 => HI S1 ∧ FR md_gr_takeList S S1 ∧ (∃ z : Int, r = some (iv z) ∧ (0 ≤ z ∧ z ≤ 1) ∧ (Xi S 890 1 ≤ Xi S1 890 1 ∧ Xi S1 890 1 ≤ Xi S 876 7) ∧ (SAY S1 (Xi S1 890 1)))
set_option maxRecDepth 100000 in
theorem t_gr_takeList {S : sS} (hH : HI S) (ha : Xi S 890 1 ≤ Xi S 876 7) (hs : SAY S (Xi S 890 1)) (d : Nat) : Mt lay0 (d + 4) m_gr_takeList [.ref 890] S (Q_gr_takeList S) := by sorry
def md_gr_checkRuns : List rec := [(890, 891, 1, 2), (890, 891, 2, 3)]
abbrev Q_gr_checkRuns (S : sS) (alone : Int) : pst := fun r S1 => HI S1 ∧ FR md_gr_checkRuns S S1 ∧ (∃ z : Int, r = some (iv z) ∧ (0 ≤ z ∧ z ≤ 1) ∧ (Xi S 890 1 ≤ Xi S1 890 1 ∧ Xi S1 890 1 ≤ Xi S 876 7) ∧ (SAY S1 (Xi S1 890 1)) ∧ (14 ≤ Xi S1 890 2))
set_option maxRecDepth 100000 in
theorem t_gr_checkRuns {S : sS} (hH : HI S) (alone : Int) (halone : 0 ≤ alone ∧ alone ≤ 1) (ha : Xi S 890 1 ≤ Xi S 876 7) (hs : SAY S (Xi S 890 1)) (d : Nat) : Mt lay0 (d + 4) m_gr_checkRuns [.ref 890, iv alone] S (Q_gr_checkRuns S alone) := by sorry
def md_gr_takePhrase : List rec := [(890, 891, 1, 2)]
abbrev Q_gr_takePhrase (S : sS) : pst := fun r S1 => HI S1 ∧ FR md_gr_takePhrase S S1 ∧ (∃ z : Int, r = some (iv z) ∧ (0 ≤ z ∧ z ≤ 1) ∧ (Xi S 890 1 ≤ Xi S1 890 1 ∧ Xi S1 890 1 ≤ Xi S 876 7) ∧ (z = 1 → SAY S1 (Xi S1 890 1)))
set_option maxRecDepth 100000 in
theorem t_gr_takePhrase {S : sS} (hH : HI S) (ha : Xi S 890 1 ≤ Xi S 876 7) (hs : SAY S (Xi S 890 1)) (d : Nat) : Mt lay0 (d + 4) m_gr_takePhrase [.ref 890] S (Q_gr_takePhrase S) := by sorry
end
section
/-! SAFETY of methods: printed by wip/safe (vc.py, decl.py) -/
def md_gr_takePhrases : List rec := [(890, 891, 1, 2)]
abbrev Q_gr_takePhrases (S : sS) : pst := fun r S1 => HI S1 ∧ FR md_gr_takePhrases S S1 ∧ (∃ z : Int, r = some (iv z) ∧ (0 ≤ z ∧ z ≤ 1) ∧ (Xi S 890 1 ≤ Xi S1 890 1 ∧ Xi S1 890 1 ≤ Xi S 876 7) ∧ (z = 1 → SAY S1 (Xi S1 890 1)))
set_option maxRecDepth 100000 in
theorem t_gr_takePhrases {S : sS} (hH : HI S) (ha : Xi S 890 1 ≤ Xi S 876 7) (hs : SAY S (Xi S 890 1)) (d : Nat) : Mt lay0 (d + 6) m_gr_takePhrases [.ref 890] S (Q_gr_takePhrases S) := by sorry
def md_gr_checkBe : List rec := [(890, 891, 1, 2), (890, 891, 2, 3)]
abbrev Q_gr_checkBe (S : sS) : pst := fun r S1 => HI S1 ∧ FR md_gr_checkBe S S1 ∧ (∃ z : Int, r = some (iv z) ∧ (0 ≤ z ∧ z ≤ 1) ∧ (9 ≤ Xi S1 890 2 ∨ z = 0))
set_option maxRecDepth 100000 in
theorem t_gr_checkBe {S : sS} (hH : HI S) (ha : Xi S 890 1 ≤ Xi S 876 7) (hs : SAY S (Xi S 890 1)) (h0 : Xi S 890 1 = 0) (d : Nat) : Mt lay0 (d + 5) m_gr_checkBe [.ref 890] S (Q_gr_checkBe S) := by sorry
end
section
/-! SAFETY of methods: printed by wip/safe (vc.py, decl.py) -/
def md_gr_checkOthers : List rec := [(890, 891, 1, 2), (890, 891, 2, 3), (890, 891, 3, 4)]
abbrev Q_gr_checkOthers (S : sS) : pst := fun r S1 => HI S1 ∧ FR md_gr_checkOthers S S1 ∧ (∃ z : Int, r = some (iv z) ∧ (0 ≤ z ∧ z ≤ 1) ∧ (7 ≤ Xi S1 890 2 ∨ z = 0))
set_option maxRecDepth 100000 in
theorem t_gr_checkOthers {S : sS} (hH : HI S) (d : Nat) : Mt lay0 (d + 6) m_gr_checkOthers [.ref 890] S (Q_gr_checkOthers S) := by sorry
end
section
-- nothing
/-! SAFETY of methods: printed by wip/safe (vc.py, decl.py) -/
abbrev Q_vo_meaning (S : sS) (k n : Nat) (from_ : Int) (to : Int) : pst := fun r S1 => S = S1 ∧ (∃ z : Int, r = some (iv z) ∧ (-1 ≤ z ∧ z ≤ 3647) ∧ (1 ≤ to - from_ → to - from_ ≤ 3 → 0 ≤ from_ → to ≤ n → z = mnR S k from_.toNat (to - from_).toNat) ∧ (to - from_ < 1 ∨ 3 < to - from_ ∨ from_ < 0 ∨ (n : Int) < to → z = -1) ∧ (mOK S z))
set_option maxRecDepth 100000 in
theorem t_vo_meaning {S : sS} (hH : HI S) (k n : Nat) (from_ : Int) (to : Int) (hlk : lay0 k = (2, n)) (hkk : k < 2000 ∧ n ≤ 5130) (hfrom_ : -1 ≤ from_ ∧ from_ ≤ 6000) (hto : -1 ≤ to ∧ to ≤ 6000) (hL : LEX S) (d : Nat) : Mt lay0 (d + 1) m_vo_meaning [.ref 1, .ref k, iv from_, iv to] S (Q_vo_meaning S k n from_ to) := by sorry
abbrev Q_me_find (S : sS) (sort : Int) (from_ : Int) (to : Int) : pst := fun r S1 => S = S1 ∧ (∃ z : Int, r = some (iv z) ∧ (-1 ≤ z ∧ z ≤ 63) ∧ (z ≠ -1 → lexB S sort z) ∧ (1 ≤ to - from_ → to - from_ ≤ 3 → 0 ≤ from_ → to ≤ 5130 → (mnR S 879 from_.toNat (to - from_).toNat = sort * 256 + z ∧ z ≠ -1) ∨ (z = -1 ∧ ∀ w : Int, 0 ≤ w → w ≤ 255 → mnR S 879 from_.toNat (to - from_).toNat ≠ sort * 256 + w)) ∧ (z = fnd S sort from_ to))
set_option maxRecDepth 100000 in
theorem t_me_find {S : sS} (hH : HI S) (sort : Int) (from_ : Int) (to : Int) (hsort : 0 ≤ sort ∧ sort ≤ 14) (hfrom_ : -1 ≤ from_ ∧ from_ ≤ 6000) (hto : -1 ≤ to ∧ to ≤ 6000) (hL : LEX S) (d : Nat) : Mt lay0 (d + 2) m_me_find [.ref 895, iv sort, iv from_, iv to] S (Q_me_find S sort from_ to) := by sorry
abbrev Q_vo_entryOf (S : sS) (sort : Int) (which : Int) : pst := fun r S1 => S = S1 ∧ (∃ z : Int, r = some (iv z) ∧ (-1 ≤ z ∧ z ≤ 199) ∧ (z = -1 ∨ z < Xi S 1 3) ∧ (z ≠ -1 → Xi S 3 z.toNat = sort ∧ Xi S 4 z.toNat = which) ∧ (z = -1 → ∀ i : Nat, (i : Int) < Xi S 1 3 → Xi S 3 i = sort → Xi S 4 i ≠ which))
set_option maxRecDepth 100000 in
theorem t_vo_entryOf {S : sS} (hH : HI S) (sort : Int) (which : Int) (hsort : -2147483648 ≤ sort ∧ sort ≤ 2147483647) (hwhich : -2147483648 ≤ which ∧ which ≤ 2147483647) (d : Nat) : Mt lay0 (d + 1) m_vo_entryOf [.ref 1, iv sort, iv which] S (Q_vo_entryOf S sort which) := by sorry
def md_vo_addEntry : List rec := [(1, 2, 3, 4), (2, 3, 0, 100000), (3, 4, 0, 100000), (4, 5, 0, 100000)]
abbrev Q_vo_addEntry (S : sS) (sort : Int) (which : Int) (word : Int) : pst := fun r S1 => HI S1 ∧ FR md_vo_addEntry S S1 ∧ (r = none ∧ (LEX S1) ∧ (LKEEP S S1) ∧ ((Xi S 1 3 < 200 → Xi S1 1 3 = Xi S 1 3 + 1) ∧ (200 ≤ Xi S 1 3 → Xi S1 1 3 = Xi S 1 3)))
set_option maxRecDepth 100000 in
theorem t_vo_addEntry {S : sS} (hH : HI S) (sort : Int) (which : Int) (word : Int) (hsort : 0 ≤ sort ∧ sort ≤ 14) (hwhich : 0 ≤ which ∧ which ≤ 63) (hL : LEX S) (hb : lexB S sort which) (d : Nat) : Mt lay0 (d + 1) m_vo_addEntry [.ref 1, iv sort, iv which, jw word] S (Q_vo_addEntry S sort which word) := by sorry
def md_vo_nameIt : List rec := [(1, 2, 3, 4), (2, 3, 0, 100000), (3, 4, 0, 100000), (4, 5, 0, 100000)]
abbrev Q_vo_nameIt (S : sS) (sort : Int) (which : Int) (k n : Nat) (from_ : Int) (to : Int) : pst := fun r S1 => HI S1 ∧ FR md_vo_nameIt S S1 ∧ (r = none ∧ (LEX S1) ∧ ((∀ i : Nat, (i : Int) < Xi S 1 3 → Xi S 3 i = sort → Xi S 4 i ≠ which) → LKEEP S S1) ∧ (∀ j, Xi S1 5 j = Xi S 5 j))
set_option maxRecDepth 100000 in
theorem t_vo_nameIt {S : sS} (hH : HI S) (sort : Int) (which : Int) (k n : Nat) (from_ : Int) (to : Int) (hsort : 0 ≤ sort ∧ sort ≤ 14) (hwhich : 0 ≤ which ∧ which ≤ 63) (hlk : lay0 k = (2, n)) (hkk : k < 2000 ∧ n ≤ 5130) (hfrom_ : 0 ≤ from_ ∧ from_ ≤ 6000) (hto : 0 ≤ to ∧ to ≤ 6000) (hL : LEX S) (hb : lexB S sort which) (hto : to ≤ n) (d : Nat) : Mt lay0 (d + 2) m_vo_nameIt [.ref 1, iv sort, iv which, .ref k, iv from_, iv to] S (Q_vo_nameIt S sort which k n from_ to) := by sorry
def md_vo_tellNew : List rec := [(1, 2, 3, 4), (2, 3, 0, 100000), (3, 4, 0, 100000), (4, 5, 0, 100000), (5, 6, 0, 100000)]
abbrev Q_vo_tellNew (S : sS) (sort : Int) (k n : Nat) (from_ : Int) (to : Int) : pst := fun r S1 => HI S1 ∧ FR md_vo_tellNew S S1 ∧ (∃ z : Int, r = some (iv z) ∧ (0 ≤ z ∧ z ≤ 64) ∧ (z = Xi S 5 sort.toNat) ∧ (LEX S1) ∧ (LKEEP S S1) ∧ (Xi S1 5 sort.toNat = Xi S 5 sort.toNat + 1) ∧ (∀ j, j ≠ sort.toNat → Xi S1 5 j = Xi S 5 j))
set_option maxRecDepth 100000 in
theorem t_vo_tellNew {S : sS} (hH : HI S) (sort : Int) (k n : Nat) (from_ : Int) (to : Int) (hsort : 0 ≤ sort ∧ sort ≤ 8) (hlk : lay0 k = (2, n)) (hkk : k < 2000 ∧ n ≤ 5130) (hfrom_ : 0 ≤ from_ ∧ from_ ≤ 6000) (hto : 0 ≤ to ∧ to ≤ 6000) (hL : LEX S) (hc : Xi S 5 sort.toNat + 1 ≤ (lh 5 sort.toNat).2) (hto : to ≤ n) (d : Nat) : Mt lay0 (d + 3) m_vo_tellNew [.ref 1, iv sort, .ref k, iv from_, iv to] S (Q_vo_tellNew S sort k n from_ to) := by sorry
def md_wo_setAdjective : List rec := [(25, 65, 0, 100000)]
abbrev Q_wo_setAdjective (S : sS) (row : Int) (a : Int) (holds : Int) : pst := fun r S1 => HI S1 ∧ FR md_wo_setAdjective S S1 ∧ (r = none)
set_option maxRecDepth 100000 in
theorem t_wo_setAdjective {S : sS} (hH : HI S) (row : Int) (a : Int) (holds : Int) (hrow : 0 ≤ row ∧ row ≤ 39) (ha : 0 ≤ a ∧ a ≤ 23) (hholds : 0 ≤ holds ∧ holds ≤ 1) (d : Nat) : Mt lay0 (d + 1) m_wo_setAdjective [.ref 20, iv row, iv a, iv holds] S (Q_wo_setAdjective S row a holds) := by sorry
def md_wo_setProperty : List rec := [(66, 106, 0, 100000), (107, 147, 0, 100000), (148, 188, 0, 100000)]
abbrev Q_wo_setProperty (S : sS) (row : Int) (p : Int) (value : Int) (length : Int) : pst := fun r S1 => HI S1 ∧ FR md_wo_setProperty S S1 ∧ (r = none ∧ (TX S → TXT S value length → TX S1))
set_option maxRecDepth 100000 in
theorem t_wo_setProperty {S : sS} (hH : HI S) (row : Int) (p : Int) (value : Int) (length : Int) (hrow : 0 ≤ row ∧ row ≤ 39) (hp : 0 ≤ p ∧ p ≤ 11) (hvalue : -2147483648 ≤ value ∧ value ≤ 2147483647) (hlength : -2147483648 ≤ length ∧ length ≤ 2147483647) (d : Nat) : Mt lay0 (d + 1) m_wo_setProperty [.ref 20, iv row, iv p, iv value, iv length] S (Q_wo_setProperty S row p value length) := by sorry
def md_wo_place : List rec := [(22, 23, 0, 100000), (23, 24, 0, 100000)]
abbrev Q_wo_place (S : sS) (o : Int) (how : Int) (where_ : Int) : pst := fun r S1 => HI S1 ∧ FR md_wo_place S S1 ∧ (r = none)
set_option maxRecDepth 100000 in
theorem t_wo_place {S : sS} (hH : HI S) (o : Int) (how : Int) (where_ : Int) (ho : 0 ≤ o ∧ o ≤ 23) (hhow : 0 ≤ how ∧ how ≤ 5) (hwhere_ : -1 ≤ where_ ∧ where_ ≤ 23) (d : Nat) : Mt lay0 (d + 1) m_wo_place [.ref 20, iv o, iv how, iv where_] S (Q_wo_place S o how where_) := by sorry
def md_wo_makeObject : List rec := [(21, 22, 0, 100000), (22, 23, 0, 100000), (23, 24, 0, 100000)]
abbrev Q_wo_makeObject (S : sS) (o : Int) (kind : Int) : pst := fun r S1 => HI S1 ∧ FR md_wo_makeObject S S1 ∧ (r = none)
set_option maxRecDepth 100000 in
theorem t_wo_makeObject {S : sS} (hH : HI S) (o : Int) (kind : Int) (ho : 0 ≤ o ∧ o ≤ 23) (hkind : 0 ≤ kind ∧ kind ≤ 15) (d : Nat) : Mt lay0 (d + 1) m_wo_makeObject [.ref 20, iv o, iv kind] S (Q_wo_makeObject S o kind) := by sorry
def md_wo_tellKind : List rec := [(21, 22, 0, 100000)]
abbrev Q_wo_tellKind (S : sS) (o : Int) (kind : Int) : pst := fun r S1 => HI S1 ∧ FR md_wo_tellKind S S1 ∧ (∃ z : Int, r = some (iv z) ∧ (0 ≤ z ∧ z ≤ 1))
set_option maxRecDepth 100000 in
theorem t_wo_tellKind {S : sS} (hH : HI S) (o : Int) (kind : Int) (ho : 0 ≤ o ∧ o ≤ 23) (hkind : 0 ≤ kind ∧ kind ≤ 15) (d : Nat) : Mt lay0 (d + 2) m_wo_tellKind [.ref 20, iv o, iv kind] S (Q_wo_tellKind S o kind) := by sorry
def md_wo_tellAdjective : List rec := [(25, 65, 0, 100000)]
abbrev Q_wo_tellAdjective (S : sS) (row : Int) (a : Int) (holds : Int) : pst := fun r S1 => HI S1 ∧ FR md_wo_tellAdjective S S1 ∧ (∃ z : Int, r = some (iv z) ∧ (0 ≤ z ∧ z ≤ 1))
set_option maxRecDepth 100000 in
theorem t_wo_tellAdjective {S : sS} (hH : HI S) (row : Int) (a : Int) (holds : Int) (hrow : 0 ≤ row ∧ row ≤ 39) (ha : 0 ≤ a ∧ a ≤ 23) (hholds : 0 ≤ holds ∧ holds ≤ 1) (d : Nat) : Mt lay0 (d + 2) m_wo_tellAdjective [.ref 20, iv row, iv a, iv holds] S (Q_wo_tellAdjective S row a holds) := by sorry
def md_wo_tellPlace : List rec := [(22, 23, 0, 100000), (23, 24, 0, 100000)]
abbrev Q_wo_tellPlace (S : sS) (o : Int) (how : Int) (where_ : Int) : pst := fun r S1 => HI S1 ∧ FR md_wo_tellPlace S S1 ∧ (∃ z : Int, r = some (iv z) ∧ (0 ≤ z ∧ z ≤ 6))
set_option maxRecDepth 100000 in
theorem t_wo_tellPlace {S : sS} (hH : HI S) (o : Int) (how : Int) (where_ : Int) (ho : 0 ≤ o ∧ o ≤ 23) (hhow : 0 ≤ how ∧ how ≤ 5) (hwhere_ : 0 ≤ where_ ∧ where_ ≤ 23) (d : Nat) : Mt lay0 (d + 3) m_wo_tellPlace [.ref 20, iv o, iv how, iv where_] S (Q_wo_tellPlace S o how where_) := by sorry
def md_wo_tellWay : List rec := [(20, 21, 12, 13), (196, 220, 0, 100000), (221, 245, 0, 100000)]
abbrev Q_wo_tellWay (S : sS) (room : Int) (dir : Int) (to : Int) : pst := fun r S1 => HI S1 ∧ FR md_wo_tellWay S S1 ∧ (∃ z : Int, r = some (iv z) ∧ (0 ≤ z ∧ z ≤ 1))
set_option maxRecDepth 100000 in
theorem t_wo_tellWay {S : sS} (hH : HI S) (room : Int) (dir : Int) (to : Int) (hroom : 0 ≤ room ∧ room ≤ 23) (hdir : 0 ≤ dir ∧ dir ≤ 5) (hto : 0 ≤ to ∧ to ≤ 23) (d : Nat) : Mt lay0 (d + 1) m_wo_tellWay [.ref 20, iv room, iv dir, iv to] S (Q_wo_tellWay S room dir to) := by sorry
def md_wo_tellRelated : List rec := [(189, 195, 0, 100000)]
abbrev Q_wo_tellRelated (S : sS) (rl : Int) (a : Int) (b : Int) : pst := fun r S1 => HI S1 ∧ FR md_wo_tellRelated S S1 ∧ (∃ z : Int, r = some (iv z) ∧ (0 ≤ z ∧ z ≤ 1))
set_option maxRecDepth 100000 in
theorem t_wo_tellRelated {S : sS} (hH : HI S) (rl : Int) (a : Int) (b : Int) (hrl : 0 ≤ rl ∧ rl ≤ 5) (ha : 0 ≤ a ∧ a ≤ 23) (hb : 0 ≤ b ∧ b ≤ 23) (d : Nat) : Mt lay0 (d + 2) m_wo_tellRelated [.ref 20, iv rl, iv a, iv b] S (Q_wo_tellRelated S rl a b) := by sorry
def md_wo_placePlayer : List rec := [(22, 23, 0, 100000), (23, 24, 0, 100000)]
abbrev Q_wo_placePlayer (S : sS) : pst := fun r S1 => HI S1 ∧ FR md_wo_placePlayer S S1 ∧ (r = none)
set_option maxRecDepth 100000 in
theorem t_wo_placePlayer {S : sS} (hH : HI S) (d : Nat) : Mt lay0 (d + 3) m_wo_placePlayer [.ref 20] S (Q_wo_placePlayer S) := by sorry
abbrev Q_bo_rank (S : sS) (r : Nat) : pst := fun r S1 => S = S1 ∧ (∃ z : Int, r = some (iv z) ∧ (0 ≤ z ∧ z ≤ 2))
set_option maxRecDepth 100000 in
theorem t_bo_rank {S : sS} (hH : HI S) (r : Nat) (hr : r < 24) (d : Nat) : Mt lay0 (d + 1) m_bo_rank [.ref (248 + r)] S (Q_bo_rank S r) := by sorry
def md_rs_wipe : List rec := [(0, 1, 10, 11)]
abbrev Q_rs_wipe (S : sS) : pst := fun r S1 => HI S1 ∧ FR md_rs_wipe S S1 ∧ (∃ z : Int, r = some (iv z) ∧ (0 ≤ z ∧ z ≤ 5000) ∧ (z = Xi S 0 10 ∧ Xi S1 0 10 = 0))
set_option maxRecDepth 100000 in
theorem t_rs_wipe {S : sS} (hH : HI S) (d : Nat) : Mt lay0 (d + 1) m_rs_wipe [.ref 0] S (Q_rs_wipe S) := by sorry
def md_rs_clear : List rec := [(900, 901, 4, 5)]
abbrev Q_rs_clear (S : sS) : pst := fun r S1 => HI S1 ∧ FR md_rs_clear S S1 ∧ (∃ z : Int, r = some (iv z) ∧ (0 ≤ z ∧ z ≤ 2000))
end
section
/-! SAFETY of methods: printed by wip/safe (vc.py, decl.py) -/
def md_re_startAgain : List rec := [(891, 892, 10, 11)]
abbrev Q_re_startAgain (S : sS) : pst := fun r S1 => HI S1 ∧ FR md_re_startAgain S S1 ∧ (r = none)
set_option maxRecDepth 100000 in
theorem t_re_startAgain {S : sS} (hH : HI S) (d : Nat) : Mt lay0 (d + 1) m_re_startAgain [.ref 891] S (Q_re_startAgain S) := by sorry
def md_me_startSelf : List rec := [(895, 896, 3, 4), (895, 896, 4, 5)]
abbrev Q_me_startSelf (S : sS) (key : Int) (kind : Int) : pst := fun r S1 => HI S1 ∧ FR md_me_startSelf S S1 ∧ (r = none ∧ (Xi S1 895 3 = key ∧ Xi S1 895 4 = kind))
set_option maxRecDepth 100000 in
theorem t_me_startSelf {S : sS} (hH : HI S) (key : Int) (kind : Int) (hkey : -2147483648 ≤ key ∧ key ≤ 2147483647) (hkind : -1 ≤ kind ∧ kind ≤ 15) (d : Nat) : Mt lay0 (d + 1) m_me_startSelf [.ref 895, iv key, iv kind] S (Q_me_startSelf S key kind) := by sorry
abbrev Q_rr_sortOfRule (S : sS) (s : Int) : pst := fun r S1 => S = S1 ∧ (∃ z : Int, r = some (iv z) ∧ (0 ≤ z ∧ z ≤ 3))
set_option maxRecDepth 100000 in
theorem t_rr_sortOfRule {S : sS} (hH : HI S) (s : Int) (hs : -2147483648 ≤ s ∧ s ≤ 2147483647) (d : Nat) : Mt lay0 (d + 1) m_rr_sortOfRule [iv s] S (Q_rr_sortOfRule S s) := by sorry
abbrev Q_rr_wayOf (S : sS) (key : Int) : pst := fun r S1 => S = S1 ∧ (∃ z : Int, r = some (iv z) ∧ (1 ≤ z ∧ z ≤ 5))
set_option maxRecDepth 100000 in
theorem t_rr_wayOf {S : sS} (hH : HI S) (key : Int) (hkey : -2147483648 ≤ key ∧ key ≤ 2147483647) (d : Nat) : Mt lay0 (d + 1) m_rr_wayOf [iv key] S (Q_rr_wayOf S key) := by sorry
abbrev Q_rr_whenEnd (S : sS) : pst := fun r S1 => S = S1 ∧ (∃ z : Int, r = some (iv z) ∧ (-1 ≤ z ∧ z ≤ 5132))
set_option maxRecDepth 100000 in
theorem t_rr_whenEnd {S : sS} (hH : HI S) (d : Nat) : Mt lay0 (d + 2) m_rr_whenEnd [.ref 899] S (Q_rr_whenEnd S) := by sorry
abbrev Q_co_wordEnd (S : sS) (t : Nat) (from_ : Int) (to : Int) : pst := fun r S1 => S = S1 ∧ (∃ z : Int, r = some (iv z) ∧ (0 ≤ z ∧ z ≤ 5000) ∧ (from_ ≤ z ∧ (z ≤ to ∨ z = from_)))
set_option maxRecDepth 100000 in
theorem t_co_wordEnd {S : sS} (hH : HI S) (t : Nat) (from_ : Int) (to : Int) (ht : tp t) (hfrom_ : 0 ≤ from_ ∧ from_ ≤ 5000) (hto : 0 ≤ to ∧ to ≤ 5000) (d : Nat) : Mt lay0 (d + 2) m_co_wordEnd [.ref t, iv from_, iv to] S (Q_co_wordEnd S t from_ to) := by sorry
abbrev Q_co_codeOf (S : sS) (t : Nat) (from_ : Int) (to : Int) : pst := fun r S1 => S = S1 ∧ (∃ z : Int, r = some (jw z))
set_option maxRecDepth 100000 in
theorem t_co_codeOf {S : sS} (hH : HI S) (t : Nat) (from_ : Int) (to : Int) (ht : tp t) (hfrom_ : 0 ≤ from_ ∧ from_ ≤ 5000) (hto : 0 ≤ to ∧ to ≤ 5000) (d : Nat) : Mt lay0 (d + 2) m_co_codeOf [.ref t, iv from_, iv to] S (Q_co_codeOf S t from_ to) := by sorry
def md_co_takeTyped : List rec := [(882, 883, 12, 13), (889, 890, 0, 100000)]
abbrev Q_co_takeTyped (S : sS) (t : Nat) (length : Int) : pst := fun r S1 => HI S1 ∧ FR md_co_takeTyped S S1 ∧ (∃ z : Int, r = some (iv z) ∧ (0 ≤ z ∧ z ≤ 1))
set_option maxRecDepth 100000 in
theorem t_co_takeTyped {S : sS} (hH : HI S) (t : Nat) (length : Int) (ht : tp t) (hlength : 0 ≤ length ∧ length ≤ 5000) (d : Nat) : Mt lay0 (d + 3) m_co_takeTyped [.ref 882, .ref t, iv length] S (Q_co_takeTyped S t length) := by sorry
def md_co_takeGap : List rec := [(882, 883, 10, 11), (888, 889, 0, 100000)]
abbrev Q_co_takeGap (S : sS) (t : Nat) (from_ : Int) (to : Int) : pst := fun r S1 => HI S1 ∧ FR md_co_takeGap S S1 ∧ (∃ z : Int, r = some (iv z) ∧ (-1 ≤ z ∧ z ≤ 5000) ∧ (z = -1 ∨ (from_ < z ∧ z ≤ to)))
set_option maxRecDepth 100000 in
theorem t_co_takeGap {S : sS} (hH : HI S) (t : Nat) (from_ : Int) (to : Int) (ht : tp t) (hfrom_ : 0 ≤ from_ ∧ from_ ≤ 5000) (hto : 0 ≤ to ∧ to ≤ 5000) (d : Nat) : Mt lay0 (d + 3) m_co_takeGap [.ref 882, .ref t, iv from_, iv to] S (Q_co_takeGap S t from_ to) := by sorry
abbrev Q_bo_comesFirst (S : sS) (a : Nat) (b : Nat) : pst := fun r S1 => S = S1 ∧ (∃ z : Int, r = some (iv z) ∧ (0 ≤ z ∧ z ≤ 1))
set_option maxRecDepth 100000 in
theorem t_bo_comesFirst {S : sS} (hH : HI S) (a : Nat) (b : Nat) (ha : a < 24) (hb : b < 24) (d : Nat) : Mt lay0 (d + 2) m_bo_comesFirst [.ref 246, .ref (248 + a), .ref (248 + b)] S (Q_bo_comesFirst S a b) := by sorry
def md_bo_putInOrder : List rec := [(272, 273, 0, 100000)]
abbrev Q_bo_putInOrder (S : sS) : pst := fun r S1 => HI S1 ∧ FR md_bo_putInOrder S S1 ∧ (r = none ∧ (ORD S1))
set_option maxRecDepth 100000 in
theorem t_bo_putInOrder {S : sS} (hH : HI S) (d : Nat) : Mt lay0 (d + 3) m_bo_putInOrder [.ref 246] S (Q_bo_putInOrder S) := by sorry
def md_me_readThing : List rec := [(895, 896, 5, 6), (895, 896, 6, 7), (895, 896, 7, 8)]
abbrev Q_me_readThing (S : sS) (from_ : Int) (limit : Int) : pst := fun r S1 => HI S1 ∧ FR md_me_readThing S S1 ∧ (∃ z : Int, r = some (iv z) ∧ (0 ≤ z ∧ z ≤ 5142) ∧ (from_ ≤ z) ∧ (Xi S1 895 5 = -2 → 0 ≤ Xi S 895 4) ∧ (Xi S1 895 5 ≠ -1 → 0 ≤ Xi S1 895 6) ∧ (Xi S1 895 5 = -1 → Xi S1 895 6 = -1))
set_option maxRecDepth 100000 in
theorem t_me_readThing {S : sS} (hH : HI S) (from_ : Int) (limit : Int) (hfrom_ : 0 ≤ from_ ∧ from_ ≤ 5140) (hlimit : -1 ≤ limit ∧ limit ≤ 5140) (hL : LEX S) (d : Nat) : Mt lay0 (d + 2) m_me_readThing [.ref 895, iv from_, iv limit] S (Q_me_readThing S from_ limit) := by sorry
end
section
/-! SAFETY of methods: printed by wip/safe (vc.py, decl.py) -/
abbrev Q_re_wasNew (S : sS) (from_ : Int) (to : Int) : pst := fun r S1 => S = S1 ∧ (∃ z : Int, r = some (iv z) ∧ (0 ≤ z ∧ z ≤ 1))
set_option maxRecDepth 100000 in
theorem t_re_wasNew {S : sS} (hH : HI S) (from_ : Int) (to : Int) (hfrom_ : 0 ≤ from_ ∧ from_ ≤ 5130) (hto : 0 ≤ to ∧ to ≤ 5130) (d : Nat) : Mt lay0 (d + 1) m_re_wasNew [.ref 891, iv from_, iv to] S (Q_re_wasNew S from_ to) := by sorry
abbrev Q_re_beginsName (S : sS) (row : Int) : pst := fun r S1 => S = S1 ∧ (∃ z : Int, r = some (iv z) ∧ (0 ≤ z ∧ z ≤ 1) ∧ (z = 1 → 0 ≤ row ∧ row < Xi S 876 7 ∧ row < Xi S 890 3 ∧ Xi S 877 row.toNat = 100) ∧ (z = bgn S row))
set_option maxRecDepth 100000 in
theorem t_re_beginsName {S : sS} (hH : HI S) (row : Int) (hrow : 0 ≤ row ∧ row ≤ 5131) (d : Nat) : Mt lay0 (d + 2) m_re_beginsName [.ref 891, iv row] S (Q_re_beginsName S row) := by sorry
abbrev Q_re_secondName (S : sS) : pst := fun r S1 => S = S1 ∧ (∃ z : Int, r = some (iv z) ∧ (-1 ≤ z ∧ z ≤ 5131))
set_option maxRecDepth 100000 in
theorem t_re_secondName {S : sS} (hH : HI S) (d : Nat) : Mt lay0 (d + 3) m_re_secondName [.ref 891] S (Q_re_secondName S) := by sorry
abbrev Q_re_tellsUsually (S : sS) : pst := fun r S1 => S = S1 ∧ (∃ z : Int, r = some (iv z) ∧ (0 ≤ z ∧ z ≤ 1))
set_option maxRecDepth 100000 in
theorem t_re_tellsUsually {S : sS} (hH : HI S) (d : Nat) : Mt lay0 (d + 2) m_re_tellsUsually [.ref 891] S (Q_re_tellsUsually S) := by sorry
abbrev Q_re_typeMeant (S : sS) (from_ : Int) : pst := fun r S1 => S = S1 ∧ (∃ z : Int, r = some (iv z) ∧ (-1 ≤ z ∧ z ≤ 7))
set_option maxRecDepth 100000 in
theorem t_re_typeMeant {S : sS} (hH : HI S) (from_ : Int) (hfrom_ : 0 ≤ from_ ∧ from_ ≤ 5140) (hL : LEX S) (d : Nat) : Mt lay0 (d + 3) m_re_typeMeant [.ref 891, iv from_] S (Q_re_typeMeant S from_) := by sorry
abbrev Q_re_tellsValues (S : sS) : pst := fun r S1 => S = S1 ∧ (∃ z : Int, r = some (iv z) ∧ (0 ≤ z ∧ z ≤ 1))
set_option maxRecDepth 100000 in
theorem t_re_tellsValues {S : sS} (hH : HI S) (hL : LEX S) (d : Nat) : Mt lay0 (d + 4) m_re_tellsValues [.ref 891] S (Q_re_tellsValues S) := by sorry
abbrev Q_re_kindMeant (S : sS) (from_ : Int) : pst := fun r S1 => S = S1 ∧ (∃ z : Int, r = some (iv z) ∧ (-1 ≤ z ∧ z ≤ 15))
set_option maxRecDepth 100000 in
theorem t_re_kindMeant {S : sS} (hH : HI S) (from_ : Int) (hfrom_ : 0 ≤ from_ ∧ from_ ≤ 5140) (hL : LEX S) (d : Nat) : Mt lay0 (d + 3) m_re_kindMeant [.ref 891, iv from_] S (Q_re_kindMeant S from_) := by sorry
abbrev Q_re_canHold (S : sS) (o : Int) (how : Int) : pst := fun r S1 => S = S1 ∧ (∃ z : Int, r = some (iv z) ∧ (0 ≤ z ∧ z ≤ 1))
set_option maxRecDepth 100000 in
theorem t_re_canHold {S : sS} (hH : HI S) (o : Int) (how : Int) (ho : 0 ≤ o ∧ o ≤ 23) (hhow : -2147483648 ≤ how ∧ how ≤ 2147483647) (d : Nat) : Mt lay0 (d + 3) m_re_canHold [.ref 891, iv o, iv how] S (Q_re_canHold S o how) := by sorry
/-! SAFETY of methods: printed by wip/safe (vc.py, decl.py) -/
abbrev Q_re_isObjectList (S : sS) (from_ : Int) (to : Int) (kind : Int) : pst := fun r S1 => S = S1 ∧ (∃ z : Int, r = some (iv z) ∧ (0 ≤ z ∧ z ≤ 1))
set_option maxRecDepth 100000 in
theorem t_re_isObjectList {S : sS} (hH : HI S) (from_ : Int) (to : Int) (kind : Int) (hfrom_ : 0 ≤ from_ ∧ from_ ≤ 5140) (hto : 0 ≤ to ∧ to ≤ 5140) (hkind : 0 ≤ kind ∧ kind ≤ 15) (hL : LEX S) (d : Nat) : Mt lay0 (d + 3) m_re_isObjectList [.ref 891, iv from_, iv to, iv kind] S (Q_re_isObjectList S from_ to kind) := by sorry
def md_re_nameWithS : List rec := [(1, 2, 3, 4), (2, 3, 0, 100000), (3, 4, 0, 100000), (4, 5, 0, 100000), (894, 895, 0, 100000)]
abbrev Q_re_nameWithS (S : sS) (sort : Int) (which : Int) (from_ : Int) (to : Int) : pst := fun r S1 => HI S1 ∧ FR md_re_nameWithS S S1 ∧ (r = none ∧ (LEX S1) ∧ (∀ j, Xi S1 5 j = Xi S 5 j))
set_option maxRecDepth 100000 in
theorem t_re_nameWithS {S : sS} (hH : HI S) (sort : Int) (which : Int) (from_ : Int) (to : Int) (hsort : 11 ≤ sort ∧ sort ≤ 12) (hwhich : 0 ≤ which ∧ which ≤ 63) (hfrom_ : 0 ≤ from_ ∧ from_ ≤ 5130) (hto : 0 ≤ to ∧ to ≤ 5130) (hL : LEX S) (hb : lexB S sort which) (hn : 1 ≤ to - from_ ∧ to - from_ ≤ 3) (d : Nat) : Mt lay0 (d + 3) m_re_nameWithS [.ref 891, iv sort, iv which, iv from_, iv to] S (Q_re_nameWithS S sort which from_ to) := by sorry
abbrev Q_vo_codeOf (S : sS) (i : Nat) (xi : String × Nat × String × List Int32) : pst := fun r S1 => S = S1 ∧ (∃ z : Int, r = some (jw z))
set_option maxRecDepth 100000 in
theorem t_vo_codeOf {S : sS} (hH : HI S) (i : Nat) (xi : String × Nat × String × List Int32) (hi : strT[i]? = some xi) (d : Nat) : Mt lay0 (d + 4) m_vo_codeOf [.ref (SB + i)] S (Q_vo_codeOf S i xi) := by sorry
def md_vo_addFirst : List rec := [(1, 2, 3, 4), (2, 3, 0, 100000), (3, 4, 0, 100000), (4, 5, 0, 100000), (5, 6, 0, 100000)]
abbrev Q_vo_addFirst (S : sS) (sort : Int) (i : Nat) (xi : String × Nat × String × List Int32) : pst := fun r S1 => HI S1 ∧ FR md_vo_addFirst S S1 ∧ (∃ z : Int, r = some (iv z) ∧ (0 ≤ z ∧ z ≤ 63) ∧ (z = Xi S 5 sort.toNat) ∧ (LEX S1) ∧ (Xi S1 5 sort.toNat = Xi S 5 sort.toNat + 1) ∧ (∀ j, j ≠ sort.toNat → Xi S1 5 j = Xi S 5 j) ∧ (Xi S1 1 3 ≤ Xi S 1 3 + 1))
set_option maxRecDepth 100000 in
theorem t_vo_addFirst {S : sS} (hH : HI S) (sort : Int) (i : Nat) (xi : String × Nat × String × List Int32) (hsort : 0 ≤ sort ∧ sort ≤ 8) (hi : strT[i]? = some xi) (hL : LEX S) (hc : Xi S 5 sort.toNat + 1 ≤ (lh 5 sort.toNat).2) (d : Nat) : Mt lay0 (d + 5) m_vo_addFirst [.ref 1, iv sort, .ref (SB + i)] S (Q_vo_addFirst S sort i xi) := by sorry
def md_vo_addDirection : List rec := [(1, 2, 3, 4), (2, 3, 0, 100000), (3, 4, 0, 100000), (4, 5, 0, 100000)]
abbrev Q_vo_addDirection (S : sS) (i : Nat) (xi : String × Nat × String × List Int32) (n : Int) : pst := fun r S1 => HI S1 ∧ FR md_vo_addDirection S S1 ∧ (r = none ∧ (LEX S1) ∧ (∀ j, Xi S1 5 j = Xi S 5 j))
set_option maxRecDepth 100000 in
theorem t_vo_addDirection {S : sS} (hH : HI S) (i : Nat) (xi : String × Nat × String × List Int32) (n : Int) (hi : strT[i]? = some xi) (hn : 0 ≤ n ∧ n ≤ 5) (hL : LEX S) (d : Nat) : Mt lay0 (d + 5) m_vo_addDirection [.ref 1, .ref (SB + i), iv n] S (Q_vo_addDirection S i xi n) := by sorry
/-! SAFETY of methods: printed by wip/safe (vc.py, decl.py) -/
abbrev Q_wo_sameText (S : sS) (a : Int) (la : Int) (b : Int) (lb : Int) : pst := fun r S1 => S = S1 ∧ (∃ z : Int, r = some (iv z) ∧ (0 ≤ z ∧ z ≤ 1) ∧ (z = smT S a la b lb))
set_option maxRecDepth 100000 in
theorem t_wo_sameText {S : sS} (hH : HI S) (a : Int) (la : Int) (b : Int) (lb : Int) (ha : -2147483648 ≤ a ∧ a ≤ 2147483647) (hla : -2147483648 ≤ la ∧ la ≤ 2147483647) (hb : -2147483648 ≤ b ∧ b ≤ 2147483647) (hlb : -2147483648 ≤ lb ∧ lb ≤ 2147483647) (ha : TXT S a la) (hb : TXT S b lb) (d : Nat) : Mt lay0 (d + 1) m_wo_sameText [.ref 20, iv a, iv la, iv b, iv lb] S (Q_wo_sameText S a la b lb) := by sorry
def md_wo_tellProperty : List rec := [(66, 106, 0, 100000), (107, 147, 0, 100000), (148, 188, 0, 100000)]
abbrev Q_wo_tellProperty (S : sS) (row : Int) (p : Int) (value : Int) (length : Int) : pst := fun r S1 => HI S1 ∧ FR md_wo_tellProperty S S1 ∧ (∃ z : Int, r = some (iv z) ∧ (0 ≤ z ∧ z ≤ 1) ∧ (TX S1))
set_option maxRecDepth 100000 in
theorem t_wo_tellProperty {S : sS} (hH : HI S) (row : Int) (p : Int) (value : Int) (length : Int) (hrow : 0 ≤ row ∧ row ≤ 39) (hp : 0 ≤ p ∧ p ≤ 11) (hvalue : -2147483648 ≤ value ∧ value ≤ 2147483647) (hlength : -2147483648 ≤ length ∧ length ≤ 2147483647) (hX : TX S) (ht : TXT S value length) (d : Nat) : Mt lay0 (d + 2) m_wo_tellProperty [.ref 20, iv row, iv p, iv value, iv length] S (Q_wo_tellProperty S row p value length) := by sorry
end
section
def md_co_fitsGap : List rec := [(882, 883, 13, 14)]
abbrev Q_co_fitsGap (S : sS) (kind : Int) (meant : Int) : pst := fun r S1 => HI S1 ∧ FR md_co_fitsGap S S1 ∧ (∃ z : Int, r = some (iv z) ∧ (0 ≤ z ∧ z ≤ 1) ∧ (z = 1 → 0 ≤ Xi S1 882 13 ∧ Xi S1 882 13 ≤ 23 ∧ (kind = -2 → Xi S1 882 13 ≤ 5)))
set_option maxRecDepth 100000 in
theorem t_co_fitsGap {S : sS} (hH : HI S) (kind : Int) (meant : Int) (hkind : -2 ≤ kind ∧ kind ≤ 255) (hmeant : -1 ≤ meant ∧ meant ≤ 3647) (hL : LEX S) (hm : mOK S meant) (d : Nat) : Mt lay0 (d + 3) m_co_fitsGap [.ref 882, iv kind, iv meant] S (Q_co_fitsGap S kind meant) := by sorry
def md_co_fits : List rec := [(882, 883, 13, 14)]
abbrev Q_co_fits (S : sS) (i : Int) : pst := fun r S1 => HI S1 ∧ FR md_co_fits S S1 ∧ (∃ z : Int, r = some (iv z) ∧ (0 ≤ z ∧ z ≤ 1) ∧ (z = 1 → (Xi S 885 i.toNat = -1 → Xi S1 882 13 = -1) ∧ (Xi S 885 i.toNat ≠ -1 → 0 ≤ Xi S1 882 13 ∧ Xi S1 882 13 ≤ 23 ∧ (Xi S 886 i.toNat = -2 → Xi S1 882 13 ≤ 5))))
set_option maxRecDepth 100000 in
theorem t_co_fits {S : sS} (hH : HI S) (i : Int) (hi : 0 ≤ i ∧ i ≤ 19) (hL : LEX S) (d : Nat) : Mt lay0 (d + 4) m_co_fits [.ref 882, iv i] S (Q_co_fits S i) := by sorry
def md_rs_act : List rec := [(22, 23, 0, 100000), (23, 24, 0, 100000), (25, 65, 0, 100000), (66, 106, 0, 100000), (107, 147, 0, 100000), (148, 188, 0, 100000), (189, 195, 0, 100000), (900, 901, 4, 5), (900, 901, 5, 6), (900, 901, 6, 7), (901, 902, 0, 100000), (997, 1005, 0, 100000), (1006, 1014, 0, 100000)]
abbrev Q_rs_act (S : sS) (action : Int) (noun : Int) : pst := fun r S1 => HI S1 ∧ FR md_rs_act S S1 ∧ (∃ z : Int, r = some (iv z) ∧ (-1 ≤ z ∧ z ≤ 5) ∧ (TX S1))
end
section
/-! SAFETY: what words mean as adjectives and descriptions, as functions of the cells -/
def rvn (S : sS) (has t : Int) : Nat → Int → Int → Int
  | 0, _, c => c
  | n + 1, p, c => rvn S has t n (p + 1) (if iandF (ishrF has p) 1 = 1 ∧ Xi S 9 p.toNat = t then c + 1 else c)
def raF (S : sS) (k a b vals dfd : Int) : Int :=
  if mnV S a b / 256 = 3 then (if isK S k (Xi S 10 (mnV S a b % 256).toNat) ≠ 0 ∧ (dfd ≠ 0 ∨ Xi S 11 (mnV S a b % 256).toNat ≠ -1) then 1 else 0)
  else if mnV S a b / 256 ≠ 4 ∨ vals = 0 then 0 else rvn S (pps S k) (Xi S 8 (mnV S a b % 256).toNat) 12 0 0
theorem rvn_y {S : sS} {has t p c : Int} (hp : p < 12) (h : iandF (ishrF has p) 1 = 1 ∧ Xi S 9 p.toNat = t) : rvn S has t (12 - p).toNat p c = rvn S has t (12 - (p + 1)).toNat (p + 1) (c + 1) := by sorry
theorem rvn_n {S : sS} {has t p c : Int} (hp : p < 12) (h : ¬ (iandF (ishrF has p) 1 = 1 ∧ Xi S 9 p.toNat = t)) : rvn S has t (12 - p).toNat p c = rvn S has t (12 - (p + 1)).toNat (p + 1) c := by sorry
theorem rvn_e {S : sS} {has t p c : Int} (hp : 12 ≤ p) : rvn S has t (12 - p).toNat p c = c := by sorry
theorem rvn_b {S : sS} {has t : Int} : ∀ (n : Nat) (p c : Int), c ≤ rvn S has t n p c ∧ rvn S has t n p c ≤ c + n := by sorry
theorem raF_b {S : sS} {k a b v d : Int} : 0 ≤ raF S k a b v d ∧ raF S k a b v d ≤ 12 := by sorry
theorem isKn_fr {S T : sS} (h : ∀ j, Xi T 6 j = Xi S 6 j) {o : Int} : ∀ (n : Nat) (k : Int), isKn T o n k = isKn S o n k := by sorry
theorem ppn_fr {S T : sS} (h : ∀ j, Xi T 6 j = Xi S 6 j) (h7 : ∀ j, Xi T 7 j = Xi S 7 j) : ∀ (n : Nat) (k a : Int), ppn T n k a = ppn S n k a := by sorry
theorem rvn_fr {S T : sS} (h : ∀ j, Xi T 9 j = Xi S 9 j) {has t : Int} : ∀ (n : Nat) (p c : Int), rvn T has t n p c = rvn S has t n p c := by sorry
theorem msc_fr {S T : sS} (h2 : ∀ j, Xj T 2 j = Xj S 2 j) (h3 : ∀ j, Xi T 3 j = Xi S 3 j) (h4 : ∀ j, Xi T 4 j = Xi S 4 j) {a b c : Int} : ∀ (m i : Nat), msc T a b c m i = msc S a b c m i := by sorry
def kA : List (Nat × Nat) := [(2, 5), (6, 12), (879, 880)]
theorem mnV_FR {l : List rec} {S T : sS} (h : FR l S T) (e : (kdis l kA && !(mdf l 1 3)) = true) {a b : Int} : mnV T a b = mnV S a b := by sorry
theorem raF_FR {l : List rec} {S T : sS} (h : FR l S T) (e : (kdis l kA && !(mdf l 1 3)) = true) {k a b v d : Int} : raF T k a b v d = raF S k a b v d := by sorry
/-- in how many ways words part -/
def cpf (f : Int → Int → Int) (z : Int) : Nat → Int
  | 0 => 1
  | 1 => cpf f z 0 * f (z - 1) z
  | 2 => cpf f z 1 * f (z - 2) (z - 1) + cpf f z 0 * f (z - 2) z
  | m + 3 => cpf f z (m + 2) * f (z - (m + 3)) (z - (m + 2)) + cpf f z (m + 1) * f (z - (m + 3)) (z - (m + 1)) + cpf f z m * f (z - (m + 3)) (z - m)
def csum (f : Int → Int → Int) (z : Int) (m : Nat) : Nat → Int
  | 0 => 0
  | n + 1 => csum f z m n + (if n + 1 ≤ m then cpf f z (m - (n + 1)) * f (z - m) (z - m + (n + 1)) else 0)
theorem csum_end {f : Int → Int → Int} {z : Int} {m n : Nat} (hm : 1 ≤ m) (hn : n ≤ 3) (h : n = 3 ∨ m ≤ n) : csum f z m n = cpf f z m := by sorry
theorem mulb {a b A B : Int} (ha : 0 ≤ a ∧ a ≤ A) (hb : 0 ≤ b ∧ b ≤ B) : 0 ≤ a * b ∧ a * b ≤ A * B := by sorry
theorem cpf_b {f : Int → Int → Int} {z : Int} (h : ∀ a b, 0 ≤ f a b ∧ f a b ≤ 12) : (0 ≤ cpf f z 0 ∧ cpf f z 0 ≤ 1) ∧ (0 ≤ cpf f z 1 ∧ cpf f z 1 ≤ 12) ∧ (0 ≤ cpf f z 2 ∧ cpf f z 2 ≤ 156) ∧ (0 ≤ cpf f z 3 ∧ cpf f z 3 ≤ 2028) ∧ (0 ≤ cpf f z 4 ∧ cpf f z 4 ≤ 26352) ∧ (0 ≤ cpf f z 5 ∧ cpf f z 5 ≤ 342432) ∧ (0 ≤ cpf f z 6 ∧ cpf f z 6 ≤ 4449744) := by sorry
theorem cpf_bb {f : Int → Int → Int} {z : Int} {m : Nat} (h : ∀ a b, 0 ≤ f a b ∧ f a b ≤ 12) (hm : m ≤ 6) : 0 ≤ cpf f z m ∧ cpf f z m ≤ 4449744 := by sorry
theorem csum_bb {f : Int → Int → Int} {z : Int} {m : Nat} (h : ∀ a b, 0 ≤ f a b ∧ f a b ≤ 12) (hm : m ≤ 6) : ∀ n, 0 ≤ csum f z m n ∧ csum f z m n ≤ 53396928 * n := by sorry
/-- the adjectives kept are such -/
def MAD (S : sS) : Prop := ∀ i : Nat, (i : Int) < Xi S 895 14 → Xi S 897 i = -1 → Xi S 896 i < Xi S 5 3
theorem MAD_FR {l : List rec} {S T : sS} (h : FR l S T) (e : (kdis l [(896, 898), (5, 6)] && !(mdf l 895 14)) = true) (hm : MAD S) : MAD T := by sorry
def fA (S : sS) (k a dfd : Int) : Int → Int → Int := fun x y => raF S k (a + x) (a + y) 1 dfd
def cpF (S : sS) (k a b dfd : Int) : Int := if b - a < 0 ∨ 6 < b - a then 0 else cpf (fA S k a dfd) (b - a) (b - a).toNat
theorem fA_b {S : sS} {k a d : Int} : ∀ x y, 0 ≤ fA S k a d x y ∧ fA S k a d x y ≤ 12 := by sorry
theorem fA_FR {l : List rec} {S T : sS} (h : FR l S T) (e : (kdis l kA && !(mdf l 1 3)) = true) {k a d : Int} : fA T k a d = fA S k a d := by sorry
theorem cpF_FR {l : List rec} {S T : sS} (h : FR l S T) (e : (kdis l kA && !(mdf l 1 3)) = true) {k a b d : Int} : cpF T k a b d = cpF S k a b d := by sorry
/-- the row of parts, from a place on -/
def PRT (S : sS) (f : Int → Int → Int) (z p : Int) : Prop := ∀ q : Int, p < q → q ≤ z → Xi S 898 q.toNat = cpf f z (z - q).toNat
theorem PRT_0 {S U : sS} {f : Int → Int → Int} {z : Int} (e : U = uI S 898 z.toNat (Int32.ofInt 1)) : PRT U f z (z - 1) := by sorry
theorem PRT_w {S U : sS} {f : Int → Int → Int} {z p x : Int} {v : Int32} (e : U = uI S 898 x.toNat v) (hx : x ≤ p) (h0 : 0 ≤ x) (h : PRT S f z p) : PRT U f z p := by sorry
theorem PRT_FR {l : List rec} {S T : sS} {f : Int → Int → Int} {z p : Int} (h : FR l S T) (e : kdis l [(898, 899)] = true) (hp : PRT S f z p) : PRT T f z p := by sorry
theorem PRT_s {S : sS} {f : Int → Int → Int} {z p : Int} (h : PRT S f z p) (hp : Xi S 898 p.toNat = cpf f z (z - p).toNat) : PRT S f z (p - 1) := by sorry
theorem csum_y {f : Int → Int → Int} {z p n c r : Int} (h0 : 0 ≤ p) (h1 : p + n ≤ z) (hn : 1 ≤ n) (hc : c = cpf f z (z - (p + n)).toNat) (hr : r = f p (p + n)) : csum f z (z - p).toNat n.toNat = csum f z (z - p).toNat (n - 1).toNat + c * r := by sorry
theorem csum_n {f : Int → Int → Int} {z p n c : Int} (h0 : 0 ≤ p) (h1 : p + n ≤ z) (hn : 1 ≤ n) (hc : c = cpf f z (z - (p + n)).toNat) (hz : c = 0) : csum f z (z - p).toNat n.toNat = csum f z (z - p).toNat (n - 1).toNat := by sorry
/-- if there is a way to part, there is a first part -/
theorem cpf_ex {f : Int → Int → Int} {z p : Int} (h : ∀ a b, 0 ≤ f a b) (h0 : 0 ≤ p) (hp : p < z) (hc : ∀ m : Nat, (m : Int) ≤ z → 0 ≤ cpf f z m) (hx : 0 < cpf f z (z - p).toNat) : ∃ n : Int, 1 ≤ n ∧ n ≤ 3 ∧ p + n ≤ z ∧ 0 < cpf f z (z - (p + n)).toNat ∧ 0 < f p (p + n) := by sorry
theorem ra_0 {S : sS} {k a b v d m : Int} (hm : mnV S a b = m) (h3 : m / 256 ≠ 3) (h : m / 256 ≠ 4 ∨ v = 0) : raF S k a b v d = 0 := by sorry
theorem ra_1 {S : sS} {k a b v d m z : Int} (hm : mnV S a b = m) (h3 : m / 256 = 3) (hk : z = isK S k (Xi S 10 (m % 256).toNat)) (h : z ≠ 0 ∧ (d ≠ 0 ∨ Xi S 11 (m % 256).toNat ≠ -1)) : raF S k a b v d = 1 := by sorry
theorem ra_2 {S : sS} {k a b v d m z : Int} (hm : mnV S a b = m) (h3 : m / 256 = 3) (hk : z = isK S k (Xi S 10 (m % 256).toNat)) (h : ¬ (z ≠ 0 ∧ (d ≠ 0 ∨ Xi S 11 (m % 256).toNat ≠ -1))) : raF S k a b v d = 0 := by sorry
theorem ra_k {l : List rec} {S T : sS} {k x y z : Int} (h : FR l S T) (e : kdis l kA = true) (hz : z = isK T k (Xi T 10 x.toNat)) (hx : x = y) : z = isK S k (Xi S 10 y.toNat) := by sorry
theorem ra_p {l : List rec} {S T : sS} {k z : Int} (h : FR l S T) (e : kdis l kA = true) (hz : z = pps T k) : z = pps S k := by sorry
theorem ra_v {S : sS} {k a b v d m p : Int} (hm : mnV S a b = m) (hp : p = pps S k) (h4 : m / 256 = 4) (hv : v ≠ 0) : raF S k a b v d = rvn S p (Xi S 8 (mnV S a b % 256).toNat) (12 - 0 : Int).toNat 0 0 := by sorry
theorem MAD_put {S U1 U2 U3 : sS} {a x y z : Int} (h : MAD S) (ha : Xi S 895 14 = a) (h0 : 0 ≤ a) (e1 : U1 = uI S 896 a.toNat (Int32.ofInt x)) (e2 : U2 = uI U1 897 a.toNat (Int32.ofInt y)) (e3 : U3 = uI U2 895 14 (Int32.ofInt z)) (hz : z = a + 1) (hx : rg x) (hy : rg y) (hzr : rg z) (hv : y = -1 → x < Xi S 5 3) : MAD U3 := by sorry
theorem cpF_of {S : sS} {k a b d z : Int} (h0 : 0 ≤ b - a) (h6 : b - a ≤ 6) (hz : z = cpf (fA S k a d) (b - a) (b - a).toNat) : z = cpF S k a b d := by sorry
theorem cpF_0 {S : sS} {k a b d : Int} (h : b - a < 0 ∨ 6 < b - a) : 0 = cpF S k a b d := by sorry
theorem ra_f {l : List rec} {S P : sS} {k a d x n z : Int} (hz : z = raF P k (a + x) (a + x + n) 1 d) (h : FR l S P) (e : (kdis l kA && !(mdf l 1 3)) = true) : z = fA S k a d x (x + n) := by sorry
theorem ra_f2 {l : List rec} {S P : sS} {k k1 a d x n z : Int} (hz : z = raF P k1 (a + x) (a + x + n) 1 d) (h : FR l S P) (e : (kdis l kA && !(mdf l 1 3)) = true) (hk : k1 = k) : z = fA S k a d x (x + n) := by sorry
theorem cp_t {l : List rec} {S P : sS} {k a b d z : Int} (hz : z = cpF P k a b d) (h : FR l S P) (e : (kdis l kA && !(mdf l 1 3)) = true) : z = cpF S k a b d := by sorry
theorem MAD_0 {S : sS} (h : Xi S 895 14 = 0) : MAD S := by sorry
theorem kr_n {f : Int → Int → Int} {z p v : Int} (h : ∀ i : Int, 1 ≤ i → i < v → cpf f z (z - (p + i)).toNat = 0 ∨ f p (p + i) = 0) (hv : cpf f z (z - (p + v)).toNat = 0 ∨ f p (p + v) = 0) : ∀ i : Int, 1 ≤ i → i < v + 1 → cpf f z (z - (p + i)).toNat = 0 ∨ f p (p + i) = 0 := by sorry
theorem kr_x {f : Int → Int → Int} {z p v : Int} (hf : ∀ a b, 0 ≤ f a b ∧ f a b ≤ 12) (hz : z ≤ 6) (h0 : 0 ≤ p) (hp : p < z) (hc : 0 < cpf f z (z - p).toNat) (hn : ∀ i : Int, 1 ≤ i → i < v → cpf f z (z - (p + i)).toNat = 0 ∨ f p (p + i) = 0) (hv : 3 ≤ v ∨ z ≤ p + v) (h3 : v ≤ 3) (hvz : p + v ≤ z) (h1 : 1 ≤ v) : 0 < cpf f z (z - (p + v)).toNat ∧ 0 < f p (p + v) := by sorry
theorem cr_t {S T U : sS} {v a d : Int} (h : v ≠ 0 → 0 < cpF S (Xi T 895 12) a (Xi T 895 13) d) (e1 : Xi U 895 12 = Xi T 895 12) (e2 : Xi U 895 13 = Xi T 895 13) : v ≠ 0 → 0 < cpF S (Xi U 895 12) a (Xi U 895 13) d := by sorry
/-! SAFETY of methods: printed by wip/safe (vc.py, decl.py) -/
def md_me_readAdjective : List rec := [(895, 896, 8, 9), (895, 896, 9, 10)]
abbrev Q_me_readAdjective (S : sS) (kind : Int) (from_ : Int) (to : Int) (vals : Int) (dfd : Int) : pst := fun r S1 => HI S1 ∧ FR md_me_readAdjective S S1 ∧ (∃ z : Int, r = some (iv z) ∧ (0 ≤ z ∧ z ≤ 12) ∧ (1 ≤ z → (Xi S1 895 9 = -1 → Xi S1 895 8 ≤ 23 ∧ Xi S1 895 8 < Xi S 5 3) ∧ Xi S1 895 8 ≤ 63) ∧ (z = raF S kind from_ to vals dfd))
set_option maxRecDepth 100000 in
theorem t_me_readAdjective {S : sS} (hH : HI S) (kind : Int) (from_ : Int) (to : Int) (vals : Int) (dfd : Int) (hkind : -1 ≤ kind ∧ kind ≤ 15) (hfrom_ : -1 ≤ from_ ∧ from_ ≤ 6000) (hto : -1 ≤ to ∧ to ≤ 6000) (hvals : 0 ≤ vals ∧ vals ≤ 1) (hdfd : 0 ≤ dfd ∧ dfd ≤ 1) (hL : LEX S) (d : Nat) : Mt lay0 (d + 2) m_me_readAdjective [.ref 895, iv kind, iv from_, iv to, iv vals, iv dfd] S (Q_me_readAdjective S kind from_ to vals dfd) := by sorry
def md_me_readProperty : List rec := [(876, 877, 8, 9), (876, 877, 9, 10)]
abbrev Q_me_readProperty (S : sS) (from_ : Int) (to : Int) (kind : Int) (num : Int) : pst := fun r S1 => HI S1 ∧ FR md_me_readProperty S S1 ∧ (∃ z : Int, r = some (iv z) ∧ (-1 ≤ z ∧ z ≤ 11) ∧ (z ≠ -1 → num = 1 → Xi S 9 z.toNat = 0) ∧ (z = -1 → Xi S1 876 8 ≠ 0))
set_option maxRecDepth 100000 in
theorem t_me_readProperty {S : sS} (hH : HI S) (from_ : Int) (to : Int) (kind : Int) (num : Int) (hfrom_ : -1 ≤ from_ ∧ from_ ≤ 6000) (hto : -1 ≤ to ∧ to ≤ 6000) (hkind : -1 ≤ kind ∧ kind ≤ 15) (hnum : 0 ≤ num ∧ num ≤ 1) (hL : LEX S) (d : Nat) : Mt lay0 (d + 2) m_me_readProperty [.ref 895, iv from_, iv to, iv kind, iv num] S (Q_me_readProperty S from_ to kind num) := by sorry
def md_me_countParts : List rec := [(895, 896, 8, 9), (895, 896, 9, 10), (898, 899, 0, 100000)]
abbrev Q_me_countParts (S : sS) (kind : Int) (from_ : Int) (to : Int) (dfd : Int) : pst := fun r S1 => HI S1 ∧ FR md_me_countParts S S1 ∧ (∃ z : Int, r = some (iv z) ∧ (0 ≤ z ∧ z ≤ 4449744) ∧ (z = cpF S kind from_ to dfd) ∧ (0 ≤ to - from_ → to - from_ ≤ 6 → PRT S1 (fA S kind from_ dfd) (to - from_) (-1)))
set_option maxRecDepth 100000 in
theorem t_me_countParts {S : sS} (hH : HI S) (kind : Int) (from_ : Int) (to : Int) (dfd : Int) (hkind : 0 ≤ kind ∧ kind ≤ 15) (hfrom_ : -1 ≤ from_ ∧ from_ ≤ 5900) (hto : -1 ≤ to ∧ to ≤ 5900) (hdfd : 0 ≤ dfd ∧ dfd ≤ 1) (hL : LEX S) (d : Nat) : Mt lay0 (d + 3) m_me_countParts [.ref 895, iv kind, iv from_, iv to, iv dfd] S (Q_me_countParts S kind from_ to dfd) := by sorry
def md_me_countReadings : List rec := [(895, 896, 8, 9), (895, 896, 9, 10), (895, 896, 12, 13), (895, 896, 13, 14), (898, 899, 0, 100000)]
abbrev Q_me_countReadings (S : sS) (from_ : Int) (to : Int) (plur : Int) (dfd : Int) (least : Int) : pst := fun r S1 => HI S1 ∧ FR md_me_countReadings S S1 ∧ (∃ z : Int, r = some (iv z) ∧ (0 ≤ z ∧ z ≤ 13349232) ∧ (z ≠ 0 → from_ ≤ Xi S1 895 13 ∧ Xi S1 895 13 - from_ ≤ 5 ∧ Xi S1 895 13 ≤ to) ∧ (z ≠ 0 → 0 < cpF S (Xi S1 895 12) from_ (Xi S1 895 13) dfd))
set_option maxRecDepth 100000 in
theorem t_me_countReadings {S : sS} (hH : HI S) (from_ : Int) (to : Int) (plur : Int) (dfd : Int) (least : Int) (hfrom_ : 0 ≤ from_ ∧ from_ ≤ 5140) (hto : 0 ≤ to ∧ to ≤ 5140) (hplur : 0 ≤ plur ∧ plur ≤ 1) (hdfd : 0 ≤ dfd ∧ dfd ≤ 1) (hleast : -1 ≤ least ∧ least ≤ 15) (hL : LEX S) (d : Nat) : Mt lay0 (d + 4) m_me_countReadings [.ref 895, iv from_, iv to, iv plur, iv dfd, iv least] S (Q_me_countReadings S from_ to plur dfd least) := by sorry
def md_me_keepReading : List rec := [(895, 896, 8, 9), (895, 896, 9, 10), (895, 896, 14, 15), (896, 897, 0, 100000), (897, 898, 0, 100000), (898, 899, 0, 100000)]
abbrev Q_me_keepReading (S : sS) (from_ : Int) (dfd : Int) : pst := fun r S1 => HI S1 ∧ FR md_me_keepReading S S1 ∧ (r = none ∧ (MAD S1))
set_option maxRecDepth 100000 in
theorem t_me_keepReading {S : sS} (hH : HI S) (from_ : Int) (dfd : Int) (hfrom_ : 0 ≤ from_ ∧ from_ ≤ 5140) (hdfd : 0 ≤ dfd ∧ dfd ≤ 1) (hL : LEX S) (hd : from_ ≤ Xi S 895 13 ∧ Xi S 895 13 - from_ ≤ 5) (hp : 0 < cpF S (Xi S 895 12) from_ (Xi S 895 13) dfd) (d : Nat) : Mt lay0 (d + 4) m_me_keepReading [.ref 895, iv from_, iv dfd] S (Q_me_keepReading S from_ dfd) := by sorry
def md_re_takeNew : List rec := [(876, 877, 8, 9), (876, 877, 9, 10), (891, 892, 9, 10), (892, 893, 0, 100000), (893, 894, 0, 100000)]
abbrev Q_re_takeNew (S : sS) (from_ : Int) (to : Int) (already : Int) (most : Int) : pst := fun r S1 => HI S1 ∧ FR md_re_takeNew S S1 ∧ (∃ z : Int, r = some (iv z) ∧ (0 ≤ z ∧ z ≤ 1) ∧ (z = 1 → Xi S1 891 9 = Xi S 891 9 + 1 ∧ already + Xi S1 891 9 ≤ most ∧ to - from_ ≤ 3 ∧ Xi S1 892 (Xi S 891 9).toNat = from_ ∧ Xi S1 893 (Xi S 891 9).toNat = to) ∧ (z = 0 → Xi S1 891 9 = Xi S 891 9) ∧ (z = 1 → 1 ≤ to - from_ → mnR S 879 from_.toNat (to - from_).toNat = -1) ∧ (z = 0 → Xi S1 876 8 ≠ 0) ∧ (∀ j : Nat, (j : Int) < Xi S 891 9 → Xi S1 892 j = Xi S 892 j ∧ Xi S1 893 j = Xi S 893 j))
set_option maxRecDepth 100000 in
theorem t_re_takeNew {S : sS} (hH : HI S) (from_ : Int) (to : Int) (already : Int) (most : Int) (hfrom_ : 0 ≤ from_ ∧ from_ ≤ 5130) (hto : 0 ≤ to ∧ to ≤ 5130) (halready : 0 ≤ already ∧ already ≤ 1000) (hmost : 0 ≤ most ∧ most ≤ 1000) (hL : LEX S) (d : Nat) : Mt lay0 (d + 2) m_re_takeNew [.ref 891, iv from_, iv to, iv already, iv most] S (Q_re_takeNew S from_ to already most) := by sorry
def md_re_takePlace : List rec := [(876, 877, 8, 9), (876, 877, 9, 10), (891, 892, 11, 12), (891, 892, 12, 13)]
abbrev Q_re_takePlace (S : sS) (at_ : Int) : pst := fun r S1 => HI S1 ∧ FR md_re_takePlace S S1 ∧ (∃ z : Int, r = some (iv z) ∧ (0 ≤ z ∧ z ≤ 1) ∧ (z = 1 → 0 ≤ Xi S1 891 12 ∧ 1 ≤ Xi S1 891 11) ∧ (z = 0 → Xi S1 876 8 ≠ 0))
set_option maxRecDepth 100000 in
theorem t_re_takePlace {S : sS} (hH : HI S) (at_ : Int) (hat_ : 0 ≤ at_ ∧ at_ ≤ 5140) (hL : LEX S) (d : Nat) : Mt lay0 (d + 4) m_re_takePlace [.ref 891, iv at_] S (Q_re_takePlace S at_) := by sorry
def md_re_takeObjectOrNew : List rec := [(876, 877, 8, 9), (876, 877, 9, 10), (891, 892, 9, 10), (892, 893, 0, 100000), (893, 894, 0, 100000)]
abbrev Q_re_takeObjectOrNew (S : sS) (from_ : Int) (kind : Int) : pst := fun r S1 => HI S1 ∧ FR md_re_takeObjectOrNew S S1 ∧ (∃ z : Int, r = some (iv z) ∧ (0 ≤ z ∧ z ≤ 1) ∧ (Xi S 891 9 ≤ Xi S1 891 9) ∧ (z = 0 → Xi S1 876 8 ≠ 0) ∧ (z = 1 → mnV S from_ (ruF S from_ (Xi S 876 7)) = -1 → Xi S1 891 9 = Xi S 891 9 + 1 ∧ Xi S1 892 (Xi S 891 9).toNat = from_ ∧ Xi S 5 2 + Xi S1 891 9 ≤ 24) ∧ (z = 1 → mnV S from_ (ruF S from_ (Xi S 876 7)) ≠ -1 → mnV S from_ (ruF S from_ (Xi S 876 7)) / 256 = 2 ∧ Xi S1 891 9 = Xi S 891 9) ∧ (∀ j : Nat, (j : Int) < Xi S 891 9 → Xi S1 892 j = Xi S 892 j))
set_option maxRecDepth 100000 in
theorem t_re_takeObjectOrNew {S : sS} (hH : HI S) (from_ : Int) (kind : Int) (hfrom_ : 0 ≤ from_ ∧ from_ ≤ 5129) (hkind : -1 ≤ kind ∧ kind ≤ 15) (hL : LEX S) (hf : Xi S 877 from_.toNat = 100) (hr : from_ < Xi S 876 7) (d : Nat) : Mt lay0 (d + 3) m_re_takeObjectOrNew [.ref 891, iv from_, iv kind] S (Q_re_takeObjectOrNew S from_ kind) := by sorry
def md_re_takeDescription : List rec := [(876, 877, 8, 9), (876, 877, 9, 10), (895, 896, 8, 9), (895, 896, 9, 10), (895, 896, 12, 13), (895, 896, 13, 14), (895, 896, 14, 15), (896, 897, 0, 100000), (897, 898, 0, 100000), (898, 899, 0, 100000)]
abbrev Q_re_takeDescription (S : sS) (from_ : Int) (to : Int) (plur : Int) : pst := fun r S1 => HI S1 ∧ FR md_re_takeDescription S S1 ∧ (∃ z : Int, r = some (iv z) ∧ (0 ≤ z ∧ z ≤ 1) ∧ (z = 1 → MAD S1) ∧ (z = 0 → Xi S1 876 8 ≠ 0))
set_option maxRecDepth 100000 in
theorem t_re_takeDescription {S : sS} (hH : HI S) (from_ : Int) (to : Int) (plur : Int) (hfrom_ : 0 ≤ from_ ∧ from_ ≤ 5140) (hto : 0 ≤ to ∧ to ≤ 5140) (hplur : 0 ≤ plur ∧ plur ≤ 1) (hL : LEX S) (d : Nat) : Mt lay0 (d + 5) m_re_takeDescription [.ref 891, iv from_, iv to, iv plur] S (Q_re_takeDescription S from_ to plur) := by sorry
end
section
/-! SAFETY: what holds between sentences -/
def CC (S : sS) : Prop := Xi S 246 5 ≤ 19 * Xi S 246 2 + 6 * Xi S 5 3
def VAL (S : sS) : Prop := ∀ t : Int, vals S t ≤ 8
def SRX (S : sS) : Prop := S.2.2 20 1 = some (txr S) ∧ tp (txr S)
theorem SRX_FR {l : List rec} {S T : sS} (h : FR l S T) (e : mdf l 20 1 = false) (hS : SRX S) : SRX T := by sorry
theorem tx_mk {S : sS} {v n : Int} (hS : SRX S) (h0 : 0 ≤ v) (h1 : v + n ≤ 5000) : TXT S v n := by sorry
def WI (S : sS) : Prop := LEX S ∧ TX S ∧ DEF S ∧ RUL S ∧ CMD S ∧ AK S ∧ CC S ∧ VAL S
theorem valn_fr {S T : sS} (h8 : ∀ j, Xi T 8 j = Xi S 8 j) {t : Int} : ∀ (n : Nat) (i c : Int), valn T t n i c = valn S t n i c := by sorry
theorem vals_fr {S T : sS} (h8 : ∀ j, Xi T 8 j = Xi S 8 j) (h5 : Xi T 5 4 = Xi S 5 4) {t : Int} : vals T t = vals S t := by sorry
def dL (l : List rec) : Bool := l.all (fun r => Nat.ble r.2.1 3 || Nat.ble 4 r.1) && (l.all (fun r => Nat.ble r.2.1 4 || Nat.ble 5 r.1) && l.all (fun r => Nat.ble r.2.1 5 || Nat.ble 6 r.1))
/-- texts may have changed, the rest not -/
theorem WI_x {l : List rec} {S T : sS} (hH : HI S) (h : FR l S T) (e1 : mdf l 1 3 = false) (e2 : dL l = true) (e4 : (kdis l kG && (!(mdf l 20 1) && (!(mdf l 246 8) && !(mdf l 246 5)))) = true) (e5 : kdis l [(5, 6), (11, 14)] = true) (e6 : (kdis l [(5, 6), (248, 272)] && !(mdf l 246 2)) = true) (e7 : (kdis l [(5, 6), (19, 20), (883, 884), (885, 887)] && !(mdf l 882 3)) = true) (e8 : kdis l [(8, 9)] = true) (e9 : kdis l [(19, 20), (5, 6)] = true) (hX : TX T) (hW : WI S) : WI T := by sorry
theorem WI_FR {l : List rec} {S T : sS} (hH : HI S) (h : FR l S T) (e1 : mdf l 1 3 = false) (e2 : dL l = true) (e3 : (kdis l kX && !(mdf l 20 1)) = true) (e4 : (kdis l kG && (!(mdf l 20 1) && (!(mdf l 246 8) && !(mdf l 246 5)))) = true) (e5 : kdis l [(5, 6), (11, 14)] = true) (e6 : (kdis l [(5, 6), (248, 272)] && !(mdf l 246 2)) = true) (e7 : (kdis l [(5, 6), (19, 20), (883, 884), (885, 887)] && !(mdf l 882 3)) = true) (e8 : kdis l [(8, 9)] = true) (e9 : kdis l [(19, 20), (5, 6)] = true) (hW : WI S) : WI T := by sorry
/-- words may have been told: counts have grown, but not that of adjectives -/
theorem WI_gx {l : List rec} {S T : sS} (hH : HI S) (h : FR l S T) (hX : TX T) (e4 : (kdis l kG && (!(mdf l 20 1) && (!(mdf l 246 8) && !(mdf l 246 5)))) = true) (e5 : kdis l [(11, 14)] = true) (e6 : (kdis l [(248, 272)] && !(mdf l 246 2)) = true) (e7 : (kdis l [(883, 884), (885, 887), (19, 20)] && !(mdf l 882 3)) = true) (hL : LEX T) (h5 : ∀ j, Xi S 5 j ≤ Xi T 5 j) (h53 : Xi T 5 3 = Xi S 5 3) (h54 : VAL T) (hW : WI S) : WI T := by sorry
theorem WI_g {l : List rec} {S T : sS} (hH : HI S) (h : FR l S T) (e3 : (kdis l kX && !(mdf l 20 1)) = true) (e4 : (kdis l kG && (!(mdf l 20 1) && (!(mdf l 246 8) && !(mdf l 246 5)))) = true) (e5 : kdis l [(11, 14)] = true) (e6 : (kdis l [(248, 272)] && !(mdf l 246 2)) = true) (e7 : (kdis l [(883, 884), (885, 887), (19, 20)] && !(mdf l 882 3)) = true) (hL : LEX T) (h5 : ∀ j, Xi S 5 j ≤ Xi T 5 j) (h53 : Xi T 5 3 = Xi S 5 3) (h54 : VAL T) (hW : WI S) : WI T := by sorry
def fob (S : sS) (r : Int) : Int := fnd S 2 r (ruF S r (Xi S 876 7))
theorem ren_fr {S T : sS} (h7 : Xi T 876 7 = Xi S 876 7) (h : ∀ j, Xi T 877 j = Xi S 877 j) {lim : Int} : ∀ (n : Nat) (r : Int), ren T lim n r = ren S lim n r := by sorry
theorem ruF_FR {l : List rec} {S T : sS} (h : FR l S T) (e : (kdis l [(877, 878)] && !(mdf l 876 7)) = true) {a lim : Int} : ruF T a lim = ruF S a lim := by sorry
theorem bgn_FR {l : List rec} {S T : sS} (h : FR l S T) (e : (kdis l [(877, 878)] && !(mdf l 876 7)) = true) (e2 : mdf l 890 3 = false) {r : Int} : bgn T r = bgn S r := by sorry
theorem fnd_FR {l : List rec} {S T : sS} (h : FR l S T) (e : (kdis l kA && !(mdf l 1 3)) = true) {s a b : Int} : fnd T s a b = fnd S s a b := by sorry
theorem fob_FR {l : List rec} {S T : sS} (h : FR l S T) (e : (kdis l kA && !(mdf l 1 3)) = true) (e2 : (kdis l [(877, 878)] && !(mdf l 876 7)) = true) {r : Int} : fob T r = fob S r := by sorry
theorem fob_of {S : sS} {r y z : Int} (hz : z = fnd S 2 r y) (hy : y = ruF S r (Xi S 876 7)) : z = fob S r := by sorry
/-- each object in the list has the adjective, up to a row -/
def ASU (S : sS) (a b nt n : Int) : Prop := ∀ r : Int, 0 ≤ r → r < n → bgn S r = 1 → fob S r ≠ -1 → 1 ≤ raF S (Xi S 21 (fob S r).toNat) a b (1 - nt) 0
theorem asu_0 {S : sS} {a b nt : Int} : ASU S a b nt 0 := by sorry
theorem asu_s {S : sS} {a b nt n : Int} (h : ASU S a b nt n) (hn : bgn S n ≠ 1 ∨ fob S n = -1 ∨ 1 ≤ raF S (Xi S 21 (fob S n).toNat) a b (1 - nt) 0) : ASU S a b nt (n + 1) := by sorry
theorem asu_r {l : List rec} {S T : sS} {k a b v nt r z : Int} (hz : z = raF T k a b v 0) (h : FR l S T) (e : (kdis l kA && !(mdf l 1 3)) = true) (hk : k = Xi S 21 (fob S r).toNat) (hv : v = 1 - nt) (h1 : 1 ≤ z) : 1 ≤ raF S (Xi S 21 (fob S r).toNat) a b (1 - nt) 0 := by sorry
theorem asu_u {l : List rec} {S T : sS} {k a b v nt r n z : Int} (hs : ASU S a b nt n) (hz : z = raF T k a b v 0) (h : FR l S T) (e : (kdis l kA && !(mdf l 1 3)) = true) (hk : k = Xi S 21 (fob S r).toNat) (hv : v = 1 - nt) (h0 : 0 ≤ r) (hr : r < n) (hb : bgn S r = 1) (hf : fob S r ≠ -1) : 1 ≤ z := by sorry
/-- names that are new in the list, up to a row -/
def NWO (S : sS) (n : Int) : Prop := (∀ i j : Nat, i < j → (j : Int) < Xi S 891 9 → Xi S 892 i < Xi S 892 j) ∧ (∀ j : Nat, (j : Int) < Xi S 891 9 → Xi S 892 j < n) ∧ (∀ r : Int, 0 ≤ r → r < n → bgn S r = 1 → mnV S r (ruF S r (Xi S 876 7)) / 256 = 2 ∨ (mnV S r (ruF S r (Xi S 876 7)) = -1 ∧ ∃ j : Nat, (j : Int) < Xi S 891 9 ∧ Xi S 892 j = r)) ∧ (Xi S 891 9 = 0 ∨ Xi S 5 2 + Xi S 891 9 ≤ 24)
theorem nwo_0 {S : sS} (h : Xi S 891 9 = 0) : NWO S 0 := by sorry
theorem asu_e {S : sS} {a b nt n m : Int} (h : ASU S a b nt n) (hm : m ≤ n) : ASU S a b nt m := by sorry
theorem VAL_fr {l : List rec} {S T : sS} (h : FR l S T) (e8 : kdis l [(8, 9)] = true) (h4 : Xi T 5 4 = Xi S 5 4) (hv : VAL S) : VAL T := by sorry
theorem WI_tn {S T : sS} {s : Int} (hH : HI S) (h : FR md_vo_tellNew S T) (hL : LEX T) (hc : Xi T 5 s.toNat = Xi S 5 s.toNat + 1) (ho : ∀ j, j ≠ s.toNat → Xi T 5 j = Xi S 5 j) (h3 : s.toNat ≠ 3) (h4 : s.toNat ≠ 4) (hW : WI S) : WI T := by sorry
theorem WI_nm {S T : sS} (hH : HI S) (h : FR md_vo_nameIt S T) (hL : LEX T) (ho : ∀ j, Xi T 5 j = Xi S 5 j) (hW : WI S) : WI T := by sorry
theorem WI_ns {S T : sS} (hH : HI S) (h : FR md_re_nameWithS S T) (hL : LEX T) (ho : ∀ j, Xi T 5 j = Xi S 5 j) (hW : WI S) : WI T := by sorry
theorem nwo_n {l : List rec} {S T : sS} {n : Int} (h : FR l S T) (e : (kdis l [(877, 878), (2, 5), (879, 880), (5, 6)] && (!(mdf l 876 7) && (!(mdf l 890 3) && !(mdf l 1 3)))) = true) (h0 : 0 ≤ n) (hw : NWO S n) (hr : (Xi T 891 9 = Xi S 891 9 ∧ (∀ j : Nat, (j : Int) < Xi S 891 9 → Xi T 892 j = Xi S 892 j) ∧ (bgn S n = 1 → mnV S n (ruF S n (Xi S 876 7)) / 256 = 2)) ∨ (Xi T 891 9 = Xi S 891 9 + 1 ∧ (∀ j : Nat, (j : Int) < Xi S 891 9 → Xi T 892 j = Xi S 892 j) ∧ Xi T 892 (Xi S 891 9).toNat = n ∧ 0 ≤ Xi S 891 9 ∧ Xi S 5 2 + Xi T 891 9 ≤ 24 ∧ mnV S n (ruF S n (Xi S 876 7)) = -1)) : NWO T (n + 1) := by sorry
theorem nwo_f {S : sS} {n : Int} (hw : NWO S n) (hb : bgn S n ≠ 1) : NWO S (n + 1) := by sorry
theorem nwo_e {S : sS} {n m : Int} (hw : NWO S n) (h : m ≤ n) (hm : ∀ j : Nat, (j : Int) < Xi S 891 9 → Xi S 892 j < m) : NWO S m := by sorry
theorem NWO_FR {l : List rec} {S T : sS} {n : Int} (h : FR l S T) (e : (kdis l [(877, 878), (2, 5), (879, 880), (5, 6), (892, 893)] && (!(mdf l 876 7) && (!(mdf l 890 3) && (!(mdf l 1 3) && !(mdf l 891 9))))) = true) (hw : NWO S n) : NWO T n := by sorry
theorem nwo_x {S : sS} {n m : Int} (hH : HI S) (hw : NWO S n) (h : n = m ∨ (n = 0 ∧ m ≤ 0)) : NWO S m := by sorry
/-- how many of the new ones were told -/
def NWC (S T : sS) (n : Int) : Prop := ∃ k : Nat, (k : Int) ≤ Xi S 891 9 ∧ Xi T 5 2 = Xi S 5 2 + k ∧ ∀ j : Nat, (j : Int) < Xi S 891 9 → n ≤ Xi S 892 j → k ≤ j
theorem nwc_0 {S : sS} (hH : HI S) : NWC S S 0 := by sorry
theorem mnV_keep {S T : sS} {l : List rec} (hH : HI S) (hK : LKEEP S T) (F : FR l S T) (e : kdis l [(879, 880)] = true) {a b : Int} (hm : mnV S a b ≠ -1) : mnV T a b = mnV S a b := by sorry
theorem nwc_j {S T : sS} {l : List rec} {n m : Int} (hH : HI S) (hN : NWO S m) (hK : LKEEP S T) (F : FR l S T) (e : (kdis l [(879, 880), (877, 878)] && !(mdf l 876 7)) = true) (h0 : 0 ≤ n) (hn : n < m) (hb : bgn S n = 1) (hf : fob T n = -1) : ∃ j : Nat, (j : Int) < Xi S 891 9 ∧ Xi S 892 j = n := by sorry
theorem nwc_lt {S T : sS} {l : List rec} {n m : Int} (hH : HI S) (hN : NWO S m) (hK : LKEEP S T) (F : FR l S T) (e : (kdis l [(879, 880), (877, 878)] && !(mdf l 876 7)) = true) (hc : NWC S T n) (h0 : 0 ≤ n) (hn : n < m) (hb : bgn S n = 1) : fob T n = -1 → Xi T 5 2 < 24 := by sorry
theorem nwc_s {S T U : sS} {l : List rec} {n m : Int} (hH : HI S) (hN : NWO S m) (hK : LKEEP S T) (F : FR l S T) (e : (kdis l [(879, 880), (877, 878)] && !(mdf l 876 7)) = true) (hc : NWC S T n) (h0 : 0 ≤ n) (hn : n < m) (hb : bgn S n = 1) (h1 : fob T n = -1 → Xi U 5 2 = Xi T 5 2 + 1) (h2 : fob T n ≠ -1 → Xi U 5 2 = Xi T 5 2) : NWC S U (n + 1) := by sorry
theorem nwc_f {S T : sS} {n : Int} (hc : NWC S T n) : NWC S T (n + 1) := by sorry
theorem nwc_e {S T U : sS} {n : Int} (hc : NWC S T n) (h : Xi U 5 2 = Xi T 5 2) : NWC S U n := by sorry
theorem five_le {S T : sS} {n : Int} (hc : NWC S T n) (ho : ∀ j, j ≠ 2 → Xi T 5 j = Xi S 5 j) : ∀ j, Xi S 5 j ≤ Xi T 5 j := by sorry
theorem mad_d {l : List rec} {S T : sS} (h : FR l S T) (e : kdis l [(896, 898)] = true) (e2 : mdf l 895 14 = false) (hm : MAD S) (h5 : Xi T 5 3 = Xi S 5 3) : MAD T := by sorry
/-! SAFETY of methods: printed by wip/safe (vc.py, decl.py) -/
def md_me_readWhat : List rec := [(876, 877, 8, 9), (876, 877, 9, 10), (895, 896, 10, 11), (895, 896, 11, 12)]
abbrev Q_me_readWhat (S : sS) (row : Int) (type : Int) : pst := fun r S1 => HI S1 ∧ FR md_me_readWhat S S1 ∧ (∃ z : Int, r = some (iv z) ∧ (0 ≤ z ∧ z ≤ 1) ∧ (z = 1 → TXT S1 (Xi S1 895 10) (Xi S1 895 11)) ∧ (z = 0 → Xi S1 876 8 ≠ 0))
set_option maxRecDepth 100000 in
theorem t_me_readWhat {S : sS} (hH : HI S) (row : Int) (type : Int) (hrow : 0 ≤ row ∧ row ≤ 5140) (htype : 0 ≤ type ∧ type ≤ 7) (hL : LEX S) (hT : TOK S) (hS : SRX S) (d : Nat) : Mt lay0 (d + 2) m_me_readWhat [.ref 895, iv row, iv type] S (Q_me_readWhat S row type) := by sorry
def md_re_tellOne : List rec := [(25, 65, 0, 100000), (66, 106, 0, 100000), (107, 147, 0, 100000), (148, 188, 0, 100000)]
abbrev Q_re_tellOne (S : sS) (row : Int) (met : Int) (prop : Int) (holds : Int) : pst := fun r S1 => HI S1 ∧ FR md_re_tellOne S S1 ∧ (∃ z : Int, r = some (iv z) ∧ (0 ≤ z ∧ z ≤ 1) ∧ (TX S1))
set_option maxRecDepth 100000 in
theorem t_re_tellOne {S : sS} (hH : HI S) (row : Int) (met : Int) (prop : Int) (holds : Int) (hrow : 0 ≤ row ∧ row ≤ 39) (hmet : 0 ≤ met ∧ met ≤ 63) (hprop : -1 ≤ prop ∧ prop ≤ 11) (hholds : 0 ≤ holds ∧ holds ≤ 1) (hX : TX S) (hm : prop = -1 → met ≤ 23) (d : Nat) : Mt lay0 (d + 3) m_re_tellOne [.ref 891, iv row, iv met, iv prop, iv holds] S (Q_re_tellOne S row met prop holds) := by sorry
def md_re_tellAdjectives : List rec := [(25, 65, 0, 100000), (66, 106, 0, 100000), (107, 147, 0, 100000), (148, 188, 0, 100000)]
abbrev Q_re_tellAdjectives (S : sS) (o : Int) : pst := fun r S1 => HI S1 ∧ FR md_re_tellAdjectives S S1 ∧ (∃ z : Int, r = some (iv z) ∧ (0 ≤ z ∧ z ≤ 1) ∧ (TX S1))
set_option maxRecDepth 100000 in
theorem t_re_tellAdjectives {S : sS} (hH : HI S) (o : Int) (ho : 0 ≤ o ∧ o ≤ 23) (hX : TX S) (hM : MAD S) (d : Nat) : Mt lay0 (d + 4) m_re_tellAdjectives [.ref 891, iv o] S (Q_re_tellAdjectives S o) := by sorry
def md_re_describe : List rec := [(66, 106, 0, 100000), (107, 147, 0, 100000), (148, 188, 0, 100000), (876, 877, 8, 9), (876, 877, 9, 10)]
abbrev Q_re_describe (S : sS) : pst := fun r S1 => HI S1 ∧ FR md_re_describe S S1 ∧ (∃ z : Int, r = some (iv z) ∧ (0 ≤ z ∧ z ≤ 1) ∧ (z = 1 → WI S1) ∧ (z = 0 → Xi S1 876 8 ≠ 0))
set_option maxRecDepth 100000 in
theorem t_re_describe {S : sS} (hH : HI S) (hW : WI S) (hT : TOK S) (hS : SRX S) (h0 : Xi S 877 (0 : Int).toNat = 102 ∧ 0 < Xi S 876 7) (d : Nat) : Mt lay0 (d + 3) m_re_describe [.ref 891] S (Q_re_describe S) := by sorry
def md_re_takeOldObjects : List rec := [(876, 877, 8, 9), (876, 877, 9, 10)]
abbrev Q_re_takeOldObjects (S : sS) : pst := fun r S1 => HI S1 ∧ FR md_re_takeOldObjects S S1 ∧ (∃ z : Int, r = some (iv z) ∧ (0 ≤ z ∧ z ≤ 1) ∧ (z = 0 → Xi S1 876 8 ≠ 0))
set_option maxRecDepth 100000 in
theorem t_re_takeOldObjects {S : sS} (hH : HI S) (hL : LEX S) (d : Nat) : Mt lay0 (d + 3) m_re_takeOldObjects [.ref 891] S (Q_re_takeOldObjects S) := by sorry
def md_re_adjectiveSuits : List rec := [(876, 877, 8, 9), (876, 877, 9, 10), (895, 896, 8, 9), (895, 896, 9, 10)]
abbrev Q_re_adjectiveSuits (S : sS) (at_ : Int) (to : Int) (nt : Int) : pst := fun r S1 => HI S1 ∧ FR md_re_adjectiveSuits S S1 ∧ (∃ z : Int, r = some (iv z) ∧ (0 ≤ z ∧ z ≤ 1) ∧ (z = 1 → ASU S at_ to nt (Xi S 890 3)) ∧ (z = 0 → Xi S1 876 8 ≠ 0))
set_option maxRecDepth 100000 in
theorem t_re_adjectiveSuits {S : sS} (hH : HI S) (at_ : Int) (to : Int) (nt : Int) (hat_ : 0 ≤ at_ ∧ at_ ≤ 5140) (hto : 0 ≤ to ∧ to ≤ 5140) (hnt : 0 ≤ nt ∧ nt ≤ 1) (hL : LEX S) (d : Nat) : Mt lay0 (d + 3) m_re_adjectiveSuits [.ref 891, iv at_, iv to, iv nt] S (Q_re_adjectiveSuits S at_ to nt) := by sorry
/-! SAFETY of methods: printed by wip/safe (vc.py, decl.py) -/
def md_re_doAdjective : List rec := [(25, 65, 0, 100000), (66, 106, 0, 100000), (107, 147, 0, 100000), (148, 188, 0, 100000), (876, 877, 8, 9), (876, 877, 9, 10), (891, 892, 10, 11), (895, 896, 8, 9), (895, 896, 9, 10)]
abbrev Q_re_doAdjective (S : sS) (at_ : Int) (to : Int) (nt : Int) : pst := fun r S1 => HI S1 ∧ FR md_re_doAdjective S S1 ∧ (∃ z : Int, r = some (iv z) ∧ (0 ≤ z ∧ z ≤ 1) ∧ (TX S1) ∧ (z = 0 → Xi S1 876 8 ≠ 0))
set_option maxRecDepth 100000 in
theorem t_re_doAdjective {S : sS} (hH : HI S) (at_ : Int) (to : Int) (nt : Int) (hat_ : 0 ≤ at_ ∧ at_ ≤ 5140) (hto : 0 ≤ to ∧ to ≤ 5140) (hnt : 0 ≤ nt ∧ nt ≤ 1) (hL : LEX S) (hX : TX S) (hs : ASU S at_ to nt (Xi S 890 3)) (d : Nat) : Mt lay0 (d + 4) m_re_doAdjective [.ref 891, iv at_, iv to, iv nt] S (Q_re_doAdjective S at_ to nt) := by sorry
def md_re_tellUsually : List rec := [(25, 65, 0, 100000), (66, 106, 0, 100000), (107, 147, 0, 100000), (148, 188, 0, 100000), (876, 877, 8, 9), (876, 877, 9, 10), (895, 896, 8, 9), (895, 896, 9, 10)]
abbrev Q_re_tellUsually (S : sS) : pst := fun r S1 => HI S1 ∧ FR md_re_tellUsually S S1 ∧ (∃ z : Int, r = some (iv z) ∧ (0 ≤ z ∧ z ≤ 1) ∧ (z = 1 → WI S1) ∧ (z = 0 → Xi S1 876 8 ≠ 0))
set_option maxRecDepth 100000 in
theorem t_re_tellUsually {S : sS} (hH : HI S) (hW : WI S) (d : Nat) : Mt lay0 (d + 4) m_re_tellUsually [.ref 891] S (Q_re_tellUsually S) := by sorry
def md_re_tellProperty : List rec := [(66, 106, 0, 100000), (107, 147, 0, 100000), (148, 188, 0, 100000), (876, 877, 8, 9), (876, 877, 9, 10), (895, 896, 10, 11), (895, 896, 11, 12)]
abbrev Q_re_tellProperty (S : sS) : pst := fun r S1 => HI S1 ∧ FR md_re_tellProperty S S1 ∧ (∃ z : Int, r = some (iv z) ∧ (0 ≤ z ∧ z ≤ 1) ∧ (z = 1 → WI S1) ∧ (z = 0 → Xi S1 876 8 ≠ 0))
set_option maxRecDepth 100000 in
theorem t_re_tellProperty {S : sS} (hH : HI S) (hW : WI S) (hT : TOK S) (hS : SRX S) (d : Nat) : Mt lay0 (d + 3) m_re_tellProperty [.ref 891] S (Q_re_tellProperty S) := by sorry
def md_re_tellPlural : List rec := [(1, 2, 3, 4), (2, 3, 0, 100000), (3, 4, 0, 100000), (4, 5, 0, 100000), (876, 877, 8, 9), (876, 877, 9, 10), (891, 892, 9, 10), (892, 893, 0, 100000), (893, 894, 0, 100000)]
abbrev Q_re_tellPlural (S : sS) : pst := fun r S1 => HI S1 ∧ FR md_re_tellPlural S S1 ∧ (∃ z : Int, r = some (iv z) ∧ (0 ≤ z ∧ z ≤ 1) ∧ (z = 1 → WI S1) ∧ (z = 0 → Xi S1 876 8 ≠ 0))
set_option maxRecDepth 100000 in
theorem t_re_tellPlural {S : sS} (hH : HI S) (hW : WI S) (hn0 : Xi S 891 9 = 0) (d : Nat) : Mt lay0 (d + 3) m_re_tellPlural [.ref 891] S (Q_re_tellPlural S) := by sorry
def md_re_tellVerb : List rec := [(1, 2, 3, 4), (2, 3, 0, 100000), (3, 4, 0, 100000), (4, 5, 0, 100000), (5, 6, 0, 100000), (18, 19, 0, 100000), (876, 877, 8, 9), (876, 877, 9, 10), (891, 892, 9, 10), (892, 893, 0, 100000), (893, 894, 0, 100000), (894, 895, 0, 100000)]
abbrev Q_re_tellVerb (S : sS) : pst := fun r S1 => HI S1 ∧ FR md_re_tellVerb S S1 ∧ (∃ z : Int, r = some (iv z) ∧ (0 ≤ z ∧ z ≤ 1) ∧ (z = 1 → WI S1) ∧ (z = 0 → Xi S1 876 8 ≠ 0))
set_option maxRecDepth 100000 in
theorem t_re_tellVerb {S : sS} (hH : HI S) (hW : WI S) (hn0 : Xi S 891 9 = 0) (d : Nat) : Mt lay0 (d + 4) m_re_tellVerb [.ref 891] S (Q_re_tellVerb S) := by sorry
end
section
/-! SAFETY of methods: printed by wip/safe (vc.py, decl.py) -/
def md_re_tellRelation : List rec := [(1, 2, 3, 4), (2, 3, 0, 100000), (3, 4, 0, 100000), (4, 5, 0, 100000), (5, 6, 0, 100000), (14, 15, 0, 100000), (15, 16, 0, 100000), (16, 17, 0, 100000), (17, 18, 0, 100000), (876, 877, 8, 9), (876, 877, 9, 10), (891, 892, 9, 10), (892, 893, 0, 100000), (893, 894, 0, 100000)]
abbrev Q_re_tellRelation (S : sS) : pst := fun r S1 => HI S1 ∧ FR md_re_tellRelation S S1 ∧ (∃ z : Int, r = some (iv z) ∧ (0 ≤ z ∧ z ≤ 1) ∧ (z = 1 → WI S1) ∧ (z = 0 → Xi S1 876 8 ≠ 0))
set_option maxRecDepth 100000 in
theorem t_re_tellRelation {S : sS} (hH : HI S) (hW : WI S) (hn0 : Xi S 891 9 = 0) (d : Nat) : Mt lay0 (d + 4) m_re_tellRelation [.ref 891] S (Q_re_tellRelation S) := by sorry
def md_re_relateAll : List rec := [(189, 195, 0, 100000)]
abbrev Q_re_relateAll (S : sS) (rl : Int) (verb : Int) (end_ : Int) : pst := fun r S1 => HI S1 ∧ FR md_re_relateAll S S1 ∧ (∃ z : Int, r = some (iv z) ∧ (0 ≤ z ∧ z ≤ 1))
set_option maxRecDepth 100000 in
theorem t_re_relateAll {S : sS} (hH : HI S) (rl : Int) (verb : Int) (end_ : Int) (hrl : 0 ≤ rl ∧ rl ≤ 5) (hverb : 0 ≤ verb ∧ verb ≤ 5125) (hend_ : 0 ≤ end_ ∧ end_ ≤ 5125) (hL : LEX S) (d : Nat) : Mt lay0 (d + 3) m_re_relateAll [.ref 891, iv rl, iv verb, iv end_] S (Q_re_relateAll S rl verb end_) := by sorry
def md_re_takeObjects : List rec := [(876, 877, 8, 9), (876, 877, 9, 10), (891, 892, 9, 10), (892, 893, 0, 100000), (893, 894, 0, 100000)]
abbrev Q_re_takeObjects (S : sS) : pst := fun r S1 => HI S1 ∧ FR md_re_takeObjects S S1 ∧ (∃ z : Int, r = some (iv z) ∧ (0 ≤ z ∧ z ≤ 1) ∧ (z = 1 → NWO S1 (Xi S 890 3)) ∧ (z = 0 → Xi S1 876 8 ≠ 0))
set_option maxRecDepth 100000 in
theorem t_re_takeObjects {S : sS} (hH : HI S) (hL : LEX S) (hn0 : Xi S 891 9 = 0) (d : Nat) : Mt lay0 (d + 4) m_re_takeObjects [.ref 891] S (Q_re_takeObjects S) := by sorry
def md_re_objectOrNew : List rec := [(1, 2, 3, 4), (2, 3, 0, 100000), (3, 4, 0, 100000), (4, 5, 0, 100000), (5, 6, 0, 100000), (21, 22, 0, 100000), (22, 23, 0, 100000), (23, 24, 0, 100000)]
abbrev Q_re_objectOrNew (S : sS) (from_ : Int) (kind : Int) : pst := fun r S1 => HI S1 ∧ FR md_re_objectOrNew S S1 ∧ (∃ z : Int, r = some (iv z) ∧ (0 ≤ z ∧ z ≤ 23) ∧ (LEX S1) ∧ (LKEEP S S1) ∧ (fob S from_ = -1 → Xi S1 5 2 = Xi S 5 2 + 1) ∧ (fob S from_ ≠ -1 → Xi S1 5 2 = Xi S 5 2) ∧ (∀ j, j ≠ 2 → Xi S1 5 j = Xi S 5 j))
set_option maxRecDepth 100000 in
theorem t_re_objectOrNew {S : sS} (hH : HI S) (from_ : Int) (kind : Int) (hfrom_ : 0 ≤ from_ ∧ from_ ≤ 5126) (hkind : 0 ≤ kind ∧ kind ≤ 15) (hL : LEX S) (hc : fob S from_ = -1 → Xi S 5 2 < 24) (d : Nat) : Mt lay0 (d + 4) m_re_objectOrNew [.ref 891, iv from_, iv kind] S (Q_re_objectOrNew S from_ kind) := by sorry
/-! SAFETY: told sentences, more -/
theorem asu_t {l : List rec} {S T : sS} {a b nt : Int} (h : FR l S T) (e : (kdis l kA && !(mdf l 1 3)) = true) (e2 : (kdis l [(877, 878)] && !(mdf l 876 7)) = true) (e3 : mdf l 890 3 = false) (e4 : kdis l [(21, 22)] = true) (hs : ASU S a b nt (Xi S 890 3)) : ASU T a b nt (Xi T 890 3) := by sorry
/-! SAFETY of methods: printed by wip/safe (vc.py, decl.py) -/
def md_re_doObjects : List rec := [(1, 2, 3, 4), (2, 3, 0, 100000), (3, 4, 0, 100000), (4, 5, 0, 100000), (5, 6, 0, 100000), (21, 22, 0, 100000), (22, 23, 0, 100000), (23, 24, 0, 100000), (25, 65, 0, 100000), (66, 106, 0, 100000), (107, 147, 0, 100000), (148, 188, 0, 100000), (876, 877, 8, 9), (876, 877, 9, 10), (891, 892, 10, 11)]
abbrev Q_re_doObjects (S : sS) (ds : Int) : pst := fun r S1 => HI S1 ∧ FR md_re_doObjects S S1 ∧ (∃ z : Int, r = some (iv z) ∧ (0 ≤ z ∧ z ≤ 1) ∧ (z = 1 → WI S1) ∧ (z = 0 → Xi S1 876 8 ≠ 0))
set_option maxRecDepth 100000 in
theorem t_re_doObjects {S : sS} (hH : HI S) (ds : Int) (hds : 0 ≤ ds ∧ ds ≤ 1) (hW : WI S) (hN : NWO S (Xi S 890 3)) (hM : ds = 1 → MAD S) (hh : Xi S 891 11 ≠ 0 → 0 ≤ Xi S 891 12) (d : Nat) : Mt lay0 (d + 5) m_re_doObjects [.ref 891, iv ds] S (Q_re_doObjects S ds) := by sorry
def md_re_tellLoose : List rec := [(189, 195, 0, 100000), (876, 877, 8, 9), (876, 877, 9, 10)]
abbrev Q_re_tellLoose (S : sS) : pst := fun r S1 => HI S1 ∧ FR md_re_tellLoose S S1 ∧ (∃ z : Int, r = some (iv z) ∧ (0 ≤ z ∧ z ≤ 1) ∧ (z = 1 → WI S1) ∧ (z = 0 → Xi S1 876 8 ≠ 0))
set_option maxRecDepth 100000 in
theorem t_re_tellLoose {S : sS} (hH : HI S) (hW : WI S) (d : Nat) : Mt lay0 (d + 4) m_re_tellLoose [.ref 891] S (Q_re_tellLoose S) := by sorry
/-! SAFETY of methods: printed by wip/safe (vc.py, decl.py) -/
def md_re_tellObjects : List rec := [(1, 2, 3, 4), (2, 3, 0, 100000), (3, 4, 0, 100000), (4, 5, 0, 100000), (5, 6, 0, 100000), (21, 22, 0, 100000), (22, 23, 0, 100000), (23, 24, 0, 100000), (25, 65, 0, 100000), (66, 106, 0, 100000), (107, 147, 0, 100000), (148, 188, 0, 100000), (876, 877, 8, 9), (876, 877, 9, 10), (891, 892, 9, 10), (891, 892, 10, 11), (891, 892, 11, 12), (891, 892, 12, 13), (892, 893, 0, 100000), (893, 894, 0, 100000), (895, 896, 8, 9), (895, 896, 9, 10), (895, 896, 12, 13), (895, 896, 13, 14), (895, 896, 14, 15), (896, 897, 0, 100000), (897, 898, 0, 100000), (898, 899, 0, 100000)]
abbrev Q_re_tellObjects (S : sS) : pst := fun r S1 => HI S1 ∧ FR md_re_tellObjects S S1 ∧ (∃ z : Int, r = some (iv z) ∧ (0 ≤ z ∧ z ≤ 1) ∧ (z = 1 → WI S1) ∧ (z = 0 → Xi S1 876 8 ≠ 0))
set_option maxRecDepth 100000 in
theorem t_re_tellObjects {S : sS} (hH : HI S) (hW : WI S) (hn0 : Xi S 891 9 = 0) (hw0 : Xi S 891 11 = 0) (d : Nat) : Mt lay0 (d + 6) m_re_tellObjects [.ref 891] S (Q_re_tellObjects S) := by sorry
def md_re_tellPlain : List rec := [(1, 2, 3, 4), (2, 3, 0, 100000), (3, 4, 0, 100000), (4, 5, 0, 100000), (5, 6, 0, 100000), (21, 22, 0, 100000), (22, 23, 0, 100000), (23, 24, 0, 100000), (25, 65, 0, 100000), (66, 106, 0, 100000), (107, 147, 0, 100000), (148, 188, 0, 100000), (876, 877, 8, 9), (876, 877, 9, 10), (891, 892, 9, 10), (891, 892, 10, 11), (892, 893, 0, 100000), (893, 894, 0, 100000), (895, 896, 8, 9), (895, 896, 9, 10), (895, 896, 12, 13), (895, 896, 13, 14), (895, 896, 14, 15), (896, 897, 0, 100000), (897, 898, 0, 100000), (898, 899, 0, 100000)]
abbrev Q_re_tellPlain (S : sS) : pst := fun r S1 => HI S1 ∧ FR md_re_tellPlain S S1 ∧ (∃ z : Int, r = some (iv z) ∧ (0 ≤ z ∧ z ≤ 1) ∧ (z = 1 → WI S1) ∧ (z = 0 → Xi S1 876 8 ≠ 0))
set_option maxRecDepth 100000 in
theorem c191_re_tellPlain {S : sS} (hH : HI S) (hW : WI S) (hn0 : Xi S 891 9 = 0) (hw0 : Xi S 891 11 = 0) (d : Nat) : ∀  (T1 : sS) (_ : HI T1) (_ : FR md_re_tellPlain S T1) (v1 : Int) (v2 : Int) (v3 : Int) (v5 : Int), (0 ≤ v1 ∧ v1 ≤ 1) → (0 ≤ v2 ∧ v2 ≤ 5126) → (0 ≤ v3 ∧ v3 ≤ 5126) → (0 ≤ v5 ∧ v5 ≤ 1) → (WI T1) → (Xi T1 891 11 = 0) → (Xi T1 891 9 = 0) → Rl lay0 (d + 5) m_re_tellPlain 191 [(0, .ref 891), (1, iv v1), (2, iv v2), (3, iv v3), (5, iv v5)] [] T1 (Q_re_tellPlain S) := by sorry
set_option maxRecDepth 100000 in
theorem t_re_tellPlain {S : sS} (hH : HI S) (hW : WI S) (hn0 : Xi S 891 9 = 0) (hw0 : Xi S 891 11 = 0) (d : Nat) : Mt lay0 (d + 6) m_re_tellPlain [.ref 891] S (Q_re_tellPlain S) := by sorry
end
section
/-! SAFETY: told sentences: ways, properties, contraries, actions, kinds -/
theorem tw_c {S T : sS} {r z : Int} {l : List rec} (h : FR l S T) (e : (kdis l kA && !(mdf l 1 3)) = true) (e2 : (kdis l [(877, 878)] && !(mdf l 876 7)) = true) (e5 : kdis l [(5, 6)] = true) (hn : z = 1 → mnV S r (ruF S r (Xi S 876 7)) = -1 → Xi T 891 9 = Xi S 891 9 + 1 ∧ Xi T 892 (Xi S 891 9).toNat = r ∧ Xi S 5 2 + Xi T 891 9 ≤ 24) (ho : z = 1 → mnV S r (ruF S r (Xi S 876 7)) ≠ -1 → mnV S r (ruF S r (Xi S 876 7)) / 256 = 2 ∧ Xi T 891 9 = Xi S 891 9) (h0 : 0 ≤ Xi S 891 9) (hz : z = 1) (hf : fob T r = -1) : Xi T 5 2 < 24 := by sorry
theorem WI_on {S T : sS} {r : Int} (hH : HI S) (h : FR md_re_objectOrNew S T) (hL : LEX T) (hc : fob S r = -1 → Xi T 5 2 = Xi S 5 2 + 1) (hn : fob S r ≠ -1 → Xi T 5 2 = Xi S 5 2) (ho : ∀ j, j ≠ 2 → Xi T 5 j = Xi S 5 j) (hW : WI S) : WI T := by sorry
theorem WI_can {l : List rec} {S T : sS} {n : Int} (hH : HI S) (h : FR l S T) (e3 : (kdis l kX && !(mdf l 20 1)) = true) (e4 : (kdis l kG && (!(mdf l 20 1) && (!(mdf l 246 8) && !(mdf l 246 5)))) = true) (e5 : kdis l [(12, 14)] = true) (e6 : (kdis l [(248, 272)] && !(mdf l 246 2)) = true) (e7 : (kdis l [(883, 884), (885, 887), (19, 20)] && !(mdf l 882 3)) = true) (e8 : kdis l [(8, 9)] = true) (hL : LEX T) (ho : ∀ j, j ≠ 3 → Xi T 5 j = Xi S 5 j) (h3 : Xi T 5 3 = Xi S 5 3 + 2) (hn : n = Xi S 5 3) (h11 : ∀ a : Nat, a ≠ n.toNat → a ≠ (n + 1).toNat → Xi T 11 a = Xi S 11 a) (hn1 : Xi T 11 n.toNat ≠ -1) (hn2 : Xi T 11 (n + 1).toNat ≠ -1) (hW : WI S) : WI T := by sorry
/-! SAFETY of methods: printed by wip/safe (vc.py, decl.py) -/
def md_vo_makeContrary__2 : List rec := [(10, 11, 0, 100000), (11, 12, 0, 100000)]
abbrev Q_vo_makeContrary__2 (S : sS) (first : Int) (kind : Int) : pst := fun r S1 => HI S1 ∧ FR md_vo_makeContrary__2 S S1 ∧ (r = none ∧ (Xi S1 11 first.toNat = first + 1 ∧ Xi S1 11 (first + 1).toNat = first) ∧ (∀ a : Nat, a ≠ first.toNat → a ≠ (first + 1).toNat → Xi S1 11 a = Xi S 11 a))
set_option maxRecDepth 100000 in
theorem t_vo_makeContrary__2 {S : sS} (hH : HI S) (first : Int) (kind : Int) (hfirst : 0 ≤ first ∧ first ≤ 22) (hkind : 0 ≤ kind ∧ kind ≤ 15) (d : Nat) : Mt lay0 (d + 1) m_vo_makeContrary [.ref 1, iv first, iv kind] S (Q_vo_makeContrary__2 S first kind) := by sorry
def md_re_takeObjectOrNew__2 : List rec := [(876, 877, 8, 9), (876, 877, 9, 10), (891, 892, 9, 10), (892, 893, 0, 100000), (893, 894, 0, 100000)]
abbrev Q_re_takeObjectOrNew__2 (S : sS) (from_ : Int) (kind : Int) : pst := fun r S1 => HI S1 ∧ FR md_re_takeObjectOrNew__2 S S1 ∧ (∃ z : Int, r = some (iv z) ∧ (0 ≤ z ∧ z ≤ 1) ∧ (Xi S 891 9 ≤ Xi S1 891 9) ∧ (z = 0 → Xi S1 876 8 ≠ 0) ∧ (z = 1 → mnV S from_ (ruF S from_ (Xi S 876 7)) = -1 → Xi S1 891 9 = Xi S 891 9 + 1 ∧ Xi S1 892 (Xi S 891 9).toNat = from_ ∧ Xi S 5 2 + Xi S1 891 9 ≤ 24) ∧ (z = 1 → mnV S from_ (ruF S from_ (Xi S 876 7)) ≠ -1 → mnV S from_ (ruF S from_ (Xi S 876 7)) / 256 = 2 ∧ Xi S1 891 9 = Xi S 891 9) ∧ (∀ j : Nat, (j : Int) < Xi S 891 9 → Xi S1 892 j = Xi S 892 j))
set_option maxRecDepth 100000 in
theorem t_re_takeObjectOrNew__2 {S : sS} (hH : HI S) (from_ : Int) (kind : Int) (hfrom_ : 0 ≤ from_ ∧ from_ ≤ 5129) (hkind : -1 ≤ kind ∧ kind ≤ 15) (hL : LEX S) (d : Nat) : Mt lay0 (d + 3) m_re_takeObjectOrNew [.ref 891, iv from_, iv kind] S (Q_re_takeObjectOrNew__2 S from_ kind) := by sorry
def md_re_tellWay : List rec := [(1, 2, 3, 4), (2, 3, 0, 100000), (3, 4, 0, 100000), (4, 5, 0, 100000), (5, 6, 0, 100000), (20, 21, 12, 13), (21, 22, 0, 100000), (22, 23, 0, 100000), (23, 24, 0, 100000), (196, 220, 0, 100000), (221, 245, 0, 100000), (876, 877, 8, 9), (876, 877, 9, 10), (891, 892, 9, 10), (891, 892, 10, 11), (892, 893, 0, 100000), (893, 894, 0, 100000)]
abbrev Q_re_tellWay (S : sS) : pst := fun r S1 => HI S1 ∧ FR md_re_tellWay S S1 ∧ (∃ z : Int, r = some (iv z) ∧ (0 ≤ z ∧ z ≤ 1) ∧ (z = 1 → WI S1) ∧ (z = 0 → Xi S1 876 8 ≠ 0))
set_option maxRecDepth 100000 in
theorem t_re_tellWay {S : sS} (hH : HI S) (hW : WI S) (hn0 : Xi S 891 9 = 0) (d : Nat) : Mt lay0 (d + 5) m_re_tellWay [.ref 891] S (Q_re_tellWay S) := by sorry
def md_re_tellHas : List rec := [(1, 2, 3, 4), (2, 3, 0, 100000), (3, 4, 0, 100000), (4, 5, 0, 100000), (5, 6, 0, 100000), (7, 8, 0, 100000), (9, 10, 0, 100000), (876, 877, 8, 9), (876, 877, 9, 10), (891, 892, 9, 10), (892, 893, 0, 100000), (893, 894, 0, 100000)]
abbrev Q_re_tellHas (S : sS) : pst := fun r S1 => HI S1 ∧ FR md_re_tellHas S S1 ∧ (∃ z : Int, r = some (iv z) ∧ (0 ≤ z ∧ z ≤ 1) ∧ (z = 1 → WI S1) ∧ (z = 0 → Xi S1 876 8 ≠ 0))
set_option maxRecDepth 100000 in
theorem t_re_tellHas {S : sS} (hH : HI S) (hW : WI S) (hn0 : Xi S 891 9 = 0) (d : Nat) : Mt lay0 (d + 4) m_re_tellHas [.ref 891] S (Q_re_tellHas S) := by sorry
def md_re_tellCan : List rec := [(1, 2, 3, 4), (2, 3, 0, 100000), (3, 4, 0, 100000), (4, 5, 0, 100000), (5, 6, 0, 100000), (10, 11, 0, 100000), (11, 12, 0, 100000), (876, 877, 8, 9), (876, 877, 9, 10), (891, 892, 9, 10), (892, 893, 0, 100000), (893, 894, 0, 100000)]
abbrev Q_re_tellCan (S : sS) : pst := fun r S1 => HI S1 ∧ FR md_re_tellCan S S1 ∧ (∃ z : Int, r = some (iv z) ∧ (0 ≤ z ∧ z ≤ 1) ∧ (z = 1 → WI S1) ∧ (z = 0 → Xi S1 876 8 ≠ 0))
set_option maxRecDepth 100000 in
theorem t_re_tellCan {S : sS} (hH : HI S) (hW : WI S) (hn0 : Xi S 891 9 = 0) (d : Nat) : Mt lay0 (d + 4) m_re_tellCan [.ref 891] S (Q_re_tellCan S) := by sorry
/-! SAFETY: told sentences: actions -/
theorem WI_ac {S T U : sS} {z : Int} {v : Int32} (hH : HI S) (h : FR md_vo_tellNew S T) (hL : LEX T) (hc : Xi T 5 8 = Xi S 5 8 + 1) (ho : ∀ j, j ≠ 8 → Xi T 5 j = Xi S 5 j) (e : U = uI T 19 z.toNat v) (hz : z = Xi S 5 8) (hW : WI S) : WI U := by sorry
/-! SAFETY of methods: printed by wip/safe (vc.py, decl.py) -/
def md_re_tellActions : List rec := [(1, 2, 3, 4), (2, 3, 0, 100000), (3, 4, 0, 100000), (4, 5, 0, 100000), (5, 6, 0, 100000), (19, 20, 0, 100000), (876, 877, 8, 9), (876, 877, 9, 10), (891, 892, 9, 10), (892, 893, 0, 100000), (893, 894, 0, 100000)]
abbrev Q_re_tellActions (S : sS) : pst := fun r S1 => HI S1 ∧ FR md_re_tellActions S S1 ∧ (∃ z : Int, r = some (iv z) ∧ (0 ≤ z ∧ z ≤ 1) ∧ (z = 1 → WI S1) ∧ (z = 0 → Xi S1 876 8 ≠ 0))
set_option maxRecDepth 100000 in
theorem t_re_tellActions {S : sS} (hH : HI S) (hW : WI S) (hn0 : Xi S 891 9 = 0) (d : Nat) : Mt lay0 (d + 4) m_re_tellActions [.ref 891] S (Q_re_tellActions S) := by sorry
/-! SAFETY: told sentences: kinds, values -/
/-- the names told new have one to three words -/
def NW (S : sS) : Prop := ∀ i : Nat, (i : Int) < Xi S 891 9 → 1 ≤ Xi S 893 i - Xi S 892 i ∧ Xi S 893 i - Xi S 892 i ≤ 3
theorem NW_FR {l : List rec} {S T : sS} (h : FR l S T) (e : (kdis l [(892, 894)] && !(mdf l 891 9)) = true) (hn : NW S) : NW T := by sorry
theorem nw_0 {S : sS} (h : Xi S 891 9 = 0) : NW S := by sorry
theorem nw_s {S T : sS} {a b : Int} (hn : NW S) (h1 : Xi T 891 9 = Xi S 891 9 + 1) (h2 : Xi T 892 (Xi S 891 9).toNat = a) (h3 : Xi T 893 (Xi S 891 9).toNat = b) (h4 : 1 ≤ b - a) (h5 : b - a ≤ 3) (h0 : 0 ≤ Xi S 891 9) (hk : ∀ j : Nat, (j : Int) < Xi S 891 9 → Xi T 892 j = Xi S 892 j ∧ Xi T 893 j = Xi S 893 j) : NW T := by sorry
theorem cap01 {S : sS} {v : Int} (hv : v = 0 ∨ v = 1) (h : Xi S 5 v.toNat + 1 ≤ 16 - 8 * v) : Xi S 5 v.toNat + 1 ≤ (lh 5 v.toNat).2 := by sorry
theorem c01 {S : sS} {v : Int} : (v = 0 → Xi S 5 v.toNat = Xi S 5 0) ∧ (v = 1 → Xi S 5 v.toNat = Xi S 5 1) := by sorry
/-! the values of all TYPES -/
theorem valn_add {S : sS} {t : Int} : ∀ (n : Nat) (i c : Int), valn S t n i c = c + valn S t n i 0 := by sorry
theorem val_sum {S : sS} (h : ∀ j, 0 ≤ Xi S 8 j ∧ Xi S 8 j ≤ 7) : ∀ (n : Nat) (i : Int), valn S 0 n i 0 + valn S 1 n i 0 + valn S 2 n i 0 + valn S 3 n i 0 + valn S 4 n i 0 + valn S 5 n i 0 + valn S 6 n i 0 + valn S 7 n i 0 = n := by sorry
theorem val_64 {S : sS} {t n : Int} (hH : HI S) (hv : VAL S) (h0 : 0 ≤ t) (h7 : t ≤ 7) (hn : vals S t + n ≤ 8) : Xi S 5 4 + n ≤ 64 := by sorry
theorem valn_app {S : sS} {t : Int} : ∀ (n : Nat) (i c : Int), valn S t (n + 1) i c = valn S t n i c + (if Xi S 8 (i + n).toNat = t then 1 else 0) := by sorry
/-- a value more -/
theorem vals_app {S T U : sS} {z ty t : Int} (h0 : 0 ≤ Xi S 5 4) (h8 : ∀ j, Xi T 8 j = Xi S 8 j) (hc : Xi T 5 4 = Xi S 5 4 + 1) (e : U = uI T 8 z.toNat (Int32.ofInt ty)) (hz : z = Xi S 5 4) (hr : rg ty) : vals U t = vals S t + (if ty = t then 1 else 0) := by sorry
/-! SAFETY of methods: printed by wip/safe (vc.py, decl.py) -/
def md_re_tellKinds : List rec := [(1, 2, 3, 4), (2, 3, 0, 100000), (3, 4, 0, 100000), (4, 5, 0, 100000), (5, 6, 0, 100000), (6, 7, 0, 100000), (7, 8, 0, 100000), (876, 877, 8, 9), (876, 877, 9, 10), (891, 892, 9, 10), (892, 893, 0, 100000), (893, 894, 0, 100000), (894, 895, 0, 100000)]
abbrev Q_re_tellKinds (S : sS) : pst := fun r S1 => HI S1 ∧ FR md_re_tellKinds S S1 ∧ (∃ z : Int, r = some (iv z) ∧ (0 ≤ z ∧ z ≤ 1) ∧ (z = 1 → WI S1) ∧ (z = 0 → Xi S1 876 8 ≠ 0))
set_option maxRecDepth 100000 in
theorem t_re_tellKinds {S : sS} (hH : HI S) (hW : WI S) (hn0 : Xi S 891 9 = 0) (d : Nat) : Mt lay0 (d + 4) m_re_tellKinds [.ref 891] S (Q_re_tellKinds S) := by sorry
/-! SAFETY: told sentences: values -/
theorem WI_va {S T U : sS} {z ty : Int} (hH : HI S) (h : FR md_vo_tellNew S T) (hL : LEX T) (hc : Xi T 5 4 = Xi S 5 4 + 1) (ho : ∀ j, j ≠ 4 → Xi T 5 j = Xi S 5 j) (e : U = uI T 8 z.toNat (Int32.ofInt ty)) (hva : ∀ t, vals U t = vals S t + (if ty = t then 1 else 0)) (hb : vals S ty + 1 ≤ 8) (hW : WI S) : WI U := by sorry
/-! SAFETY of methods: printed by wip/safe (vc.py, decl.py) -/
def md_re_tellValues : List rec := [(1, 2, 3, 4), (2, 3, 0, 100000), (3, 4, 0, 100000), (4, 5, 0, 100000), (5, 6, 0, 100000), (8, 9, 0, 100000), (876, 877, 8, 9), (876, 877, 9, 10), (891, 892, 9, 10), (892, 893, 0, 100000), (893, 894, 0, 100000)]
abbrev Q_re_tellValues (S : sS) : pst := fun r S1 => HI S1 ∧ FR md_re_tellValues S S1 ∧ (∃ z : Int, r = some (iv z) ∧ (0 ≤ z ∧ z ≤ 1) ∧ (z = 1 → WI S1) ∧ (z = 0 → Xi S1 876 8 ≠ 0))
set_option maxRecDepth 100000 in
theorem t_re_tellValues {S : sS} (hH : HI S) (hW : WI S) (hn0 : Xi S 891 9 = 0) (d : Nat) : Mt lay0 (d + 4) m_re_tellValues [.ref 891] S (Q_re_tellValues S) := by sorry
/-! SAFETY of methods: printed by wip/safe (vc.py, decl.py) -/
def md_re_tellSentence : List rec := [(1, 2, 3, 4), (2, 3, 0, 100000), (3, 4, 0, 100000), (4, 5, 0, 100000), (5, 6, 0, 100000), (6, 7, 0, 100000), (7, 8, 0, 100000), (8, 9, 0, 100000), (9, 10, 0, 100000), (10, 11, 0, 100000), (11, 12, 0, 100000), (14, 15, 0, 100000), (15, 16, 0, 100000), (16, 17, 0, 100000), (17, 18, 0, 100000), (19, 20, 0, 100000), (20, 21, 12, 13), (21, 22, 0, 100000), (22, 23, 0, 100000), (23, 24, 0, 100000), (25, 65, 0, 100000), (66, 106, 0, 100000), (107, 147, 0, 100000), (148, 188, 0, 100000), (189, 195, 0, 100000), (196, 220, 0, 100000), (221, 245, 0, 100000), (876, 877, 8, 9), (876, 877, 9, 10), (891, 892, 9, 10), (891, 892, 10, 11), (891, 892, 11, 12), (891, 892, 12, 13), (892, 893, 0, 100000), (893, 894, 0, 100000), (894, 895, 0, 100000), (895, 896, 8, 9), (895, 896, 9, 10), (895, 896, 10, 11), (895, 896, 11, 12), (895, 896, 12, 13), (895, 896, 13, 14), (895, 896, 14, 15), (896, 897, 0, 100000), (897, 898, 0, 100000), (898, 899, 0, 100000)]
abbrev Q_re_tellSentence (S : sS) : pst := fun r S1 => HI S1 ∧ FR md_re_tellSentence S S1 ∧ (∃ z : Int, r = some (iv z) ∧ (0 ≤ z ∧ z ≤ 1) ∧ (z = 1 → WI S1) ∧ (z = 0 → Xi S1 876 8 ≠ 0))
set_option maxRecDepth 100000 in
theorem t_re_tellSentence {S : sS} (hH : HI S) (hW : WI S) (hT : TOK S) (hS : SRX S) (d : Nat) : Mt lay0 (d + 7) m_re_tellSentence [.ref 891] S (Q_re_tellSentence S) := by sorry
/-! SAFETY: commands understood -/
def KCM (S T : sS) : Prop := ∀ i : Nat, (i : Int) < Xi S 882 3 → Xi T 885 i = Xi S 885 i ∧ Xi T 886 i = Xi S 886 i
theorem KCM.rf {S : sS} : KCM S S := by sorry
theorem kcm_w5 {S T U : sS} {a : Int} {v : Int32} (e : U = uI T 885 a.toNat v) (h : KCM S T) (h0 : 0 ≤ Xi S 882 3) (ha : Xi S 882 3 ≤ a) : KCM S U := by sorry
theorem kcm_w6 {S T U : sS} {a : Int} {v : Int32} (e : U = uI T 886 a.toNat v) (h : KCM S T) (h0 : 0 ≤ Xi S 882 3) (ha : Xi S 882 3 ≤ a) : KCM S U := by sorry
theorem kcm_f {l : List rec} {S T U : sS} (h : FR l T U) (e : kdis l [(885, 887)] = true) (hk : KCM S T) : KCM S U := by sorry
theorem WI_c {l : List rec} {S T : sS} (hH : HI S) (h : FR l S T) (e1 : mdf l 1 3 = false) (e2 : dL l = true) (e3 : (kdis l kX && !(mdf l 20 1)) = true) (e4 : (kdis l kG && (!(mdf l 20 1) && (!(mdf l 246 8) && !(mdf l 246 5)))) = true) (e5 : kdis l [(5, 6), (11, 14)] = true) (e6 : (kdis l [(5, 6), (248, 272)] && !(mdf l 246 2)) = true) (e8 : kdis l [(8, 9)] = true) (e9 : kdis l [(19, 20), (5, 6)] = true) (hC : CMD T) (hW : WI S) : WI T := by sorry
theorem CMD_add {S P U : sS} {a : Int} (hH : HI S) (hC : CMD S) (hk : KCM S P) (x3 : Xi P 882 3 = Xi S 882 3) (x883 : ∀ i, Xi P 883 i = Xi S 883 i) (f5 : ∀ j, Xi U 5 j = Xi S 5 j) (f19 : ∀ j, Xi U 19 j = Xi S 19 j) (f85 : ∀ j, Xi U 885 j = Xi P 885 j) (f86 : ∀ j, Xi U 886 j = Xi P 886 j) (u3 : Xi U 882 3 = Xi P 882 3 + 1) (ua : Xi U 883 (Xi P 882 3).toNat = a) (uo : ∀ i : Nat, (i : Int) < Xi P 882 3 → Xi U 883 i = Xi P 883 i) (ha : a < Xi S 5 8) (h1 : Xi P 885 (Xi P 882 3).toNat = -1 → Xi S 19 a.toNat = -1) (h2 : Xi S 19 a.toNat = -2 → Xi P 886 (Xi P 882 3).toNat = -2) : CMD U := by sorry
end
section
/-! SAFETY of methods: printed by wip/safe (vc.py, decl.py) -/
def md_co_takeText__2 : List rec := [(882, 883, 10, 11), (884, 885, 0, 100000), (885, 886, 0, 100000), (886, 887, 0, 100000), (887, 888, 0, 100000), (888, 889, 0, 100000)]
abbrev Q_co_takeText__2 (S : sS) (t : Nat) (from_ : Int) (to : Int) : pst := fun r S1 => HI S1 ∧ FR md_co_takeText__2 S S1 ∧ (∃ z : Int, r = some (iv z) ∧ (0 ≤ z ∧ z ≤ 1) ∧ (KCM S S1))
set_option maxRecDepth 100000 in
theorem t_co_takeText__2 {S : sS} (hH : HI S) (t : Nat) (from_ : Int) (to : Int) (ht : tp t) (hfrom_ : 0 ≤ from_ ∧ from_ ≤ 5000) (hto : 0 ≤ to ∧ to ≤ 5000) (hc : Xi S 882 3 < 20) (d : Nat) : Mt lay0 (d + 4) m_co_takeText [.ref 882, .ref t, iv from_, iv to] S (Q_co_takeText__2 S t from_ to) := by sorry
def md_co_addAs__2 : List rec := [(882, 883, 3, 4), (883, 884, 0, 100000)]
abbrev Q_co_addAs__2 (S : sS) (act : Int) : pst := fun r S1 => HI S1 ∧ FR md_co_addAs__2 S S1 ∧ (r = none ∧ (Xi S1 882 3 = Xi S 882 3 + 1) ∧ (Xi S1 883 (Xi S 882 3).toNat = act) ∧ (∀ i : Nat, (i : Int) < Xi S 882 3 → Xi S1 883 i = Xi S 883 i))
set_option maxRecDepth 100000 in
theorem t_co_addAs__2 {S : sS} (hH : HI S) (act : Int) (hact : 0 ≤ act ∧ act ≤ 11) (hc : Xi S 882 3 < 20) (d : Nat) : Mt lay0 (d + 1) m_co_addAs [.ref 882, iv act] S (Q_co_addAs__2 S act) := by sorry
def md_co_suits : List rec := [(886, 887, 0, 100000)]
abbrev Q_co_suits (S : sS) (act : Int) : pst := fun r S1 => HI S1 ∧ FR md_co_suits S S1 ∧ (∃ z : Int, r = some (iv z) ∧ (0 ≤ z ∧ z ≤ 1) ∧ (KCM S S1) ∧ (z = 1 → (Xi S1 885 (Xi S 882 3).toNat = -1 → Xi S 19 act.toNat = -1) ∧ (Xi S 19 act.toNat = -2 → Xi S1 886 (Xi S 882 3).toNat = -2)))
set_option maxRecDepth 100000 in
theorem t_co_suits {S : sS} (hH : HI S) (act : Int) (hact : 0 ≤ act ∧ act ≤ 11) (hL : LEX S) (hc : Xi S 882 3 < 20) (d : Nat) : Mt lay0 (d + 5) m_co_suits [.ref 882, iv act] S (Q_co_suits S act) := by sorry
/-! SAFETY: commands understood, more -/
theorem kcm_tr {S T U : sS} (h1 : KCM S T) (h2 : KCM T U) (e : Xi T 882 3 = Xi S 882 3) : KCM S U := by sorry
/-! SAFETY of methods: printed by wip/safe (vc.py, decl.py) -/
def md_re_understand : List rec := [(876, 877, 8, 9), (876, 877, 9, 10), (882, 883, 3, 4), (882, 883, 10, 11), (883, 884, 0, 100000), (884, 885, 0, 100000), (885, 886, 0, 100000), (886, 887, 0, 100000), (887, 888, 0, 100000), (888, 889, 0, 100000)]
abbrev Q_re_understand (S : sS) : pst := fun r S1 => HI S1 ∧ FR md_re_understand S S1 ∧ (∃ z : Int, r = some (iv z) ∧ (0 ≤ z ∧ z ≤ 1) ∧ (z = 1 → WI S1) ∧ (z = 0 → Xi S1 876 8 ≠ 0))
set_option maxRecDepth 100000 in
theorem t_re_understand {S : sS} (hH : HI S) (hW : WI S) (hT : TOK S) (hsr : SRC S) (h1 : Xi S 877 (1 : Int).toNat = 102 ∧ 1 < Xi S 876 7) (d : Nat) : Mt lay0 (d + 6) m_re_understand [.ref 891] S (Q_re_understand S) := by sorry
/-! SAFETY of methods: printed by wip/safe (vc.py, decl.py) -/
def md_vo_startKind : List rec := [(1, 2, 3, 4), (2, 3, 0, 100000), (3, 4, 0, 100000), (4, 5, 0, 100000), (5, 6, 0, 100000), (6, 7, 0, 100000), (7, 8, 0, 100000)]
abbrev Q_vo_startKind (S : sS) (i : Nat) (xi : String × Nat × String × List Int32) (k : Nat) (xk : String × Nat × String × List Int32) (above : Int) : pst := fun r S1 => HI S1 ∧ FR md_vo_startKind S S1 ∧ (r = none ∧ (LEX S1) ∧ (Xi S1 5 0 = Xi S 5 0 + 1) ∧ (∀ j, j ≠ 0 → Xi S1 5 j = Xi S 5 j))
set_option maxRecDepth 100000 in
theorem t_vo_startKind {S : sS} (hH : HI S) (i : Nat) (xi : String × Nat × String × List Int32) (k : Nat) (xk : String × Nat × String × List Int32) (above : Int) (hi : strT[i]? = some xi) (hk : strT[k]? = some xk) (habove : -1 ≤ above ∧ above ≤ 15) (hL : LEX S) (hc : Xi S 5 0 < 16) (d : Nat) : Mt lay0 (d + 6) m_vo_startKind [.ref 1, .ref (SB + i), .ref (SB + k), iv above] S (Q_vo_startKind S i xi k xk above) := by sorry
def md_vo_startKinds : List rec := [(1, 2, 3, 4), (2, 3, 0, 100000), (3, 4, 0, 100000), (4, 5, 0, 100000), (5, 6, 0, 100000), (6, 7, 0, 100000), (7, 8, 0, 100000)]
abbrev Q_vo_startKinds (S : sS) : pst := fun r S1 => HI S1 ∧ FR md_vo_startKinds S S1 ∧ (r = none ∧ (LEX S1) ∧ (Xi S1 5 0 = 5) ∧ (∀ j, j ≠ 0 → Xi S1 5 j = Xi S 5 j))
set_option maxRecDepth 100000 in
theorem t_vo_startKinds {S : sS} (hH : HI S) (hL : LEX S) (hc : Xi S 5 0 = 0) (d : Nat) : Mt lay0 (d + 7) m_vo_startKinds [.ref 1] S (Q_vo_startKinds S) := by sorry
/-! SAFETY of methods: printed by wip/safe (vc.py, decl.py) -/
/-! SAFETY: as at first: nothing is known -/
def KN0 (S : sS) (n m : Int) : Prop := ∀ r p : Nat, r < 40 → p < 12 → ((r : Int) < n ∨ ((r : Int) = n ∧ (p : Int) < m)) → Xi S (66 + r) p = 0
theorem kn_0 {S : sS} : KN0 S 0 0 := by sorry
theorem kn_w {S U : sS} {k j : Nat} {v : Int32} {n m : Int} (e : U = uI S k j v) (hk : k < 66 ∨ 106 ≤ k) (h : KN0 S n m) : KN0 U n m := by sorry
theorem kn_s {S U : sS} {n m : Int} (e : U = uI S (66 + n.toNat) m.toNat (Int32.ofInt 0)) (hn : 0 ≤ n) (hm : 0 ≤ m) (h : KN0 S n m) : KN0 U n (m + 1) := by sorry
theorem kn_n {S : sS} {n m : Int} (hm : 12 ≤ m) (h : KN0 S n m) : KN0 S (n + 1) 0 := by sorry
theorem kn_e {S : sS} {n m : Int} (hn : 40 ≤ n) (h : KN0 S n m) : KN0 S 40 0 := by sorry
theorem kn_f {l : List rec} {S T : sS} {n m : Int} (f : FR l S T) (e : kdis l [(66, 106)] = true) (h : KN0 S n m) : KN0 T n m := by sorry
theorem TX_kn {S : sS} (h : KN0 S 40 0) : TX S := by sorry
def md_wo_startAgain : List rec := [(1, 2, 3, 4), (2, 3, 0, 100000), (3, 4, 0, 100000), (4, 5, 0, 100000), (5, 6, 0, 100000), (20, 21, 12, 13), (21, 22, 0, 100000), (22, 23, 0, 100000), (23, 24, 0, 100000), (25, 65, 0, 100000), (66, 106, 0, 100000), (189, 195, 0, 100000), (196, 220, 0, 100000)]
abbrev Q_wo_startAgain (S : sS) : pst := fun r S1 => HI S1 ∧ FR md_wo_startAgain S S1 ∧ (r = none ∧ (LEX S1) ∧ (Xi S1 5 2 = 1) ∧ (∀ j, j ≠ 2 → Xi S1 5 j = Xi S 5 j) ∧ (KN0 S1 40 0))
set_option maxRecDepth 100000 in
theorem t_wo_startAgain {S : sS} (hH : HI S) (hL : LEX S) (hc : Xi S 5 2 = 0) (d : Nat) : Mt lay0 (d + 6) m_wo_startAgain [.ref 20] S (Q_wo_startAgain S) := by sorry
/-! SAFETY of methods: printed by wip/safe (vc.py, decl.py) -/
/-! SAFETY: as at first: counts -/
theorem cz_s {S U : sS} {v : Int} (e : U = uI S 5 v.toNat (Int32.ofInt 0)) (hv : 0 ≤ v) (h : ∀ j : Nat, (j : Int) < v → Xi S 5 j = 0) : ∀ j : Nat, (j : Int) < v + 1 → Xi U 5 j = 0 := by sorry
theorem LEX_none {S : sS} (h : Xi S 1 3 = 0) : LEX S := by sorry
theorem lh5u {j : Nat} : 0 ≤ (lh 5 j).2 := by sorry
def md_vo_startAgain : List rec := [(1, 2, 3, 4), (2, 3, 0, 100000), (3, 4, 0, 100000), (4, 5, 0, 100000), (5, 6, 0, 100000), (6, 7, 0, 100000), (7, 8, 0, 100000), (9, 10, 0, 100000), (10, 11, 0, 100000), (11, 12, 0, 100000), (19, 20, 0, 100000)]
abbrev Q_vo_startAgain (S : sS) : pst := fun r S1 => HI S1 ∧ FR md_vo_startAgain S S1 ∧ (r = none ∧ (LEX S1) ∧ (Xi S1 5 0 = 5 ∧ Xi S1 5 1 = 2 ∧ Xi S1 5 2 = 0 ∧ Xi S1 5 3 = 2 ∧ Xi S1 5 4 = 0 ∧ Xi S1 5 5 = 1 ∧ Xi S1 5 6 = 0 ∧ Xi S1 5 7 = 0 ∧ Xi S1 5 8 = 5) ∧ (Xi S1 19 0 = -1 ∧ Xi S1 19 1 = 0 ∧ Xi S1 19 2 = 0 ∧ Xi S1 19 3 = 0 ∧ Xi S1 19 4 = -2) ∧ (Xi S1 11 0 = 1 ∧ Xi S1 11 1 = 0))
set_option maxRecDepth 100000 in
theorem c7_vo_startAgain {S : sS} (hH : HI S) (d : Nat) : ∀ (n7 : Nat) (T1 : sS) (_ : HI T1) (_ : FR md_vo_startAgain S T1) (v1 : Int), (0 ≤ v1 ∧ v1 ≤ 9) → (0 ≤ v1 ∧ v1 ≤ 9) → (Xi T1 1 3 = 0) → (∀ j : Nat, (j : Int) < v1 → Xi T1 5 j = 0) → n7 = (10 - v1).toNat → Rl lay0 (d + 7) m_vo_startAgain 7 [(0, .ref 1), (1, iv v1)] [] T1 (Q_vo_startAgain S) := by sorry
set_option maxRecDepth 100000 in
theorem t_vo_startAgain {S : sS} (hH : HI S) (d : Nat) : Mt lay0 (d + 8) m_vo_startAgain [.ref 1] S (Q_vo_startAgain S) := by sorry
end
section
/-! SAFETY of methods: printed by wip/safe (vc.py, decl.py) -/
def md_co_addFirst__2 : List rec := [(882, 883, 3, 4), (883, 884, 0, 100000), (884, 885, 0, 100000), (885, 886, 0, 100000), (886, 887, 0, 100000), (887, 888, 0, 100000)]
abbrev Q_co_addFirst__2 (S : sS) (i : Nat) (xi : String × Nat × String × List Int32) (kind : Int) (act : Int) : pst := fun r S1 => HI S1 ∧ FR md_co_addFirst__2 S S1 ∧ (r = none ∧ (Xi S1 882 3 = Xi S 882 3 + 1) ∧ (CMD S1))
set_option maxRecDepth 100000 in
theorem t_co_addFirst__2 {S : sS} (hH : HI S) (i : Nat) (xi : String × Nat × String × List Int32) (kind : Int) (act : Int) (hi : strT[i]? = some xi) (hkind : -2 ≤ kind ∧ kind ≤ 15) (hact : 0 ≤ act ∧ act ≤ 11) (hc : Xi S 882 3 < 20) (hC : CMD S) (ha : act < Xi S 5 8 ∧ (kind = -1 → Xi S 19 act.toNat = -1) ∧ (Xi S 19 act.toNat = -2 → kind = -2)) (d : Nat) : Mt lay0 (d + 5) m_co_addFirst [.ref 882, .ref (SB + i), iv kind, iv act] S (Q_co_addFirst__2 S i xi kind act) := by sorry
def md_co_startAgain__2 : List rec := [(882, 883, 3, 4), (883, 884, 0, 100000), (884, 885, 0, 100000), (885, 886, 0, 100000), (886, 887, 0, 100000), (887, 888, 0, 100000)]
abbrev Q_co_startAgain__2 (S : sS) : pst := fun r S1 => HI S1 ∧ FR md_co_startAgain__2 S S1 ∧ (r = none ∧ (Xi S1 882 3 = 7) ∧ (CMD S1))
set_option maxRecDepth 100000 in
theorem t_co_startAgain__2 {S : sS} (hH : HI S) (c5 : 5 ≤ Xi S 5 8) (a5 : Xi S 19 0 = -1 ∧ Xi S 19 1 = 0 ∧ Xi S 19 2 = 0 ∧ Xi S 19 3 = 0 ∧ Xi S 19 4 = -2) (d : Nat) : Mt lay0 (d + 6) m_co_startAgain [.ref 882] S (Q_co_startAgain__2 S) := by sorry
/-! SAFETY of methods: printed by wip/safe (vc.py, decl.py) -/
/-! SAFETY: as at first: all holds -/
theorem WI_first {S : sS} (hL : LEX S) (hk : KN0 S 40 0) (hC : CMD S) (h8 : Xi S 5 8 = 5) (ha : Xi S 19 0 = -1 ∧ Xi S 19 1 = 0 ∧ Xi S 19 2 = 0 ∧ Xi S 19 3 = 0 ∧ Xi S 19 4 = -2) (h3 : Xi S 5 3 = 2) (h4 : Xi S 5 4 = 0) (hc : Xi S 11 0 = 1 ∧ Xi S 11 1 = 0) (hr : Xi S 246 2 = 0) (hq : Xi S 246 5 = 0) : WI S := by sorry
def md_bo_startAgain__2 : List rec := [(246, 247, 2, 3), (246, 247, 5, 6), (246, 247, 8, 9)]
abbrev Q_bo_startAgain__2 (S : sS) : pst := fun r S1 => HI S1 ∧ FR md_bo_startAgain__2 S S1 ∧ (r = none ∧ (Xi S1 246 2 = 0 ∧ Xi S1 246 5 = 0))
set_option maxRecDepth 100000 in
theorem t_bo_startAgain__2 {S : sS} (hH : HI S) (d : Nat) : Mt lay0 (d + 1) m_bo_startAgain [.ref 246] S (Q_bo_startAgain__2 S) := by sorry
def md_rs_startAgain : List rec := [(1, 2, 3, 4), (2, 3, 0, 100000), (3, 4, 0, 100000), (4, 5, 0, 100000), (5, 6, 0, 100000), (6, 7, 0, 100000), (7, 8, 0, 100000), (9, 10, 0, 100000), (10, 11, 0, 100000), (11, 12, 0, 100000), (19, 20, 0, 100000), (20, 21, 12, 13), (21, 22, 0, 100000), (22, 23, 0, 100000), (23, 24, 0, 100000), (25, 65, 0, 100000), (66, 106, 0, 100000), (189, 195, 0, 100000), (196, 220, 0, 100000), (246, 247, 2, 3), (246, 247, 5, 6), (246, 247, 8, 9), (882, 883, 3, 4), (883, 884, 0, 100000), (884, 885, 0, 100000), (885, 886, 0, 100000), (886, 887, 0, 100000), (887, 888, 0, 100000), (891, 892, 10, 11)]
abbrev Q_rs_startAgain (S : sS) : pst := fun r S1 => HI S1 ∧ FR md_rs_startAgain S S1 ∧ (r = none ∧ (WI S1) ∧ (Xi S1 246 2 = 0))
set_option maxRecDepth 100000 in
theorem t_rs_startAgain {S : sS} (hH : HI S) (d : Nat) : Mt lay0 (d + 9) m_rs_startAgain [.ref 0] S (Q_rs_startAgain S) := by sorry
/-! SAFETY of methods: printed by wip/safe (vc.py, decl.py) -/
/-! SAFETY: rules: every other clause stays -/
def KCL (S T : sS) (c : Nat) : Prop := ∀ k j : Nat, k < 600 → k ≠ c → Xi T (276 + k) j = Xi S (276 + k) j
theorem KCL.rf {S : sS} {c : Nat} : KCL S S c := by sorry
theorem kcl_w {S T U : sS} {c j : Nat} {v : Int32} (e : U = uI T (276 + c) j v) (h : KCL S T c) : KCL S U c := by sorry
theorem kcl_o {S T U : sS} {c x j : Nat} {v : Int32} (e : U = uI T x j v) (hx : x < 276 ∨ 876 ≤ x) (h : KCL S T c) : KCL S U c := by sorry
theorem kcl_tr {S T U : sS} {c : Nat} (h : KCL S T c) (g : KCL T U c) : KCL S U c := by sorry
theorem kcl_f {l : List rec} {S T U : sS} {c : Nat} (f : FR l T U) (e : kdis l [(276, 876)] = true) (h : KCL S T c) : KCL S U c := by sorry
def md_cl_start__2 : List rec := [(276, 876, 0, 1), (276, 876, 1, 2), (276, 876, 2, 3), (276, 876, 3, 4), (276, 876, 4, 5), (276, 876, 5, 6), (276, 876, 6, 7)]
abbrev Q_cl_start__2 (S : sS) (c : Nat) (form : Int) : pst := fun r S1 => HI S1 ∧ FR md_cl_start__2 S S1 ∧ (r = none ∧ (KCL S S1 c) ∧ (Xi S1 (276 + c) 0 = form ∧ Xi S1 (276 + c) 1 = 0 ∧ Xi S1 (276 + c) 2 = -1 ∧ Xi S1 (276 + c) 3 = -1 ∧ Xi S1 (276 + c) 4 = 0 ∧ Xi S1 (276 + c) 5 = 0 ∧ Xi S1 (276 + c) 6 = -1))
set_option maxRecDepth 100000 in
theorem t_cl_start__2 {S : sS} (hH : HI S) (c : Nat) (form : Int) (hc : c < 600) (hform : 0 ≤ form ∧ form ≤ 11) (d : Nat) : Mt lay0 (d + 1) m_cl_start [.ref (276 + c), iv form] S (Q_cl_start__2 S c form) := by sorry
def md_bo_nextClause__2 : List rec := [(246, 247, 5, 6), (276, 876, 0, 1), (276, 876, 1, 2), (276, 876, 2, 3), (276, 876, 3, 4), (276, 876, 4, 5), (276, 876, 5, 6), (276, 876, 6, 7)]
abbrev Q_bo_nextClause__2 (S : sS) (form : Int) : pst := fun r S1 => HI S1 ∧ FR md_bo_nextClause__2 S S1 ∧ (∃ z : Nat, r = some (.ref (276 + z)) ∧ z < 600 ∧ (Xi S1 246 5 = Xi S 246 5 + 1) ∧ ((z : Int) = Xi S 246 5) ∧ (KCL S S1 z) ∧ (Xi S1 (276 + z) 0 = form ∧ Xi S1 (276 + z) 1 = 0 ∧ Xi S1 (276 + z) 2 = -1 ∧ Xi S1 (276 + z) 3 = -1 ∧ Xi S1 (276 + z) 4 = 0 ∧ Xi S1 (276 + z) 5 = 0 ∧ Xi S1 (276 + z) 6 = -1))
set_option maxRecDepth 100000 in
theorem t_bo_nextClause__2 {S : sS} (hH : HI S) (form : Int) (hform : 0 ≤ form ∧ form ≤ 11) (hcc : Xi S 246 5 < 600) (d : Nat) : Mt lay0 (d + 2) m_bo_nextClause [.ref 246, iv form] S (Q_bo_nextClause__2 S form) := by sorry
/-! SAFETY of methods: printed by wip/safe (vc.py, decl.py) -/
theorem cl_keep {l : List rec} {S T : sS} {c : Nat} (f : FR l S T) (e : kdis l [(276, 876)] = true) (hc : c < 600) : ∀ j, Xi T (276 + c) j = Xi S (276 + c) j := by sorry
def md_rr_placeTest : List rec := [(276, 876, 0, 1), (276, 876, 4, 5), (276, 876, 6, 7), (876, 877, 8, 9), (876, 877, 9, 10), (895, 896, 5, 6), (895, 896, 6, 7), (895, 896, 7, 8)]
abbrev Q_rr_placeTest (S : sS) (from_ : Int) (to : Int) (cl : Nat) : pst := fun r S1 => HI S1 ∧ FR md_rr_placeTest S S1 ∧ (∃ z : Int, r = some (iv z) ∧ (0 ≤ z ∧ z ≤ 1) ∧ (KCL S S1 cl) ∧ (Xi S1 (276 + cl) 0 = 5) ∧ (∀ j, j < 4 → j ≠ 0 → Xi S1 (276 + cl) j = Xi S (276 + cl) j) ∧ (z = 0 → Xi S1 876 8 ≠ 0))
set_option maxRecDepth 100000 in
theorem t_rr_placeTest {S : sS} (hH : HI S) (from_ : Int) (to : Int) (cl : Nat) (hfrom_ : 0 ≤ from_ ∧ from_ ≤ 5130) (hto : -1 ≤ to ∧ to ≤ 5130) (hcl : cl < 600) (hL : LEX S) (d : Nat) : Mt lay0 (d + 3) m_rr_placeTest [.ref 899, iv from_, iv to, .ref (276 + cl)] S (Q_rr_placeTest S from_ to cl) := by sorry
/-! SAFETY of methods: printed by wip/safe (vc.py, decl.py) -/
theorem who_of {b : Prop} {x : Int} (h1 : x ≠ -1) (h2 : -2 ≤ x) (h : x = -2 → b) : WHO b x := by sorry
def md_rr_propertyOfThing : List rec := [(276, 876, 2, 3), (276, 876, 3, 4), (876, 877, 8, 9), (876, 877, 9, 10), (895, 896, 5, 6), (895, 896, 6, 7), (895, 896, 7, 8)]
abbrev Q_rr_propertyOfThing (S : sS) (from_ : Int) (off : Int) (num : Int) (cl : Nat) : pst := fun r S1 => HI S1 ∧ FR md_rr_propertyOfThing S S1 ∧ (∃ z : Int, r = some (iv z) ∧ (0 ≤ z ∧ z ≤ 1) ∧ (KCL S S1 cl) ∧ (∀ j, j ≠ 2 → j ≠ 3 → Xi S1 (276 + cl) j = Xi S (276 + cl) j) ∧ (z = 1 → WHO (0 ≤ Xi S 895 4) (Xi S1 (276 + cl) 2) ∧ 0 ≤ Xi S1 (276 + cl) 3 ∧ Xi S1 (276 + cl) 3 ≤ 11) ∧ (z = 0 → Xi S1 876 8 ≠ 0))
set_option maxRecDepth 100000 in
theorem t_rr_propertyOfThing {S : sS} (hH : HI S) (from_ : Int) (off : Int) (num : Int) (cl : Nat) (hfrom_ : 0 ≤ from_ ∧ from_ ≤ 5130) (hoff : 0 ≤ off ∧ off ≤ 5130) (hnum : 0 ≤ num ∧ num ≤ 1) (hcl : cl < 600) (hL : LEX S) (d : Nat) : Mt lay0 (d + 3) m_rr_propertyOfThing [.ref 899, iv from_, iv off, iv num, .ref (276 + cl)] S (Q_rr_propertyOfThing S from_ off num cl) := by sorry
end
section
/-! SAFETY of methods: printed by wip/safe (vc.py, decl.py) -/
/-! SAFETY: tokens that stand stay; a dot comes last -/
def KTK (S T : sS) (n : Int) : Prop := ∀ r : Nat, (r : Int) < n → Xi T 877 r = Xi S 877 r
theorem KTK.rf {S : sS} {n : Int} : KTK S S n := by sorry
theorem ktk_tr {S T U : sS} {n m : Int} (h : KTK S T n) (g : KTK T U m) (e : n ≤ m) : KTK S U n := by sorry
theorem ktk_f {l : List rec} {S T U : sS} {n : Int} (f : FR l T U) (e : kdis l [(877, 878)] = true) (h : KTK S T n) : KTK S U n := by sorry
def ND (S : sS) (n : Int) : Prop := ∀ r : Nat, (r : Int) < n → Xi S 877 r ≠ 103
theorem nd_k {S T : sS} {n m k : Int} (h : ND S n) (g : KTK S T m) (h1 : k ≤ n) (h2 : k ≤ m) : ND T k := by sorry
theorem nd_s {S : sS} {n : Int} (h : ND S (n - 1)) (e : Xi S 877 (n - 1).toNat ≠ 103) : ND S n := by sorry
theorem nd_1 {S : sS} (e : Xi S 877 0 ≠ 103) : ND S 1 := by sorry
theorem nd_f {l : List rec} {S T : sS} {n m : Int} (f : FR l S T) (e : kdis l [(877, 878)] = true) (h : ND S n) (hm : m ≤ n) : ND T m := by sorry
theorem nd_0 {S : sS} {n : Int} (h : n ≤ 0) : ND S n := by sorry
def md_to_note__2 : List rec := [(876, 877, 7, 8), (877, 878, 0, 100000), (878, 879, 0, 100000), (879, 880, 0, 100000)]
abbrev Q_to_note__2 (S : sS) (ty : Int) (pl : Int) (v : Int) : pst := fun r S1 => HI S1 ∧ FR md_to_note__2 S S1 ∧ (r = none ∧ (TOK S1) ∧ (Xi S1 876 7 = Xi S 876 7 + 1) ∧ (KTK S S1 (Xi S 876 7)))
set_option maxRecDepth 100000 in
theorem t_to_note__2 {S : sS} (hH : HI S) (ty : Int) (pl : Int) (v : Int) (hty : 0 ≤ ty ∧ ty ≤ 108) (hpl : 0 ≤ pl ∧ pl ≤ 5000) (hT : TOK S) (hrow : Xi S 876 7 ≤ 5124) (hv : ty = 102 → 0 ≤ v ∧ v ≤ 120 ∧ pl + v + 2 ≤ Xi S 876 5) (d : Nat) : Mt lay0 (d + 1) m_to_note [.ref 876, iv ty, iv pl, jw v] S (Q_to_note__2 S ty pl v) := by sorry
def md_to_scanWord__2 : List rec := [(876, 877, 7, 8), (877, 878, 0, 100000), (878, 879, 0, 100000), (879, 880, 0, 100000)]
abbrev Q_to_scanWord__2 (S : sS) (ts : Nat) (from_ : Int) (limit : Int) : pst := fun r S1 => HI S1 ∧ FR md_to_scanWord__2 S S1 ∧ (∃ z : Int, r = some (iv z) ∧ (-1 ≤ z ∧ z ≤ 5000) ∧ (TOK S1) ∧ (z = -1 ∨ (from_ < z ∧ z ≤ limit)) ∧ (Xi S 876 7 ≤ Xi S1 876 7 ∧ Xi S1 876 7 ≤ Xi S 876 7 + 1) ∧ ((z ≠ -1 → 1 ≤ Xi S1 876 7) ∧ (z = -1 → Xi S1 876 7 = Xi S 876 7)) ∧ (KTK S S1 (Xi S 876 7)))
set_option maxRecDepth 100000 in
theorem t_to_scanWord__2 {S : sS} (hH : HI S) (ts : Nat) (from_ : Int) (limit : Int) (hfrom_ : 0 ≤ from_ ∧ from_ ≤ 5000) (hlimit : 0 ≤ limit ∧ limit ≤ 5000) (hts : S.2.2 876 4 = some ts) (htp : tp ts) (hT : TOK S) (hrow : Xi S 876 7 ≤ 5124) (d : Nat) : Mt lay0 (d + 2) m_to_scanWord [.ref 876, iv from_, iv limit] S (Q_to_scanWord__2 S ts from_ limit) := by sorry
def md_to_scanNumber__2 : List rec := [(876, 877, 7, 8), (877, 878, 0, 100000), (878, 879, 0, 100000), (879, 880, 0, 100000)]
abbrev Q_to_scanNumber__2 (S : sS) (ts : Nat) (from_ : Int) : pst := fun r S1 => HI S1 ∧ FR md_to_scanNumber__2 S S1 ∧ (∃ z : Int, r = some (iv z) ∧ (-1 ≤ z ∧ z ≤ 5000) ∧ (TOK S1) ∧ (z = -1 ∨ (from_ < z ∧ z ≤ Xi S 876 5)) ∧ (Xi S 876 7 ≤ Xi S1 876 7 ∧ Xi S1 876 7 ≤ Xi S 876 7 + 1) ∧ ((z ≠ -1 → 1 ≤ Xi S1 876 7) ∧ (z = -1 → Xi S1 876 7 = Xi S 876 7)) ∧ (KTK S S1 (Xi S 876 7)))
set_option maxRecDepth 100000 in
theorem t_to_scanNumber__2 {S : sS} (hH : HI S) (ts : Nat) (from_ : Int) (hfrom_ : 0 ≤ from_ ∧ from_ ≤ 4999) (hts : S.2.2 876 4 = some ts) (htp : tp ts) (hT : TOK S) (hrow : Xi S 876 7 ≤ 5124) (hb : 48 ≤ Xi S ts from_.toNat ∧ Xi S ts from_.toNat ≤ 57) (he : from_ < Xi S 876 5) (d : Nat) : Mt lay0 (d + 2) m_to_scanNumber [.ref 876, iv from_] S (Q_to_scanNumber__2 S ts from_) := by sorry
def md_to_scanText__2 : List rec := [(876, 877, 7, 8), (877, 878, 0, 100000), (878, 879, 0, 100000), (879, 880, 0, 100000)]
abbrev Q_to_scanText__2 (S : sS) (ts : Nat) (from_ : Int) : pst := fun r S1 => HI S1 ∧ FR md_to_scanText__2 S S1 ∧ (∃ z : Int, r = some (iv z) ∧ (-1 ≤ z ∧ z ≤ 5000) ∧ (TOK S1) ∧ (z = -1 ∨ (from_ < z ∧ z ≤ Xi S 876 5)) ∧ (Xi S 876 7 ≤ Xi S1 876 7 ∧ Xi S1 876 7 ≤ Xi S 876 7 + 1) ∧ ((z ≠ -1 → 1 ≤ Xi S1 876 7) ∧ (z = -1 → Xi S1 876 7 = Xi S 876 7)) ∧ (KTK S S1 (Xi S 876 7)))
set_option maxRecDepth 100000 in
theorem t_to_scanText__2 {S : sS} (hH : HI S) (ts : Nat) (from_ : Int) (hfrom_ : 0 ≤ from_ ∧ from_ ≤ 4999) (hts : S.2.2 876 4 = some ts) (htp : tp ts) (hT : TOK S) (hrow : Xi S 876 7 ≤ 5124) (he : from_ < Xi S 876 5) (d : Nat) : Mt lay0 (d + 2) m_to_scanText [.ref 876, iv from_] S (Q_to_scanText__2 S ts from_) := by sorry
def md_to_scan__2 : List rec := [(876, 877, 7, 8), (877, 878, 0, 100000), (878, 879, 0, 100000), (879, 880, 0, 100000)]
abbrev Q_to_scan__2 (S : sS) (ts : Nat) (p : Int) : pst := fun r S1 => HI S1 ∧ FR md_to_scan__2 S S1 ∧ (∃ z : Int, r = some (iv z) ∧ (-1 ≤ z ∧ z ≤ 5000) ∧ (TOK S1) ∧ (z = -1 ∨ (p < z ∧ z ≤ Xi S 876 5)) ∧ (Xi S 876 7 ≤ Xi S1 876 7 ∧ Xi S1 876 7 ≤ Xi S 876 7 + 1) ∧ ((z ≠ -1 → 1 ≤ Xi S1 876 7) ∧ (z = -1 → Xi S1 876 7 = Xi S 876 7)) ∧ (KTK S S1 (Xi S 876 7)))
set_option maxRecDepth 100000 in
theorem t_to_scan__2 {S : sS} (hH : HI S) (ts : Nat) (p : Int) (hp : 0 ≤ p ∧ p ≤ 4999) (hts : S.2.2 876 4 = some ts) (htp : tp ts) (hT : TOK S) (hrow : Xi S 876 7 ≤ 5124) (he : p < Xi S 876 5) (d : Nat) : Mt lay0 (d + 3) m_to_scan [.ref 876, iv p] S (Q_to_scan__2 S ts p) := by sorry
def md_to_takeDotBehindText__2 : List rec := [(876, 877, 7, 8), (877, 878, 0, 100000), (878, 879, 0, 100000), (879, 880, 0, 100000)]
abbrev Q_to_takeDotBehindText__2 (S : sS) (ts : Nat) (from_ : Int) : pst := fun r S1 => HI S1 ∧ FR md_to_takeDotBehindText__2 S S1 ∧ (∃ z : Int, r = some (iv z) ∧ (0 ≤ z ∧ z ≤ 5000) ∧ (TOK S1) ∧ (from_ ≤ z ∧ z ≤ Xi S 876 5) ∧ (Xi S 876 7 ≤ Xi S1 876 7 ∧ Xi S1 876 7 ≤ Xi S 876 7 + 1) ∧ (KTK S S1 (Xi S 876 7)))
set_option maxRecDepth 100000 in
theorem t_to_takeDotBehindText__2 {S : sS} (hH : HI S) (ts : Nat) (from_ : Int) (hfrom_ : 0 ≤ from_ ∧ from_ ≤ 5000) (hts : S.2.2 876 4 = some ts) (htp : tp ts) (hT : TOK S) (hrow : Xi S 876 7 ≤ 5124) (he : from_ ≤ Xi S 876 5) (d : Nat) : Mt lay0 (d + 3) m_to_takeDotBehindText [.ref 876, iv from_] S (Q_to_takeDotBehindText__2 S ts from_) := by sorry
def md_to_takeSentence__2 : List rec := [(876, 877, 6, 7), (876, 877, 7, 8), (877, 878, 0, 100000), (878, 879, 0, 100000), (879, 880, 0, 100000)]
abbrev Q_to_takeSentence__2 (S : sS) (ts : Nat) (from_ : Int) : pst := fun r S1 => HI S1 ∧ FR md_to_takeSentence__2 S S1 ∧ (∃ z : Int, r = some (iv z) ∧ (0 ≤ z ∧ z ≤ 5000) ∧ (TOK S1) ∧ (from_ ≤ z ∧ z ≤ Xi S 876 5) ∧ (Xi S1 876 6 = Xi S1 876 7) ∧ (Xi S1 876 7 ≤ 5002) ∧ (1 ≤ Xi S1 876 7) ∧ (ND S1 (Xi S1 876 7 - 1)))
set_option maxRecDepth 100000 in
theorem t_to_takeSentence__2 {S : sS} (hH : HI S) (ts : Nat) (from_ : Int) (hfrom_ : 0 ≤ from_ ∧ from_ ≤ 5000) (hts : S.2.2 876 4 = some ts) (htp : tp ts) (he : from_ ≤ Xi S 876 5) (d : Nat) : Mt lay0 (d + 4) m_to_takeSentence [.ref 876, iv from_] S (Q_to_takeSentence__2 S ts from_) := by sorry
theorem te_s {S : sS} {f v : Int} (h : ∀ r : Nat, f ≤ r → Xi S 877 r = 103 → v ≤ r) (e : Xi S 877 v.toNat ≠ 103) : ∀ r : Nat, f ≤ r → Xi S 877 r = 103 → v + 1 ≤ r := by sorry
abbrev Q_to_testEnd__2 (S : sS) (from_ : Int) (now : Int) : pst := fun r S1 => S = S1 ∧ (∃ z : Int, r = some (iv z) ∧ (0 ≤ z ∧ z ≤ 5140) ∧ (from_ ≤ z ∨ z = Xi S 876 7) ∧ (from_ ≤ Xi S 876 7 → from_ ≤ z ∧ z ≤ Xi S 876 7) ∧ (z ≤ Xi S 876 7) ∧ (∀ r : Nat, from_ ≤ r → (r : Int) < Xi S 876 7 → Xi S 877 r = 103 → z ≤ r))
set_option maxRecDepth 100000 in
theorem t_to_testEnd__2 {S : sS} (hH : HI S) (from_ : Int) (now : Int) (hfrom_ : 0 ≤ from_ ∧ from_ ≤ 5140) (hnow : 0 ≤ now ∧ now ≤ 1) (d : Nat) : Mt lay0 (d + 1) m_to_testEnd [.ref 876, iv from_, iv now] S (Q_to_testEnd__2 S from_ now) := by sorry
end
section
/-! SAFETY of methods: printed by wip/safe (vc.py, decl.py) -/
def md_rr_nameAdjective__2 : List rec := [(276, 876, 0, 1), (276, 876, 3, 4), (276, 876, 4, 5)]
abbrev Q_rr_nameAdjective__2 (S : sS) (c : Nat) (met : Int) (prop : Int) : pst := fun r S1 => HI S1 ∧ FR md_rr_nameAdjective__2 S S1 ∧ (r = none ∧ (KCL S S1 c) ∧ (∀ j, j ≠ 0 → j ≠ 3 → j ≠ 4 → Xi S1 (276 + c) j = Xi S (276 + c) j) ∧ (prop = -1 → Xi S1 (276 + c) 0 = 0 ∧ Xi S1 (276 + c) 3 = met) ∧ (prop ≠ -1 → Xi S1 (276 + c) 0 = 1 ∧ Xi S1 (276 + c) 3 = prop))
set_option maxRecDepth 100000 in
theorem t_rr_nameAdjective__2 {S : sS} (hH : HI S) (c : Nat) (met : Int) (prop : Int) (hc : c < 600) (hmet : 0 ≤ met ∧ met ≤ 255) (hprop : -1 ≤ prop ∧ prop ≤ 11) (d : Nat) : Mt lay0 (d + 1) m_rr_nameAdjective [.ref (276 + c), iv met, iv prop] S (Q_rr_nameAdjective__2 S c met prop) := by sorry
/-! SAFETY: rules: one clause by its form -/
theorem isK_v {S : sS} {k o z : Int} (h : z = isK S k o) (q : z ≠ 0) : 0 ≤ k := by sorry
def fdis (l : List rec) (j : Nat) : Bool := l.all (fun r => Nat.ble r.2.1 276 || (Nat.ble 876 r.1 || (Nat.blt j r.2.2.1 || Nat.ble r.2.2.2 j)))
theorem FR_clj {l : List rec} {S T : sS} {i j : Nat} (F : FR l S T) (e : fdis l j = true) (hi : i < 600) : Xi T (276 + i) j = Xi S (276 + i) j := by sorry
theorem CLok_x {S S1 : sS} {b : Prop} {c : Nat} (h : sG S S1) (x : ∀ j, Xi S1 (276 + c) j = Xi S (276 + c) j) (hk : CLok S b c) : CLok S1 b c := by sorry
theorem TSok_x {S S1 : sS} {b : Prop} {c : Nat} (h : sG S S1) (x : ∀ j, Xi S1 (276 + c) j = Xi S (276 + c) j) (hk : TSok S b c) : TSok S1 b c := by sorry
theorem TSok_f {l : List rec} {S T : sS} {b : Prop} {c : Nat} (hH : HI S) (h : FR l S T) (e : (kdis l kG && (!(mdf l 20 1) && (!(mdf l 246 8) && !(mdf l 246 5)))) = true) (e5 : kdis l [(5, 6)] = true) (ec : kdis l [(276, 876)] = true) (hc : c < 600) (hk : TSok S b c) : TSok T b c := by sorry
theorem ts_0 {S : sS} {b : Prop} {c : Nat} {x : Int} (e : Xi S (276 + c) 0 = 0) (e2 : Xi S (276 + c) 2 = x) (h : WHO b x) (h3 : 0 ≤ Xi S (276 + c) 3 ∧ Xi S (276 + c) 3 < Xi S 5 3) : TSok S b c := by sorry
theorem ts_1 {S : sS} {b : Prop} {c : Nat} {x v n : Int} (e : Xi S (276 + c) 0 = 1 ∨ Xi S (276 + c) 0 = 4) (e2 : Xi S (276 + c) 2 = x) (h : WHO b x) (h3 : 0 ≤ Xi S (276 + c) 3 ∧ Xi S (276 + c) 3 ≤ 11) (e4 : Xi S (276 + c) 4 = v) (e5 : Xi S (276 + c) 5 = n) (ht : TXT S v n) : TSok S b c := by sorry
theorem ts_2 {S : sS} {b : Prop} {c : Nat} {x : Int} (e : Xi S (276 + c) 0 = 2 ∨ Xi S (276 + c) 0 = 3) (e2 : Xi S (276 + c) 2 = x) (h : WHO b x) (h3 : 0 ≤ Xi S (276 + c) 3 ∧ Xi S (276 + c) 3 ≤ 11) : TSok S b c := by sorry
theorem cl_9 {S : sS} {b : Prop} {c : Nat} {x : Int} (e : Xi S (276 + c) 0 = 9) (e2 : Xi S (276 + c) 2 = x) (h : WHO b x) (h3 : 0 ≤ Xi S (276 + c) 3 ∧ Xi S (276 + c) 3 ≤ 11) : CLok S b c := by sorry
theorem ts_5 {S : sS} {b : Prop} {c : Nat} {x : Int} (e : Xi S (276 + c) 0 = 5) (e2 : Xi S (276 + c) 2 = x) (h : WHO b x) : TSok S b c := by sorry
theorem ts_6 {S : sS} {b : Prop} {c : Nat} {x y : Int} (e : Xi S (276 + c) 0 = 6) (e2 : Xi S (276 + c) 2 = x) (h : WHO b x) (e6 : Xi S (276 + c) 6 = y) (h6 : WHO b y) (h3 : 0 ≤ Xi S (276 + c) 3 ∧ Xi S (276 + c) 3 ≤ 5) : TSok S b c := by sorry
theorem cl_7 {S : sS} {b : Prop} {c : Nat} {w v n : Int} (e : Xi S (276 + c) 0 = 7) (e3 : Xi S (276 + c) 3 = w) (e4 : Xi S (276 + c) 4 = v) (e5 : Xi S (276 + c) 5 = n) (ht : TXT S v n) (hi : INS S b w v n) : CLok S b c := by sorry
theorem cl_8 {S : sS} {b : Prop} {c : Nat} {x y : Int} (e : Xi S (276 + c) 0 = 8) (e2 : Xi S (276 + c) 2 = x) (h : WHO b x) (e6 : Xi S (276 + c) 6 = y) (h6 : WHO b y) : CLok S b c := by sorry
theorem cl_10 {S : sS} {b : Prop} {c : Nat} {x y : Int} (e : Xi S (276 + c) 0 = 10) (e2 : Xi S (276 + c) 2 = x) (e3 : Xi S (276 + c) 3 = y) (h3 : 0 ≤ y ∧ y < Xi S 5 8) (h : 0 ≤ Xi S 19 y.toNat → WHO b x) (hn : Xi S 19 y.toNat ≠ -2) : CLok S b c := by sorry
theorem cl_11 {S : sS} {b : Prop} {c : Nat} (e : Xi S (276 + c) 0 = 11) : CLok S b c := by sorry
def md_rr_saying : List rec := [(276, 876, 0, 1), (276, 876, 2, 3), (276, 876, 3, 4), (276, 876, 6, 7), (876, 877, 8, 9), (876, 877, 9, 10), (895, 896, 5, 6), (895, 896, 6, 7), (895, 896, 7, 8)]
abbrev Q_rr_saying (S : sS) (from_ : Int) (to : Int) (cl : Nat) : pst := fun r S1 => HI S1 ∧ FR md_rr_saying S S1 ∧ (∃ z : Int, r = some (iv z) ∧ (0 ≤ z ∧ z ≤ 1) ∧ (KCL S S1 cl) ∧ (z = 1 → TSok S1 (0 ≤ Xi S 895 4) cl) ∧ (z = 0 → Xi S1 876 8 ≠ 0))
set_option maxRecDepth 100000 in
theorem t_rr_saying {S : sS} (hH : HI S) (from_ : Int) (to : Int) (cl : Nat) (hfrom_ : 0 ≤ from_ ∧ from_ ≤ 5140) (hto : 0 ≤ to ∧ to ≤ 5130) (hcl : cl < 600) (hL : LEX S) (d : Nat) : Mt lay0 (d + 3) m_rr_saying [.ref 899, iv from_, iv to, .ref (276 + cl)] S (Q_rr_saying S from_ to cl) := by sorry
def md_rr_propertyTest : List rec := [(276, 876, 0, 1), (276, 876, 1, 2), (276, 876, 2, 3), (276, 876, 3, 4), (276, 876, 4, 5), (276, 876, 5, 6), (876, 877, 8, 9), (876, 877, 9, 10), (895, 896, 5, 6), (895, 896, 6, 7), (895, 896, 7, 8), (895, 896, 10, 11), (895, 896, 11, 12)]
abbrev Q_rr_propertyTest (S : sS) (from_ : Int) (is_ : Int) (cl : Nat) : pst := fun r S1 => HI S1 ∧ FR md_rr_propertyTest S S1 ∧ (∃ z : Int, r = some (iv z) ∧ (0 ≤ z ∧ z ≤ 1) ∧ (KCL S S1 cl) ∧ (z = 1 → TSok S1 (0 ≤ Xi S 895 4) cl) ∧ (z = 0 → Xi S1 876 8 ≠ 0))
set_option maxRecDepth 100000 in
theorem t_rr_propertyTest {S : sS} (hH : HI S) (from_ : Int) (is_ : Int) (cl : Nat) (hfrom_ : 0 ≤ from_ ∧ from_ ≤ 5129) (his_ : 0 ≤ is_ ∧ is_ ≤ 5129) (hcl : cl < 600) (hL : LEX S) (hT : TOK S) (hS : SRX S) (d : Nat) : Mt lay0 (d + 4) m_rr_propertyTest [.ref 899, iv from_, iv is_, .ref (276 + cl)] S (Q_rr_propertyTest S from_ is_ cl) := by sorry
theorem prop_lt {S : sS} {a : Int} (h : PROP S a) : 0 ≤ a ∧ a + 2 < Xi S 876 7 := by sorry
theorem who_e {b : Prop} {x y : Int} (e : x = y) (h : WHO b y) : WHO b x := by sorry
theorem ts_na {S T : sS} {b : Prop} {c : Nat} {met prop : Int} (w : ∀ j, j ≠ 0 → j ≠ 3 → j ≠ 4 → Xi T (276 + c) j = Xi S (276 + c) j) (ha : prop = -1 → Xi T (276 + c) 0 = 0 ∧ Xi T (276 + c) 3 = met) (hb : prop ≠ -1 → Xi T (276 + c) 0 = 1 ∧ Xi T (276 + c) 3 = prop) (hw : WHO b (Xi S (276 + c) 2)) (h5 : Xi S (276 + c) 5 = 0) (hm : prop = -1 → 0 ≤ met ∧ met < Xi T 5 3) (hp : -1 ≤ prop ∧ prop ≤ 11) : TSok T b c := by sorry
def md_rr_test : List rec := [(276, 876, 0, 1), (276, 876, 1, 2), (276, 876, 2, 3), (276, 876, 3, 4), (276, 876, 4, 5), (276, 876, 5, 6), (276, 876, 6, 7), (876, 877, 8, 9), (876, 877, 9, 10), (895, 896, 5, 6), (895, 896, 6, 7), (895, 896, 7, 8), (895, 896, 8, 9), (895, 896, 9, 10), (895, 896, 10, 11), (895, 896, 11, 12)]
abbrev Q_rr_test (S : sS) (from_ : Int) (to : Int) (cl : Nat) (now : Int) : pst := fun r S1 => HI S1 ∧ FR md_rr_test S S1 ∧ (∃ z : Int, r = some (iv z) ∧ (0 ≤ z ∧ z ≤ 1) ∧ (KCL S S1 cl) ∧ (z = 1 → TSok S1 (0 ≤ Xi S 895 4) cl) ∧ (z = 0 → Xi S1 876 8 ≠ 0))
set_option maxRecDepth 100000 in
theorem t_rr_test {S : sS} (hH : HI S) (from_ : Int) (to : Int) (cl : Nat) (now : Int) (hfrom_ : 0 ≤ from_ ∧ from_ ≤ 5140) (hto : 0 ≤ to ∧ to ≤ 5130) (hcl : cl < 600) (hnow : 0 ≤ now ∧ now ≤ 1) (hL : LEX S) (hT : TOK S) (hS : SRX S) (hlen : Xi S (276 + cl) 5 = 0) (d : Nat) : Mt lay0 (d + 5) m_rr_test [.ref 899, iv from_, iv to, .ref (276 + cl), iv now] S (Q_rr_test S from_ to cl now) := by sorry
theorem sG_n {l : List rec} {S T : sS} {n : Nat} (hH : HI S) (h : FR l S T) (e : (kdis l [(5, 6), (19, 20), (274, 276), (902, 904)] && (!(mdf l 20 1) && !(mdf l 246 8))) = true) (k : KCL S T n) (hn : Xi S 246 5 ≤ n) (hc : Xi S 246 5 ≤ Xi T 246 5) : sG S T := by sorry
theorem ts_s {S T : sS} {b : Prop} {f z : Nat} {v : Int} (hH : HI S) (g : sG S T) (h : ∀ i : Nat, (i : Int) < v → TSok S b (f + i)) (hv : 0 ≤ v) (hb : (f : Int) + v ≤ Xi S 246 5) (h6 : (f : Int) + v ≤ 600) (hn : TSok T b z) (hz : (z : Int) = f + v) : ∀ i : Nat, (i : Int) < v + 1 → TSok T b (f + i) := by sorry
def md_rr_tests : List rec := [(246, 247, 5, 6), (276, 876, 0, 1), (276, 876, 1, 2), (276, 876, 2, 3), (276, 876, 3, 4), (276, 876, 4, 5), (276, 876, 5, 6), (276, 876, 6, 7), (876, 877, 8, 9), (876, 877, 9, 10), (895, 896, 5, 6), (895, 896, 6, 7), (895, 896, 7, 8), (895, 896, 8, 9), (895, 896, 9, 10), (895, 896, 10, 11), (895, 896, 11, 12), (899, 900, 5, 6), (899, 900, 6, 7)]
abbrev Q_rr_tests (S : sS) (from_ : Int) : pst := fun r S1 => HI S1 ∧ FR md_rr_tests S S1 ∧ (∃ z : Int, r = some (iv z) ∧ (0 ≤ z ∧ z ≤ 1) ∧ (z = 1 → sG S S1) ∧ (z = 1 → Xi S1 899 6 ≤ 6 ∧ Xi S1 246 5 = Xi S 246 5 + Xi S1 899 6) ∧ (z = 1 → ∀ i : Nat, (i : Int) < Xi S1 899 6 → TSok S1 (0 ≤ Xi S 895 4) ((Xi S 246 5).toNat + i)) ∧ (z = 0 → Xi S1 876 8 ≠ 0))
set_option maxRecDepth 100000 in
theorem t_rr_tests {S : sS} (hH : HI S) (from_ : Int) (hfrom_ : -1 ≤ from_ ∧ from_ ≤ 5132) (hL : LEX S) (hT : TOK S) (hS : SRX S) (hn : Xi S 246 5 + 6 ≤ 600) (d : Nat) : Mt lay0 (d + 6) m_rr_tests [.ref 899, iv from_] S (Q_rr_tests S from_) := by sorry
end
section
/-! SAFETY of methods: printed by wip/safe (vc.py, decl.py) -/
def md_to_takeInside__2 : List rec := [(876, 877, 7, 8), (877, 878, 0, 100000), (878, 879, 0, 100000), (879, 880, 0, 100000)]
abbrev Q_to_takeInside__2 (S : sS) (ts : Nat) (from_ : Int) (to : Int) : pst := fun r S1 => HI S1 ∧ FR md_to_takeInside__2 S S1 ∧ (∃ z : Int, r = some (iv z) ∧ (-1 ≤ z ∧ z ≤ 5002) ∧ (TOK S1) ∧ (z = -1 ∨ z = Xi S 876 6) ∧ (Xi S 876 6 ≤ Xi S1 876 7 ∧ Xi S1 876 7 ≤ 5125) ∧ (KTK S S1 (Xi S 876 6)))
set_option maxRecDepth 100000 in
theorem t_to_takeInside__2 {S : sS} (hH : HI S) (ts : Nat) (from_ : Int) (to : Int) (hfrom_ : 0 ≤ from_ ∧ from_ ≤ 5000) (hto : 0 ≤ to ∧ to ≤ 5000) (hts : S.2.2 876 4 = some ts) (htp : tp ts) (hT : TOK S) (hcr : Xi S 876 6 ≤ Xi S 876 7) (hft : to ≤ from_ + 121) (d : Nat) : Mt lay0 (d + 3) m_to_takeInside [.ref 876, iv from_, iv to] S (Q_to_takeInside__2 S ts from_ to) := by sorry
/-! SAFETY: rules: every other rule stays; references that are written -/
def KRU (S T : sS) (c : Nat) : Prop := ∀ k j : Nat, k < 24 → k ≠ c → Xi T (248 + k) j = Xi S (248 + k) j
theorem KRU.rf {S : sS} {c : Nat} : KRU S S c := by sorry
theorem kru_w {S T U : sS} {c j : Nat} {v : Int32} (e : U = uI T (248 + c) j v) (h : KRU S T c) : KRU S U c := by sorry
theorem kru_o {S T U : sS} {c x j : Nat} {v : Int32} (e : U = uI T x j v) (hx : x < 248 ∨ 272 ≤ x) (h : KRU S T c) : KRU S U c := by sorry
theorem kru_tr {S T U : sS} {c : Nat} (h : KRU S T c) (g : KRU T U c) : KRU S U c := by sorry
theorem kru_f {l : List rec} {S T U : sS} {c : Nat} (f : FR l T U) (e : kdis l [(248, 272)] = true) (h : KRU S T c) : KRU S U c := by sorry
theorem uR_s {S : sS} {k j : Nat} {v : Option Nat} : (uR S k j v).2.2 k j = v := by sorry
theorem uR_o {S : sS} {k j a b : Nat} {v : Option Nat} (h : ¬(a = k ∧ b = j)) : (uR S k j v).2.2 a b = S.2.2 a b := by sorry
theorem FR.wR {l : List rec} {S T : sS} {k j : Nat} {v : Option Nat} (h : FR l S T) (e : mdf l k j = true) : FR l S (uR T k j v) := by sorry
theorem FR_R {S U : sS} {k j : Nat} {v : Option Nat} (e : U = uR S k j v) : FR [(k, k + 1, j, j + 1)] S U := by sorry
theorem HI_R {S : sS} {k j : Nat} {v : Option Nat} (h : HI S) (e : rT k j = none) (er : rRw.all (fun q => !(Nat.beq q.1 k)) = true)
    (h8 : k = 0 ∧ j = 8 → ∃ t, v = some t ∧ tp t) (h9 : k = 0 ∧ j = 9 → ∃ t, v = some t ∧ tp t) (h20 : k = 20 ∧ j = 1 → ∃ t, v = some t ∧ (t = 245 ∨ tp t)) (h76 : k = 876 ∧ j = 4 → ∃ t, v = some t ∧ (t = 881 ∨ tp t)) (h99 : k = 899 ∧ j = 4 → ∃ i, v = some (248 + i) ∧ i < 24) : HI (uR S k j v) := by sorry
theorem isKn_o {S : sS} {o : Int} : ∀ (n : Nat) (k : Int), isKn S o n k ≠ 0 → 0 ≤ o := by sorry
theorem isK_o {S : sS} {k o z : Int} (h : z = isK S k o) (q : z ≠ 0) : 0 ≤ o := by sorry
/-- the rule that is being read: its tests and phrases so far -/
def RB (S : sS) (r : Nat) (c0 t p : Int) : Prop := (Xi S (248 + r) 7 = c0 ∧ 0 ≤ c0 ∧ Xi S 246 5 = c0 + Xi S (248 + r) 4 + t + p ∧ Xi S (248 + r) 1 < Xi S 5 8) ∧ (Xi S (248 + r) 3 ≠ -1 → rN S r) ∧ (0 ≤ Xi S 895 4 → rN S r) ∧
  (∀ i : Nat, (i : Int) < Xi S (248 + r) 4 + t → TSok S (rN S r) (c0.toNat + i)) ∧ (∀ i : Nat, (i : Int) < Xi S (248 + r) 4 + t + p → CLok S (rN S r) (c0.toNat + i))
theorem mad_cl {S U : sS} {c j : Nat} {v : Int32} (e : U = uI S (276 + c) j v) (hc : c < 600) (h : MAD S) : MAD U := by sorry
theorem rN_g {S T : sS} {r : Nat} (g : sG S T) (h1 : Xi T (248 + r) 1 = Xi S (248 + r) 1) (h8 : Xi S (248 + r) 1 < Xi S 5 8) : rN T r = rN S r := by sorry
theorem rb_0 {T : sS} {r : Nat} {c0 : Int} (h7 : Xi T (248 + r) 7 = c0) (hc0 : 0 ≤ c0) (hc : Xi T 246 5 = c0 + Xi T (248 + r) 4) (h1 : Xi T (248 + r) 1 < Xi T 5 8) (h3 : Xi T (248 + r) 3 ≠ -1 → rN T r) (hs : 0 ≤ Xi T 895 4 → rN T r) (ht : ∀ i : Nat, (i : Int) < Xi T (248 + r) 4 → TSok T True (c0.toNat + i)) (hn : 0 < Xi T (248 + r) 4 → rN T r) : RB T r c0 0 0 := by sorry
theorem RB_x {S T : sS} {r : Nat} {c0 t p n : Int} (hH : HI S) (hr : r < 24) (g : sG S T) (x1 : Xi T (248 + r) 1 = Xi S (248 + r) 1) (x3 : Xi T (248 + r) 3 = Xi S (248 + r) 3) (x4 : Xi T (248 + r) 4 = Xi S (248 + r) 4) (x7 : Xi T (248 + r) 7 = Xi S (248 + r) 7) (hs : Xi T 895 4 = Xi S 895 4) (h6 : Xi S 246 5 ≤ 600) (h0 : 0 ≤ t ∧ 0 ≤ p) (h : RB S r c0 t p) :
    rN T r = rN S r ∧ (Xi T (248 + r) 3 ≠ -1 → rN T r) ∧ (0 ≤ Xi T 895 4 → rN T r) ∧ Xi T (248 + r) 1 < Xi T 5 8 ∧
    (∀ i : Nat, (i : Int) < Xi T (248 + r) 4 + t → TSok T (rN T r) (c0.toNat + i)) ∧ (∀ i : Nat, (i : Int) < Xi T (248 + r) 4 + t + p → CLok T (rN T r) (c0.toNat + i)) := by sorry
theorem RB_t {S T : sS} {r : Nat} {c0 n : Int} (hH : HI S) (hr : r < 24) (g : sG S T) (x1 : Xi T (248 + r) 1 = Xi S (248 + r) 1) (x3 : Xi T (248 + r) 3 = Xi S (248 + r) 3) (x4 : Xi T (248 + r) 4 = Xi S (248 + r) 4) (x7 : Xi T (248 + r) 7 = Xi S (248 + r) 7) (hs : Xi T 895 4 = Xi S 895 4) (h6 : Xi S 246 5 ≤ 600) (hn : 0 ≤ n) (hc : Xi T 246 5 = Xi S 246 5 + n) (ht : ∀ i : Nat, (i : Int) < n → TSok T (0 ≤ Xi S 895 4) ((Xi S 246 5).toNat + i)) (h : RB S r c0 0 0) : RB T r c0 n 0 := by sorry
theorem RB_p {S T : sS} {r z : Nat} {c0 t p : Int} (hH : HI S) (hr : r < 24) (g : sG S T) (x1 : Xi T (248 + r) 1 = Xi S (248 + r) 1) (x3 : Xi T (248 + r) 3 = Xi S (248 + r) 3) (x4 : Xi T (248 + r) 4 = Xi S (248 + r) 4) (x7 : Xi T (248 + r) 7 = Xi S (248 + r) 7) (hs : Xi T 895 4 = Xi S 895 4) (h6 : Xi S 246 5 ≤ 600) (h0 : 0 ≤ t ∧ 0 ≤ p) (hc : Xi T 246 5 = Xi S 246 5 + 1) (hk : CLok T (0 ≤ Xi S 895 4) z) (hz : (z : Int) = Xi S 246 5) (h : RB S r c0 t p) : RB T r c0 t (p + 1) := by sorry
theorem RB_e {S T : sS} {r : Nat} {c0 t p : Int} (hH : HI S) (hr : r < 24) (g : sG S T) (x1 : Xi T (248 + r) 1 = Xi S (248 + r) 1) (x3 : Xi T (248 + r) 3 = Xi S (248 + r) 3) (x4 : Xi T (248 + r) 4 = Xi S (248 + r) 4) (x7 : Xi T (248 + r) 7 = Xi S (248 + r) 7) (hs : Xi T 895 4 = Xi S 895 4) (h6 : Xi S 246 5 ≤ 600) (h0 : 0 ≤ t ∧ 0 ≤ p) (hc : Xi T 246 5 = Xi S 246 5) (h5 : Xi T (248 + r) 5 = t) (hp : Xi T (248 + r) 6 = p) (h : RB S r c0 t p) : RUL1 T r := by sorry
/-- inserts that come -/
def IGR (S T : sS) (b : Prop) : Prop := (Xi S 246 8 ≤ Xi T 246 8 ∧ Xi T 246 8 ≤ 1666) ∧ (∀ j : Nat, (j : Int) < Xi S 246 8 → Xi T 274 j = Xi S 274 j ∧ Xi T 275 j = Xi S 275 j) ∧ ∀ j : Nat, Xi S 246 8 ≤ j → (j : Int) < Xi T 246 8 → Xi T 275 j ≠ -1 → WHO b (Xi T 274 j)
theorem IGR.rf {S : sS} {b : Prop} (hH : HI S) : IGR S S b := by sorry
theorem IGR.tr {S T U : sS} {b c : Prop} (h : IGR S T b) (g : IGR T U c) (hb : c → b) : IGR S U b := by sorry
theorem igr_f {l : List rec} {S T U : sS} {b : Prop} (f : FR l T U) (e : (kdis l [(274, 276)] && !(mdf l 246 8)) = true) (h : IGR S T b) : IGR S U b := by sorry
theorem igr_cl {S T U : sS} {b : Prop} {c j : Nat} {v : Int32} (e : U = uI T (276 + c) j v) (h : IGR S T b) : IGR S U b := by sorry
/-- what is told stays, a clause comes, inserts may come -/
theorem sG_i {l : List rec} {S T : sS} {n : Nat} {b : Prop} (h : FR l S T) (e : (kdis l [(5, 6), (19, 20), (902, 904)] && !(mdf l 20 1)) = true) (k : KCL S T n) (i : IGR S T b) (hn : Xi S 246 5 ≤ n) (hc : Xi S 246 5 ≤ Xi T 246 5) : sG S T := by sorry
theorem igr_w {S T U : sS} {b : Prop} {x j : Nat} {v : Int32} (e : U = uI T x j v) (hx : x ≠ 246 ∧ x ≠ 274 ∧ x ≠ 275) (h : IGR S T b) : IGR S U b := by sorry
def IAD (S T : sS) (th pr : Int) : Prop := ∀ b : Prop, (pr ≠ -1 → WHO b th) → IGR S T b
theorem iad_0 {S : sS} {th pr : Int} (hH : HI S) : IAD S S th pr := by sorry
theorem iad_1 {S U1 U2 U3 : sS} {th pr : Int} {n : Nat} (e1 : U1 = uI S 274 n (Int32.ofInt th)) (e2 : U2 = uI U1 275 n (Int32.ofInt pr)) (e3 : U3 = uI U2 246 8 (Int32.ofInt (Xi S 246 8 + 1))) (hn : n = (Xi S 246 8).toNat) (h0 : 0 ≤ Xi S 246 8) (h1 : Xi S 246 8 < 1666) (ht : rg th) (hp : rg pr) : IAD S U3 th pr := by sorry
/-- how many [ are closed by inserts -/
def NB (S T : sS) (t : Nat) (w v n o : Int) : Prop := w + nbr S t v n.toNat ≤ Xi T 246 8 + (if o = -1 then 0 else 1) ∨ 1666 ≤ Xi T 246 8
theorem nb_0 {S T : sS} {t : Nat} {w v n : Int} (hn : n = 0) (h : Xi T 246 8 = w) : NB S T t w v n (-1) := by sorry
theorem nb_s {S T U : sS} {t : Nat} {w v n m o o2 x : Int} (h : NB S T t w v n o) (hn : 0 ≤ n) (hm : m = n + 1) (hx : x = Xi S t (v + n).toNat) (hc : (x = 91 ∧ o = -1 ∧ o2 ≠ -1 ∧ Xi U 246 8 = Xi T 246 8) ∨ (x = 93 ∧ o ≠ -1 ∧ o2 = -1 ∧ (Xi U 246 8 = Xi T 246 8 + 1 ∨ 1666 ≤ Xi U 246 8)) ∨ (x ≠ 91 ∧ o2 = o ∧ Xi U 246 8 = Xi T 246 8)) : NB S U t w v m o2 := by sorry
theorem ins_mk {S T : sS} {t : Nat} {b : Prop} {w v n : Int} (ht : t = txr S) (e : T.2.2 20 1 = S.2.2 20 1) (x : ∀ j, Xi T t j = Xi S t j) (h : NB S T t w v n (-1)) (hi : IGR S T b) (hw : w = Xi S 246 8) : INS T b w v n := by sorry
theorem sG_ru {S U : sS} {r j : Nat} {v : Int32} (hH : HI S) (e : U = uI S (248 + r) j v) (hr : r < 24) : sG S U := by sorry
theorem say_k {S T : sS} {n : Int} (h : SAY S n) (k : KTK S T n) : SAY T n := by sorry
theorem say_at {S : sS} {n v x : Int} (h : SAY S n) (h0 : 0 ≤ v) (hv : v < n) (hx : x = Xi S 877 v.toNat) (q : x = 43) : v + 1 < n ∧ Xi S 877 (v + 1).toNat = 102 := by sorry
def md_bo_startRule__2 : List rec := [(248, 272, 0, 100000)]
abbrev Q_bo_startRule__2 (S : sS) (sort : Int) : pst := fun r S1 => HI S1 ∧ FR md_bo_startRule__2 S S1 ∧ (∃ z : Nat, r = some (.ref (248 + z)) ∧ z < 24 ∧ ((z : Int) = Xi S 246 2) ∧ (KRU S S1 z) ∧ (Xi S1 (248 + z) 1 = -1 ∧ Xi S1 (248 + z) 2 = -1 ∧ Xi S1 (248 + z) 3 = -1 ∧ Xi S1 (248 + z) 4 = 0 ∧ Xi S1 (248 + z) 5 = 0 ∧ Xi S1 (248 + z) 6 = 0 ∧ Xi S1 (248 + z) 7 = Xi S 246 5))
set_option maxRecDepth 100000 in
theorem t_bo_startRule__2 {S : sS} (hH : HI S) (sort : Int) (hsort : 0 ≤ sort ∧ sort ≤ 3) (hr : Xi S 246 2 < 24) (d : Nat) : Mt lay0 (d + 1) m_bo_startRule [.ref 246, iv sort] S (Q_bo_startRule__2 S sort) := by sorry
def md_rr_actingAlone : List rec := [(248, 272, 0, 100000), (876, 877, 8, 9), (876, 877, 9, 10)]
abbrev Q_rr_actingAlone (S : sS) (ru : Nat) (from_ : Int) (to : Int) : pst := fun r S1 => HI S1 ∧ FR md_rr_actingAlone S S1 ∧ (∃ z : Int, r = some (iv z) ∧ (0 ≤ z ∧ z ≤ 1) ∧ (KRU S S1 ru) ∧ (z = 1 → 0 ≤ Xi S1 (248 + ru) 1 ∧ Xi S1 (248 + ru) 1 < Xi S1 5 8) ∧ (z = 1 → Xi S1 (248 + ru) 2 ≠ -1 → 0 ≤ Xi S1 19 (Xi S1 (248 + ru) 1).toNat) ∧ (z = 1 → Xi S1 (248 + ru) 3 = Xi S (248 + ru) 3 ∧ Xi S1 (248 + ru) 4 = Xi S (248 + ru) 4 ∧ Xi S1 (248 + ru) 5 = Xi S (248 + ru) 5 ∧ Xi S1 (248 + ru) 6 = Xi S (248 + ru) 6 ∧ Xi S1 (248 + ru) 7 = Xi S (248 + ru) 7) ∧ (z = 0 → Xi S1 876 8 ≠ 0))
set_option maxRecDepth 100000 in
theorem t_rr_actingAlone {S : sS} (hH : HI S) (ru : Nat) (from_ : Int) (to : Int) (hfrom_ : 0 ≤ from_ ∧ from_ ≤ 5130) (hto : 0 ≤ to ∧ to ≤ 5130) (hru : S.2.2 899 4 = some (248 + ru)) (hrk : ru < 24) (hL : LEX S) (d : Nat) : Mt lay0 (d + 3) m_rr_actingAlone [.ref 899, iv from_, iv to] S (Q_rr_actingAlone S ru from_ to) := by sorry
def md_rr_nameNoun : List rec := [(895, 896, 3, 4), (895, 896, 4, 5)]
abbrev Q_rr_nameNoun (S : sS) (ru : Nat) : pst := fun r S1 => HI S1 ∧ FR md_rr_nameNoun S S1 ∧ (r = none ∧ (0 ≤ Xi S1 895 4 → Xi S 19 (Xi S (248 + ru) 1).toNat ≠ -1))
set_option maxRecDepth 100000 in
theorem t_rr_nameNoun {S : sS} (hH : HI S) (ru : Nat) (hru : S.2.2 899 4 = some (248 + ru)) (hrk : ru < 24) (ha : 0 ≤ Xi S (248 + ru) 1 ∧ Xi S (248 + ru) 1 < Xi S 5 8) (h2 : Xi S (248 + ru) 2 ≠ -1 → 0 ≤ Xi S 19 (Xi S (248 + ru) 1).toNat) (h3 : Xi S (248 + ru) 3 ≠ -1 → 0 ≤ Xi S 19 (Xi S (248 + ru) 1).toNat) (d : Nat) : Mt lay0 (d + 2) m_rr_nameNoun [.ref 899] S (Q_rr_nameNoun S ru) := by sorry
/-! SAFETY of methods: printed by wip/safe (vc.py, decl.py) -/
def md_bo_addInsert__2 : List rec := [(246, 247, 8, 9), (274, 275, 0, 100000), (275, 276, 0, 100000)]
abbrev Q_bo_addInsert__2 (S : sS) (thing : Int) (prop : Int) : pst := fun r S1 => HI S1 ∧ FR md_bo_addInsert__2 S S1 ∧ (r = none ∧ (IAD S S1 thing prop) ∧ (Xi S1 246 8 = Xi S 246 8 + 1 ∨ 1666 ≤ Xi S1 246 8))
set_option maxRecDepth 100000 in
theorem t_bo_addInsert__2 {S : sS} (hH : HI S) (thing : Int) (prop : Int) (hthing : -2 ≤ thing ∧ thing ≤ 23) (hprop : -1 ≤ prop ∧ prop ≤ 11) (d : Nat) : Mt lay0 (d + 1) m_bo_addInsert [.ref 246, iv thing, iv prop] S (Q_bo_addInsert__2 S thing prop) := by sorry
def md_rr_tryAlone : List rec := [(276, 876, 2, 3), (276, 876, 3, 4), (876, 877, 8, 9), (876, 877, 9, 10)]
abbrev Q_rr_tryAlone (S : sS) (from_ : Int) (to : Int) (cl : Nat) : pst := fun r S1 => HI S1 ∧ FR md_rr_tryAlone S S1 ∧ (∃ z : Int, r = some (iv z) ∧ (0 ≤ z ∧ z ≤ 1) ∧ (KCL S S1 cl) ∧ (z = 1 → CLok S1 (0 ≤ Xi S 895 4) cl) ∧ (z = 0 → Xi S1 876 8 ≠ 0))
set_option maxRecDepth 100000 in
theorem t_rr_tryAlone {S : sS} (hH : HI S) (from_ : Int) (to : Int) (cl : Nat) (hfrom_ : 0 ≤ from_ ∧ from_ ≤ 5130) (hto : 0 ≤ to ∧ to ≤ 5130) (hcl : cl < 600) (hL : LEX S) (hf : Xi S (276 + cl) 0 = 10) (d : Nat) : Mt lay0 (d + 3) m_rr_tryAlone [.ref 899, iv from_, iv to, .ref (276 + cl)] S (Q_rr_tryAlone S from_ to cl) := by sorry
def md_rr_tryOn : List rec := [(276, 876, 2, 3), (276, 876, 3, 4), (876, 877, 8, 9), (876, 877, 9, 10), (895, 896, 5, 6), (895, 896, 6, 7), (895, 896, 7, 8)]
abbrev Q_rr_tryOn (S : sS) (from_ : Int) (behind : Int) (to : Int) (cl : Nat) : pst := fun r S1 => HI S1 ∧ FR md_rr_tryOn S S1 ∧ (∃ z : Int, r = some (iv z) ∧ (0 ≤ z ∧ z ≤ 1) ∧ (KCL S S1 cl) ∧ (z = 1 → CLok S1 (0 ≤ Xi S 895 4) cl) ∧ (z = 0 → Xi S1 876 8 ≠ 0))
set_option maxRecDepth 100000 in
theorem t_rr_tryOn {S : sS} (hH : HI S) (from_ : Int) (behind : Int) (to : Int) (cl : Nat) (hfrom_ : 0 ≤ from_ ∧ from_ ≤ 5130) (hbehind : 0 ≤ behind ∧ behind ≤ 5140) (hto : 0 ≤ to ∧ to ≤ 5140) (hcl : cl < 600) (hL : LEX S) (hf : Xi S (276 + cl) 0 = 10) (d : Nat) : Mt lay0 (d + 3) m_rr_tryOn [.ref 899, iv from_, iv behind, iv to, .ref (276 + cl)] S (Q_rr_tryOn S from_ behind to cl) := by sorry
/-! SAFETY of methods: printed by wip/safe (vc.py, decl.py) -/
def md_rr_insert : List rec := [(246, 247, 8, 9), (274, 275, 0, 100000), (275, 276, 0, 100000), (876, 877, 7, 8), (877, 878, 0, 100000), (878, 879, 0, 100000), (879, 880, 0, 100000), (895, 896, 5, 6), (895, 896, 6, 7), (895, 896, 7, 8)]
abbrev Q_rr_insert (S : sS) (ts : Nat) (from_ : Int) (to : Int) : pst := fun r S1 => HI S1 ∧ FR md_rr_insert S S1 ∧ (∃ z : Int, r = some (iv z) ∧ (0 ≤ z ∧ z ≤ 1) ∧ (TOK S1) ∧ (Xi S 876 6 ≤ Xi S1 876 7) ∧ (KTK S S1 (Xi S 876 6)) ∧ (IGR S S1 (0 ≤ Xi S 895 4)) ∧ (z = 1 → Xi S1 246 8 = Xi S 246 8 + 1 ∨ 1666 ≤ Xi S1 246 8))
set_option maxRecDepth 100000 in
theorem t_rr_insert {S : sS} (hH : HI S) (ts : Nat) (from_ : Int) (to : Int) (hfrom_ : 0 ≤ from_ ∧ from_ ≤ 5000) (hto : 0 ≤ to ∧ to ≤ 5000) (hts : S.2.2 876 4 = some ts) (htp : tp ts) (hL : LEX S) (hT : TOK S) (hcr : Xi S 876 6 ≤ Xi S 876 7) (hft : to ≤ from_ + 121) (d : Nat) : Mt lay0 (d + 4) m_rr_insert [.ref 899, iv from_, iv to] S (Q_rr_insert S ts from_ to) := by sorry
end
section
/-! SAFETY of methods: printed by wip/safe (vc.py, decl.py) -/
theorem mad_ru {S U : sS} {c j : Nat} {v : Int32} (e : U = uI S (248 + c) j v) (hc : c < 24) (h : MAD S) : MAD U := by sorry
def md_rr_actingOn : List rec := [(246, 247, 5, 6), (248, 272, 0, 100000), (276, 876, 0, 1), (276, 876, 1, 2), (276, 876, 2, 3), (276, 876, 3, 4), (276, 876, 4, 5), (276, 876, 5, 6), (276, 876, 6, 7), (876, 877, 8, 9), (876, 877, 9, 10), (895, 896, 5, 6), (895, 896, 6, 7), (895, 896, 7, 8), (895, 896, 8, 9), (895, 896, 9, 10), (895, 896, 12, 13), (895, 896, 13, 14), (895, 896, 14, 15), (896, 897, 0, 100000), (897, 898, 0, 100000), (898, 899, 0, 100000)]
abbrev Q_rr_actingOn (S : sS) (ru : Nat) (from_ : Int) (to : Int) : pst := fun r S1 => HI S1 ∧ FR md_rr_actingOn S S1 ∧ (∃ z : Int, r = some (iv z) ∧ (0 ≤ z ∧ z ≤ 1) ∧ (KRU S S1 ru) ∧ (z = 1 → sG S S1) ∧ (z = 1 → 0 ≤ Xi S1 (248 + ru) 1 ∧ Xi S1 (248 + ru) 1 < Xi S1 5 8) ∧ (z = 1 → 0 ≤ Xi S1 19 (Xi S1 (248 + ru) 1).toNat) ∧ (z = 1 → Xi S1 246 5 = Xi S 246 5 + Xi S1 (248 + ru) 4) ∧ (z = 1 → Xi S1 (248 + ru) 5 = Xi S (248 + ru) 5 ∧ Xi S1 (248 + ru) 6 = Xi S (248 + ru) 6 ∧ Xi S1 (248 + ru) 7 = Xi S (248 + ru) 7) ∧ (z = 1 → ∀ i : Nat, (i : Int) < Xi S1 (248 + ru) 4 → TSok S1 True ((Xi S 246 5).toNat + i)) ∧ (z = 0 → Xi S1 876 8 ≠ 0))
set_option maxRecDepth 100000 in
theorem c237_rr_actingOn {S : sS} (hH : HI S) (ru : Nat) (from_ : Int) (to : Int) (hfrom_ : 0 ≤ from_ ∧ from_ ≤ 5130) (hto : 0 ≤ to ∧ to ≤ 5130) (hru : S.2.2 899 4 = some (248 + ru)) (hrk : ru < 24) (hL : LEX S) (h4 : Xi S (248 + ru) 4 = 0) (hn : Xi S 246 5 + 5 ≤ 600) (hd : 0 ≤ Xi S 899 5) (d : Nat) : ∀ (n237 : Nat) (T1 : sS) (_ : HI T1) (_ : FR md_rr_actingOn S T1) (v8 : Int), (0 ≤ v8 ∧ v8 ≤ 5) → (sG S T1) → (KRU S T1 ru) → (Xi T1 246 5 = Xi S 246 5 + v8) → (v8 ≤ Xi T1 895 14) → (Xi T1 (248 + ru) 4 = Xi T1 895 14) → (0 ≤ Xi T1 (248 + ru) 1 ∧ Xi T1 (248 + ru) 1 < Xi S 5 8) → (Xi T1 (248 + ru) 5 = Xi S (248 + ru) 5 ∧ Xi T1 (248 + ru) 6 = Xi S (248 + ru) 6 ∧ Xi T1 (248 + ru) 7 = Xi S (248 + ru) 7) → (0 ≤ Xi S 19 (Xi T1 (248 + ru) 1).toNat) → (MAD T1) → (∀ i : Nat, (i : Int) < v8 → TSok T1 True ((Xi S 246 5).toNat + i)) → n237 = (6 - v8).toNat → Rl lay0 (d + 4) m_rr_actingOn 237 [(0, .ref 899), (8, iv v8)] [] T1 (Q_rr_actingOn S ru from_ to) := by sorry
set_option maxRecDepth 100000 in
theorem t_rr_actingOn {S : sS} (hH : HI S) (ru : Nat) (from_ : Int) (to : Int) (hfrom_ : 0 ≤ from_ ∧ from_ ≤ 5130) (hto : 0 ≤ to ∧ to ≤ 5130) (hru : S.2.2 899 4 = some (248 + ru)) (hrk : ru < 24) (hL : LEX S) (h4 : Xi S (248 + ru) 4 = 0) (hn : Xi S 246 5 + 5 ≤ 600) (hd : 0 ≤ Xi S 899 5) (d : Nat) : Mt lay0 (d + 5) m_rr_actingOn [.ref 899, iv from_, iv to] S (Q_rr_actingOn S ru from_ to) := by sorry
end
section
/-! SAFETY of methods: printed by wip/safe (vc.py, decl.py) -/
def md_me_readThing__2 : List rec := [(895, 896, 5, 6), (895, 896, 6, 7), (895, 896, 7, 8)]
abbrev Q_me_readThing__2 (S : sS) (from_ : Int) (limit : Int) : pst := fun r S1 => HI S1 ∧ FR md_me_readThing__2 S S1 ∧ (∃ z : Int, r = some (iv z) ∧ (0 ≤ z ∧ z ≤ 5142) ∧ (from_ ≤ z) ∧ (Xi S1 895 5 = -2 → 0 ≤ Xi S 895 4) ∧ (Xi S1 895 5 ≠ -1 → 0 ≤ Xi S1 895 6) ∧ (Xi S1 895 5 = -1 → Xi S1 895 6 = -1) ∧ (z ≤ from_ + 2 ∨ z ≤ Xi S 876 7))
set_option maxRecDepth 100000 in
theorem t_me_readThing__2 {S : sS} (hH : HI S) (from_ : Int) (limit : Int) (hfrom_ : 0 ≤ from_ ∧ from_ ≤ 5140) (hlimit : -1 ≤ limit ∧ limit ≤ 5140) (hL : LEX S) (d : Nat) : Mt lay0 (d + 2) m_me_readThing [.ref 895, iv from_, iv limit] S (Q_me_readThing__2 S from_ limit) := by sorry
def md_rr_movePhrase : List rec := [(276, 876, 0, 1), (276, 876, 2, 3), (276, 876, 6, 7), (876, 877, 8, 9), (876, 877, 9, 10), (895, 896, 5, 6), (895, 896, 6, 7), (895, 896, 7, 8)]
abbrev Q_rr_movePhrase (S : sS) (from_ : Int) (to : Int) (cl : Nat) : pst := fun r S1 => HI S1 ∧ FR md_rr_movePhrase S S1 ∧ (∃ z : Int, r = some (iv z) ∧ (0 ≤ z ∧ z ≤ 1) ∧ (KCL S S1 cl) ∧ (z = 1 → CLok S1 (0 ≤ Xi S 895 4) cl) ∧ (z = 0 → Xi S1 876 8 ≠ 0))
set_option maxRecDepth 100000 in
theorem t_rr_movePhrase {S : sS} (hH : HI S) (from_ : Int) (to : Int) (cl : Nat) (hfrom_ : 0 ≤ from_ ∧ from_ ≤ 5130) (hto : 0 ≤ to ∧ to ≤ 5130) (hcl : cl < 600) (hL : LEX S) (d : Nat) : Mt lay0 (d + 3) m_rr_movePhrase [.ref 899, iv from_, iv to, .ref (276 + cl)] S (Q_rr_movePhrase S from_ to cl) := by sorry
def md_rr_otherPhrase : List rec := [(276, 876, 0, 1), (276, 876, 2, 3), (276, 876, 3, 4), (276, 876, 4, 5), (276, 876, 6, 7), (876, 877, 8, 9), (876, 877, 9, 10), (895, 896, 5, 6), (895, 896, 6, 7), (895, 896, 7, 8)]
abbrev Q_rr_otherPhrase (S : sS) (key : Int) (from_ : Int) (to : Int) (cl : Nat) : pst := fun r S1 => HI S1 ∧ FR md_rr_otherPhrase S S1 ∧ (∃ z : Int, r = some (iv z) ∧ (0 ≤ z ∧ z ≤ 1) ∧ (KCL S S1 cl) ∧ (z = 1 → CLok S1 (0 ≤ Xi S 895 4) cl) ∧ (z = 0 → Xi S1 876 8 ≠ 0))
set_option maxRecDepth 100000 in
theorem t_rr_otherPhrase {S : sS} (hH : HI S) (key : Int) (from_ : Int) (to : Int) (cl : Nat) (hkey : 0 ≤ key ∧ key ≤ 108) (hfrom_ : 0 ≤ from_ ∧ from_ ≤ 5142) (hto : 0 ≤ to ∧ to ≤ 5140) (hcl : cl < 600) (hL : LEX S) (hk : key ≠ 107 → from_ ≤ 5129 ∧ to ≤ 5130) (hf : Xi S (276 + cl) 0 = 11) (d : Nat) : Mt lay0 (d + 4) m_rr_otherPhrase [.ref 899, iv key, iv from_, iv to, .ref (276 + cl)] S (Q_rr_otherPhrase S key from_ to cl) := by sorry
/-! SAFETY of methods: printed by wip/safe (vc.py, decl.py) -/
/-! SAFETY: definitions and rules told -/
/-- what holds between sentences, but for the count of clauses -/
def WX (S : sS) : Prop := LEX S ∧ TX S ∧ DEF S ∧ RUL S ∧ CMD S ∧ AK S ∧ VAL S
theorem wx_of {S : sS} (h : WI S) : WX S := by sorry
theorem WX_g {l : List rec} {S T : sS} (hH : HI S) (h : FR l S T) (g : sG S T) (e1 : mdf l 1 3 = false) (e2 : dL l = true) (e3 : (kdis l kX && !(mdf l 20 1)) = true) (e5 : kdis l [(5, 6), (11, 14)] = true) (e6 : (kdis l [(248, 272)] && !(mdf l 246 2)) = true) (e7 : (kdis l [(5, 6), (19, 20), (883, 884), (885, 887)] && !(mdf l 882 3)) = true) (e8 : kdis l [(8, 9)] = true) (e9 : kdis l [(19, 20), (5, 6)] = true) (hW : WX S) : WX T := by sorry
theorem WI_df {l : List rec} {S T : sS} {n : Int} (hH : HI S) (h : FR l S T) (e3 : (kdis l kX && !(mdf l 20 1)) = true) (e4 : (kdis l kG && (!(mdf l 20 1) && (!(mdf l 246 8) && !(mdf l 246 5)))) = true) (e6 : (kdis l [(248, 272)] && !(mdf l 246 2)) = true) (e7 : (kdis l [(883, 884), (885, 887), (19, 20)] && !(mdf l 882 3)) = true) (e8 : kdis l [(8, 9)] = true) (hL : LEX T) (ho : ∀ j, j ≠ 3 → Xi T 5 j = Xi S 5 j) (h3 : Xi T 5 3 = Xi S 5 3 + 1) (hn : n = Xi S 5 3) (h11 : ∀ a : Nat, a ≠ n.toNat → Xi T 11 a = Xi S 11 a ∧ Xi T 12 a = Xi S 12 a ∧ Xi T 13 a = Xi S 13 a) (hf : Xi T 12 n.toNat = Xi S 246 5 - Xi S 899 6) (ht : Xi T 13 n.toNat = Xi S 899 6) (hb : 0 ≤ Xi S 899 6 ∧ Xi S 899 6 ≤ Xi S 246 5 ∧ Xi S 246 5 ≤ 600) (hk : ∀ i : Nat, (i : Int) < Xi S 899 6 → TSok S True ((Xi S 246 5 - Xi S 899 6).toNat + i)) (hcc : Xi S 246 5 ≤ 19 * Xi S 246 2 + 6 * (Xi S 5 3 + 1)) (hW : WX S) : WI T := by sorry
theorem WI_ru {l : List rec} {S T : sS} {r : Nat} (hH : HI S) (h : FR l S T) (g : sG S T) (k : KRU S T r) (e1 : mdf l 1 3 = false) (e2 : dL l = true) (e3 : (kdis l kX && !(mdf l 20 1)) = true) (e5 : kdis l [(5, 6), (11, 14)] = true) (e7 : (kdis l [(5, 6), (19, 20), (883, 884), (885, 887)] && !(mdf l 882 3)) = true) (e8 : kdis l [(8, 9)] = true) (e9 : kdis l [(19, 20), (5, 6)] = true) (hr : (r : Int) = Xi S 246 2) (h2 : Xi T 246 2 = Xi S 246 2 + 1) (hc : Xi T 246 5 ≤ Xi S 246 5 + 19) (hu : RUL1 T r) (hW : WI S) : WI T := by sorry
def md_rr_keepTests : List rec := [(12, 13, 0, 100000), (13, 14, 0, 100000)]
abbrev Q_rr_keepTests (S : sS) (adj : Int) : pst := fun r S1 => HI S1 ∧ FR md_rr_keepTests S S1 ∧ (r = none ∧ (Xi S1 12 adj.toNat = Xi S 246 5 - Xi S 899 6 ∧ Xi S1 13 adj.toNat = Xi S 899 6) ∧ (∀ j : Nat, j ≠ adj.toNat → Xi S1 12 j = Xi S 12 j ∧ Xi S1 13 j = Xi S 13 j))
set_option maxRecDepth 100000 in
theorem t_rr_keepTests {S : sS} (hH : HI S) (adj : Int) (hadj : 0 ≤ adj ∧ adj ≤ 23) (d : Nat) : Mt lay0 (d + 1) m_rr_keepTests [.ref 899, iv adj] S (Q_rr_keepTests S adj) := by sorry
def md_re_startDefinition__2 : List rec := [(876, 877, 8, 9), (876, 877, 9, 10), (891, 892, 9, 10), (892, 893, 0, 100000), (893, 894, 0, 100000), (895, 896, 3, 4), (895, 896, 4, 5)]
abbrev Q_re_startDefinition__2 (S : sS) : pst := fun r S1 => HI S1 ∧ FR md_re_startDefinition__2 S S1 ∧ (∃ z : Int, r = some (iv z) ∧ (0 ≤ z ∧ z ≤ 1) ∧ (z = 0 → Xi S1 876 8 ≠ 0) ∧ (z = 1 → Xi S1 5 3 < 24) ∧ (z = 1 → 0 ≤ Xi S1 895 4))
set_option maxRecDepth 100000 in
theorem t_re_startDefinition__2 {S : sS} (hH : HI S) (hL : LEX S) (hn0 : Xi S 891 9 = 0) (d : Nat) : Mt lay0 (d + 3) m_re_startDefinition [.ref 891] S (Q_re_startDefinition__2 S) := by sorry
def md_re_endDefinition : List rec := [(1, 2, 3, 4), (2, 3, 0, 100000), (3, 4, 0, 100000), (4, 5, 0, 100000), (5, 6, 0, 100000), (10, 11, 0, 100000), (11, 12, 0, 100000), (12, 13, 0, 100000), (13, 14, 0, 100000)]
abbrev Q_re_endDefinition (S : sS) : pst := fun r S1 => HI S1 ∧ FR md_re_endDefinition S S1 ∧ (∃ z : Int, r = some (iv z) ∧ (0 ≤ z ∧ z ≤ 1) ∧ (WI S1) ∧ (z = 1))
set_option maxRecDepth 100000 in
theorem t_re_endDefinition {S : sS} (hH : HI S) (hX : WX S) (hc3 : Xi S 5 3 < 24) (hs : 0 ≤ Xi S 895 4) (hcc : Xi S 246 5 ≤ 19 * Xi S 246 2 + 6 * (Xi S 5 3 + 1)) (h6 : Xi S 899 6 ≤ Xi S 246 5 ∧ Xi S 246 5 ≤ 600) (ht : ∀ i : Nat, (i : Int) < Xi S 899 6 → TSok S True ((Xi S 246 5 - Xi S 899 6).toNat + i)) (d : Nat) : Mt lay0 (d + 4) m_re_endDefinition [.ref 891] S (Q_re_endDefinition S) := by sorry
end
section
/-! SAFETY of methods: printed by wip/safe (vc.py, decl.py) -/
def md_rr_ruleHead : List rec := [(246, 247, 5, 6), (248, 272, 0, 100000), (276, 876, 0, 1), (276, 876, 1, 2), (276, 876, 2, 3), (276, 876, 3, 4), (276, 876, 4, 5), (276, 876, 5, 6), (276, 876, 6, 7), (876, 877, 8, 9), (876, 877, 9, 10), (895, 896, 3, 4), (895, 896, 4, 5), (895, 896, 5, 6), (895, 896, 6, 7), (895, 896, 7, 8), (895, 896, 8, 9), (895, 896, 9, 10), (895, 896, 12, 13), (895, 896, 13, 14), (895, 896, 14, 15), (896, 897, 0, 100000), (897, 898, 0, 100000), (898, 899, 0, 100000), (899, 900, 4, 5), (899, 900, 5, 6)]
abbrev Q_rr_ruleHead (S : sS) (sort : Int) : pst := fun r S1 => HI S1 ∧ FR md_rr_ruleHead S S1 ∧ (∃ z : Int, r = some (iv z) ∧ (0 ≤ z ∧ z ≤ 1) ∧ (z = 1 → sG S S1) ∧ (z = 1 → KRU S S1 (Xi S 246 2).toNat) ∧ (z = 1 → S1.2.2 899 4 = some (248 + (Xi S 246 2).toNat)) ∧ (z = 1 → Xi S 246 2 < 24) ∧ (z = 1 → RB S1 (Xi S 246 2).toNat (Xi S 246 5) 0 0) ∧ (z = 1 → Xi S1 (248 + (Xi S 246 2).toNat) 5 = 0 ∧ Xi S1 (248 + (Xi S 246 2).toNat) 6 = 0) ∧ (z = 0 → Xi S1 876 8 ≠ 0))
set_option maxRecDepth 100000 in
theorem c151_rr_ruleHead {S : sS} (hH : HI S) (sort : Int) (hsort : 3 ≤ sort ∧ sort ≤ 6) (hL : LEX S) (hn : Xi S 246 2 < 24 → Xi S 246 5 + 5 ≤ 600) (d : Nat) : ∀  (T1 : sS) (_ : HI T1) (_ : FR md_rr_ruleHead S T1), (sG S T1) → (KRU S T1 (Xi S 246 2).toNat) → (T1.2.2 899 4 = some (248 + (Xi S 246 2).toNat)) → (Xi S 246 2 < 24) → (0 ≤ Xi T1 (248 + (Xi S 246 2).toNat) 1 ∧ Xi T1 (248 + (Xi S 246 2).toNat) 1 < Xi T1 5 8) → ((Xi T1 (248 + (Xi S 246 2).toNat) 2 ≠ -1 ∨ Xi T1 (248 + (Xi S 246 2).toNat) 3 ≠ -1 ∨ 0 < Xi T1 (248 + (Xi S 246 2).toNat) 4) → 0 ≤ Xi T1 19 (Xi T1 (248 + (Xi S 246 2).toNat) 1).toNat) → (∀ i : Nat, (i : Int) < Xi T1 (248 + (Xi S 246 2).toNat) 4 → TSok T1 True ((Xi S 246 5).toNat + i)) → (Xi T1 246 5 = Xi S 246 5 + Xi T1 (248 + (Xi S 246 2).toNat) 4) → (Xi T1 (248 + (Xi S 246 2).toNat) 7 = Xi S 246 5 ∧ Xi T1 (248 + (Xi S 246 2).toNat) 5 = 0 ∧ Xi T1 (248 + (Xi S 246 2).toNat) 6 = 0) → Rl lay0 (d + 5) m_rr_ruleHead 151 [(0, .ref 899)] [] T1 (Q_rr_ruleHead S sort) := by sorry
set_option maxRecDepth 100000 in
theorem c67_rr_ruleHead {S : sS} (hH : HI S) (sort : Int) (hsort : 3 ≤ sort ∧ sort ≤ 6) (hL : LEX S) (hn : Xi S 246 2 < 24 → Xi S 246 5 + 5 ≤ 600) (d : Nat) : ∀  (T3 : sS) (_ : HI T3) (_ : FR md_rr_ruleHead S T3), (sG S T3) → (KRU S T3 (Xi S 246 2).toNat) → (T3.2.2 899 4 = some (248 + (Xi S 246 2).toNat)) → (Xi S 246 2 < 24) → (Xi T3 (248 + (Xi S 246 2).toNat) 1 = -1 ∧ Xi T3 (248 + (Xi S 246 2).toNat) 2 = -1 ∧ Xi T3 (248 + (Xi S 246 2).toNat) 3 = -1 ∧ Xi T3 (248 + (Xi S 246 2).toNat) 4 = 0 ∧ Xi T3 (248 + (Xi S 246 2).toNat) 5 = 0 ∧ Xi T3 (248 + (Xi S 246 2).toNat) 6 = 0 ∧ Xi T3 (248 + (Xi S 246 2).toNat) 7 = Xi S 246 5) → (Xi T3 246 5 = Xi S 246 5) → (Xi T3 895 4 = -1) → (0 ≤ Xi T3 5 8) → (1 ≤ Xi T3 899 5 ∧ Xi T3 899 5 ≤ 2) → Rl lay0 (d + 5) m_rr_ruleHead 67 [(0, .ref 899), (1, iv sort)] [] T3 (Q_rr_ruleHead S sort) := by sorry
set_option maxRecDepth 100000 in
theorem t_rr_ruleHead {S : sS} (hH : HI S) (sort : Int) (hsort : 3 ≤ sort ∧ sort ≤ 6) (hL : LEX S) (hn : Xi S 246 2 < 24 → Xi S 246 5 + 5 ≤ 600) (d : Nat) : Mt lay0 (d + 6) m_rr_ruleHead [.ref 899, iv sort] S (Q_rr_ruleHead S sort) := by sorry
/-! SAFETY of methods: printed by wip/safe (vc.py, decl.py) -/
theorem tok_cl {S U : sS} {c j : Nat} {v : Int32} (e : U = uI S (276 + c) j v) (hc : c < 600) (h : TOK S) : TOK U := by sorry
def md_rr_sayText : List rec := [(246, 247, 8, 9), (274, 275, 0, 100000), (275, 276, 0, 100000), (276, 876, 0, 1), (276, 876, 3, 4), (276, 876, 4, 5), (276, 876, 5, 6), (876, 877, 7, 8), (876, 877, 8, 9), (876, 877, 9, 10), (877, 878, 0, 100000), (878, 879, 0, 100000), (879, 880, 0, 100000), (895, 896, 5, 6), (895, 896, 6, 7), (895, 896, 7, 8)]
abbrev Q_rr_sayText (S : sS) (ts : Nat) (row : Int) (cl : Nat) : pst := fun r S1 => HI S1 ∧ FR md_rr_sayText S S1 ∧ (∃ z : Int, r = some (iv z) ∧ (0 ≤ z ∧ z ≤ 1) ∧ (KCL S S1 cl) ∧ (z = 1 → CLok S1 (0 ≤ Xi S 895 4) cl) ∧ (z = 1 → IGR S S1 (0 ≤ Xi S 895 4)) ∧ (z = 1 → KTK S S1 (Xi S 876 6)) ∧ (z = 1 → TOK S1) ∧ (z = 1 → Xi S 876 6 ≤ Xi S1 876 7) ∧ (z = 0 → Xi S1 876 8 ≠ 0))
set_option maxRecDepth 100000 in
theorem c59_rr_sayText {S : sS} (hH : HI S) (ts : Nat) (row : Int) (cl : Nat) (hrow : 0 ≤ row ∧ row ≤ 5130) (hcl : cl < 600) (hts : S.2.2 876 4 = some ts) (htp : tp ts) (hL : LEX S) (hT : TOK S) (hS : SRX S) (hx : ts = txr S) (hcr : Xi S 876 6 ≤ Xi S 876 7) (ht : row < Xi S 876 6 ∧ Xi S 877 row.toNat = 102) (d : Nat) : ∀ (n59 : Nat) (T1 : sS) (_ : HI T1) (_ : FR md_rr_sayText S T1) (v4 : Int) (v5 : Int) (v6 : Int), (0 ≤ v4 ∧ v4 ≤ 5000) → (-1 ≤ v5 ∧ v5 ≤ 4999) → (1 ≤ v6 ∧ v6 ≤ 5000) → (KCL S T1 cl) → (Xi T1 (276 + cl) 0 = 7 ∧ Xi T1 (276 + cl) 3 = Xi S 246 8 ∧ Xi T1 (276 + cl) 4 = (Xi S 878 row.toNat + 1) ∧ Xi T1 (276 + cl) 5 = v4 - (Xi S 878 row.toNat + 1)) → (v4 = (Xi S 878 row.toNat + 1) + Xj S 879 row.toNat) → ((Xi S 878 row.toNat + 1) ≤ v6 ∧ v6 ≤ v4) → (v5 ≠ -1 → (Xi S 878 row.toNat + 1) ≤ v5 ∧ v5 < v6) → (TOK T1) → (Xi S 876 6 ≤ Xi T1 876 7) → (KTK S T1 (Xi S 876 6)) → (IGR S T1 (0 ≤ Xi S 895 4)) → (NB S T1 ts (Xi S 246 8) (Xi S 878 row.toNat + 1) (v6 - (Xi S 878 row.toNat + 1)) v5) → n59 = (5001 - v6).toNat → Rl lay0 (d + 4) m_rr_sayText 59 [(0, .ref 899), (1, iv row), (4, iv v4), (5, iv v5), (6, iv v6)] [] T1 (Q_rr_sayText S ts row cl) := by sorry
set_option maxRecDepth 100000 in
theorem t_rr_sayText {S : sS} (hH : HI S) (ts : Nat) (row : Int) (cl : Nat) (hrow : 0 ≤ row ∧ row ≤ 5130) (hcl : cl < 600) (hts : S.2.2 876 4 = some ts) (htp : tp ts) (hL : LEX S) (hT : TOK S) (hS : SRX S) (hx : ts = txr S) (hcr : Xi S 876 6 ≤ Xi S 876 7) (ht : row < Xi S 876 6 ∧ Xi S 877 row.toNat = 102) (d : Nat) : Mt lay0 (d + 5) m_rr_sayText [.ref 899, iv row, .ref (276 + cl)] S (Q_rr_sayText S ts row cl) := by sorry
end
section
/-! SAFETY of methods: printed by wip/safe (vc.py, decl.py) -/
/-! SAFETY of the reference: kinds, texts -/
def ABV (S : sS) : Prop := ∀ k : Nat, k < 16 → Xi S 917 k < k
theorem ABV_FR {l : List rec} {S T : sS} (h : FR l S T) (e : kdis l [(917, 918)] = true) (hB : ABV S) : ABV T := by sorry
def OKT (v n : Int) : Prop := n = 0 ∨ (0 < n ∧ 0 ≤ v ∧ v + n ≤ 5000)
theorem okt_2 {a b c d : Int} (h : OKT a b) (e1 : c = a) (e2 : d = b) : OKT c d := by sorry
def mD (l : List rec) (js : List Nat) : Bool := js.all (fun j => !(mdf l 904 j))
theorem mD_x {l : List rec} {js : List Nat} {S T : sS} (h : FR l S T) (e : mD l js = true) (j : Nat) (hj : j ∈ js) : Xi T 904 j = Xi S 904 j := by sorry
/-- kinds of objects, and what was told of texts -/
def TXM (S : sS) : Prop := (∀ o : Int, 0 ≤ o → o < Xi S 904 19 → Xi S 918 o.toNat < Xi S 904 16) ∧
  (∀ o p : Int, 0 ≤ o → o < Xi S 904 19 → 0 ≤ p → p < 12 → Xi S 930 (12 * o + p).toNat ≠ 0 → p < Xi S 904 32 ∧ (Xi S 928 p.toNat = 1 → OKT (Xi S 931 (12 * o + p).toNat) (Xi S 932 (12 * o + p).toNat))) ∧
  ∀ o p : Int, 0 ≤ o → o < Xi S 904 16 → 0 ≤ p → p < 12 → Xi S 933 (12 * o + p).toNat ≠ 0 → p < Xi S 904 32 ∧ (Xi S 928 p.toNat = 1 → OKT (Xi S 934 (12 * o + p).toNat) (Xi S 935 (12 * o + p).toNat))
theorem TXM_FR {l : List rec} {S T : sS} (h : FR l S T) (e : (kdis l [(930, 936), (928, 929), (918, 919)] && mD l [16, 19, 32]) = true) (hX : TXM S) : TXM T := by sorry
def bp (k : Nat) : Prop := k = 905 ∨ k = 906
theorem bp_sv {k : Nat} (h : bp k) : Nat.ble SV k = false := by sorry
theorem lay_bp {k : Nat} (h : bp k) : lay0 k = (3, 5000) := by sorry
theorem bpc {S : sS} {t j : Nat} (h : HI S) (ht : bp t) : -128 ≤ Xi S t j ∧ Xi S t j ≤ 127 := by sorry
def sml (c : Int) : Int := if 65 ≤ c ∧ c ≤ 90 then c + 32 else c
def ltr (c : Int) : Int := if 97 ≤ sml c ∧ sml c ≤ 122 then 1 else 0
theorem ltr_of {z x : Int} (h0 : 0 ≤ z ∧ z ≤ 1) (h : (z = 1 → 97 ≤ x ∧ x ≤ 122) ∧ (z = 0 → x < 97 ∨ 122 < x)) : z = if 97 ≤ x ∧ x ≤ 122 then 1 else 0 := by sorry
theorem div9 {a b c : Int} (hb : 0 < b) (h0 : 0 ≤ a → c = a / b) (hn : a < 0 → a ≤ c ∧ c ≤ 0) (q : 9 < c) : b * 10 ≤ a := by sorry
abbrev Q_mo_in (S : sS) (v : Int) (lo : Int) (hi : Int) : pst := fun r S1 => S = S1 ∧ (∃ z : Int, r = some (iv z) ∧ (0 ≤ z ∧ z ≤ 1) ∧ ((z = 1 → lo ≤ v ∧ v ≤ hi) ∧ (z = 0 → v < lo ∨ hi < v)))
set_option maxRecDepth 100000 in
theorem t_mo_in {S : sS} (hH : HI S) (v : Int) (lo : Int) (hi : Int) (hv : -2147483648 ≤ v ∧ v ≤ 2147483647) (hlo : -2147483648 ≤ lo ∧ lo ≤ 2147483647) (hhi : -2147483648 ≤ hi ∧ hi ≤ 2147483647) (d : Nat) : Mt lay0 (d + 1) m_mo_in [iv v, iv lo, iv hi] S (Q_mo_in S v lo hi) := by sorry
abbrev Q_mo_isBelow (S : sS) (kind : Int) (of_ : Int) : pst := fun r S1 => S = S1 ∧ (∃ z : Int, r = some (iv z) ∧ (0 ≤ z ∧ z ≤ 1) ∧ (z = 1 → 0 ≤ kind ∧ 0 ≤ of_))
set_option maxRecDepth 100000 in
theorem t_mo_isBelow {S : sS} (hH : HI S) (kind : Int) (of_ : Int) (hkind : -1 ≤ kind ∧ kind ≤ 15) (hof_ : -2147483648 ≤ of_ ∧ of_ ≤ 2147483647) (hB : ABV S) (d : Nat) : Mt lay0 (d + 1) m_mo_isBelow [.ref 904, iv kind, iv of_] S (Q_mo_isBelow S kind of_) := by sorry
abbrev Q_mo_thingIs (S : sS) (thing : Int) (it : Int) (noun : Int) : pst := fun r S1 => S = S1 ∧ (∃ z : Int, r = some (iv z) ∧ (-2147483648 ≤ z ∧ z ≤ 2147483647) ∧ ((thing = -1 → z = it) ∧ (thing = -2 → z = noun) ∧ (thing ≠ -1 → thing ≠ -2 → z = thing)))
set_option maxRecDepth 100000 in
theorem t_mo_thingIs {S : sS} (hH : HI S) (thing : Int) (it : Int) (noun : Int) (hthing : -2147483648 ≤ thing ∧ thing ≤ 2147483647) (hit : -2147483648 ≤ it ∧ it ≤ 2147483647) (hnoun : -2147483648 ≤ noun ∧ noun ≤ 2147483647) (d : Nat) : Mt lay0 (d + 1) m_mo_thingIs [iv thing, iv it, iv noun] S (Q_mo_thingIs S thing it noun) := by sorry
abbrev Q_mo_small (S : sS) (c : Int) : pst := fun r S1 => S = S1 ∧ (∃ z : Int, r = some (iv z) ∧ (-2147483648 ≤ z ∧ z ≤ 2147483647) ∧ (z = sml c) ∧ (-128 ≤ c → c ≤ 127 → -128 ≤ z ∧ z ≤ 127))
set_option maxRecDepth 100000 in
theorem t_mo_small {S : sS} (hH : HI S) (c : Int) (hc : -2147483648 ≤ c ∧ c ≤ 2147483600) (d : Nat) : Mt lay0 (d + 2) m_mo_small [iv c] S (Q_mo_small S c) := by sorry
abbrev Q_mo_isLetter (S : sS) (c : Int) : pst := fun r S1 => S = S1 ∧ (∃ z : Int, r = some (iv z) ∧ (0 ≤ z ∧ z ≤ 1) ∧ (z = ltr c))
set_option maxRecDepth 100000 in
theorem t_mo_isLetter {S : sS} (hH : HI S) (c : Int) (hc : -2147483648 ≤ c ∧ c ≤ 2147483600) (d : Nat) : Mt lay0 (d + 3) m_mo_isLetter [iv c] S (Q_mo_isLetter S c) := by sorry
abbrev Q_mo_wordOf (S : sS) (t : Nat) (from_ : Int) (n : Int) : pst := fun r S1 => S = S1 ∧ (∃ z : Int, r = some (jw z))
set_option maxRecDepth 100000 in
theorem t_mo_wordOf {S : sS} (hH : HI S) (t : Nat) (from_ : Int) (n : Int) (ht : bp t) (hfrom_ : 0 ≤ from_ ∧ from_ ≤ 5000) (hn : 0 ≤ n ∧ n ≤ 5000) (hn : from_ + n ≤ 5000) (d : Nat) : Mt lay0 (d + 3) m_mo_wordOf [.ref t, iv from_, iv n] S (Q_mo_wordOf S t from_ n) := by sorry
abbrev Q_mo_keyOf (S : sS) (w : Int) : pst := fun r S1 => S = S1 ∧ (∃ z : Int, r = some (iv z) ∧ (0 ≤ z ∧ z ≤ 154))
set_option maxRecDepth 100000 in
theorem t_mo_keyOf {S : sS} (hH : HI S) (w : Int) (d : Nat) : Mt lay0 (d + 1) m_mo_keyOf [.ref 904, jw w] S (Q_mo_keyOf S w) := by sorry
abbrev Q_mo_isArt (S : sS) (k : Int) : pst := fun r S1 => S = S1 ∧ (∃ z : Int, r = some (iv z) ∧ (0 ≤ z ∧ z ≤ 1) ∧ (z = 1 → 100 ≤ k ∧ k ≤ 103))
set_option maxRecDepth 100000 in
theorem t_mo_isArt {S : sS} (hH : HI S) (k : Int) (hk : -2147483648 ≤ k ∧ k ≤ 2147483647) (d : Nat) : Mt lay0 (d + 1) m_mo_isArt [iv k] S (Q_mo_isArt S k) := by sorry
abbrev Q_mo_find (S : sS) (a : Int) (b : Int) (c : Int) (n : Int) : pst := fun r S1 => S = S1 ∧ (∃ z : Int, r = some (iv z) ∧ (-1 ≤ z ∧ z ≤ 299) ∧ (z ≠ -1 → z < Xi S 904 15))
set_option maxRecDepth 100000 in
theorem t_mo_find {S : sS} (hH : HI S) (a : Int) (b : Int) (c : Int) (n : Int) (hn : -2147483648 ≤ n ∧ n ≤ 2147483647) (d : Nat) : Mt lay0 (d + 1) m_mo_find [.ref 904, jw a, jw b, jw c, iv n] S (Q_mo_find S a b c n) := by sorry
abbrev Q_mo_lexOf (S : sS) (sort : Int) (ix : Int) : pst := fun r S1 => S = S1 ∧ (∃ z : Int, r = some (iv z) ∧ (-1 ≤ z ∧ z ≤ 299) ∧ (z ≠ -1 → z < Xi S 904 15))
set_option maxRecDepth 100000 in
theorem t_mo_lexOf {S : sS} (hH : HI S) (sort : Int) (ix : Int) (hsort : -2147483648 ≤ sort ∧ sort ≤ 2147483647) (hix : -2147483648 ≤ ix ∧ ix ≤ 2147483647) (d : Nat) : Mt lay0 (d + 1) m_mo_lexOf [.ref 904, iv sort, iv ix] S (Q_mo_lexOf S sort ix) := by sorry
abbrev Q_mo_letterOf (S : sS) (w : Int) (k : Int) : pst := fun r S1 => S = S1 ∧ (∃ z : Int, r = some (iv z) ∧ (-2147483648 ≤ z ∧ z ≤ 2147483647) ∧ (z ≠ -1 → k < 12))
set_option maxRecDepth 100000 in
theorem t_mo_letterOf {S : sS} (hH : HI S) (w : Int) (k : Int) (hk : 0 ≤ k ∧ k ≤ 2147483647) (d : Nat) : Mt lay0 (d + 1) m_mo_letterOf [jw w, iv k] S (Q_mo_letterOf S w k) := by sorry
abbrev Q_mo_byteOf (S : sS) (lex : Int) (k : Int) : pst := fun r S1 => S = S1 ∧ (∃ z : Int, r = some (iv z) ∧ (-2147483648 ≤ z ∧ z ≤ 2147483647) ∧ (z ≠ -1 → k ≤ 40))
set_option maxRecDepth 100000 in
theorem t_mo_byteOf {S : sS} (hH : HI S) (lex : Int) (k : Int) (hlex : 0 ≤ lex ∧ lex ≤ 299) (hk : 0 ≤ k ∧ k ≤ 2147483647) (d : Nat) : Mt lay0 (d + 2) m_mo_byteOf [.ref 904, iv lex, iv k] S (Q_mo_byteOf S lex k) := by sorry
def md_mo_put : List rec := [(904, 905, 156, 157), (993, 994, 0, 100000)]
abbrev Q_mo_put (S : sS) (c : Int) : pst := fun r S1 => HI S1 ∧ FR md_mo_put S S1 ∧ (r = none)
set_option maxRecDepth 100000 in
theorem t_mo_put {S : sS} (hH : HI S) (c : Int) (hc : -2147483648 ≤ c ∧ c ≤ 2147483647) (d : Nat) : Mt lay0 (d + 1) m_mo_put [.ref 904, iv c] S (Q_mo_put S c) := by sorry
def md_mo_putNumber : List rec := [(904, 905, 156, 157), (993, 994, 0, 100000)]
abbrev Q_mo_putNumber (S : sS) (x : Int) : pst := fun r S1 => HI S1 ∧ FR md_mo_putNumber S S1 ∧ (r = none)
set_option maxRecDepth 100000 in
theorem t_mo_putNumber {S : sS} (hH : HI S) (x : Int) (hx : -2147483648 ≤ x ∧ x ≤ 2147483647) (d : Nat) : Mt lay0 (d + 2) m_mo_putNumber [.ref 904, iv x] S (Q_mo_putNumber S x) := by sorry
def md_mo_putLex : List rec := [(904, 905, 156, 157), (993, 994, 0, 100000)]
abbrev Q_mo_putLex (S : sS) (lex : Int) : pst := fun r S1 => HI S1 ∧ FR md_mo_putLex S S1 ∧ (r = none)
set_option maxRecDepth 100000 in
theorem t_mo_putLex {S : sS} (hH : HI S) (lex : Int) (hlex : -1 ≤ lex ∧ lex ≤ 299) (d : Nat) : Mt lay0 (d + 3) m_mo_putLex [.ref 904, iv lex] S (Q_mo_putLex S lex) := by sorry
abbrev Q_mo_has (S : sS) (kind : Int) (p : Int) : pst := fun r S1 => S = S1 ∧ (∃ z : Int, r = some (iv z) ∧ (0 ≤ z ∧ z ≤ 1) ∧ (z = 1 → 0 ≤ kind))
set_option maxRecDepth 100000 in
theorem t_mo_has {S : sS} (hH : HI S) (kind : Int) (p : Int) (hkind : -1 ≤ kind ∧ kind ≤ 15) (hp : 0 ≤ p ∧ p ≤ 11) (hB : ABV S) (d : Nat) : Mt lay0 (d + 1) m_mo_has [.ref 904, iv kind, iv p] S (Q_mo_has S kind p) := by sorry
abbrev Q_mo_kindOfWay (S : sS) (m : Int) : pst := fun r S1 => S = S1 ∧ (∃ z : Int, r = some (iv z) ∧ (0 ≤ z ∧ z ≤ 4))
set_option maxRecDepth 100000 in
theorem t_mo_kindOfWay {S : sS} (hH : HI S) (m : Int) (hm : -2147483648 ≤ m ∧ m ≤ 2147483647) (d : Nat) : Mt lay0 (d + 1) m_mo_kindOfWay [iv m] S (Q_mo_kindOfWay S m) := by sorry
abbrev Q_mo_mayHold (S : sS) (m : Int) (kind : Int) : pst := fun r S1 => S = S1 ∧ (∃ z : Int, r = some (iv z) ∧ (0 ≤ z ∧ z ≤ 1))
set_option maxRecDepth 100000 in
theorem t_mo_mayHold {S : sS} (hH : HI S) (m : Int) (kind : Int) (hm : -2147483648 ≤ m ∧ m ≤ 2147483647) (hkind : -1 ≤ kind ∧ kind ≤ 15) (hB : ABV S) (d : Nat) : Mt lay0 (d + 2) m_mo_mayHold [.ref 904, iv m, iv kind] S (Q_mo_mayHold S m kind) := by sorry
abbrev Q_mo_isWithin (S : sS) (o : Int) (h : Int) : pst := fun r S1 => S = S1 ∧ (∃ z : Int, r = some (iv z) ∧ (0 ≤ z ∧ z ≤ 1))
set_option maxRecDepth 100000 in
theorem t_mo_isWithin {S : sS} (hH : HI S) (o : Int) (h : Int) (ho : -1 ≤ o ∧ o ≤ 23) (hh : -2147483648 ≤ h ∧ h ≤ 2147483647) (d : Nat) : Mt lay0 (d + 1) m_mo_isWithin [.ref 904, iv o, iv h] S (Q_mo_isWithin S o h) := by sorry
abbrev Q_mo_rank (S : sS) (f : Int) : pst := fun r S1 => S = S1 ∧ (∃ z : Int, r = some (iv z) ∧ (0 ≤ z ∧ z ≤ 4))
set_option maxRecDepth 100000 in
theorem t_mo_rank {S : sS} (hH : HI S) (f : Int) (hf : -2147483648 ≤ f ∧ f ≤ 2147483647) (d : Nat) : Mt lay0 (d + 1) m_mo_rank [iv f] S (Q_mo_rank S f) := by sorry
abbrev Q_mo_endsTest (S : sS) (k : Int) (nw : Int) : pst := fun r S1 => S = S1 ∧ (∃ z : Int, r = some (iv z) ∧ (0 ≤ z ∧ z ≤ 1) ∧ (z = 0 → k ≠ 1 ∧ k ≠ 46))
set_option maxRecDepth 100000 in
theorem t_mo_endsTest {S : sS} (hH : HI S) (k : Int) (nw : Int) (hk : -2147483648 ≤ k ∧ k ≤ 2147483647) (hnw : 0 ≤ nw ∧ nw ≤ 1) (d : Nat) : Mt lay0 (d + 1) m_mo_endsTest [.ref 904, iv k, iv nw] S (Q_mo_endsTest S k nw) := by sorry
def md_mo_clear : List rec := [(904, 905, 156, 157)]
abbrev Q_mo_clear (S : sS) : pst := fun r S1 => HI S1 ∧ FR md_mo_clear S S1 ∧ (∃ z : Int, r = some (iv z) ∧ (0 ≤ z ∧ z ≤ 2000) ∧ (z = Xi S 904 156 ∧ Xi S1 904 156 = 0))
set_option maxRecDepth 100000 in
theorem t_mo_clear {S : sS} (hH : HI S) (d : Nat) : Mt lay0 (d + 1) m_mo_clear [.ref 904] S (Q_mo_clear S) := by sorry
def md_mo_wipe : List rec := [(904, 905, 1, 2)]
abbrev Q_mo_wipe (S : sS) : pst := fun r S1 => HI S1 ∧ FR md_mo_wipe S S1 ∧ (∃ z : Int, r = some (iv z) ∧ (0 ≤ z ∧ z ≤ 5000) ∧ (z = Xi S 904 1 ∧ Xi S1 904 1 = 0))
set_option maxRecDepth 100000 in
theorem t_mo_wipe {S : sS} (hH : HI S) (d : Nat) : Mt lay0 (d + 1) m_mo_wipe [.ref 904] S (Q_mo_wipe S) := by sorry
def md_mo_numberOf : List rec := [(904, 905, 154, 155)]
abbrev Q_mo_numberOf (S : sS) (o : Int) (p : Int) : pst := fun r S1 => HI S1 ∧ FR md_mo_numberOf S S1 ∧ (∃ z : Int, r = some (iv z) ∧ (-2147483648 ≤ z ∧ z ≤ 2147483647) ∧ (Xi S 928 p.toNat = 1 → OKT z (Xi S1 904 154)))
set_option maxRecDepth 100000 in
theorem t_mo_numberOf {S : sS} (hH : HI S) (o : Int) (p : Int) (ho : 0 ≤ o ∧ o ≤ 23) (hp : 0 ≤ p ∧ p ≤ 11) (hB : ABV S) (hX : TXM S) (ho : o < Xi S 904 19) (d : Nat) : Mt lay0 (d + 1) m_mo_numberOf [.ref 904, iv o, iv p] S (Q_mo_numberOf S o p) := by sorry
def md_mo_property_2 : List rec := [(904, 905, 154, 155)]
abbrev Q_mo_property_2 (S : sS) (o : Int) (p : Int) : pst := fun r S1 => HI S1 ∧ FR md_mo_property_2 S S1 ∧ (∃ z : Int, r = some (iv z) ∧ (-2147483648 ≤ z ∧ z ≤ 2147483647))
def md_mo_letter : List rec := [(904, 905, 154, 155)]
abbrev Q_mo_letter (S : sS) (o : Int) (p : Int) (k : Int) : pst := fun r S1 => HI S1 ∧ FR md_mo_letter S S1 ∧ (∃ z : Int, r = some (iv z) ∧ (-1 ≤ z ∧ z ≤ 255))
end
section
/-! SAFETY of methods: printed by wip/safe (vc.py, decl.py) -/
/-! SAFETY of the reference: words, tests, rules as turns want them -/
def cM (S : sS) (s : Int) : Int := if s = 0 ∨ s = 1 then Xi S 904 16 else if s = 2 ∨ s = 3 then Xi S 904 18 else if s = 4 then Xi S 904 19 else if s = 5 then Xi S 904 23 else if s = 6 then Xi S 904 30 else if s = 7 then Xi S 904 32 else if s = 8 then Xi S 904 41 else if s = 9 ∨ s = 10 then Xi S 904 47 else if s = 11 then Xi S 904 49 else 6
def LXM (S : sS) : Prop := ∀ k : Nat, (k : Int) < Xi S 904 15 → Xi S 915 k < cM S (Xi S 914 k)
theorem lxm {S : sS} {k s : Int} (h : LXM S) (h0 : 0 ≤ k) (hk : k < Xi S 904 15) (hs : Xi S 914 k.toNat = s) : Xi S 915 k.toNat < cM S s := by sorry
theorem cM0 {S : sS} : cM S 0 = Xi S 904 16 := by sorry
theorem cM1 {S : sS} : cM S 1 = Xi S 904 16 := by sorry
theorem cM2 {S : sS} : cM S 2 = Xi S 904 18 := by sorry
theorem cM3 {S : sS} : cM S 3 = Xi S 904 18 := by sorry
theorem cM4 {S : sS} : cM S 4 = Xi S 904 19 := by sorry
theorem cM5 {S : sS} : cM S 5 = Xi S 904 23 := by sorry
theorem cM6 {S : sS} : cM S 6 = Xi S 904 30 := by sorry
theorem cM7 {S : sS} : cM S 7 = Xi S 904 32 := by sorry
theorem cM8 {S : sS} : cM S 8 = Xi S 904 41 := by sorry
theorem cM9 {S : sS} : cM S 9 = Xi S 904 47 := by sorry
theorem cM10 {S : sS} : cM S 10 = Xi S 904 47 := by sorry
theorem cM11 {S : sS} : cM S 11 = Xi S 904 49 := by sorry
theorem cM12 {S : sS} : cM S 12 = 6 := by sorry
def jLX : List Nat := [15, 16, 18, 19, 23, 30, 32, 41, 47, 49]
theorem LXM_FR {l : List rec} {S T : sS} (h : FR l S T) (e : (kdis l [(914, 916)] && mD l jLX) = true) (hL : LXM S) : LXM T := by sorry
def thK (S : sS) (b c : Prop) (x : Int) : Prop := (0 ≤ x ∧ x < Xi S 904 19) ∨ (x = -1 ∧ b) ∨ (x = -2 ∧ c)
def ADM (S : sS) (a : Int) : Prop := (0 ≤ a ∧ a < Xi S 904 23) ∨ (100 ≤ a ∧ a % 100 < Xi S 904 32 ∧ a ≤ 6411)
def TQ (S : sS) (b c : Prop) (q : Nat) : Prop := thK S b c (Xi S 971 q) ∧ (Xi S 969 q = 5 → thK S b c (Xi S 975 q) ∧ 0 ≤ Xi S 972 q ∧ Xi S 972 q ≤ 5) ∧ (Xi S 969 q = 3 → ADM S (Xi S 973 q)) ∧ (Xi S 969 q ≤ 2 → 0 ≤ Xi S 972 q ∧ Xi S 972 q < Xi S 904 32) ∧ (Xi S 969 q = 0 → OKT (Xi S 973 q) (Xi S 974 q))
def DEFM (S : sS) : Prop := ∀ a : Nat, (a : Int) < Xi S 904 23 → 0 < Xi S 924 a → Xi S 923 a + Xi S 924 a ≤ 2400 ∧ ∀ k : Nat, (k : Int) < Xi S 924 a → TQ S True False ((Xi S 923 a).toNat + k)
def kQ : List (Nat × Nat) := [(969, 976), (923, 925)]
theorem TQ_FR {l : List rec} {S T : sS} {b c : Prop} {q : Nat} (h : FR l S T) (e : (kdis l kQ && mD l [19, 23, 32]) = true) (ht : TQ S b c q) : TQ T b c q := by sorry
theorem DEFM_FR {l : List rec} {S T : sS} (h : FR l S T) (e : (kdis l kQ && mD l [19, 23, 32]) = true) (hD : DEFM S) : DEFM T := by sorry
theorem thk_i {S : sS} {b c : Prop} {x it noun z : Int} (h : thK S b c x) (hb : b → 0 ≤ it) (hc : c → 0 ≤ noun) (h1 : it < Xi S 904 19) (h2 : noun < Xi S 904 19) (hz : (x = -1 → z = it) ∧ (x = -2 → z = noun) ∧ (x ≠ -1 → x ≠ -2 → z = x)) : 0 ≤ z ∧ z < Xi S 904 19 := by sorry
theorem TQ.mono {S : sS} {b c b2 c2 : Prop} {q : Nat} (hb : b → b2) (hc : c → c2) (h : TQ S b c q) : TQ S b2 c2 q := by sorry
theorem tq_at {S : sS} {c : Prop} {b : Prop} {a i q : Int} (h : DEFM S) (h0 : 0 ≤ a) (ha : a < Xi S 904 23) (hp : 0 < Xi S 924 a.toNat) (hi : 0 ≤ i) (hi2 : i < Xi S 924 a.toNat) (hf : 0 ≤ Xi S 923 a.toNat) (hq : q = Xi S 923 a.toNat + i) (hb : b) : TQ S b c q.toNat := by sorry
abbrev Q_mo_isSameText (S : sS) (a : Int) (n : Int) (b : Int) (m : Int) : pst := fun r S1 => S = S1 ∧ (∃ z : Int, r = some (iv z) ∧ (0 ≤ z ∧ z ≤ 1))
set_option maxRecDepth 100000 in
theorem t_mo_isSameText {S : sS} (hH : HI S) (a : Int) (n : Int) (b : Int) (m : Int) (ha : -2147483648 ≤ a ∧ a ≤ 2147483647) (hn : -2147483648 ≤ n ∧ n ≤ 2147483647) (hb : -2147483648 ≤ b ∧ b ≤ 2147483647) (hm : -2147483648 ≤ m ∧ m ≤ 2147483647) (hA : OKT a n) (hB2 : OKT b m) (d : Nat) : Mt lay0 (d + 1) m_mo_isSameText [.ref 904, iv a, iv n, iv b, iv m] S (Q_mo_isSameText S a n b m) := by sorry
abbrev Q_mo_kindOfThing (S : sS) (th : Int) : pst := fun r S1 => S = S1 ∧ (∃ z : Int, r = some (iv z) ∧ (-1 ≤ z ∧ z ≤ 15))
set_option maxRecDepth 100000 in
theorem t_mo_kindOfThing {S : sS} (hH : HI S) (th : Int) (hth : -9 ≤ th ∧ th ≤ 23) (ht : th ≠ -9 → -2 ≤ th) (d : Nat) : Mt lay0 (d + 1) m_mo_kindOfThing [.ref 904, iv th] S (Q_mo_kindOfThing S th) := by sorry
abbrev Q_mo_foundIn (S : sS) (from_ : Int) (n : Int) : pst := fun r S1 => S = S1 ∧ (∃ z : Int, r = some (iv z) ∧ (-1 ≤ z ∧ z ≤ 299) ∧ (z ≠ -1 → z < Xi S 904 15))
set_option maxRecDepth 100000 in
theorem t_mo_foundIn {S : sS} (hH : HI S) (from_ : Int) (n : Int) (hfrom_ : 0 ≤ from_ ∧ from_ ≤ 64) (hn : -64 ≤ n ∧ n ≤ 64) (hn : from_ + n ≤ 64) (d : Nat) : Mt lay0 (d + 2) m_mo_foundIn [.ref 904, iv from_, iv n] S (Q_mo_foundIn S from_ n) := by sorry
abbrev Q_mo_insideThing (S : sS) (from_ : Int) : pst := fun r S1 => S = S1 ∧ (∃ z : Int, r = some (iv z) ∧ (-9 ≤ z ∧ z ≤ 23) ∧ (z ≠ -9 → z ≠ -2 → 0 ≤ z ∧ z < Xi S 904 19) ∧ (z = -2 → Xi S 904 157 = 0 → Xi S 904 158 ≠ -1))
set_option maxRecDepth 100000 in
theorem t_mo_insideThing {S : sS} (hH : HI S) (from_ : Int) (hfrom_ : 0 ≤ from_ ∧ from_ ≤ 64) (hM : LXM S) (d : Nat) : Mt lay0 (d + 3) m_mo_insideThing [.ref 904, iv from_] S (Q_mo_insideThing S from_) := by sorry
def md_mo_putProperty : List rec := [(904, 905, 154, 155), (904, 905, 156, 157), (993, 994, 0, 100000)]
abbrev Q_mo_putProperty (S : sS) (o : Int) (p : Int) : pst := fun r S1 => HI S1 ∧ FR md_mo_putProperty S S1 ∧ (r = none)
set_option maxRecDepth 100000 in
theorem t_mo_putProperty {S : sS} (hH : HI S) (o : Int) (p : Int) (ho : 0 ≤ o ∧ o ≤ 23) (hp : 0 ≤ p ∧ p ≤ 11) (hB : ABV S) (hX : TXM S) (ho : o < Xi S 904 19) (d : Nat) : Mt lay0 (d + 4) m_mo_putProperty [.ref 904, iv o, iv p] S (Q_mo_putProperty S o p) := by sorry
def md_mo_saysInside : List rec := [(904, 905, 154, 155), (904, 905, 156, 157), (993, 994, 0, 100000)]
abbrev Q_mo_saysInside (S : sS) : pst := fun r S1 => HI S1 ∧ FR md_mo_saysInside S S1 ∧ (∃ z : Int, r = some (iv z) ∧ (0 ≤ z ∧ z ≤ 1))
set_option maxRecDepth 100000 in
theorem c30_mo_saysInside {S : sS} (hH : HI S) (hM : LXM S) (hB : ABV S) (hX : TXM S) (hno : Xi S 904 158 < Xi S 904 19) (d : Nat) : ∀  (v1 : Int), (1 ≤ v1 ∧ v1 ≤ 64) → Rl lay0 (d + 4) m_mo_saysInside 30 [(0, .ref 904), (1, iv v1)] [] S (Q_mo_saysInside S) := by sorry
set_option maxRecDepth 100000 in
theorem c2_mo_saysInside {S : sS} (hH : HI S) (hM : LXM S) (hB : ABV S) (hX : TXM S) (hno : Xi S 904 158 < Xi S 904 19) (d : Nat) : ∀ (n2 : Nat) (v1 : Int), (1 ≤ v1 ∧ v1 ≤ 64) → n2 = (65 - v1).toNat → Rl lay0 (d + 4) m_mo_saysInside 2 [(0, .ref 904), (1, iv v1)] [] S (Q_mo_saysInside S) := by sorry
set_option maxRecDepth 100000 in
theorem t_mo_saysInside {S : sS} (hH : HI S) (hM : LXM S) (hB : ABV S) (hX : TXM S) (hno : Xi S 904 158 < Xi S 904 19) (d : Nat) : Mt lay0 (d + 5) m_mo_saysInside [.ref 904] S (Q_mo_saysInside S) := by sorry
end
section
def md_mo_holds : List rec := [(904, 905, 154, 155)]
/-! SAFETY of the reference: rules as turns want them -/
def nM (S : sS) (r : Nat) : Prop := 0 ≤ Xi S 979 r ∧ 0 ≤ Xi S 942 (Xi S 979 r).toNat
def NQ (S : sS) (c : Prop) (q : Nat) : Prop := TQ S False c q ∧ (Xi S 969 q = 0 ∨ Xi S 969 q = 3 ∨ Xi S 969 q = 5) ∧ (Xi S 969 q = 3 → Xi S 973 q < 100 → Xi S 922 (Xi S 973 q).toNat ≠ -1)
def PQ (S : sS) (c : Prop) (i : Nat) : Prop := Xi S 977 i < 2400 ∧ (Xi S 976 i = 0 → 0 ≤ Xi S 973 (Xi S 977 i).toNat ∧ 0 ≤ Xi S 974 (Xi S 977 i).toNat ∧ Xi S 973 (Xi S 977 i).toNat + Xi S 974 (Xi S 977 i).toNat ≤ 5000) ∧ (Xi S 976 i = 1 → NQ S c (Xi S 977 i).toNat) ∧
  (Xi S 976 i = 2 → thK S False c (Xi S 971 (Xi S 977 i).toNat) ∧ thK S False c (Xi S 975 (Xi S 977 i).toNat)) ∧
  (Xi S 976 i = 3 ∨ Xi S 976 i = 4 → thK S False c (Xi S 971 (Xi S 977 i).toNat) ∧ 0 ≤ Xi S 972 (Xi S 977 i).toNat ∧ Xi S 972 (Xi S 977 i).toNat < Xi S 904 32 ∧ Xi S 928 (Xi S 972 (Xi S 977 i).toNat).toNat ≠ 1) ∧
  (Xi S 976 i = 5 → (0 ≤ Xi S 972 (Xi S 977 i).toNat ∧ Xi S 972 (Xi S 977 i).toNat < Xi S 904 49) ∧ (Xi S 970 (Xi S 977 i).toNat = 0 → thK S False c (Xi S 971 (Xi S 977 i).toNat)) ∧ (Xi S 970 (Xi S 977 i).toNat ≠ 0 → Xi S 942 (Xi S 972 (Xi S 977 i).toNat).toNat < 0))
def RULM (S : sS) : Prop := ∀ r : Nat, (r : Int) < Xi S 904 130 → (Xi S 984 r + Xi S 985 r ≤ 2400 ∧ Xi S 986 r + Xi S 987 r ≤ 2000 ∧ Xi S 979 r < Xi S 904 49 ∧ (Xi S 978 r = 3 → Xi S 979 r = -1)) ∧ (Xi S 981 r ≠ -1 → nM S r) ∧
  (∀ k : Nat, (k : Int) < Xi S 982 r → nM S r ∧ ADM S (Xi S 983 (6 * r + k))) ∧ (∀ k : Nat, (k : Int) < Xi S 985 r → TQ S False (nM S r) ((Xi S 984 r).toNat + k)) ∧ (∀ k : Nat, (k : Int) < Xi S 987 r → PQ S (nM S r) ((Xi S 986 r).toNat + k))
def kR : List (Nat × Nat) := [(969, 988), (942, 943), (922, 925), (928, 929)]
theorem RULM_FR {l : List rec} {S T : sS} (h : FR l S T) (e : (kdis l kR && mD l [19, 23, 32, 49, 130]) = true) (hR : RULM S) : RULM T := by sorry
theorem PQ_FR {l : List rec} {S T : sS} {c : Prop} {i : Nat} (h : FR l S T) (e : (kdis l kR && mD l [19, 23, 32, 49, 130]) = true) (hp : PQ S c i) : PQ T c i := by sorry
theorem rul_ts {S : sS} {b : Prop} {r i q : Int} (h : RULM S) (h0 : 0 ≤ r) (hr : r < Xi S 904 130) (hi : 0 ≤ i) (hi2 : i < Xi S 985 r.toNat) (hf : 0 ≤ Xi S 984 r.toNat) (hq : q = Xi S 984 r.toNat + i) (hb : nM S r.toNat → b) {a : Prop} : TQ S a b q.toNat := by sorry
theorem rul_ad {S : sS} {r i q : Int} (h : RULM S) (h0 : 0 ≤ r) (hr : r < Xi S 904 130) (hi : 0 ≤ i) (hi2 : i < Xi S 982 r.toNat) (hq : q = 6 * r + i) : nM S r.toNat ∧ ADM S (Xi S 983 q.toNat) := by sorry
theorem rul_ph {S : sS} {r i q : Int} (h : RULM S) (h0 : 0 ≤ r) (hr : r < Xi S 904 130) (hi : 0 ≤ i) (hi2 : i < Xi S 987 r.toNat) (hf : 0 ≤ Xi S 986 r.toNat) (hq : q = Xi S 986 r.toNat + i) : PQ S (nM S r.toNat) q.toNat := by sorry
def WYM (S : sS) : Prop := ∀ o : Nat, o < 24 → Xi S 919 o ≠ 0 → 0 ≤ Xi S 920 o
theorem WYM_FR {l : List rec} {S T : sS} (h : FR l S T) (e : kdis l [(919, 921)] = true) (hW : WYM S) : WYM T := by sorry
theorem wym_w {S U1 U2 : sS} {n : Nat} {a b : Int32} (e1 : U1 = uI S 919 n a) (e2 : U2 = uI U1 920 n b) (h : Xi U2 919 n ≠ 0 → 0 ≤ Xi U2 920 n) (hW : WYM S) : WYM U2 := by sorry
theorem wym_t {S U : sS} {n : Nat} {v : Int} (e : U = uI S 920 n (Int32.ofInt v)) (hv : 0 ≤ v ∧ v ≤ 23) (hW : WYM S) : WYM U := by sorry
/-- a property of an object is told -/
theorem txm_w {S U1 U2 U3 : sS} {o p v n : Int} {i : Nat} {w : Int32} (e1 : U1 = uI S 930 i w) (e2 : U2 = uI U1 931 i (Int32.ofInt v)) (e3 : U3 = uI U2 932 i (Int32.ofInt n)) (hi : i = (12 * o + p).toNat) (h0 : 0 ≤ o) (hp : 0 ≤ p) (hp2 : p < Xi S 904 32) (hp3 : p < 12) (hv : rg v) (hn : rg n) (hk : Xi S 928 p.toNat = 1 → OKT v n) (hX : TXM S) : TXM U3 := by sorry
theorem txm_a {S U1 U2 : sS} {o p v : Int} {i : Nat} {w : Int32} (e1 : U1 = uI S 930 i w) (e2 : U2 = uI U1 931 i (Int32.ofInt v)) (hi : i = (12 * o + p).toNat) (h0 : 0 ≤ o) (hp : 0 ≤ p) (hp2 : p < Xi S 904 32) (hp3 : p < 12) (hv : rg v) (hk : Xi S 928 p.toNat ≠ 1) (hX : TXM S) : TXM U2 := by sorry
theorem thK.mono {S : sS} {b c c2 : Prop} {x : Int} (hc : c → c2) (h : thK S b c x) : thK S b c2 x := by sorry
theorem NQ.mono {S : sS} {c c2 : Prop} {q : Nat} (hc : c → c2) (h : NQ S c q) : NQ S c2 q := by sorry
/-- the first actions, adjectives, properties -/
def AKR (S : sS) : Prop := 5 ≤ Xi S 904 49 ∧ Xi S 942 0 = -1 ∧ Xi S 942 1 = 0 ∧ Xi S 942 2 = 0 ∧ Xi S 942 3 = 0 ∧ Xi S 942 4 = -2 ∧ 2 ≤ Xi S 904 23 ∧ 1 ≤ Xi S 904 32
theorem AKR_FR {l : List rec} {S T : sS} (h : FR l S T) (e : (kdis l [(942, 943)] && mD l [23, 32, 49]) = true) (hA : AKR S) : AKR T := by sorry
theorem akr_n {S : sS} {a noun : Int} (hA : AKR S) (hn : 0 ≤ Xi S 942 a.toNat → 0 ≤ noun) : 1 ≤ a → a ≤ 3 → 0 ≤ noun := by sorry
/-! the same question again -/
def dv (lay : Nat → Nat × Nat) (d : Nat) (q : mT) (av : List Value) (S : sS) (r : Option Value) (S1 : sS) : Prop := ∃ N : Nat, ∀ G, N ≤ G → evd lay G d q av S = some (r, S1)
theorem Mt_d {lay : Nat → Nat × Nat} {d : Nat} {q : mT} {av : List Value} {S : sS} {Q : pst} (h : Mt lay d q av S Q) : Mt lay d q av S (fun r S1 => Q r S1 ∧ dv lay d q av S r S1) := by sorry
theorem dv_i {lay : Nat → Nat × Nat} {d : Nat} {q : mT} {av : List Value} {S S1 S2 : sS} {z z2 : Int} (h : dv lay d q av S (some (iv z)) S1) (h2 : dv lay d q av S (some (iv z2)) S2) (hz : rg z) (hz2 : rg z2) : z2 = z := by sorry
def md_mo_words : List rec := [(904, 905, 160, 161), (994, 995, 0, 100000)]
abbrev Q_mo_words (S : sS) (from_ : Int) (end_ : Int) : pst := fun r S1 => HI S1 ∧ FR md_mo_words S S1 ∧ (∃ z : Int, r = some (iv z) ∧ (-1 ≤ z ∧ z ≤ 5000) ∧ (z ≠ -1 → from_ < z ∧ z ≤ end_))
set_option maxRecDepth 100000 in
theorem t_mo_words {S : sS} (hH : HI S) (from_ : Int) (end_ : Int) (hfrom_ : 0 ≤ from_ ∧ from_ ≤ 5000) (hend_ : 0 ≤ end_ ∧ end_ ≤ 5000) (d : Nat) : Mt lay0 (d + 4) m_mo_words [.ref 904, iv from_, iv end_] S (Q_mo_words S from_ end_) := by sorry
def md_mo_written : List rec := [(904, 905, 154, 155), (904, 905, 156, 157), (904, 905, 160, 161), (993, 994, 0, 100000), (994, 995, 0, 100000)]
abbrev Q_mo_written (S : sS) (from_ : Int) (n : Int) : pst := fun r S1 => HI S1 ∧ FR md_mo_written S S1 ∧ (∃ z : Int, r = some (iv z) ∧ (0 ≤ z ∧ z ≤ 1))
set_option maxRecDepth 100000 in
theorem t_mo_written {S : sS} (hH : HI S) (from_ : Int) (n : Int) (hfrom_ : 0 ≤ from_ ∧ from_ ≤ 5000) (hn : 0 ≤ n ∧ n ≤ 5000) (hA : from_ + n ≤ 5000) (hM : LXM S) (hB : ABV S) (hX : TXM S) (hno : Xi S 904 158 < Xi S 904 19) (d : Nat) : Mt lay0 (d + 6) m_mo_written [.ref 904, iv from_, iv n] S (Q_mo_written S from_ n) := by sorry
/-! SAFETY of methods: printed by wip/safe (vc.py, decl.py) -/
theorem tok_ru {S U : sS} {r j : Nat} {v : Int32} (e : U = uI S (248 + r) j v) (hr : r < 24) (h : TOK S) : TOK U := by sorry
def md_rr_rulePhrases : List rec := [(246, 247, 2, 3), (246, 247, 5, 6), (246, 247, 8, 9), (248, 272, 0, 100000), (274, 275, 0, 100000), (275, 276, 0, 100000), (276, 876, 0, 1), (276, 876, 1, 2), (276, 876, 2, 3), (276, 876, 3, 4), (276, 876, 4, 5), (276, 876, 5, 6), (276, 876, 6, 7), (876, 877, 7, 8), (876, 877, 8, 9), (876, 877, 9, 10), (877, 878, 0, 100000), (878, 879, 0, 100000), (879, 880, 0, 100000), (895, 896, 5, 6), (895, 896, 6, 7), (895, 896, 7, 8), (895, 896, 8, 9), (895, 896, 9, 10), (895, 896, 10, 11), (895, 896, 11, 12)]
abbrev Q_rr_rulePhrases (S : sS) (ru : Nat) (ts : Nat) : pst := fun r S1 => HI S1 ∧ FR md_rr_rulePhrases S S1 ∧ (∃ z : Int, r = some (iv z) ∧ (0 ≤ z ∧ z ≤ 1) ∧ (z = 1 → sG S S1) ∧ (z = 1 → KRU S S1 ru) ∧ (z = 1 → Xi S1 246 2 = Xi S 246 2 + 1 ∧ Xi S1 246 5 ≤ Xi S 246 5 + 8) ∧ (z = 1 → RUL1 S1 ru) ∧ (z = 0 → Xi S1 876 8 ≠ 0))
set_option maxRecDepth 100000 in
set_option maxHeartbeats 4000000 in
theorem t_rr_rulePhrases {S : sS} (hH : HI S) (ru : Nat) (ts : Nat) (hts : S.2.2 876 4 = some ts) (htp : tp ts) (hru : S.2.2 899 4 = some (248 + ru)) (hrk : ru < 24) (hL : LEX S) (hT : TOK S) (hS : SRX S) (hx : ts = txr S) (hcr : Xi S 876 6 = Xi S 876 7) (hY : SAY S (Xi S 876 6)) (hdot : Xi S 877 (Xi S 876 6 - 1).toNat = 103) (hd1 : 1 ≤ Xi S 876 6) (hn : Xi S 246 5 + 8 ≤ 600) (hb : RB S ru (Xi S (248 + ru) 7) (Xi S 899 6) 0) (h6 : Xi S (248 + ru) 6 = 0) (hr : (ru : Int) = Xi S 246 2) (d : Nat) : Mt lay0 (d + 6) m_rr_rulePhrases [.ref 899] S (Q_rr_rulePhrases S ru ts) := by sorry
end
section
/-! SAFETY of methods: printed by wip/safe (vc.py, decl.py) -/
def md_gr_check__2 : List rec := [(890, 891, 1, 2), (890, 891, 2, 3), (890, 891, 3, 4)]
abbrev Q_gr_check__2 (S : sS) : pst := fun r S1 => HI S1 ∧ FR md_gr_check__2 S S1 ∧ (∃ z : Int, r = some (iv z) ∧ (0 ≤ z ∧ z ≤ 1) ∧ (z = 1 → Xi S1 890 2 = 0 → Xi S 877 (0 : Int).toNat = 102) ∧ (z = 1 → Xi S1 890 2 = 1 → Xi S 877 (1 : Int).toNat = 102) ∧ (z = 1 → 3 ≤ Xi S1 890 2 → Xi S1 890 2 ≤ 6 → SAY S1 (Xi S1 890 1) ∧ 1 ≤ Xi S1 890 1 ∧ Xi S1 890 1 ≤ Xi S 876 7 ∧ Xi S1 877 (Xi S1 890 1 - 1).toNat = 103) ∧ (z = 1 → Xi S1 890 2 = 0 → 0 < Xi S 876 7) ∧ (z = 1 → Xi S1 890 2 = 1 → 1 < Xi S 876 7))
set_option maxRecDepth 100000 in
theorem t_gr_check__2 {S : sS} (hH : HI S) (d : Nat) : Mt lay0 (d + 7) m_gr_check [.ref 890] S (Q_gr_check__2 S) := by sorry
def md_rule : List rec := md_rr_ruleHead ++ (md_rr_tests ++ md_rr_rulePhrases)
def md_re_beginSentence : List rec := [(1, 2, 3, 4), (2, 3, 0, 100000), (3, 4, 0, 100000), (4, 5, 0, 100000), (5, 6, 0, 100000), (10, 11, 0, 100000), (11, 12, 0, 100000), (12, 13, 0, 100000), (13, 14, 0, 100000), (18, 19, 0, 100000), (66, 106, 0, 100000), (107, 147, 0, 100000), (148, 188, 0, 100000), (246, 247, 2, 3), (246, 247, 5, 6), (246, 247, 8, 9), (248, 272, 0, 100000), (274, 275, 0, 100000), (275, 276, 0, 100000), (276, 876, 0, 1), (276, 876, 1, 2), (276, 876, 2, 3), (276, 876, 3, 4), (276, 876, 4, 5), (276, 876, 5, 6), (276, 876, 6, 7), (876, 877, 7, 8), (876, 877, 8, 9), (876, 877, 9, 10), (877, 878, 0, 100000), (878, 879, 0, 100000), (879, 880, 0, 100000), (882, 883, 3, 4), (882, 883, 10, 11), (883, 884, 0, 100000), (884, 885, 0, 100000), (885, 886, 0, 100000), (886, 887, 0, 100000), (887, 888, 0, 100000), (888, 889, 0, 100000), (891, 892, 9, 10), (892, 893, 0, 100000), (893, 894, 0, 100000), (894, 895, 0, 100000), (895, 896, 3, 4), (895, 896, 4, 5), (895, 896, 5, 6), (895, 896, 6, 7), (895, 896, 7, 8), (895, 896, 8, 9), (895, 896, 9, 10), (895, 896, 10, 11), (895, 896, 11, 12), (895, 896, 12, 13), (895, 896, 13, 14), (895, 896, 14, 15), (896, 897, 0, 100000), (897, 898, 0, 100000), (898, 899, 0, 100000), (899, 900, 4, 5), (899, 900, 5, 6), (899, 900, 6, 7)]
abbrev Q_re_beginSentence (S : sS) (ts : Nat) : pst := fun r S1 => HI S1 ∧ FR md_re_beginSentence S S1 ∧ (∃ z : Int, r = some (iv z) ∧ (0 ≤ z ∧ z ≤ 1) ∧ (z = 1 → WI S1) ∧ (z = 0 → Xi S1 876 8 ≠ 0))
set_option maxRecDepth 100000 in
set_option maxHeartbeats 4000000 in
theorem t_re_beginSentence {S : sS} (hH : HI S) (ts : Nat) (hts : S.2.2 876 4 = some ts) (htp : tp ts) (hW : WI S) (hT : TOK S) (hS : SRX S) (hx : ts = txr S) (hcr : Xi S 876 6 = Xi S 876 7) (p0 : Xi S 890 2 = 0 → Xi S 877 (0 : Int).toNat = 102 ∧ 0 < Xi S 876 7) (p1 : Xi S 890 2 = 1 → Xi S 877 (1 : Int).toNat = 102 ∧ 1 < Xi S 876 7) (p3 : 3 ≤ Xi S 890 2 → Xi S 890 2 ≤ 6 → SAY S (Xi S 876 6)) (p4 : 3 ≤ Xi S 890 2 → Xi S 890 2 ≤ 6 → Xi S 877 (Xi S 876 6 - 1).toNat = 103) (pm : 1 ≤ Xi S 876 6) (p8 : Xi S 890 2 ≤ 8) (d : Nat) : Mt lay0 (d + 7) m_re_beginSentence [.ref 891] S (Q_re_beginSentence S ts) := by sorry
/-! SAFETY of methods: printed by wip/safe (vc.py, decl.py) -/
def md_to_open : List rec := [(876, 877, 4, 5), (876, 877, 5, 6), (876, 877, 8, 9), (876, 877, 9, 10)]
abbrev Q_to_open (S : sS) (b : Nat) (n : Int) : pst := fun r S1 => HI S1 ∧ FR md_to_open S S1 ∧ (r = none ∧ (S1.2.2 876 4 = some b) ∧ (Xi S1 876 5 = n ∧ Xi S1 876 8 = 0))
set_option maxRecDepth 100000 in
theorem t_to_open {S : sS} (hH : HI S) (b : Nat) (n : Int) (hb : tp b) (hn : 0 ≤ n ∧ n ≤ 5000) (d : Nat) : Mt lay0 (d + 1) m_to_open [.ref 876, .ref b, iv n] S (Q_to_open S b n) := by sorry
/-! SAFETY: read -/
theorem srx_of {S : sS} {t : Nat} (h : S.2.2 20 1 = some t) (ht : tp t) : SRX S ∧ txr S = t := by sorry
theorem dot_end {S : sS} {n G m : Int} (h1 : 1 ≤ n) (hn : ND S (n - 1)) (h : SAY S G ∧ 1 ≤ G ∧ G ≤ n ∧ Xi S 877 (G - 1).toNat = 103) (hm : m = n) : SAY S m ∧ Xi S 877 (m - 1).toNat = 103 := by sorry
/-- other texts: before a rule is told -/
theorem TXT_r {S U : sS} {t : Nat} {v n : Int} (e : U = uR S 20 1 (some t)) (ht : tp t) (h : TXT S v n) : TXT U v n := by sorry
theorem WI_tx {S U : sS} {t : Nat} (e : U = uR S 20 1 (some t)) (ht : tp t) (hr : Xi S 246 2 = 0) (hW : WI S) : WI U := by sorry
end
section
/-! SAFETY of methods: printed by wip/safe (vc.py, decl.py) -/
def md_mo_is : List rec := [(904, 905, 154, 155)]
abbrev Q_mo_is (S : sS) (o : Int) (a : Int) : pst := fun r S1 => HI S1 ∧ FR md_mo_is S S1 ∧ (∃ z : Int, r = some (iv z) ∧ (-1 ≤ z ∧ z ≤ 1))
def md_mo_feed : List rec := [(904, 905, 1, 2), (905, 906, 0, 100000)]
abbrev Q_mo_feed (S : sS) (w : Int) (n : Int) : pst := fun r S1 => HI S1 ∧ FR md_mo_feed S S1 ∧ (∃ z : Int, r = some (iv z) ∧ (-1 ≤ z ∧ z ≤ 5000) ∧ (1 ≤ n → n ≤ 8 → Xi S 904 1 + n ≤ 5000 → z = Xi S 904 1 + n ∧ Xi S1 904 1 = Xi S 904 1 + n) ∧ (n < 1 ∨ 8 < n ∨ 5000 < Xi S 904 1 + n → z = -1 ∧ Xi S1 904 1 = Xi S 904 1))
set_option maxRecDepth 100000 in
theorem t_mo_feed {S : sS} (hH : HI S) (w : Int) (n : Int) (hn : -2147483648 ≤ n ∧ n ≤ 2147483647) (d : Nat) : Mt lay0 (d + 1) m_mo_feed [.ref 904, jw w, iv n] S (Q_mo_feed S w n) := by sorry
def md_mo_isSaid : List rec := [(904, 905, 164, 165), (995, 996, 0, 100000)]
abbrev Q_mo_isSaid (S : sS) : pst := fun r S1 => HI S1 ∧ FR md_mo_isSaid S S1 ∧ (∃ z : Int, r = some (iv z) ∧ (0 ≤ z ∧ z ≤ 1))
set_option maxRecDepth 100000 in
theorem t_mo_isSaid {S : sS} (hH : HI S) (d : Nat) : Mt lay0 (d + 4) m_mo_isSaid [.ref 904] S (Q_mo_isSaid S) := by sorry
theorem wym_s {S U : sS} {n : Nat} {v : Int} (e : U = uI S 920 n (Int32.ofInt v)) (hv : v = Xi S 920 n) (hW : WYM S) : WYM U := by sorry
theorem nm_b {l : List rec} {S T : sS} {r : Nat} (h : FR l S T) (e : kdis l [(979, 980), (942, 943)] = true) (hn : nM T r) : nM S r := by sorry
end
section
/-! SAFETY of methods: printed by wip/safe (vc.py, decl.py) -/
def md_mo_fitsCommand : List rec := [(904, 905, 165, 166)]
abbrev Q_mo_fitsCommand (S : sS) (c : Int) : pst := fun r S1 => HI S1 ∧ FR md_mo_fitsCommand S S1 ∧ (∃ z : Int, r = some (iv z) ∧ (0 ≤ z ∧ z ≤ 1))
set_option maxRecDepth 100000 in
theorem c25_mo_fitsCommand {S : sS} (hH : HI S) (c : Int) (hc : 0 ≤ c ∧ c ≤ 19) (hM : LXM S) (hB : ABV S) (d : Nat) : ∀ (n25 : Nat) (T1 : sS) (_ : HI T1) (_ : FR md_mo_fitsCommand S T1) (v2 : Int) (v3 : Int) (v4 : Int) (v5 : Int), (0 ≤ v2 ∧ v2 ≤ 8) → (-8 ≤ v3 ∧ v3 ≤ 50) → (0 ≤ v4 ∧ v4 ≤ 50) → (0 ≤ v5 ∧ v5 ≤ 8) → (0 ≤ v4 ∧ v4 ≤ 50) → n25 = (9 - v5).toNat → Rl lay0 (d + 1) m_mo_fitsCommand 25 [(0, .ref 904), (1, iv c), (2, iv v2), (3, iv v3), (4, iv v4), (5, iv v5)] [] T1 (Q_mo_fitsCommand S c) := by sorry
set_option maxRecDepth 100000 in
theorem t_mo_fitsCommand {S : sS} (hH : HI S) (c : Int) (hc : 0 ≤ c ∧ c ≤ 19) (hM : LXM S) (hB : ABV S) (d : Nat) : Mt lay0 (d + 2) m_mo_fitsCommand [.ref 904, iv c] S (Q_mo_fitsCommand S c) := by sorry
/-! SAFETY of methods: printed by wip/safe (vc.py, decl.py) -/
def md_mo_act : List rec := [(904, 905, 154, 155), (904, 905, 156, 157), (904, 905, 158, 159), (904, 905, 160, 161), (904, 905, 161, 162), (904, 905, 162, 163), (919, 920, 0, 100000), (920, 921, 0, 100000), (925, 926, 0, 100000), (930, 931, 0, 100000), (931, 932, 0, 100000), (932, 933, 0, 100000), (940, 941, 0, 100000), (993, 994, 0, 100000), (994, 995, 0, 100000)]
abbrev Q_mo_act (S : sS) (a : Int) (noun : Int) : pst := fun r S1 => HI S1 ∧ FR md_mo_act S S1 ∧ (∃ z : Int, r = some (iv z) ∧ (-1 ≤ z ∧ z ≤ 5) ∧ (TXM S1) ∧ (WYM S1))
/-! SAFETY of the reference: its tokens and where it reads -/
def K3 (t : Int) : Prop := t = 116 ∨ t = 135 ∨ (137 ≤ t ∧ t ≤ 141) ∨ (143 ≤ t ∧ t ≤ 149)
def TK (S : sS) (n : Nat) : Prop := n ≤ 5000 ∧ Xi S 907 n = 1 ∧ (∀ i : Nat, i < n → Xi S 907 i ≠ 1) ∧ ∀ i : Nat, i < n → Xi S 908 i < Xi S 908 (i + 1) ∧ (K3 (Xi S 907 i) → Xi S 908 i + 3 ≤ Xi S 908 (i + 1))
theorem TK_FR {l : List rec} {S T : sS} {n : Nat} (h : FR l S T) (e : kdis l [(907, 909)] = true) (hT : TK S n) : TK T n := by sorry
def AT (S : sS) (n c : Nat) : Prop := Xi S 904 65 = 0 → Xi S 904 8 ≤ n ∧ 2 * Xi S 904 69 ≤ Xi S 904 8 + 1 ∧ (Xi S 907 (Xi S 904 8).toNat = 3 → 2 * Xi S 904 69 ≤ Xi S 904 8) ∧ 3 * (Xi S 904 93 + c) ≤ Xi S 908 (Xi S 904 8).toNat
theorem AT_FR {l : List rec} {S T : sS} {n c : Nat} (h : FR l S T) (e : (kdis l [(907, 909)] && mD l [8, 65, 69, 93]) = true) (hA : AT S n c) : AT T n c := by sorry
theorem AT_bad {S : sS} {n c : Nat} (h : Xi S 904 65 ≠ 0) : AT S n c := by sorry
theorem AT.le {S : sS} {n c c2 : Nat} (h : AT S n c) (hc : c2 ≤ c) : AT S n c2 := by sorry
theorem tk_lt {S : sS} {n : Nat} {a : Int} (hT : TK S n) (h0 : 0 ≤ a) (ha : a ≤ n) (h : Xi S 907 a.toNat ≠ 1) : a < n := by sorry
theorem at_up {S U : sS} {n c c2 : Nat} {v : Int} (hT : TK S n) (hA : AT S n c) (e : U = uI S 904 8 (Int32.ofInt v)) (hv : v = Xi S 904 8 + 1) (h0 : 0 ≤ Xi S 904 8) (hb : Xi S 904 65 = 0) (h1 : Xi S 907 (Xi S 904 8).toNat ≠ 1) (hc : c2 = c ∨ (c2 = c + 1 ∧ K3 (Xi S 907 (Xi S 904 8).toNat))) : AT U n c2 := by sorry
/-- the runs of the sentence lie within its tokens -/
def RNV (S : sS) (n : Nat) : Prop := ∀ r : Nat, (r : Int) < Xi S 904 69 → Xi S 950 r + Xi S 951 r ≤ n ∧ 1 ≤ Xi S 951 r
theorem RNV_FR {l : List rec} {S T : sS} {n : Nat} (h : FR l S T) (e : (kdis l [(950, 952)] && mD l [69]) = true) (hv : RNV S n) : RNV T n := by sorry
theorem rnv_add {S T U2 U3 : sS} {n i : Nat} {m x y : Int} (hv : RNV S n) (k : ∀ r : Nat, (r : Int) < m → Xi T 950 r = Xi S 950 r) (l : ∀ r, Xi T 951 r = Xi S 951 r) (hm : m = Xi S 904 69) (e2 : U2 = uI T 951 i (Int32.ofInt x)) (hi : i = m.toNat) (e3 : U3 = uI U2 904 69 (Int32.ofInt y)) (hy : y = m + 1) (hx : 1 ≤ x) (hf : Xi T 950 m.toNat + x ≤ n) (h0 : 0 ≤ m ∧ m ≤ 2599) (hg : 0 ≤ Xi T 950 m.toNat) (hn : n ≤ 5000) : RNV U3 n := by sorry
theorem at_run {S B U : sS} {n c : Nat} (x8 : Xi U 904 8 = Xi B 904 8) (hn : Xi B 904 8 ≤ n) (hr : 2 * Xi U 904 69 ≤ Xi B 904 8 + 1) (x7 : ∀ j, Xi U 907 j = Xi S 907 j) (x9 : ∀ j, Xi U 908 j = Xi S 908 j) (h3 : Xi S 907 (Xi B 904 8).toNat ≠ 3) (x93 : Xi U 904 93 = Xi S 904 93) (hp : 3 * (Xi S 904 93 + c) ≤ Xi S 908 (Xi B 904 8).toNat) : AT U n c := by sorry
theorem pl_up {S : sS} {n : Nat} {a x : Int} (hT : TK S n) (h0 : 0 ≤ a) (ha : a < n) (h : x ≤ Xi S 908 a.toNat) : x ≤ Xi S 908 (a + 1).toNat := by sorry
theorem at_same {S U : sS} {n c : Nat} {v : Int} (hA : AT S n c) (e : U = uI S 904 8 (Int32.ofInt v)) (hv : v = Xi S 904 8) (h8 : 0 ≤ Xi S 904 8 ∧ Xi S 904 8 ≤ 5010) : AT U n c := by sorry
theorem at_up2 {S U : sS} {n c : Nat} {v : Int} (hT : TK S n) (hA : AT S n c) (e : U = uI S 904 8 (Int32.ofInt v)) (hv : v = Xi S 904 8 + 2) (h0 : 0 ≤ Xi S 904 8) (hb : Xi S 904 65 = 0) (h1 : Xi S 907 (Xi S 904 8).toNat ≠ 1) (h2 : Xi S 907 (Xi S 904 8 + 1).toNat ≠ 1) : AT U n c ∧ Xi U 904 8 ≤ n := by sorry
abbrev Q_mo_look (S : sS) (n : Nat) (c : Nat) : pst := fun r S1 => S = S1 ∧ (∃ z : Int, r = some (iv z) ∧ (0 ≤ z ∧ z ≤ 154) ∧ (z ≠ 1 → Xi S 904 65 = 0 ∧ Xi S 907 (Xi S 904 8).toNat = z))
set_option maxRecDepth 100000 in
theorem t_mo_look {S : sS} (hH : HI S) (n : Nat) (c : Nat) (hT : TK S n) (hA : AT S n c) (d : Nat) : Mt lay0 (d + 1) m_mo_look [.ref 904] S (Q_mo_look S n c) := by sorry
abbrev Q_mo_isNext (S : sS) (n : Nat) (c : Nat) (k : Int) : pst := fun r S1 => S = S1 ∧ (∃ z : Int, r = some (iv z) ∧ (0 ≤ z ∧ z ≤ 1) ∧ (z = 1 → Xi S 904 65 = 0 ∧ Xi S 907 (Xi S 904 8).toNat = k) ∧ (z = 0 → Xi S 904 65 = 0 → Xi S 907 (Xi S 904 8).toNat ≠ k))
set_option maxRecDepth 100000 in
theorem t_mo_isNext {S : sS} (hH : HI S) (n : Nat) (c : Nat) (k : Int) (hk : -2147483648 ≤ k ∧ k ≤ 2147483647) (hT : TK S n) (hA : AT S n c) (d : Nat) : Mt lay0 (d + 1) m_mo_isNext [.ref 904, iv k] S (Q_mo_isNext S n c k) := by sorry
def md_mo_odd : List rec := [(904, 905, 65, 66), (904, 905, 66, 67)]
def md_mo_take : List rec := [(904, 905, 8, 9), (904, 905, 65, 66), (904, 905, 66, 67)]
def md_mo_run : List rec := [(904, 905, 8, 9), (904, 905, 65, 66), (904, 905, 66, 67), (904, 905, 69, 70), (950, 951, 0, 100000), (951, 952, 0, 100000)]
def md_mo_name : List rec := [(904, 905, 8, 9), (904, 905, 65, 66), (904, 905, 66, 67), (904, 905, 69, 70), (950, 951, 0, 100000), (951, 952, 0, 100000)]
def md_mo_isMore : List rec := [(904, 905, 8, 9)]
abbrev Q_mo_isMore (S : sS) (n : Nat) (c : Nat) : pst := fun r S1 => HI S1 ∧ FR md_mo_isMore S S1 ∧ (∃ z : Int, r = some (iv z) ∧ (0 ≤ z ∧ z ≤ 1) ∧ (AT S1 n c) ∧ (Xi S 904 8 ≤ Xi S1 904 8 ∧ (Xi S1 904 8 ≤ n ∨ Xi S1 904 8 = Xi S 904 8)) ∧ (z = 1 → Xi S 904 8 < Xi S1 904 8) ∧ (Xi S1 904 65 = Xi S 904 65))
set_option maxRecDepth 100000 in
theorem t_mo_isMore {S : sS} (hH : HI S) (n : Nat) (c : Nat) (hT : TK S n) (hA : AT S n c) (d : Nat) : Mt lay0 (d + 2) m_mo_isMore [.ref 904] S (Q_mo_isMore S n c) := by sorry
def md_mo_placing : List rec := [(904, 905, 8, 9), (904, 905, 65, 66), (904, 905, 66, 67)]
def md_mo_be : List rec := [(904, 905, 8, 9), (904, 905, 65, 66), (904, 905, 66, 67), (904, 905, 77, 78)]
end
section
abbrev Q_mo_beginsOf (S : sS) (n : Nat) (t : Int) : pst := fun r S1 => S = S1 ∧ (∃ z : Int, r = some (iv z) ∧ (0 ≤ z ∧ z ≤ 1))
set_option maxRecDepth 100000 in
theorem t_mo_beginsOf {S : sS} (hH : HI S) (n : Nat) (t : Int) (ht : 0 ≤ t ∧ t ≤ 5001) (hT : TK S n) (ht : t ≤ n) (d : Nat) : Mt lay0 (d + 1) m_mo_beginsOf [.ref 904, iv t] S (Q_mo_beginsOf S n t) := by sorry
/-! SAFETY of methods: printed by wip/safe (vc.py, decl.py) -/
abbrev Q_mo_mean (S : sS) (t : Int) (m : Int) : pst := fun r S1 => S = S1 ∧ (∃ z : Int, r = some (iv z) ∧ (-1 ≤ z ∧ z ≤ 299) ∧ (z ≠ -1 → z < Xi S 904 15))
set_option maxRecDepth 100000 in
theorem t_mo_mean {S : sS} (hH : HI S) (t : Int) (m : Int) (ht : 0 ≤ t ∧ t ≤ 5001) (hm : -2147483648 ≤ m ∧ m ≤ 2147483647) (hn : m ≤ 3 → t + m ≤ 5002) (d : Nat) : Mt lay0 (d + 2) m_mo_mean [.ref 904, iv t, iv m] S (Q_mo_mean S t m) := by sorry
abbrev Q_mo_means (S : sS) (t : Int) (m : Int) (so : Int) : pst := fun r S1 => S = S1 ∧ (∃ z : Int, r = some (iv z) ∧ (-1 ≤ z ∧ z ≤ 63) ∧ (z ≠ -1 → z < cM S so))
set_option maxRecDepth 100000 in
theorem t_mo_means {S : sS} (hH : HI S) (t : Int) (m : Int) (so : Int) (ht : 0 ≤ t ∧ t ≤ 5001) (hm : -2147483648 ≤ m ∧ m ≤ 2147483647) (hso : 0 ≤ so ∧ so ≤ 12) (hn : m ≤ 3 → t + m ≤ 5002) (hM : LXM S) (d : Nat) : Mt lay0 (d + 3) m_mo_means [.ref 904, iv t, iv m, iv so] S (Q_mo_means S t m so) := by sorry
abbrev Q_mo_meansRun (S : sS) (n : Nat) (rn : Int) (so : Int) : pst := fun r S1 => S = S1 ∧ (∃ z : Int, r = some (iv z) ∧ (-1 ≤ z ∧ z ≤ 63) ∧ (z ≠ -1 → z < cM S so))
set_option maxRecDepth 100000 in
theorem t_mo_meansRun {S : sS} (hH : HI S) (n : Nat) (rn : Int) (so : Int) (hrn : 0 ≤ rn ∧ rn ≤ 2599) (hso : 0 ≤ so ∧ so ≤ 12) (hT : TK S n) (hv : RNV S n) (hrr : rn < Xi S 904 69) (hM : LXM S) (d : Nat) : Mt lay0 (d + 4) m_mo_meansRun [.ref 904, iv rn, iv so] S (Q_mo_meansRun S n rn so) := by sorry
def md_mo_note : List rec := [(904, 905, 104, 105), (904, 905, 105, 106), (904, 905, 106, 107)]
abbrev Q_mo_note (S : sS) (f : Int) (t : Int) : pst := fun r S1 => HI S1 ∧ FR md_mo_note S S1 ∧ (r = none ∧ (f ≠ 0 → Xi S1 904 106 ≠ 0))
set_option maxRecDepth 100000 in
theorem t_mo_note {S : sS} (hH : HI S) (f : Int) (t : Int) (hf : 0 ≤ f ∧ f ≤ 9) (ht : 0 ≤ t ∧ t ≤ 5001) (d : Nat) : Mt lay0 (d + 2) m_mo_note [.ref 904, iv f, iv t] S (Q_mo_note S f t) := by sorry
def md_mo_need : List rec := [(904, 905, 104, 105), (904, 905, 105, 106), (904, 905, 106, 107)]
abbrev Q_mo_need (S : sS) (g : Int) (f : Int) (t : Int) : pst := fun r S1 => HI S1 ∧ FR md_mo_need S S1 ∧ (r = none ∧ (g = 0 → Xi S1 904 106 ≠ 0) ∧ (Xi S 904 106 ≠ 0 → Xi S1 904 106 ≠ 0))
set_option maxRecDepth 100000 in
theorem t_mo_need {S : sS} (hH : HI S) (g : Int) (f : Int) (t : Int) (hg : 0 ≤ g ∧ g ≤ 1) (hf : 1 ≤ f ∧ f ≤ 9) (ht : 0 ≤ t ∧ t ≤ 5001) (d : Nat) : Mt lay0 (d + 3) m_mo_need [.ref 904, iv g, iv f, iv t] S (Q_mo_need S g f t) := by sorry
def md_mo_oneReading : List rec := [(904, 905, 104, 105), (904, 905, 105, 106), (904, 905, 106, 107)]
abbrev Q_mo_oneReading (S : sS) (t : Int) : pst := fun r S1 => HI S1 ∧ FR md_mo_oneReading S S1 ∧ (r = none ∧ (Xi S 904 106 ≠ 0 → Xi S1 904 106 ≠ 0))
set_option maxRecDepth 100000 in
theorem t_mo_oneReading {S : sS} (hH : HI S) (t : Int) (ht : 0 ≤ t ∧ t ≤ 5001) (d : Nat) : Mt lay0 (d + 4) m_mo_oneReading [.ref 904, iv t] S (Q_mo_oneReading S t) := by sorry
abbrev Q_mo_objectOf (S : sS) (from_ : Int) (to : Int) : pst := fun r S1 => S = S1 ∧ (∃ z : Int, r = some (iv z) ∧ (-9 ≤ z ∧ z ≤ 23) ∧ (z ≠ -9 → 0 ≤ z ∧ z < Xi S 904 19))
set_option maxRecDepth 100000 in
theorem t_mo_objectOf {S : sS} (hH : HI S) (from_ : Int) (to : Int) (hfrom_ : 0 ≤ from_ ∧ from_ ≤ 5001) (hto : 0 ≤ to ∧ to ≤ 5001) (hM : LXM S) (d : Nat) : Mt lay0 (d + 4) m_mo_objectOf [.ref 904, iv from_, iv to] S (Q_mo_objectOf S from_ to) := by sorry
/-! SAFETY of methods: printed by wip/safe (vc.py, decl.py) -/
def DCM (S : sS) : Prop := ∀ a : Nat, (a : Int) < Xi S 904 23 → Xi S 924 a = 0 → Xi S 922 a ≠ -1
theorem DCM_FR {l : List rec} {S T : sS} (h : FR l S T) (e : (kdis l [(922, 923), (924, 925)] && mD l [23]) = true) (hC : DCM S) : DCM T := by sorry
def md_mo_adjective : List rec := [(904, 905, 64, 65), (904, 905, 113, 114)]
/-! SAFETY of methods: printed by wip/safe (vc.py, decl.py) -/
abbrev Q_mo_thingOf (S : sS) (from_ : Int) (to : Int) : pst := fun r S1 => S = S1 ∧ (∃ z : Int, r = some (iv z) ∧ (-9 ≤ z ∧ z ≤ 23) ∧ (z ≠ -9 → z ≠ -1 → z ≠ -2 → 0 ≤ z ∧ z < Xi S 904 19) ∧ (z = -1 → 0 ≤ Xi S 904 115) ∧ (z = -2 → 0 ≤ Xi S 904 116))
set_option maxRecDepth 100000 in
theorem t_mo_thingOf {S : sS} (hH : HI S) (from_ : Int) (to : Int) (hfrom_ : 0 ≤ from_ ∧ from_ ≤ 5001) (hto : 0 ≤ to ∧ to ≤ 5001) (hM : LXM S) (d : Nat) : Mt lay0 (d + 5) m_mo_thingOf [.ref 904, iv from_, iv to] S (Q_mo_thingOf S from_ to) := by sorry
abbrev Q_mo_fits (S : sS) (th : Int) (kind : Int) : pst := fun r S1 => S = S1 ∧ (∃ z : Int, r = some (iv z) ∧ (0 ≤ z ∧ z ≤ 1) ∧ (z = 1 → th ≠ -9))
set_option maxRecDepth 100000 in
theorem t_mo_fits {S : sS} (hH : HI S) (th : Int) (kind : Int) (hth : -9 ≤ th ∧ th ≤ 23) (hkind : 0 ≤ kind ∧ kind ≤ 15) (hB : ABV S) (ht : th ≠ -9 → -2 ≤ th) (d : Nat) : Mt lay0 (d + 2) m_mo_fits [.ref 904, iv th, iv kind] S (Q_mo_fits S th kind) := by sorry
/-! SAFETY of methods: printed by wip/safe (vc.py, decl.py) -/
def md_mo_meant : List rec := [(904, 905, 104, 105), (904, 905, 105, 106), (904, 905, 106, 107)]
abbrev Q_mo_meant (S : sS) (n : Nat) (td : Int) (rn : Int) : pst := fun r S1 => HI S1 ∧ FR md_mo_meant S S1 ∧ (∃ z : Int, r = some (iv z) ∧ (-9 ≤ z ∧ z ≤ 23) ∧ (z ≠ -9 → z ≠ -1 → z ≠ -2 → 0 ≤ z ∧ z < Xi S 904 19) ∧ (z = -1 → 0 ≤ Xi S1 904 115) ∧ (z = -2 → 0 ≤ Xi S1 904 116) ∧ (z = -9 → Xi S1 904 106 ≠ 0) ∧ (Xi S 904 106 ≠ 0 → Xi S1 904 106 ≠ 0))
set_option maxRecDepth 100000 in
theorem t_mo_meant {S : sS} (hH : HI S) (n : Nat) (td : Int) (rn : Int) (htd : 0 ≤ td ∧ td ≤ 25010) (hrn : -1 ≤ rn ∧ rn ≤ 2600) (hT : TK S n) (hv : RNV S n) (hrr : 20000 ≤ td → 0 ≤ rn ∧ rn < Xi S 904 69) (ht : td % 10000 ≤ 5001) (hM : LXM S) (d : Nat) : Mt lay0 (d + 5) m_mo_meant [.ref 904, iv td, iv rn] S (Q_mo_meant S n td rn) := by sorry
/-! SAFETY of methods: printed by wip/safe (vc.py, decl.py) -/
def md_mo_wrong : List rec := [(904, 905, 105, 106), (904, 905, 106, 107)]
abbrev Q_mo_wrong (S : sS) (f : Int) (t : Int) : pst := fun r S1 => HI S1 ∧ FR md_mo_wrong S S1 ∧ (r = none ∧ (Xi S1 904 106 ≠ 0))
set_option maxRecDepth 100000 in
theorem t_mo_wrong {S : sS} (hH : HI S) (f : Int) (t : Int) (hf : 1 ≤ f ∧ f ≤ 9) (ht : 0 ≤ t ∧ t ≤ 5001) (d : Nat) : Mt lay0 (d + 1) m_mo_wrong [.ref 904, iv f, iv t] S (Q_mo_wrong S f t) := by sorry
def md_mo_relate : List rec := [(940, 941, 0, 100000)]
abbrev Q_mo_relate (S : sS) (r1 : Int) (o1 : Int) (o2 : Int) : pst := fun r S1 => HI S1 ∧ FR md_mo_relate S S1 ∧ (∃ z : Int, r = some (iv z) ∧ (0 ≤ z ∧ z ≤ 1))
set_option maxRecDepth 100000 in
theorem t_mo_relate {S : sS} (hH : HI S) (r1 : Int) (o1 : Int) (o2 : Int) (hr1 : 0 ≤ r1 ∧ r1 ≤ 5) (ho1 : 0 ≤ o1 ∧ o1 ≤ 23) (ho2 : 0 ≤ o2 ∧ o2 ≤ 23) (d : Nat) : Mt lay0 (d + 1) m_mo_relate [.ref 904, iv r1, iv o1, iv o2] S (Q_mo_relate S r1 o1 o2) := by sorry
abbrev Q_mo_tellsOtherwise (S : sS) (p : Int) (was : Int) (wl : Int) (iss : Int) (il : Int) : pst := fun r S1 => S = S1 ∧ (∃ z : Int, r = some (iv z) ∧ (0 ≤ z ∧ z ≤ 1))
set_option maxRecDepth 100000 in
theorem t_mo_tellsOtherwise {S : sS} (hH : HI S) (p : Int) (was : Int) (wl : Int) (iss : Int) (il : Int) (hp : 0 ≤ p ∧ p ≤ 11) (hwas : -2147483648 ≤ was ∧ was ≤ 2147483647) (hwl : -2147483648 ≤ wl ∧ wl ≤ 2147483647) (hiss : -2147483648 ≤ iss ∧ iss ≤ 2147483647) (hil : -2147483648 ≤ il ∧ il ≤ 2147483647) (h1 : Xi S 928 p.toNat = 1 → OKT was wl) (h2 : Xi S 928 p.toNat = 1 → OKT iss il) (d : Nat) : Mt lay0 (d + 2) m_mo_tellsOtherwise [.ref 904, iv p, iv was, iv wl, iv iss, iv il] S (Q_mo_tellsOtherwise S p was wl iss il) := by sorry
/-! SAFETY of methods: printed by wip/safe (vc.py, decl.py) -/
def md_mo_tellObject : List rec := [(930, 931, 0, 100000), (931, 932, 0, 100000), (932, 933, 0, 100000)]
abbrev Q_mo_tellObject (S : sS) (o : Int) (p : Int) (v : Int) (nn : Int) : pst := fun r S1 => HI S1 ∧ FR md_mo_tellObject S S1 ∧ (∃ z : Int, r = some (iv z) ∧ (0 ≤ z ∧ z ≤ 1) ∧ (TXM S1))
set_option maxRecDepth 100000 in
theorem t_mo_tellObject {S : sS} (hH : HI S) (o : Int) (p : Int) (v : Int) (nn : Int) (ho : 0 ≤ o ∧ o ≤ 23) (hp : 0 ≤ p ∧ p ≤ 11) (hv : -2147483648 ≤ v ∧ v ≤ 2147483647) (hnn : -2147483648 ≤ nn ∧ nn ≤ 2147483647) (hX : TXM S) (hoo : o < Xi S 904 19) (hpp : p < Xi S 904 32) (hk : Xi S 928 p.toNat = 1 → OKT v nn) (d : Nat) : Mt lay0 (d + 3) m_mo_tellObject [.ref 904, iv o, iv p, iv v, iv nn] S (Q_mo_tellObject S o p v nn) := by sorry
theorem txm_k {S U1 U2 U3 : sS} {o p v n : Int} {i : Nat} {w : Int32} (e1 : U1 = uI S 933 i w) (e2 : U2 = uI U1 934 i (Int32.ofInt v)) (e3 : U3 = uI U2 935 i (Int32.ofInt n)) (hi : i = (12 * o + p).toNat) (h0 : 0 ≤ o) (hp : 0 ≤ p) (hp2 : p < Xi S 904 32) (hp3 : p < 12) (hv : rg v) (hn : rg n) (hk : Xi S 928 p.toNat = 1 → OKT v n) (hX : TXM S) : TXM U3 := by sorry
def md_mo_tellKind : List rec := [(933, 934, 0, 100000), (934, 935, 0, 100000), (935, 936, 0, 100000)]
abbrev Q_mo_tellKind (S : sS) (o : Int) (p : Int) (v : Int) (nn : Int) : pst := fun r S1 => HI S1 ∧ FR md_mo_tellKind S S1 ∧ (∃ z : Int, r = some (iv z) ∧ (0 ≤ z ∧ z ≤ 1) ∧ (TXM S1))
set_option maxRecDepth 100000 in
theorem t_mo_tellKind {S : sS} (hH : HI S) (o : Int) (p : Int) (v : Int) (nn : Int) (ho : 0 ≤ o ∧ o ≤ 15) (hp : 0 ≤ p ∧ p ≤ 11) (hv : -2147483648 ≤ v ∧ v ≤ 2147483647) (hnn : -2147483648 ≤ nn ∧ nn ≤ 2147483647) (hX : TXM S) (hoo : o < Xi S 904 16) (hpp : p < Xi S 904 32) (hk : Xi S 928 p.toNat = 1 → OKT v nn) (d : Nat) : Mt lay0 (d + 3) m_mo_tellKind [.ref 904, iv o, iv p, iv v, iv nn] S (Q_mo_tellKind S o p v nn) := by sorry
/-! SAFETY of methods: printed by wip/safe (vc.py, decl.py) -/
/-! SAFETY of the reference: reading on; what is noted of tests and phrases -/
theorem at_fr {S P : sS} {n c : Nat} (hA : AT S n c) (f7 : ∀ j, Xi P 907 j = Xi S 907 j) (f9 : ∀ j, Xi P 908 j = Xi S 908 j) (x8 : Xi P 904 8 = Xi S 904 8) (x65 : Xi P 904 65 = Xi S 904 65) (x69 : Xi P 904 69 = Xi S 904 69) (x93 : Xi P 904 93 = Xi S 904 93) : AT P n c := by sorry
theorem tk_fr {S P : sS} {n : Nat} (hT : TK S n) (f7 : ∀ j, Xi P 907 j = Xi S 907 j) (f9 : ∀ j, Xi P 908 j = Xi S 908 j) : TK P n := by sorry
/-- one token further -/
theorem at_mv {S P U : sS} {n c c2 : Nat} {v : Int} (hT : TK S n) (hA : AT S n c) (f7 : ∀ j, Xi P 907 j = Xi S 907 j) (f9 : ∀ j, Xi P 908 j = Xi S 908 j) (x8 : Xi P 904 8 = Xi S 904 8) (x65 : Xi P 904 65 = Xi S 904 65) (x69 : Xi P 904 69 = Xi S 904 69) (x93 : Xi P 904 93 = Xi S 904 93) (e : U = uI P 904 8 (Int32.ofInt v)) (hv : v = Xi S 904 8 + 1) (h0 : 0 ≤ Xi S 904 8) (hb : Xi S 904 65 = 0) (h1 : Xi S 907 (Xi S 904 8).toNat ≠ 1) (hc : c2 = c ∨ (c2 = c + 1 ∧ K3 (Xi S 907 (Xi S 904 8).toNat))) : AT U n c2 ∧ Xi U 904 8 = Xi S 904 8 + 1 ∧ Xi S 904 8 + 1 ≤ n := by sorry
/-- two tokens further -/
theorem at_mv2 {S P U : sS} {n c : Nat} {v : Int} (hT : TK S n) (hA : AT S n c) (f7 : ∀ j, Xi P 907 j = Xi S 907 j) (f9 : ∀ j, Xi P 908 j = Xi S 908 j) (x8 : Xi P 904 8 = Xi S 904 8) (x65 : Xi P 904 65 = Xi S 904 65) (x69 : Xi P 904 69 = Xi S 904 69) (x93 : Xi P 904 93 = Xi S 904 93) (e : U = uI P 904 8 (Int32.ofInt v)) (hv : v = Xi S 904 8 + 2) (h0 : 0 ≤ Xi S 904 8) (hb : Xi S 904 65 = 0) (h1 : Xi S 907 (Xi S 904 8).toNat ≠ 1) (h2 : Xi S 907 (Xi S 904 8 + 1).toNat ≠ 1) : AT U n c ∧ Xi U 904 8 = Xi S 904 8 + 2 ∧ Xi S 904 8 + 2 ≤ n := by sorry
/-- entries below m stay -/
def KT (T S : sS) (m : Int) : Prop := ∀ i : Nat, (i : Int) < m → ∀ k : Nat, 952 ≤ k → k ≤ 962 → Xi T k i = Xi S k i
theorem KT.rf {S : sS} {m : Int} : KT S S m := by sorry
theorem KT.tr {S T U : sS} {m m2 : Int} (h : KT T S m) (g : KT U T m2) (e : m ≤ m2) : KT U S m := by sorry
theorem kdis_x {l : List rec} {S T : sS} (f : FR l S T) (e : kdis l [(952, 963)] = true) (k : Nat) (a : 952 ≤ k) (b : k ≤ 962) (i : Nat) : Xi T k i = Xi S k i := by sorry
theorem KT_FR {l : List rec} {T U S : sS} {m : Int} (f : FR l T U) (e : kdis l [(952, 963)] = true) (h : KT T S m) : KT U S m := by sorry
/-- a write at m or beyond -/
theorem KT.w {T U S : sS} {m : Int} {k j : Nat} {v : Int32} (h : KT T S m) (e : U = uI T k j v) (hj : m ≤ j) : KT U S m := by sorry
/-- a thing that was read: where it stands, which run names it -/
def THV (m : Int) (n : Nat) (td rn : Int) : Prop := td % 10000 ≤ n ∧ (20000 ≤ td → 0 ≤ rn ∧ rn < m)
theorem THV.mono {m m2 : Int} {n : Nat} {td rn : Int} (h : THV m n td rn) (e : m ≤ m2) : THV m2 n td rn := by sorry
theorem thv_i {m : Int} {n : Nat} {s t r x y : Int} (hx : x = s * 10000 + t) (hy : y = r) (hs : 0 ≤ s ∧ s ≤ 2) (ht : 0 ≤ t ∧ t ≤ 5010) (h1 : t ≤ n) (h0 : 0 ≤ r) (h2 : s = 2 → r < m) : THV m n x y := by sorry
/-- what a test tells, but where it begins and ends -/
def TVx (S : sS) (n : Nat) (i : Nat) : Prop := (Xi S 952 i ≠ 5 → THV (Xi S 904 69) n (Xi S 954 i) (Xi S 955 i)) ∧ (Xi S 952 i ≤ 3 → Xi S 956 i < Xi S 904 69) ∧ (Xi S 952 i = 4 → THV (Xi S 904 69) n (Xi S 959 i) (Xi S 960 i)) ∧ (Xi S 952 i ≤ 2 → Xi S 957 i ≤ n) ∧ (Xi S 952 i = 0 → Xi S 907 (Xi S 957 i).toNat ≠ 4 → Xi S 907 (Xi S 957 i).toNat ≠ 5 → 0 ≤ Xi S 960 i ∧ Xi S 960 i < Xi S 904 69)
def TV (S : sS) (n : Nat) (i : Nat) : Prop := (Xi S 961 i ≤ Xi S 962 i ∧ Xi S 962 i ≤ n) ∧ TVx S n i
theorem tvx_5 {S : sS} {n i : Nat} (h : Xi S 952 i = 5) : TVx S n i := by sorry
theorem tvx_3 {S : sS} {n i : Nat} (h : Xi S 952 i = 3) (h1 : THV (Xi S 904 69) n (Xi S 954 i) (Xi S 955 i)) (h2 : Xi S 956 i < Xi S 904 69) : TVx S n i := by sorry
theorem tvx_4 {S : sS} {n i : Nat} (h : Xi S 952 i = 4) (h1 : THV (Xi S 904 69) n (Xi S 954 i) (Xi S 955 i)) (h2 : THV (Xi S 904 69) n (Xi S 959 i) (Xi S 960 i)) : TVx S n i := by sorry
theorem tvx_2 {S : sS} {n i : Nat} (h : Xi S 952 i ≤ 2) (h1 : THV (Xi S 904 69) n (Xi S 954 i) (Xi S 955 i)) (h2 : Xi S 956 i < Xi S 904 69) (h3 : Xi S 957 i ≤ n) (h4 : Xi S 952 i = 0 → Xi S 907 (Xi S 957 i).toNat ≠ 4 → Xi S 907 (Xi S 957 i).toNat ≠ 5 → 0 ≤ Xi S 960 i ∧ Xi S 960 i < Xi S 904 69) : TVx S n i := by sorry
theorem TVx.mv {S T : sS} {n i : Nat} (h : TVx S n i) (hk : ∀ k : Nat, 952 ≤ k → k ≤ 960 → Xi T k i = Xi S k i) (hr : Xi S 904 69 ≤ Xi T 904 69) (h7 : ∀ j, Xi T 907 j = Xi S 907 j) : TVx T n i := by sorry
theorem TV.mv {S T : sS} {n i : Nat} (h : TV S n i) (hk : ∀ k : Nat, 952 ≤ k → k ≤ 962 → Xi T k i = Xi S k i) (hr : Xi S 904 69 ≤ Xi T 904 69) (h7 : ∀ j, Xi T 907 j = Xi S 907 j) : TV T n i := by sorry
/-- all tests below m -/
def TVA (S : sS) (n : Nat) (m : Int) : Prop := ∀ i : Nat, (i : Int) < m → TV S n i
theorem TVA.mv {S T : sS} {n : Nat} {m : Int} (h : TVA S n m) (hk : KT T S m) (hr : Xi S 904 69 ≤ Xi T 904 69) (h7 : ∀ j, Xi T 907 j = Xi S 907 j) : TVA T n m := by sorry
theorem TVA.add {S : sS} {n : Nat} {m m2 : Int} (h : TVA S n m) (h0 : 0 ≤ m) (e : m2 = m + 1) (g : TV S n m.toNat) : TVA S n m2 := by sorry
/-- what a phrase of sort w tells, its entry being t -/
def PVt (S : sS) (n : Nat) (w : Int) (t : Nat) : Prop := (w = 0 → Xi S 957 t ≤ n ∧ Xi S 907 (Xi S 957 t).toNat = 5) ∧ (w = 1 → TV S n t ∧ (Xi S 952 t = 0 ∨ Xi S 952 t = 3 ∨ Xi S 952 t = 5)) ∧ (w = 2 ∨ w = 3 ∨ w = 4 → THV (Xi S 904 69) n (Xi S 954 t) (Xi S 955 t)) ∧ (w = 2 → THV (Xi S 904 69) n (Xi S 959 t) (Xi S 960 t)) ∧
  (w = 3 ∨ w = 4 ∨ w = 5 → Xi S 956 t < Xi S 904 69) ∧ (w = 3 ∨ w = 4 → Xi S 957 t ≤ n) ∧ (w = 5 → Xi S 953 t ≠ 0 → THV (Xi S 904 69) n (Xi S 954 t) (Xi S 955 t))
def PV (S : sS) (n : Nat) (i : Nat) : Prop := PVt S n (Xi S 963 i) (Xi S 964 i).toNat
theorem pv_i {S : sS} {n i t : Nat} {w : Int} (h : PVt S n w t) (e1 : Xi S 963 i = w) (e2 : Xi S 964 i = t) : PV S n i := by sorry
theorem pvt_0 {S : sS} {n t : Nat} (h : Xi S 957 t ≤ n) (h2 : Xi S 907 (Xi S 957 t).toNat = 5) : PVt S n 0 t := by sorry
theorem pvt_1 {S : sS} {n t : Nat} (h : TV S n t) (h2 : Xi S 952 t = 0 ∨ Xi S 952 t = 3 ∨ Xi S 952 t = 5) : PVt S n 1 t := by sorry
theorem pvt_2 {S : sS} {n t : Nat} (h : THV (Xi S 904 69) n (Xi S 954 t) (Xi S 955 t)) (h2 : THV (Xi S 904 69) n (Xi S 959 t) (Xi S 960 t)) : PVt S n 2 t := by sorry
theorem pvt_3 {S : sS} {n t : Nat} {w : Int} (hw : w = 3 ∨ w = 4) (h : THV (Xi S 904 69) n (Xi S 954 t) (Xi S 955 t)) (h2 : Xi S 956 t < Xi S 904 69) (h3 : Xi S 957 t ≤ n) : PVt S n w t := by sorry
theorem pvt_5 {S : sS} {n t : Nat} (h : Xi S 956 t < Xi S 904 69) (h2 : Xi S 953 t ≠ 0 → THV (Xi S 904 69) n (Xi S 954 t) (Xi S 955 t)) : PVt S n 5 t := by sorry
theorem pvt_6 {S : sS} {n t : Nat} : PVt S n 6 t := by sorry
theorem PVt.mv {S T : sS} {n t : Nat} {w : Int} (h : PVt S n w t) (x : ∀ k : Nat, 952 ≤ k → k ≤ 962 → Xi T k t = Xi S k t) (hr : Xi S 904 69 ≤ Xi T 904 69) (h7 : ∀ j, Xi T 907 j = Xi S 907 j) : PVt T n w t := by sorry
/-- entries of phrases below m stay -/
def KP (T S : sS) (m : Int) : Prop := ∀ i : Nat, (i : Int) < m → Xi T 963 i = Xi S 963 i ∧ Xi T 964 i = Xi S 964 i ∧ Xi T 965 i = Xi S 965 i
theorem PV.mv {S T : sS} {n i : Nat} {m : Int} (h : PV S n i) (h0 : 0 ≤ Xi S 964 i) (ht : Xi S 964 i < m) (hk : KT T S m) (hp : Xi T 963 i = Xi S 963 i ∧ Xi T 964 i = Xi S 964 i ∧ Xi T 965 i = Xi S 965 i) (hr : Xi S 904 69 ≤ Xi T 904 69) (h7 : ∀ j, Xi T 907 j = Xi S 907 j) : PV T n i := by sorry
/-- all phrases below m, their entries below the count -/
def PVA (S : sS) (n : Nat) (m : Int) : Prop := ∀ i : Nat, (i : Int) < m → Xi S 964 i < Xi S 904 93 ∧ PV S n i
theorem PVA.mv {S T : sS} {n : Nat} {m : Int} (h : PVA S n m) (hH : HI S) (hk : KT T S (Xi S 904 93)) (hp : KP T S m) (hr : Xi S 904 69 ≤ Xi T 904 69) (hc : Xi S 904 93 ≤ Xi T 904 93) (h7 : ∀ j, Xi T 907 j = Xi S 907 j) : PVA T n m := by sorry
theorem PVA.add {S : sS} {n : Nat} {m m2 : Int} (h : PVA S n m) (h0 : 0 ≤ m) (e : m2 = m + 1) (g : Xi S 964 m.toNat < Xi S 904 93 ∧ PV S n m.toNat) : PVA S n m2 := by sorry
theorem tvx_w {P U : sS} {n i k j : Nat} {v : Int32} (h : TVx P n i) (e : U = uI P k j v) (hk : k ≠ 907 ∧ (k = 904 → j ≠ 69) ∧ (k < 952 ∨ 960 < k)) : TVx U n i := by sorry
theorem pvt_w {P U : sS} {n i k j : Nat} {w : Int} {v : Int32} (h : PVt P n w i) (e : U = uI P k j v) (hk : k ≠ 907 ∧ (k = 904 → j ≠ 69) ∧ (k < 952 ∨ 962 < k)) : PVt U n w i := by sorry
theorem thv_c {m m2 : Int} {n : Nat} {a b a2 b2 : Int} (h : THV m n a b) (e : m ≤ m2) (ea : a2 = a) (eb : b2 = b) : THV m2 n a2 b2 := by sorry
/-- at most one token further -/
theorem at_opt {P U : sS} {n c : Nat} {v : Int} (hT : TK P n) (hA : AT P n c) (e : U = uI P 904 8 (Int32.ofInt v)) (hv : v = Xi P 904 8 ∨ (v = Xi P 904 8 + 1 ∧ Xi P 904 65 = 0 ∧ Xi P 907 (Xi P 904 8).toNat ≠ 1)) (h8 : 0 ≤ Xi P 904 8 ∧ Xi P 904 8 ≤ 5010) : AT U n c ∧ Xi P 904 8 ≤ Xi U 904 8 ∧ (Xi U 904 8 ≤ n ∨ Xi U 904 8 = Xi P 904 8) := by sorry
/-- one more entry -/
theorem at_ct {P U : sS} {n c c2 : Nat} {v : Int} (hA : AT P n c) (e : U = uI P 904 93 (Int32.ofInt v)) (hv : v = Xi P 904 93 + 1) (h0 : 0 ≤ Xi P 904 93 ∧ Xi P 904 93 ≤ 1700) (hc : c = c2 + 1) : AT U n c2 := by sorry
theorem at_tc {S : sS} {n c : Nat} (hA : AT S n c) (hH : HI S) (q : Xi S 904 65 = 0) : Xi S 904 93 + c ≤ 1666 := by sorry
theorem KP.w {T U S : sS} {m : Int} {k j : Nat} {v : Int32} (h : KP T S m) (e : U = uI T k j v) (hj : (k < 963 ∨ 965 < k) ∨ m ≤ j) : KP U S m := by sorry
theorem KP_FR {l : List rec} {T U S : sS} {m : Int} (f : FR l T U) (e : kdis l [(963, 966)] = true) (h : KP T S m) : KP U S m := by sorry
theorem KP.rf {S : sS} {m : Int} : KP S S m := by sorry
theorem pv_w {P U : sS} {n i k j : Nat} {v : Int32} (h : PV P n i) (e : U = uI P k j v) (hk : k ≠ 907 ∧ (k = 904 → j ≠ 69) ∧ (k < 952 ∨ 964 < k)) : PV U n i := by sorry
def md_mo_thing : List rec := [(904, 905, 8, 9), (904, 905, 65, 66), (904, 905, 66, 67), (904, 905, 69, 70), (904, 905, 99, 100), (904, 905, 100, 101), (904, 905, 101, 102), (950, 951, 0, 100000), (951, 952, 0, 100000)]
def md_mo_thingOfTest : List rec := [(904, 905, 8, 9), (904, 905, 65, 66), (904, 905, 66, 67), (904, 905, 69, 70), (904, 905, 99, 100), (904, 905, 100, 101), (904, 905, 101, 102), (950, 951, 0, 100000), (951, 952, 0, 100000), (954, 955, 0, 100000), (955, 956, 0, 100000)]
abbrev Q_mo_beginsOf__2 (S : sS) (n : Nat) (t : Int) : pst := fun r S1 => S = S1 ∧ (∃ z : Int, r = some (iv z) ∧ (0 ≤ z ∧ z ≤ 1) ∧ (z = 1 → Xi S 907 t.toNat = 102))
set_option maxRecDepth 100000 in
theorem t_mo_beginsOf__2 {S : sS} (hH : HI S) (n : Nat) (t : Int) (ht : 0 ≤ t ∧ t ≤ 5001) (hT : TK S n) (ht : t ≤ n) (d : Nat) : Mt lay0 (d + 1) m_mo_beginsOf [.ref 904, iv t] S (Q_mo_beginsOf__2 S n t) := by sorry
/-! SAFETY of the reference: cutting into tokens -/
theorem w1b : ∀ b : Fin 32, 0 ≤ lorF (lshlF 0 5) (b.val : Int) ∧ lorF (lshlF 0 5) (b.val : Int) < 32 := by sorry
theorem w2b : ∀ a b : Fin 32, 0 ≤ lorF (lshlF (a.val : Int) 5) (b.val : Int) ∧ lorF (lshlF (a.val : Int) 5) (b.val : Int) < 1024 := by sorry
theorem w1i {x : Int} (h : 0 ≤ x ∧ x < 32) : 0 ≤ lorF (lshlF 0 5) x ∧ lorF (lshlF 0 5) x < 32 := by sorry
theorem w2i {a x : Int} (ha : 0 ≤ a ∧ a < 32) (h : 0 ≤ x ∧ x < 32) : 0 ≤ lorF (lshlF a 5) x ∧ lorF (lshlF a 5) x < 1024 := by sorry
theorem ltr1 {c : Int} (h : ltr c = 1) : 97 ≤ sml c ∧ sml c ≤ 122 := by sorry
/-- key words of three letters and more are large -/
def KWM (S : sS) : Prop := ∀ k : Int, 100 ≤ k → k ≤ 154 → K3 k → 1024 ≤ Xj S 911 (k - 100).toNat
/-- the tokens before m; p lies behind the last of them -/
def CT (S : sS) (m p : Int) : Prop := (∀ i : Nat, (i : Int) < m → Xi S 907 i ≠ 1 ∧ (Xi S 907 i = 5 → Xi S 908 i + 1 + Xi S 909 i ≤ 5000)) ∧ (∀ i : Nat, (i : Int) + 1 < m → Xi S 908 i < Xi S 908 (i + 1) ∧ (K3 (Xi S 907 i) → Xi S 908 i + 3 ≤ Xi S 908 (i + 1))) ∧ (∀ i : Nat, (i : Int) + 1 = m → Xi S 908 i < p ∧ (K3 (Xi S 907 i) → Xi S 908 i + 3 ≤ p))
theorem CT.le {S : sS} {m p p2 : Int} (h : CT S m p) (e : p ≤ p2) : CT S m p2 := by sorry
theorem CT.mv {S T : sS} {m p : Int} (h : CT S m p) (x : ∀ k : Nat, 907 ≤ k → k ≤ 909 → ∀ i : Nat, (i : Int) < m → Xi T k i = Xi S k i) : CT T m p := by sorry
theorem CT.w {S U : sS} {m p : Int} {k j : Nat} {v : Int32} (h : CT S m p) (e : U = uI S k j v) (hj : m ≤ j) : CT U m p := by sorry
theorem CT.add {S : sS} {m p q : Int} (h : CT S m p) (h0 : 0 ≤ m) (hp : Xi S 908 m.toNat = p) (h1 : Xi S 907 m.toNat ≠ 1) (h5 : Xi S 907 m.toNat = 5 → p + 1 + Xi S 909 m.toNat ≤ 5000) (hq : p < q) (hk : K3 (Xi S 907 m.toNat) → p + 3 ≤ q) : CT S (m + 1) q := by sorry
theorem CT.rf {S : sS} {p : Int} : CT S 0 p := by sorry
/-- texts lie within the story -/
def TXK (S : sS) (n : Nat) : Prop := ∀ i : Nat, i < n → Xi S 907 i = 5 → Xi S 908 i + 1 + Xi S 909 i ≤ 5000
theorem ct_tk {S U1 U2 : sS} {m p : Int} {a b : Int} {j : Nat} (h : CT S m p) (h0 : 0 ≤ m) (hm : m ≤ 5000) (e1 : U1 = uI S 907 j (Int32.ofInt a)) (e2 : U2 = uI U1 908 j (Int32.ofInt b)) (hj : j = m.toNat) (ha : a = 1) (hb : b = p) (hp : 0 ≤ p ∧ p ≤ 5000) : TK U2 m.toNat ∧ TXK U2 m.toNat := by sorry
theorem TXK_FR {l : List rec} {S T : sS} {n : Nat} (h : FR l S T) (e : kdis l [(907, 910)] = true) (hT : TXK S n) : TXK T n := by sorry
end
section
/-! SAFETY of methods: printed by wip/safe (vc.py, decl.py) -/
def md_mo_testedWhat : List rec := [(904, 905, 8, 9), (904, 905, 65, 66), (904, 905, 66, 67), (904, 905, 69, 70), (904, 905, 78, 79), (950, 951, 0, 100000), (951, 952, 0, 100000), (952, 953, 0, 100000), (953, 954, 0, 100000), (957, 958, 0, 100000), (960, 961, 0, 100000)]
/-! SAFETY of the reference: what a sentence without anything odd leaves -/
def SNQ (S : sS) (n : Nat) : Prop := (Xi S 904 70 ≤ 1 → Xi S 904 81 ≤ n ∧ Xi S 907 (Xi S 904 81).toNat = 5) ∧ (Xi S 904 70 = 1 → 1 ≤ Xi S 904 69) ∧ (Xi S 904 70 = 2 ∨ Xi S 904 70 = 7 ∨ Xi S 904 70 = 8 ∨ Xi S 904 70 = 9 → 2 ≤ Xi S 904 69) ∧ (3 ≤ Xi S 904 70 ∧ Xi S 904 70 ≤ 5 → Xi S 904 102 < Xi S 904 69 ∧ Xi S 904 103 < Xi S 904 69) ∧
  (Xi S 904 70 = 9 → 0 ≤ Xi S 904 78 ∧ Xi S 904 78 ≤ n ∧ (Xi S 907 (Xi S 904 78).toNat ≠ 4 → Xi S 907 (Xi S 904 78).toNat ≠ 5 → 3 ≤ Xi S 904 69)) ∧ (10 ≤ Xi S 904 70 ∧ Xi S 904 70 ≤ 16 → Xi S 904 71 + Xi S 904 72 ≤ Xi S 904 69 ∧ 1 ≤ Xi S 904 72) ∧
  ((10 ≤ Xi S 904 70 ∧ Xi S 904 70 ≤ 12) ∨ (14 ≤ Xi S 904 70 ∧ Xi S 904 70 ≤ 16) → Xi S 904 78 < Xi S 904 69) ∧ (Xi S 904 70 = 12 ∨ (14 ≤ Xi S 904 70 ∧ Xi S 904 70 ≤ 16) → 0 ≤ Xi S 904 78) ∧ (Xi S 904 70 = 13 ∨ Xi S 904 70 = 14 ∨ (Xi S 904 70 = 12 ∧ Xi S 904 73 ≠ 0) → Xi S 904 74 < Xi S 904 69) ∧ (17 ≤ Xi S 904 70 ∧ Xi S 904 70 ≤ 19 → 3 ≤ Xi S 904 69)
theorem SNQ_FR {l : List rec} {S T : sS} {n : Nat} (h : FR l S T) (e : (kdis l [(907, 908)] && mD l [69, 70, 71, 72, 73, 74, 78, 81, 102, 103]) = true) (hq : SNQ S n) : SNQ T n := by sorry
theorem TVA_FR {l : List rec} {S T : sS} {n : Nat} {m : Int} (h : FR l S T) (e : (kdis l [(907, 908), (952, 963)] && mD l [69]) = true) (hq : TVA S n m) : TVA T n m := by sorry
theorem PVA_FR {l : List rec} {S T : sS} {n : Nat} {m : Int} (hH : HI S) (h : FR l S T) (e : (kdis l [(907, 908), (952, 966)] && mD l [69, 93]) = true) (hq : PVA S n m) : PVA T n m := by sorry
theorem at_0 {S : sS} {n : Nat} (hH : HI S) (h8 : Xi S 904 8 ≤ n) (h69 : Xi S 904 69 = 0) (h93 : Xi S 904 93 = 0) : AT S n 0 := by sorry
/-! SAFETY of the reference: what words mean, as functions -/
abbrev lxE (S : sS) (a b c n k : Int) : Prop := Xi S 912 k.toNat = n ∧ Xj S 913 (3 * k).toNat = a ∧ (n < 2 ∨ Xj S 913 (3 * k + 1).toNat = b) ∧ (n < 3 ∨ Xj S 913 (3 * k + 2).toNat = c) ∧ Xi S 916 k.toNat = 0
noncomputable def fdR (S : sS) (a b c n : Int) : Nat → Int
  | 0 => -1
  | m + 1 => if fdR S a b c n m ≠ -1 then fdR S a b c n m else if lxE S a b c n (m : Int) then (m : Int) else -1
theorem fdR_up {S : sS} {a b c n v : Int} {m : Nat} (h : fdR S a b c n m = v) (hv : v ≠ -1) : ∀ k, fdR S a b c n (m + k) = v := by sorry
theorem fdR_no {S : sS} {a b c n v : Int} (h0 : 0 ≤ v) (h : fdR S a b c n v.toNat = -1) (hn : ¬ lxE S a b c n v) : fdR S a b c n (v + 1).toNat = -1 := by sorry
theorem fdR_hit {S : sS} {a b c n v L : Int} (h0 : 0 ≤ v) (h : fdR S a b c n v.toNat = -1) (hy : lxE S a b c n v) (hl : v < L) : v = fdR S a b c n L.toNat := by sorry
theorem fdR_rg {S : sS} {a b c n : Int} : ∀ m : Nat, fdR S a b c n m = -1 ∨ (0 ≤ fdR S a b c n m ∧ fdR S a b c n m < m) := by sorry
/-- what stays of the words before m -/
def LXK (T S : sS) (m : Int) : Prop := ∀ k : Int, 0 ≤ k → k < m → Xi T 912 k.toNat = Xi S 912 k.toNat ∧ Xj T 913 (3 * k).toNat = Xj S 913 (3 * k).toNat ∧ Xj T 913 (3 * k + 1).toNat = Xj S 913 (3 * k + 1).toNat ∧ Xj T 913 (3 * k + 2).toNat = Xj S 913 (3 * k + 2).toNat ∧ Xi T 916 k.toNat = Xi S 916 k.toNat ∧ Xi T 914 k.toNat = Xi S 914 k.toNat ∧ Xi T 915 k.toNat = Xi S 915 k.toNat
theorem fdR_k {S T : sS} {a b c n : Int} : ∀ m : Nat, LXK T S m → fdR T a b c n m = fdR S a b c n m := by sorry
noncomputable def nmR (S : sS) (t n : Int) : Int := if n < 1 ∨ 3 < n then -1 else fdR S (Xj S 910 t.toNat) (if 1 < n then Xj S 910 (t + 1).toNat else 0) (if 2 < n then Xj S 910 (t + 2).toNat else 0) n (Xi S 904 15).toNat
noncomputable def msR (S : sS) (t n s : Int) : Int := if nmR S t n ≠ -1 ∧ Xi S 914 (nmR S t n).toNat = s then Xi S 915 (nmR S t n).toNat else -1
/-- what a run means -/
noncomputable def rnR (S : sS) (r s : Int) : Int := msR S (Xi S 950 r.toNat) (Xi S 951 r.toNat) s
noncomputable def rmR (S : sS) (r : Int) : Int := nmR S (Xi S 950 r.toNat) (Xi S 951 r.toNat)
noncomputable def r2R (S : sS) (r s u : Int) : Int := if rnR S r s ≠ -1 then rnR S r s else rnR S r u
theorem nmR_rg {S : sS} {t n : Int} (h0 : 0 ≤ Xi S 904 15) : nmR S t n = -1 ∨ (0 ≤ nmR S t n ∧ nmR S t n < Xi S 904 15) := by sorry
theorem SMK.xj {ks : List (Nat × Nat)} {S S1 : sS} (h : SMK ks S S1) (k : Nat) (e : inK ks k = true) (j : Nat) : Xj S1 k j = Xj S k j := by sorry
def kLX : List (Nat × Nat) := [(910, 911), (912, 917)]
theorem LXK_FR {l : List rec} {S T : sS} {m : Int} (h : FR l S T) (e : kdis l [(912, 917)] = true) : LXK T S m := by sorry
theorem nmR_FR {l : List rec} {S T : sS} {t n : Int} (h : FR l S T) (e : (kdis l kLX && mD l [15]) = true) : nmR T t n = nmR S t n := by sorry
theorem msR_FR {l : List rec} {S T : sS} {t n s : Int} (h : FR l S T) (e : (kdis l kLX && mD l [15]) = true) : msR T t n s = msR S t n s := by sorry
theorem rnR_FR {l : List rec} {S T : sS} {r s : Int} (h : FR l S T) (e : (kdis l kLX && mD l [15]) = true) (e2 : kdis l [(950, 952)] = true) : rnR T r s = rnR S r s := by sorry
theorem rmR_FR {l : List rec} {S T : sS} {r : Int} (h : FR l S T) (e : (kdis l kLX && mD l [15]) = true) (e2 : kdis l [(950, 952)] = true) : rmR T r = rmR S r := by sorry
/-- runs told as new -/
def NWV (S : sS) : Prop := ∀ k : Nat, (k : Int) < Xi S 904 108 → Xi S 966 k < Xi S 904 69
theorem NWV_FR {l : List rec} {S T : sS} (h : FR l S T) (e : (kdis l [(966, 967)] && mD l [69, 108]) = true) (hv : NWV S) : NWV T := by sorry
abbrev Q_mo_find__2 (S : sS) (a : Int) (b : Int) (c : Int) (n : Int) : pst := fun r S1 => S = S1 ∧ (∃ z : Int, r = some (iv z) ∧ (-1 ≤ z ∧ z ≤ 299) ∧ (z ≠ -1 → z < Xi S 904 15) ∧ (z = fdR S a b c n (Xi S 904 15).toNat))
set_option maxRecDepth 100000 in
theorem t_mo_find__2 {S : sS} (hH : HI S) (a : Int) (b : Int) (c : Int) (n : Int) (hn : -2147483648 ≤ n ∧ n ≤ 2147483647) (ra : rgL a) (rb : rgL b) (rc : rgL c) (d : Nat) : Mt lay0 (d + 1) m_mo_find [.ref 904, jw a, jw b, jw c, iv n] S (Q_mo_find__2 S a b c n) := by sorry
abbrev Q_mo_mean__2 (S : sS) (t : Int) (m : Int) : pst := fun r S1 => S = S1 ∧ (∃ z : Int, r = some (iv z) ∧ (-1 ≤ z ∧ z ≤ 299) ∧ (z ≠ -1 → z < Xi S 904 15) ∧ (z = nmR S t m))
set_option maxRecDepth 100000 in
theorem t_mo_mean__2 {S : sS} (hH : HI S) (t : Int) (m : Int) (ht : 0 ≤ t ∧ t ≤ 5001) (hm : -2147483648 ≤ m ∧ m ≤ 2147483647) (hn : m ≤ 3 → t + m ≤ 5002) (d : Nat) : Mt lay0 (d + 2) m_mo_mean [.ref 904, iv t, iv m] S (Q_mo_mean__2 S t m) := by sorry
abbrev Q_mo_means__2 (S : sS) (t : Int) (m : Int) (so : Int) : pst := fun r S1 => S = S1 ∧ (∃ z : Int, r = some (iv z) ∧ (-1 ≤ z ∧ z ≤ 63) ∧ (z ≠ -1 → z < cM S so) ∧ (z = msR S t m so))
set_option maxRecDepth 100000 in
theorem t_mo_means__2 {S : sS} (hH : HI S) (t : Int) (m : Int) (so : Int) (ht : 0 ≤ t ∧ t ≤ 5001) (hm : -2147483648 ≤ m ∧ m ≤ 2147483647) (hso : 0 ≤ so ∧ so ≤ 12) (hn : m ≤ 3 → t + m ≤ 5002) (hM : LXM S) (d : Nat) : Mt lay0 (d + 3) m_mo_means [.ref 904, iv t, iv m, iv so] S (Q_mo_means__2 S t m so) := by sorry
abbrev Q_mo_meansRun__2 (S : sS) (n : Nat) (rn : Int) (so : Int) : pst := fun r S1 => S = S1 ∧ (∃ z : Int, r = some (iv z) ∧ (-1 ≤ z ∧ z ≤ 63) ∧ (z ≠ -1 → z < cM S so) ∧ (z = rnR S rn so))
set_option maxRecDepth 100000 in
theorem t_mo_meansRun__2 {S : sS} (hH : HI S) (n : Nat) (rn : Int) (so : Int) (hrn : 0 ≤ rn ∧ rn ≤ 2599) (hso : 0 ≤ so ∧ so ≤ 12) (hT : TK S n) (hv : RNV S n) (hrr : rn < Xi S 904 69) (hM : LXM S) (d : Nat) : Mt lay0 (d + 4) m_mo_meansRun [.ref 904, iv rn, iv so] S (Q_mo_meansRun__2 S n rn so) := by sorry
abbrev Q_mo_meansNothing__2 (S : sS) (n : Nat) (rn : Int) : pst := fun r S1 => S = S1 ∧ (∃ z : Int, r = some (iv z) ∧ (0 ≤ z ∧ z ≤ 1) ∧ ((z = 1 → rmR S rn = -1) ∧ (z = 0 → rmR S rn ≠ -1)))
set_option maxRecDepth 100000 in
theorem t_mo_meansNothing__2 {S : sS} (hH : HI S) (n : Nat) (rn : Int) (hrn : 0 ≤ rn ∧ rn ≤ 2599) (hT : TK S n) (hv : RNV S n) (hrr : rn < Xi S 904 69) (d : Nat) : Mt lay0 (d + 3) m_mo_meansNothing [.ref 904, iv rn] S (Q_mo_meansNothing__2 S n rn) := by sorry
def md_mo_kindOfRun__2 : List rec := [(904, 905, 104, 105), (904, 905, 105, 106), (904, 905, 106, 107)]
abbrev Q_mo_kindOfRun__2 (S : sS) (n : Nat) (rn : Int) : pst := fun r S1 => HI S1 ∧ FR md_mo_kindOfRun__2 S S1 ∧ (∃ z : Int, r = some (iv z) ∧ (-1 ≤ z ∧ z ≤ 15) ∧ (z ≠ -1 → z < Xi S 904 16) ∧ (z = -1 → Xi S1 904 106 ≠ 0) ∧ (Xi S 904 106 ≠ 0 → Xi S1 904 106 ≠ 0) ∧ (z = rnR S rn 0))
set_option maxRecDepth 100000 in
theorem t_mo_kindOfRun__2 {S : sS} (hH : HI S) (n : Nat) (rn : Int) (hrn : 0 ≤ rn ∧ rn ≤ 2599) (hT : TK S n) (hv : RNV S n) (hrr : rn < Xi S 904 69) (hM : LXM S) (d : Nat) : Mt lay0 (d + 5) m_mo_kindOfRun [.ref 904, iv rn] S (Q_mo_kindOfRun__2 S n rn) := by sorry
abbrev Q_mo_kindOrPlural__2 (S : sS) (n : Nat) (rn : Int) : pst := fun r S1 => S = S1 ∧ (∃ z : Int, r = some (iv z) ∧ (-1 ≤ z ∧ z ≤ 15) ∧ (z ≠ -1 → z < Xi S 904 16) ∧ (z = r2R S rn 0 1))
set_option maxRecDepth 100000 in
theorem t_mo_kindOrPlural__2 {S : sS} (hH : HI S) (n : Nat) (rn : Int) (hrn : 0 ≤ rn ∧ rn ≤ 2599) (hT : TK S n) (hv : RNV S n) (hrr : rn < Xi S 904 69) (hM : LXM S) (d : Nat) : Mt lay0 (d + 5) m_mo_kindOrPlural [.ref 904, iv rn] S (Q_mo_kindOrPlural__2 S n rn) := by sorry
abbrev Q_mo_typeOrPlural__2 (S : sS) (n : Nat) (rn : Int) : pst := fun r S1 => S = S1 ∧ (∃ z : Int, r = some (iv z) ∧ (-1 ≤ z ∧ z ≤ 7) ∧ (z = r2R S rn 2 3))
set_option maxRecDepth 100000 in
theorem t_mo_typeOrPlural__2 {S : sS} (hH : HI S) (n : Nat) (rn : Int) (hrn : 0 ≤ rn ∧ rn ≤ 2599) (hT : TK S n) (hv : RNV S n) (hrr : rn < Xi S 904 69) (hM : LXM S) (d : Nat) : Mt lay0 (d + 5) m_mo_typeOrPlural [.ref 904, iv rn] S (Q_mo_typeOrPlural__2 S n rn) := by sorry
/-! SAFETY of the reference: new names -/
def alK (S : sS) (r s : Int) (m : Nat) : Prop := ∀ k : Int, 0 ≤ k → k < m → Xj S 910 (Xi S 950 r.toNat + k).toNat = Xj S 910 (Xi S 950 s.toNat + k).toNat
def alR (S : sS) (r s : Int) : Prop := Xi S 951 r.toNat = Xi S 951 s.toNat ∧ ∀ k : Int, 0 ≤ k → k < Xi S 951 r.toNat → Xj S 910 (Xi S 950 r.toNat + k).toNat = Xj S 910 (Xi S 950 s.toNat + k).toNat
theorem alK_0 {S : sS} {r s : Int} : alK S r s (0 : Int).toNat := by sorry
theorem alK_s {S : sS} {r s v : Int} (h : alK S r s v.toNat) (h0 : 0 ≤ v) (e : Xj S 910 (Xi S 950 r.toNat + v).toNat = Xj S 910 (Xi S 950 s.toNat + v).toNat) : alK S r s (v + 1).toNat := by sorry
def nwR (S : sS) (r : Int) : Prop := Xi S 951 r.toNat ≤ 3 ∧ rmR S r = -1 ∧ ∀ k : Nat, (k : Int) < Xi S 904 108 → ¬ alR S r (Xi S 966 k)
/-- how many of the first runs of the list mean nothing of that sort -/
noncomputable def cnR (S : sS) (f s : Int) : Nat → Int
  | 0 => 0
  | m + 1 => cnR S f s m + (if rnR S (f + m) s = -1 then 1 else 0)
theorem cnR_s {S : sS} {f s v : Int} (h0 : 0 ≤ v) : cnR S f s (v + 1).toNat = cnR S f s v.toNat + (if rnR S (f + v) s = -1 then 1 else 0) := by sorry
/-- the new objects of the list find room -/
def ON (S : sS) (a v : Int) : Prop := a = Xi S 904 19 + cnR S (Xi S 904 71) 4 v.toNat ∧ ∀ i : Int, 0 ≤ i → i < v → rnR S (Xi S 904 71 + i) 4 = -1 → Xi S 951 (Xi S 904 71 + i).toNat ≤ 3 ∧ Xi S 904 19 + cnR S (Xi S 904 71) 4 i.toNat < 24
def ONA (S : sS) : Prop := ∃ a, ON S a (Xi S 904 72)
theorem on_0 {S : sS} : ON S (Xi S 904 19) 0 := by sorry
theorem on_skip {S : sS} {a v : Int} (h : ON S a v) (h0 : 0 ≤ v) (hn : rnR S (Xi S 904 71 + v) 4 ≠ -1) : ON S a (v + 1) := by sorry
theorem on_new {S : sS} {a v : Int} (h : ON S a v) (h0 : 0 ≤ v) (hn : rnR S (Xi S 904 71 + v) 4 = -1) (h3 : Xi S 951 (Xi S 904 71 + v).toNat ≤ 3) (hl : a < 24) : ON S (a + 1) (v + 1) := by sorry
abbrev Q_mo_isAlike__2 (S : sS) (n : Nat) (r1 : Int) (s1 : Int) : pst := fun r S1 => S = S1 ∧ (∃ z : Int, r = some (iv z) ∧ (0 ≤ z ∧ z ≤ 1) ∧ ((z = 1 → alR S r1 s1) ∧ (z = 0 → ¬ alR S r1 s1)))
set_option maxRecDepth 100000 in
theorem t_mo_isAlike__2 {S : sS} (hH : HI S) (n : Nat) (r1 : Int) (s1 : Int) (hr1 : 0 ≤ r1 ∧ r1 ≤ 2599) (hs1 : 0 ≤ s1 ∧ s1 ≤ 2599) (hT : TK S n) (hv : RNV S n) (hr : r1 < Xi S 904 69) (hs : s1 < Xi S 904 69) (d : Nat) : Mt lay0 (d + 1) m_mo_isAlike [.ref 904, iv r1, iv s1] S (Q_mo_isAlike__2 S n r1 s1) := by sorry
abbrev Q_mo_isNew (S : sS) (n : Nat) (rn : Int) : pst := fun r S1 => S = S1 ∧ (∃ z : Int, r = some (iv z) ∧ (0 ≤ z ∧ z ≤ 1) ∧ ((z = 1 → nwR S rn) ∧ (z = 0 → ¬ nwR S rn)))
set_option maxRecDepth 100000 in
theorem t_mo_isNew {S : sS} (hH : HI S) (n : Nat) (rn : Int) (hrn : 0 ≤ rn ∧ rn ≤ 2599) (hT : TK S n) (hv : RNV S n) (hrr : rn < Xi S 904 69) (hN : NWV S) (d : Nat) : Mt lay0 (d + 3) m_mo_isNew [.ref 904, iv rn] S (Q_mo_isNew S n rn) := by sorry
theorem nwv_add {P U1 U2 : sS} {m r y : Int} {j : Nat} (k : ∀ i : Nat, (i : Int) < m → Xi U1 966 i < r) (e1 : U1 = uI P 966 j (Int32.ofInt y)) (e2 : U2 = uI U1 904 108 (Int32.ofInt (m + 1))) (hj : (j : Int) = m) (hy : 0 ≤ y ∧ y ≤ 2600) (hr : y < r) (hU : Xi U2 904 69 = r) (hm : m ≤ 2600) (h0 : 0 ≤ m) : NWV U2 := by sorry
def md_mo_mustBeNew : List rec := [(904, 905, 104, 105), (904, 905, 105, 106), (904, 905, 106, 107), (904, 905, 108, 109), (966, 967, 0, 100000)]
abbrev Q_mo_mustBeNew (S : sS) (n : Nat) (rn : Int) (there : Int) (most : Int) : pst := fun r S1 => HI S1 ∧ FR md_mo_mustBeNew S S1 ∧ (r = none ∧ (Xi S 904 106 ≠ 0 → Xi S1 904 106 ≠ 0) ∧ (Xi S1 904 106 = 0 → there < most ∧ nwR S rn) ∧ (NWV S1) ∧ (Xi S 904 108 ≤ Xi S1 904 108 ∧ Xi S1 904 108 ≤ Xi S 904 108 + 1))
set_option maxRecDepth 100000 in
theorem t_mo_mustBeNew {S : sS} (hH : HI S) (n : Nat) (rn : Int) (there : Int) (most : Int) (hrn : 0 ≤ rn ∧ rn ≤ 2599) (hthere : -2147483648 ≤ there ∧ there ≤ 2147483647) (hmost : -2147483648 ≤ most ∧ most ≤ 2147483647) (hT : TK S n) (hv : RNV S n) (hrr : rn < Xi S 904 69) (hN : NWV S) (h9 : Xi S 904 108 ≤ 2599) (d : Nat) : Mt lay0 (d + 4) m_mo_mustBeNew [.ref 904, iv rn, iv there, iv most] S (Q_mo_mustBeNew S n rn there most) := by sorry
/-! SAFETY of methods: printed by wip/safe (vc.py, decl.py) -/
def md_mo_test : List rec := [(904, 905, 8, 9), (904, 905, 65, 66), (904, 905, 66, 67), (904, 905, 69, 70), (904, 905, 78, 79), (904, 905, 93, 94), (904, 905, 99, 100), (904, 905, 100, 101), (904, 905, 101, 102), (950, 951, 0, 100000), (951, 952, 0, 100000), (952, 953, 0, 100000), (953, 954, 0, 100000), (954, 955, 0, 100000), (955, 956, 0, 100000), (956, 957, 0, 100000), (957, 958, 0, 100000), (958, 959, 0, 100000), (959, 960, 0, 100000), (960, 961, 0, 100000), (961, 962, 0, 100000), (962, 963, 0, 100000)]
end
section
/-! SAFETY of methods: printed by wip/safe (vc.py, decl.py) -/
/-! SAFETY of the reference: kinds, properties, adjectives as functions -/
def blN (S : sS) (o : Int) : Nat → Int → Int
  | 0, _ => 0
  | f + 1, k => if k < 0 then 0 else if k = o then 1 else blN S o f (Xi S 917 k.toNat)
theorem blN_st {S : sS} {o : Int} (hB : ABV S) : ∀ (f g : Nat) (k : Int), k ≤ 15 → k + 2 ≤ f → k + 2 ≤ g → blN S o f k = blN S o g k := by sorry
/-- is a kind another, or below it -/
def blR (S : sS) (k o : Int) : Int := blN S o 17 k
theorem blR_n {S : sS} {k o : Int} (h : k < 0) : blR S k o = 0 := by sorry
theorem blR_e {S : sS} {k o : Int} (h : 0 ≤ k) (e : k = o) : blR S k o = 1 := by sorry
theorem blR_s {S : sS} {k o : Int} (hB : ABV S) (h : 0 ≤ k) (h2 : k ≤ 15) (e : k ≠ o) : blR S k o = blR S (Xi S 917 k.toNat) o := by sorry
def hsN (S : sS) (p : Int) : Nat → Int → Int
  | 0, _ => 0
  | f + 1, k => if k < 0 then 0 else if Xi S 929 (12 * k + p).toNat ≠ 0 then 1 else hsN S p f (Xi S 917 k.toNat)
theorem hsN_st {S : sS} {p : Int} (hB : ABV S) : ∀ (f g : Nat) (k : Int), k ≤ 15 → k + 2 ≤ f → k + 2 ≤ g → hsN S p f k = hsN S p g k := by sorry
/-- has a kind, or one above it, that property -/
def hsR (S : sS) (k p : Int) : Int := hsN S p 17 k
theorem hsR_n {S : sS} {k p : Int} (h : k < 0) : hsR S k p = 0 := by sorry
theorem hsR_e {S : sS} {k p : Int} (h : 0 ≤ k) (e : Xi S 929 (12 * k + p).toNat ≠ 0) : hsR S k p = 1 := by sorry
theorem hsR_s {S : sS} {k p : Int} (hB : ABV S) (h : 0 ≤ k) (h2 : k ≤ 15) (e : Xi S 929 (12 * k + p).toNat = 0) : hsR S k p = hsR S (Xi S 917 k.toNat) p := by sorry
/-- how many of the first properties of a kind are of a type -/
def mtN (S : sS) (k t : Int) : Nat → Int
  | 0 => 0
  | m + 1 => mtN S k t m + (if Xi S 928 m = t ∧ hsR S k m = 1 then 1 else 0)
theorem mtN_s {S : sS} {k t v : Int} (h : 0 ≤ v) : mtN S k t (v + 1).toNat = mtN S k t v.toNat + (if Xi S 928 v.toNat = t ∧ hsR S k v = 1 then 1 else 0) := by sorry
def mtR (S : sS) (k t : Int) : Int := if k < 0 then 0 else mtN S k t (Xi S 904 32).toNat
/-- how often an adjective is meant -/
noncomputable def adR (S : sS) (t m k f v : Int) : Int := if nmR S t m = -1 then 0 else if Xi S 914 (nmR S t m).toNat = 5 ∧ blR S k (Xi S 921 (Xi S 915 (nmR S t m).toNat).toNat) = 1 ∧ (f ≠ 0 ∨ Xi S 924 (Xi S 915 (nmR S t m).toNat).toNat = 0) then 1 else if Xi S 914 (nmR S t m).toNat = 6 ∧ v ≠ 0 then mtR S k (Xi S 927 (Xi S 915 (nmR S t m).toNat).toNat) else 0
theorem blN_k {S T : sS} {o : Int} (e : ∀ j, Xi T 917 j = Xi S 917 j) : ∀ (f : Nat) (k : Int), blN T o f k = blN S o f k := by sorry
theorem hsN_k {S T : sS} {p : Int} (e : ∀ j, Xi T 917 j = Xi S 917 j) (e2 : ∀ j, Xi T 929 j = Xi S 929 j) : ∀ (f : Nat) (k : Int), hsN T p f k = hsN S p f k := by sorry
theorem mtN_k {S T : sS} {k t : Int} (e : ∀ j, Xi T 917 j = Xi S 917 j) (e2 : ∀ j, Xi T 929 j = Xi S 929 j) (e3 : ∀ j, Xi T 928 j = Xi S 928 j) : ∀ m : Nat, mtN T k t m = mtN S k t m := by sorry
theorem mtR_k {S T : sS} {k t : Int} (e : ∀ j, Xi T 917 j = Xi S 917 j) (e2 : ∀ j, Xi T 929 j = Xi S 929 j) (e3 : ∀ j, Xi T 928 j = Xi S 928 j) (e4 : Xi T 904 32 = Xi S 904 32) : mtR T k t = mtR S k t := by sorry
def kAD : List (Nat × Nat) := [(917, 918), (921, 922), (924, 925), (927, 930)]
theorem adR_FR {l : List rec} {S T : sS} {t m k f v : Int} (h : FR l S T) (e : (kdis l kLX && mD l [15]) = true) (e2 : (kdis l kAD && mD l [32]) = true) : adR T t m k f v = adR S t m k f v := by sorry
abbrev Q_mo_isBelow__2 (S : sS) (kind : Int) (of_ : Int) : pst := fun r S1 => S = S1 ∧ (∃ z : Int, r = some (iv z) ∧ (0 ≤ z ∧ z ≤ 1) ∧ (z = 1 → 0 ≤ kind ∧ 0 ≤ of_) ∧ (z = blR S kind of_))
set_option maxRecDepth 100000 in
theorem t_mo_isBelow__2 {S : sS} (hH : HI S) (kind : Int) (of_ : Int) (hkind : -1 ≤ kind ∧ kind ≤ 15) (hof_ : -2147483648 ≤ of_ ∧ of_ ≤ 2147483647) (hB : ABV S) (d : Nat) : Mt lay0 (d + 1) m_mo_isBelow [.ref 904, iv kind, iv of_] S (Q_mo_isBelow__2 S kind of_) := by sorry
abbrev Q_mo_has__2 (S : sS) (kind : Int) (p : Int) : pst := fun r S1 => S = S1 ∧ (∃ z : Int, r = some (iv z) ∧ (0 ≤ z ∧ z ≤ 1) ∧ (z = 1 → 0 ≤ kind) ∧ (z = hsR S kind p))
set_option maxRecDepth 100000 in
theorem t_mo_has__2 {S : sS} (hH : HI S) (kind : Int) (p : Int) (hkind : -1 ≤ kind ∧ kind ≤ 15) (hp : 0 ≤ p ∧ p ≤ 11) (hB : ABV S) (d : Nat) : Mt lay0 (d + 1) m_mo_has [.ref 904, iv kind, iv p] S (Q_mo_has__2 S kind p) := by sorry
def md_mo_propertyOf__2 : List rec := [(904, 905, 64, 65)]
abbrev Q_mo_propertyOf__2 (S : sS) (kind : Int) (type : Int) : pst := fun r S1 => HI S1 ∧ FR md_mo_propertyOf__2 S S1 ∧ (∃ z : Int, r = some (iv z) ∧ (-1 ≤ z ∧ z ≤ 11) ∧ (z = -1 → Xi S1 904 64 = 0) ∧ (z ≠ -1 → z < Xi S 904 32) ∧ (z ≠ -1 → 0 ≤ kind) ∧ (Xi S1 904 64 = mtR S kind type))
set_option maxRecDepth 100000 in
theorem t_mo_propertyOf__2 {S : sS} (hH : HI S) (kind : Int) (type : Int) (hkind : -1 ≤ kind ∧ kind ≤ 15) (htype : -2147483648 ≤ type ∧ type ≤ 2147483647) (hB : ABV S) (d : Nat) : Mt lay0 (d + 2) m_mo_propertyOf [.ref 904, iv kind, iv type] S (Q_mo_propertyOf__2 S kind type) := by sorry
def md_mo_adjective__2 : List rec := [(904, 905, 64, 65), (904, 905, 113, 114)]
abbrev Q_mo_adjective__2 (S : sS) (t : Int) (m : Int) (kind : Int) (dfd : Int) (vls : Int) : pst := fun r S1 => HI S1 ∧ FR md_mo_adjective__2 S S1 ∧ (∃ z : Int, r = some (iv z) ∧ (0 ≤ z ∧ z ≤ 12) ∧ (1 ≤ z → ADM S1 (Xi S1 904 113)) ∧ (1 ≤ z → dfd = 0 → Xi S1 904 113 < 100 → Xi S 922 (Xi S1 904 113).toNat ≠ -1) ∧ (z = adR S t m kind dfd vls))
set_option maxRecDepth 100000 in
set_option maxHeartbeats 4000000 in
theorem t_mo_adjective__2 {S : sS} (hH : HI S) (t : Int) (m : Int) (kind : Int) (dfd : Int) (vls : Int) (ht : 0 ≤ t ∧ t ≤ 5001) (hm : -2147483648 ≤ m ∧ m ≤ 2147483647) (hkind : -1 ≤ kind ∧ kind ≤ 15) (hdfd : 0 ≤ dfd ∧ dfd ≤ 1) (hvls : 0 ≤ vls ∧ vls ≤ 1) (hn : m ≤ 3 → t + m ≤ 5002) (hM : LXM S) (hB : ABV S) (hC : DCM S) (d : Nat) : Mt lay0 (d + 3) m_mo_adjective [.ref 904, iv t, iv m, iv kind, iv dfd, iv vls] S (Q_mo_adjective__2 S t m kind dfd vls) := by sorry
/-! SAFETY of the reference: System.arraycopy -/
def cpI (S : sS) (a b s t n : Nat) : sS := (va_up S.1 b (va_cpy (S.1 a) (S.1 b) s t n), S.2.1, S.2.2)
def cpJ (S : sS) (a b s t n : Nat) : sS := (S.1, va_up S.2.1 b (va_cpy (S.2.1 a) (S.2.1 b) s t n), S.2.2)
section
variable {lay : Nat → Nat × Nat} {d pc : Nat} {q : mT} {L : List (Nat × Value)} {st : List Value} {S : sS} {Q : pst}
theorem l_acp {ix na : Nat} {md : mT} {a b : Nat} {x y z : Int} {S2 : sS} (hc : lk q.2.2.2.2.2 pc = some (.invokestatic ix)) (hk : kLs q.2.2.2.2.1 ix = some (9, md, na)) (hs : Nat.ble (st.map (fun v => v.category)).sum 8 = true) (he : acp lay S a (Int32.ofInt x) b (Int32.ofInt y) (Int32.ofInt z) = some S2) (h : Rl lay d q (pc + 3) L st S2 Q) : Rl lay d q pc L (iv z :: iv y :: .ref b :: iv x :: .ref a :: st) S Q := by sorry
theorem acp_c {x y z : Int} {A B : Nat} (hx : 0 ≤ x) (hy : 0 ≤ y) (hz : 0 ≤ z) (h1 : x + z ≤ A) (h2 : y + z ≤ B) (hA : A ≤ 10000) (hB : B ≤ 10000) : ((decide (¬ Int32.ofInt x < 0) && (decide (¬ Int32.ofInt y < 0) && decide (¬ Int32.ofInt z < 0))) && (Nat.ble (x.toNat + z.toNat) A && Nat.ble (y.toNat + z.toNat) B)) = true := by sorry
theorem acpI {x y z : Int} {a b A B : Nat} (ha : lay a = (1, A)) (hb : lay b = (1, B)) (hx : 0 ≤ x) (hy : 0 ≤ y) (hz : 0 ≤ z) (h1 : x + z ≤ A) (h2 : y + z ≤ B) (hA : A ≤ 10000) (hB : B ≤ 10000) : acp lay S a (Int32.ofInt x) b (Int32.ofInt y) (Int32.ofInt z) = some (cpI S a b x.toNat y.toNat z.toNat) := by sorry
theorem acpJ {x y z : Int} {a b A B : Nat} (ha : lay a = (2, A)) (hb : lay b = (2, B)) (hx : 0 ≤ x) (hy : 0 ≤ y) (hz : 0 ≤ z) (h1 : x + z ≤ A) (h2 : y + z ≤ B) (hA : A ≤ 10000) (hB : B ≤ 10000) : acp lay S a (Int32.ofInt x) b (Int32.ofInt y) (Int32.ofInt z) = some (cpJ S a b x.toNat y.toNat z.toNat) := by sorry
end
theorem cpI_in {S : sS} {a b s t n j : Nat} (h : t ≤ j ∧ j < t + n) : Xi (cpI S a b s t n) b j = Xi S a (s + (j - t)) := by sorry
theorem cpI_nx {S : sS} {a b s t n k j : Nat} (h : k ≠ b ∨ ¬ (t ≤ j ∧ j < t + n)) : (cpI S a b s t n).1 k j = S.1 k j := by sorry
theorem cpI_ne {S : sS} {a b s t n k j : Nat} (h : k ≠ b ∨ ¬ (t ≤ j ∧ j < t + n)) : Xi (cpI S a b s t n) k j = Xi S k j := by sorry
theorem HI_cpI {S : sS} {a b s t n : Nat} (hH : HI S) (h : ∀ j, t ≤ j → j < t + n → (lh b j).1 ≤ Xi S a (s + (j - t)) ∧ Xi S a (s + (j - t)) ≤ (lh b j).2) : HI (cpI S a b s t n) := by sorry
theorem inR_s {b k j : Nat} (h : mdf [(b, b + 1, 0, 100000)] k j = false) : k ≠ b ∨ 100000 ≤ j := by sorry
theorem FR_cpI {S : sS} {a b s t n : Nat} (h : t + n ≤ 100000) : FR [(b, b + 1, 0, 100000)] S (cpI S a b s t n) := by sorry
theorem HI_cpJ {S : sS} {a b s t n : Nat} (hH : HI S) : HI (cpJ S a b s t n) := by sorry
theorem FR_cpJ {S : sS} {a b s t n : Nat} (h : t + n ≤ 100000) : FR [(b, b + 1, 0, 100000)] S (cpJ S a b s t n) := by sorry
/-! SAFETY of the reference: descriptions -/
def ADX (S : sS) (f a : Int) : Prop := ADM S a ∧ (f = 0 → a < 100 → Xi S 922 a.toNat ≠ -1)
def CHV (S : sS) (f m : Int) : Prop := ∀ i : Nat, (i : Int) < m → ADX S f (Xi S 968 i)
theorem CHV_FR {l : List rec} {S T : sS} {f m : Int} (h : FR l S T) (e : (kdis l [(922, 923), (968, 969)] && mD l [23, 32]) = true) (hq : CHV S f m) : CHV T f m := by sorry
theorem CHV.le {S : sS} {f m m2 : Int} (h : CHV S f m) (e : m2 ≤ m) : CHV S f m2 := by sorry
theorem chv_add {S U : sS} {f m a : Int} {j : Nat} (h : CHV S f m) (e : U = uI S 968 j (Int32.ofInt a)) (hj : (j : Int) = m) (ha : ADX S f a) (hr : rg a) : CHV U f (m + 1) := by sorry
def RDV (S : sS) (f : Int) : Prop := Xi S 904 109 ≠ 0 → Xi S 904 110 < Xi S 904 16 ∧ ∀ i : Nat, (i : Int) < Xi S 904 112 → ADX S f (Xi S 967 i)
theorem RDV_FR {l : List rec} {S T : sS} {f : Int} (h : FR l S T) (e : (kdis l [(922, 923), (967, 968)] && mD l [16, 23, 32, 109, 110, 112]) = true) (hq : RDV S f) : RDV T f := by sorry
theorem rdv_i {T U : sS} {f : Int} {v : Int32} (hk : Xi T 904 110 < Xi T 904 16) (hc : ∀ i : Nat, (i : Int) < Xi T 904 112 → ADX T f (Xi T 967 i)) (e : U = uI T 904 109 v) : RDV U f := by sorry
theorem chv_cp {P T : sS} {f m : Int} (h : CHV P f m) (e : T = cpI P 968 967 (0 : Int).toNat (0 : Int).toNat (6 : Int).toNat) (hm : m ≤ 6) : ∀ i : Nat, (i : Int) < m → ADX T f (Xi T 967 i) := by sorry
def md_mo_parted : List rec := [(904, 905, 64, 65), (904, 905, 109, 110), (904, 905, 110, 111), (904, 905, 112, 113), (904, 905, 113, 114), (967, 968, 0, 100000), (968, 969, 0, 100000)]
abbrev Q_mo_parted (S : sS) (from_ : Int) (to : Int) (kind : Int) (dfd : Int) (m : Int) : pst := fun r S1 => HI S1 ∧ FR md_mo_parted S S1 ∧ (r = none ∧ (RDV S1 dfd) ∧ (CHV S1 dfd m))
set_option maxRecDepth 100000 in
theorem u_mo_parted {S : sS} (hH : HI S) (from_ : Int) (to : Int) (kind : Int) (dfd : Int) (m : Int) (hfrom_ : 0 ≤ from_ ∧ from_ ≤ 5001) (hto : 0 ≤ to ∧ to ≤ 5001) (hkind : 0 ≤ kind ∧ kind ≤ 15) (hdfd : 0 ≤ dfd ∧ dfd ≤ 1) (hm : 0 ≤ m ∧ m ≤ 6) (hM : LXM S) (hB : ABV S) (hC : DCM S) (hft : from_ ≤ to) (hb : m + (to - from_) ≤ 5) (hk : kind < Xi S 904 16) (hch : CHV S dfd m) (hrd : RDV S dfd) (d : Nat) (hrec : ∀ {S : sS} (_ : HI S) (from_2 : Int) (to2 : Int) (kind2 : Int) (dfd2 : Int) (m2 : Int) (hfrom_ : 0 ≤ from_2 ∧ from_2 ≤ 5001) (hto : 0 ≤ to2 ∧ to2 ≤ 5001) (hkind : 0 ≤ kind2 ∧ kind2 ≤ 15) (hdfd : 0 ≤ dfd2 ∧ dfd2 ≤ 1) (hm : 0 ≤ m2 ∧ m2 ≤ 6) (hM : LXM S) (hB : ABV S) (hC : DCM S) (hft : from_2 ≤ to2) (hb : m2 + (to2 - from_2) ≤ 5) (hk : kind2 < Xi S 904 16) (hch : CHV S dfd2 m2) (hrd : RDV S dfd2), (to2 - from_2 < to - from_) → Mt lay0 (d + 3) m_mo_parted [.ref 904, iv from_2, iv to2, iv kind2, iv dfd2, iv m2] S (Q_mo_parted S from_2 to2 kind2 dfd2 m2)) : Mt lay0 (d + 4) m_mo_parted [.ref 904, iv from_, iv to, iv kind, iv dfd, iv m] S (Q_mo_parted S from_ to kind dfd m) := by sorry
theorem k_mp (n : Nat) : ∀ (d : Nat) {S : sS} (_ : HI S) (from_ : Int) (to : Int) (kind : Int) (dfd : Int) (m : Int) (hfrom_ : 0 ≤ from_ ∧ from_ ≤ 5001) (hto : 0 ≤ to ∧ to ≤ 5001) (hkind : 0 ≤ kind ∧ kind ≤ 15) (hdfd : 0 ≤ dfd ∧ dfd ≤ 1) (hm : 0 ≤ m ∧ m ≤ 6) (hM : LXM S) (hB : ABV S) (hC : DCM S) (hft : from_ ≤ to) (hb : m + (to - from_) ≤ 5) (hk : kind < Xi S 904 16) (hch : CHV S dfd m) (hrd : RDV S dfd), (to - from_).toNat = n → Mt lay0 (d + n + 4) m_mo_parted [.ref 904, iv from_, iv to, iv kind, iv dfd, iv m] S (Q_mo_parted S from_ to kind dfd m) := by sorry
theorem t_mo_parted {S : sS} (hH : HI S) (from_ : Int) (to : Int) (kind : Int) (dfd : Int) (m : Int) (hfrom_ : 0 ≤ from_ ∧ from_ ≤ 5001) (hto : 0 ≤ to ∧ to ≤ 5001) (hkind : 0 ≤ kind ∧ kind ≤ 15) (hdfd : 0 ≤ dfd ∧ dfd ≤ 1) (hm : 0 ≤ m ∧ m ≤ 6) (hM : LXM S) (hB : ABV S) (hC : DCM S) (hft : from_ ≤ to) (hb : m + (to - from_) ≤ 5) (hk : kind < Xi S 904 16) (hch : CHV S dfd m) (hrd : RDV S dfd) (d : Nat) : Mt lay0 (d + 9) m_mo_parted [.ref 904, iv from_, iv to, iv kind, iv dfd, iv m] S (Q_mo_parted S from_ to kind dfd m) := by sorry
def md_mo_describe : List rec := [(904, 905, 64, 65), (904, 905, 109, 110), (904, 905, 110, 111), (904, 905, 112, 113), (904, 905, 113, 114), (967, 968, 0, 100000), (968, 969, 0, 100000)]
abbrev Q_mo_describe (S : sS) (from_ : Int) (m : Int) (pl : Int) (dfd : Int) (al : Int) : pst := fun r S1 => HI S1 ∧ FR md_mo_describe S S1 ∧ (r = none ∧ (RDV S1 dfd))
set_option maxRecDepth 100000 in
theorem t_mo_describe {S : sS} (hH : HI S) (from_ : Int) (m : Int) (pl : Int) (dfd : Int) (al : Int) (hfrom_ : 0 ≤ from_ ∧ from_ ≤ 5001) (hm : 0 ≤ m ∧ m ≤ 5010) (hpl : 0 ≤ pl ∧ pl ≤ 1) (hdfd : 0 ≤ dfd ∧ dfd ≤ 1) (hal : -1 ≤ al ∧ al ≤ 15) (hM : LXM S) (hB : ABV S) (hC : DCM S) (hfm : from_ + m ≤ 5001) (hrd : RDV S dfd) (d : Nat) : Mt lay0 (d + 10) m_mo_describe [.ref 904, iv from_, iv m, iv pl, iv dfd, iv al] S (Q_mo_describe S from_ m pl dfd al) := by sorry
theorem msR_1 {S : sS} {t n s : Int} (h : msR S t n s ≠ -1) : 1 ≤ n ∧ n ≤ 3 := by sorry
abbrev Q_mo_objectOf__2 (S : sS) (from_ : Int) (to : Int) : pst := fun r S1 => S = S1 ∧ (∃ z : Int, r = some (iv z) ∧ (-9 ≤ z ∧ z ≤ 23) ∧ (z ≠ -9 → 0 ≤ z ∧ z < Xi S 904 19) ∧ (z ≠ -9 → from_ < to))
set_option maxRecDepth 100000 in
theorem t_mo_objectOf__2 {S : sS} (hH : HI S) (from_ : Int) (to : Int) (hfrom_ : 0 ≤ from_ ∧ from_ ≤ 5001) (hto : 0 ≤ to ∧ to ≤ 5001) (hM : LXM S) (d : Nat) : Mt lay0 (d + 4) m_mo_objectOf [.ref 904, iv from_, iv to] S (Q_mo_objectOf__2 S from_ to) := by sorry
end
section
/-! SAFETY of methods: printed by wip/safe (vc.py, decl.py) -/
def md_mo_listOf : List rec := [(988, 989, 0, 100000), (989, 990, 0, 100000), (990, 991, 0, 100000)]
abbrev Q_mo_listOf (S : sS) (from_ : Int) (to : Int) (kind : Int) : pst := fun r S1 => HI S1 ∧ FR md_mo_listOf S S1 ∧ (∃ z : Int, r = some (iv z) ∧ (0 ≤ z ∧ z ≤ 2600))
set_option maxRecDepth 100000 in
theorem t_mo_listOf {S : sS} (hH : HI S) (from_ : Int) (to : Int) (kind : Int) (hfrom_ : 0 ≤ from_ ∧ from_ ≤ 5001) (hto : 0 ≤ to ∧ to ≤ 5001) (hkind : 0 ≤ kind ∧ kind ≤ 15) (hM : LXM S) (hB : ABV S) (hft : from_ ≤ to) (d : Nat) : Mt lay0 (d + 5) m_mo_listOf [.ref 904, iv from_, iv to, .ref 988, iv kind] S (Q_mo_listOf S from_ to kind) := by sorry
def md_mo_listOf__2 : List rec := [(988, 989, 0, 100000), (989, 990, 0, 100000), (990, 991, 0, 100000)]
abbrev Q_mo_listOf__2 (S : sS) (from_ : Int) (to : Int) (kind : Int) : pst := fun r S1 => HI S1 ∧ FR md_mo_listOf__2 S S1 ∧ (∃ z : Int, r = some (iv z) ∧ (0 ≤ z ∧ z ≤ 2600))
set_option maxRecDepth 100000 in
theorem t_mo_listOf__2 {S : sS} (hH : HI S) (from_ : Int) (to : Int) (kind : Int) (hfrom_ : 0 ≤ from_ ∧ from_ ≤ 5001) (hto : 0 ≤ to ∧ to ≤ 5001) (hkind : 0 ≤ kind ∧ kind ≤ 15) (hM : LXM S) (hB : ABV S) (hft : from_ ≤ to) (d : Nat) : Mt lay0 (d + 5) m_mo_listOf [.ref 904, iv from_, iv to, .ref 989, iv kind] S (Q_mo_listOf__2 S from_ to kind) := by sorry
def md_mo_listOf__3 : List rec := [(988, 989, 0, 100000), (989, 990, 0, 100000), (990, 991, 0, 100000)]
abbrev Q_mo_listOf__3 (S : sS) (from_ : Int) (to : Int) (kind : Int) : pst := fun r S1 => HI S1 ∧ FR md_mo_listOf__3 S S1 ∧ (∃ z : Int, r = some (iv z) ∧ (0 ≤ z ∧ z ≤ 2600))
set_option maxRecDepth 100000 in
theorem t_mo_listOf__3 {S : sS} (hH : HI S) (from_ : Int) (to : Int) (kind : Int) (hfrom_ : 0 ≤ from_ ∧ from_ ≤ 5001) (hto : 0 ≤ to ∧ to ≤ 5001) (hkind : 0 ≤ kind ∧ kind ≤ 15) (hM : LXM S) (hB : ABV S) (hft : from_ ≤ to) (d : Nat) : Mt lay0 (d + 5) m_mo_listOf [.ref 904, iv from_, iv to, .ref 990, iv kind] S (Q_mo_listOf__3 S from_ to kind) := by sorry
def md_mo_askSaying : List rec := [(904, 905, 104, 105), (904, 905, 105, 106), (904, 905, 106, 107), (904, 905, 144, 145), (904, 905, 146, 147), (904, 905, 147, 148), (988, 989, 0, 100000), (989, 990, 0, 100000), (990, 991, 0, 100000)]
abbrev Q_mo_askSaying (S : sS) (n : Nat) (dd : Nat) (first : Int) : pst := fun r S1 => HI S1 ∧ FR md_mo_askSaying S S1 ∧ (r = none ∧ (Xi S 904 106 ≠ 0 → Xi S1 904 106 ≠ 0))
set_option maxRecDepth 100000 in
set_option maxHeartbeats 4000000 in
theorem t_mo_askSaying {S : sS} (hH : HI S) (n : Nat) (dd : Nat) (first : Int) (hfirst : 0 ≤ first ∧ first ≤ 5001) (hT : TK S n) (hM : LXM S) (hB : ABV S) (hd : first ≤ dd ∧ dd < n ∧ Xi S 907 dd = 46) (d : Nat) : Mt lay0 (d + 6) m_mo_askSaying [.ref 904, iv first] S (Q_mo_askSaying S n dd first) := by sorry
/-- other entries than q stay -/
def KQ (T S : sS) (q : Int) : Prop := ∀ i : Nat, (i : Int) ≠ q → ∀ k : Nat, 969 ≤ k → k ≤ 975 → Xi T k i = Xi S k i
theorem KQ.rf {S : sS} {q : Int} : KQ S S q := by sorry
theorem KQ.w {T U S : sS} {q : Int} {k j : Nat} {v : Int32} (h : KQ T S q) (e : U = uI T k j v) (hj : (k < 969 ∨ 975 < k) ∨ (j : Int) = q) : KQ U S q := by sorry
theorem KQ.tr {S T U : sS} {q : Int} (h : KQ T S q) (g : KQ U T q) : KQ U S q := by sorry
theorem kdis_q {l : List rec} {S T : sS} (f : FR l S T) (e : kdis l [(969, 976)] = true) (k : Nat) (a : 969 ≤ k) (b : k ≤ 975) (i : Nat) : Xi T k i = Xi S k i := by sorry
theorem KQ_FR {l : List rec} {T U S : sS} {q : Int} (f : FR l T U) (e : kdis l [(969, 976)] = true) (h : KQ T S q) : KQ U S q := by sorry
/-- values are of the types that were told -/
def VTM (S : sS) : Prop := ∀ v : Nat, (v : Int) < Xi S 904 30 → 2 ≤ Xi S 927 v
theorem VTM_FR {l : List rec} {S T : sS} (h : FR l S T) (e : (kdis l [(927, 928)] && mD l [30]) = true) (hv : VTM S) : VTM T := by sorry
def md_mo_whatMeant : List rec := [(904, 905, 104, 105), (904, 905, 105, 106), (904, 905, 106, 107), (973, 974, 0, 100000), (974, 975, 0, 100000)]
abbrev Q_mo_whatMeant (S : sS) (n : Nat) (t : Int) (rr : Int) (type : Int) (q : Int) : pst := fun r S1 => HI S1 ∧ FR md_mo_whatMeant S S1 ∧ (r = none ∧ (Xi S 904 106 ≠ 0 → Xi S1 904 106 ≠ 0) ∧ (OKT (Xi S1 973 q.toNat) (Xi S1 974 q.toNat)) ∧ (KQ S1 S q))
set_option maxRecDepth 100000 in
theorem t_mo_whatMeant {S : sS} (hH : HI S) (n : Nat) (t : Int) (rr : Int) (type : Int) (q : Int) (ht : 0 ≤ t ∧ t ≤ 5001) (hrr : -1 ≤ rr ∧ rr ≤ 2600) (htype : 0 ≤ type ∧ type ≤ 7) (hq : 0 ≤ q ∧ q ≤ 2399) (hT : TK S n) (hv : RNV S n) (hM : LXM S) (hK : TXK S n) (ht : t ≤ n) (hr : Xi S 907 t.toNat ≠ 4 → Xi S 907 t.toNat ≠ 5 → 0 ≤ rr ∧ rr < Xi S 904 69) (d : Nat) : Mt lay0 (d + 5) m_mo_whatMeant [.ref 904, iv t, iv rr, iv type, iv q] S (Q_mo_whatMeant S n t rr type q) := by sorry
/-- a saying that was found -/
def SYQ (S : sS) (q : Int) : Prop := thK S (0 ≤ Xi S 904 115) (0 ≤ Xi S 904 116) (Xi S 971 q.toNat) ∧ thK S (0 ≤ Xi S 904 115) (0 ≤ Xi S 904 116) (Xi S 975 q.toNat) ∧ 0 ≤ Xi S 972 q.toNat ∧ Xi S 972 q.toNat ≤ 5
theorem syq_i {P U1 U2 U3 : sS} {a b r q : Int} {j : Nat} (e1 : U1 = uI P 971 j (Int32.ofInt a)) (e2 : U2 = uI U1 975 j (Int32.ofInt b)) (e3 : U3 = uI U2 972 j (Int32.ofInt r)) (ha : (a ≠ -9 → a ≠ -1 → a ≠ -2 → 0 ≤ a ∧ a < Xi P 904 19) ∧ (a = -1 → 0 ≤ Xi P 904 115) ∧ (a = -2 → 0 ≤ Xi P 904 116)) (hb : (b ≠ -9 → b ≠ -1 → b ≠ -2 → 0 ≤ b ∧ b < Xi P 904 19) ∧ (b = -1 → 0 ≤ Xi P 904 115) ∧ (b = -2 → 0 ≤ Xi P 904 116)) (h1 : -9 < a ∧ a ≤ 23) (h2 : -9 < b ∧ b ≤ 23) (hr : 0 ≤ r ∧ r ≤ 5) (hj : j = q.toNat) (h9 : -2 ≤ a ∧ -2 ≤ b) : SYQ U3 q := by sorry
def md_mo_sayings : List rec := [(971, 972, 0, 100000), (972, 973, 0, 100000), (975, 976, 0, 100000)]
abbrev Q_mo_sayings (S : sS) (from_ : Int) (to : Int) (q : Int) : pst := fun r S1 => HI S1 ∧ FR md_mo_sayings S S1 ∧ (∃ z : Int, r = some (iv z) ∧ (0 ≤ z ∧ z ≤ 5002) ∧ (1 ≤ z → SYQ S1 q) ∧ (KQ S1 S q))
set_option maxRecDepth 100000 in
theorem t_mo_sayings {S : sS} (hH : HI S) (from_ : Int) (to : Int) (q : Int) (hfrom_ : 0 ≤ from_ ∧ from_ ≤ 5001) (hto : 0 ≤ to ∧ to ≤ 5001) (hq : 0 ≤ q ∧ q ≤ 2399) (hM : LXM S) (hB : ABV S) (hft : from_ ≤ to) (d : Nat) : Mt lay0 (d + 6) m_mo_sayings [.ref 904, iv from_, iv to, iv q] S (Q_mo_sayings S from_ to q) := by sorry
def md_mo_slot : List rec := [(904, 905, 150, 151), (991, 992, 0, 100000)]
abbrev Q_mo_slot (S : sS) (from_ : Int) (end_ : Int) : pst := fun r S1 => HI S1 ∧ FR md_mo_slot S S1 ∧ (∃ z : Int, r = some (iv z) ∧ (-1 ≤ z ∧ z ≤ 5000) ∧ (z ≠ -1 → from_ < z ∧ z ≤ end_))
set_option maxRecDepth 100000 in
theorem t_mo_slot {S : sS} (hH : HI S) (from_ : Int) (end_ : Int) (hfrom_ : 0 ≤ from_ ∧ from_ ≤ 5000) (hend_ : 0 ≤ end_ ∧ end_ ≤ 5000) (hfe : from_ ≤ end_) (h0 : Xi S 904 150 = 0) (d : Nat) : Mt lay0 (d + 4) m_mo_slot [.ref 904, iv from_, iv end_] S (Q_mo_slot S from_ end_) := by sorry
def md_mo_isCommand : List rec := [(904, 905, 150, 151), (904, 905, 151, 152), (991, 992, 0, 100000), (992, 993, 0, 100000)]
abbrev Q_mo_isCommand (S : sS) (from_ : Int) (n : Int) : pst := fun r S1 => HI S1 ∧ FR md_mo_isCommand S S1 ∧ (∃ z : Int, r = some (iv z) ∧ (0 ≤ z ∧ z ≤ 1))
set_option maxRecDepth 100000 in
theorem t_mo_isCommand {S : sS} (hH : HI S) (from_ : Int) (n : Int) (hfrom_ : 0 ≤ from_ ∧ from_ ≤ 5000) (hn : 0 ≤ n ∧ n ≤ 5000) (hn5 : from_ + n ≤ 5000) (d : Nat) : Mt lay0 (d + 5) m_mo_isCommand [.ref 904, iv from_, iv n] S (Q_mo_isCommand S from_ n) := by sorry
def md_mo_askVerb : List rec := [(904, 905, 104, 105), (904, 905, 105, 106), (904, 905, 106, 107)]
abbrev Q_mo_askVerb (S : sS) (n : Nat) : pst := fun r S1 => HI S1 ∧ FR md_mo_askVerb S S1 ∧ (r = none ∧ (Xi S1 904 106 = 0 → Xi S 904 47 < 8 ∧ rnR S 1 8 ≠ -1 ∧ Xi S 951 0 = 1))
set_option maxRecDepth 100000 in
set_option maxHeartbeats 4000000 in
theorem t_mo_askVerb {S : sS} (hH : HI S) (n : Nat) (hT : TK S n) (hv : RNV S n) (hM : LXM S) (hN : NWV S) (h2 : 2 ≤ Xi S 904 69) (d : Nat) : Mt lay0 (d + 5) m_mo_askVerb [.ref 904] S (Q_mo_askVerb S n) := by sorry
def md_mo_askPlace : List rec := [(904, 905, 104, 105), (904, 905, 105, 106), (904, 905, 106, 107)]
abbrev Q_mo_askPlace (S : sS) (n : Nat) : pst := fun r S1 => HI S1 ∧ FR md_mo_askPlace S S1 ∧ (r = none ∧ (Xi S 904 106 ≠ 0 → Xi S1 904 106 ≠ 0) ∧ (Xi S1 904 106 = 0 → Xi S 904 73 ≠ 0 → rnR S (Xi S 904 74) 4 ≠ -1))
set_option maxRecDepth 100000 in
theorem t_mo_askPlace {S : sS} (hH : HI S) (n : Nat) (hT : TK S n) (hv : RNV S n) (hM : LXM S) (hB : ABV S) (hp : Xi S 904 73 ≠ 0 → Xi S 904 74 < Xi S 904 69) (d : Nat) : Mt lay0 (d + 5) m_mo_askPlace [.ref 904] S (Q_mo_askPlace S n) := by sorry
abbrev Q_mo_kindOfThing__2 (S : sS) (th : Int) : pst := fun r S1 => S = S1 ∧ (∃ z : Int, r = some (iv z) ∧ (-1 ≤ z ∧ z ≤ 15) ∧ ((th = -1 → z = Xi S 904 115) ∧ (th = -2 → z = Xi S 904 116) ∧ (th = -9 → z = -1) ∧ (0 ≤ th → z = Xi S 918 th.toNat)))
set_option maxRecDepth 100000 in
theorem t_mo_kindOfThing__2 {S : sS} (hH : HI S) (th : Int) (hth : -9 ≤ th ∧ th ≤ 23) (ht : th ≠ -9 → -2 ≤ th) (d : Nat) : Mt lay0 (d + 1) m_mo_kindOfThing [.ref 904, iv th] S (Q_mo_kindOfThing__2 S th) := by sorry
def md_mo_numberMeant__2 : List rec := [(904, 905, 104, 105), (904, 905, 105, 106), (904, 905, 106, 107)]
abbrev Q_mo_numberMeant__2 (S : sS) (n : Nat) (rn : Int) : pst := fun r S1 => HI S1 ∧ FR md_mo_numberMeant__2 S S1 ∧ (r = none ∧ (Xi S 904 106 ≠ 0 → Xi S1 904 106 ≠ 0) ∧ (Xi S1 904 106 = 0 → rnR S rn 7 = -1 ∨ Xi S 928 (rnR S rn 7).toNat = 0))
set_option maxRecDepth 100000 in
theorem t_mo_numberMeant__2 {S : sS} (hH : HI S) (n : Nat) (rn : Int) (hrn : 0 ≤ rn ∧ rn ≤ 2599) (hT : TK S n) (hv : RNV S n) (hrr : rn < Xi S 904 69) (hM : LXM S) (d : Nat) : Mt lay0 (d + 5) m_mo_numberMeant [.ref 904, iv rn] S (Q_mo_numberMeant__2 S n rn) := by sorry
def md_mo_says : List rec := [(904, 905, 154, 155), (904, 905, 156, 157), (904, 905, 157, 158), (904, 905, 158, 159), (904, 905, 160, 161), (993, 994, 0, 100000), (994, 995, 0, 100000)]
abbrev Q_mo_says (S : sS) (from_ : Int) (n : Int) (noun : Int) : pst := fun r S1 => HI S1 ∧ FR md_mo_says S S1 ∧ (∃ z : Int, r = some (iv z) ∧ (0 ≤ z ∧ z ≤ 1))
set_option maxRecDepth 100000 in
theorem t_mo_says {S : sS} (hH : HI S) (from_ : Int) (n : Int) (noun : Int) (hfrom_ : 0 ≤ from_ ∧ from_ ≤ 5000) (hn : 0 ≤ n ∧ n ≤ 5000) (hnoun : -1 ≤ noun ∧ noun ≤ 23) (hA : from_ + n ≤ 5000) (hM : LXM S) (hB : ABV S) (hX : TXM S) (hno2 : noun < Xi S 904 19) (d : Nat) : Mt lay0 (d + 7) m_mo_says [.ref 904, iv from_, iv n, iv noun] S (Q_mo_says S from_ n noun) := by sorry
end
section
/-! SAFETY of methods: printed by wip/safe (vc.py, decl.py) -/
def md_mo_objectsOrNew : List rec := [(904, 905, 104, 105), (904, 905, 105, 106), (904, 905, 106, 107), (904, 905, 108, 109), (966, 967, 0, 100000)]
abbrev Q_mo_objectsOrNew (S : sS) (n : Nat) : pst := fun r S1 => HI S1 ∧ FR md_mo_objectsOrNew S S1 ∧ (r = none ∧ (Xi S 904 106 ≠ 0 → Xi S1 904 106 ≠ 0) ∧ (Xi S1 904 106 = 0 → ONA S) ∧ (NWV S1) ∧ (Xi S1 904 108 ≤ Xi S 904 72))
set_option maxRecDepth 100000 in
theorem t_mo_objectsOrNew {S : sS} (hH : HI S) (n : Nat) (hT : TK S n) (hv : RNV S n) (hM : LXM S) (hN : NWV S) (hl : Xi S 904 71 + Xi S 904 72 ≤ Xi S 904 69) (h9 : Xi S 904 108 = 0) (d : Nat) : Mt lay0 (d + 5) m_mo_objectsOrNew [.ref 904] S (Q_mo_objectsOrNew S n) := by sorry
def ktR (S : sS) (th : Int) : Int := if th = -1 then Xi S 904 115 else if th = -2 then Xi S 904 116 else if th = -9 then -1 else Xi S 918 th.toNat
theorem ktR_i {S : sS} {th z : Int} (h : (th = -1 → z = Xi S 904 115) ∧ (th = -2 → z = Xi S 904 116) ∧ (th = -9 → z = -1) ∧ (0 ≤ th → z = Xi S 918 th.toNat)) (ht : th = -9 ∨ -2 ≤ th) : z = ktR S th := by sorry
def md_mo_propertyMeant__2 : List rec := [(904, 905, 104, 105), (904, 905, 105, 106), (904, 905, 106, 107)]
abbrev Q_mo_propertyMeant__2 (S : sS) (n : Nat) (rn : Int) (th : Int) : pst := fun r S1 => HI S1 ∧ FR md_mo_propertyMeant__2 S S1 ∧ (∃ z : Int, r = some (iv z) ∧ (-1 ≤ z ∧ z ≤ 11) ∧ (z ≠ -1 → z < Xi S 904 32) ∧ (z ≠ -1 → th ≠ -9) ∧ (Xi S 904 106 ≠ 0 → Xi S1 904 106 ≠ 0) ∧ (z = -1 → th = -9 ∨ Xi S1 904 106 ≠ 0) ∧ (z ≠ -1 → z = rnR S rn 7))
set_option maxRecDepth 100000 in
theorem t_mo_propertyMeant__2 {S : sS} (hH : HI S) (n : Nat) (rn : Int) (th : Int) (hrn : 0 ≤ rn ∧ rn ≤ 2599) (hth : -9 ≤ th ∧ th ≤ 23) (hT : TK S n) (hv : RNV S n) (hrr : rn < Xi S 904 69) (hM : LXM S) (hB : ABV S) (ht : th ≠ -9 → -2 ≤ th) (d : Nat) : Mt lay0 (d + 5) m_mo_propertyMeant [.ref 904, iv rn, iv th] S (Q_mo_propertyMeant__2 S n rn th) := by sorry
def md_mo_actings : List rec := [(904, 905, 128, 129), (904, 905, 129, 130)]
abbrev Q_mo_actings (S : sS) (n : Nat) (rn : Int) (isTry : Int) : pst := fun r S1 => HI S1 ∧ FR md_mo_actings S S1 ∧ (∃ z : Int, r = some (iv z) ∧ (0 ≤ z ∧ z ≤ 4) ∧ (1 ≤ z → (0 ≤ Xi S1 904 128 ∧ Xi S1 904 128 < Xi S 904 49) ∧ (Xi S1 904 129 < Xi S 904 19) ∧ (Xi S1 904 129 ≠ -1 → 0 ≤ Xi S 942 (Xi S1 904 128).toNat) ∧ (isTry ≠ 0 → Xi S1 904 129 = -1 → Xi S 942 (Xi S1 904 128).toNat < 0)))
set_option maxRecDepth 100000 in
theorem t_mo_actings {S : sS} (hH : HI S) (n : Nat) (rn : Int) (isTry : Int) (hrn : 0 ≤ rn ∧ rn ≤ 2599) (hisTry : 0 ≤ isTry ∧ isTry ≤ 1) (hT : TK S n) (hv : RNV S n) (hrr : rn < Xi S 904 69) (hM : LXM S) (hB : ABV S) (d : Nat) : Mt lay0 (d + 4) m_mo_actings [.ref 904, iv rn, iv isTry] S (Q_mo_actings S n rn isTry) := by sorry
/-- how many of the first values are of a type -/
def cvR (S : sS) (t : Int) : Nat → Int
  | 0 => 0
  | m + 1 => cvR S t m + (if Xi S 927 m = t then 1 else 0)
theorem cvR_s {S : sS} {t v : Int} (h : 0 ≤ v) : cvR S t (v + 1).toNat = cvR S t v.toNat + (if Xi S 927 v.toNat = t then 1 else 0) := by sorry
def md_mo_askValues : List rec := [(904, 905, 104, 105), (904, 905, 105, 106), (904, 905, 106, 107), (904, 905, 108, 109), (966, 967, 0, 100000)]
abbrev Q_mo_askValues (S : sS) (n : Nat) (ty : Int) : pst := fun r S1 => HI S1 ∧ FR md_mo_askValues S S1 ∧ (r = none ∧ (Xi S 904 106 ≠ 0 → Xi S1 904 106 ≠ 0) ∧ (Xi S1 904 106 = 0 → (1 < ty → cvR S ty (Xi S 904 30).toNat + (Xi S 904 69 - Xi S 904 78) ≤ 8) ∧ ∀ r : Int, Xi S 904 78 ≤ r → r < Xi S 904 69 → Xi S 951 r.toNat ≤ 3))
set_option maxRecDepth 100000 in
theorem t_mo_askValues {S : sS} (hH : HI S) (n : Nat) (ty : Int) (hty : -1 ≤ ty ∧ ty ≤ 7) (hT : TK S n) (hv : RNV S n) (hM : LXM S) (hN : NWV S) (h9 : Xi S 904 108 = 0) (hw : 0 ≤ Xi S 904 78 ∧ Xi S 904 78 < Xi S 904 69) (d : Nat) : Mt lay0 (d + 5) m_mo_askValues [.ref 904, iv ty] S (Q_mo_askValues S n ty) := by sorry
theorem l_isubW {lay : Nat → Nat × Nat} {d pc : Nat} {q : mT} {L : List (Nat × Value)} {st : List Value} {S : sS} {Q : pst} {x y : Int} (hc : lk q.2.2.2.2.2 pc = some .isub) (h : ∀ c : Int, (-2147483648 ≤ c ∧ c ≤ 2147483647) → Rl lay d q (pc + 1) L (iv c :: st) S Q) : Rl lay d q pc L (iv y :: iv x :: st) S Q := by sorry
abbrev Q_mo_packed (S : sS) (i : Nat) (xi : String × Nat × String × List Int32) : pst := fun r S1 => S = S1 ∧ (∃ z : Int, r = some (jw z))
set_option maxRecDepth 100000 in
theorem t_mo_packed {S : sS} (hH : HI S) (i : Nat) (xi : String × Nat × String × List Int32) (hi : strT[i]? = some xi) (d : Nat) : Mt lay0 (d + 4) m_mo_packed [.ref (SB + i)] S (Q_mo_packed S i xi) := by sorry
/-! SAFETY of methods: printed by wip/safe (vc.py, decl.py) -/
def kk0 (S : sS) (v : Int) : Int := if Xi S 904 70 = 11 then Xi S 904 49 else if v = 1 then Xi S 904 18 else Xi S 904 16
def kkm (S : sS) (v : Int) : Int := if Xi S 904 70 = 11 then 12 else if v = 1 then 8 else 16
def VKX (S : sS) (v : Int) : Prop := (v = 0 ∨ v = 1) ∧ (v = 1 → Xi S 904 70 = 10 ∧ Xi S 904 78 = -2) ∧ (v = 0 → Xi S 904 70 ≠ 10 ∨ Xi S 904 78 ≠ -2)
theorem kk_le {S : sS} {v : Int} (h1 : 0 ≤ Xi S 904 16 ∧ Xi S 904 16 ≤ 16) (h2 : 0 ≤ Xi S 904 18 ∧ Xi S 904 18 ≤ 8) (h3 : 0 ≤ Xi S 904 49 ∧ Xi S 904 49 ≤ 12) : kk0 S v ≤ kkm S v ∧ 0 ≤ kk0 S v ∧ kkm S v ≤ 16 := by sorry
theorem kk_end {S : sS} {v a b c : Int} (hx : VKX S v) (h1 : a = kk0 S v + c) (h3 : b = kkm S v) (h2 : a ≤ b) (h4 : c = Xi S 904 72) (hs : Xi S 904 70 = 10 ∨ Xi S 904 70 = 11) : (Xi S 904 70 = 11 → Xi S 904 49 + Xi S 904 72 ≤ 12) ∧ (Xi S 904 70 = 10 → Xi S 904 78 = -2 → Xi S 904 18 + Xi S 904 72 ≤ 8) ∧ (Xi S 904 70 = 10 → Xi S 904 78 ≠ -2 → Xi S 904 16 + Xi S 904 72 ≤ 16) := by sorry
def md_mo_askKinds : List rec := [(904, 905, 104, 105), (904, 905, 105, 106), (904, 905, 106, 107), (904, 905, 108, 109), (966, 967, 0, 100000)]
abbrev Q_mo_askKinds (S : sS) (n : Nat) : pst := fun r S1 => HI S1 ∧ FR md_mo_askKinds S S1 ∧ (r = none ∧ (Xi S1 904 106 = 0 → (Xi S 904 70 = 11 → Xi S 904 49 + Xi S 904 72 ≤ 12) ∧ (Xi S 904 70 = 10 → Xi S 904 78 = -2 → Xi S 904 18 + Xi S 904 72 ≤ 8) ∧ (Xi S 904 70 = 10 → Xi S 904 78 ≠ -2 → Xi S 904 16 + Xi S 904 72 ≤ 16)) ∧ (Xi S1 904 106 = 0 → 0 ≤ Xi S 904 78 → rnR S (Xi S 904 78) 0 ≠ -1) ∧ (Xi S1 904 106 = 0 → ∀ i : Int, 0 ≤ i → i < Xi S 904 72 → Xi S 951 (Xi S 904 71 + i).toNat ≤ 3))
set_option maxRecDepth 100000 in
set_option maxHeartbeats 4000000 in
theorem t_mo_askKinds {S : sS} (hH : HI S) (n : Nat) (hT : TK S n) (hv : RNV S n) (hM : LXM S) (hN : NWV S) (hl : Xi S 904 71 + Xi S 904 72 ≤ Xi S 904 69) (h9 : Xi S 904 108 = 0) (hw : Xi S 904 78 < Xi S 904 69) (hs : Xi S 904 70 = 10 ∨ Xi S 904 70 = 11) (hs2 : Xi S 904 70 = 11 → -1 ≤ Xi S 904 78) (d : Nat) : Mt lay0 (d + 6) m_mo_askKinds [.ref 904] S (Q_mo_askKinds S n) := by sorry
/-! SAFETY of methods: printed by wip/safe (vc.py, decl.py) -/
def md_mo_phrase : List rec := [(904, 905, 8, 9), (904, 905, 65, 66), (904, 905, 66, 67), (904, 905, 69, 70), (904, 905, 78, 79), (904, 905, 93, 94), (904, 905, 98, 99), (904, 905, 99, 100), (904, 905, 100, 101), (904, 905, 101, 102), (950, 951, 0, 100000), (951, 952, 0, 100000), (952, 953, 0, 100000), (953, 954, 0, 100000), (954, 955, 0, 100000), (955, 956, 0, 100000), (956, 957, 0, 100000), (957, 958, 0, 100000), (958, 959, 0, 100000), (959, 960, 0, 100000), (960, 961, 0, 100000), (961, 962, 0, 100000), (962, 963, 0, 100000), (963, 964, 0, 100000), (964, 965, 0, 100000), (965, 966, 0, 100000)]
/-! SAFETY of methods: printed by wip/safe (vc.py, decl.py) -/
def md_mo_askProperty : List rec := [(904, 905, 104, 105), (904, 905, 105, 106), (904, 905, 106, 107), (973, 974, 0, 100000), (974, 975, 0, 100000)]
abbrev Q_mo_askProperty (S : sS) (n : Nat) : pst := fun r S1 => HI S1 ∧ FR md_mo_askProperty S S1 ∧ (r = none ∧ (Xi S1 904 106 = 0 → rnR S 0 7 ≠ -1 ∧ (rnR S 1 4 ≠ -1 ∨ rnR S 1 0 ≠ -1) ∧ OKT (Xi S1 973 (Xi S 904 117).toNat) (Xi S1 974 (Xi S 904 117).toNat)) ∧ (KQ S1 S (Xi S 904 117)))
set_option maxRecDepth 100000 in
theorem t_mo_askProperty {S : sS} (hH : HI S) (n : Nat) (hT : TK S n) (hv : RNV S n) (hM : LXM S) (hB : ABV S) (hX : TXM S) (hK : TXK S n) (h2 : 2 ≤ Xi S 904 69) (hw : 0 ≤ Xi S 904 78 ∧ Xi S 904 78 ≤ n) (hw2 : Xi S 907 (Xi S 904 78).toNat ≠ 4 → Xi S 907 (Xi S 904 78).toNat ≠ 5 → 3 ≤ Xi S 904 69) (d : Nat) : Mt lay0 (d + 6) m_mo_askProperty [.ref 904] S (Q_mo_askProperty S n) := by sorry
/-! SAFETY of methods: printed by wip/safe (vc.py, decl.py) -/
theorem LXK.t {S U1 U2 U3 U4 U5 U6 U7 U8 : sS} {L : Int} {v1 v2 v3 v4 v5 : Int32} {w1 w2 w3 : Int64} (h0 : 0 ≤ L) (e1 : U1 = uI S 912 L.toNat v1) (e2 : U2 = uJ U1 913 (3 * L).toNat w1) (e3 : U3 = uJ U2 913 (3 * L + 1).toNat w2) (e4 : U4 = uJ U3 913 (3 * L + 2).toNat w3) (e5 : U5 = uI U4 914 L.toNat v2) (e6 : U6 = uI U5 915 L.toNat v3) (e7 : U7 = uI U6 916 L.toNat v4) (e8 : U8 = uI U7 904 15 v5) : LXK U8 S L := by sorry
def md_mo_tell : List rec := [(904, 905, 15, 16), (912, 913, 0, 100000), (913, 914, 0, 100000), (914, 915, 0, 100000), (915, 916, 0, 100000), (916, 917, 0, 100000)]
abbrev Q_mo_tell (S : sS) (so : Int) (ix : Int) (a : Int) (b : Int) (c : Int) (m : Int) : pst := fun r S1 => HI S1 ∧ FR md_mo_tell S S1 ∧ (r = none ∧ (Xi S1 904 15 = Xi S 904 15 + 1) ∧ (Xi S1 914 (Xi S 904 15).toNat = so ∧ Xi S1 915 (Xi S 904 15).toNat = ix) ∧ (LXK S1 S (Xi S 904 15)))
set_option maxRecDepth 100000 in
theorem t_mo_tell {S : sS} (hH : HI S) (so : Int) (ix : Int) (a : Int) (b : Int) (c : Int) (m : Int) (hso : 0 ≤ so ∧ so ≤ 12) (hix : 0 ≤ ix ∧ ix ≤ 63) (hm : 0 ≤ m ∧ m ≤ 3) (hle : Xi S 904 15 ≤ 299) (d : Nat) : Mt lay0 (d + 1) m_mo_tell [.ref 904, iv so, iv ix, jw a, jw b, jw c, iv m] S (Q_mo_tell S so ix a b c m) := by sorry
def md_mo_tellTokens : List rec := [(904, 905, 15, 16), (912, 913, 0, 100000), (913, 914, 0, 100000), (914, 915, 0, 100000), (915, 916, 0, 100000), (916, 917, 0, 100000)]
abbrev Q_mo_tellTokens (S : sS) (so : Int) (ix : Int) (t : Int) (m : Int) : pst := fun r S1 => HI S1 ∧ FR md_mo_tellTokens S S1 ∧ (r = none ∧ (Xi S1 904 15 = Xi S 904 15 + 1) ∧ (Xi S1 914 (Xi S 904 15).toNat = so ∧ Xi S1 915 (Xi S 904 15).toNat = ix) ∧ (LXK S1 S (Xi S 904 15)))
set_option maxRecDepth 100000 in
theorem t_mo_tellTokens {S : sS} (hH : HI S) (so : Int) (ix : Int) (t : Int) (m : Int) (hso : 0 ≤ so ∧ so ≤ 12) (hix : 0 ≤ ix ∧ ix ≤ 63) (ht : 0 ≤ t ∧ t ≤ 5001) (hm : 1 ≤ m ∧ m ≤ 3) (hle : Xi S 904 15 ≤ 299) (ht : t + m ≤ 5002) (d : Nat) : Mt lay0 (d + 2) m_mo_tellTokens [.ref 904, iv so, iv ix, iv t, iv m] S (Q_mo_tellTokens S so ix t m) := by sorry
def md_mo_tellRun : List rec := [(904, 905, 15, 16), (912, 913, 0, 100000), (913, 914, 0, 100000), (914, 915, 0, 100000), (915, 916, 0, 100000), (916, 917, 0, 100000)]
abbrev Q_mo_tellRun (S : sS) (n : Nat) (so : Int) (ix : Int) (rn : Int) : pst := fun r S1 => HI S1 ∧ FR md_mo_tellRun S S1 ∧ (r = none ∧ (Xi S1 904 15 = Xi S 904 15 + 1) ∧ (Xi S1 914 (Xi S 904 15).toNat = so ∧ Xi S1 915 (Xi S 904 15).toNat = ix) ∧ (LXK S1 S (Xi S 904 15)))
set_option maxRecDepth 100000 in
theorem t_mo_tellRun {S : sS} (hH : HI S) (n : Nat) (so : Int) (ix : Int) (rn : Int) (hso : 0 ≤ so ∧ so ≤ 12) (hix : 0 ≤ ix ∧ ix ≤ 63) (hrn : 0 ≤ rn ∧ rn ≤ 2599) (hT : TK S n) (hv : RNV S n) (hrr : rn < Xi S 904 69) (h3 : Xi S 951 rn.toNat ≤ 3) (hle : Xi S 904 15 ≤ 299) (d : Nat) : Mt lay0 (d + 3) m_mo_tellRun [.ref 904, iv so, iv ix, iv rn] S (Q_mo_tellRun S n so ix rn) := by sorry
def md_mo_addAction : List rec := [(904, 905, 49, 50), (942, 943, 0, 100000)]
abbrev Q_mo_addAction (S : sS) (kind : Int) : pst := fun r S1 => HI S1 ∧ FR md_mo_addAction S S1 ∧ (∃ z : Int, r = some (iv z) ∧ (0 ≤ z ∧ z ≤ 11) ∧ (z = Xi S 904 49) ∧ (Xi S1 904 49 = Xi S 904 49 + 1) ∧ (Xi S1 942 (Xi S 904 49).toNat = kind ∧ ∀ j : Nat, (j : Int) < Xi S 904 49 → Xi S1 942 j = Xi S 942 j))
set_option maxRecDepth 100000 in
theorem t_mo_addAction {S : sS} (hH : HI S) (kind : Int) (hkind : -2 ≤ kind ∧ kind ≤ 15) (h : Xi S 904 49 ≤ 11) (d : Nat) : Mt lay0 (d + 1) m_mo_addAction [.ref 904, iv kind] S (Q_mo_addAction S kind) := by sorry
def md_mo_addAdjective : List rec := [(904, 905, 23, 24), (921, 922, 0, 100000), (922, 923, 0, 100000), (924, 925, 0, 100000)]
abbrev Q_mo_addAdjective (S : sS) (kind : Int) (oth : Int) : pst := fun r S1 => HI S1 ∧ FR md_mo_addAdjective S S1 ∧ (∃ z : Int, r = some (iv z) ∧ (0 ≤ z ∧ z ≤ 23) ∧ (z = Xi S 904 23) ∧ (Xi S1 904 23 = Xi S 904 23 + 1) ∧ (Xi S1 922 (Xi S 904 23).toNat = oth ∧ Xi S1 924 (Xi S 904 23).toNat = 0) ∧ (∀ j : Nat, (j : Int) < Xi S 904 23 → Xi S1 921 j = Xi S 921 j ∧ Xi S1 922 j = Xi S 922 j ∧ Xi S1 924 j = Xi S 924 j))
set_option maxRecDepth 100000 in
theorem t_mo_addAdjective {S : sS} (hH : HI S) (kind : Int) (oth : Int) (hkind : 0 ≤ kind ∧ kind ≤ 15) (hoth : -1 ≤ oth ∧ oth ≤ 23) (h : Xi S 904 23 ≤ 23) (d : Nat) : Mt lay0 (d + 1) m_mo_addAdjective [.ref 904, iv kind, iv oth] S (Q_mo_addAdjective S kind oth) := by sorry
end
section
/-! SAFETY of methods: printed by wip/safe (vc.py, decl.py) -/
def md_mo_askWay : List rec := [(904, 905, 104, 105), (904, 905, 105, 106), (904, 905, 106, 107), (904, 905, 108, 109), (966, 967, 0, 100000)]
abbrev Q_mo_askWay (S : sS) (n : Nat) : pst := fun r S1 => HI S1 ∧ FR md_mo_askWay S S1 ∧ (r = none ∧ (Xi S1 904 106 = 0 → (rnR S (Xi S 904 71) 4 = -1 → Xi S 904 19 < 24 ∧ Xi S 951 (Xi S 904 71).toNat ≤ 3) ∧ rnR S (Xi S 904 78) 12 ≠ -1 ∧ rnR S (Xi S 904 74) 4 ≠ -1))
set_option maxRecDepth 100000 in
set_option maxHeartbeats 4000000 in
theorem c69_mo_askWay {S : sS} (hH : HI S) (n : Nat) (hT : TK S n) (hv : RNV S n) (hM : LXM S) (hN : NWV S) (hB : ABV S) (hl : Xi S 904 71 + Xi S 904 72 ≤ Xi S 904 69) (h1 : 1 ≤ Xi S 904 72) (h9 : Xi S 904 108 = 0) (hw : 0 ≤ Xi S 904 78 ∧ Xi S 904 78 < Xi S 904 69) (hp : Xi S 904 74 < Xi S 904 69) (d : Nat) : ∀  (T1 : sS) (_ : HI T1) (_ : FR md_mo_askWay S T1) (v1 : Int), (0 ≤ v1 ∧ v1 ≤ 2600) → (v1 = Xi S 904 71) → (Xi T1 904 69 = Xi S 904 69) → (Xi T1 904 72 = Xi S 904 72) → (Xi T1 904 78 = Xi S 904 78) → (Xi T1 904 74 = Xi S 904 74) → (Xi T1 904 106 = 0 → (rnR S (Xi S 904 71) 4 = -1 → Xi S 904 19 < 24 ∧ Xi S 951 (Xi S 904 71).toNat ≤ 3)) → Rl lay0 (d + 4) m_mo_askWay 69 [(0, .ref 904), (1, iv v1)] [] T1 (Q_mo_askWay S n) := by sorry
set_option maxRecDepth 100000 in
set_option maxHeartbeats 4000000 in
theorem t_mo_askWay {S : sS} (hH : HI S) (n : Nat) (hT : TK S n) (hv : RNV S n) (hM : LXM S) (hN : NWV S) (hB : ABV S) (hl : Xi S 904 71 + Xi S 904 72 ≤ Xi S 904 69) (h1 : 1 ≤ Xi S 904 72) (h9 : Xi S 904 108 = 0) (hw : 0 ≤ Xi S 904 78 ∧ Xi S 904 78 < Xi S 904 69) (hp : Xi S 904 74 < Xi S 904 69) (d : Nat) : Mt lay0 (d + 5) m_mo_askWay [.ref 904] S (Q_mo_askWay S n) := by sorry
end
section
/-! SAFETY of methods: printed by wip/safe (vc.py, decl.py) -/
theorem abv_w {S U : sS} {n : Nat} {v : Int} (e : U = uI S 917 n (Int32.ofInt v)) (hB : ABV S) (hn : n < 16) (hv : v < n) (hr : rg v) : ABV U := by sorry
theorem txm_k2 {S T : sS} (hX : TXM S) (hc : Xi T 904 16 = Xi S 904 16 + 1) (o : ∀ j : Nat, (j : Int) < 12 * Xi S 904 16 → Xi T 933 j = Xi S 933 j) (z : ∀ p : Int, 0 ≤ p → p < 12 → Xi T 933 (12 * Xi S 904 16 + p).toNat = 0) (e18 : ∀ j, Xi T 918 j = Xi S 918 j) (e28 : ∀ j, Xi T 928 j = Xi S 928 j) (e30 : ∀ j, Xi T 930 j = Xi S 930 j) (e31 : ∀ j, Xi T 931 j = Xi S 931 j) (e32 : ∀ j, Xi T 932 j = Xi S 932 j) (e34 : ∀ j, Xi T 934 j = Xi S 934 j) (e35 : ∀ j, Xi T 935 j = Xi S 935 j) (e19 : Xi T 904 19 = Xi S 904 19) (ep : Xi T 904 32 = Xi S 904 32) : TXM T := by sorry
def md_mo_addKind : List rec := [(904, 905, 16, 17), (917, 918, 0, 100000), (926, 927, 0, 100000), (929, 930, 0, 100000), (933, 934, 0, 100000)]
abbrev Q_mo_addKind (S : sS) (par : Int) : pst := fun r S1 => HI S1 ∧ FR md_mo_addKind S S1 ∧ (∃ z : Int, r = some (iv z) ∧ (0 ≤ z ∧ z ≤ 15) ∧ (z = Xi S 904 16) ∧ (Xi S1 904 16 = Xi S 904 16 + 1) ∧ (ABV S1) ∧ (TXM S1))
set_option maxRecDepth 100000 in
theorem t_mo_addKind {S : sS} (hH : HI S) (par : Int) (hpar : -1 ≤ par ∧ par ≤ 15) (h : Xi S 904 16 ≤ 15) (hp : par < Xi S 904 16) (hB : ABV S) (hX : TXM S) (d : Nat) : Mt lay0 (d + 1) m_mo_addKind [.ref 904, iv par] S (Q_mo_addKind S par) := by sorry
def md_mo_doSaying : List rec := [(904, 905, 105, 106), (904, 905, 106, 107), (940, 941, 0, 100000)]
abbrev Q_mo_doSaying (S : sS) (first : Int) : pst := fun r S1 => HI S1 ∧ FR md_mo_doSaying S S1 ∧ (r = none)
set_option maxRecDepth 100000 in
theorem t_mo_doSaying {S : sS} (hH : HI S) (first : Int) (hfirst : 0 ≤ first ∧ first ≤ 5001) (d : Nat) : Mt lay0 (d + 2) m_mo_doSaying [.ref 904, iv first] S (Q_mo_doSaying S first) := by sorry
def md_mo_tellIs : List rec := [(925, 926, 0, 100000), (926, 927, 0, 100000)]
abbrev Q_mo_tellIs (S : sS) (base : Int) (a : Int) (iss : Int) : pst := fun r S1 => HI S1 ∧ FR md_mo_tellIs S S1 ∧ (∃ z : Int, r = some (iv z) ∧ (0 ≤ z ∧ z ≤ 1))
set_option maxRecDepth 100000 in
theorem t_mo_tellIs {S : sS} (hH : HI S) (base : Int) (a : Int) (iss : Int) (hbase : 0 ≤ base ∧ base ≤ 552) (ha : 0 ≤ a ∧ a ≤ 23) (hiss : 0 ≤ iss ∧ iss ≤ 1) (hb : base ≤ 552) (d : Nat) : Mt lay0 (d + 1) m_mo_tellIs [.ref 904, .ref 925, iv base, iv a, iv iss] S (Q_mo_tellIs S base a iss) := by sorry
def md_mo_tellIs__2 : List rec := [(925, 926, 0, 100000), (926, 927, 0, 100000)]
abbrev Q_mo_tellIs__2 (S : sS) (base : Int) (a : Int) (iss : Int) : pst := fun r S1 => HI S1 ∧ FR md_mo_tellIs__2 S S1 ∧ (∃ z : Int, r = some (iv z) ∧ (0 ≤ z ∧ z ≤ 1))
set_option maxRecDepth 100000 in
theorem t_mo_tellIs__2 {S : sS} (hH : HI S) (base : Int) (a : Int) (iss : Int) (hbase : 0 ≤ base ∧ base ≤ 360) (ha : 0 ≤ a ∧ a ≤ 23) (hiss : 0 ≤ iss ∧ iss ≤ 1) (hb : base ≤ 360) (d : Nat) : Mt lay0 (d + 1) m_mo_tellIs [.ref 904, .ref 926, iv base, iv a, iv iss] S (Q_mo_tellIs__2 S base a iss) := by sorry
def md_mo_tellRead : List rec := [(925, 926, 0, 100000), (926, 927, 0, 100000), (930, 931, 0, 100000), (931, 932, 0, 100000), (932, 933, 0, 100000)]
abbrev Q_mo_tellRead (S : sS) (o : Int) (a : Int) (iss : Int) : pst := fun r S1 => HI S1 ∧ FR md_mo_tellRead S S1 ∧ (∃ z : Int, r = some (iv z) ∧ (0 ≤ z ∧ z ≤ 1) ∧ (TXM S1))
set_option maxRecDepth 100000 in
theorem t_mo_tellRead {S : sS} (hH : HI S) (o : Int) (a : Int) (iss : Int) (ho : 0 ≤ o ∧ o ≤ 23) (ha : 0 ≤ a ∧ a ≤ 6411) (hiss : 0 ≤ iss ∧ iss ≤ 1) (haa : (0 ≤ a ∧ a < Xi S 904 23) ∨ (100 ≤ a ∧ a % 100 < Xi S 904 32 ∧ a ≤ 6411)) (hoo : o < Xi S 904 19) (hX : TXM S) (d : Nat) : Mt lay0 (d + 4) m_mo_tellRead [.ref 904, iv o, iv a, iv iss] S (Q_mo_tellRead S o a iss) := by sorry
def md_mo_placeObject : List rec := [(904, 905, 105, 106), (904, 905, 106, 107), (919, 920, 0, 100000), (920, 921, 0, 100000)]
abbrev Q_mo_placeObject (S : sS) (n : Nat) (o : Int) (t : Int) : pst := fun r S1 => HI S1 ∧ FR md_mo_placeObject S S1 ∧ (r = none ∧ (WYM S1))
set_option maxRecDepth 100000 in
theorem t_mo_placeObject {S : sS} (hH : HI S) (n : Nat) (o : Int) (t : Int) (ho : 0 ≤ o ∧ o ≤ 23) (ht : 0 ≤ t ∧ t ≤ 5001) (hT : TK S n) (hv : RNV S n) (hM : LXM S) (hB : ABV S) (hW : WYM S) (hp : Xi S 904 74 < Xi S 904 69) (hn : rnR S (Xi S 904 74) 4 ≠ -1) (d : Nat) : Mt lay0 (d + 5) m_mo_placeObject [.ref 904, iv o, iv t] S (Q_mo_placeObject S n o t) := by sorry
def md_mo_askCommand : List rec := [(904, 905, 104, 105), (904, 905, 105, 106), (904, 905, 106, 107), (904, 905, 150, 151), (904, 905, 151, 152), (904, 905, 153, 154), (991, 992, 0, 100000), (992, 993, 0, 100000)]
abbrev Q_mo_askCommand (S : sS) (n : Nat) : pst := fun r S1 => HI S1 ∧ FR md_mo_askCommand S S1 ∧ (r = none ∧ (Xi S1 904 106 = 0 → Xi S 904 55 < 20 ∧ rnR S 0 11 ≠ -1))
set_option maxRecDepth 100000 in
set_option maxHeartbeats 4000000 in
theorem c295_mo_askCommand {S : sS} (hH : HI S) (n : Nat) (hT : TK S n) (hv : RNV S n) (hM : LXM S) (hB : ABV S) (hK : TXK S n) (h1 : 1 ≤ Xi S 904 69) (ht : Xi S 904 81 < n ∧ Xi S 907 (Xi S 904 81).toNat = 5) (d : Nat) : ∀  (T1 : sS) (_ : HI T1) (_ : FR md_mo_askCommand S T1) (v1 : Int), (0 ≤ v1 ∧ v1 ≤ 1) → (Xi T1 904 106 = 0 → Xi S 904 55 < 20 ∧ rnR S 0 11 ≠ -1) → (Xi T1 904 81 = Xi S 904 81) → Rl lay0 (d + 5) m_mo_askCommand 295 [(0, .ref 904), (1, iv v1)] [] T1 (Q_mo_askCommand S n) := by sorry
set_option maxRecDepth 100000 in
set_option maxHeartbeats 4000000 in
theorem c238_mo_askCommand {S : sS} (hH : HI S) (n : Nat) (hT : TK S n) (hv : RNV S n) (hM : LXM S) (hB : ABV S) (hK : TXK S n) (h1 : 1 ≤ Xi S 904 69) (ht : Xi S 904 81 < n ∧ Xi S 907 (Xi S 904 81).toNat = 5) (d : Nat) : ∀  (T3 : sS) (_ : HI T3) (_ : FR md_mo_askCommand S T3) (v2 : Int) (v3 : Int), (0 ≤ v2 ∧ v2 ≤ 11) → (-1 ≤ v3 ∧ v3 ≤ 299) → (0 ≤ v2 ∧ v2 < Xi S 904 49) → (v3 ≠ -1 → v3 < Xi S 904 15) → (Xi T3 904 106 = 0 → Xi S 904 55 < 20 ∧ rnR S 0 11 ≠ -1) → (Xi T3 904 81 = Xi S 904 81) → Rl lay0 (d + 5) m_mo_askCommand 238 [(0, .ref 904), (2, iv v2), (3, iv v3)] [] T3 (Q_mo_askCommand S n) := by sorry
set_option maxRecDepth 100000 in
set_option maxHeartbeats 4000000 in
theorem c78_mo_askCommand {S : sS} (hH : HI S) (n : Nat) (hT : TK S n) (hv : RNV S n) (hM : LXM S) (hB : ABV S) (hK : TXK S n) (h1 : 1 ≤ Xi S 904 69) (ht : Xi S 904 81 < n ∧ Xi S 907 (Xi S 904 81).toNat = 5) (d : Nat) : ∀  (T8 : sS) (_ : HI T8) (_ : FR md_mo_askCommand S T8) (v1 : Int) (v2 : Int), (0 ≤ v1 ∧ v1 ≤ 1) → (-1 ≤ v2 ∧ v2 ≤ 11) → (v2 ≠ -1 → v2 < Xi S 904 49) → (Xi T8 904 106 = 0 → Xi S 904 55 < 20 ∧ v2 ≠ -1) → (v2 = rnR S 0 11) → (Xi T8 904 81 = Xi S 904 81) → Rl lay0 (d + 5) m_mo_askCommand 78 [(0, .ref 904), (1, iv v1), (2, iv v2)] [] T8 (Q_mo_askCommand S n) := by sorry
set_option maxRecDepth 100000 in
set_option maxHeartbeats 4000000 in
theorem t_mo_askCommand {S : sS} (hH : HI S) (n : Nat) (hT : TK S n) (hv : RNV S n) (hM : LXM S) (hB : ABV S) (hK : TXK S n) (h1 : 1 ≤ Xi S 904 69) (ht : Xi S 904 81 < n ∧ Xi S 907 (Xi S 904 81).toNat = 5) (d : Nat) : Mt lay0 (d + 6) m_mo_askCommand [.ref 904] S (Q_mo_askCommand S n) := by sorry
/-! SAFETY of methods: printed by wip/safe (vc.py, decl.py) -/
theorem txm_o {S T : sS} {kind : Int} (hX : TXM S) (h0 : 0 ≤ Xi S 904 19) (hc : Xi T 904 19 = Xi S 904 19 + 1) (k : ∀ j : Nat, (j : Int) < Xi S 904 19 → Xi T 918 j = Xi S 918 j) (e : Xi T 918 (Xi S 904 19).toNat = kind) (hk : kind < Xi S 904 16) (o : ∀ j : Nat, (j : Int) < 12 * Xi S 904 19 → Xi T 930 j = Xi S 930 j) (z : ∀ p : Int, 0 ≤ p → p < 12 → Xi T 930 (12 * Xi S 904 19 + p).toNat = 0) (e28 : ∀ j, Xi T 928 j = Xi S 928 j) (e31 : ∀ j, Xi T 931 j = Xi S 931 j) (e32 : ∀ j, Xi T 932 j = Xi S 932 j) (e33 : ∀ j, Xi T 933 j = Xi S 933 j) (e34 : ∀ j, Xi T 934 j = Xi S 934 j) (e35 : ∀ j, Xi T 935 j = Xi S 935 j) (e16 : Xi T 904 16 = Xi S 904 16) (ep : Xi T 904 32 = Xi S 904 32) : TXM T := by sorry
def md_mo_addObject : List rec := [(904, 905, 19, 20), (918, 919, 0, 100000), (919, 920, 0, 100000), (920, 921, 0, 100000), (925, 926, 0, 100000), (930, 931, 0, 100000)]
abbrev Q_mo_addObject (S : sS) (kind : Int) : pst := fun r S1 => HI S1 ∧ FR md_mo_addObject S S1 ∧ (∃ z : Int, r = some (iv z) ∧ (0 ≤ z ∧ z ≤ 23) ∧ (z = Xi S 904 19) ∧ (Xi S1 904 19 = Xi S 904 19 + 1) ∧ (Xi S1 918 (Xi S 904 19).toNat = kind ∧ Xi S1 919 (Xi S 904 19).toNat = 0) ∧ (∀ j : Nat, (j : Int) < Xi S 904 19 → Xi S1 918 j = Xi S 918 j ∧ Xi S1 919 j = Xi S 919 j ∧ Xi S1 920 j = Xi S 920 j) ∧ (TXM S1) ∧ (WYM S1))
set_option maxRecDepth 100000 in
theorem t_mo_addObject {S : sS} (hH : HI S) (kind : Int) (hkind : 0 ≤ kind ∧ kind ≤ 15) (h : Xi S 904 19 ≤ 23) (hk : kind < Xi S 904 16) (hX : TXM S) (hW : WYM S) (d : Nat) : Mt lay0 (d + 1) m_mo_addObject [.ref 904, iv kind] S (Q_mo_addObject S kind) := by sorry
end
section
/-! SAFETY of methods: printed by wip/safe (vc.py, decl.py) -/
/-! SAFETY of the reference: what is told grows -/
def GR (T S : sS) : Prop := (Xi S 904 16 ≤ Xi T 904 16 ∧ Xi S 904 18 ≤ Xi T 904 18 ∧ Xi S 904 19 ≤ Xi T 904 19 ∧ Xi S 904 23 ≤ Xi T 904 23 ∧ Xi S 904 30 ≤ Xi T 904 30 ∧ Xi S 904 32 ≤ Xi T 904 32 ∧ Xi S 904 41 ≤ Xi T 904 41 ∧ Xi S 904 47 ≤ Xi T 904 47 ∧ Xi S 904 49 ≤ Xi T 904 49) ∧
  (∀ j : Nat, (j : Int) < Xi S 904 23 → Xi T 922 j = Xi S 922 j ∧ Xi T 923 j = Xi S 923 j ∧ Xi T 924 j = Xi S 924 j) ∧ (∀ j : Nat, (j : Int) < Xi S 904 32 → Xi T 928 j = Xi S 928 j) ∧ ∀ j : Nat, (j : Int) < Xi S 904 49 → Xi T 942 j = Xi S 942 j
theorem GR.rf {S : sS} : GR S S := by sorry
theorem GR.tr {S T U : sS} (h : GR T S) (g : GR U T) : GR U S := by sorry
def kGR : List (Nat × Nat) := [(922, 925), (928, 929), (942, 943)]
def jGR : List Nat := [16, 18, 19, 23, 30, 32, 41, 47, 49]
theorem GR_FR {l : List rec} {T U S : sS} (f : FR l T U) (e : (kdis l kGR && mD l jGR) = true) (h : GR T S) : GR U S := by sorry
theorem GR.w {T U S : sS} {k j : Nat} {v : Int} (h : GR T S) (e : U = uI T k j (Int32.ofInt v)) (hr : rg v) (hj : (k = 904 → (j = 16 → Xi S 904 16 ≤ v) ∧ (j = 18 → Xi S 904 18 ≤ v) ∧ (j = 19 → Xi S 904 19 ≤ v) ∧ (j = 23 → Xi S 904 23 ≤ v) ∧ (j = 30 → Xi S 904 30 ≤ v) ∧ (j = 32 → Xi S 904 32 ≤ v) ∧ (j = 41 → Xi S 904 41 ≤ v) ∧ (j = 47 → Xi S 904 47 ≤ v) ∧ (j = 49 → Xi S 904 49 ≤ v)) ∧ (k = 922 ∨ k = 923 ∨ k = 924 → Xi S 904 23 ≤ (j : Int)) ∧ (k = 928 → Xi S 904 32 ≤ (j : Int)) ∧ (k = 942 → Xi S 904 49 ≤ (j : Int))) : GR U S := by sorry
theorem cM_le {S T : sS} (g : GR T S) (s : Int) : cM S s ≤ cM T s := by sorry
theorem LXK.rf {S : sS} {m : Int} : LXK S S m := by sorry
theorem LXK.tr {S T U : sS} {m n : Int} (h : LXK T S m) (g : LXK U T n) (hn : m ≤ n) : LXK U S m := by sorry
theorem LXK.fr {l : List rec} {S T U : sS} {m : Int} (h : LXK T S m) (f : FR l T U) (e : kdis l [(912, 917)] = true) : LXK U S m := by sorry
theorem lxm_gr {S T : sS} (hM : LXM S) (k : LXK T S (Xi S 904 15)) (g : GR T S) (h0 : 0 ≤ Xi S 904 15) (e : Xi T 904 15 = Xi S 904 15 ∨ (Xi T 904 15 = Xi S 904 15 + 1 ∧ Xi T 915 (Xi S 904 15).toNat < cM T (Xi T 914 (Xi S 904 15).toNat))) : LXM T := by sorry
/-- what words mean stays when more are told -/
theorem rnR_up {S T : sS} {r s : Int} (k : LXK T S (Xi S 904 15)) (h0 : 0 ≤ Xi S 904 15) (hl : Xi S 904 15 ≤ Xi T 904 15) (e1 : ∀ j, Xj T 910 j = Xj S 910 j) (e2 : ∀ j, Xi T 950 j = Xi S 950 j) (e3 : ∀ j, Xi T 951 j = Xi S 951 j) (h : rnR S r s ≠ -1) : rnR T r s = rnR S r s := by sorry
/-- how many words there may be -/
def lxH (S : sS) (s i : Int) : Prop := ∃ k : Nat, (k : Int) < Xi S 904 15 ∧ Xi S 914 k = s ∧ Xi S 915 k = i
noncomputable def plN (S : sS) (s : Int) : Nat → Int
  | 0 => 0
  | m + 1 => plN S s m + @ite Int (lxH S s (m : Int)) (Classical.propDecidable _) 1 0
theorem plN_rg {S : sS} {s : Int} : ∀ m : Nat, 0 ≤ plN S s m ∧ plN S s m ≤ m := by sorry
theorem plN_mo {S T : sS} {s : Int} (h : ∀ i : Nat, lxH S s i → lxH T s i) : ∀ m : Nat, plN S s m ≤ plN T s m := by sorry
theorem plN_one {S T : sS} {s : Int} {i0 : Nat} (h : ∀ i : Nat, lxH S s i → lxH T s i) (h1 : ¬ lxH S s i0) (h2 : lxH T s i0) : ∀ m : Nat, i0 < m → plN S s m + 1 ≤ plN T s m := by sorry
theorem plN_up {S : sS} {s : Int} {m : Nat} : ∀ d : Nat, plN S s m ≤ plN S s (m + d) := by sorry
noncomputable def pls (S : sS) : Int := plN S 1 (Xi S 904 16).toNat + plN S 3 (Xi S 904 18).toNat
def LCN (S : sS) : Prop := Xi S 904 15 ≤ pls S + (Xi S 904 16 + Xi S 904 18 + Xi S 904 19 + Xi S 904 23 + Xi S 904 30 + Xi S 904 32 + Xi S 904 41 + 2 * Xi S 904 47 + Xi S 904 49) + 11
theorem lxH_k {S T : sS} {s i : Int} (k : LXK T S (Xi S 904 15)) (hl : Xi S 904 15 ≤ Xi T 904 15) (h : lxH S s i) : lxH T s i := by sorry
theorem pls_le {S T : sS} (k : LXK T S (Xi S 904 15)) (hl : Xi S 904 15 ≤ Xi T 904 15) (h1 : Xi S 904 16 ≤ Xi T 904 16) (h2 : Xi S 904 18 ≤ Xi T 904 18) : pls S ≤ pls T := by sorry
/-- a plural that wasn't there -/
theorem pls_one {S T : sS} {s i : Int} (k : LXK T S (Xi S 904 15)) (hl : Xi S 904 15 ≤ Xi T 904 15) (h1 : Xi S 904 16 = Xi T 904 16) (h2 : Xi S 904 18 = Xi T 904 18) (hs : (s = 1 ∧ i < Xi S 904 16) ∨ (s = 3 ∧ i < Xi S 904 18)) (h0 : 0 ≤ i) (hn : ¬ lxH S s i) (hy : lxH T s i) : pls S + 1 ≤ pls T := by sorry
theorem lcn_le {S : sS} (hH : HI S) (h : LCN S) : Xi S 904 15 ≤ 217 := by sorry
theorem lcn_i {S T : sS} (h : LCN S) (p : pls S ≤ pls T) (e : Xi T 904 15 - Xi S 904 15 ≤ (Xi T 904 16 - Xi S 904 16) + (Xi T 904 18 - Xi S 904 18) + (Xi T 904 19 - Xi S 904 19) + (Xi T 904 23 - Xi S 904 23) + (Xi T 904 30 - Xi S 904 30) + (Xi T 904 32 - Xi S 904 32) + (Xi T 904 41 - Xi S 904 41) + 2 * (Xi T 904 47 - Xi S 904 47) + (Xi T 904 49 - Xi S 904 49)) : LCN T := by sorry
theorem LCN_FR {l : List rec} {S T : sS} (h : FR l S T) (e : (kdis l [(912, 917)] && mD l jLX) = true) (hL : LCN S) : LCN T := by sorry
/-- n things in m places -/
theorem php : ∀ (m n : Nat) (f : Nat → Nat), (∀ i, i < n → f i < m) → (∀ i j, i < j → j < n → f i ≠ f j) → n ≤ m := by sorry
/-- no way twice -/
def WYD (S : sS) : Prop := ∀ i j : Nat, i < j → (j : Int) < Xi S 904 51 → ¬ (Xi S 943 i = Xi S 943 j ∧ Xi S 944 i = Xi S 944 j)
theorem wyd_le {S : sS} (hH : HI S) (h : WYD S) : Xi S 904 51 ≤ 144 := by sorry
theorem WYD_FR {l : List rec} {S T : sS} (h : FR l S T) (e : (kdis l [(943, 945)] && mD l [51]) = true) (hW : WYD S) : WYD T := by sorry
theorem wyd_add {S U1 U2 U3 U4 : sS} {f d o w : Int} (hW : WYD S) (hn : ∀ k : Nat, (k : Int) < w → ¬ (Xi S 943 k = f ∧ Xi S 944 k = d)) (hw : Xi S 904 51 = w) (h0 : 0 ≤ w ∧ w ≤ 200) (hf : 0 ≤ f ∧ f ≤ 23) (hd : 0 ≤ d ∧ d ≤ 5) (e1 : U1 = uI S 943 w.toNat (Int32.ofInt f)) (e2 : U2 = uI U1 944 w.toNat (Int32.ofInt d)) (e3 : U3 = uI U2 945 w.toNat (Int32.ofInt o)) (e4 : U4 = uI U3 904 51 (Int32.ofInt (w + 1))) : WYD U4 := by sorry
/-- no type has more than eight values -/
def VCN (S : sS) : Prop := ∀ t : Int, 2 ≤ t → cvR S t (Xi S 904 30).toNat ≤ 8
theorem cvR_k {S T : sS} {t : Int} : ∀ m : Nat, (∀ j : Nat, j < m → Xi T 927 j = Xi S 927 j) → cvR T t m = cvR S t m := by sorry
theorem VCN_FR {l : List rec} {S T : sS} (h : FR l S T) (e : (kdis l [(927, 928)] && mD l [30]) = true) (hV : VCN S) : VCN T := by sorry
theorem cv_sum {S : sS} : ∀ m : Nat, (∀ v : Nat, v < m → 2 ≤ Xi S 927 v ∧ Xi S 927 v ≤ 7) → cvR S 2 m + cvR S 3 m + cvR S 4 m + cvR S 5 m + cvR S 6 m + cvR S 7 m = m := by sorry
theorem vcn_le {S : sS} {ty : Int} (hH : HI S) (hV : VTM S) (h : VCN S) (h2 : 2 ≤ ty) (h7 : ty ≤ 7) : Xi S 904 30 ≤ 40 + cvR S ty (Xi S 904 30).toNat := by sorry
theorem txm_kw {S U : sS} {j : Nat} {v : Int} (hX : TXM S) (e : U = uI S 918 j (Int32.ofInt v)) (hr : rg v) (hv : v < Xi S 904 16) : TXM U := by sorry
/-- a property more -/
theorem txm_p {S T : sS} (hX : TXM S) (ep : Xi S 904 32 ≤ Xi T 904 32) (e28 : ∀ j : Nat, (j : Int) < Xi S 904 32 → Xi T 928 j = Xi S 928 j) (e18 : ∀ j, Xi T 918 j = Xi S 918 j) (e30 : ∀ j, Xi T 930 j = Xi S 930 j) (e31 : ∀ j, Xi T 931 j = Xi S 931 j) (e32 : ∀ j, Xi T 932 j = Xi S 932 j) (e33 : ∀ j, Xi T 933 j = Xi S 933 j) (e34 : ∀ j, Xi T 934 j = Xi S 934 j) (e35 : ∀ j, Xi T 935 j = Xi S 935 j) (e16 : Xi T 904 16 = Xi S 904 16) (e19 : Xi T 904 19 = Xi S 904 19) : TXM T := by sorry
theorem LXK.wl {T U S : sS} {m : Int} {k j : Nat} {v : Int32} (h : LXK T S m) (e : U = uI T k j v) (hj : m ≤ (j : Int)) : LXK U S m := by sorry
theorem gr_m {T U S : sS} (h : GR T S) (c1 : Xi T 904 16 ≤ Xi U 904 16) (c2 : Xi T 904 18 ≤ Xi U 904 18) (c3 : Xi T 904 19 ≤ Xi U 904 19) (c4 : Xi T 904 23 ≤ Xi U 904 23) (c5 : Xi T 904 30 ≤ Xi U 904 30) (c6 : Xi T 904 32 ≤ Xi U 904 32) (c7 : Xi T 904 41 ≤ Xi U 904 41) (c8 : Xi T 904 47 ≤ Xi U 904 47) (c9 : Xi T 904 49 ≤ Xi U 904 49) (a : ∀ j : Nat, (j : Int) < Xi T 904 23 → Xi U 922 j = Xi T 922 j ∧ Xi U 923 j = Xi T 923 j ∧ Xi U 924 j = Xi T 924 j) (p : ∀ j : Nat, (j : Int) < Xi T 904 32 → Xi U 928 j = Xi T 928 j) (k : ∀ j : Nat, (j : Int) < Xi T 904 49 → Xi U 942 j = Xi T 942 j) : GR U S := by sorry
theorem on_at {S T : sS} {v r : Int} (hO : ONA S) (k : LXK T S (Xi S 904 15)) (h0 : 0 ≤ Xi S 904 15) (hl : Xi S 904 15 ≤ Xi T 904 15) (e1 : ∀ j, Xj T 910 j = Xj S 910 j) (e2 : ∀ j, Xi T 950 j = Xi S 950 j) (e3 : ∀ j, Xi T 951 j = Xi S 951 j) (hv : 0 ≤ v ∧ v < Xi S 904 72) (hr : r = Xi S 904 71 + v) (hc : Xi T 904 19 ≤ Xi S 904 19 + cnR S (Xi S 904 71) 4 v.toNat) (q : rnR T r 4 = -1) : Xi T 904 19 ≤ 23 ∧ Xi T 951 r.toNat ≤ 3 := by sorry
theorem on_nx {S T U : sS} {v r : Int} (k : LXK T S (Xi S 904 15)) (h0 : 0 ≤ Xi S 904 15) (hl : Xi S 904 15 ≤ Xi T 904 15) (e1 : ∀ j, Xj T 910 j = Xj S 910 j) (e2 : ∀ j, Xi T 950 j = Xi S 950 j) (e3 : ∀ j, Xi T 951 j = Xi S 951 j) (hv : 0 ≤ v) (hr : r = Xi S 904 71 + v) (hc : Xi T 904 19 ≤ Xi S 904 19 + cnR S (Xi S 904 71) 4 v.toNat) (hu : Xi T 904 19 ≤ Xi U 904 19 ∧ Xi U 904 19 ≤ Xi T 904 19 + 1 ∧ (rnR T r 4 ≠ -1 → Xi U 904 19 = Xi T 904 19)) : Xi U 904 19 ≤ Xi S 904 19 + cnR S (Xi S 904 71) 4 (v + 1).toNat := by sorry
theorem rn_up2 {S T : sS} {r r2 s : Int} (h : rnR S r s ≠ -1) (k : LXK T S (Xi S 904 15)) (h0 : 0 ≤ Xi S 904 15) (hl : Xi S 904 15 ≤ Xi T 904 15) (e1 : ∀ j, Xj T 910 j = Xj S 910 j) (e2 : ∀ j, Xi T 950 j = Xi S 950 j) (e3 : ∀ j, Xi T 951 j = Xi S 951 j) (e : r2 = r) : rnR T r2 s ≠ -1 := by sorry
/-- all words but one stay -/
def LXO (T S : sS) (m : Int) : Prop := ∀ k : Nat, (k : Int) ≠ m → Xi T 914 k = Xi S 914 k ∧ Xi T 915 k = Xi S 915 k
theorem LXO.t {S U1 U2 U3 U4 U5 U6 U7 U8 : sS} {L : Int} {v1 v2 v3 v4 v5 : Int32} {w1 w2 w3 : Int64} (h0 : 0 ≤ L) (e1 : U1 = uI S 912 L.toNat v1) (e2 : U2 = uJ U1 913 (3 * L).toNat w1) (e3 : U3 = uJ U2 913 (3 * L + 1).toNat w2) (e4 : U4 = uJ U3 913 (3 * L + 2).toNat w3) (e5 : U5 = uI U4 914 L.toNat v2) (e6 : U6 = uI U5 915 L.toNat v3) (e7 : U7 = uI U6 916 L.toNat v4) (e8 : U8 = uI U7 904 15 v5) : LXO U8 S L := by sorry
theorem pls_same {S U : sS} (k : ∀ k : Nat, (k : Int) < Xi S 904 15 → Xi U 914 k = Xi S 914 k ∧ Xi U 915 k = Xi S 915 k) (e : Xi U 904 15 = Xi S 904 15) (h1 : Xi U 904 16 = Xi S 904 16) (h2 : Xi U 904 18 = Xi S 904 18) : pls S ≤ pls U := by sorry
theorem lcn_p {S T : sS} (h : LCN S) (p : pls S + 1 ≤ pls T) (e : Xi T 904 15 = Xi S 904 15 + 1) (e1 : Xi T 904 16 = Xi S 904 16) (e2 : Xi T 904 18 = Xi S 904 18) (e3 : Xi T 904 19 = Xi S 904 19) (e4 : Xi T 904 23 = Xi S 904 23) (e5 : Xi T 904 30 = Xi S 904 30) (e6 : Xi T 904 32 = Xi S 904 32) (e7 : Xi T 904 41 = Xi S 904 41) (e8 : Xi T 904 47 = Xi S 904 47) (e9 : Xi T 904 49 = Xi S 904 49) : LCN T := by sorry
theorem thk_gr {S T : sS} {b c : Prop} {x : Int} (g : Xi S 904 19 ≤ Xi T 904 19) (h : thK S b c x) : thK T b c x := by sorry
theorem adm_gr {S T : sS} {a : Int} (g : Xi S 904 23 ≤ Xi T 904 23) (g2 : Xi S 904 32 ≤ Xi T 904 32) (h : ADM S a) : ADM T a := by sorry
theorem tq_gr {S T : sS} {b c : Prop} {q : Nat} (g : GR T S) (e : ∀ k, 969 ≤ k → k ≤ 975 → Xi T k q = Xi S k q) (h : TQ S b c q) : TQ T b c q := by sorry
theorem defm_gr {S T : sS} (hD : DEFM S) (g : GR T S) (e : ∀ k, 969 ≤ k → k ≤ 975 → ∀ i, Xi T k i = Xi S k i) (hn : ∀ a : Nat, Xi S 904 23 ≤ (a : Int) → (a : Int) < Xi T 904 23 → 0 < Xi T 924 a → Xi T 923 a + Xi T 924 a ≤ 2400 ∧ ∀ k : Nat, (k : Int) < Xi T 924 a → TQ T True False ((Xi T 923 a).toNat + k)) : DEFM T := by sorry
theorem dcm_gr {S T : sS} (h : DCM S) (g : GR T S) (hn : ∀ a : Nat, Xi S 904 23 ≤ (a : Int) → (a : Int) < Xi T 904 23 → Xi T 924 a = 0 → Xi T 922 a ≠ -1) : DCM T := by sorry
theorem akr_gr {S T : sS} (h : AKR S) (g : GR T S) : AKR T := by sorry
theorem pls_one2 {S T : sS} {s i : Int} (t : ∀ s i : Int, lxH S s i → lxH T s i) (h1 : Xi T 904 16 = Xi S 904 16) (h2 : Xi T 904 18 = Xi S 904 18) (hs : (s = 1 ∧ i < Xi S 904 16) ∨ (s = 3 ∧ i < Xi S 904 18)) (h0 : 0 ≤ i) (hn : ¬ lxH S s i) (hy : lxH T s i) : pls S + 1 ≤ pls T := by sorry
theorem lxm_pl {S U : sS} {m s i : Int} (hM : LXM S) (g : GR U S) (hS : ∀ k : Nat, (k : Int) ≠ m → Xi U 914 k = Xi S 914 k ∧ Xi U 915 k = Xi S 915 k) (hN : Xi U 914 m.toNat = s ∧ Xi U 915 m.toNat = i) (h0 : 0 ≤ m) (hi : i < cM U s) (he : Xi U 904 15 ≤ Xi S 904 15 ∨ (Xi U 904 15 = Xi S 904 15 + 1 ∧ m = Xi S 904 15)) : LXM U := by sorry
theorem lcn_pl {S U : sS} {m s i : Int} (hL : LCN S) (hS : ∀ k : Nat, (k : Int) ≠ m → Xi U 914 k = Xi S 914 k ∧ Xi U 915 k = Xi S 915 k) (hN : Xi U 914 m.toNat = s ∧ Xi U 915 m.toNat = i) (h0 : 0 ≤ m) (hs : (s = 1 ∧ i < Xi S 904 16) ∨ (s = 3 ∧ i < Xi S 904 18)) (hi : 0 ≤ i) (hc : (m = Xi S 904 15 ∧ Xi U 904 15 = Xi S 904 15 + 1 ∧ ¬ lxH S s i) ∨ (Xi U 904 15 = Xi S 904 15 ∧ Xi S 914 m.toNat = s ∧ Xi S 915 m.toNat = i)) (e1 : Xi U 904 16 = Xi S 904 16) (e2 : Xi U 904 18 = Xi S 904 18) (e3 : Xi U 904 19 = Xi S 904 19) (e4 : Xi U 904 23 = Xi S 904 23) (e5 : Xi U 904 30 = Xi S 904 30) (e6 : Xi U 904 32 = Xi S 904 32) (e7 : Xi U 904 41 = Xi S 904 41) (e8 : Xi U 904 47 = Xi S 904 47) (e9 : Xi U 904 49 = Xi S 904 49) : LCN U := by sorry
/-- how far plurals go -/
def PLB (T : sS) (a b : Int) : Prop := ∀ k : Nat, (k : Int) < Xi T 904 15 → (Xi T 914 k = 1 → Xi T 915 k < a) ∧ (Xi T 914 k = 3 → Xi T 915 k < b)
theorem plb_0 {S : sS} (h : LXM S) : PLB S (Xi S 904 16) (Xi S 904 18) := by sorry
theorem PLB.up {T : sS} {a b c d : Int} (h : PLB T a b) (h1 : a ≤ c) (h2 : b ≤ d) : PLB T c d := by sorry
theorem plb_no {T : sS} {a b s i : Int} (h : PLB T a b) (hs : (s = 1 ∧ a ≤ i) ∨ (s = 3 ∧ b ≤ i)) : ¬ lxH T s i := by sorry
theorem plb_add {T U : sS} {a b : Int} (h : PLB T a b) (k : LXK U T (Xi T 904 15)) (h0 : 0 ≤ Xi T 904 15) (e : Xi U 904 15 = Xi T 904 15 + 1) (h1 : Xi U 914 (Xi T 904 15).toNat = 1 → Xi U 915 (Xi T 904 15).toNat < a) (h3 : Xi U 914 (Xi T 904 15).toNat = 3 → Xi U 915 (Xi T 904 15).toNat < b) : PLB U a b := by sorry
theorem cv_add {B U : sS} {t ty : Int} (h : ∀ j : Nat, (j : Int) < Xi B 904 30 → Xi U 927 j = Xi B 927 j) (e : Xi U 927 (Xi B 904 30).toNat = ty) (c : Xi U 904 30 = Xi B 904 30 + 1) (h0 : 0 ≤ Xi B 904 30) : cvR U t (Xi U 904 30).toNat = cvR B t (Xi B 904 30).toNat + (if t = ty then 1 else 0) := by sorry
theorem vtm_add {B U : sS} {ty : Int} (hV : VTM B) (h : ∀ j : Nat, (j : Int) < Xi B 904 30 → Xi U 927 j = Xi B 927 j) (e : Xi U 927 (Xi B 904 30).toNat = ty) (c : Xi U 904 30 = Xi B 904 30 + 1) (h0 : 0 ≤ Xi B 904 30) (h2 : 2 ≤ ty) : VTM U := by sorry
/-- the adjective of a told list is meant for each of its objects -/
def AQ4 (S : sS) : Prop := ∀ i : Int, 0 ≤ i → i < Xi S 904 72 → rnR S (Xi S 904 71 + i) 4 ≠ -1 ∧ 1 ≤ adR S (Xi S 950 (Xi S 904 78).toNat) (Xi S 951 (Xi S 904 78).toNat) (Xi S 918 (rnR S (Xi S 904 71 + i) 4).toNat) 0 (1 - Xi S 904 75)
theorem AQ4_FR {l : List rec} {S T : sS} (h : FR l S T) (e : ((kdis l kLX && mD l [15]) && (kdis l [(950, 952)] && ((kdis l kAD && mD l [32]) && (kdis l [(918, 919)] && mD l [71, 72, 75, 78])))) = true) (hA : AQ4 S) : AQ4 T := by sorry
def md_mo_objectTold : List rec := [(904, 905, 15, 16), (904, 905, 19, 20), (912, 913, 0, 100000), (913, 914, 0, 100000), (914, 915, 0, 100000), (915, 916, 0, 100000), (916, 917, 0, 100000), (918, 919, 0, 100000), (919, 920, 0, 100000), (920, 921, 0, 100000), (925, 926, 0, 100000), (930, 931, 0, 100000)]
abbrev Q_mo_objectTold (S : sS) (n : Nat) (rn : Int) (kind : Int) : pst := fun r S1 => HI S1 ∧ FR md_mo_objectTold S S1 ∧ (∃ z : Int, r = some (iv z) ∧ (0 ≤ z ∧ z ≤ 23) ∧ (z < Xi S1 904 19) ∧ (Xi S 904 19 ≤ Xi S1 904 19 ∧ Xi S1 904 19 ≤ Xi S 904 19 + 1 ∧ (rnR S rn 4 ≠ -1 → Xi S1 904 19 = Xi S 904 19)) ∧ (TXM S1) ∧ (WYM S1) ∧ (LXM S1) ∧ (LCN S1) ∧ (GR S1 S) ∧ (LXK S1 S (Xi S 904 15)) ∧ (Xi S 904 15 ≤ Xi S1 904 15))
set_option maxRecDepth 100000 in
theorem t_mo_objectTold {S : sS} (hH : HI S) (n : Nat) (rn : Int) (kind : Int) (hrn : 0 ≤ rn ∧ rn ≤ 2599) (hkind : 0 ≤ kind ∧ kind ≤ 15) (hT : TK S n) (hv : RNV S n) (hM : LXM S) (hrr : rn < Xi S 904 69) (hX : TXM S) (hW : WYM S) (hLC : LCN S) (hk : kind < Xi S 904 16) (hn : rnR S rn 4 = -1 → Xi S 904 19 ≤ 23 ∧ Xi S 951 rn.toNat ≤ 3) (d : Nat) : Mt lay0 (d + 5) m_mo_objectTold [.ref 904, iv rn, iv kind] S (Q_mo_objectTold S n rn kind) := by sorry
def md_mo_doWay : List rec := [(904, 905, 15, 16), (904, 905, 19, 20), (904, 905, 51, 52), (904, 905, 60, 61), (904, 905, 105, 106), (904, 905, 106, 107), (912, 913, 0, 100000), (913, 914, 0, 100000), (914, 915, 0, 100000), (915, 916, 0, 100000), (916, 917, 0, 100000), (918, 919, 0, 100000), (919, 920, 0, 100000), (920, 921, 0, 100000), (925, 926, 0, 100000), (930, 931, 0, 100000), (943, 944, 0, 100000), (944, 945, 0, 100000), (945, 946, 0, 100000)]
abbrev Q_mo_doWay (S : sS) (n : Nat) : pst := fun r S1 => HI S1 ∧ FR md_mo_doWay S S1 ∧ (r = none ∧ (TXM S1) ∧ (WYM S1) ∧ (LXM S1) ∧ (LCN S1) ∧ (GR S1 S) ∧ (WYD S1) ∧ (Xi S1 904 60 < Xi S1 904 19))
set_option maxRecDepth 100000 in
theorem t_mo_doWay {S : sS} (hH : HI S) (n : Nat) (hT : TK S n) (hv : RNV S n) (hM : LXM S) (hX : TXM S) (hW : WYM S) (hLC : LCN S) (hl : Xi S 904 71 + Xi S 904 72 ≤ Xi S 904 69) (hD : WYD S) (h1 : 1 ≤ Xi S 904 72) (h2 : 2 ≤ Xi S 904 16) (hw : 0 ≤ Xi S 904 78 ∧ Xi S 904 78 < Xi S 904 69) (hp : Xi S 904 74 < Xi S 904 69) (ha : (rnR S (Xi S 904 71) 4 = -1 → Xi S 904 19 < 24 ∧ Xi S 951 (Xi S 904 71).toNat ≤ 3)) (hb : rnR S (Xi S 904 78) 12 ≠ -1) (hc : rnR S (Xi S 904 74) 4 ≠ -1) (d : Nat) : Mt lay0 (d + 6) m_mo_doWay [.ref 904] S (Q_mo_doWay S n) := by sorry
def md_mo_doProperty : List rec := [(904, 905, 105, 106), (904, 905, 106, 107), (930, 931, 0, 100000), (931, 932, 0, 100000), (932, 933, 0, 100000), (933, 934, 0, 100000), (934, 935, 0, 100000), (935, 936, 0, 100000)]
abbrev Q_mo_doProperty (S : sS) (n : Nat) : pst := fun r S1 => HI S1 ∧ FR md_mo_doProperty S S1 ∧ (r = none ∧ (TXM S1))
set_option maxRecDepth 100000 in
theorem t_mo_doProperty {S : sS} (hH : HI S) (n : Nat) (hT : TK S n) (hv : RNV S n) (hM : LXM S) (hX : TXM S) (h2 : 2 ≤ Xi S 904 69) (hp : rnR S 0 7 ≠ -1) (hk : rnR S 1 4 ≠ -1 ∨ rnR S 1 0 ≠ -1) (ho : OKT (Xi S 973 (Xi S 904 117).toNat) (Xi S 974 (Xi S 904 117).toNat)) (d : Nat) : Mt lay0 (d + 5) m_mo_doProperty [.ref 904] S (Q_mo_doProperty S n) := by sorry
def md_mo_tell__2 : List rec := [(904, 905, 15, 16), (912, 913, 0, 100000), (913, 914, 0, 100000), (914, 915, 0, 100000), (915, 916, 0, 100000), (916, 917, 0, 100000)]
abbrev Q_mo_tell__2 (S : sS) (so : Int) (ix : Int) (a : Int) (b : Int) (c : Int) (m : Int) : pst := fun r S1 => HI S1 ∧ FR md_mo_tell__2 S S1 ∧ (r = none ∧ (Xi S1 904 15 = Xi S 904 15 + 1) ∧ (Xi S1 914 (Xi S 904 15).toNat = so ∧ Xi S1 915 (Xi S 904 15).toNat = ix) ∧ (LXK S1 S (Xi S 904 15)) ∧ (LXO S1 S (Xi S 904 15)))
set_option maxRecDepth 100000 in
theorem t_mo_tell__2 {S : sS} (hH : HI S) (so : Int) (ix : Int) (a : Int) (b : Int) (c : Int) (m : Int) (hso : 0 ≤ so ∧ so ≤ 12) (hix : 0 ≤ ix ∧ ix ≤ 63) (hm : 0 ≤ m ∧ m ≤ 3) (hle : Xi S 904 15 ≤ 299) (d : Nat) : Mt lay0 (d + 1) m_mo_tell [.ref 904, iv so, iv ix, jw a, jw b, jw c, iv m] S (Q_mo_tell__2 S so ix a b c m) := by sorry
def md_mo_tellTokens__2 : List rec := [(904, 905, 15, 16), (912, 913, 0, 100000), (913, 914, 0, 100000), (914, 915, 0, 100000), (915, 916, 0, 100000), (916, 917, 0, 100000)]
abbrev Q_mo_tellTokens__2 (S : sS) (so : Int) (ix : Int) (t : Int) (m : Int) : pst := fun r S1 => HI S1 ∧ FR md_mo_tellTokens__2 S S1 ∧ (r = none ∧ (Xi S1 904 15 = Xi S 904 15 + 1) ∧ (Xi S1 914 (Xi S 904 15).toNat = so ∧ Xi S1 915 (Xi S 904 15).toNat = ix) ∧ (LXK S1 S (Xi S 904 15)) ∧ (LXO S1 S (Xi S 904 15)))
set_option maxRecDepth 100000 in
theorem t_mo_tellTokens__2 {S : sS} (hH : HI S) (so : Int) (ix : Int) (t : Int) (m : Int) (hso : 0 ≤ so ∧ so ≤ 12) (hix : 0 ≤ ix ∧ ix ≤ 63) (ht : 0 ≤ t ∧ t ≤ 5001) (hm : 1 ≤ m ∧ m ≤ 3) (hle : Xi S 904 15 ≤ 299) (ht : t + m ≤ 5002) (d : Nat) : Mt lay0 (d + 2) m_mo_tellTokens [.ref 904, iv so, iv ix, iv t, iv m] S (Q_mo_tellTokens__2 S so ix t m) := by sorry
def md_mo_tellRun__2 : List rec := [(904, 905, 15, 16), (912, 913, 0, 100000), (913, 914, 0, 100000), (914, 915, 0, 100000), (915, 916, 0, 100000), (916, 917, 0, 100000)]
abbrev Q_mo_tellRun__2 (S : sS) (n : Nat) (so : Int) (ix : Int) (rn : Int) : pst := fun r S1 => HI S1 ∧ FR md_mo_tellRun__2 S S1 ∧ (r = none ∧ (Xi S1 904 15 = Xi S 904 15 + 1) ∧ (Xi S1 914 (Xi S 904 15).toNat = so ∧ Xi S1 915 (Xi S 904 15).toNat = ix) ∧ (LXK S1 S (Xi S 904 15)) ∧ (LXO S1 S (Xi S 904 15)))
set_option maxRecDepth 100000 in
theorem t_mo_tellRun__2 {S : sS} (hH : HI S) (n : Nat) (so : Int) (ix : Int) (rn : Int) (hso : 0 ≤ so ∧ so ≤ 12) (hix : 0 ≤ ix ∧ ix ≤ 63) (hrn : 0 ≤ rn ∧ rn ≤ 2599) (hT : TK S n) (hv : RNV S n) (hrr : rn < Xi S 904 69) (h3 : Xi S 951 rn.toNat ≤ 3) (hle : Xi S 904 15 ≤ 299) (d : Nat) : Mt lay0 (d + 3) m_mo_tellRun [.ref 904, iv so, iv ix, iv rn] S (Q_mo_tellRun__2 S n so ix rn) := by sorry
abbrev Q_mo_lexOf__2 (S : sS) (sort : Int) (ix : Int) : pst := fun r S1 => S = S1 ∧ (∃ z : Int, r = some (iv z) ∧ (-1 ≤ z ∧ z ≤ 299) ∧ (z ≠ -1 → z < Xi S 904 15) ∧ (z = -1 → ¬ lxH S sort ix) ∧ (z ≠ -1 → Xi S 914 z.toNat = sort ∧ Xi S 915 z.toNat = ix))
set_option maxRecDepth 100000 in
theorem t_mo_lexOf__2 {S : sS} (hH : HI S) (sort : Int) (ix : Int) (hsort : -2147483648 ≤ sort ∧ sort ≤ 2147483647) (hix : -2147483648 ≤ ix ∧ ix ≤ 2147483647) (d : Nat) : Mt lay0 (d + 1) m_mo_lexOf [.ref 904, iv sort, iv ix] S (Q_mo_lexOf__2 S sort ix) := by sorry
abbrev Q_mo_typeOrPlural__3 (S : sS) (n : Nat) (rn : Int) : pst := fun r S1 => S = S1 ∧ (∃ z : Int, r = some (iv z) ∧ (-1 ≤ z ∧ z ≤ 7) ∧ (z = r2R S rn 2 3) ∧ (z ≠ -1 → z < Xi S 904 18))
set_option maxRecDepth 100000 in
theorem t_mo_typeOrPlural__3 {S : sS} (hH : HI S) (n : Nat) (rn : Int) (hrn : 0 ≤ rn ∧ rn ≤ 2599) (hT : TK S n) (hv : RNV S n) (hrr : rn < Xi S 904 69) (hM : LXM S) (d : Nat) : Mt lay0 (d + 5) m_mo_typeOrPlural [.ref 904, iv rn] S (Q_mo_typeOrPlural__3 S n rn) := by sorry
def md_mo_doPlural : List rec := [(904, 905, 15, 16), (912, 913, 0, 100000), (913, 914, 0, 100000), (914, 915, 0, 100000), (915, 916, 0, 100000), (916, 917, 0, 100000)]
abbrev Q_mo_doPlural (S : sS) (n : Nat) : pst := fun r S1 => HI S1 ∧ FR md_mo_doPlural S S1 ∧ (r = none ∧ (LXM S1) ∧ (LCN S1))
set_option maxRecDepth 100000 in
theorem t_mo_doPlural {S : sS} (hH : HI S) (n : Nat) (hT : TK S n) (hv : RNV S n) (hM : LXM S) (hLC : LCN S) (h2 : 2 ≤ Xi S 904 69) (hs : Xi S 951 1 ≤ 3) (hk : r2R S 0 0 1 ≠ -1 ∨ r2R S 0 2 3 ≠ -1) (d : Nat) : Mt lay0 (d + 6) m_mo_doPlural [.ref 904] S (Q_mo_doPlural S n) := by sorry
def md_mo_doCommand : List rec := [(904, 905, 55, 56), (946, 947, 0, 100000), (947, 948, 0, 100000), (948, 949, 0, 100000), (949, 950, 0, 100000)]
abbrev Q_mo_doCommand (S : sS) (n : Nat) : pst := fun r S1 => HI S1 ∧ FR md_mo_doCommand S S1 ∧ (r = none)
set_option maxRecDepth 100000 in
theorem t_mo_doCommand {S : sS} (hH : HI S) (n : Nat) (hT : TK S n) (hv : RNV S n) (hM : LXM S) (h : Xi S 904 55 ≤ 19) (h1 : 1 ≤ Xi S 904 69) (ha : rnR S 0 11 ≠ -1) (d : Nat) : Mt lay0 (d + 5) m_mo_doCommand [.ref 904] S (Q_mo_doCommand S n) := by sorry
def md_mo_doHas : List rec := [(904, 905, 15, 16), (904, 905, 32, 33), (904, 905, 105, 106), (904, 905, 106, 107), (912, 913, 0, 100000), (913, 914, 0, 100000), (914, 915, 0, 100000), (915, 916, 0, 100000), (916, 917, 0, 100000), (928, 929, 0, 100000), (929, 930, 0, 100000)]
abbrev Q_mo_doHas (S : sS) (n : Nat) : pst := fun r S1 => HI S1 ∧ FR md_mo_doHas S S1 ∧ (r = none ∧ (TXM S1) ∧ (LXM S1) ∧ (LCN S1) ∧ (GR S1 S))
set_option maxRecDepth 100000 in
theorem t_mo_doHas {S : sS} (hH : HI S) (n : Nat) (hT : TK S n) (hv : RNV S n) (hM : LXM S) (hX : TXM S) (hLC : LCN S) (h3 : 3 ≤ Xi S 904 69) (hk : rnR S 0 0 ≠ -1) (ht : r2R S 1 2 3 ≠ -1) (hp : rnR S 2 7 = -1 → Xi S 904 32 ≤ 11 ∧ Xi S 951 2 ≤ 3) (d : Nat) : Mt lay0 (d + 6) m_mo_doHas [.ref 904] S (Q_mo_doHas S n) := by sorry
abbrev Q_mo_direction (S : sS) (d0 : Int) : pst := fun r S1 => S = S1 ∧ (∃ (z : Nat) (x : String × Nat × String × List Int32), r = some (.ref (SB + z)) ∧ strT[z]? = some x)
set_option maxRecDepth 100000 in
theorem t_mo_direction {S : sS} (hH : HI S) (d0 : Int) (hd0 : 0 ≤ d0 ∧ d0 ≤ 5) (d : Nat) : Mt lay0 (d + 1) m_mo_direction [iv d0] S (Q_mo_direction S d0) := by sorry
def md_mo_tellWord : List rec := [(904, 905, 15, 16), (912, 913, 0, 100000), (913, 914, 0, 100000), (914, 915, 0, 100000), (915, 916, 0, 100000), (916, 917, 0, 100000)]
abbrev Q_mo_tellWord (S : sS) (so : Int) (ix : Int) (i : Nat) (xi : String × Nat × String × List Int32) : pst := fun r S1 => HI S1 ∧ FR md_mo_tellWord S S1 ∧ (r = none ∧ (Xi S1 904 15 = Xi S 904 15 + 1) ∧ (Xi S1 914 (Xi S 904 15).toNat = so ∧ Xi S1 915 (Xi S 904 15).toNat = ix) ∧ (LXK S1 S (Xi S 904 15)))
set_option maxRecDepth 100000 in
theorem t_mo_tellWord {S : sS} (hH : HI S) (so : Int) (ix : Int) (i : Nat) (xi : String × Nat × String × List Int32) (hso : 0 ≤ so ∧ so ≤ 12) (hix : 0 ≤ ix ∧ ix ≤ 63) (hi : strT[i]? = some xi) (hle : Xi S 904 15 ≤ 299) (d : Nat) : Mt lay0 (d + 5) m_mo_tellWord [.ref 904, iv so, iv ix, .ref (SB + i)] S (Q_mo_tellWord S so ix i xi) := by sorry
def md_mo_firstCommand : List rec := [(904, 905, 55, 56), (946, 947, 0, 100000), (947, 948, 0, 100000), (948, 949, 0, 100000), (949, 950, 0, 100000)]
abbrev Q_mo_firstCommand (S : sS) (action : Int) (i : Nat) (xi : String × Nat × String × List Int32) (kind : Int) : pst := fun r S1 => HI S1 ∧ FR md_mo_firstCommand S S1 ∧ (r = none ∧ (Xi S1 904 55 = Xi S 904 55 + 1))
set_option maxRecDepth 100000 in
theorem t_mo_firstCommand {S : sS} (hH : HI S) (action : Int) (i : Nat) (xi : String × Nat × String × List Int32) (kind : Int) (haction : 0 ≤ action ∧ action ≤ 11) (hi : strT[i]? = some xi) (hkind : -2 ≤ kind ∧ kind ≤ 15) (h : Xi S 904 55 ≤ 19) (d : Nat) : Mt lay0 (d + 5) m_mo_firstCommand [.ref 904, iv action, .ref (SB + i), iv kind] S (Q_mo_firstCommand S action i xi kind) := by sorry
end
section
/-! SAFETY of methods: printed by wip/safe (vc.py, decl.py) -/
def md_mo_doDescribed : List rec := [(904, 905, 15, 16), (904, 905, 19, 20), (904, 905, 60, 61), (904, 905, 105, 106), (904, 905, 106, 107), (912, 913, 0, 100000), (913, 914, 0, 100000), (914, 915, 0, 100000), (915, 916, 0, 100000), (916, 917, 0, 100000), (918, 919, 0, 100000), (919, 920, 0, 100000), (920, 921, 0, 100000), (925, 926, 0, 100000), (926, 927, 0, 100000), (930, 931, 0, 100000), (931, 932, 0, 100000), (932, 933, 0, 100000)]
abbrev Q_mo_doDescribed (S : sS) (n : Nat) : pst := fun r S1 => HI S1 ∧ FR md_mo_doDescribed S S1 ∧ (r = none ∧ (TXM S1) ∧ (WYM S1) ∧ (LXM S1) ∧ (LCN S1) ∧ (GR S1 S) ∧ (Xi S1 904 60 < Xi S1 904 19))
set_option maxRecDepth 100000 in
set_option maxHeartbeats 4000000 in
theorem c2_mo_doDescribed {S : sS} (hH : HI S) (n : Nat) (hT : TK S n) (hv : RNV S n) (hM : LXM S) (hX : TXM S) (hW : WYM S) (hLC : LCN S) (hB : ABV S) (hl : Xi S 904 71 + Xi S 904 72 ≤ Xi S 904 69) (hO : ONA S) (hd : Xi S 904 60 < Xi S 904 19) (h1 : 1 ≤ Xi S 904 16) (hr : Xi S 904 70 ≠ 13 → Xi S 904 110 < Xi S 904 16 ∧ ∀ i : Nat, (i : Int) < Xi S 904 112 → ADM S (Xi S 967 i)) (hp : 0 < Xi S 904 73 → Xi S 904 74 < Xi S 904 69 ∧ rnR S (Xi S 904 74) 4 ≠ -1) (d : Nat) : ∀ (n2 : Nat) (T1 : sS) (_ : HI T1) (_ : FR md_mo_doDescribed S T1) (v1 : Int), (0 ≤ v1 ∧ v1 ≤ 2600) → (v1 ≤ Xi S 904 72) → (Xi T1 904 69 = Xi S 904 69) → (Xi T1 904 70 = Xi S 904 70) → (Xi T1 904 71 = Xi S 904 71) → (Xi T1 904 72 = Xi S 904 72) → (Xi T1 904 73 = Xi S 904 73) → (Xi T1 904 74 = Xi S 904 74) → (Xi T1 904 110 = Xi S 904 110) → (Xi T1 904 112 = Xi S 904 112) → (Xi T1 904 16 = Xi S 904 16) → (Xi T1 904 23 = Xi S 904 23) → (Xi T1 904 32 = Xi S 904 32) → (TXM T1) → (WYM T1) → (LXM T1) → (LCN T1) → (GR T1 S) → (LXK T1 S (Xi S 904 15)) → (Xi S 904 15 ≤ Xi T1 904 15) → (Xi T1 904 60 < Xi T1 904 19) → (Xi T1 904 19 ≤ Xi S 904 19 + cnR S (Xi S 904 71) 4 (v1).toNat) → n2 = (2601 - v1).toNat → Rl lay0 (d + 5) m_mo_doDescribed 2 [(0, .ref 904), (1, iv v1)] [] T1 (Q_mo_doDescribed S n) := by sorry
set_option maxRecDepth 100000 in
set_option maxHeartbeats 4000000 in
theorem t_mo_doDescribed {S : sS} (hH : HI S) (n : Nat) (hT : TK S n) (hv : RNV S n) (hM : LXM S) (hX : TXM S) (hW : WYM S) (hLC : LCN S) (hB : ABV S) (hl : Xi S 904 71 + Xi S 904 72 ≤ Xi S 904 69) (hO : ONA S) (hd : Xi S 904 60 < Xi S 904 19) (h1 : 1 ≤ Xi S 904 16) (hr : Xi S 904 70 ≠ 13 → Xi S 904 110 < Xi S 904 16 ∧ ∀ i : Nat, (i : Int) < Xi S 904 112 → ADM S (Xi S 967 i)) (hp : 0 < Xi S 904 73 → Xi S 904 74 < Xi S 904 69 ∧ rnR S (Xi S 904 74) 4 ≠ -1) (d : Nat) : Mt lay0 (d + 6) m_mo_doDescribed [.ref 904] S (Q_mo_doDescribed S n) := by sorry
end
section
/-! SAFETY of methods: printed by wip/safe (vc.py, decl.py) -/
/-- where the sentence was odd -/
def BDA (S : sS) : Prop := Xi S 904 66 ≤ 5001
theorem BDA_FR {l : List rec} {S T : sS} (h : FR l S T) (e : mD l [66] = true) (hP : BDA S) : BDA T := by sorry
def md_mo_odd__2 : List rec := [(904, 905, 65, 66), (904, 905, 66, 67)]
abbrev Q_mo_odd__2 (S : sS) : pst := fun r S1 => HI S1 ∧ FR md_mo_odd__2 S S1 ∧ (r = none ∧ (Xi S1 904 65 = 1) ∧ (Xi S1 904 8 = Xi S 904 8) ∧ (BDA S1))
set_option maxRecDepth 100000 in
theorem t_mo_odd__2 {S : sS} (hH : HI S) (hBDA : BDA S) (ho : Xi S 904 65 = 0 → Xi S 904 8 ≤ 5001) (d : Nat) : Mt lay0 (d + 1) m_mo_odd [.ref 904] S (Q_mo_odd__2 S) := by sorry
def md_mo_take__3 : List rec := [(904, 905, 8, 9), (904, 905, 65, 66), (904, 905, 66, 67)]
abbrev Q_mo_take__3 (S : sS) (n : Nat) (c : Nat) (k : Int) : pst := fun r S1 => HI S1 ∧ FR md_mo_take__3 S S1 ∧ (r = none ∧ (AT S1 n c) ∧ (Xi S 904 8 ≤ Xi S1 904 8 ∧ (Xi S1 904 8 ≤ n ∨ Xi S1 904 8 = Xi S 904 8)) ∧ (Xi S1 904 65 = 0 → Xi S 904 65 = 0) ∧ (Xi S1 904 65 = 0 → Xi S1 904 8 = Xi S 904 8 + 1 ∧ Xi S 907 (Xi S 904 8).toNat = k) ∧ (BDA S1))
set_option maxRecDepth 100000 in
theorem t_mo_take__3 {S : sS} (hH : HI S) (n : Nat) (c : Nat) (k : Int) (hk : 2 ≤ k ∧ k ≤ 154) (hT : TK S n) (hA : AT S n c) (hk : k ≠ 3 ∧ k ≠ 1) (hBDA : BDA S) (d : Nat) : Mt lay0 (d + 2) m_mo_take [.ref 904, iv k] S (Q_mo_take__3 S n c k) := by sorry
def md_mo_art__3 : List rec := [(904, 905, 8, 9), (904, 905, 65, 66), (904, 905, 66, 67)]
abbrev Q_mo_art__3 (S : sS) (n : Nat) (c : Nat) : pst := fun r S1 => HI S1 ∧ FR md_mo_art__3 S S1 ∧ (r = none ∧ (AT S1 n c) ∧ (Xi S 904 8 ≤ Xi S1 904 8 ∧ (Xi S1 904 8 ≤ n ∨ Xi S1 904 8 = Xi S 904 8)) ∧ (Xi S1 904 65 = 0 → Xi S 904 65 = 0) ∧ (BDA S1))
set_option maxRecDepth 100000 in
theorem t_mo_art__3 {S : sS} (hH : HI S) (n : Nat) (c : Nat) (hT : TK S n) (hA : AT S n c) (hBDA : BDA S) (d : Nat) : Mt lay0 (d + 2) m_mo_art [.ref 904] S (Q_mo_art__3 S n c) := by sorry
def md_mo_run__2 : List rec := [(904, 905, 8, 9), (904, 905, 65, 66), (904, 905, 66, 67), (904, 905, 69, 70), (950, 951, 0, 100000), (951, 952, 0, 100000)]
abbrev Q_mo_run__2 (S : sS) (n : Nat) (c : Nat) : pst := fun r S1 => HI S1 ∧ FR md_mo_run__2 S S1 ∧ (∃ z : Int, r = some (iv z) ∧ (0 ≤ z ∧ z ≤ 2599) ∧ (AT S1 n c) ∧ (Xi S 904 8 ≤ Xi S1 904 8 ∧ (Xi S1 904 8 ≤ n ∨ Xi S1 904 8 = Xi S 904 8)) ∧ (RNV S1 n) ∧ (Xi S1 904 65 = 0 → z = Xi S 904 69 ∧ Xi S1 904 69 = Xi S 904 69 + 1 ∧ Xi S 904 65 = 0) ∧ (Xi S 904 69 ≤ Xi S1 904 69) ∧ (BDA S1))
set_option maxRecDepth 100000 in
theorem t_mo_run__2 {S : sS} (hH : HI S) (n : Nat) (c : Nat) (hT : TK S n) (hA : AT S n c) (hv : RNV S n) (hBDA : BDA S) (d : Nat) : Mt lay0 (d + 2) m_mo_run [.ref 904] S (Q_mo_run__2 S n c) := by sorry
def md_mo_name__2 : List rec := [(904, 905, 8, 9), (904, 905, 65, 66), (904, 905, 66, 67), (904, 905, 69, 70), (950, 951, 0, 100000), (951, 952, 0, 100000)]
abbrev Q_mo_name__2 (S : sS) (n : Nat) (c : Nat) : pst := fun r S1 => HI S1 ∧ FR md_mo_name__2 S S1 ∧ (∃ z : Int, r = some (iv z) ∧ (0 ≤ z ∧ z ≤ 2599) ∧ (AT S1 n c) ∧ (Xi S 904 8 ≤ Xi S1 904 8 ∧ (Xi S1 904 8 ≤ n ∨ Xi S1 904 8 = Xi S 904 8)) ∧ (RNV S1 n) ∧ (Xi S1 904 65 = 0 → z = Xi S 904 69 ∧ Xi S1 904 69 = Xi S 904 69 + 1 ∧ Xi S 904 65 = 0) ∧ (Xi S 904 69 ≤ Xi S1 904 69) ∧ (BDA S1))
set_option maxRecDepth 100000 in
theorem t_mo_name__2 {S : sS} (hH : HI S) (n : Nat) (c : Nat) (hT : TK S n) (hA : AT S n c) (hv : RNV S n) (hBDA : BDA S) (d : Nat) : Mt lay0 (d + 3) m_mo_name [.ref 904] S (Q_mo_name__2 S n c) := by sorry
def md_mo_list__3 : List rec := [(904, 905, 8, 9), (904, 905, 65, 66), (904, 905, 66, 67), (904, 905, 69, 70), (904, 905, 71, 72), (904, 905, 72, 73), (950, 951, 0, 100000), (951, 952, 0, 100000)]
abbrev Q_mo_list__3 (S : sS) (n : Nat) (c : Nat) (art : Int) : pst := fun r S1 => HI S1 ∧ FR md_mo_list__3 S S1 ∧ (r = none ∧ (AT S1 n c) ∧ (Xi S 904 8 ≤ Xi S1 904 8 ∧ (Xi S1 904 8 ≤ n ∨ Xi S1 904 8 = Xi S 904 8)) ∧ (RNV S1 n) ∧ (Xi S1 904 71 = Xi S 904 69 ∧ Xi S1 904 72 = Xi S1 904 69 - Xi S 904 69) ∧ (Xi S1 904 65 = 0 → Xi S 904 65 = 0) ∧ (Xi S 904 69 ≤ Xi S1 904 69) ∧ (Xi S1 904 65 = 0 → Xi S 904 69 < Xi S1 904 69) ∧ (BDA S1))
set_option maxRecDepth 100000 in
theorem t_mo_list__3 {S : sS} (hH : HI S) (n : Nat) (c : Nat) (art : Int) (hart : 0 ≤ art ∧ art ≤ 1) (hT : TK S n) (hA : AT S n c) (hv : RNV S n) (hBDA : BDA S) (d : Nat) : Mt lay0 (d + 4) m_mo_list [.ref 904, iv art] S (Q_mo_list__3 S n c art) := by sorry
def md_mo_placing__3 : List rec := [(904, 905, 8, 9), (904, 905, 65, 66), (904, 905, 66, 67)]
abbrev Q_mo_placing__3 (S : sS) (n : Nat) (c : Nat) : pst := fun r S1 => HI S1 ∧ FR md_mo_placing__3 S S1 ∧ (∃ z : Int, r = some (iv z) ∧ (0 ≤ z ∧ z ≤ 5) ∧ (AT S1 n c) ∧ (Xi S 904 8 ≤ Xi S1 904 8 ∧ (Xi S1 904 8 ≤ n ∨ Xi S1 904 8 = Xi S 904 8)) ∧ (Xi S1 904 65 = 0 → Xi S 904 65 = 0) ∧ (BDA S1))
set_option maxRecDepth 100000 in
theorem t_mo_placing__3 {S : sS} (hH : HI S) (n : Nat) (c : Nat) (hT : TK S n) (hA : AT S n c) (hBDA : BDA S) (d : Nat) : Mt lay0 (d + 3) m_mo_placing [.ref 904] S (Q_mo_placing__3 S n c) := by sorry
def md_mo_oneOrVarious__3 : List rec := [(904, 905, 8, 9), (904, 905, 65, 66), (904, 905, 66, 67)]
abbrev Q_mo_oneOrVarious__3 (S : sS) (n : Nat) (c : Nat) : pst := fun r S1 => HI S1 ∧ FR md_mo_oneOrVarious__3 S S1 ∧ (∃ z : Int, r = some (iv z) ∧ (0 ≤ z ∧ z ≤ 1) ∧ (AT S1 n c) ∧ (Xi S1 904 8 = Xi S 904 8 + 1) ∧ (Xi S1 904 65 = 0 → Xi S 904 65 = 0) ∧ (BDA S1))
set_option maxRecDepth 100000 in
theorem t_mo_oneOrVarious__3 {S : sS} (hH : HI S) (n : Nat) (c : Nat) (hT : TK S n) (hA : AT S n c) (h5 : Xi S 904 8 ≤ 5005) (hBDA : BDA S) (d : Nat) : Mt lay0 (d + 2) m_mo_oneOrVarious [.ref 904] S (Q_mo_oneOrVarious__3 S n c) := by sorry
def md_mo_be__3 : List rec := [(904, 905, 8, 9), (904, 905, 65, 66), (904, 905, 66, 67), (904, 905, 77, 78)]
abbrev Q_mo_be__3 (S : sS) (n : Nat) (c : Nat) : pst := fun r S1 => HI S1 ∧ FR md_mo_be__3 S S1 ∧ (r = none ∧ (AT S1 n c) ∧ (Xi S 904 8 ≤ Xi S1 904 8 ∧ (Xi S1 904 8 ≤ n ∨ Xi S1 904 8 = Xi S 904 8)) ∧ (Xi S1 904 65 = 0 → Xi S 904 65 = 0) ∧ (BDA S1))
set_option maxRecDepth 100000 in
theorem t_mo_be__3 {S : sS} (hH : HI S) (n : Nat) (c : Nat) (hT : TK S n) (hA : AT S n c) (hBDA : BDA S) (d : Nat) : Mt lay0 (d + 2) m_mo_be [.ref 904] S (Q_mo_be__3 S n c) := by sorry
def md_mo_what__3 : List rec := [(904, 905, 8, 9), (904, 905, 65, 66), (904, 905, 66, 67), (904, 905, 69, 70), (904, 905, 78, 79), (950, 951, 0, 100000), (951, 952, 0, 100000)]
abbrev Q_mo_what__3 (S : sS) (n : Nat) (c : Nat) : pst := fun r S1 => HI S1 ∧ FR md_mo_what__3 S S1 ∧ (r = none ∧ (AT S1 n c) ∧ (Xi S 904 8 ≤ Xi S1 904 8 ∧ (Xi S1 904 8 ≤ n ∨ Xi S1 904 8 = Xi S 904 8)) ∧ (RNV S1 n) ∧ (Xi S1 904 78 = Xi S 904 8) ∧ (Xi S1 904 65 = 0 → Xi S 904 65 = 0) ∧ (Xi S 904 69 ≤ Xi S1 904 69) ∧ (Xi S1 904 65 = 0 → Xi S 907 (Xi S 904 8).toNat ≠ 4 → Xi S 907 (Xi S 904 8).toNat ≠ 5 → Xi S 904 69 < Xi S1 904 69) ∧ (BDA S1))
set_option maxRecDepth 100000 in
theorem t_mo_what__3 {S : sS} (hH : HI S) (n : Nat) (c : Nat) (hT : TK S n) (hA : AT S n c) (hv : RNV S n) (hBDA : BDA S) (d : Nat) : Mt lay0 (d + 3) m_mo_what [.ref 904] S (Q_mo_what__3 S n c) := by sorry
def md_mo_thing__2 : List rec := [(904, 905, 8, 9), (904, 905, 65, 66), (904, 905, 66, 67), (904, 905, 69, 70), (904, 905, 99, 100), (904, 905, 100, 101), (904, 905, 101, 102), (950, 951, 0, 100000), (951, 952, 0, 100000)]
abbrev Q_mo_thing__2 (S : sS) (n : Nat) (c : Nat) : pst := fun r S1 => HI S1 ∧ FR md_mo_thing__2 S S1 ∧ (r = none ∧ (AT S1 n c) ∧ (Xi S 904 8 ≤ Xi S1 904 8 ∧ (Xi S1 904 8 ≤ n ∨ Xi S1 904 8 = Xi S 904 8)) ∧ (RNV S1 n) ∧ (Xi S1 904 65 = 0 → Xi S 904 65 = 0) ∧ (Xi S 904 69 ≤ Xi S1 904 69) ∧ (Xi S1 904 65 = 0 → Xi S1 904 101 ≤ n ∧ (Xi S1 904 100 = 2 → Xi S1 904 99 < Xi S1 904 69)) ∧ (BDA S1))
set_option maxRecDepth 100000 in
theorem t_mo_thing__2 {S : sS} (hH : HI S) (n : Nat) (c : Nat) (hT : TK S n) (hA : AT S n c) (hv : RNV S n) (hBDA : BDA S) (d : Nat) : Mt lay0 (d + 4) m_mo_thing [.ref 904] S (Q_mo_thing__2 S n c) := by sorry
def md_mo_property__2 : List rec := [(904, 905, 8, 9), (904, 905, 65, 66), (904, 905, 66, 67), (904, 905, 69, 70), (950, 951, 0, 100000), (951, 952, 0, 100000), (956, 957, 0, 100000)]
abbrev Q_mo_property__2 (S : sS) (n : Nat) (c : Nat) : pst := fun r S1 => HI S1 ∧ FR md_mo_property__2 S S1 ∧ (r = none ∧ (AT S1 n c) ∧ (Xi S 904 8 ≤ Xi S1 904 8 ∧ (Xi S1 904 8 ≤ n ∨ Xi S1 904 8 = Xi S 904 8)) ∧ (RNV S1 n) ∧ (Xi S1 904 65 = 0 → Xi S 904 65 = 0) ∧ (Xi S 904 69 ≤ Xi S1 904 69) ∧ (KT S1 S (Xi S 904 93)) ∧ (Xi S1 904 65 = 0 → Xi S1 956 (Xi S 904 93).toNat < Xi S1 904 69) ∧ (BDA S1))
set_option maxRecDepth 100000 in
theorem t_mo_property__2 {S : sS} (hH : HI S) (n : Nat) (c : Nat) (hT : TK S n) (hA : AT S n c) (hv : RNV S n) (tc : Xi S 904 93 ≤ 1699) (hBDA : BDA S) (d : Nat) : Mt lay0 (d + 3) m_mo_property [.ref 904] S (Q_mo_property__2 S n c) := by sorry
def md_mo_thingOfTest__2 : List rec := [(904, 905, 8, 9), (904, 905, 65, 66), (904, 905, 66, 67), (904, 905, 69, 70), (904, 905, 99, 100), (904, 905, 100, 101), (904, 905, 101, 102), (950, 951, 0, 100000), (951, 952, 0, 100000), (954, 955, 0, 100000), (955, 956, 0, 100000)]
abbrev Q_mo_thingOfTest__2 (S : sS) (n : Nat) (c : Nat) : pst := fun r S1 => HI S1 ∧ FR md_mo_thingOfTest__2 S S1 ∧ (r = none ∧ (AT S1 n c) ∧ (Xi S 904 8 ≤ Xi S1 904 8 ∧ (Xi S1 904 8 ≤ n ∨ Xi S1 904 8 = Xi S 904 8)) ∧ (RNV S1 n) ∧ (Xi S1 904 65 = 0 → Xi S 904 65 = 0) ∧ (Xi S 904 69 ≤ Xi S1 904 69) ∧ (KT S1 S (Xi S 904 93)) ∧ (Xi S1 904 65 = 0 → THV (Xi S1 904 69) n (Xi S1 954 (Xi S 904 93).toNat) (Xi S1 955 (Xi S 904 93).toNat)) ∧ (BDA S1))
set_option maxRecDepth 100000 in
theorem t_mo_thingOfTest__2 {S : sS} (hH : HI S) (n : Nat) (c : Nat) (hT : TK S n) (hA : AT S n c) (hv : RNV S n) (tc : Xi S 904 93 ≤ 1699) (hBDA : BDA S) (d : Nat) : Mt lay0 (d + 5) m_mo_thingOfTest [.ref 904] S (Q_mo_thingOfTest__2 S n c) := by sorry
def md_mo_partOne__2 : List rec := [(904, 905, 8, 9), (904, 905, 65, 66), (904, 905, 66, 67), (904, 905, 69, 70), (904, 905, 81, 82), (950, 951, 0, 100000), (951, 952, 0, 100000)]
abbrev Q_mo_partOne__2 (S : sS) (n : Nat) (c : Nat) : pst := fun r S1 => HI S1 ∧ FR md_mo_partOne__2 S S1 ∧ (r = none ∧ (AT S1 n c) ∧ (Xi S 904 8 ≤ Xi S1 904 8 ∧ Xi S1 904 8 ≤ n) ∧ (RNV S1 n) ∧ (Xi S 904 69 ≤ Xi S1 904 69) ∧ (Xi S1 904 65 = 0 → Xi S1 904 81 ≤ n ∧ Xi S 907 (Xi S1 904 81).toNat = 5 ∧ 1 ≤ Xi S1 904 69) ∧ (BDA S1))
set_option maxRecDepth 100000 in
theorem t_mo_partOne__2 {S : sS} (hH : HI S) (n : Nat) (c : Nat) (hT : TK S n) (hA : AT S n c) (hv : RNV S n) (hb : Xi S 904 65 = 0) (hk : Xi S 907 (Xi S 904 8).toNat ≠ 1) (hBDA : BDA S) (d : Nat) : Mt lay0 (d + 3) m_mo_partOne [.ref 904] S (Q_mo_partOne__2 S n c) := by sorry
end
section
/-! SAFETY of methods: printed by wip/safe (vc.py, decl.py) -/
def md_mo_testedWhat__2 : List rec := [(904, 905, 8, 9), (904, 905, 65, 66), (904, 905, 66, 67), (904, 905, 69, 70), (904, 905, 78, 79), (950, 951, 0, 100000), (951, 952, 0, 100000), (952, 953, 0, 100000), (953, 954, 0, 100000), (957, 958, 0, 100000), (960, 961, 0, 100000)]
abbrev Q_mo_testedWhat__2 (S : sS) (n : Nat) (c : Nat) (isNow : Int) : pst := fun r S1 => HI S1 ∧ FR md_mo_testedWhat__2 S S1 ∧ (r = none ∧ (AT S1 n c) ∧ (Xi S 904 8 ≤ Xi S1 904 8 ∧ (Xi S1 904 8 ≤ n ∨ Xi S1 904 8 = Xi S 904 8)) ∧ (RNV S1 n) ∧ (Xi S1 904 65 = 0 → Xi S 904 65 = 0) ∧ (Xi S 904 69 ≤ Xi S1 904 69) ∧ (KT S1 S (Xi S 904 93)) ∧ (Xi S1 904 65 = 0 → Xi S1 952 (Xi S 904 93).toNat ≤ 2 ∧ Xi S1 957 (Xi S 904 93).toNat ≤ n ∧ (Xi S1 952 (Xi S 904 93).toNat = 0 → Xi S 907 (Xi S1 957 (Xi S 904 93).toNat).toNat ≠ 4 → Xi S 907 (Xi S1 957 (Xi S 904 93).toNat).toNat ≠ 5 → 0 ≤ Xi S1 960 (Xi S 904 93).toNat ∧ Xi S1 960 (Xi S 904 93).toNat < Xi S1 904 69)) ∧ (Xi S1 904 65 = 0 → isNow = 1 → Xi S1 952 (Xi S 904 93).toNat = 0) ∧ (BDA S1))
set_option maxRecDepth 100000 in
set_option maxHeartbeats 4000000 in
theorem c147_mo_testedWhat__2 {S : sS} (hH : HI S) (n : Nat) (c : Nat) (isNow : Int) (hisNow : 0 ≤ isNow ∧ isNow ≤ 1) (hT : TK S n) (hA : AT S n c) (hv : RNV S n) (tc : Xi S 904 93 ≤ 1699) (hBDA : BDA S) (d : Nat) : ∀  (T1 : sS) (_ : HI T1) (_ : FR md_mo_testedWhat__2 S T1), (AT T1 n c) → (RNV T1 n) → (Xi T1 904 65 = Xi S 904 65) → (Xi T1 904 69 = Xi S 904 69) → (Xi T1 904 93 = Xi S 904 93) → (Xi S 904 8 ≤ Xi T1 904 8 ∧ (Xi T1 904 8 ≤ n ∨ Xi T1 904 8 = Xi S 904 8)) → (Xi T1 952 (Xi S 904 93).toNat = 0) → (KT T1 S (Xi S 904 93)) → (BDA T1) → Rl lay0 (d + 3) m_mo_testedWhat 147 [(0, .ref 904)] [] T1 (Q_mo_testedWhat__2 S n c isNow) := by sorry
set_option maxRecDepth 100000 in
set_option maxHeartbeats 4000000 in
theorem t_mo_testedWhat__2 {S : sS} (hH : HI S) (n : Nat) (c : Nat) (isNow : Int) (hisNow : 0 ≤ isNow ∧ isNow ≤ 1) (hT : TK S n) (hA : AT S n c) (hv : RNV S n) (tc : Xi S 904 93 ≤ 1699) (hBDA : BDA S) (d : Nat) : Mt lay0 (d + 4) m_mo_testedWhat [.ref 904, iv isNow] S (Q_mo_testedWhat__2 S n c isNow) := by sorry
end
section
/-! SAFETY of methods: printed by wip/safe (vc.py, decl.py) -/
def md_mo_test__2 : List rec := [(904, 905, 8, 9), (904, 905, 65, 66), (904, 905, 66, 67), (904, 905, 69, 70), (904, 905, 78, 79), (904, 905, 93, 94), (904, 905, 99, 100), (904, 905, 100, 101), (904, 905, 101, 102), (950, 951, 0, 100000), (951, 952, 0, 100000), (952, 953, 0, 100000), (953, 954, 0, 100000), (954, 955, 0, 100000), (955, 956, 0, 100000), (956, 957, 0, 100000), (957, 958, 0, 100000), (958, 959, 0, 100000), (959, 960, 0, 100000), (960, 961, 0, 100000), (961, 962, 0, 100000), (962, 963, 0, 100000)]
abbrev Q_mo_test__2 (S : sS) (n : Nat) (c : Nat) (isNow : Int) : pst := fun r S1 => HI S1 ∧ FR md_mo_test__2 S S1 ∧ (r = none ∧ (AT S1 n (c - 1)) ∧ (Xi S 904 8 ≤ Xi S1 904 8 ∧ (Xi S1 904 8 ≤ n ∨ Xi S1 904 8 = Xi S 904 8)) ∧ (RNV S1 n) ∧ (Xi S1 904 65 = 0 → Xi S 904 65 = 0) ∧ (Xi S 904 69 ≤ Xi S1 904 69) ∧ (KT S1 S (Xi S 904 93)) ∧ (Xi S1 904 93 = Xi S 904 93 + 1) ∧ (Xi S1 904 65 = 0 → TV S1 n (Xi S 904 93).toNat) ∧ (Xi S1 904 65 = 0 → isNow = 1 → Xi S1 952 (Xi S 904 93).toNat = 0 ∨ Xi S1 952 (Xi S 904 93).toNat = 3 ∨ Xi S1 952 (Xi S 904 93).toNat = 5) ∧ (BDA S1))
set_option maxRecDepth 100000 in
set_option maxHeartbeats 8000000 in
theorem c351_mo_test__2 {S : sS} (hH : HI S) (n : Nat) (c : Nat) (isNow : Int) (hisNow : 0 ≤ isNow ∧ isNow ≤ 1) (hT : TK S n) (hA : AT S n c) (hv : RNV S n) (tc : Xi S 904 93 ≤ 1699) (hx : Xi S 904 8 ≤ n) (hc : 1 ≤ c) (hBDA : BDA S) (d : Nat) : ∀  (T1 : sS) (_ : HI T1) (_ : FR md_mo_test__2 S T1), (AT T1 n c) → (RNV T1 n) → (Xi S 904 8 ≤ Xi T1 904 8) → (Xi T1 904 8 ≤ n) → (Xi T1 904 93 = Xi S 904 93) → (Xi S 904 69 ≤ Xi T1 904 69) → (Xi T1 904 65 = 0 → Xi S 904 65 = 0) → (Xi T1 961 (Xi S 904 93).toNat = Xi S 904 8) → (KT T1 S (Xi S 904 93)) → (Xi T1 904 65 = 0 → TVx T1 n (Xi S 904 93).toNat) → (Xi T1 904 65 = 0 → isNow = 1 → Xi T1 952 (Xi S 904 93).toNat = 0 ∨ Xi T1 952 (Xi S 904 93).toNat = 3 ∨ Xi T1 952 (Xi S 904 93).toNat = 5) → (BDA T1) → Rl lay0 (d + 5) m_mo_test 351 [(0, .ref 904), (1, iv isNow)] [] T1 (Q_mo_test__2 S n c isNow) := by sorry
set_option maxRecDepth 100000 in
set_option maxHeartbeats 8000000 in
theorem c96_mo_test__2 {S : sS} (hH : HI S) (n : Nat) (c : Nat) (isNow : Int) (hisNow : 0 ≤ isNow ∧ isNow ≤ 1) (hT : TK S n) (hA : AT S n c) (hv : RNV S n) (tc : Xi S 904 93 ≤ 1699) (hx : Xi S 904 8 ≤ n) (hc : 1 ≤ c) (hBDA : BDA S) (d : Nat) : ∀ (n96 : Nat) (T7 : sS) (_ : HI T7) (_ : FR md_mo_test__2 S T7) (v2 : Int) (v4 : Int), (0 ≤ v2 ∧ v2 ≤ 5010) → (0 ≤ v4 ∧ v4 ≤ 154) → (v2 = Xi S 904 8) → (AT T7 n c) → (RNV T7 n) → (v4 ≠ 1 → Xi T7 904 65 = 0 ∧ Xi T7 907 (Xi T7 904 8).toNat = v4) → (Xi T7 904 65 = Xi S 904 65) → (Xi T7 904 69 = Xi S 904 69) → (Xi T7 904 93 = Xi S 904 93) → (Xi S 904 8 ≤ Xi T7 904 8 ∧ Xi T7 904 8 ≤ n) → (Xi T7 952 (Xi S 904 93).toNat = 5) → (Xi T7 961 (Xi S 904 93).toNat = Xi S 904 8) → (KT T7 S (Xi S 904 93)) → (BDA T7) → n96 = (5002 - Xi T7 904 8).toNat → Rl lay0 (d + 5) m_mo_test 96 [(0, .ref 904), (1, iv isNow), (2, iv v2), (4, iv v4)] [] T7 (Q_mo_test__2 S n c isNow) := by sorry
set_option maxRecDepth 100000 in
set_option maxHeartbeats 8000000 in
theorem c185_mo_test__2 {S : sS} (hH : HI S) (n : Nat) (c : Nat) (isNow : Int) (hisNow : 0 ≤ isNow ∧ isNow ≤ 1) (hT : TK S n) (hA : AT S n c) (hv : RNV S n) (tc : Xi S 904 93 ≤ 1699) (hx : Xi S 904 8 ≤ n) (hc : 1 ≤ c) (hBDA : BDA S) (d : Nat) : ∀  (T13 : sS) (_ : HI T13) (_ : FR md_mo_test__2 S T13), (AT T13 n c) → (RNV T13 n) → (Xi S 904 8 ≤ Xi T13 904 8 ∧ Xi T13 904 8 ≤ n) → (Xi S 904 69 ≤ Xi T13 904 69) → (Xi T13 904 65 = 0 → Xi S 904 65 = 0) → (Xi T13 904 93 = Xi S 904 93) → (Xi T13 961 (Xi S 904 93).toNat = Xi S 904 8) → (KT T13 S (Xi S 904 93)) → (Xi T13 904 65 = 0 → Xi T13 956 (Xi S 904 93).toNat < Xi T13 904 69) → (Xi T13 904 65 = 0 → THV (Xi T13 904 69) n (Xi T13 954 (Xi S 904 93).toNat) (Xi T13 955 (Xi S 904 93).toNat)) → (BDA T13) → Rl lay0 (d + 5) m_mo_test 185 [(0, .ref 904), (1, iv isNow)] [] T13 (Q_mo_test__2 S n c isNow) := by sorry
set_option maxRecDepth 100000 in
set_option maxHeartbeats 8000000 in
theorem c312_mo_test__2 {S : sS} (hH : HI S) (n : Nat) (c : Nat) (isNow : Int) (hisNow : 0 ≤ isNow ∧ isNow ≤ 1) (hT : TK S n) (hA : AT S n c) (hv : RNV S n) (tc : Xi S 904 93 ≤ 1699) (hx : Xi S 904 8 ≤ n) (hc : 1 ≤ c) (hBDA : BDA S) (d : Nat) : ∀  (T15 : sS) (_ : HI T15) (_ : FR md_mo_test__2 S T15), (AT T15 n c) → (RNV T15 n) → (Xi S 904 8 ≤ Xi T15 904 8 ∧ Xi T15 904 8 ≤ n) → (Xi S 904 69 ≤ Xi T15 904 69) → (Xi T15 904 65 = 0 → Xi S 904 65 = 0) → (Xi T15 904 93 = Xi S 904 93) → (Xi T15 961 (Xi S 904 93).toNat = Xi S 904 8) → (KT T15 S (Xi S 904 93)) → (Xi T15 904 65 = 0 → THV (Xi T15 904 69) n (Xi T15 954 (Xi S 904 93).toNat) (Xi T15 955 (Xi S 904 93).toNat)) → (Xi T15 952 (Xi S 904 93).toNat = 4) → (isNow = 0) → (BDA T15) → Rl lay0 (d + 5) m_mo_test 312 [(0, .ref 904), (1, iv isNow)] [] T15 (Q_mo_test__2 S n c isNow) := by sorry
set_option maxRecDepth 100000 in
set_option maxHeartbeats 8000000 in
theorem c244_mo_test__2 {S : sS} (hH : HI S) (n : Nat) (c : Nat) (isNow : Int) (hisNow : 0 ≤ isNow ∧ isNow ≤ 1) (hT : TK S n) (hA : AT S n c) (hv : RNV S n) (tc : Xi S 904 93 ≤ 1699) (hx : Xi S 904 8 ≤ n) (hc : 1 ≤ c) (hBDA : BDA S) (d : Nat) : ∀  (T19 : sS) (_ : HI T19) (_ : FR md_mo_test__2 S T19), (AT T19 n c) → (RNV T19 n) → (Xi S 904 8 ≤ Xi T19 904 8 ∧ Xi T19 904 8 ≤ n) → (Xi S 904 69 ≤ Xi T19 904 69) → (Xi T19 904 65 = 0 → Xi S 904 65 = 0) → (Xi T19 904 93 = Xi S 904 93) → (Xi T19 961 (Xi S 904 93).toNat = Xi S 904 8) → (KT T19 S (Xi S 904 93)) → (Xi T19 904 65 = 0 → THV (Xi T19 904 69) n (Xi T19 954 (Xi S 904 93).toNat) (Xi T19 955 (Xi S 904 93).toNat)) → (BDA T19) → Rl lay0 (d + 5) m_mo_test 244 [(0, .ref 904), (1, iv isNow)] [] T19 (Q_mo_test__2 S n c isNow) := by sorry
set_option maxRecDepth 100000 in
set_option maxHeartbeats 8000000 in
theorem c203_mo_test__2 {S : sS} (hH : HI S) (n : Nat) (c : Nat) (isNow : Int) (hisNow : 0 ≤ isNow ∧ isNow ≤ 1) (hT : TK S n) (hA : AT S n c) (hv : RNV S n) (tc : Xi S 904 93 ≤ 1699) (hx : Xi S 904 8 ≤ n) (hc : 1 ≤ c) (hBDA : BDA S) (d : Nat) : ∀  (T27 : sS) (_ : HI T27) (_ : FR md_mo_test__2 S T27), (AT T27 n c) → (RNV T27 n) → (Xi S 904 8 ≤ Xi T27 904 8 ∧ Xi T27 904 8 ≤ n) → (Xi S 904 69 ≤ Xi T27 904 69) → (Xi T27 904 65 = 0 → Xi S 904 65 = 0) → (Xi T27 904 93 = Xi S 904 93) → (Xi T27 961 (Xi S 904 93).toNat = Xi S 904 8) → (KT T27 S (Xi S 904 93)) → (Xi T27 904 65 = 0 → THV (Xi T27 904 69) n (Xi T27 954 (Xi S 904 93).toNat) (Xi T27 955 (Xi S 904 93).toNat)) → (BDA T27) → Rl lay0 (d + 5) m_mo_test 203 [(0, .ref 904), (1, iv isNow)] [] T27 (Q_mo_test__2 S n c isNow) := by sorry
set_option maxRecDepth 100000 in
set_option maxHeartbeats 8000000 in
theorem c13_mo_test__2 {S : sS} (hH : HI S) (n : Nat) (c : Nat) (isNow : Int) (hisNow : 0 ≤ isNow ∧ isNow ≤ 1) (hT : TK S n) (hA : AT S n c) (hv : RNV S n) (tc : Xi S 904 93 ≤ 1699) (hx : Xi S 904 8 ≤ n) (hc : 1 ≤ c) (hBDA : BDA S) (d : Nat) : ∀ (n13 : Nat) (v2 : Int) (v3 : Int) (v4 : Int), (0 ≤ v2 ∧ v2 ≤ 5010) → (0 ≤ v3 ∧ v3 ≤ 1) → (0 ≤ v4 ∧ v4 ≤ 5001) → (v2 = Xi S 904 8) → (Xi S 904 8 ≤ v4 ∧ v4 ≤ n) → (BDA S) → n13 = (5002 - v4).toNat → Rl lay0 (d + 5) m_mo_test 13 [(0, .ref 904), (1, iv isNow), (2, iv v2), (3, iv v3), (4, iv v4)] [] S (Q_mo_test__2 S n c isNow) := by sorry
set_option maxRecDepth 100000 in
set_option maxHeartbeats 8000000 in
theorem t_mo_test__2 {S : sS} (hH : HI S) (n : Nat) (c : Nat) (isNow : Int) (hisNow : 0 ≤ isNow ∧ isNow ≤ 1) (hT : TK S n) (hA : AT S n c) (hv : RNV S n) (tc : Xi S 904 93 ≤ 1699) (hx : Xi S 904 8 ≤ n) (hc : 1 ≤ c) (hBDA : BDA S) (d : Nat) : Mt lay0 (d + 6) m_mo_test [.ref 904, iv isNow] S (Q_mo_test__2 S n c isNow) := by sorry
def md_mo_tests__2 : List rec := [(904, 905, 8, 9), (904, 905, 65, 66), (904, 905, 66, 67), (904, 905, 69, 70), (904, 905, 78, 79), (904, 905, 93, 94), (904, 905, 94, 95), (904, 905, 99, 100), (904, 905, 100, 101), (904, 905, 101, 102), (950, 951, 0, 100000), (951, 952, 0, 100000), (952, 953, 0, 100000), (953, 954, 0, 100000), (954, 955, 0, 100000), (955, 956, 0, 100000), (956, 957, 0, 100000), (957, 958, 0, 100000), (958, 959, 0, 100000), (959, 960, 0, 100000), (960, 961, 0, 100000), (961, 962, 0, 100000), (962, 963, 0, 100000)]
abbrev Q_mo_tests__2 (S : sS) (n : Nat) (c : Nat) : pst := fun r S1 => HI S1 ∧ FR md_mo_tests__2 S S1 ∧ (r = none ∧ (AT S1 n (c - 1)) ∧ (Xi S 904 8 ≤ Xi S1 904 8 ∧ (Xi S1 904 8 ≤ n ∨ Xi S1 904 8 = Xi S 904 8)) ∧ (RNV S1 n) ∧ (Xi S1 904 65 = 0 → Xi S 904 65 = 0) ∧ (Xi S 904 69 ≤ Xi S1 904 69) ∧ (Xi S1 904 94 = Xi S1 904 93) ∧ (Xi S1 904 93 ≤ 1668) ∧ (Xi S1 904 65 = 0 → TVA S1 n (Xi S1 904 93)) ∧ (BDA S1))
set_option maxRecDepth 100000 in
theorem t_mo_tests__2 {S : sS} (hH : HI S) (n : Nat) (c : Nat) (hT : TK S n) (hA : AT S n c) (hv : RNV S n) (hx : Xi S 904 8 ≤ n) (hc : 1 ≤ c) (h0 : Xi S 904 93 = 0) (hBDA : BDA S) (d : Nat) : Mt lay0 (d + 7) m_mo_tests [.ref 904] S (Q_mo_tests__2 S n c) := by sorry
end
section
/-! SAFETY of methods: printed by wip/safe (vc.py, decl.py) -/
/-- where phrases begin -/
def PF (S : sS) : Prop := ∀ j : Nat, Xi S 965 j ≤ 5001
theorem PF_FR {l : List rec} {S T : sS} (h : FR l S T) (e : kdis l [(965, 966)] = true) (hP : PF S) : PF T := by sorry
theorem pf_w {S U : sS} {i : Nat} {v : Int} (hP : PF S) (e : U = uI S 965 i (Int32.ofInt v)) (hr : rg v) (hv : v ≤ 5001) : PF U := by sorry
def md_mo_phrase__3 : List rec := [(904, 905, 8, 9), (904, 905, 65, 66), (904, 905, 66, 67), (904, 905, 69, 70), (904, 905, 78, 79), (904, 905, 93, 94), (904, 905, 98, 99), (904, 905, 99, 100), (904, 905, 100, 101), (904, 905, 101, 102), (950, 951, 0, 100000), (951, 952, 0, 100000), (952, 953, 0, 100000), (953, 954, 0, 100000), (954, 955, 0, 100000), (955, 956, 0, 100000), (956, 957, 0, 100000), (957, 958, 0, 100000), (958, 959, 0, 100000), (959, 960, 0, 100000), (960, 961, 0, 100000), (961, 962, 0, 100000), (962, 963, 0, 100000), (963, 964, 0, 100000), (964, 965, 0, 100000), (965, 966, 0, 100000)]
abbrev Q_mo_phrase__3 (S : sS) (n : Nat) (c : Nat) : pst := fun r S1 => HI S1 ∧ FR md_mo_phrase__3 S S1 ∧ (r = none ∧ (AT S1 n c) ∧ (Xi S 904 8 ≤ Xi S1 904 8 ∧ (Xi S1 904 8 ≤ n ∨ Xi S1 904 8 = Xi S 904 8)) ∧ (RNV S1 n) ∧ (Xi S1 904 65 = 0 → Xi S 904 65 = 0) ∧ (Xi S 904 69 ≤ Xi S1 904 69) ∧ (KT S1 S (Xi S 904 93)) ∧ (KP S1 S (Xi S 904 98)) ∧ (Xi S1 904 98 = Xi S 904 98 + 1) ∧ (Xi S1 904 65 = 0 → Xi S1 904 93 = Xi S 904 93 + 1) ∧ (Xi S 904 93 ≤ Xi S1 904 93 ∧ Xi S1 904 93 ≤ Xi S 904 93 + 1) ∧ (Xi S1 904 65 = 0 → Xi S1 964 (Xi S 904 98).toNat < Xi S1 904 93 ∧ PV S1 n (Xi S 904 98).toNat) ∧ (PF S1) ∧ (BDA S1))
set_option maxRecDepth 100000 in
set_option maxHeartbeats 12000000 in
theorem c409_mo_phrase__3 {S : sS} (hH : HI S) (n : Nat) (c : Nat) (hT : TK S n) (hA : AT S n c) (hv : RNV S n) (hx : Xi S 904 8 ≤ n) (tc : Xi S 904 93 ≤ 1690) (pc : Xi S 904 98 ≤ 1690) (hPF : PF S) (hBDA : BDA S) (d : Nat) : ∀  (T1 : sS) (_ : HI T1) (_ : FR md_mo_phrase__3 S T1), (AT T1 n c) → (RNV T1 n) → (Xi S 904 8 ≤ Xi T1 904 8) → (Xi T1 904 8 ≤ n) → (Xi S 904 93 ≤ Xi T1 904 93 ∧ Xi T1 904 93 ≤ Xi S 904 93 + 1) → (Xi T1 904 65 = 0 → Xi T1 904 93 = Xi S 904 93 + 1) → (Xi S 904 69 ≤ Xi T1 904 69) → (Xi T1 904 65 = 0 → Xi S 904 65 = 0) → (Xi T1 904 98 = Xi S 904 98) → (Xi T1 964 (Xi S 904 98).toNat = Xi S 904 93) → (KT T1 S (Xi S 904 93)) → (KP T1 S (Xi S 904 98)) → (Xi T1 904 65 = 0 → PV T1 n (Xi S 904 98).toNat) → (PF T1) → (BDA T1) → Rl lay0 (d + 6) m_mo_phrase 409 [(0, .ref 904)] [] T1 (Q_mo_phrase__3 S n c) := by sorry
set_option maxRecDepth 100000 in
set_option maxHeartbeats 12000000 in
theorem c121_mo_phrase__3 {S : sS} (hH : HI S) (n : Nat) (c : Nat) (hT : TK S n) (hA : AT S n c) (hv : RNV S n) (hx : Xi S 904 8 ≤ n) (tc : Xi S 904 93 ≤ 1690) (pc : Xi S 904 98 ≤ 1690) (hPF : PF S) (hBDA : BDA S) (d : Nat) : ∀  (T4 : sS) (_ : HI T4) (_ : FR md_mo_phrase__3 S T4), (AT T4 n (c + 1)) → (RNV T4 n) → (Xi S 904 8 ≤ Xi T4 904 8) → (Xi T4 904 8 ≤ n) → (Xi T4 904 93 = Xi S 904 93) → (Xi S 904 69 ≤ Xi T4 904 69) → (Xi T4 904 65 = 0 → Xi S 904 65 = 0) → (Xi T4 904 98 = Xi S 904 98) → (Xi T4 964 (Xi S 904 98).toNat = Xi S 904 93) → (KT T4 S (Xi S 904 93)) → (KP T4 S (Xi S 904 98)) → (Xi T4 963 (Xi S 904 98).toNat = 0) → (Xi T4 957 (Xi S 904 93).toNat ≤ n) → (Xi T4 904 65 = 0 → Xi T4 907 (Xi T4 957 (Xi S 904 93).toNat).toNat = 5) → (PF T4) → (BDA T4) → Rl lay0 (d + 6) m_mo_phrase 121 [(0, .ref 904)] [] T4 (Q_mo_phrase__3 S n c) := by sorry
set_option maxRecDepth 100000 in
set_option maxHeartbeats 12000000 in
theorem c205_mo_phrase__3 {S : sS} (hH : HI S) (n : Nat) (c : Nat) (hT : TK S n) (hA : AT S n c) (hv : RNV S n) (hx : Xi S 904 8 ≤ n) (tc : Xi S 904 93 ≤ 1690) (pc : Xi S 904 98 ≤ 1690) (hPF : PF S) (hBDA : BDA S) (d : Nat) : ∀  (T6 : sS) (_ : HI T6) (_ : FR md_mo_phrase__3 S T6), (AT T6 n (c + 1)) → (RNV T6 n) → (Xi S 904 8 ≤ Xi T6 904 8) → (Xi T6 904 8 ≤ n) → (Xi T6 904 93 = Xi S 904 93) → (Xi S 904 69 ≤ Xi T6 904 69) → (Xi T6 904 65 = 0 → Xi S 904 65 = 0) → (Xi T6 904 98 = Xi S 904 98) → (Xi T6 964 (Xi S 904 98).toNat = Xi S 904 93) → (KT T6 S (Xi S 904 93)) → (KP T6 S (Xi S 904 98)) → (Xi T6 963 (Xi S 904 98).toNat = 2) → (Xi T6 904 65 = 0 → THV (Xi T6 904 69) n (Xi T6 954 (Xi S 904 93).toNat) (Xi T6 955 (Xi S 904 93).toNat)) → (Xi T6 904 65 = 0 → THV (Xi T6 904 69) n (Xi T6 959 (Xi S 904 93).toNat) (Xi T6 960 (Xi S 904 93).toNat)) → (PF T6) → (BDA T6) → Rl lay0 (d + 6) m_mo_phrase 205 [(0, .ref 904)] [] T6 (Q_mo_phrase__3 S n c) := by sorry
set_option maxRecDepth 100000 in
set_option maxHeartbeats 12000000 in
theorem c166_mo_phrase__3 {S : sS} (hH : HI S) (n : Nat) (c : Nat) (hT : TK S n) (hA : AT S n c) (hv : RNV S n) (hx : Xi S 904 8 ≤ n) (tc : Xi S 904 93 ≤ 1690) (pc : Xi S 904 98 ≤ 1690) (hPF : PF S) (hBDA : BDA S) (d : Nat) : ∀  (T8 : sS) (_ : HI T8) (_ : FR md_mo_phrase__3 S T8), (AT T8 n (c + 1)) → (RNV T8 n) → (Xi S 904 8 ≤ Xi T8 904 8) → (Xi T8 904 8 ≤ n) → (Xi T8 904 93 = Xi S 904 93) → (Xi S 904 69 ≤ Xi T8 904 69) → (Xi T8 904 65 = 0 → Xi S 904 65 = 0) → (Xi T8 904 98 = Xi S 904 98) → (Xi T8 964 (Xi S 904 98).toNat = Xi S 904 93) → (KT T8 S (Xi S 904 93)) → (KP T8 S (Xi S 904 98)) → (Xi T8 963 (Xi S 904 98).toNat = 2) → (Xi T8 904 65 = 0 → THV (Xi T8 904 69) n (Xi T8 954 (Xi S 904 93).toNat) (Xi T8 955 (Xi S 904 93).toNat)) → (PF T8) → (BDA T8) → Rl lay0 (d + 6) m_mo_phrase 166 [(0, .ref 904)] [] T8 (Q_mo_phrase__3 S n c) := by sorry
set_option maxRecDepth 100000 in
set_option maxHeartbeats 12000000 in
theorem c268_mo_phrase__3 {S : sS} (hH : HI S) (n : Nat) (c : Nat) (hT : TK S n) (hA : AT S n c) (hv : RNV S n) (hx : Xi S 904 8 ≤ n) (tc : Xi S 904 93 ≤ 1690) (pc : Xi S 904 98 ≤ 1690) (hPF : PF S) (hBDA : BDA S) (d : Nat) : ∀  (T12 : sS) (_ : HI T12) (_ : FR md_mo_phrase__3 S T12), (AT T12 n (c + 1)) → (RNV T12 n) → (Xi S 904 8 ≤ Xi T12 904 8) → (Xi T12 904 8 ≤ n) → (Xi T12 904 93 = Xi S 904 93) → (Xi S 904 69 ≤ Xi T12 904 69) → (Xi T12 904 65 = 0 → Xi S 904 65 = 0) → (Xi T12 904 98 = Xi S 904 98) → (Xi T12 964 (Xi S 904 98).toNat = Xi S 904 93) → (KT T12 S (Xi S 904 93)) → (KP T12 S (Xi S 904 98)) → (3 ≤ Xi T12 963 (Xi S 904 98).toNat ∧ Xi T12 963 (Xi S 904 98).toNat ≤ 4) → (Xi T12 904 65 = 0 → Xi T12 956 (Xi S 904 93).toNat < Xi T12 904 69) → (Xi T12 904 65 = 0 → THV (Xi T12 904 69) n (Xi T12 954 (Xi S 904 93).toNat) (Xi T12 955 (Xi S 904 93).toNat)) → (Xi T12 957 (Xi S 904 93).toNat ≤ n) → (PF T12) → (BDA T12) → Rl lay0 (d + 6) m_mo_phrase 268 [(0, .ref 904)] [] T12 (Q_mo_phrase__3 S n c) := by sorry
set_option maxRecDepth 100000 in
set_option maxHeartbeats 12000000 in
theorem c250_mo_phrase__3 {S : sS} (hH : HI S) (n : Nat) (c : Nat) (hT : TK S n) (hA : AT S n c) (hv : RNV S n) (hx : Xi S 904 8 ≤ n) (tc : Xi S 904 93 ≤ 1690) (pc : Xi S 904 98 ≤ 1690) (hPF : PF S) (hBDA : BDA S) (d : Nat) : ∀  (T14 : sS) (_ : HI T14) (_ : FR md_mo_phrase__3 S T14), (AT T14 n (c + 1)) → (RNV T14 n) → (Xi S 904 8 ≤ Xi T14 904 8) → (Xi T14 904 8 ≤ n) → (Xi T14 904 93 = Xi S 904 93) → (Xi S 904 69 ≤ Xi T14 904 69) → (Xi T14 904 65 = 0 → Xi S 904 65 = 0) → (Xi T14 904 98 = Xi S 904 98) → (Xi T14 964 (Xi S 904 98).toNat = Xi S 904 93) → (KT T14 S (Xi S 904 93)) → (KP T14 S (Xi S 904 98)) → (3 ≤ Xi T14 963 (Xi S 904 98).toNat ∧ Xi T14 963 (Xi S 904 98).toNat ≤ 4) → (Xi T14 904 65 = 0 → Xi T14 956 (Xi S 904 93).toNat < Xi T14 904 69) → (Xi T14 904 65 = 0 → THV (Xi T14 904 69) n (Xi T14 954 (Xi S 904 93).toNat) (Xi T14 955 (Xi S 904 93).toNat)) → (PF T14) → (BDA T14) → Rl lay0 (d + 6) m_mo_phrase 250 [(0, .ref 904)] [] T14 (Q_mo_phrase__3 S n c) := by sorry
set_option maxRecDepth 100000 in
set_option maxHeartbeats 12000000 in
theorem c236_mo_phrase__3 {S : sS} (hH : HI S) (n : Nat) (c : Nat) (hT : TK S n) (hA : AT S n c) (hv : RNV S n) (hx : Xi S 904 8 ≤ n) (tc : Xi S 904 93 ≤ 1690) (pc : Xi S 904 98 ≤ 1690) (hPF : PF S) (hBDA : BDA S) (d : Nat) : ∀  (T17 : sS) (_ : HI T17) (_ : FR md_mo_phrase__3 S T17), (AT T17 n (c + 1)) → (RNV T17 n) → (Xi S 904 8 ≤ Xi T17 904 8) → (Xi T17 904 8 ≤ n) → (Xi T17 904 93 = Xi S 904 93) → (Xi S 904 69 ≤ Xi T17 904 69) → (Xi T17 904 65 = 0 → Xi S 904 65 = 0) → (Xi T17 904 98 = Xi S 904 98) → (Xi T17 964 (Xi S 904 98).toNat = Xi S 904 93) → (KT T17 S (Xi S 904 93)) → (KP T17 S (Xi S 904 98)) → (3 ≤ Xi T17 963 (Xi S 904 98).toNat ∧ Xi T17 963 (Xi S 904 98).toNat ≤ 4) → (PF T17) → (BDA T17) → Rl lay0 (d + 6) m_mo_phrase 236 [(0, .ref 904)] [] T17 (Q_mo_phrase__3 S n c) := by sorry
set_option maxRecDepth 100000 in
set_option maxHeartbeats 12000000 in
theorem c345_mo_phrase__3 {S : sS} (hH : HI S) (n : Nat) (c : Nat) (hT : TK S n) (hA : AT S n c) (hv : RNV S n) (hx : Xi S 904 8 ≤ n) (tc : Xi S 904 93 ≤ 1690) (pc : Xi S 904 98 ≤ 1690) (hPF : PF S) (hBDA : BDA S) (d : Nat) : ∀  (T21 : sS) (_ : HI T21) (_ : FR md_mo_phrase__3 S T21), (AT T21 n (c + 1)) → (RNV T21 n) → (Xi S 904 8 ≤ Xi T21 904 8) → (Xi T21 904 8 ≤ n) → (Xi T21 904 93 = Xi S 904 93) → (Xi S 904 69 ≤ Xi T21 904 69) → (Xi T21 904 65 = 0 → Xi S 904 65 = 0) → (Xi T21 904 98 = Xi S 904 98) → (Xi T21 963 (Xi S 904 98).toNat = 5) → (Xi T21 964 (Xi S 904 98).toNat = Xi S 904 93) → (Xi T21 904 65 = 0 → Xi T21 956 (Xi S 904 93).toNat < Xi T21 904 69) → (KT T21 S (Xi S 904 93)) → (KP T21 S (Xi S 904 98)) → (PF T21) → (BDA T21) → Rl lay0 (d + 6) m_mo_phrase 345 [(0, .ref 904)] [] T21 (Q_mo_phrase__3 S n c) := by sorry
set_option maxRecDepth 100000 in
set_option maxHeartbeats 12000000 in
theorem t_mo_phrase__3 {S : sS} (hH : HI S) (n : Nat) (c : Nat) (hT : TK S n) (hA : AT S n c) (hv : RNV S n) (hx : Xi S 904 8 ≤ n) (tc : Xi S 904 93 ≤ 1690) (pc : Xi S 904 98 ≤ 1690) (hPF : PF S) (hBDA : BDA S) (d : Nat) : Mt lay0 (d + 7) m_mo_phrase [.ref 904] S (Q_mo_phrase__3 S n c) := by sorry
end
section
/-! SAFETY of methods: printed by wip/safe (vc.py, decl.py) -/
def md_mo_phrases__3 : List rec := [(904, 905, 8, 9), (904, 905, 65, 66), (904, 905, 66, 67), (904, 905, 69, 70), (904, 905, 78, 79), (904, 905, 93, 94), (904, 905, 98, 99), (904, 905, 99, 100), (904, 905, 100, 101), (904, 905, 101, 102), (950, 951, 0, 100000), (951, 952, 0, 100000), (952, 953, 0, 100000), (953, 954, 0, 100000), (954, 955, 0, 100000), (955, 956, 0, 100000), (956, 957, 0, 100000), (957, 958, 0, 100000), (958, 959, 0, 100000), (959, 960, 0, 100000), (960, 961, 0, 100000), (961, 962, 0, 100000), (962, 963, 0, 100000), (963, 964, 0, 100000), (964, 965, 0, 100000), (965, 966, 0, 100000)]
abbrev Q_mo_phrases__3 (S : sS) (n : Nat) (c : Nat) : pst := fun r S1 => HI S1 ∧ FR md_mo_phrases__3 S S1 ∧ (r = none ∧ (AT S1 n c) ∧ (Xi S 904 8 ≤ Xi S1 904 8 ∧ (Xi S1 904 8 ≤ n ∨ Xi S1 904 8 = Xi S 904 8)) ∧ (RNV S1 n) ∧ (Xi S1 904 65 = 0 → Xi S 904 65 = 0) ∧ (Xi S 904 69 ≤ Xi S1 904 69) ∧ (Xi S1 904 65 = 0 → TVA S1 n (Xi S1 904 94)) ∧ (Xi S1 904 65 = 0 → PVA S1 n (Xi S1 904 98)) ∧ (Xi S1 904 65 = 0 → Xi S1 904 94 + Xi S1 904 98 ≤ Xi S1 904 93 ∧ Xi S1 904 93 ≤ 1666) ∧ (PF S1) ∧ (BDA S1))
set_option maxRecDepth 100000 in
theorem t_mo_phrases__3 {S : sS} (hH : HI S) (n : Nat) (c : Nat) (hT : TK S n) (hA : AT S n c) (hv : RNV S n) (hx : Xi S 904 8 ≤ n) (tc : Xi S 904 93 ≤ 1690) (p0 : Xi S 904 98 = 0) (hs : Xi S 904 94 ≤ Xi S 904 93) (tv : Xi S 904 65 = 0 → TVA S n (Xi S 904 94)) (hPF : PF S) (hBDA : BDA S) (d : Nat) : Mt lay0 (d + 8) m_mo_phrases [.ref 904] S (Q_mo_phrases__3 S n c) := by sorry
def md_mo_rule__3 : List rec := [(904, 905, 8, 9), (904, 905, 65, 66), (904, 905, 66, 67), (904, 905, 69, 70), (904, 905, 70, 71), (904, 905, 78, 79), (904, 905, 93, 94), (904, 905, 94, 95), (904, 905, 98, 99), (904, 905, 99, 100), (904, 905, 100, 101), (904, 905, 101, 102), (904, 905, 102, 103), (904, 905, 103, 104), (950, 951, 0, 100000), (951, 952, 0, 100000), (952, 953, 0, 100000), (953, 954, 0, 100000), (954, 955, 0, 100000), (955, 956, 0, 100000), (956, 957, 0, 100000), (957, 958, 0, 100000), (958, 959, 0, 100000), (959, 960, 0, 100000), (960, 961, 0, 100000), (961, 962, 0, 100000), (962, 963, 0, 100000), (963, 964, 0, 100000), (964, 965, 0, 100000), (965, 966, 0, 100000)]
abbrev Q_mo_rule__3 (S : sS) (n : Nat) (c : Nat) (s : Int) : pst := fun r S1 => HI S1 ∧ FR md_mo_rule__3 S S1 ∧ (r = none ∧ (AT S1 n c) ∧ (Xi S 904 8 < Xi S1 904 8 ∧ Xi S1 904 8 ≤ n) ∧ (RNV S1 n) ∧ (Xi S 904 69 ≤ Xi S1 904 69) ∧ (Xi S1 904 70 = s) ∧ (Xi S1 904 65 = 0 → s ≠ 6 → Xi S1 904 102 < Xi S1 904 69 ∧ Xi S1 904 103 < Xi S1 904 69) ∧ (Xi S1 904 65 = 0 → TVA S1 n (Xi S1 904 94)) ∧ (Xi S1 904 65 = 0 → PVA S1 n (Xi S1 904 98)) ∧ (Xi S1 904 65 = 0 → Xi S1 904 94 + Xi S1 904 98 ≤ Xi S1 904 93 ∧ Xi S1 904 93 ≤ 1666) ∧ (PF S1) ∧ (BDA S1))
set_option maxRecDepth 100000 in
set_option maxHeartbeats 4000000 in
theorem c107_mo_rule__3 {S : sS} (hH : HI S) (n : Nat) (c : Nat) (s : Int) (hs : 3 ≤ s ∧ s ≤ 6) (hT : TK S n) (hA : AT S n c) (hv : RNV S n) (hb : Xi S 904 65 = 0) (hk : Xi S 907 (Xi S 904 8).toNat ≠ 1) (z1 : Xi S 904 93 = 0) (z2 : Xi S 904 94 = 0) (z3 : Xi S 904 98 = 0) (hPF : PF S) (hBDA : BDA S) (d : Nat) : ∀  (T1 : sS) (_ : HI T1) (_ : FR md_mo_rule__3 S T1), (AT T1 n c) → (RNV T1 n) → (Xi S 904 8 < Xi T1 904 8) → (Xi T1 904 8 ≤ n) → (Xi S 904 69 ≤ Xi T1 904 69) → (Xi T1 904 93 ≤ 1668 ∧ Xi T1 904 94 = Xi T1 904 93 ∧ Xi T1 904 98 = 0) → (Xi T1 904 70 = s) → (Xi T1 904 65 = 0 → s ≠ 6 → Xi T1 904 102 < Xi T1 904 69 ∧ Xi T1 904 103 < Xi T1 904 69) → (Xi T1 904 65 = 0 → TVA T1 n (Xi T1 904 94)) → (PF T1) → (BDA T1) → Rl lay0 (d + 8) m_mo_rule 107 [(0, .ref 904)] [] T1 (Q_mo_rule__3 S n c s) := by sorry
set_option maxRecDepth 100000 in
set_option maxHeartbeats 4000000 in
theorem c83_mo_rule__3 {S : sS} (hH : HI S) (n : Nat) (c : Nat) (s : Int) (hs : 3 ≤ s ∧ s ≤ 6) (hT : TK S n) (hA : AT S n c) (hv : RNV S n) (hb : Xi S 904 65 = 0) (hk : Xi S 907 (Xi S 904 8).toNat ≠ 1) (z1 : Xi S 904 93 = 0) (z2 : Xi S 904 94 = 0) (z3 : Xi S 904 98 = 0) (hPF : PF S) (hBDA : BDA S) (d : Nat) : ∀  (T4 : sS) (_ : HI T4) (_ : FR md_mo_rule__3 S T4), (AT T4 n c) → (RNV T4 n) → (Xi S 904 8 < Xi T4 904 8) → (Xi T4 904 8 ≤ n) → (Xi S 904 69 ≤ Xi T4 904 69) → (Xi T4 904 93 = 0 ∧ Xi T4 904 94 = 0 ∧ Xi T4 904 98 = 0) → (Xi T4 904 70 = s) → (Xi T4 904 65 = 0 → s ≠ 6 → Xi T4 904 102 < Xi T4 904 69 ∧ Xi T4 904 103 < Xi T4 904 69) → (PF T4) → (BDA T4) → Rl lay0 (d + 8) m_mo_rule 83 [(0, .ref 904)] [] T4 (Q_mo_rule__3 S n c s) := by sorry
set_option maxRecDepth 100000 in
set_option maxHeartbeats 4000000 in
theorem t_mo_rule__3 {S : sS} (hH : HI S) (n : Nat) (c : Nat) (s : Int) (hs : 3 ≤ s ∧ s ≤ 6) (hT : TK S n) (hA : AT S n c) (hv : RNV S n) (hb : Xi S 904 65 = 0) (hk : Xi S 907 (Xi S 904 8).toNat ≠ 1) (z1 : Xi S 904 93 = 0) (z2 : Xi S 904 94 = 0) (z3 : Xi S 904 98 = 0) (hPF : PF S) (hBDA : BDA S) (d : Nat) : Mt lay0 (d + 9) m_mo_rule [.ref 904, iv s] S (Q_mo_rule__3 S n c s) := by sorry
/-! SAFETY of methods: printed by wip/safe (vc.py, decl.py) -/
def md_mo_others__2 : List rec := [(904, 905, 8, 9), (904, 905, 65, 66), (904, 905, 66, 67), (904, 905, 69, 70), (904, 905, 70, 71), (904, 905, 79, 80), (904, 905, 80, 81), (950, 951, 0, 100000), (951, 952, 0, 100000)]
abbrev Q_mo_others__2 (S : sS) (n : Nat) (c : Nat) (tells : Int) : pst := fun r S1 => HI S1 ∧ FR md_mo_others__2 S S1 ∧ (r = none ∧ (AT S1 n c) ∧ (Xi S 904 8 ≤ Xi S1 904 8 ∧ Xi S1 904 8 ≤ n + 2) ∧ (RNV S1 n) ∧ (Xi S1 904 65 = 0 → Xi S 904 65 = 0) ∧ (Xi S 904 69 ≤ Xi S1 904 69) ∧ (17 ≤ Xi S1 904 70 ∧ Xi S1 904 70 ≤ 20) ∧ (Xi S1 904 65 = 0 → SNQ S1 n) ∧ (BDA S1))
set_option maxRecDepth 100000 in
set_option maxHeartbeats 4000000 in
theorem c32_mo_others__2 {S : sS} (hH : HI S) (n : Nat) (c : Nat) (tells : Int) (htells : 0 ≤ tells ∧ tells ≤ 154) (hT : TK S n) (hA : AT S n c) (hv : RNV S n) (hx : Xi S 904 8 ≤ n) (hBDA : BDA S) (d : Nat) : ∀  (T1 : sS) (_ : HI T1) (_ : FR md_mo_others__2 S T1), (AT T1 n c) → (RNV T1 n) → (Xi S 904 8 ≤ Xi T1 904 8) → (Xi T1 904 8 ≤ n) → (Xi S 904 69 ≤ Xi T1 904 69) → (Xi T1 904 65 = 0 → Xi S 904 65 = 0) → (Xi T1 904 70 = 17) → (Xi T1 904 65 = 0 → Xi S 904 69 + 2 ≤ Xi T1 904 69) → (BDA T1) → Rl lay0 (d + 3) m_mo_others 32 [(0, .ref 904)] [] T1 (Q_mo_others__2 S n c tells) := by sorry
set_option maxRecDepth 100000 in
set_option maxHeartbeats 4000000 in
theorem c75_mo_others__2 {S : sS} (hH : HI S) (n : Nat) (c : Nat) (tells : Int) (htells : 0 ≤ tells ∧ tells ≤ 154) (hT : TK S n) (hA : AT S n c) (hv : RNV S n) (hx : Xi S 904 8 ≤ n) (hBDA : BDA S) (d : Nat) : ∀  (T4 : sS) (_ : HI T4) (_ : FR md_mo_others__2 S T4), (AT T4 n c) → (RNV T4 n) → (Xi S 904 8 ≤ Xi T4 904 8) → (Xi T4 904 8 ≤ n) → (Xi S 904 69 ≤ Xi T4 904 69) → (Xi T4 904 65 = 0 → Xi S 904 65 = 0) → (Xi T4 904 70 = 18) → (Xi T4 904 65 = 0 → Xi S 904 69 + 1 ≤ Xi T4 904 69) → (BDA T4) → Rl lay0 (d + 3) m_mo_others 75 [(0, .ref 904)] [] T4 (Q_mo_others__2 S n c tells) := by sorry
set_option maxRecDepth 100000 in
set_option maxHeartbeats 4000000 in
theorem c125_mo_others__2 {S : sS} (hH : HI S) (n : Nat) (c : Nat) (tells : Int) (htells : 0 ≤ tells ∧ tells ≤ 154) (hT : TK S n) (hA : AT S n c) (hv : RNV S n) (hx : Xi S 904 8 ≤ n) (hBDA : BDA S) (d : Nat) : ∀  (T8 : sS) (_ : HI T8) (_ : FR md_mo_others__2 S T8), (AT T8 n c) → (RNV T8 n) → (Xi S 904 8 ≤ Xi T8 904 8) → (Xi T8 904 8 ≤ n + 1) → (Xi S 904 69 ≤ Xi T8 904 69) → (Xi T8 904 65 = 0 → Xi S 904 65 = 0) → (Xi T8 904 70 = 19) → (Xi T8 904 65 = 0 → Xi S 904 69 + 1 ≤ Xi T8 904 69) → (BDA T8) → Rl lay0 (d + 3) m_mo_others 125 [(0, .ref 904)] [] T8 (Q_mo_others__2 S n c tells) := by sorry
set_option maxRecDepth 100000 in
set_option maxHeartbeats 4000000 in
theorem c168_mo_others__2 {S : sS} (hH : HI S) (n : Nat) (c : Nat) (tells : Int) (htells : 0 ≤ tells ∧ tells ≤ 154) (hT : TK S n) (hA : AT S n c) (hv : RNV S n) (hx : Xi S 904 8 ≤ n) (hBDA : BDA S) (d : Nat) : ∀ (n168 : Nat) (T14 : sS) (_ : HI T14) (_ : FR md_mo_others__2 S T14) (v2 : Int) (v3 : Int), (0 ≤ v2 ∧ v2 ≤ 5010) → (0 ≤ v3 ∧ v3 ≤ 154) → (AT T14 n c) → (RNV T14 n) → (v3 ≠ 1 → Xi T14 904 65 = 0 ∧ Xi T14 907 (Xi T14 904 8).toNat = v3) → (Xi T14 904 65 = Xi S 904 65) → (Xi T14 904 69 = Xi S 904 69) → (Xi S 904 8 ≤ Xi T14 904 8 ∧ Xi T14 904 8 ≤ n) → (Xi T14 904 70 = 20) → (BDA T14) → n168 = (5002 - Xi T14 904 8).toNat → Rl lay0 (d + 3) m_mo_others 168 [(0, .ref 904), (2, iv v2), (3, iv v3)] [] T14 (Q_mo_others__2 S n c tells) := by sorry
set_option maxRecDepth 100000 in
set_option maxHeartbeats 4000000 in
theorem t_mo_others__2 {S : sS} (hH : HI S) (n : Nat) (c : Nat) (tells : Int) (htells : 0 ≤ tells ∧ tells ≤ 154) (hT : TK S n) (hA : AT S n c) (hv : RNV S n) (hx : Xi S 904 8 ≤ n) (hBDA : BDA S) (d : Nat) : Mt lay0 (d + 4) m_mo_others [.ref 904, iv tells] S (Q_mo_others__2 S n c tells) := by sorry
end
section
/-! SAFETY of methods: printed by wip/safe (vc.py, decl.py) -/
def md_mo_rest__2 : List rec := [(904, 905, 8, 9), (904, 905, 65, 66), (904, 905, 66, 67), (904, 905, 69, 70), (904, 905, 70, 71), (904, 905, 73, 74), (904, 905, 74, 75), (904, 905, 75, 76), (904, 905, 76, 77), (904, 905, 78, 79), (950, 951, 0, 100000), (951, 952, 0, 100000)]
abbrev Q_mo_rest__2 (S : sS) (n : Nat) (c : Nat) : pst := fun r S1 => HI S1 ∧ FR md_mo_rest__2 S S1 ∧ (r = none ∧ (AT S1 n c) ∧ (Xi S 904 8 ≤ Xi S1 904 8 ∧ Xi S1 904 8 ≤ n) ∧ (RNV S1 n) ∧ (Xi S1 904 65 = 0 → Xi S 904 65 = 0) ∧ (Xi S 904 69 ≤ Xi S1 904 69) ∧ (10 ≤ Xi S1 904 70 ∧ Xi S1 904 70 ≤ 16) ∧ (Xi S1 904 65 = 0 → SNQ S1 n) ∧ (Xi S1 904 65 = 0 → Xi S1 904 70 = 11 → -1 ≤ Xi S1 904 78) ∧ (BDA S1))
set_option maxRecDepth 100000 in
set_option maxHeartbeats 8000000 in
theorem c313_mo_rest__2 {S : sS} (hH : HI S) (n : Nat) (c : Nat) (hT : TK S n) (hA : AT S n c) (hv : RNV S n) (hb : Xi S 904 65 = 0) (hl : Xi S 904 71 + Xi S 904 72 ≤ Xi S 904 69 ∧ 1 ≤ Xi S 904 72) (hBDA : BDA S) (d : Nat) : ∀  (T1 : sS) (_ : HI T1) (_ : FR md_mo_rest__2 S T1), (AT T1 n c) → (RNV T1 n) → (Xi T1 904 8 = Xi S 904 8) → (Xi T1 904 65 = 0) → (Xi T1 904 69 = Xi S 904 69) → (Xi T1 904 71 = Xi S 904 71 ∧ Xi T1 904 72 = Xi S 904 72) → (Xi T1 904 73 = 0) → (Xi T1 904 70 = 15) → (Xi T1 907 (Xi T1 904 8).toNat ≠ 1) → (BDA T1) → Rl lay0 (d + 3) m_mo_rest 313 [(0, .ref 904)] [] T1 (Q_mo_rest__2 S n c) := by sorry
set_option maxRecDepth 100000 in
set_option maxHeartbeats 8000000 in
theorem c413_mo_rest__2 {S : sS} (hH : HI S) (n : Nat) (c : Nat) (hT : TK S n) (hA : AT S n c) (hv : RNV S n) (hb : Xi S 904 65 = 0) (hl : Xi S 904 71 + Xi S 904 72 ≤ Xi S 904 69 ∧ 1 ≤ Xi S 904 72) (hBDA : BDA S) (d : Nat) : ∀ (n413 : Nat) (T5 : sS) (_ : HI T5) (_ : FR md_mo_rest__2 S T5), (AT T5 n c) → (RNV T5 n) → (Xi S 904 8 ≤ Xi T5 904 8 ∧ Xi T5 904 8 ≤ n) → (Xi S 904 69 ≤ Xi T5 904 69) → (Xi T5 904 70 = 16) → (Xi T5 904 65 = 0 → 0 ≤ Xi T5 904 78 ∧ Xi T5 904 78 < Xi T5 904 69) → (Xi T5 904 71 = Xi S 904 71 ∧ Xi T5 904 72 = Xi S 904 72) → (BDA T5) → n413 = (5002 - Xi T5 904 8).toNat → Rl lay0 (d + 3) m_mo_rest 413 [(0, .ref 904)] [] T5 (Q_mo_rest__2 S n c) := by sorry
set_option maxRecDepth 100000 in
set_option maxHeartbeats 8000000 in
theorem c197_mo_rest__2 {S : sS} (hH : HI S) (n : Nat) (c : Nat) (hT : TK S n) (hA : AT S n c) (hv : RNV S n) (hb : Xi S 904 65 = 0) (hl : Xi S 904 71 + Xi S 904 72 ≤ Xi S 904 69 ∧ 1 ≤ Xi S 904 72) (hBDA : BDA S) (d : Nat) : ∀  (T8 : sS) (_ : HI T8) (_ : FR md_mo_rest__2 S T8) (v1 : Int), (0 ≤ v1 ∧ v1 ≤ 154) → (AT T8 n c) → (RNV T8 n) → (v1 ≠ 1 → Xi T8 904 65 = 0 ∧ Xi T8 907 (Xi T8 904 8).toNat = v1) → (Xi T8 904 8 = Xi S 904 8) → (Xi T8 904 65 = 0) → (Xi T8 904 69 = Xi S 904 69) → (Xi T8 904 71 = Xi S 904 71 ∧ Xi T8 904 72 = Xi S 904 72) → (Xi T8 904 73 = 0) → (BDA T8) → Rl lay0 (d + 3) m_mo_rest 197 [(0, .ref 904), (1, iv v1)] [] T8 (Q_mo_rest__2 S n c) := by sorry
set_option maxRecDepth 100000 in
set_option maxHeartbeats 8000000 in
theorem c111_mo_rest__2 {S : sS} (hH : HI S) (n : Nat) (c : Nat) (hT : TK S n) (hA : AT S n c) (hv : RNV S n) (hb : Xi S 904 65 = 0) (hl : Xi S 904 71 + Xi S 904 72 ≤ Xi S 904 69 ∧ 1 ≤ Xi S 904 72) (hBDA : BDA S) (d : Nat) : ∀  (T45 : sS) (_ : HI T45) (_ : FR md_mo_rest__2 S T45) (v1 : Int), (0 ≤ v1 ∧ v1 ≤ 154) → (AT T45 n c) → (RNV T45 n) → (v1 ≠ 1 → Xi T45 904 65 = 0 ∧ Xi T45 907 (Xi T45 904 8).toNat = v1) → (Xi T45 904 8 = Xi S 904 8) → (Xi T45 904 65 = 0) → (Xi T45 904 69 = Xi S 904 69) → (Xi T45 904 71 = Xi S 904 71 ∧ Xi T45 904 72 = Xi S 904 72) → (Xi T45 904 73 = 0) → (BDA T45) → Rl lay0 (d + 3) m_mo_rest 111 [(0, .ref 904), (1, iv v1)] [] T45 (Q_mo_rest__2 S n c) := by sorry
set_option maxRecDepth 100000 in
set_option maxHeartbeats 8000000 in
theorem t_mo_rest__2 {S : sS} (hH : HI S) (n : Nat) (c : Nat) (hT : TK S n) (hA : AT S n c) (hv : RNV S n) (hb : Xi S 904 65 = 0) (hl : Xi S 904 71 + Xi S 904 72 ≤ Xi S 904 69 ∧ 1 ≤ Xi S 904 72) (hBDA : BDA S) (d : Nat) : Mt lay0 (d + 4) m_mo_rest [.ref 904] S (Q_mo_rest__2 S n c) := by sorry
end
section
/-! SAFETY of methods: printed by wip/safe (vc.py, decl.py) -/
def md_mo_tests__3 : List rec := [(904, 905, 8, 9), (904, 905, 65, 66), (904, 905, 66, 67), (904, 905, 69, 70), (904, 905, 78, 79), (904, 905, 93, 94), (904, 905, 94, 95), (904, 905, 99, 100), (904, 905, 100, 101), (904, 905, 101, 102), (950, 951, 0, 100000), (951, 952, 0, 100000), (952, 953, 0, 100000), (953, 954, 0, 100000), (954, 955, 0, 100000), (955, 956, 0, 100000), (956, 957, 0, 100000), (957, 958, 0, 100000), (958, 959, 0, 100000), (959, 960, 0, 100000), (960, 961, 0, 100000), (961, 962, 0, 100000), (962, 963, 0, 100000)]
abbrev Q_mo_tests__3 (S : sS) (n : Nat) (c : Nat) : pst := fun r S1 => HI S1 ∧ FR md_mo_tests__3 S S1 ∧ (r = none ∧ (AT S1 n (c - 1)) ∧ (Xi S 904 8 ≤ Xi S1 904 8 ∧ (Xi S1 904 8 ≤ n ∨ Xi S1 904 8 = Xi S 904 8)) ∧ (RNV S1 n) ∧ (Xi S1 904 65 = 0 → Xi S 904 65 = 0) ∧ (Xi S 904 69 ≤ Xi S1 904 69) ∧ (Xi S1 904 94 = Xi S1 904 93) ∧ (Xi S1 904 93 ≤ 1668) ∧ (Xi S1 904 65 = 0 → TVA S1 n (Xi S1 904 93)) ∧ (BDA S1) ∧ (1 ≤ Xi S1 904 93))
set_option maxRecDepth 100000 in
theorem t_mo_tests__3 {S : sS} (hH : HI S) (n : Nat) (c : Nat) (hT : TK S n) (hA : AT S n c) (hv : RNV S n) (hx : Xi S 904 8 ≤ n) (hc : 1 ≤ c) (h0 : Xi S 904 93 = 0) (hBDA : BDA S) (d : Nat) : Mt lay0 (d + 7) m_mo_tests [.ref 904] S (Q_mo_tests__3 S n c) := by sorry
def md_mo_partTwo__3 : List rec := [(904, 905, 8, 9), (904, 905, 65, 66), (904, 905, 66, 67), (904, 905, 69, 70), (904, 905, 78, 79), (904, 905, 93, 94), (904, 905, 94, 95), (904, 905, 99, 100), (904, 905, 100, 101), (904, 905, 101, 102), (950, 951, 0, 100000), (951, 952, 0, 100000), (952, 953, 0, 100000), (953, 954, 0, 100000), (954, 955, 0, 100000), (955, 956, 0, 100000), (956, 957, 0, 100000), (957, 958, 0, 100000), (958, 959, 0, 100000), (959, 960, 0, 100000), (960, 961, 0, 100000), (961, 962, 0, 100000), (962, 963, 0, 100000)]
abbrev Q_mo_partTwo__3 (S : sS) (n : Nat) (c : Nat) : pst := fun r S1 => HI S1 ∧ FR md_mo_partTwo__3 S S1 ∧ (r = none ∧ (AT S1 n c) ∧ (Xi S 904 8 ≤ Xi S1 904 8 ∧ Xi S1 904 8 ≤ n) ∧ (RNV S1 n) ∧ (Xi S 904 69 ≤ Xi S1 904 69) ∧ (Xi S1 904 65 = 0 → 2 ≤ Xi S1 904 69) ∧ (Xi S1 904 94 ≤ 1668) ∧ (Xi S1 904 65 = 0 → TVA S1 n (Xi S1 904 94)) ∧ (BDA S1) ∧ (1 ≤ Xi S1 904 94))
set_option maxRecDepth 100000 in
theorem t_mo_partTwo__3 {S : sS} (hH : HI S) (n : Nat) (c : Nat) (hT : TK S n) (hA : AT S n c) (hv : RNV S n) (hb : Xi S 904 65 = 0) (hk : Xi S 907 (Xi S 904 8).toNat = 135) (z1 : Xi S 904 93 = 0) (hBDA : BDA S) (d : Nat) : Mt lay0 (d + 8) m_mo_partTwo [.ref 904] S (Q_mo_partTwo__3 S n c) := by sorry
def md_mo_common__2 : List rec := [(904, 905, 8, 9), (904, 905, 65, 66), (904, 905, 66, 67), (904, 905, 69, 70), (904, 905, 70, 71), (904, 905, 71, 72), (904, 905, 72, 73), (904, 905, 73, 74), (904, 905, 74, 75), (904, 905, 75, 76), (904, 905, 76, 77), (904, 905, 77, 78), (904, 905, 78, 79), (904, 905, 79, 80), (904, 905, 80, 81), (950, 951, 0, 100000), (951, 952, 0, 100000)]
abbrev Q_mo_common__2 (S : sS) (n : Nat) (c : Nat) : pst := fun r S1 => HI S1 ∧ FR md_mo_common__2 S S1 ∧ (r = none ∧ (AT S1 n c) ∧ (Xi S 904 8 ≤ Xi S1 904 8 ∧ Xi S1 904 8 ≤ n + 2) ∧ (RNV S1 n) ∧ (Xi S1 904 65 = 0 → Xi S 904 65 = 0) ∧ (Xi S 904 69 ≤ Xi S1 904 69) ∧ (Xi S1 904 65 = 0 → 9 ≤ Xi S1 904 70 ∧ Xi S1 904 70 ≤ 20) ∧ (Xi S1 904 65 = 0 → SNQ S1 n) ∧ (Xi S1 904 65 = 0 → Xi S1 904 70 = 11 → -1 ≤ Xi S1 904 78) ∧ (BDA S1))
set_option maxRecDepth 100000 in
set_option maxHeartbeats 4000000 in
theorem c158_mo_common__2 {S : sS} (hH : HI S) (n : Nat) (c : Nat) (hT : TK S n) (hA : AT S n c) (hv : RNV S n) (hx : Xi S 904 8 ≤ n) (hb : Xi S 904 65 = 0) (hBDA : BDA S) (d : Nat) : ∀  (T1 : sS) (_ : HI T1) (_ : FR md_mo_common__2 S T1), (AT T1 n c) → (RNV T1 n) → (Xi S 904 8 ≤ Xi T1 904 8) → (Xi T1 904 8 ≤ n) → (Xi S 904 69 ≤ Xi T1 904 69) → (Xi T1 904 65 = 0 → Xi S 904 65 = 0) → (Xi T1 904 70 = 9) → (Xi T1 904 65 = 0 → Xi S 904 69 + 2 ≤ Xi T1 904 69) → (BDA T1) → Rl lay0 (d + 4) m_mo_common 158 [(0, .ref 904)] [] T1 (Q_mo_common__2 S n c) := by sorry
set_option maxRecDepth 100000 in
set_option maxHeartbeats 4000000 in
theorem c115_mo_common__2 {S : sS} (hH : HI S) (n : Nat) (c : Nat) (hT : TK S n) (hA : AT S n c) (hv : RNV S n) (hx : Xi S 904 8 ≤ n) (hb : Xi S 904 65 = 0) (hBDA : BDA S) (d : Nat) : (BDA S) → Rl lay0 (d + 4) m_mo_common 115 [(0, .ref 904)] [] S (Q_mo_common__2 S n c) := by sorry
set_option maxRecDepth 100000 in
set_option maxHeartbeats 4000000 in
theorem c95_mo_common__2 {S : sS} (hH : HI S) (n : Nat) (c : Nat) (hT : TK S n) (hA : AT S n c) (hv : RNV S n) (hx : Xi S 904 8 ≤ n) (hb : Xi S 904 65 = 0) (hBDA : BDA S) (d : Nat) : ∀  (v1 : Int), (0 ≤ v1 ∧ v1 ≤ 126) → (BDA S) → Rl lay0 (d + 4) m_mo_common 95 [(0, .ref 904), (1, iv v1)] [] S (Q_mo_common__2 S n c) := by sorry
set_option maxRecDepth 100000 in
set_option maxHeartbeats 4000000 in
theorem c12_mo_common__2 {S : sS} (hH : HI S) (n : Nat) (c : Nat) (hT : TK S n) (hA : AT S n c) (hv : RNV S n) (hx : Xi S 904 8 ≤ n) (hb : Xi S 904 65 = 0) (hBDA : BDA S) (d : Nat) : ∀ (n12 : Nat) (v1 : Int) (v3 : Int), (0 ≤ v1 ∧ v1 ≤ 126) → (0 ≤ v3 ∧ v3 ≤ 5001) → (Xi S 904 8 ≤ v3 ∧ v3 ≤ n) → (BDA S) → n12 = (5002 - v3).toNat → Rl lay0 (d + 4) m_mo_common 12 [(0, .ref 904), (1, iv v1), (3, iv v3)] [] S (Q_mo_common__2 S n c) := by sorry
set_option maxRecDepth 100000 in
set_option maxHeartbeats 4000000 in
theorem t_mo_common__2 {S : sS} (hH : HI S) (n : Nat) (c : Nat) (hT : TK S n) (hA : AT S n c) (hv : RNV S n) (hx : Xi S 904 8 ≤ n) (hb : Xi S 904 65 = 0) (hBDA : BDA S) (d : Nat) : Mt lay0 (d + 5) m_mo_common [.ref 904] S (Q_mo_common__2 S n c) := by sorry
end
section
/-! SAFETY of methods: printed by wip/safe (vc.py, decl.py) -/
/-! SAFETY of the reference: tests that were meant -/
theorem q_thv {m m2 : Int} {n : Nat} {td rn x y : Int} (h : THV m n td rn) (e1 : x = td) (e2 : y = rn) (e3 : m2 = m) (hn : n ≤ 5000) : (20000 ≤ x → 0 ≤ y ∧ y < m2) ∧ x % 10000 ≤ 5001 := by sorry
theorem thk_c {S T : sS} {b c : Prop} {x y : Int} (h : thK S b c x) (e : Xi T 904 19 = Xi S 904 19) (e2 : y = x) : thK T b c y := by sorry
theorem adx_c {S T : sS} {f a y : Int} (h : ADX S f a) (e1 : Xi T 904 23 = Xi S 904 23) (e2 : Xi T 904 32 = Xi S 904 32) (e : y = a) : ADM T y := by sorry
theorem tq_5 {S : sS} {b c : Prop} {q : Nat} (h : Xi S 969 q = 5) (h1 : thK S b c (Xi S 971 q)) (h2 : thK S b c (Xi S 975 q)) (h3 : 0 ≤ Xi S 972 q ∧ Xi S 972 q ≤ 5) : TQ S b c q := by sorry
theorem tq_3 {S : sS} {b c : Prop} {q : Nat} (h : Xi S 969 q = 3) (h1 : thK S b c (Xi S 971 q)) (h2 : ADM S (Xi S 973 q)) : TQ S b c q := by sorry
theorem tq_4 {S : sS} {b c : Prop} {q : Nat} (h : Xi S 969 q = 4) (h1 : thK S b c (Xi S 971 q)) : TQ S b c q := by sorry
theorem tq_2 {S : sS} {b c : Prop} {q : Nat} (h : Xi S 969 q ≤ 2) (h1 : thK S b c (Xi S 971 q)) (h2 : 0 ≤ Xi S 972 q ∧ Xi S 972 q < Xi S 904 32) (h3 : Xi S 969 q = 0 → OKT (Xi S 973 q) (Xi S 974 q)) : TQ S b c q := by sorry
/-- what phrases of the sort NOW may be -/
def NF (S : sS) (q : Nat) : Prop := (Xi S 969 q = 0 ∨ Xi S 969 q = 3 ∨ Xi S 969 q = 5) ∧ (Xi S 969 q = 3 → Xi S 973 q < 100 → Xi S 922 (Xi S 973 q).toNat ≠ -1)
/-- what may be told now -/
def NFX (S : sS) (w i : Int) : Prop := w = 1 → Xi S 952 i.toNat = 0 ∨ Xi S 952 i.toNat = 3 ∨ Xi S 952 i.toNat = 5
theorem syq_5 {S T U : sS} {q : Int} (h : SYQ T q) (e19 : Xi T 904 19 = Xi S 904 19) (e115 : Xi T 904 115 = Xi S 904 115) (e116 : Xi T 904 116 = Xi S 904 116) (u19 : Xi U 904 19 = Xi S 904 19) (u1 : Xi U 971 q.toNat = Xi T 971 q.toNat) (u2 : Xi U 972 q.toNat = Xi T 972 q.toNat) (u5 : Xi U 975 q.toNat = Xi T 975 q.toNat) (f : Xi U 969 q.toNat = 5) : TQ U (0 ≤ Xi S 904 115) (0 ≤ Xi S 904 116) q.toNat := by sorry
def md_mo_testMeant : List rec := [(904, 905, 64, 65), (904, 905, 104, 105), (904, 905, 105, 106), (904, 905, 106, 107), (904, 905, 113, 114), (969, 970, 0, 100000), (970, 971, 0, 100000), (971, 972, 0, 100000), (972, 973, 0, 100000), (973, 974, 0, 100000), (974, 975, 0, 100000), (975, 976, 0, 100000)]
abbrev Q_mo_testMeant (S : sS) (n : Nat) (i : Int) (q : Int) (isNow : Int) : pst := fun r S1 => HI S1 ∧ FR md_mo_testMeant S S1 ∧ (r = none ∧ (Xi S 904 106 ≠ 0 → Xi S1 904 106 ≠ 0) ∧ (Xi S1 904 106 = 0 → TQ S1 (0 ≤ Xi S 904 115) (0 ≤ Xi S 904 116) q.toNat) ∧ (Xi S1 904 106 = 0 → isNow = 1 → NF S1 q.toNat) ∧ (KQ S1 S q))
set_option maxRecDepth 100000 in
set_option maxHeartbeats 8000000 in
theorem c209_mo_testMeant {S : sS} (hH : HI S) (n : Nat) (i : Int) (q : Int) (isNow : Int) (hi : 0 ≤ i ∧ i ≤ 1699) (hq : 0 ≤ q ∧ q ≤ 2399) (hisNow : 0 ≤ isNow ∧ isNow ≤ 1) (hT : TK S n) (hv : RNV S n) (hM : LXM S) (hB : ABV S) (hC : DCM S) (hK : TXK S n) (htv : TV S n i.toNat) (hnf : NFX S isNow i) (d : Nat) : ∀  (T1 : sS) (_ : HI T1) (_ : FR md_mo_testMeant S T1) (v5 : Int) (v6 : Int), (0 ≤ v5 ∧ v5 ≤ 2599) → (0 ≤ v6 ∧ v6 ≤ 12) → (Xi T1 971 (q).toNat ≠ -9) → (0 ≤ v5 ∧ v5 < Xi S 904 69) → (Xi T1 969 (q).toNat = 3) → (Xi S 904 106 ≠ 0 → Xi T1 904 106 ≠ 0) → (thK S (0 ≤ Xi S 904 115) (0 ≤ Xi S 904 116) (Xi T1 971 (q).toNat)) → (Xi S 950 (v5).toNat + Xi S 951 (v5).toNat ≤ n ∧ 1 ≤ Xi S 951 (v5).toNat) → (1 ≤ v6 → ADX S (1 - isNow) (Xi T1 904 113)) → (KQ T1 S q) → Rl lay0 (d + 6) m_mo_testMeant 209 [(0, .ref 904), (2, iv q), (5, iv v5), (6, iv v6)] [] T1 (Q_mo_testMeant S n i q isNow) := by sorry
set_option maxRecDepth 100000 in
set_option maxHeartbeats 8000000 in
theorem c328_mo_testMeant {S : sS} (hH : HI S) (n : Nat) (i : Int) (q : Int) (isNow : Int) (hi : 0 ≤ i ∧ i ≤ 1699) (hq : 0 ≤ q ∧ q ≤ 2399) (hisNow : 0 ≤ isNow ∧ isNow ≤ 1) (hT : TK S n) (hv : RNV S n) (hM : LXM S) (hB : ABV S) (hC : DCM S) (hK : TXK S n) (htv : TV S n i.toNat) (hnf : NFX S isNow i) (d : Nat) : ∀  (T16 : sS) (_ : HI T16) (_ : FR md_mo_testMeant S T16) (v4 : Int), (-9 ≤ v4 ∧ v4 ≤ 23) → (Xi T16 969 (q).toNat = Xi S 952 i.toNat) → (Xi S 904 106 ≠ 0 → Xi T16 904 106 ≠ 0) → (Xi T16 904 69 = Xi S 904 69) → (KQ T16 S q) → (Xi T16 971 (q).toNat = v4) → (v4 = -9 → Xi T16 904 106 ≠ 0) → (v4 ≠ -9 → -2 ≤ v4) → (v4 ≠ -9 → thK S (0 ≤ Xi S 904 115) (0 ≤ Xi S 904 116) v4) → (Xi S 952 i.toNat ≤ 2) → Rl lay0 (d + 6) m_mo_testMeant 328 [(0, .ref 904), (1, iv i), (2, iv q), (4, iv v4)] [] T16 (Q_mo_testMeant S n i q isNow) := by sorry
set_option maxRecDepth 100000 in
set_option maxHeartbeats 8000000 in
theorem c277_mo_testMeant {S : sS} (hH : HI S) (n : Nat) (i : Int) (q : Int) (isNow : Int) (hi : 0 ≤ i ∧ i ≤ 1699) (hq : 0 ≤ q ∧ q ≤ 2399) (hisNow : 0 ≤ isNow ∧ isNow ≤ 1) (hT : TK S n) (hv : RNV S n) (hM : LXM S) (hB : ABV S) (hC : DCM S) (hK : TXK S n) (htv : TV S n i.toNat) (hnf : NFX S isNow i) (d : Nat) : ∀  (T24 : sS) (_ : HI T24) (_ : FR md_mo_testMeant S T24) (v4 : Int), (-9 ≤ v4 ∧ v4 ≤ 23) → (Xi T24 969 (q).toNat = Xi S 952 i.toNat) → (Xi S 904 106 ≠ 0 → Xi T24 904 106 ≠ 0) → (Xi T24 904 69 = Xi S 904 69) → (KQ T24 S q) → (Xi T24 971 (q).toNat = v4) → (v4 = -9 → Xi T24 904 106 ≠ 0) → (v4 ≠ -9 → -2 ≤ v4) → (v4 ≠ -9 → thK S (0 ≤ Xi S 904 115) (0 ≤ Xi S 904 116) v4) → (Xi S 952 i.toNat ≠ 5) → (Xi S 952 i.toNat ≠ 3) → Rl lay0 (d + 6) m_mo_testMeant 277 [(0, .ref 904), (1, iv i), (2, iv q), (4, iv v4)] [] T24 (Q_mo_testMeant S n i q isNow) := by sorry
set_option maxRecDepth 100000 in
set_option maxHeartbeats 8000000 in
theorem c94_mo_testMeant {S : sS} (hH : HI S) (n : Nat) (i : Int) (q : Int) (isNow : Int) (hi : 0 ≤ i ∧ i ≤ 1699) (hq : 0 ≤ q ∧ q ≤ 2399) (hisNow : 0 ≤ isNow ∧ isNow ≤ 1) (hT : TK S n) (hv : RNV S n) (hM : LXM S) (hB : ABV S) (hC : DCM S) (hK : TXK S n) (htv : TV S n i.toNat) (hnf : NFX S isNow i) (d : Nat) : ∀  (T28 : sS) (_ : HI T28) (_ : FR md_mo_testMeant S T28), (Xi T28 969 (q).toNat = Xi S 952 i.toNat) → (Xi S 904 106 ≠ 0 → Xi T28 904 106 ≠ 0) → (Xi T28 904 69 = Xi S 904 69) → (KQ T28 S q) → (Xi S 952 i.toNat ≠ 5) → Rl lay0 (d + 6) m_mo_testMeant 94 [(0, .ref 904), (1, iv i), (2, iv q), (3, iv isNow)] [] T28 (Q_mo_testMeant S n i q isNow) := by sorry
set_option maxRecDepth 100000 in
set_option maxHeartbeats 8000000 in
theorem t_mo_testMeant {S : sS} (hH : HI S) (n : Nat) (i : Int) (q : Int) (isNow : Int) (hi : 0 ≤ i ∧ i ≤ 1699) (hq : 0 ≤ q ∧ q ≤ 2399) (hisNow : 0 ≤ isNow ∧ isNow ≤ 1) (hT : TK S n) (hv : RNV S n) (hM : LXM S) (hB : ABV S) (hC : DCM S) (hK : TXK S n) (htv : TV S n i.toNat) (hnf : NFX S isNow i) (d : Nat) : Mt lay0 (d + 7) m_mo_testMeant [.ref 904, iv i, iv q, iv isNow] S (Q_mo_testMeant S n i q isNow) := by sorry
/-! SAFETY of the reference: tests and phrases of a sentence, meant -/
/-- entries of meant tests below m stay -/
def KQL (T S : sS) (m : Int) : Prop := ∀ i : Nat, (i : Int) < m → ∀ k : Nat, 969 ≤ k → k ≤ 975 → Xi T k i = Xi S k i
theorem KQL.rf {S : sS} {m : Int} : KQL S S m := by sorry
theorem KQL.tr {S T U : sS} {m m2 : Int} (h : KQL T S m) (g : KQL U T m2) (e : m ≤ m2) : KQL U S m := by sorry
theorem KQL.q {S T U : sS} {m q : Int} (h : KQL T S m) (g : KQ U T q) (e : m ≤ q) : KQL U S m := by sorry
theorem KQL_FR {l : List rec} {T U S : sS} {m : Int} (f : FR l T U) (e : kdis l [(969, 976)] = true) (h : KQL T S m) : KQL U S m := by sorry
theorem tq_k {S T : sS} {b c : Prop} {q : Nat} (h : TQ S b c q) (hk : ∀ k : Nat, 969 ≤ k → k ≤ 975 → Xi T k q = Xi S k q) (e1 : Xi T 904 19 = Xi S 904 19) (e2 : Xi T 904 23 = Xi S 904 23) (e3 : Xi T 904 32 = Xi S 904 32) : TQ T b c q := by sorry
/-- the tests from f on, so many of them, are meant -/
def TQA (S : sS) (b c : Prop) (f v : Int) : Prop := ∀ j : Int, 0 ≤ j → j < v → TQ S b c (f + j).toNat
theorem TQA.mv {S T : sS} {b c : Prop} {f v : Int} (h : TQA S b c f v) (hk : ∀ j : Int, 0 ≤ j → j < v → ∀ k : Nat, 969 ≤ k → k ≤ 975 → Xi T k (f + j).toNat = Xi S k (f + j).toNat) (e1 : Xi T 904 19 = Xi S 904 19) (e2 : Xi T 904 23 = Xi S 904 23) (e3 : Xi T 904 32 = Xi S 904 32) : TQA T b c f v := by sorry
theorem TQA.add {S : sS} {b c : Prop} {f v : Int} (h : TQA S b c f v) (g : TQ S b c (f + v).toNat) : TQA S b c f (v + 1) := by sorry
theorem TQA.b {S : sS} {b c b2 c2 : Prop} {f v : Int} (h : TQA S b c f v) (hb : b → b2) (hc : c → c2) : TQA S b2 c2 f v := by sorry
def PQt (S : sS) (c : Prop) (w : Int) (q : Nat) : Prop := (w = 0 → 0 ≤ Xi S 973 q ∧ 0 ≤ Xi S 974 q ∧ Xi S 973 q + Xi S 974 q ≤ 5000) ∧ (w = 1 → NQ S c q) ∧ (w = 2 → thK S False c (Xi S 971 q) ∧ thK S False c (Xi S 975 q)) ∧ (w = 3 ∨ w = 4 → thK S False c (Xi S 971 q) ∧ 0 ≤ Xi S 972 q ∧ Xi S 972 q < Xi S 904 32 ∧ Xi S 928 (Xi S 972 q).toNat ≠ 1) ∧
  (w = 5 → (0 ≤ Xi S 972 q ∧ Xi S 972 q < Xi S 904 49) ∧ (Xi S 970 q = 0 → thK S False c (Xi S 971 q)) ∧ (Xi S 970 q ≠ 0 → Xi S 942 (Xi S 972 q).toNat < 0))
theorem pq_i {S : sS} {c : Prop} {i q : Nat} {w : Int} (h : PQt S c w q) (e1 : Xi S 976 i = w) (e2 : Xi S 977 i = q) (h4 : q < 2400) : PQ S c i := by sorry
theorem pqt_0 {S : sS} {c : Prop} {q : Nat} (h : 0 ≤ Xi S 973 q ∧ 0 ≤ Xi S 974 q ∧ Xi S 973 q + Xi S 974 q ≤ 5000) : PQt S c 0 q := by sorry
theorem pqt_1 {S : sS} {c : Prop} {q : Nat} (h : NQ S c q) : PQt S c 1 q := by sorry
theorem pqt_2 {S : sS} {c : Prop} {q : Nat} (h : thK S False c (Xi S 971 q)) (h2 : thK S False c (Xi S 975 q)) : PQt S c 2 q := by sorry
theorem pqt_3 {S : sS} {c : Prop} {q : Nat} {w : Int} (hw : w = 3 ∨ w = 4) (h : thK S False c (Xi S 971 q)) (h2 : 0 ≤ Xi S 972 q ∧ Xi S 972 q < Xi S 904 32) (h3 : Xi S 928 (Xi S 972 q).toNat ≠ 1) : PQt S c w q := by sorry
theorem pqt_5 {S : sS} {c : Prop} {q : Nat} (h : 0 ≤ Xi S 972 q ∧ Xi S 972 q < Xi S 904 49) (h2 : Xi S 970 q = 0 → thK S False c (Xi S 971 q)) (h3 : Xi S 970 q ≠ 0 → Xi S 942 (Xi S 972 q).toNat < 0) : PQt S c 5 q := by sorry
theorem pqt_6 {S : sS} {c : Prop} {q : Nat} : PQt S c 6 q := by sorry
/-- other phrases than p stay -/
def KH (T S : sS) (p : Int) : Prop := ∀ i : Nat, (i : Int) ≠ p → Xi T 976 i = Xi S 976 i ∧ Xi T 977 i = Xi S 977 i
theorem KH.w2 {S U1 U2 : sS} {p : Int} {j : Nat} {v w : Int32} (e1 : U1 = uI S 976 j v) (e2 : U2 = uI U1 977 j w) (hj : (j : Int) = p) : KH U2 S p := by sorry
theorem KH_FR {l : List rec} {T U S : sS} {p : Int} (f : FR l T U) (e : kdis l [(976, 978)] = true) (h : KH T S p) : KH U S p := by sorry
theorem TV_FR {l : List rec} {S T : sS} {n i : Nat} (h : FR l S T) (e : (kdis l [(907, 908), (952, 963)] && mD l [69]) = true) (hq : TV S n i) : TV T n i := by sorry
def md_mo_testsMeant : List rec := [(904, 905, 64, 65), (904, 905, 104, 105), (904, 905, 105, 106), (904, 905, 106, 107), (904, 905, 113, 114), (969, 970, 0, 100000), (970, 971, 0, 100000), (971, 972, 0, 100000), (972, 973, 0, 100000), (973, 974, 0, 100000), (974, 975, 0, 100000), (975, 976, 0, 100000)]
abbrev Q_mo_testsMeant (S : sS) (n : Nat) : pst := fun r S1 => HI S1 ∧ FR md_mo_testsMeant S S1 ∧ (r = none ∧ (Xi S 904 106 ≠ 0 → Xi S1 904 106 ≠ 0) ∧ (Xi S1 904 106 = 0 → Xi S 904 94 ≤ 6 ∧ TQA S1 (0 ≤ Xi S 904 115) (0 ≤ Xi S 904 116) (Xi S 904 117) (Xi S 904 94)) ∧ (KQL S1 S (Xi S 904 117)))
set_option maxRecDepth 100000 in
theorem t_mo_testsMeant {S : sS} (hH : HI S) (n : Nat) (hT : TK S n) (hv : RNV S n) (hM : LXM S) (hB : ABV S) (hC : DCM S) (hK : TXK S n) (htv : TVA S n (Xi S 904 94)) (h94 : Xi S 904 94 ≤ 1668) (d : Nat) : Mt lay0 (d + 8) m_mo_testsMeant [.ref 904] S (Q_mo_testsMeant S n) := by sorry
end
