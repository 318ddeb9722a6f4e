section
/-! QUESTIONS of the reference as functions: chains of kinds, first values, numbers -/
def chN (S : sS) (c : Nat) (m q : Int) : Nat → Int → Int
  | 0, _ => -1
  | f + 1, k => if k < 0 then -1 else if Xi S c (m * k + q).toNat ≠ 0 then k else chN S c m q f (Xi S 917 k.toNat)
theorem chN_st {S : sS} {c : Nat} {m q : Int} (hB : ABV S) : ∀ (f g : Nat) (k : Int), k ≤ 15 → k + 2 ≤ f → k + 2 ≤ g → chN S c m q f k = chN S c m q g k
  | 0, 0, _, _, _, _ => rfl
  | 0, g + 1, k, _, h, _ => by
    show -1 = if k < 0 then -1 else _
    rw [if_pos (by omega)]
  | f + 1, 0, k, _, _, h => by
    show (if k < 0 then -1 else _) = -1
    rw [if_pos (by omega)]
  | f + 1, g + 1, k, h1, h2, h3 => by
    show (if k < 0 then -1 else if Xi S c (m * k + q).toNat ≠ 0 then k else chN S c m q f (Xi S 917 k.toNat)) = (if k < 0 then -1 else if Xi S c (m * k + q).toNat ≠ 0 then k else chN S c m q g (Xi S 917 k.toNat))
    by_cases a : k < 0
    · rw [if_pos a, if_pos a]
    · rw [if_neg a, if_neg a]
      have b := hB k.toNat (by omega)
      rw [chN_st hB f g (Xi S 917 k.toNat) (by omega) (by omega) (by omega)]
/-- the first kind of a chain at which something is told; -1 -/
def chR (S : sS) (c : Nat) (m q k : Int) : Int := chN S c m q 17 k
theorem chR_n {S : sS} {c : Nat} {m q k : Int} (h : k < 0) : chR S c m q k = -1 := if_pos h
theorem chR_e {S : sS} {c : Nat} {m q k : Int} (h : 0 ≤ k) (e : Xi S c (m * k + q).toNat ≠ 0) : chR S c m q k = k := by
  show (if k < 0 then -1 else if Xi S c (m * k + q).toNat ≠ 0 then k else _) = k
  rw [if_neg (by omega), if_pos e]
theorem chR_s {S : sS} {c : Nat} {m q k : Int} (hB : ABV S) (h : 0 ≤ k) (h2 : k ≤ 15) (e : Xi S c (m * k + q).toNat = 0) : chR S c m q k = chR S c m q (Xi S 917 k.toNat) := by
  show (if k < 0 then -1 else if Xi S c (m * k + q).toNat ≠ 0 then k else chN S c m q 16 (Xi S 917 k.toNat)) = chN S c m q 17 (Xi S 917 k.toNat)
  have a := hB k.toNat (by omega)
  rw [if_neg (by omega), if_neg (fun x => x e), chN_st hB 16 17 _ (by omega) (by omega) (by omega)]
/-- the first value of a type; -1 -/
def fvRn (S : sS) (t : Int) : Nat → Int → Int
  | 0, _ => -1
  | n + 1, i => if Xi S 927 i.toNat = t then i else fvRn S t n (i + 1)
def fvR (S : sS) (t : Int) : Int := fvRn S t (Xi S 904 30).toNat 0
theorem fvRn_f {S : sS} {t a i : Int} (hi : i < a) (h : Xi S 927 i.toNat = t) : fvRn S t (a - i).toNat i = i := by
  rw [tn_s hi]; unfold fvRn; rw [if_pos h]
theorem fvRn_s {S : sS} {t a i : Int} (hi : i < a) (h : Xi S 927 i.toNat ≠ t) : fvRn S t (a - i).toNat i = fvRn S t (a - (i + 1)).toNat (i + 1) := by
  rw [tn_s hi]; show (if _ then _ else _) = _; rw [if_neg h]
theorem fvRn_e {S : sS} {t a i : Int} (hi : a ≤ i) : fvRn S t (a - i).toNat i = -1 := by rw [tn_z hi]; rfl
theorem fvR_0 {S : sS} {t : Int} : fvR S t = fvRn S t (Xi S 904 30 - 0).toNat 0 := by rw [Int.sub_zero]; rfl
/-- what the reference says of a property of an object, and how long -/
def nuR (S : sS) (o p : Int) : Int :=
  if Xi S 930 (12 * o + p).toNat ≠ 0 then Xi S 931 (12 * o + p).toNat
  else if chR S 933 12 p (Xi S 918 o.toNat) = -1 then (if 1 < Xi S 928 p.toNat then fvR S (Xi S 928 p.toNat) else 0)
  else Xi S 934 (12 * chR S 933 12 p (Xi S 918 o.toNat) + p).toNat
def nlR (S : sS) (o p : Int) : Int :=
  if Xi S 930 (12 * o + p).toNat ≠ 0 then Xi S 932 (12 * o + p).toNat
  else if chR S 933 12 p (Xi S 918 o.toNat) = -1 then 0
  else Xi S 935 (12 * chR S 933 12 p (Xi S 918 o.toNat) + p).toNat
theorem nu_1 {S : sS} {o p : Int} (h : Xi S 930 (12 * o + p).toNat ≠ 0) : nuR S o p = Xi S 931 (12 * o + p).toNat ∧ nlR S o p = Xi S 932 (12 * o + p).toNat := ⟨if_pos h, if_pos h⟩
theorem nu_2 {S : sS} {o p k : Int} (h : Xi S 930 (12 * o + p).toNat = 0) (c : chR S 933 12 p (Xi S 918 o.toNat) = k) (n : k ≠ -1) : nuR S o p = Xi S 934 (12 * k + p).toNat ∧ nlR S o p = Xi S 935 (12 * k + p).toNat := by
  exact ⟨by unfold nuR; rw [if_neg (fun x => x h), c, if_neg n], by unfold nlR; rw [if_neg (fun x => x h), c, if_neg n]⟩
theorem nu_3 {S : sS} {o p : Int} (h : Xi S 930 (12 * o + p).toNat = 0) (c : chR S 933 12 p (Xi S 918 o.toNat) = -1) (n : 1 < Xi S 928 p.toNat) : nuR S o p = fvR S (Xi S 928 p.toNat) ∧ nlR S o p = 0 := by
  exact ⟨by unfold nuR; rw [if_neg (fun x => x h), if_pos c, if_pos n], by unfold nlR; rw [if_neg (fun x => x h), if_pos c]⟩
theorem nu_4 {S : sS} {o p : Int} (h : Xi S 930 (12 * o + p).toNat = 0) (c : chR S 933 12 p (Xi S 918 o.toNat) = -1) (n : Xi S 928 p.toNat ≤ 1) : nuR S o p = 0 ∧ nlR S o p = 0 := by
  exact ⟨by unfold nuR; rw [if_neg (fun x => x h), if_pos c, if_neg (by omega)], by unfold nlR; rw [if_neg (fun x => x h), if_pos c]⟩
/-- ways -/
def fwN (S : sS) (c : Nat) (room d : Int) : Nat → Int → Int
  | 0, _ => -1
  | n + 1, i => if Xi S c i.toNat = room ∧ Xi S 944 i.toNat = d then i else fwN S c room d n (i + 1)
theorem fwN_f {S : sS} {c : Nat} {room d a i : Int} (hi : i < a) (h : Xi S c i.toNat = room) (h2 : Xi S 944 i.toNat = d) : fwN S c room d (a - i).toNat i = i := by
  rw [tn_s hi]; unfold fwN; rw [if_pos ⟨h, h2⟩]
theorem fwN_s {S : sS} {c : Nat} {room d a i : Int} (hi : i < a) (h : ¬ (Xi S c i.toNat = room ∧ Xi S 944 i.toNat = d)) : fwN S c room d (a - i).toNat i = fwN S c room d (a - (i + 1)).toNat (i + 1) := by
  rw [tn_s hi]; show (if _ then _ else _) = _; rw [if_neg h]
theorem fwN_e {S : sS} {c : Nat} {room d a i : Int} (hi : a ≤ i) : fwN S c room d (a - i).toNat i = -1 := by rw [tn_z hi]; rfl
def fwR (S : sS) (c : Nat) (room d : Int) : Int := fwN S c room d (Xi S 904 51 - 0).toNat 0
def ldR (S : sS) (room d : Int) : Int := if fwR S 943 room d ≠ -1 then Xi S 945 (fwR S 943 room d).toNat else if fwR S 945 room (ixorF d 1) ≠ -1 then Xi S 943 (fwR S 945 room (ixorF d 1)).toNat else -1
theorem ld_1 {S : sS} {room d i : Int} (h : fwR S 943 room d = i) (n : i ≠ -1) : ldR S room d = Xi S 945 i.toNat := by unfold ldR; rw [h, if_pos n]
theorem ld_2 {S : sS} {room d i : Int} (h : fwR S 943 room d = -1) (g : fwR S 945 room (ixorF d 1) = i) (n : i ≠ -1) : ldR S room d = Xi S 943 i.toNat := by unfold ldR; rw [h, if_neg (fun x => x rfl), g, if_pos n]
theorem ld_3 {S : sS} {room d : Int} (h : fwR S 943 room d = -1) (g : fwR S 945 room (ixorF d 1) = -1) : ldR S room d = -1 := by unfold ldR; rw [h, if_neg (fun x => x rfl), g, if_neg (fun x => x rfl)]
/-- how many properties, how many adjectives a kind has -/
def npN (S : sS) (k : Int) : Nat → Int
  | 0 => 0
  | n + 1 => npN S k n + (if hsR S k n = 0 then 0 else 1)
def naN (S : sS) (k : Int) : Nat → Int
  | 0 => 0
  | n + 1 => naN S k n + (if blR S k (Xi S 921 n) = 0 then 0 else 1)
theorem npN_s {S : sS} {k i c z x : Int} (h : c = npN S k i.toNat) (i0 : 0 ≤ i) (e : z = hsR S k i) (hz : (z = 0 → x = 0) ∧ (z ≠ 0 → x = 1)) : c + x = npN S k (i + 1).toNat := by
  rw [show (i + 1).toNat = i.toNat + 1 by omega]
  show _ = npN S k i.toNat + (if hsR S k (i.toNat : Int) = 0 then 0 else 1)
  rw [show ((i.toNat : Nat) : Int) = i by omega, ← e, ← h]
  by_cases q : z = 0
  · rw [if_pos q, hz.1 q]
  · rw [if_neg q, hz.2 q]
theorem naN_s {S : sS} {k i c z x : Int} (h : c = naN S k i.toNat) (i0 : 0 ≤ i) (e : z = blR S k (Xi S 921 i.toNat)) (hz : (z = 0 → x = 0) ∧ (z ≠ 0 → x = 1)) : c + x = naN S k (i + 1).toNat := by
  rw [show (i + 1).toNat = i.toNat + 1 by omega]
  show _ = naN S k i.toNat + (if blR S k (Xi S 921 i.toNat) = 0 then 0 else 1)
  rw [← e, ← h]
  by_cases q : z = 0
  · rw [if_pos q, hz.1 q]
  · rw [if_neg q, hz.2 q]

abbrev Q_rs_isObject__q (S : sS) (i : Int) : pst := fun r S1 => S = S1 ∧ (∃ z : Int, r = some (iv z) ∧ (0 ≤ z ∧ z ≤ 1) ∧ (z = 1 → 0 ≤ i ∧ i ≤ 23) ∧ ((z = 1 → 0 ≤ i ∧ i < Xi S 5 2) ∧ (z = 0 → i < 0 ∨ Xi S 5 2 ≤ i)))
set_option maxRecDepth 100000 in
theorem t_rs_isObject__q {S : sS} (hH : HI S) (i : Int) (hi : -2147483648 ≤ i ∧ i ≤ 2147483647) (d : Nat) : Mt lay0 (d + 2) m_rs_isObject [.ref 0, iv i] S (Q_rs_isObject__q S i) := by
  refine Mt_R rfl rfl ?_
  have w1 : 0 ≤ Xi S 5 2 ∧ Xi S 5 2 ≤ 24 := hH.c _ _
  refine l_iload_n rfl rfl ?_
  refine l_if_lt rfl rfl (by unfold rg; omega) (fun w2 => ?_) (fun w3 => ?_)
  · refine l_iconst rfl ?_
    refine l_ireturn rfl rfl ?_
    exact ⟨rfl, _, rfl, ⟨by omega, by omega⟩, (by first | assumption | omega), (by omega)⟩
  · refine l_iload_n rfl rfl ?_
    refine l_aload_n rfl rfl ?_
    refine l_gfr rfl rfl rfl rfl rfl (hH.r 0 0 1 rfl) ?_
    refine l_iconst rfl ?_
    refine l_callV rfl rfl rfl (t_vo_countOf hH 2 ⟨by omega, by omega⟩ _) ?_
    rintro _ _ ⟨rfl, z7, rfl, w7, w4, w5, w6⟩
    have w8 : z7 = Xi S 5 2 ∧ 0 ≤ Xi S 5 2 ∧ Xi S 5 2 ≤ 24 := ⟨(w4 (by omega) (by omega)).1, hH.c 5 2⟩
    clear w4 w5 w6
    show Rl _ _ _ _ _ [iv z7, iv i] _ _
    refine l_icmp_ge rfl rfl (by unfold rg; omega) (by unfold rg; omega) (fun w9 => ?_) (fun w10 => ?_)
    · refine l_iconst rfl ?_
      refine l_ireturn rfl rfl ?_
      exact ⟨rfl, _, rfl, ⟨by omega, by omega⟩, (by first | assumption | omega), (by omega)⟩
    · refine l_iconst rfl ?_
      refine l_goto rfl rfl ?_
      refine l_ireturn rfl rfl ?_
      exact ⟨rfl, _, rfl, ⟨by omega, by omega⟩, (by first | assumption | omega), (by omega)⟩
abbrev Q_rs_told__q (S : sS) (w : Int) : pst := fun r S1 => S = S1 ∧ (∃ z : Int, r = some (iv z) ∧ (-1 ≤ z ∧ z ≤ 64) ∧ ((w = 9 → z = Xi S 246 2) ∧ (w = 10 → z = Xi S 882 3) ∧ (0 ≤ w → w ≤ 8 → z = Xi S 5 w.toNat) ∧ (w < 0 ∨ 10 < w → z = -1)))
set_option maxRecDepth 100000 in
theorem t_rs_told__q {S : sS} (hH : HI S) (w : Int) (hw : -2147483648 ≤ w ∧ w ≤ 2147483647) (d : Nat) : Mt lay0 (d + 2) m_rs_told [.ref 0, iv w] S (Q_rs_told__q S w) := by
  refine Mt_R rfl rfl ?_
  have w1 : 0 ≤ Xi S 246 2 ∧ Xi S 246 2 ≤ 24 := hH.c _ _
  have w2 : 0 ≤ Xi S 882 3 ∧ Xi S 882 3 ≤ 20 := hH.c _ _
  refine l_iload_n rfl rfl ?_
  refine l_bipush rfl rfl ?_
  refine l_icmp_ne rfl rfl (by unfold rg; omega) (by unfold rg; omega) (fun w3 => ?_) (fun w4 => ?_)
  · refine l_iload_n rfl rfl ?_
    refine l_bipush rfl rfl ?_
    refine l_icmp_ne rfl rfl (by unfold rg; omega) (by unfold rg; omega) (fun w5 => ?_) (fun w6 => ?_)
    · refine l_aload_n rfl rfl ?_
      refine l_gfr rfl rfl rfl rfl rfl (hH.r 0 0 1 rfl) ?_
      refine l_iload_n rfl rfl ?_
      refine l_callV rfl rfl rfl (t_vo_countOf hH w ⟨by omega, by omega⟩ _) ?_
      rintro _ _ ⟨rfl, z10, rfl, w10, w7, w8, w9⟩
      show Rl _ _ _ _ _ [iv z10] _ _
      refine l_ireturn rfl rfl ?_
      exact ⟨rfl, _, rfl, ⟨by omega, by omega⟩, (by omega)⟩
    · refine l_aload_n rfl rfl ?_
      refine l_gfr rfl rfl rfl rfl rfl (hH.r 0 3 882 rfl) ?_
      refine l_gfi rfl rfl rfl rfl rfl ?_
      refine l_ireturn rfl rfl ?_
      exact ⟨rfl, _, rfl, ⟨by omega, by omega⟩, (by omega)⟩
  · refine l_aload_n rfl rfl ?_
    refine l_gfr rfl rfl rfl rfl rfl (hH.r 0 2 246 rfl) ?_
    refine l_gfi rfl rfl rfl rfl rfl ?_
    refine l_ireturn rfl rfl ?_
    exact ⟨rfl, _, rfl, ⟨by omega, by omega⟩, (by omega)⟩
abbrev Q_rs_object__q (S : sS) (i : Int) (w : Int) : pst := fun r S1 => S = S1 ∧ (∃ z : Int, r = some (iv z) ∧ (-1 ≤ z ∧ z ≤ 23) ∧ ((i < 0 ∨ Xi S 5 2 ≤ i → z = -1) ∧ (0 ≤ i → i < Xi S 5 2 → (w = 0 → z = Xi S 21 i.toNat) ∧ (w = 1 → z = Xi S 22 i.toNat) ∧ (w = 2 → z = Xi S 23 i.toNat) ∧ (w < 0 ∨ 2 < w → z = -1))))
set_option maxRecDepth 100000 in
theorem t_rs_object__q {S : sS} (hH : HI S) (i : Int) (w : Int) (hi : -2147483648 ≤ i ∧ i ≤ 2147483647) (hw : -2147483648 ≤ w ∧ w ≤ 2147483647) (d : Nat) : Mt lay0 (d + 3) m_rs_object [.ref 0, iv i, iv w] S (Q_rs_object__q S i w) := by
  refine Mt_R rfl rfl ?_
  have w1 : 0 ≤ Xi S 5 2 ∧ Xi S 5 2 ≤ 24 := hH.c _ _
  refine l_aload_n rfl rfl ?_
  refine l_iload_n rfl rfl ?_
  refine l_callV rfl rfl rfl (t_rs_isObject__q hH i ⟨by omega, by omega⟩ _) ?_
  rintro _ _ ⟨rfl, z5, rfl, w5, w3, w4⟩
  show Rl _ _ _ _ _ [iv z5] _ _
  refine l_if_ne rfl rfl (by unfold rg; omega) (fun w6 => ?_) (fun w7 => ?_)
  · refine l_iload_n rfl rfl ?_
    refine l_tsw rfl rfl rfl rfl (by unfold rg; omega) (fun w8 => ?_) (fun ii tt hii w8 => ?_)
    · refine l_iconst rfl ?_
      refine l_ireturn rfl rfl ?_
      exact ⟨rfl, _, rfl, ⟨by omega, by omega⟩, (by omega)⟩
    · match ii, hii with
      | 0, hii =>
        cases hii
        have w9 : w = 0 := by simpa using w8
        refine l_aload_n rfl rfl ?_
        refine l_gfr rfl rfl rfl rfl rfl (hH.r 0 1 20 rfl) ?_
        refine l_gfr rfl rfl rfl rfl rfl (hH.r 20 2 21 rfl) ?_
        refine l_iload_n rfl rfl ?_
        refine l_iaload (n := 24) rfl rfl (by omega) (by omega) (by unfold rg; omega) ?_
        have w10 : 0 ≤ (Xi S 21 ((i).toNat)) ∧ (Xi S 21 ((i).toNat)) ≤ 15 := hH.c _ _
        refine l_ireturn rfl rfl ?_
        exact ⟨rfl, _, rfl, ⟨by omega, by omega⟩, (by omega)⟩
      | 1, hii =>
        cases hii
        have w11 : w = 1 := by simpa using w8
        refine l_aload_n rfl rfl ?_
        refine l_gfr rfl rfl rfl rfl rfl (hH.r 0 1 20 rfl) ?_
        refine l_gfr rfl rfl rfl rfl rfl (hH.r 20 3 22 rfl) ?_
        refine l_iload_n rfl rfl ?_
        refine l_iaload (n := 24) rfl rfl (by omega) (by omega) (by unfold rg; omega) ?_
        have w12 : 0 ≤ (Xi S 22 ((i).toNat)) ∧ (Xi S 22 ((i).toNat)) ≤ 5 := hH.c _ _
        refine l_ireturn rfl rfl ?_
        exact ⟨rfl, _, rfl, ⟨by omega, by omega⟩, (by omega)⟩
      | 2, hii =>
        cases hii
        have w13 : w = 2 := by simpa using w8
        refine l_aload_n rfl rfl ?_
        refine l_gfr rfl rfl rfl rfl rfl (hH.r 0 1 20 rfl) ?_
        refine l_gfr rfl rfl rfl rfl rfl (hH.r 20 4 23 rfl) ?_
        refine l_iload_n rfl rfl ?_
        refine l_iaload (n := 24) rfl rfl (by omega) (by omega) (by unfold rg; omega) ?_
        have w14 : -1 ≤ (Xi S 23 ((i).toNat)) ∧ (Xi S 23 ((i).toNat)) ≤ 23 := hH.c _ _
        refine l_ireturn rfl rfl ?_
        exact ⟨rfl, _, rfl, ⟨by omega, by omega⟩, (by omega)⟩
      | n + 3, hii => exact absurd hii (by simp)
  · refine l_iconst rfl ?_
    refine l_ireturn rfl rfl ?_
    exact ⟨rfl, _, rfl, ⟨by omega, by omega⟩, (by omega)⟩
abbrev Q_rs_leads__q (S : sS) (room : Int) (dir : Int) : pst := fun r S1 => S = S1 ∧ (∃ z : Int, r = some (iv z) ∧ (-1 ≤ z ∧ z ≤ 23) ∧ (((room < 0 ∨ Xi S 5 2 ≤ room ∨ dir < 0 ∨ 6 ≤ dir) → z = -1) ∧ (0 ≤ room → room < Xi S 5 2 → 0 ≤ dir → dir < 6 → z = rbh S room dir)))
set_option maxRecDepth 100000 in
theorem t_rs_leads__q {S : sS} (hH : HI S) (room : Int) (dir : Int) (hroom : -2147483648 ≤ room ∧ room ≤ 2147483647) (hdir : -2147483648 ≤ dir ∧ dir ≤ 2147483647) (d : Nat) : Mt lay0 (d + 3) m_rs_leads [.ref 0, iv room, iv dir] S (Q_rs_leads__q S room dir) := by
  refine Mt_R rfl rfl ?_
  have w1 : 0 ≤ Xi S 5 2 ∧ Xi S 5 2 ≤ 24 := hH.c _ _
  refine l_aload_n rfl rfl ?_
  refine l_iload_n rfl rfl ?_
  refine l_callV rfl rfl rfl (t_rs_isObject__q hH room ⟨by omega, by omega⟩ _) ?_
  rintro _ _ ⟨rfl, z5, rfl, w5, w3, w4⟩
  show Rl _ _ _ _ _ [iv z5] _ _
  refine l_if_eq rfl rfl (by unfold rg; omega) (fun w6 => ?_) (fun w7 => ?_)
  · refine l_iconst rfl ?_
    refine l_ireturn rfl rfl ?_
    exact ⟨rfl, _, rfl, ⟨by omega, by omega⟩, (by omega)⟩
  · refine l_iload_n rfl rfl ?_
    refine l_if_lt rfl rfl (by unfold rg; omega) (fun w8 => ?_) (fun w9 => ?_)
    · refine l_iconst rfl ?_
      refine l_ireturn rfl rfl ?_
      exact ⟨rfl, _, rfl, ⟨by omega, by omega⟩, (by omega)⟩
    · refine l_iload_n rfl rfl ?_
      refine l_bipush rfl rfl ?_
      refine l_icmp_lt rfl rfl (by unfold rg; omega) (by unfold rg; omega) (fun w10 => ?_) (fun w11 => ?_)
      · refine l_aload_n rfl rfl ?_
        refine l_gfr rfl rfl rfl rfl rfl (hH.r 0 1 20 rfl) ?_
        refine l_iload_n rfl rfl ?_
        refine l_iload_n rfl rfl ?_
        refine l_callV rfl rfl rfl (t_wo_roomBehind hH room dir ⟨by omega, by omega⟩ ⟨by omega, by omega⟩ _) ?_
        rintro _ _ ⟨rfl, z13, rfl, w13, w12⟩
        show Rl _ _ _ _ _ [iv z13] _ _
        refine l_ireturn rfl rfl ?_
        exact ⟨rfl, _, rfl, ⟨by omega, by omega⟩, (by omega)⟩
      · refine l_iconst rfl ?_
        refine l_ireturn rfl rfl ?_
        exact ⟨rfl, _, rfl, ⟨by omega, by omega⟩, (by omega)⟩
abbrev Q_rs_related__q (S : sS) (rl : Int) (a : Int) (b : Int) : pst := fun r S1 => S = S1 ∧ (∃ z : Int, r = some (iv z) ∧ (0 ≤ z ∧ z ≤ 1) ∧ (((rl < 0 ∨ Xi S 5 6 ≤ rl ∨ a < 0 ∨ Xi S 5 2 ≤ a ∨ b < 0 ∨ Xi S 5 2 ≤ b) → z = 0) ∧ (0 ≤ rl → rl < Xi S 5 6 → 0 ≤ a → a < Xi S 5 2 → 0 ≤ b → b < Xi S 5 2 → z = relF S rl a b)))
set_option maxRecDepth 100000 in
theorem t_rs_related__q {S : sS} (hH : HI S) (rl : Int) (a : Int) (b : Int) (hrl : -2147483648 ≤ rl ∧ rl ≤ 2147483647) (ha : -2147483648 ≤ a ∧ a ≤ 2147483647) (hb : -2147483648 ≤ b ∧ b ≤ 2147483647) (d : Nat) : Mt lay0 (d + 3) m_rs_related [.ref 0, iv rl, iv a, iv b] S (Q_rs_related__q S rl a b) := by
  refine Mt_R rfl rfl ?_
  have w1 : 0 ≤ Xi S 5 2 ∧ Xi S 5 2 ≤ 24 := hH.c _ _
  have w2 : 0 ≤ Xi S 5 6 ∧ Xi S 5 6 ≤ 6 := hH.c _ _
  refine l_iload_n rfl rfl ?_
  refine l_if_lt rfl rfl (by unfold rg; omega) (fun w3 => ?_) (fun w4 => ?_)
  · refine l_iconst rfl ?_
    refine l_ireturn rfl rfl ?_
    exact ⟨rfl, _, rfl, ⟨by omega, by omega⟩, (by omega)⟩
  · refine l_iload_n rfl rfl ?_
    refine l_aload_n rfl rfl ?_
    refine l_gfr rfl rfl rfl rfl rfl (hH.r 0 0 1 rfl) ?_
    refine l_bipush rfl rfl ?_
    refine l_callV rfl rfl rfl (t_vo_countOf hH 6 ⟨by omega, by omega⟩ _) ?_
    rintro _ _ ⟨rfl, z8, rfl, w8, w5, w6, w7⟩
    have w9 : z8 = Xi S 5 6 ∧ 0 ≤ Xi S 5 6 ∧ Xi S 5 6 ≤ 6 := ⟨(w5 (by omega) (by omega)).1, hH.c 5 6⟩
    clear w5 w6 w7
    show Rl _ _ _ _ _ [iv z8, iv rl] _ _
    refine l_icmp_ge rfl rfl (by unfold rg; omega) (by unfold rg; omega) (fun w10 => ?_) (fun w11 => ?_)
    · refine l_iconst rfl ?_
      refine l_ireturn rfl rfl ?_
      exact ⟨rfl, _, rfl, ⟨by omega, by omega⟩, (by omega)⟩
    · refine l_aload_n rfl rfl ?_
      refine l_iload_n rfl rfl ?_
      refine l_callV rfl rfl rfl (t_rs_isObject__q hH a ⟨by omega, by omega⟩ _) ?_
      rintro _ _ ⟨rfl, z15, rfl, w15, w13, w14⟩
      show Rl _ _ _ _ _ [iv z15] _ _
      refine l_if_eq rfl rfl (by unfold rg; omega) (fun w16 => ?_) (fun w17 => ?_)
      · refine l_iconst rfl ?_
        refine l_ireturn rfl rfl ?_
        exact ⟨rfl, _, rfl, ⟨by omega, by omega⟩, (by omega)⟩
      · refine l_aload_n rfl rfl ?_
        refine l_iload_n rfl rfl ?_
        refine l_callV rfl rfl rfl (t_rs_isObject__q hH b ⟨by omega, by omega⟩ _) ?_
        rintro _ _ ⟨rfl, z21, rfl, w21, w19, w20⟩
        show Rl _ _ _ _ _ [iv z21] _ _
        refine l_if_eq rfl rfl (by unfold rg; omega) (fun w22 => ?_) (fun w23 => ?_)
        · refine l_iconst rfl ?_
          refine l_ireturn rfl rfl ?_
          exact ⟨rfl, _, rfl, ⟨by omega, by omega⟩, (by omega)⟩
        · refine l_aload_n rfl rfl ?_
          refine l_gfr rfl rfl rfl rfl rfl (hH.r 0 1 20 rfl) ?_
          refine l_iload_n rfl rfl ?_
          refine l_iload_n rfl rfl ?_
          refine l_iload_n rfl rfl ?_
          refine l_callV rfl rfl rfl (t_wo_isRelated hH rl a b ⟨by omega, by omega⟩ ⟨by omega, by omega⟩ ⟨by omega, by omega⟩ _) ?_
          rintro _ _ ⟨rfl, z25, rfl, w25, w24⟩
          show Rl _ _ _ _ _ [iv z25] _ _
          refine l_if_eq rfl rfl (by unfold rg; omega) (fun w26 => ?_) (fun w27 => ?_)
          · refine l_iconst rfl ?_
            refine l_ireturn rfl rfl ?_
            exact ⟨rfl, _, rfl, ⟨by omega, by omega⟩, (by omega)⟩
          · refine l_iconst rfl ?_
            refine l_goto rfl rfl ?_
            refine l_ireturn rfl rfl ?_
            exact ⟨rfl, _, rfl, ⟨by omega, by omega⟩, (by omega)⟩
abbrev Q_rs_hasProperty__q (S : sS) (o : Int) (p : Int) : pst := fun r S1 => S = S1 ∧ (∃ z : Int, r = some (iv z) ∧ (0 ≤ z ∧ z ≤ 1) ∧ (z = 1 → 0 ≤ o ∧ o ≤ 23 ∧ 0 ≤ p ∧ p ≤ 11) ∧ ((z = 1 → (0 ≤ o ∧ o < Xi S 5 2) ∧ (0 ≤ p ∧ p < Xi S 5 5) ∧ iandF (ishrF (pps S (Xi S 21 o.toNat)) p) 1 = 1) ∧ (z = 0 → (o < 0 ∨ Xi S 5 2 ≤ o) ∨ (p < 0 ∨ Xi S 5 5 ≤ p) ∨ iandF (ishrF (pps S (Xi S 21 o.toNat)) p) 1 ≠ 1)))
set_option maxRecDepth 100000 in
theorem t_rs_hasProperty__q {S : sS} (hH : HI S) (o : Int) (p : Int) (ho : -2147483648 ≤ o ∧ o ≤ 2147483647) (hp : -2147483648 ≤ p ∧ p ≤ 2147483647) (d : Nat) : Mt lay0 (d + 3) m_rs_hasProperty [.ref 0, iv o, iv p] S (Q_rs_hasProperty__q S o p) := by
  refine Mt_R rfl rfl ?_
  have w1 : 0 ≤ Xi S 5 2 ∧ Xi S 5 2 ≤ 24 := hH.c _ _
  have w2 : 0 ≤ Xi S 5 5 ∧ Xi S 5 5 ≤ 12 := hH.c _ _
  refine l_aload_n rfl rfl ?_
  refine l_iload_n rfl rfl ?_
  refine l_callV rfl rfl rfl (t_rs_isObject__q hH o ⟨by omega, by omega⟩ _) ?_
  rintro _ _ ⟨rfl, z6, rfl, w6, w4, w5⟩
  show Rl _ _ _ _ _ [iv z6] _ _
  refine l_if_eq rfl rfl (by unfold rg; omega) (fun w7 => ?_) (fun w8 => ?_)
  · refine l_iconst rfl ?_
    refine l_ireturn rfl rfl ?_
    exact ⟨rfl, _, rfl, ⟨by omega, by omega⟩, (by first | assumption | omega), (by omega)⟩
  · refine l_iload_n rfl rfl ?_
    refine l_if_lt rfl rfl (by unfold rg; omega) (fun w9 => ?_) (fun w10 => ?_)
    · refine l_iconst rfl ?_
      refine l_ireturn rfl rfl ?_
      exact ⟨rfl, _, rfl, ⟨by omega, by omega⟩, (by first | assumption | omega), (by omega)⟩
    · refine l_iload_n rfl rfl ?_
      refine l_aload_n rfl rfl ?_
      refine l_gfr rfl rfl rfl rfl rfl (hH.r 0 0 1 rfl) ?_
      refine l_iconst rfl ?_
      refine l_callV rfl rfl rfl (t_vo_countOf hH 5 ⟨by omega, by omega⟩ _) ?_
      rintro _ _ ⟨rfl, z14, rfl, w14, w11, w12, w13⟩
      have w15 : z14 = Xi S 5 5 ∧ 0 ≤ Xi S 5 5 ∧ Xi S 5 5 ≤ 12 := ⟨(w11 (by omega) (by omega)).1, hH.c 5 5⟩
      clear w11 w12 w13
      show Rl _ _ _ _ _ [iv z14, iv p] _ _
      refine l_icmp_ge rfl rfl (by unfold rg; omega) (by unfold rg; omega) (fun w16 => ?_) (fun w17 => ?_)
      · refine l_iconst rfl ?_
        refine l_ireturn rfl rfl ?_
        exact ⟨rfl, _, rfl, ⟨by omega, by omega⟩, (by first | assumption | omega), (by omega)⟩
      · refine l_aload_n rfl rfl ?_
        refine l_gfr rfl rfl rfl rfl rfl (hH.r 0 0 1 rfl) ?_
        refine l_aload_n rfl rfl ?_
        refine l_gfr rfl rfl rfl rfl rfl (hH.r 0 1 20 rfl) ?_
        refine l_gfr rfl rfl rfl rfl rfl (hH.r 20 2 21 rfl) ?_
        refine l_iload_n rfl rfl ?_
        refine l_iaload (n := 24) rfl rfl (by omega) (by omega) (by unfold rg; omega) ?_
        have w18 : 0 ≤ (Xi S 21 ((o).toNat)) ∧ (Xi S 21 ((o).toNat)) ≤ 15 := hH.c _ _
        refine l_callV rfl rfl rfl (t_vo_propertiesOf hH (Xi S 21 ((o).toNat)) ⟨by omega, by omega⟩ _) ?_
        rintro _ _ ⟨rfl, z19, rfl, w19, q37⟩
        show Rl _ _ _ _ _ [iv z19] _ _
        refine l_iload_n rfl rfl ?_
        refine l_ishrF rfl ?_
        have w20 : -2147483648 ≤ (ishrF z19 p) ∧ (ishrF z19 p) ≤ 2147483647 := ishrF_rg
        refine l_iconst rfl ?_
        refine l_iandF rfl ?_
        have w21 : 0 ≤ (iandF (ishrF z19 p) 1) ∧ (iandF (ishrF z19 p) 1) ≤ 1 := iandF_le (by omega) (by unfold rg; omega)
        have e43 : (iandF (ishrF z19 p) 1) = iandF (ishrF (pps S (Xi S 21 o.toNat)) p) 1 := by rw [← q37]
        refine l_iconst rfl ?_
        refine l_icmp_ne rfl rfl (by unfold rg; omega) (by unfold rg; omega) (fun w22 => ?_) (fun w23 => ?_)
        · refine l_iconst rfl ?_
          refine l_ireturn rfl rfl ?_
          exact ⟨rfl, _, rfl, ⟨by omega, by omega⟩, (by first | assumption | omega), (by omega)⟩
        · refine l_iconst rfl ?_
          refine l_goto rfl rfl ?_
          refine l_ireturn rfl rfl ?_
          exact ⟨rfl, _, rfl, ⟨by omega, by omega⟩, (by first | assumption | omega), (by omega)⟩
abbrev Q_rs_property__q (S : sS) (o : Int) (p : Int) : pst := fun r S1 => S = S1 ∧ (∃ z : Int, r = some (iv z) ∧ (-2147483648 ≤ z ∧ z ≤ 2147483647) ∧ (((0 ≤ o ∧ o < Xi S 5 2) ∧ (0 ≤ p ∧ p < Xi S 5 5) ∧ iandF (ishrF (pps S (Xi S 21 o.toNat)) p) 1 = 1 → (Xi S 9 p.toNat = 1 → z = lof S o p.toNat) ∧ (Xi S 9 p.toNat ≠ 1 → z = vof S o p.toNat)) ∧ (¬ ((0 ≤ o ∧ o < Xi S 5 2) ∧ (0 ≤ p ∧ p < Xi S 5 5) ∧ iandF (ishrF (pps S (Xi S 21 o.toNat)) p) 1 = 1) → z = -1)))
set_option maxRecDepth 100000 in
theorem t_rs_property__q {S : sS} (hH : HI S) (o : Int) (p : Int) (ho : -2147483648 ≤ o ∧ o ≤ 2147483647) (hp : -2147483648 ≤ p ∧ p ≤ 2147483647) (d : Nat) : Mt lay0 (d + 4) m_rs_property [.ref 0, iv o, iv p] S (Q_rs_property__q S o p) := by
  refine Mt_R rfl rfl ?_
  have w1 : 0 ≤ Xi S 5 2 ∧ Xi S 5 2 ≤ 24 := hH.c _ _
  have w2 : 0 ≤ Xi S 5 5 ∧ Xi S 5 5 ≤ 12 := hH.c _ _
  refine l_aload_n rfl rfl ?_
  refine l_iload_n rfl rfl ?_
  refine l_iload_n rfl rfl ?_
  refine l_callV rfl rfl rfl (t_rs_hasProperty__q hH o p ⟨by omega, by omega⟩ ⟨by omega, by omega⟩ _) ?_
  rintro _ _ ⟨rfl, z7, rfl, w7, w5, w6⟩
  show Rl _ _ _ _ _ [iv z7] _ _
  refine l_if_ne rfl rfl (by unfold rg; omega) (fun w8 => ?_) (fun w9 => ?_)
  · refine l_aload_n rfl rfl ?_
    refine l_gfr rfl rfl rfl rfl rfl (hH.r 0 0 1 rfl) ?_
    refine l_gfr rfl rfl rfl rfl rfl (hH.r 1 8 9 rfl) ?_
    refine l_iload_n rfl rfl ?_
    refine l_iaload (n := 12) rfl rfl (by omega) (by omega) (by unfold rg; omega) ?_
    have w10 : 0 ≤ (Xi S 9 ((p).toNat)) ∧ (Xi S 9 ((p).toNat)) ≤ 7 := hH.c _ _
    refine l_iconst rfl ?_
    refine l_icmp_ne rfl rfl (by unfold rg; omega) (by unfold rg; omega) (fun w11 => ?_) (fun w12 => ?_)
    · refine l_aload_n rfl rfl ?_
      refine l_gfr rfl rfl rfl rfl rfl (hH.r 0 1 20 rfl) ?_
      refine l_iload_n rfl rfl ?_
      refine l_iload_n rfl rfl ?_
      refine l_callV rfl rfl rfl (t_wo_valueOf hH o p ⟨by omega, by omega⟩ ⟨by omega, by omega⟩ _) ?_
      rintro _ _ ⟨rfl, z14, rfl, w14, w13⟩
      show Rl _ _ _ _ _ [iv z14] _ _
      refine l_ireturn rfl rfl ?_
      exact ⟨rfl, _, rfl, ⟨by omega, by omega⟩, (by omega)⟩
    · refine l_aload_n rfl rfl ?_
      refine l_gfr rfl rfl rfl rfl rfl (hH.r 0 1 20 rfl) ?_
      refine l_iload_n rfl rfl ?_
      refine l_iload_n rfl rfl ?_
      refine l_callV rfl rfl rfl (t_wo_lengthOf hH o p ⟨by omega, by omega⟩ ⟨by omega, by omega⟩ _) ?_
      rintro _ _ ⟨rfl, z16, rfl, w16, w15⟩
      show Rl _ _ _ _ _ [iv z16] _ _
      refine l_goto rfl rfl ?_
      refine l_ireturn rfl rfl ?_
      exact ⟨rfl, _, rfl, ⟨by omega, by omega⟩, (by omega)⟩
  · refine l_iconst rfl ?_
    refine l_ireturn rfl rfl ?_
    exact ⟨rfl, _, rfl, ⟨by omega, by omega⟩, (by omega)⟩
abbrev Q_rs_letter__q (S : sS) (o : Int) (p : Int) (k : Int) : pst := fun r S1 => S = S1 ∧ (∃ z : Int, r = some (iv z) ∧ (-1 ≤ z ∧ z ≤ 255) ∧ ((((0 ≤ o ∧ o < Xi S 5 2) ∧ (0 ≤ p ∧ p < Xi S 5 5) ∧ iandF (ishrF (pps S (Xi S 21 o.toNat)) p) 1 = 1) ∧ Xi S 9 p.toNat = 1 ∧ 0 ≤ k ∧ k < lof S o p.toNat → z = Xi S (txr S) (vof S o p.toNat + k).toNat % 256) ∧ (¬ (((0 ≤ o ∧ o < Xi S 5 2) ∧ (0 ≤ p ∧ p < Xi S 5 5) ∧ iandF (ishrF (pps S (Xi S 21 o.toNat)) p) 1 = 1) ∧ Xi S 9 p.toNat = 1 ∧ 0 ≤ k ∧ k < lof S o p.toNat) → z = -1)))
set_option maxRecDepth 100000 in
theorem t_rs_letter__q {S : sS} (hH : HI S) (o : Int) (p : Int) (k : Int) (ho : -2147483648 ≤ o ∧ o ≤ 2147483647) (hp : -2147483648 ≤ p ∧ p ≤ 2147483647) (hk : -2147483648 ≤ k ∧ k ≤ 2147483647) (hX : TX S) (d : Nat) : Mt lay0 (d + 4) m_rs_letter [.ref 0, iv o, iv p, iv k] S (Q_rs_letter__q S o p k) := by
  refine Mt_R rfl rfl ?_
  have w1 : 0 ≤ Xi S 5 2 ∧ Xi S 5 2 ≤ 24 := hH.c _ _
  have w2 : 0 ≤ Xi S 5 5 ∧ Xi S 5 5 ≤ 12 := hH.c _ _
  refine l_aload_n rfl rfl ?_
  refine l_iload_n rfl rfl ?_
  refine l_iload_n rfl rfl ?_
  refine l_callV rfl rfl rfl (t_rs_hasProperty__q hH o p ⟨by omega, by omega⟩ ⟨by omega, by omega⟩ _) ?_
  rintro _ _ ⟨rfl, z7, rfl, w7, w5, w6⟩
  show Rl _ _ _ _ _ [iv z7] _ _
  refine l_if_eq rfl rfl (by unfold rg; omega) (fun w8 => ?_) (fun w9 => ?_)
  · refine l_iconst rfl ?_
    refine l_ireturn rfl rfl ?_
    exact ⟨rfl, _, rfl, ⟨by omega, by omega⟩, (by omega)⟩
  · refine l_aload_n rfl rfl ?_
    refine l_gfr rfl rfl rfl rfl rfl (hH.r 0 0 1 rfl) ?_
    refine l_gfr rfl rfl rfl rfl rfl (hH.r 1 8 9 rfl) ?_
    refine l_iload_n rfl rfl ?_
    refine l_iaload (n := 12) rfl rfl (by omega) (by omega) (by unfold rg; omega) ?_
    have w10 : 0 ≤ (Xi S 9 ((p).toNat)) ∧ (Xi S 9 ((p).toNat)) ≤ 7 := hH.c _ _
    refine l_iconst rfl ?_
    refine l_icmp_ne rfl rfl (by unfold rg; omega) (by unfold rg; omega) (fun w11 => ?_) (fun w12 => ?_)
    · refine l_iconst rfl ?_
      refine l_ireturn rfl rfl ?_
      exact ⟨rfl, _, rfl, ⟨by omega, by omega⟩, (by omega)⟩
    · refine l_iload_n rfl rfl ?_
      refine l_if_lt rfl rfl (by unfold rg; omega) (fun w13 => ?_) (fun w14 => ?_)
      · refine l_iconst rfl ?_
        refine l_ireturn rfl rfl ?_
        exact ⟨rfl, _, rfl, ⟨by omega, by omega⟩, (by omega)⟩
      · refine l_iload_n rfl rfl ?_
        refine l_aload_n rfl rfl ?_
        refine l_gfr rfl rfl rfl rfl rfl (hH.r 0 1 20 rfl) ?_
        refine l_iload_n rfl rfl ?_
        refine l_iload_n rfl rfl ?_
        refine l_callV rfl rfl rfl (t_wo_lengthOf hH o p ⟨by omega, by omega⟩ ⟨by omega, by omega⟩ _) ?_
        rintro _ _ ⟨rfl, z16, rfl, w16, w15⟩
        show Rl _ _ _ _ _ [iv z16, iv k] _ _
        have hxt : TXT S (vof S o p.toNat) z16 := TX_v hX hH rfl (by assumption) (by omega) (by omega) (by omega)
        have hxb := hxt.b
        refine l_icmp_lt rfl rfl (by unfold rg; omega) (by unfold rg; omega) (fun w17 => ?_) (fun w18 => ?_)
        · refine l_aload_n rfl rfl ?_
          refine l_gfr rfl rfl rfl rfl rfl (hH.r 0 1 20 rfl) ?_
          have w19 := txe (S := S) hxt (by omega)
          have w19b : tp (txr S) := w19.2
          refine l_gfr rfl rfl rfl rfl rfl w19.1 ?_
          refine l_aload_n rfl rfl ?_
          refine l_gfr rfl rfl rfl rfl rfl (hH.r 0 1 20 rfl) ?_
          refine l_iload_n rfl rfl ?_
          refine l_iload_n rfl rfl ?_
          refine l_callV rfl rfl rfl (t_wo_valueOf hH o p ⟨by omega, by omega⟩ ⟨by omega, by omega⟩ _) ?_
          rintro _ _ ⟨rfl, z20, rfl, w20, q54⟩
          show Rl _ _ _ _ _ [iv z20, .ref (txr S)] _ _
          refine l_iload_n rfl rfl ?_
          refine l_iadd rfl ?_
          refine l_baload (n := 5000) rfl (tp_sv (by assumption)) (lay_tp (by assumption)) (by decide) (by omega) (by omega) (by unfold rg; omega) ?_
          have w21 : -128 ≤ (Xi S (txr S) (((z20 + k)).toNat)) ∧ (Xi S (txr S) (((z20 + k)).toNat)) ≤ 127 := tpc hH (by assumption)
          have b59 : (Xi S (txr S) (((z20 + k)).toNat)) = Xi S (txr S) (vof S o p.toNat + k).toNat := by rw [← q54]
          refine l_sipush rfl rfl ?_
          refine l_iand255 rfl (by unfold rg; omega) ?_
          refine l_ireturn rfl rfl ?_
          exact ⟨rfl, _, rfl, ⟨by omega, by omega⟩, (by omega)⟩
        · refine l_iconst rfl ?_
          refine l_ireturn rfl rfl ?_
          exact ⟨rfl, _, rfl, ⟨by omega, by omega⟩, (by omega)⟩
abbrev Q_mo_told__q (S : sS) (w : Int) : pst := fun r S1 => S = S1 ∧ (∃ z : Int, r = some (iv z) ∧ (-1 ≤ z ∧ z ≤ 64) ∧ ((w = 0 → z = Xi S 904 16) ∧ (w = 1 → z = Xi S 904 18) ∧ (w = 2 → z = Xi S 904 19) ∧ (w = 3 → z = Xi S 904 23) ∧ (w = 4 → z = Xi S 904 30) ∧ (w = 5 → z = Xi S 904 32) ∧ (w = 6 → z = Xi S 904 41) ∧ (w = 7 → z = Xi S 904 47) ∧ (w = 8 → z = Xi S 904 49) ∧ (w = 9 → z = Xi S 904 130) ∧ (w = 10 → z = Xi S 904 55) ∧ (w < 0 ∨ 10 < w → z = -1)))
set_option maxRecDepth 100000 in
theorem t_mo_told__q {S : sS} (hH : HI S) (w : Int) (hw : -2147483648 ≤ w ∧ w ≤ 2147483647) (d : Nat) : Mt lay0 (d + 1) m_mo_told [.ref 904, iv w] S (Q_mo_told__q S w) := by
  refine Mt_R rfl rfl ?_
  have w1 : 0 ≤ Xi S 904 130 ∧ Xi S 904 130 ≤ 24 := hH.c _ _
  have w2 : 0 ≤ Xi S 904 16 ∧ Xi S 904 16 ≤ 16 := hH.c _ _
  have w3 : 0 ≤ Xi S 904 18 ∧ Xi S 904 18 ≤ 8 := hH.c _ _
  have w4 : 0 ≤ Xi S 904 19 ∧ Xi S 904 19 ≤ 24 := hH.c _ _
  have w5 : 0 ≤ Xi S 904 23 ∧ Xi S 904 23 ≤ 24 := hH.c _ _
  have w6 : 0 ≤ Xi S 904 30 ∧ Xi S 904 30 ≤ 64 := hH.c _ _
  have w7 : 0 ≤ Xi S 904 32 ∧ Xi S 904 32 ≤ 12 := hH.c _ _
  have w8 : 0 ≤ Xi S 904 41 ∧ Xi S 904 41 ≤ 6 := hH.c _ _
  have w9 : 0 ≤ Xi S 904 47 ∧ Xi S 904 47 ≤ 8 := hH.c _ _
  have w10 : 0 ≤ Xi S 904 49 ∧ Xi S 904 49 ≤ 12 := hH.c _ _
  have w11 : 0 ≤ Xi S 904 55 ∧ Xi S 904 55 ≤ 20 := hH.c _ _
  refine l_iload_n rfl rfl ?_
  refine l_tsw rfl rfl rfl rfl (by unfold rg; omega) (fun w12 => ?_) (fun ii tt hii w12 => ?_)
  · refine l_iconst rfl ?_
    refine l_ireturn rfl rfl ?_
    exact ⟨rfl, _, rfl, ⟨by omega, by omega⟩, (by omega)⟩
  · match ii, hii with
    | 0, hii =>
      cases hii
      have w13 : w = 0 := by simpa using w12
      refine l_aload_n rfl rfl ?_
      refine l_gfi rfl rfl rfl rfl rfl ?_
      refine l_ireturn rfl rfl ?_
      exact ⟨rfl, _, rfl, ⟨by omega, by omega⟩, (by omega)⟩
    | 1, hii =>
      cases hii
      have w14 : w = 1 := by simpa using w12
      refine l_aload_n rfl rfl ?_
      refine l_gfi rfl rfl rfl rfl rfl ?_
      refine l_ireturn rfl rfl ?_
      exact ⟨rfl, _, rfl, ⟨by omega, by omega⟩, (by omega)⟩
    | 2, hii =>
      cases hii
      have w15 : w = 2 := by simpa using w12
      refine l_aload_n rfl rfl ?_
      refine l_gfi rfl rfl rfl rfl rfl ?_
      refine l_ireturn rfl rfl ?_
      exact ⟨rfl, _, rfl, ⟨by omega, by omega⟩, (by omega)⟩
    | 3, hii =>
      cases hii
      have w16 : w = 3 := by simpa using w12
      refine l_aload_n rfl rfl ?_
      refine l_gfi rfl rfl rfl rfl rfl ?_
      refine l_ireturn rfl rfl ?_
      exact ⟨rfl, _, rfl, ⟨by omega, by omega⟩, (by omega)⟩
    | 4, hii =>
      cases hii
      have w17 : w = 4 := by simpa using w12
      refine l_aload_n rfl rfl ?_
      refine l_gfi rfl rfl rfl rfl rfl ?_
      refine l_ireturn rfl rfl ?_
      exact ⟨rfl, _, rfl, ⟨by omega, by omega⟩, (by omega)⟩
    | 5, hii =>
      cases hii
      have w18 : w = 5 := by simpa using w12
      refine l_aload_n rfl rfl ?_
      refine l_gfi rfl rfl rfl rfl rfl ?_
      refine l_ireturn rfl rfl ?_
      exact ⟨rfl, _, rfl, ⟨by omega, by omega⟩, (by omega)⟩
    | 6, hii =>
      cases hii
      have w19 : w = 6 := by simpa using w12
      refine l_aload_n rfl rfl ?_
      refine l_gfi rfl rfl rfl rfl rfl ?_
      refine l_ireturn rfl rfl ?_
      exact ⟨rfl, _, rfl, ⟨by omega, by omega⟩, (by omega)⟩
    | 7, hii =>
      cases hii
      have w20 : w = 7 := by simpa using w12
      refine l_aload_n rfl rfl ?_
      refine l_gfi rfl rfl rfl rfl rfl ?_
      refine l_ireturn rfl rfl ?_
      exact ⟨rfl, _, rfl, ⟨by omega, by omega⟩, (by omega)⟩
    | 8, hii =>
      cases hii
      have w21 : w = 8 := by simpa using w12
      refine l_aload_n rfl rfl ?_
      refine l_gfi rfl rfl rfl rfl rfl ?_
      refine l_ireturn rfl rfl ?_
      exact ⟨rfl, _, rfl, ⟨by omega, by omega⟩, (by omega)⟩
    | 9, hii =>
      cases hii
      have w22 : w = 9 := by simpa using w12
      refine l_aload_n rfl rfl ?_
      refine l_gfi rfl rfl rfl rfl rfl ?_
      refine l_ireturn rfl rfl ?_
      exact ⟨rfl, _, rfl, ⟨by omega, by omega⟩, (by omega)⟩
    | 10, hii =>
      cases hii
      have w23 : w = 10 := by simpa using w12
      refine l_aload_n rfl rfl ?_
      refine l_gfi rfl rfl rfl rfl rfl ?_
      refine l_ireturn rfl rfl ?_
      exact ⟨rfl, _, rfl, ⟨by omega, by omega⟩, (by omega)⟩
    | n + 11, hii => exact absurd hii (by simp)
abbrev Q_mo_object__q (S : sS) (i : Int) (w : Int) : pst := fun r S1 => S = S1 ∧ (∃ z : Int, r = some (iv z) ∧ (-1 ≤ z ∧ z ≤ 23) ∧ ((i < 0 ∨ Xi S 904 19 ≤ i → z = -1) ∧ (0 ≤ i → i < Xi S 904 19 → (w = 0 → z = Xi S 918 i.toNat) ∧ (w = 1 → z = Xi S 919 i.toNat) ∧ (w = 2 → Xi S 919 i.toNat = 0 → z = -1) ∧ (w = 2 → Xi S 919 i.toNat ≠ 0 → z = Xi S 920 i.toNat) ∧ (w < 0 ∨ 2 < w → z = -1))))
set_option maxRecDepth 100000 in
theorem t_mo_object__q {S : sS} (hH : HI S) (i : Int) (w : Int) (hi : -2147483648 ≤ i ∧ i ≤ 2147483647) (hw : -2147483648 ≤ w ∧ w ≤ 2147483647) (d : Nat) : Mt lay0 (d + 2) m_mo_object [.ref 904, iv i, iv w] S (Q_mo_object__q S i w) := by
  refine Mt_R rfl rfl ?_
  have w1 : 0 ≤ Xi S 904 19 ∧ Xi S 904 19 ≤ 24 := hH.c _ _
  refine l_iload_n rfl rfl ?_
  refine l_iconst rfl ?_
  refine l_aload_n rfl rfl ?_
  refine l_gfi rfl rfl rfl rfl rfl ?_
  refine l_iconst rfl ?_
  refine l_isub rfl ?_
  refine l_callS rfl rfl (by decide) rfl (t_mo_in hH i 0 ((Xi S 904 19) - 1) ⟨by omega, by omega⟩ ⟨by omega, by omega⟩ ⟨by omega, by omega⟩ _) ?_
  rintro _ _ ⟨rfl, z3, rfl, w3, w2⟩
  show Rl _ _ _ _ _ [iv z3] _ _
  refine l_if_ne rfl rfl (by unfold rg; omega) (fun w4 => ?_) (fun w5 => ?_)
  · refine l_iload_n rfl rfl ?_
    refine l_if_ne rfl rfl (by unfold rg; omega) (fun w6 => ?_) (fun w7 => ?_)
    · refine l_iload_n rfl rfl ?_
      refine l_iconst rfl ?_
      refine l_icmp_ne rfl rfl (by unfold rg; omega) (by unfold rg; omega) (fun w8 => ?_) (fun w9 => ?_)
      · refine l_iload_n rfl rfl ?_
        refine l_iconst rfl ?_
        refine l_icmp_ne rfl rfl (by unfold rg; omega) (by unfold rg; omega) (fun w10 => ?_) (fun w11 => ?_)
        · refine l_iconst rfl ?_
          refine l_ireturn rfl rfl ?_
          exact ⟨rfl, _, rfl, ⟨by omega, by omega⟩, (by omega)⟩
        · refine l_aload_n rfl rfl ?_
          refine l_gfr rfl rfl rfl rfl rfl (hH.r 904 21 919 rfl) ?_
          refine l_iload_n rfl rfl ?_
          refine l_iaload (n := 24) rfl rfl (by omega) (by omega) (by unfold rg; omega) ?_
          have w12 : 0 ≤ (Xi S 919 ((i).toNat)) ∧ (Xi S 919 ((i).toNat)) ≤ 5 := hH.c _ _
          refine l_if_ne rfl rfl (by unfold rg; omega) (fun w13 => ?_) (fun w14 => ?_)
          · refine l_aload_n rfl rfl ?_
            refine l_gfr rfl rfl rfl rfl rfl (hH.r 904 22 920 rfl) ?_
            refine l_iload_n rfl rfl ?_
            refine l_iaload (n := 24) rfl rfl (by omega) (by omega) (by unfold rg; omega) ?_
            have w15 : -1 ≤ (Xi S 920 ((i).toNat)) ∧ (Xi S 920 ((i).toNat)) ≤ 23 := hH.c _ _
            refine l_goto rfl rfl ?_
            refine l_ireturn rfl rfl ?_
            exact ⟨rfl, _, rfl, ⟨by omega, by omega⟩, (by omega)⟩
          · refine l_iconst rfl ?_
            refine l_goto rfl rfl ?_
            refine l_ireturn rfl rfl ?_
            exact ⟨rfl, _, rfl, ⟨by omega, by omega⟩, (by omega)⟩
      · refine l_aload_n rfl rfl ?_
        refine l_gfr rfl rfl rfl rfl rfl (hH.r 904 21 919 rfl) ?_
        refine l_iload_n rfl rfl ?_
        refine l_iaload (n := 24) rfl rfl (by omega) (by omega) (by unfold rg; omega) ?_
        have w16 : 0 ≤ (Xi S 919 ((i).toNat)) ∧ (Xi S 919 ((i).toNat)) ≤ 5 := hH.c _ _
        refine l_goto rfl rfl ?_
        refine l_ireturn rfl rfl ?_
        exact ⟨rfl, _, rfl, ⟨by omega, by omega⟩, (by omega)⟩
    · refine l_aload_n rfl rfl ?_
      refine l_gfr rfl rfl rfl rfl rfl (hH.r 904 20 918 rfl) ?_
      refine l_iload_n rfl rfl ?_
      refine l_iaload (n := 24) rfl rfl (by omega) (by omega) (by unfold rg; omega) ?_
      have w17 : 0 ≤ (Xi S 918 ((i).toNat)) ∧ (Xi S 918 ((i).toNat)) ≤ 15 := hH.c _ _
      refine l_goto rfl rfl ?_
      refine l_ireturn rfl rfl ?_
      exact ⟨rfl, _, rfl, ⟨by omega, by omega⟩, (by omega)⟩
  · refine l_iconst rfl ?_
    refine l_goto rfl rfl ?_
    refine l_ireturn rfl rfl ?_
    exact ⟨rfl, _, rfl, ⟨by omega, by omega⟩, (by omega)⟩
abbrev Q_mo_related__q (S : sS) (rl : Int) (a : Int) (b : Int) : pst := fun r S1 => S = S1 ∧ (∃ z : Int, r = some (iv z) ∧ (0 ≤ z ∧ z ≤ 1) ∧ (((rl < 0 ∨ Xi S 904 41 ≤ rl ∨ a < 0 ∨ Xi S 904 19 ≤ a ∨ b < 0 ∨ Xi S 904 19 ≤ b) → z = 0) ∧ (0 ≤ rl → rl < Xi S 904 41 → 0 ≤ a → a < Xi S 904 19 → 0 ≤ b → b < Xi S 904 19 → (z = 0 ↔ Xi S 940 (576 * rl + 24 * a + b).toNat = 0))))
set_option maxRecDepth 100000 in
theorem t_mo_related__q {S : sS} (hH : HI S) (rl : Int) (a : Int) (b : Int) (hrl : -2147483648 ≤ rl ∧ rl ≤ 2147483647) (ha : -2147483648 ≤ a ∧ a ≤ 2147483647) (hb : -2147483648 ≤ b ∧ b ≤ 2147483647) (d : Nat) : Mt lay0 (d + 2) m_mo_related [.ref 904, iv rl, iv a, iv b] S (Q_mo_related__q S rl a b) := by
  refine Mt_R rfl rfl ?_
  have w1 : 0 ≤ Xi S 904 19 ∧ Xi S 904 19 ≤ 24 := hH.c _ _
  have w2 : 0 ≤ Xi S 904 41 ∧ Xi S 904 41 ≤ 6 := hH.c _ _
  refine l_iload_n rfl rfl ?_
  refine l_iconst rfl ?_
  refine l_aload_n rfl rfl ?_
  refine l_gfi rfl rfl rfl rfl rfl ?_
  refine l_iconst rfl ?_
  refine l_isub rfl ?_
  refine l_callS rfl rfl (by decide) rfl (t_mo_in hH rl 0 ((Xi S 904 41) - 1) ⟨by omega, by omega⟩ ⟨by omega, by omega⟩ ⟨by omega, by omega⟩ _) ?_
  rintro _ _ ⟨rfl, z4, rfl, w4, w3⟩
  show Rl _ _ _ _ _ [iv z4] _ _
  refine l_if_eq rfl rfl (by unfold rg; omega) (fun w5 => ?_) (fun w6 => ?_)
  · refine l_iconst rfl ?_
    refine l_ireturn rfl rfl ?_
    exact ⟨rfl, _, rfl, ⟨by omega, by omega⟩, (by omega)⟩
  · refine l_iload_n rfl rfl ?_
    refine l_iconst rfl ?_
    refine l_aload_n rfl rfl ?_
    refine l_gfi rfl rfl rfl rfl rfl ?_
    refine l_iconst rfl ?_
    refine l_isub rfl ?_
    refine l_callS rfl rfl (by decide) rfl (t_mo_in hH a 0 ((Xi S 904 19) - 1) ⟨by omega, by omega⟩ ⟨by omega, by omega⟩ ⟨by omega, by omega⟩ _) ?_
    rintro _ _ ⟨rfl, z8, rfl, w8, w7⟩
    show Rl _ _ _ _ _ [iv z8] _ _
    refine l_if_eq rfl rfl (by unfold rg; omega) (fun w9 => ?_) (fun w10 => ?_)
    · refine l_iconst rfl ?_
      refine l_ireturn rfl rfl ?_
      exact ⟨rfl, _, rfl, ⟨by omega, by omega⟩, (by omega)⟩
    · refine l_iload_n rfl rfl ?_
      refine l_iconst rfl ?_
      refine l_aload_n rfl rfl ?_
      refine l_gfi rfl rfl rfl rfl rfl ?_
      refine l_iconst rfl ?_
      refine l_isub rfl ?_
      refine l_callS rfl rfl (by decide) rfl (t_mo_in hH b 0 ((Xi S 904 19) - 1) ⟨by omega, by omega⟩ ⟨by omega, by omega⟩ ⟨by omega, by omega⟩ _) ?_
      rintro _ _ ⟨rfl, z12, rfl, w12, w11⟩
      show Rl _ _ _ _ _ [iv z12] _ _
      refine l_if_eq rfl rfl (by unfold rg; omega) (fun w13 => ?_) (fun w14 => ?_)
      · refine l_iconst rfl ?_
        refine l_ireturn rfl rfl ?_
        exact ⟨rfl, _, rfl, ⟨by omega, by omega⟩, (by omega)⟩
      · refine l_aload_n rfl rfl ?_
        refine l_gfr rfl rfl rfl rfl rfl (hH.r 904 46 940 rfl) ?_
        refine l_sipush rfl rfl ?_
        refine l_iload_n rfl rfl ?_
        refine l_imul rfl ?_
        refine l_bipush rfl rfl ?_
        refine l_iload_n rfl rfl ?_
        refine l_imul rfl ?_
        refine l_iadd rfl ?_
        refine l_iload_n rfl rfl ?_
        refine l_iadd rfl ?_
        refine l_baload (n := 3456) rfl rfl rfl (by decide) (by omega) (by omega) (by unfold rg; omega) ?_
        have w15 : 0 ≤ (Xi S 940 (((((576 * rl) + (24 * a)) + b)).toNat)) ∧ (Xi S 940 (((((576 * rl) + (24 * a)) + b)).toNat)) ≤ 1 := hH.c _ _
        refine l_if_eq rfl rfl (by unfold rg; omega) (fun w16 => ?_) (fun w17 => ?_)
        · refine l_iconst rfl ?_
          refine l_ireturn rfl rfl ?_
          exact ⟨rfl, _, rfl, ⟨by omega, by omega⟩, (by omega)⟩
        · refine l_iconst rfl ?_
          refine l_goto rfl rfl ?_
          refine l_ireturn rfl rfl ?_
          exact ⟨rfl, _, rfl, ⟨by omega, by omega⟩, (by omega)⟩
def md_mo_numberOf__q : List rec := [(904, 905, 154, 155)]
abbrev Q_mo_numberOf__q (S : sS) (o : Int) (p : Int) : pst := fun r S1 => HI S1 ∧ FR md_mo_numberOf__q S S1 ∧ (∃ z : Int, r = some (iv z) ∧ (-2147483648 ≤ z ∧ z ≤ 2147483647) ∧ (Xi S 928 p.toNat = 1 → OKT z (Xi S1 904 154)) ∧ (z = nuR S o p) ∧ (Xi S1 904 154 = nlR S o p))
set_option maxRecDepth 100000 in
theorem t_mo_numberOf__q {S : sS} (hH : HI S) (o : Int) (p : Int) (ho : 0 ≤ o ∧ o ≤ 23) (hp : 0 ≤ p ∧ p ≤ 11) (hB : ABV S) (hX : TXM S) (ho : o < Xi S 904 19) (d : Nat) : Mt lay0 (d + 1) m_mo_numberOf [.ref 904, iv o, iv p] S (Q_mo_numberOf__q S o p) := by
  refine Mt_R rfl rfl ?_
  have hF : FR md_mo_numberOf__q S S := FR.rf
  have w1 : -2147483648 ≤ Xi S 904 154 ∧ Xi S 904 154 ≤ 2147483647 := Xi_rgI
  have w2 : 0 ≤ Xi S 904 16 ∧ Xi S 904 16 ≤ 16 := hH.c _ _
  have w3 : 0 ≤ Xi S 904 19 ∧ Xi S 904 19 ≤ 24 := hH.c _ _
  have w4 : 0 ≤ Xi S 904 30 ∧ Xi S 904 30 ≤ 64 := hH.c _ _
  have hk0 : Xi S 918 o.toNat < Xi S 904 16 := hX.1 o (by omega) ho
  have C53 : ∀ (n53 : Nat) (T1 : sS) (_ : HI T1) (_ : FR md_mo_numberOf__q S T1) (v3 : Int), (-1 ≤ v3 ∧ v3 ≤ 15) → (Xi T1 904 154 = 0) → (v3 < Xi S 904 16) → (Xi S 930 (12 * o + p).toNat = 0) → (chR S 933 12 p (Xi S 918 o.toNat) = chR S 933 12 p v3) → n53 = (v3 + 1).toNat → Rl lay0 (d + 0) m_mo_numberOf 53 [(0, .ref 904), (2, iv p), (3, iv v3)] [] T1 (Q_mo_numberOf__q S o p) := by
    intro n53
    induction n53 using Nat.strongRecOn with
    | ind n53 ih53 =>
      intro T1 hHT1 hFT1 v3 w5 w6 w7 w8 f53 hm53
      have w9 : Xi T1 904 16 = Xi S 904 16 := hFT1.x _ _ rfl
      have w10 : Xi T1 904 19 = Xi S 904 19 := hFT1.x _ _ rfl
      have w11 : Xi T1 904 30 = Xi S 904 30 := hFT1.x _ _ rfl
      have w12 : -2147483648 ≤ Xi T1 904 154 ∧ Xi T1 904 154 ≤ 2147483647 := Xi_rgI
      have C110 : ∀ (n110 : Nat) (v3 : Int), (0 ≤ v3 ∧ v3 ≤ 64) → (Xi T1 904 154 = 0) → (Xi S 930 (12 * o + p).toNat = 0) → (chR S 933 12 p (Xi S 918 o.toNat) = -1) → (fvR S (Xi S 928 p.toNat) = fvRn S (Xi S 928 p.toNat) (Xi S 904 30 - v3).toNat v3) → n110 = (65 - v3).toNat → Rl lay0 (d + 0) m_mo_numberOf 110 [(0, .ref 904), (2, iv p), (3, iv v3)] [] T1 (Q_mo_numberOf__q S o p) := by
        intro n110
        induction n110 using Nat.strongRecOn with
        | ind n110 ih110 =>
          intro v3 w13 w14 w15 f110 g110 hm110
          have C151 : (Xi T1 904 154 = 0) → (Xi S 930 (12 * o + p).toNat = 0) → (chR S 933 12 p (Xi S 918 o.toNat) = -1) → (1 < Xi S 928 p.toNat → fvR S (Xi S 928 p.toNat) = -1) → Rl lay0 (d + 0) m_mo_numberOf 151 [(0, .ref 904), (2, iv p)] [] T1 (Q_mo_numberOf__q S o p) := by
            intro w16 w17 f151 g151
            refine l_aload_n rfl rfl ?_
            refine l_gfr rfl rfl rfl rfl rfl (hHT1.r 904 33 928 rfl) ?_
            refine l_iload_n rfl rfl ?_
            refine l_iaload (n := 12) rfl rfl (by omega) (by omega) (by unfold rg; omega) ?_
            have w18 : 0 ≤ (Xi T1 928 ((p).toNat)) ∧ (Xi T1 928 ((p).toNat)) ≤ 7 := hHT1.c _ _
            have a156 : (Xi T1 928 ((p).toNat)) = Xi S 928 p.toNat := (hFT1.cx 928 rfl _).1
            refine l_iconst rfl ?_
            refine l_icmp_le rfl rfl (by unfold rg; omega) (by unfold rg; omega) (fun w19 => ?_) (fun w20 => ?_)
            · refine l_iconst rfl ?_
              refine l_ireturn rfl rfl ?_
              exact ⟨hHT1, hFT1, _, rfl, ⟨by omega, by omega⟩, (by first | exact z44 | exact z96 | exact fun _ => Or.inl (by omega)), (by first | (have t := K44; rw [(nu_1 (by omega)).1]; exact a44) | (have t := K96; rw [(nu_2 (by omega) (f53.trans (chR_e (by omega) (by omega))) (by omega)).1]; exact a96) | (have t := K144; rw [(nu_3 (by omega) f110 (by omega)).1, g110]; exact (fvRn_f (by omega) (by omega)).symm) | (rw [(nu_3 (by omega) f151 (by omega)).1, g151 (by omega)]) | exact (nu_4 (by omega) f151 (by omega)).1.symm), (by first | (have t := K44; rw [(nu_1 (by omega)).2]; omega) | (have t := K96; rw [(nu_2 (by omega) (f53.trans (chR_e (by omega) (by omega))) (by omega)).2]; omega) | (have t := K144; rw [(nu_3 (by omega) f110 (by omega)).2]; omega) | (rw [(nu_3 (by omega) f151 (by omega)).2]; omega) | (rw [(nu_4 (by omega) f151 (by omega)).2]; omega))⟩
            · refine l_iconst rfl ?_
              refine l_goto rfl rfl ?_
              refine l_ireturn rfl rfl ?_
              exact ⟨hHT1, hFT1, _, rfl, ⟨by omega, by omega⟩, (by first | exact z44 | exact z96 | exact fun _ => Or.inl (by omega)), (by first | (have t := K44; rw [(nu_1 (by omega)).1]; exact a44) | (have t := K96; rw [(nu_2 (by omega) (f53.trans (chR_e (by omega) (by omega))) (by omega)).1]; exact a96) | (have t := K144; rw [(nu_3 (by omega) f110 (by omega)).1, g110]; exact (fvRn_f (by omega) (by omega)).symm) | (rw [(nu_3 (by omega) f151 (by omega)).1, g151 (by omega)]) | exact (nu_4 (by omega) f151 (by omega)).1.symm), (by first | (have t := K44; rw [(nu_1 (by omega)).2]; omega) | (have t := K96; rw [(nu_2 (by omega) (f53.trans (chR_e (by omega) (by omega))) (by omega)).2]; omega) | (have t := K144; rw [(nu_3 (by omega) f110 (by omega)).2]; omega) | (rw [(nu_3 (by omega) f151 (by omega)).2]; omega) | (rw [(nu_4 (by omega) f151 (by omega)).2]; omega))⟩
          refine l_iload_n rfl rfl ?_
          refine l_aload_n rfl rfl ?_
          refine l_gfi rfl rfl rfl rfl rfl ?_
          have a112 : (Xi T1 904 30) = Xi S 904 30 := hFT1.x 904 30 rfl
          refine l_icmp_ge rfl rfl (by unfold rg; omega) (by unfold rg; omega) (fun w21 => ?_) (fun w22 => ?_)
          · exact Rl_weak (C151  (by omega) (by omega) (f110) (by first | (intro q; exfalso; omega) | (intro _; exact g110.trans (fvRn_e (by omega))))) (And.intro rfl (And.intro rfl (True.intro)))
          · refine l_aload_n rfl rfl ?_
            refine l_gfr rfl rfl rfl rfl rfl (hHT1.r 904 33 928 rfl) ?_
            refine l_iload_n rfl rfl ?_
            refine l_iaload (n := 12) rfl rfl (by omega) (by omega) (by unfold rg; omega) ?_
            have w23 : 0 ≤ (Xi T1 928 ((p).toNat)) ∧ (Xi T1 928 ((p).toNat)) ≤ 7 := hHT1.c _ _
            have a123 : (Xi T1 928 ((p).toNat)) = Xi S 928 p.toNat := (hFT1.cx 928 rfl _).1
            refine l_iconst rfl ?_
            refine l_icmp_le rfl rfl (by unfold rg; omega) (by unfold rg; omega) (fun w24 => ?_) (fun w25 => ?_)
            · exact Rl_weak (C151  (by omega) (by omega) (f110) (by first | (intro q; exfalso; omega) | (intro _; exact g110.trans (fvRn_e (by omega))))) (And.intro rfl (And.intro rfl (True.intro)))
            · refine l_aload_n rfl rfl ?_
              refine l_gfr rfl rfl rfl rfl rfl (hHT1.r 904 31 927 rfl) ?_
              refine l_iload_n rfl rfl ?_
              refine l_iaload (n := 64) rfl rfl (by omega) (by omega) (by unfold rg; omega) ?_
              have w26 : 0 ≤ (Xi T1 927 ((v3).toNat)) ∧ (Xi T1 927 ((v3).toNat)) ≤ 7 := hHT1.c _ _
              have a133 : (Xi T1 927 ((v3).toNat)) = Xi S 927 v3.toNat := (hFT1.cx 927 rfl _).1
              refine l_aload_n rfl rfl ?_
              refine l_gfr rfl rfl rfl rfl rfl (hHT1.r 904 33 928 rfl) ?_
              refine l_iload_n rfl rfl ?_
              refine l_iaload (n := 12) rfl rfl (by omega) (by omega) (by unfold rg; omega) ?_
              have a139 : (Xi T1 928 ((p).toNat)) = Xi S 928 p.toNat := (hFT1.cx 928 rfl _).1
              refine l_icmp_ne rfl rfl (by unfold rg; omega) (by unfold rg; omega) (fun w27 => ?_) (fun w28 => ?_)
              · refine l_iinc rfl rfl rfl rfl ?_
                refine l_goto rfl rfl ?_
                exact Rl_weak (ih110 _ (by omega) ((v3 + 1)) (by omega) (by omega) (by omega) (by first | exact f110 | exact f53.trans (chR_n (by omega))) (by first | exact g110.trans (fvRn_s (by omega) (by omega)) | exact fvR_0) rfl) (And.intro rfl (And.intro rfl (And.intro rfl (True.intro))))
              · refine l_iload_n rfl rfl ?_
                have K144 : True := trivial
                refine l_ireturn rfl rfl ?_
                exact ⟨hHT1, hFT1, _, rfl, ⟨by omega, by omega⟩, (by first | exact z44 | exact z96 | exact fun _ => Or.inl (by omega)), (by first | (have t := K44; rw [(nu_1 (by omega)).1]; exact a44) | (have t := K96; rw [(nu_2 (by omega) (f53.trans (chR_e (by omega) (by omega))) (by omega)).1]; exact a96) | (have t := K144; rw [(nu_3 (by omega) f110 (by omega)).1, g110]; exact (fvRn_f (by omega) (by omega)).symm) | (rw [(nu_3 (by omega) f151 (by omega)).1, g151 (by omega)]) | exact (nu_4 (by omega) f151 (by omega)).1.symm), (by first | (have t := K44; rw [(nu_1 (by omega)).2]; omega) | (have t := K96; rw [(nu_2 (by omega) (f53.trans (chR_e (by omega) (by omega))) (by omega)).2]; omega) | (have t := K144; rw [(nu_3 (by omega) f110 (by omega)).2]; omega) | (rw [(nu_3 (by omega) f151 (by omega)).2]; omega) | (rw [(nu_4 (by omega) f151 (by omega)).2]; omega))⟩
      refine l_iload_n rfl rfl ?_
      refine l_if_lt rfl rfl (by unfold rg; omega) (fun w29 => ?_) (fun w30 => ?_)
      · refine l_iconst rfl ?_
        refine l_istore_n rfl rfl rfl ?_
        exact Rl_weak (C110 _ (0) (by omega) (by omega) (by omega) (by first | exact f110 | exact f53.trans (chR_n (by omega))) (by first | exact g110.trans (fvRn_s (by omega) (by omega)) | exact fvR_0) rfl) (And.intro rfl (And.intro rfl (And.intro rfl (True.intro))))
      · refine l_aload_n rfl rfl ?_
        refine l_gfr rfl rfl rfl rfl rfl (hHT1.r 904 38 933 rfl) ?_
        refine l_bipush rfl rfl ?_
        refine l_iload_n rfl rfl ?_
        refine l_imul rfl ?_
        refine l_iload_n rfl rfl ?_
        refine l_iadd rfl ?_
        refine l_baload (n := 192) rfl rfl rfl (by decide) (by omega) (by omega) (by unfold rg; omega) ?_
        have w31 : 0 ≤ (Xi T1 933 ((((12 * v3) + p)).toNat)) ∧ (Xi T1 933 ((((12 * v3) + p)).toNat)) ≤ 1 := hHT1.c _ _
        have a67 : (Xi T1 933 ((((12 * v3) + p)).toNat)) = Xi S 933 (12 * v3 + p).toNat := (hFT1.cx 933 rfl _).1
        refine l_if_eq rfl rfl (by unfold rg; omega) (fun w32 => ?_) (fun w33 => ?_)
        · refine l_aload_n rfl rfl ?_
          refine l_gfr rfl rfl rfl rfl rfl (hHT1.r 904 17 917 rfl) ?_
          refine l_iload_n rfl rfl ?_
          refine l_iaload (n := 16) rfl rfl (by omega) (by omega) (by unfold rg; omega) ?_
          have w34 : -1 ≤ (Xi T1 917 ((v3).toNat)) ∧ (Xi T1 917 ((v3).toNat)) ≤ 15 := hHT1.c _ _
          have b103 : (Xi T1 917 ((v3).toNat)) < v3 := by have t := hB (v3).toNat (by omega); rw [(hFT1.cx 917 rfl _).1]; omega
          have e103 : (Xi T1 917 ((v3).toNat)) = Xi S 917 v3.toNat := (hFT1.cx 917 rfl _).1
          refine l_istore_n rfl rfl rfl ?_
          refine l_goto rfl rfl ?_
          exact Rl_weak (ih53 _ (by omega) T1 hHT1 hFT1 ((Xi T1 917 ((v3).toNat))) (by omega) (by omega) (by omega) (by omega) (by first | (rw [a51]) | (rw [e103]; exact f53.trans (chR_s hB (by omega) (by omega) (by omega)))) rfl) (And.intro rfl (And.intro rfl (And.intro rfl (True.intro))))
        · refine l_aload_n rfl rfl ?_
          refine l_aload_n rfl rfl ?_
          refine l_gfr rfl rfl rfl rfl rfl (hHT1.r 904 40 935 rfl) ?_
          refine l_bipush rfl rfl ?_
          refine l_iload_n rfl rfl ?_
          refine l_imul rfl ?_
          refine l_iload_n rfl rfl ?_
          refine l_iadd rfl ?_
          refine l_iaload (n := 192) rfl rfl (by omega) (by omega) (by unfold rg; omega) ?_
          have w35 : -2147483648 ≤ (Xi T1 935 ((((12 * v3) + p)).toNat)) ∧ (Xi T1 935 ((((12 * v3) + p)).toNat)) ≤ 2147483647 := Xi_rgI
          have a82 : (Xi T1 935 ((((12 * v3) + p)).toNat)) = Xi S 935 (12 * v3 + p).toNat := (hFT1.cx 935 rfl _).1
          refine l_pfi rfl rfl rfl rfl ?_
          obtain ⟨U2, eU2⟩ : ∃ T : sS, T = uI T1 904 154 (Int32.ofInt (Xi T1 935 ((((12 * v3) + p)).toNat))) := ⟨_, rfl⟩
          rw [← eU2]
          have hHU2 : HI U2 := by rw [eU2]; exact HI_any hHT1 (rfl)
          have hFU2 : FR md_mo_numberOf__q S U2 := by rw [eU2]; exact FR.wI hFT1 (mdf_i (r := (904, 905, 154, 155)) (List.mem_of_getElem? (i := 0) rfl) (inR_i (by omega) (by omega) (by omega) (by omega)))
          have w36 : Xi U2 904 154 = (Xi T1 935 ((((12 * v3) + p)).toNat)) := by rw [eU2]; exact Xi_same (by unfold rg; omega)
          refine l_aload_n rfl rfl ?_
          refine l_gfr rfl rfl rfl rfl rfl (hHU2.r 904 39 934 rfl) ?_
          refine l_bipush rfl rfl ?_
          refine l_iload_n rfl rfl ?_
          refine l_imul rfl ?_
          refine l_iload_n rfl rfl ?_
          refine l_iadd rfl ?_
          refine l_iaload (n := 192) rfl rfl (by omega) (by omega) (by unfold rg; omega) ?_
          have w37 : -2147483648 ≤ (Xi U2 934 ((((12 * v3) + p)).toNat)) ∧ (Xi U2 934 ((((12 * v3) + p)).toNat)) ≤ 2147483647 := Xi_rgI
          have a96 : (Xi U2 934 ((((12 * v3) + p)).toNat)) = Xi S 934 (12 * v3 + p).toNat := (hFU2.cx 934 rfl _).1
          have z96 : Xi S 928 p.toNat = 1 → OKT (Xi U2 934 ((((12 * v3) + p)).toNat)) (Xi U2 904 154) := fun q => okt_2 ((hX.2.2 v3 p (by omega) (by omega) (by omega) (by omega) (by omega)).2 q) a96 (by omega)
          have K96 : True := trivial
          refine l_ireturn rfl rfl ?_
          exact ⟨hHU2, hFU2, _, rfl, ⟨by omega, by omega⟩, (by first | exact z44 | exact z96 | exact fun _ => Or.inl (by omega)), (by first | (have t := K44; rw [(nu_1 (by omega)).1]; exact a44) | (have t := K96; rw [(nu_2 (by omega) (f53.trans (chR_e (by omega) (by omega))) (by omega)).1]; exact a96) | (have t := K144; rw [(nu_3 (by omega) f110 (by omega)).1, g110]; exact (fvRn_f (by omega) (by omega)).symm) | (rw [(nu_3 (by omega) f151 (by omega)).1, g151 (by omega)]) | exact (nu_4 (by omega) f151 (by omega)).1.symm), (by first | (have t := K44; rw [(nu_1 (by omega)).2]; omega) | (have t := K96; rw [(nu_2 (by omega) (f53.trans (chR_e (by omega) (by omega))) (by omega)).2]; omega) | (have t := K144; rw [(nu_3 (by omega) f110 (by omega)).2]; omega) | (rw [(nu_3 (by omega) f151 (by omega)).2]; omega) | (rw [(nu_4 (by omega) f151 (by omega)).2]; omega))⟩
  refine l_aload_n rfl rfl ?_
  refine l_iconst rfl ?_
  refine l_pfi rfl rfl rfl rfl ?_
  obtain ⟨U3, eU3⟩ : ∃ T : sS, T = uI S 904 154 (Int32.ofInt 0) := ⟨_, rfl⟩
  rw [← eU3]
  have hHU3 : HI U3 := by rw [eU3]; exact HI_any hH (rfl)
  have hFU3 : FR md_mo_numberOf__q S U3 := by rw [eU3]; exact FR.wI hF (mdf_i (r := (904, 905, 154, 155)) (List.mem_of_getElem? (i := 0) rfl) (inR_i (by omega) (by omega) (by omega) (by omega)))
  have w38 : Xi U3 904 154 = 0 := by rw [eU3]; exact Xi_same (by unfold rg; omega)
  refine l_aload_n rfl rfl ?_
  refine l_gfr rfl rfl rfl rfl rfl (hHU3.r 904 35 930 rfl) ?_
  refine l_bipush rfl rfl ?_
  refine l_iload_n rfl rfl ?_
  refine l_imul rfl ?_
  refine l_iload_n rfl rfl ?_
  refine l_iadd rfl ?_
  refine l_baload (n := 288) rfl rfl rfl (by decide) (by omega) (by omega) (by unfold rg; omega) ?_
  have w39 : 0 ≤ (Xi U3 930 ((((12 * o) + p)).toNat)) ∧ (Xi U3 930 ((((12 * o) + p)).toNat)) ≤ 1 := hHU3.c _ _
  have a15 : (Xi U3 930 ((((12 * o) + p)).toNat)) = Xi S 930 (12 * o + p).toNat := (hFU3.cx 930 rfl _).1
  refine l_if_eq rfl rfl (by unfold rg; omega) (fun w40 => ?_) (fun w41 => ?_)
  · refine l_aload_n rfl rfl ?_
    refine l_gfr rfl rfl rfl rfl rfl (hHU3.r 904 20 918 rfl) ?_
    refine l_iload_n rfl rfl ?_
    refine l_iaload (n := 24) rfl rfl (by omega) (by omega) (by unfold rg; omega) ?_
    have w42 : 0 ≤ (Xi U3 918 ((o).toNat)) ∧ (Xi U3 918 ((o).toNat)) ≤ 15 := hHU3.c _ _
    have a51 : (Xi U3 918 ((o).toNat)) = Xi S 918 o.toNat := (hFU3.cx 918 rfl _).1
    refine l_istore_n rfl rfl rfl ?_
    exact Rl_weak (C53 _ U3 hHU3 hFU3 ((Xi U3 918 ((o).toNat))) (by omega) (by omega) (by omega) (by omega) (by first | (rw [a51]) | (rw [e103]; exact f53.trans (chR_s hB (by omega) (by omega) (by omega)))) rfl) (And.intro rfl (And.intro rfl (And.intro rfl (True.intro))))
  · refine l_aload_n rfl rfl ?_
    refine l_aload_n rfl rfl ?_
    refine l_gfr rfl rfl rfl rfl rfl (hHU3.r 904 37 932 rfl) ?_
    refine l_bipush rfl rfl ?_
    refine l_iload_n rfl rfl ?_
    refine l_imul rfl ?_
    refine l_iload_n rfl rfl ?_
    refine l_iadd rfl ?_
    refine l_iaload (n := 288) rfl rfl (by omega) (by omega) (by unfold rg; omega) ?_
    have w43 : -2147483648 ≤ (Xi U3 932 ((((12 * o) + p)).toNat)) ∧ (Xi U3 932 ((((12 * o) + p)).toNat)) ≤ 2147483647 := Xi_rgI
    have a30 : (Xi U3 932 ((((12 * o) + p)).toNat)) = Xi S 932 (12 * o + p).toNat := (hFU3.cx 932 rfl _).1
    refine l_pfi rfl rfl rfl rfl ?_
    obtain ⟨U4, eU4⟩ : ∃ T : sS, T = uI U3 904 154 (Int32.ofInt (Xi U3 932 ((((12 * o) + p)).toNat))) := ⟨_, rfl⟩
    rw [← eU4]
    have hHU4 : HI U4 := by rw [eU4]; exact HI_any hHU3 (rfl)
    have hFU4 : FR md_mo_numberOf__q S U4 := by rw [eU4]; exact FR.wI hFU3 (mdf_i (r := (904, 905, 154, 155)) (List.mem_of_getElem? (i := 0) rfl) (inR_i (by omega) (by omega) (by omega) (by omega)))
    have w44 : Xi U4 904 154 = (Xi U3 932 ((((12 * o) + p)).toNat)) := by rw [eU4]; exact Xi_same (by unfold rg; omega)
    refine l_aload_n rfl rfl ?_
    refine l_gfr rfl rfl rfl rfl rfl (hHU4.r 904 36 931 rfl) ?_
    refine l_bipush rfl rfl ?_
    refine l_iload_n rfl rfl ?_
    refine l_imul rfl ?_
    refine l_iload_n rfl rfl ?_
    refine l_iadd rfl ?_
    refine l_iaload (n := 288) rfl rfl (by omega) (by omega) (by unfold rg; omega) ?_
    have w45 : -2147483648 ≤ (Xi U4 931 ((((12 * o) + p)).toNat)) ∧ (Xi U4 931 ((((12 * o) + p)).toNat)) ≤ 2147483647 := Xi_rgI
    have a44 : (Xi U4 931 ((((12 * o) + p)).toNat)) = Xi S 931 (12 * o + p).toNat := (hFU4.cx 931 rfl _).1
    have z44 : Xi S 928 p.toNat = 1 → OKT (Xi U4 931 ((((12 * o) + p)).toNat)) (Xi U4 904 154) := fun q => okt_2 ((hX.2.1 o p (by omega) ho (by omega) (by omega) (by omega)).2 q) a44 (by omega)
    have K44 : True := trivial
    refine l_ireturn rfl rfl ?_
    exact ⟨hHU4, hFU4, _, rfl, ⟨by omega, by omega⟩, (by first | exact z44 | exact z96 | exact fun _ => Or.inl (by omega)), (by first | (have t := K44; rw [(nu_1 (by omega)).1]; exact a44) | (have t := K96; rw [(nu_2 (by omega) (f53.trans (chR_e (by omega) (by omega))) (by omega)).1]; exact a96) | (have t := K144; rw [(nu_3 (by omega) f110 (by omega)).1, g110]; exact (fvRn_f (by omega) (by omega)).symm) | (rw [(nu_3 (by omega) f151 (by omega)).1, g151 (by omega)]) | exact (nu_4 (by omega) f151 (by omega)).1.symm), (by first | (have t := K44; rw [(nu_1 (by omega)).2]; omega) | (have t := K96; rw [(nu_2 (by omega) (f53.trans (chR_e (by omega) (by omega))) (by omega)).2]; omega) | (have t := K144; rw [(nu_3 (by omega) f110 (by omega)).2]; omega) | (rw [(nu_3 (by omega) f151 (by omega)).2]; omega) | (rw [(nu_4 (by omega) f151 (by omega)).2]; omega))⟩
abbrev Q_mo_leadsTo__q (S : sS) (room : Int) (dir : Int) : pst := fun r S1 => S = S1 ∧ (∃ z : Int, r = some (iv z) ∧ (-1 ≤ z ∧ z ≤ 23) ∧ (z = ldR S room dir))
set_option maxRecDepth 100000 in
theorem t_mo_leadsTo__q {S : sS} (hH : HI S) (room : Int) (dir : Int) (hroom : -2147483648 ≤ room ∧ room ≤ 2147483647) (hdir : -2147483648 ≤ dir ∧ dir ≤ 2147483647) (d : Nat) : Mt lay0 (d + 1) m_mo_leadsTo [.ref 904, iv room, iv dir] S (Q_mo_leadsTo__q S room dir) := by
  refine Mt_R rfl rfl ?_
  have w1 : 0 ≤ Xi S 904 51 ∧ Xi S 904 51 ≤ 200 := hH.c _ _
  have C2 : ∀ (n2 : Nat) (v3 : Int), (0 ≤ v3 ∧ v3 ≤ 200) → (fwR S 943 room dir = fwN S 943 room dir (Xi S 904 51 - v3).toNat v3) → n2 = (201 - v3).toNat → Rl lay0 (d + 0) m_mo_leadsTo 2 [(0, .ref 904), (1, iv room), (2, iv dir), (3, iv v3)] [] S (Q_mo_leadsTo__q S room dir) := by
    intro n2
    induction n2 using Nat.strongRecOn with
    | ind n2 ih2 =>
      intro v3 w2 f2 hm2
      have C45 : ∀ (n45 : Nat) (v3 : Int), (0 ≤ v3 ∧ v3 ≤ 200) → (fwR S 943 room dir = -1) → (fwR S 945 room (ixorF dir 1) = fwN S 945 room (ixorF dir 1) (Xi S 904 51 - v3).toNat v3) → n45 = (201 - v3).toNat → Rl lay0 (d + 0) m_mo_leadsTo 45 [(0, .ref 904), (1, iv room), (2, iv dir), (3, iv v3)] [] S (Q_mo_leadsTo__q S room dir) := by
        intro n45
        induction n45 using Nat.strongRecOn with
        | ind n45 ih45 =>
          intro v3 w3 g45 f45 hm45
          refine l_iload_n rfl rfl ?_
          refine l_aload_n rfl rfl ?_
          refine l_gfi rfl rfl rfl rfl rfl ?_
          refine l_icmp_ge rfl rfl (by unfold rg; omega) (by unfold rg; omega) (fun w4 => ?_) (fun w5 => ?_)
          · refine l_iconst rfl ?_
            refine l_ireturn rfl rfl ?_
            exact ⟨rfl, _, rfl, ⟨by omega, by omega⟩, (by first | (have t := K35; exact (ld_1 (f2.trans (fwN_f (by omega) (by omega) (by omega))) (by omega)).symm) | (have t := K80; exact (ld_2 g45 (f45.trans (fwN_f (by omega) (by omega) (by omega))) (by omega)).symm) | exact (ld_3 g45 (f45.trans (fwN_e (by omega)))).symm)⟩
          · refine l_aload_n rfl rfl ?_
            refine l_gfr rfl rfl rfl rfl rfl (hH.r 904 54 945 rfl) ?_
            refine l_iload_n rfl rfl ?_
            refine l_iaload (n := 200) rfl rfl (by omega) (by omega) (by unfold rg; omega) ?_
            have w6 : 0 ≤ (Xi S 945 ((v3).toNat)) ∧ (Xi S 945 ((v3).toNat)) ≤ 23 := hH.c _ _
            refine l_iload_n rfl rfl ?_
            refine l_icmp_ne rfl rfl (by unfold rg; omega) (by unfold rg; omega) (fun w7 => ?_) (fun w8 => ?_)
            · refine l_iinc rfl rfl rfl rfl ?_
              refine l_goto rfl rfl ?_
              exact Rl_weak (ih45 _ (by omega) ((v3 + 1)) (by omega) (by first | exact g45 | exact f2.trans (fwN_e (by omega))) (by first | exact f45.trans (fwN_s (by omega) (by omega)) | rfl) rfl) (And.intro rfl (And.intro rfl (And.intro rfl (And.intro rfl (True.intro)))))
            · refine l_aload_n rfl rfl ?_
              refine l_gfr rfl rfl rfl rfl rfl (hH.r 904 53 944 rfl) ?_
              refine l_iload_n rfl rfl ?_
              refine l_iaload (n := 200) rfl rfl (by omega) (by omega) (by unfold rg; omega) ?_
              have w9 : 0 ≤ (Xi S 944 ((v3).toNat)) ∧ (Xi S 944 ((v3).toNat)) ≤ 5 := hH.c _ _
              refine l_iload_n rfl rfl ?_
              refine l_iconst rfl ?_
              refine l_ixorF rfl ?_
              have w10 : -2147483648 ≤ (ixorF dir 1) ∧ (ixorF dir 1) ≤ 2147483647 := ixorF_rg
              refine l_icmp_ne rfl rfl (by unfold rg; omega) (by unfold rg; omega) (fun w11 => ?_) (fun w12 => ?_)
              · refine l_iinc rfl rfl rfl rfl ?_
                refine l_goto rfl rfl ?_
                exact Rl_weak (ih45 _ (by omega) ((v3 + 1)) (by omega) (by first | exact g45 | exact f2.trans (fwN_e (by omega))) (by first | exact f45.trans (fwN_s (by omega) (by omega)) | rfl) rfl) (And.intro rfl (And.intro rfl (And.intro rfl (And.intro rfl (True.intro)))))
              · refine l_aload_n rfl rfl ?_
                refine l_gfr rfl rfl rfl rfl rfl (hH.r 904 52 943 rfl) ?_
                refine l_iload_n rfl rfl ?_
                refine l_iaload (n := 200) rfl rfl (by omega) (by omega) (by unfold rg; omega) ?_
                have w13 : 0 ≤ (Xi S 943 ((v3).toNat)) ∧ (Xi S 943 ((v3).toNat)) ≤ 23 := hH.c _ _
                have K80 : True := trivial
                refine l_ireturn rfl rfl ?_
                exact ⟨rfl, _, rfl, ⟨by omega, by omega⟩, (by first | (have t := K35; exact (ld_1 (f2.trans (fwN_f (by omega) (by omega) (by omega))) (by omega)).symm) | (have t := K80; exact (ld_2 g45 (f45.trans (fwN_f (by omega) (by omega) (by omega))) (by omega)).symm) | exact (ld_3 g45 (f45.trans (fwN_e (by omega)))).symm)⟩
      refine l_iload_n rfl rfl ?_
      refine l_aload_n rfl rfl ?_
      refine l_gfi rfl rfl rfl rfl rfl ?_
      refine l_icmp_ge rfl rfl (by unfold rg; omega) (by unfold rg; omega) (fun w14 => ?_) (fun w15 => ?_)
      · refine l_iconst rfl ?_
        refine l_istore_n rfl rfl rfl ?_
        exact Rl_weak (C45 _ (0) (by omega) (by first | exact g45 | exact f2.trans (fwN_e (by omega))) (by first | exact f45.trans (fwN_s (by omega) (by omega)) | rfl) rfl) (And.intro rfl (And.intro rfl (And.intro rfl (And.intro rfl (True.intro)))))
      · refine l_aload_n rfl rfl ?_
        refine l_gfr rfl rfl rfl rfl rfl (hH.r 904 52 943 rfl) ?_
        refine l_iload_n rfl rfl ?_
        refine l_iaload (n := 200) rfl rfl (by omega) (by omega) (by unfold rg; omega) ?_
        have w16 : 0 ≤ (Xi S 943 ((v3).toNat)) ∧ (Xi S 943 ((v3).toNat)) ≤ 23 := hH.c _ _
        refine l_iload_n rfl rfl ?_
        refine l_icmp_ne rfl rfl (by unfold rg; omega) (by unfold rg; omega) (fun w17 => ?_) (fun w18 => ?_)
        · refine l_iinc rfl rfl rfl rfl ?_
          refine l_goto rfl rfl ?_
          exact Rl_weak (ih2 _ (by omega) ((v3 + 1)) (by omega) (by first | exact f2.trans (fwN_s (by omega) (by omega)) | rfl) rfl) (And.intro rfl (And.intro rfl (And.intro rfl (And.intro rfl (True.intro)))))
        · refine l_aload_n rfl rfl ?_
          refine l_gfr rfl rfl rfl rfl rfl (hH.r 904 53 944 rfl) ?_
          refine l_iload_n rfl rfl ?_
          refine l_iaload (n := 200) rfl rfl (by omega) (by omega) (by unfold rg; omega) ?_
          have w19 : 0 ≤ (Xi S 944 ((v3).toNat)) ∧ (Xi S 944 ((v3).toNat)) ≤ 5 := hH.c _ _
          refine l_iload_n rfl rfl ?_
          refine l_icmp_ne rfl rfl (by unfold rg; omega) (by unfold rg; omega) (fun w20 => ?_) (fun w21 => ?_)
          · refine l_iinc rfl rfl rfl rfl ?_
            refine l_goto rfl rfl ?_
            exact Rl_weak (ih2 _ (by omega) ((v3 + 1)) (by omega) (by first | exact f2.trans (fwN_s (by omega) (by omega)) | rfl) rfl) (And.intro rfl (And.intro rfl (And.intro rfl (And.intro rfl (True.intro)))))
          · refine l_aload_n rfl rfl ?_
            refine l_gfr rfl rfl rfl rfl rfl (hH.r 904 54 945 rfl) ?_
            refine l_iload_n rfl rfl ?_
            refine l_iaload (n := 200) rfl rfl (by omega) (by omega) (by unfold rg; omega) ?_
            have w22 : 0 ≤ (Xi S 945 ((v3).toNat)) ∧ (Xi S 945 ((v3).toNat)) ≤ 23 := hH.c _ _
            have K35 : True := trivial
            refine l_ireturn rfl rfl ?_
            exact ⟨rfl, _, rfl, ⟨by omega, by omega⟩, (by first | (have t := K35; exact (ld_1 (f2.trans (fwN_f (by omega) (by omega) (by omega))) (by omega)).symm) | (have t := K80; exact (ld_2 g45 (f45.trans (fwN_f (by omega) (by omega) (by omega))) (by omega)).symm) | exact (ld_3 g45 (f45.trans (fwN_e (by omega)))).symm)⟩
  refine l_iconst rfl ?_
  refine l_istore_n rfl rfl rfl ?_
  exact Rl_weak (C2 _ (0) (by omega) (by first | exact f2.trans (fwN_s (by omega) (by omega)) | rfl) rfl) (And.intro rfl (And.intro rfl (And.intro rfl (And.intro rfl (True.intro)))))
abbrev Q_mo_leads__q (S : sS) (room : Int) (dir : Int) : pst := fun r S1 => S = S1 ∧ (∃ z : Int, r = some (iv z) ∧ (-1 ≤ z ∧ z ≤ 23) ∧ (((room < 0 ∨ Xi S 904 19 ≤ room ∨ dir < 0 ∨ 6 ≤ dir) → z = -1) ∧ (0 ≤ room → room < Xi S 904 19 → 0 ≤ dir → dir < 6 → z = ldR S room dir)))
set_option maxRecDepth 100000 in
theorem t_mo_leads__q {S : sS} (hH : HI S) (room : Int) (dir : Int) (hroom : -2147483648 ≤ room ∧ room ≤ 2147483647) (hdir : -2147483648 ≤ dir ∧ dir ≤ 2147483647) (d : Nat) : Mt lay0 (d + 2) m_mo_leads [.ref 904, iv room, iv dir] S (Q_mo_leads__q S room dir) := by
  refine Mt_R rfl rfl ?_
  have w1 : 0 ≤ Xi S 904 19 ∧ Xi S 904 19 ≤ 24 := hH.c _ _
  refine l_iload_n rfl rfl ?_
  refine l_iconst rfl ?_
  refine l_aload_n rfl rfl ?_
  refine l_gfi rfl rfl rfl rfl rfl ?_
  refine l_iconst rfl ?_
  refine l_isub rfl ?_
  refine l_callS rfl rfl (by decide) rfl (t_mo_in hH room 0 ((Xi S 904 19) - 1) ⟨by omega, by omega⟩ ⟨by omega, by omega⟩ ⟨by omega, by omega⟩ _) ?_
  rintro _ _ ⟨rfl, z3, rfl, w3, w2⟩
  show Rl _ _ _ _ _ [iv z3] _ _
  refine l_if_eq rfl rfl (by unfold rg; omega) (fun w4 => ?_) (fun w5 => ?_)
  · refine l_iconst rfl ?_
    refine l_ireturn rfl rfl ?_
    exact ⟨rfl, _, rfl, ⟨by omega, by omega⟩, (by omega)⟩
  · refine l_iload_n rfl rfl ?_
    refine l_iconst rfl ?_
    refine l_iconst rfl ?_
    refine l_callS rfl rfl (by decide) rfl (t_mo_in hH dir 0 5 ⟨by omega, by omega⟩ ⟨by omega, by omega⟩ ⟨by omega, by omega⟩ _) ?_
    rintro _ _ ⟨rfl, z7, rfl, w7, w6⟩
    show Rl _ _ _ _ _ [iv z7] _ _
    refine l_if_eq rfl rfl (by unfold rg; omega) (fun w8 => ?_) (fun w9 => ?_)
    · refine l_iconst rfl ?_
      refine l_ireturn rfl rfl ?_
      exact ⟨rfl, _, rfl, ⟨by omega, by omega⟩, (by omega)⟩
    · refine l_aload_n rfl rfl ?_
      refine l_iload_n rfl rfl ?_
      refine l_iload_n rfl rfl ?_
      refine l_callV rfl rfl rfl (t_mo_leadsTo__q hH room dir ⟨by omega, by omega⟩ ⟨by omega, by omega⟩ _) ?_
      rintro _ _ ⟨rfl, z11, rfl, w11, w10⟩
      show Rl _ _ _ _ _ [iv z11] _ _
      refine l_goto rfl rfl ?_
      refine l_ireturn rfl rfl ?_
      exact ⟨rfl, _, rfl, ⟨by omega, by omega⟩, (by omega)⟩
abbrev Q_mo_isProperty__q (S : sS) (o : Int) (p : Int) : pst := fun r S1 => S = S1 ∧ (∃ z : Int, r = some (iv z) ∧ (0 ≤ z ∧ z ≤ 1) ∧ (z = 1 → 0 ≤ o ∧ o ≤ 23 ∧ 0 ≤ p ∧ p ≤ 11 ∧ o < Xi S 904 19) ∧ ((z = 1 → (0 ≤ o ∧ o < Xi S 904 19) ∧ (0 ≤ p ∧ p < Xi S 904 32) ∧ hsR S (Xi S 918 o.toNat) p ≠ 0) ∧ (z = 0 → (o < 0 ∨ Xi S 904 19 ≤ o) ∨ (p < 0 ∨ Xi S 904 32 ≤ p) ∨ hsR S (Xi S 918 o.toNat) p = 0)))
set_option maxRecDepth 100000 in
theorem t_mo_isProperty__q {S : sS} (hH : HI S) (o : Int) (p : Int) (ho : -2147483648 ≤ o ∧ o ≤ 2147483647) (hp : -2147483648 ≤ p ∧ p ≤ 2147483647) (hB : ABV S) (d : Nat) : Mt lay0 (d + 2) m_mo_isProperty [.ref 904, iv o, iv p] S (Q_mo_isProperty__q S o p) := by
  refine Mt_R rfl rfl ?_
  have w1 : 0 ≤ Xi S 904 19 ∧ Xi S 904 19 ≤ 24 := hH.c _ _
  have w2 : 0 ≤ Xi S 904 32 ∧ Xi S 904 32 ≤ 12 := hH.c _ _
  refine l_iload_n rfl rfl ?_
  refine l_iconst rfl ?_
  refine l_aload_n rfl rfl ?_
  refine l_gfi rfl rfl rfl rfl rfl ?_
  refine l_iconst rfl ?_
  refine l_isub rfl ?_
  refine l_callS rfl rfl (by decide) rfl (t_mo_in hH o 0 ((Xi S 904 19) - 1) ⟨by omega, by omega⟩ ⟨by omega, by omega⟩ ⟨by omega, by omega⟩ _) ?_
  rintro _ _ ⟨rfl, z4, rfl, w4, w3⟩
  show Rl _ _ _ _ _ [iv z4] _ _
  refine l_if_eq rfl rfl (by unfold rg; omega) (fun w5 => ?_) (fun w6 => ?_)
  · refine l_iconst rfl ?_
    refine l_ireturn rfl rfl ?_
    exact ⟨rfl, _, rfl, ⟨by omega, by omega⟩, (by first | assumption | omega), (by omega)⟩
  · refine l_iload_n rfl rfl ?_
    refine l_iconst rfl ?_
    refine l_aload_n rfl rfl ?_
    refine l_gfi rfl rfl rfl rfl rfl ?_
    refine l_iconst rfl ?_
    refine l_isub rfl ?_
    refine l_callS rfl rfl (by decide) rfl (t_mo_in hH p 0 ((Xi S 904 32) - 1) ⟨by omega, by omega⟩ ⟨by omega, by omega⟩ ⟨by omega, by omega⟩ _) ?_
    rintro _ _ ⟨rfl, z8, rfl, w8, w7⟩
    show Rl _ _ _ _ _ [iv z8] _ _
    refine l_if_eq rfl rfl (by unfold rg; omega) (fun w9 => ?_) (fun w10 => ?_)
    · refine l_iconst rfl ?_
      refine l_ireturn rfl rfl ?_
      exact ⟨rfl, _, rfl, ⟨by omega, by omega⟩, (by first | assumption | omega), (by omega)⟩
    · refine l_aload_n rfl rfl ?_
      refine l_aload_n rfl rfl ?_
      refine l_gfr rfl rfl rfl rfl rfl (hH.r 904 20 918 rfl) ?_
      refine l_iload_n rfl rfl ?_
      refine l_iaload (n := 24) rfl rfl (by omega) (by omega) (by unfold rg; omega) ?_
      have w11 : 0 ≤ (Xi S 918 ((o).toNat)) ∧ (Xi S 918 ((o).toNat)) ≤ 15 := hH.c _ _
      refine l_iload_n rfl rfl ?_
      refine l_callV rfl rfl rfl (t_mo_has__2 hH (Xi S 918 ((o).toNat)) p ⟨by omega, by omega⟩ ⟨by omega, by omega⟩ (by first | assumption | exact (by assumption : ABV S)) _) ?_
      rintro _ _ ⟨rfl, z14, rfl, w14, w12, w13⟩
      show Rl _ _ _ _ _ [iv z14] _ _
      refine l_if_eq rfl rfl (by unfold rg; omega) (fun w15 => ?_) (fun w16 => ?_)
      · refine l_iconst rfl ?_
        refine l_ireturn rfl rfl ?_
        exact ⟨rfl, _, rfl, ⟨by omega, by omega⟩, (by first | assumption | omega), (by omega)⟩
      · refine l_iconst rfl ?_
        refine l_goto rfl rfl ?_
        refine l_ireturn rfl rfl ?_
        exact ⟨rfl, _, rfl, ⟨by omega, by omega⟩, (by first | assumption | omega), (by omega)⟩
def md_mo_property_2__q : List rec := [(904, 905, 154, 155)]
abbrev Q_mo_property_2__q (S : sS) (o : Int) (p : Int) : pst := fun r S1 => HI S1 ∧ FR md_mo_property_2__q S S1 ∧ (∃ z : Int, r = some (iv z) ∧ (-2147483648 ≤ z ∧ z ≤ 2147483647) ∧ (((0 ≤ o ∧ o < Xi S 904 19) ∧ (0 ≤ p ∧ p < Xi S 904 32) ∧ hsR S (Xi S 918 o.toNat) p ≠ 0 → (Xi S 928 p.toNat = 1 → z = nlR S o p) ∧ (Xi S 928 p.toNat ≠ 1 → z = nuR S o p)) ∧ (¬ ((0 ≤ o ∧ o < Xi S 904 19) ∧ (0 ≤ p ∧ p < Xi S 904 32) ∧ hsR S (Xi S 918 o.toNat) p ≠ 0) → z = -1)))
set_option maxRecDepth 100000 in
theorem t_mo_property_2__q {S : sS} (hH : HI S) (o : Int) (p : Int) (ho : -2147483648 ≤ o ∧ o ≤ 2147483647) (hp : -2147483648 ≤ p ∧ p ≤ 2147483647) (hB : ABV S) (hX : TXM S) (d : Nat) : Mt lay0 (d + 3) m_mo_property_2 [.ref 904, iv o, iv p] S (Q_mo_property_2__q S o p) := by
  refine Mt_R rfl rfl ?_
  have hF : FR md_mo_property_2__q S S := FR.rf
  have w1 : 0 ≤ Xi S 904 19 ∧ Xi S 904 19 ≤ 24 := hH.c _ _
  have w2 : 0 ≤ Xi S 904 32 ∧ Xi S 904 32 ≤ 12 := hH.c _ _
  refine l_aload_n rfl rfl ?_
  refine l_iload_n rfl rfl ?_
  refine l_iload_n rfl rfl ?_
  refine l_callV rfl rfl rfl (t_mo_isProperty__q hH o p ⟨by omega, by omega⟩ ⟨by omega, by omega⟩ (by first | assumption | exact (ABV_FR hF rfl (by assumption : ABV S))) _) ?_
  rintro _ _ ⟨rfl, z7, rfl, w7, w5, w6⟩
  show Rl _ _ _ _ _ [iv z7] _ _
  refine l_if_ne rfl rfl (by unfold rg; omega) (fun w8 => ?_) (fun w9 => ?_)
  · refine l_aload_n rfl rfl ?_
    refine l_iload_n rfl rfl ?_
    refine l_iload_n rfl rfl ?_
    refine l_callV rfl rfl rfl (t_mo_numberOf__q hH o p ⟨by omega, by omega⟩ ⟨by omega, by omega⟩ (by first | assumption | exact (ABV_FR hF rfl (by assumption : ABV S))) (by first | assumption | exact (TXM_FR hF rfl (by assumption : TXM S))) (by first | assumption | omega) _) ?_
    rintro _ T1 ⟨hHT1, w15, z14, rfl, w14, w11, w12, w13⟩
    have hFT1 : FR md_mo_property_2__q S T1 := FR.tr hF w15 rfl
    show Rl _ _ _ _ _ [iv z14] _ _
    refine l_istore_n rfl rfl rfl ?_
    refine l_aload_n rfl rfl ?_
    refine l_gfr rfl rfl rfl rfl rfl (hHT1.r 904 33 928 rfl) ?_
    refine l_iload_n rfl rfl ?_
    refine l_iaload (n := 12) rfl rfl (by omega) (by omega) (by unfold rg; omega) ?_
    have w16 : 0 ≤ (Xi T1 928 ((p).toNat)) ∧ (Xi T1 928 ((p).toNat)) ≤ 7 := hHT1.c _ _
    have e23 : (Xi T1 928 ((p).toNat)) = Xi S 928 p.toNat := (hFT1.cx 928 rfl _).1
    refine l_iconst rfl ?_
    refine l_icmp_ne rfl rfl (by unfold rg; omega) (by unfold rg; omega) (fun w17 => ?_) (fun w18 => ?_)
    · refine l_iload_n rfl rfl ?_
      refine l_ireturn rfl rfl ?_
      exact ⟨hHT1, hFT1, _, rfl, ⟨by omega, by omega⟩, (by omega)⟩
    · refine l_aload_n rfl rfl ?_
      refine l_gfi rfl rfl rfl rfl rfl ?_
      have w19 : -2147483648 ≤ (Xi T1 904 154) ∧ (Xi T1 904 154) ≤ 2147483647 := Xi_rgI
      refine l_goto rfl rfl ?_
      refine l_ireturn rfl rfl ?_
      exact ⟨hHT1, hFT1, _, rfl, ⟨by omega, by omega⟩, (by omega)⟩
  · refine l_iconst rfl ?_
    refine l_ireturn rfl rfl ?_
    exact ⟨hH, hF, _, rfl, ⟨by omega, by omega⟩, (by omega)⟩
def md_mo_letter__q : List rec := [(904, 905, 154, 155)]
abbrev Q_mo_letter__q (S : sS) (o : Int) (p : Int) (k : Int) : pst := fun r S1 => HI S1 ∧ FR md_mo_letter__q S S1 ∧ (∃ z : Int, r = some (iv z) ∧ (-1 ≤ z ∧ z ≤ 255) ∧ ((((0 ≤ o ∧ o < Xi S 904 19) ∧ (0 ≤ p ∧ p < Xi S 904 32) ∧ hsR S (Xi S 918 o.toNat) p ≠ 0) ∧ Xi S 928 p.toNat = 1 ∧ 0 ≤ k ∧ k < nlR S o p → z = Xi S 906 (nuR S o p + k).toNat % 256) ∧ (¬ (((0 ≤ o ∧ o < Xi S 904 19) ∧ (0 ≤ p ∧ p < Xi S 904 32) ∧ hsR S (Xi S 918 o.toNat) p ≠ 0) ∧ Xi S 928 p.toNat = 1 ∧ 0 ≤ k ∧ k < nlR S o p) → z = -1)))
set_option maxRecDepth 100000 in
theorem t_mo_letter__q {S : sS} (hH : HI S) (o : Int) (p : Int) (k : Int) (ho : -2147483648 ≤ o ∧ o ≤ 2147483647) (hp : -2147483648 ≤ p ∧ p ≤ 2147483647) (hk : -2147483648 ≤ k ∧ k ≤ 2147483647) (hB : ABV S) (hX : TXM S) (d : Nat) : Mt lay0 (d + 3) m_mo_letter [.ref 904, iv o, iv p, iv k] S (Q_mo_letter__q S o p k) := by
  refine Mt_R rfl rfl ?_
  have hF : FR md_mo_letter__q S S := FR.rf
  have w1 : 0 ≤ Xi S 904 19 ∧ Xi S 904 19 ≤ 24 := hH.c _ _
  have w2 : 0 ≤ Xi S 904 32 ∧ Xi S 904 32 ≤ 12 := hH.c _ _
  refine l_aload_n rfl rfl ?_
  refine l_iload_n rfl rfl ?_
  refine l_iload_n rfl rfl ?_
  refine l_callV rfl rfl rfl (t_mo_isProperty__q hH o p ⟨by omega, by omega⟩ ⟨by omega, by omega⟩ (by first | assumption | exact (ABV_FR hF rfl (by assumption : ABV S))) _) ?_
  rintro _ _ ⟨rfl, z7, rfl, w7, w5, w6⟩
  show Rl _ _ _ _ _ [iv z7] _ _
  refine l_if_eq rfl rfl (by unfold rg; omega) (fun w8 => ?_) (fun w9 => ?_)
  · refine l_iconst rfl ?_
    refine l_ireturn rfl rfl ?_
    exact ⟨hH, hF, _, rfl, ⟨by omega, by omega⟩, (by omega)⟩
  · refine l_aload_n rfl rfl ?_
    refine l_gfr rfl rfl rfl rfl rfl (hH.r 904 33 928 rfl) ?_
    refine l_iload_n rfl rfl ?_
    refine l_iaload (n := 12) rfl rfl (by omega) (by omega) (by unfold rg; omega) ?_
    have w10 : 0 ≤ (Xi S 928 ((p).toNat)) ∧ (Xi S 928 ((p).toNat)) ≤ 7 := hH.c _ _
    refine l_iconst rfl ?_
    refine l_icmp_eq rfl rfl (by unfold rg; omega) (by unfold rg; omega) (fun w11 => ?_) (fun w12 => ?_)
    · refine l_aload_n rfl rfl ?_
      refine l_iload_n rfl rfl ?_
      refine l_iload_n rfl rfl ?_
      refine l_callV rfl rfl rfl (t_mo_numberOf__q hH o p ⟨by omega, by omega⟩ ⟨by omega, by omega⟩ (by first | assumption | exact (ABV_FR hF rfl (by assumption : ABV S))) (by first | assumption | exact (TXM_FR hF rfl (by assumption : TXM S))) (by first | assumption | omega) _) ?_
      rintro _ T1 ⟨hHT1, w17, z16, rfl, w16, w14, q24, w15⟩
      have hFT1 : FR md_mo_letter__q S T1 := FR.tr hF w17 rfl
      show Rl _ _ _ _ _ [iv z16] _ _
      have t24 : Xi S 928 p.toNat = 1 → Xi T1 904 154 = 0 ∨ (0 < Xi T1 904 154 ∧ 0 ≤ z16 ∧ z16 + Xi T1 904 154 ≤ 5000) := by assumption
      refine l_istore rfl rfl rfl ?_
      refine l_iload_n rfl rfl ?_
      refine l_iconst rfl ?_
      refine l_aload_n rfl rfl ?_
      refine l_gfi rfl rfl rfl rfl rfl ?_
      have w18 : -2147483648 ≤ (Xi T1 904 154) ∧ (Xi T1 904 154) ≤ 2147483647 := Xi_rgI
      refine l_iconst rfl ?_
      refine l_isub rfl ?_
      refine l_callS rfl rfl (by decide) rfl (t_mo_in hHT1 k 0 ((Xi T1 904 154) - 1) ⟨by omega, by omega⟩ ⟨by omega, by omega⟩ ⟨by omega, by omega⟩ _) ?_
      rintro _ _ ⟨rfl, z20, rfl, w20, w19⟩
      show Rl _ _ _ _ _ [iv z20] _ _
      refine l_if_eq rfl rfl (by unfold rg; omega) (fun w21 => ?_) (fun w22 => ?_)
      · refine l_iconst rfl ?_
        refine l_ireturn rfl rfl ?_
        exact ⟨hHT1, hFT1, _, rfl, ⟨by omega, by omega⟩, (by omega)⟩
      · refine l_aload_n rfl rfl ?_
        refine l_gfr rfl rfl rfl rfl rfl (hHT1.r 904 2 906 rfl) ?_
        refine l_iload rfl rfl ?_
        refine l_iload_n rfl rfl ?_
        refine l_iadd rfl ?_
        refine l_baload (n := 5000) rfl rfl rfl (by decide) (by omega) (by omega) (by unfold rg; omega) ?_
        have w23 : -128 ≤ (Xi T1 906 (((z16 + k)).toNat)) ∧ (Xi T1 906 (((z16 + k)).toNat)) ≤ 127 := hHT1.c _ _
        have b51 : (Xi T1 906 (((z16 + k)).toNat)) = Xi S 906 (nuR S o p + k).toNat := by rw [(hFT1.cx 906 rfl _).1, q24]
        refine l_sipush rfl rfl ?_
        refine l_iand255 rfl (by unfold rg; omega) ?_
        refine l_goto rfl rfl ?_
        refine l_ireturn rfl rfl ?_
        exact ⟨hHT1, hFT1, _, rfl, ⟨by omega, by omega⟩, (by omega)⟩
    · refine l_iconst rfl ?_
      refine l_ireturn rfl rfl ?_
      exact ⟨hH, hF, _, rfl, ⟨by omega, by omega⟩, (by omega)⟩
abbrev Q_mo_kind__q (S : sS) (i : Int) (w : Int) : pst := fun r S1 => S = S1 ∧ (∃ z : Int, r = some (iv z) ∧ (-1 ≤ z ∧ z ≤ 64) ∧ (((i < 0 ∨ Xi S 904 16 ≤ i ∨ w < 0 ∨ 2 < w) → z = -1) ∧ (0 ≤ i → i < Xi S 904 16 → (w = 0 → z = Xi S 917 i.toNat) ∧ (w = 1 → z = npN S i (Xi S 904 32).toNat) ∧ (w = 2 → z = naN S i (Xi S 904 23).toNat))))
set_option maxRecDepth 100000 in
theorem t_mo_kind__q {S : sS} (hH : HI S) (i : Int) (w : Int) (hi : -2147483648 ≤ i ∧ i ≤ 2147483647) (hw : -2147483648 ≤ w ∧ w ≤ 2147483647) (hB : ABV S) (d : Nat) : Mt lay0 (d + 2) m_mo_kind [.ref 904, iv i, iv w] S (Q_mo_kind__q S i w) := by
  refine Mt_R rfl rfl ?_
  have w1 : 0 ≤ Xi S 904 16 ∧ Xi S 904 16 ≤ 16 := hH.c _ _
  have w2 : 0 ≤ Xi S 904 23 ∧ Xi S 904 23 ≤ 24 := hH.c _ _
  have w3 : 0 ≤ Xi S 904 32 ∧ Xi S 904 32 ≤ 12 := hH.c _ _
  have C30 : ∀ (n30 : Nat) (v3 : Int) (v4 : Int), (0 ≤ v3 ∧ v3 ≤ 36) → (0 ≤ v4 ∧ v4 ≤ 12) → (0 ≤ v3 ∧ v3 ≤ v4) → (0 ≤ i ∧ i ≤ 15) → (i < Xi S 904 16) → (0 ≤ w ∧ w ≤ 2) → (v4 ≤ Xi S 904 32) → (v3 = npN S i v4.toNat) → (w ≠ 1 → v3 = 0) → n30 = (13 - v4).toNat → Rl lay0 (d + 1) m_mo_kind 30 [(0, .ref 904), (1, iv i), (2, iv w), (3, iv v3), (4, iv v4)] [] S (Q_mo_kind__q S i w) := by
    intro n30
    induction n30 using Nat.strongRecOn with
    | ind n30 ih30 =>
      intro v3 v4 w4 w5 w6 w7 w8 w9 w10 f30 w11 hm30
      have C68 : ∀  (v3 : Int), (0 ≤ v3 ∧ v3 ≤ 36) → (0 ≤ v3 ∧ v3 ≤ 12) → (0 ≤ i ∧ i ≤ 15) → (i < Xi S 904 16) → (0 ≤ w ∧ w ≤ 2) → (w = 1 → v3 = npN S i (Xi S 904 32).toNat) → (w ≠ 1 → v3 = 0) → Rl lay0 (d + 1) m_mo_kind 68 [(0, .ref 904), (1, iv i), (2, iv w), (3, iv v3)] [] S (Q_mo_kind__q S i w) := by
        intro v3 w12 w13 w14 w15 w16 f68 w17
        have C71 : ∀ (n71 : Nat) (v3 : Int) (v4 : Int), (0 ≤ v3 ∧ v3 ≤ 36) → (0 ≤ v4 ∧ v4 ≤ 24) → (0 ≤ v3 ∧ v3 ≤ 12 + v4) → (0 ≤ i ∧ i ≤ 15) → (i < Xi S 904 16) → (0 ≤ w ∧ w ≤ 2) → (v4 ≤ Xi S 904 23) → (w = 1 → v3 = npN S i (Xi S 904 32).toNat) → (w = 2 → v3 = naN S i v4.toNat) → (v4 = 0 ∨ w = 2) → n71 = (25 - v4).toNat → Rl lay0 (d + 1) m_mo_kind 71 [(0, .ref 904), (1, iv i), (2, iv w), (3, iv v3), (4, iv v4)] [] S (Q_mo_kind__q S i w) := by
          intro n71
          induction n71 using Nat.strongRecOn with
          | ind n71 ih71 =>
            intro v3 v4 w18 w19 w20 w21 w22 w23 w24 f71 g71 w25 hm71
            have C114 : ∀  (v3 : Int), (0 ≤ v3 ∧ v3 ≤ 36) → (0 ≤ v3 ∧ v3 ≤ 36) → (0 ≤ i ∧ i ≤ 15) → (i < Xi S 904 16) → (0 ≤ w ∧ w ≤ 2) → (w = 1 → v3 = npN S i (Xi S 904 32).toNat) → (w = 2 → v3 = naN S i (Xi S 904 23).toNat) → Rl lay0 (d + 1) m_mo_kind 114 [(0, .ref 904), (1, iv i), (2, iv w), (3, iv v3)] [] S (Q_mo_kind__q S i w) := by
              intro v3 w26 w27 w28 w29 w30 f114 g114
              refine l_iload_n rfl rfl ?_
              refine l_if_ne rfl rfl (by unfold rg; omega) (fun w31 => ?_) (fun w32 => ?_)
              · refine l_iload_n rfl rfl ?_
                refine l_ireturn rfl rfl ?_
                exact ⟨rfl, _, rfl, ⟨by omega, by omega⟩, (by omega)⟩
              · refine l_aload_n rfl rfl ?_
                refine l_gfr rfl rfl rfl rfl rfl (hH.r 904 17 917 rfl) ?_
                refine l_iload_n rfl rfl ?_
                refine l_iaload (n := 16) rfl rfl (by omega) (by omega) (by unfold rg; omega) ?_
                have w33 : -1 ≤ (Xi S 917 ((i).toNat)) ∧ (Xi S 917 ((i).toNat)) ≤ 15 := hH.c _ _
                refine l_goto rfl rfl ?_
                refine l_ireturn rfl rfl ?_
                exact ⟨rfl, _, rfl, ⟨by omega, by omega⟩, (by omega)⟩
            refine l_iload rfl rfl ?_
            refine l_aload_n rfl rfl ?_
            refine l_gfi rfl rfl rfl rfl rfl ?_
            refine l_icmp_ge rfl rfl (by unfold rg; omega) (by unfold rg; omega) (fun w34 => ?_) (fun w35 => ?_)
            · exact Rl_weak (C114 (v3) (by omega) (by omega) (by omega) (by omega) (by omega) (f71) (fun q => by rw [g71 q]; congr 1; omega)) (And.intro rfl (And.intro rfl (And.intro rfl (And.intro rfl (True.intro)))))
            · refine l_iload_n rfl rfl ?_
              refine l_iconst rfl ?_
              refine l_icmp_ne rfl rfl (by unfold rg; omega) (by unfold rg; omega) (fun w36 => ?_) (fun w37 => ?_)
              · exact Rl_weak (C114 (v3) (by omega) (by omega) (by omega) (by omega) (by omega) (f71) (fun q => by rw [g71 q]; congr 1; omega)) (And.intro rfl (And.intro rfl (And.intro rfl (And.intro rfl (True.intro)))))
              · refine l_iload_n rfl rfl ?_
                refine l_aload_n rfl rfl ?_
                refine l_iload_n rfl rfl ?_
                refine l_aload_n rfl rfl ?_
                refine l_gfr rfl rfl rfl rfl rfl (hH.r 904 24 921 rfl) ?_
                refine l_iload rfl rfl ?_
                refine l_iaload (n := 24) rfl rfl (by omega) (by omega) (by unfold rg; omega) ?_
                have w38 : 0 ≤ (Xi S 921 ((v4).toNat)) ∧ (Xi S 921 ((v4).toNat)) ≤ 15 := hH.c _ _
                refine l_callV rfl rfl rfl (t_mo_isBelow__2 hH i (Xi S 921 ((v4).toNat)) ⟨by omega, by omega⟩ ⟨by omega, by omega⟩ (by first | assumption | exact (by assumption : ABV S)) _) ?_
                rintro _ _ ⟨rfl, z40, rfl, w40, w39, h95⟩
                show Rl _ _ _ _ _ [iv z40, iv v3] _ _
                refine l_if_eq rfl rfl (by unfold rg; omega) (fun w41 => ?_) (fun w42 => ?_)
                · refine l_iconst rfl ?_
                  refine l_iadd rfl ?_
                  have F107 : (v3 + 0) = naN S i (v4 + 1).toNat := naN_s (g71 (by omega)) (by omega) h95 (by omega)
                  refine l_istore_n rfl rfl rfl ?_
                  refine l_iinc rfl rfl rfl rfl ?_
                  refine l_goto rfl rfl ?_
                  exact Rl_weak (ih71 _ (by omega) ((v3 + 0)) ((v4 + 1)) (by omega) (by omega) (by omega) (by omega) (by omega) (by omega) (by omega) (by first | exact f68 | (intro q; exfalso; omega)) (by first | (intro _; exact F107) | (intro q; rw [show ((0 : Int)).toNat = 0 by rfl]; show _ = 0; omega)) (by omega) rfl) (And.intro rfl (And.intro rfl (And.intro rfl (And.intro rfl (And.intro rfl (True.intro))))))
                · refine l_iconst rfl ?_
                  refine l_goto rfl rfl ?_
                  refine l_iadd rfl ?_
                  have F107 : (v3 + 1) = naN S i (v4 + 1).toNat := naN_s (g71 (by omega)) (by omega) h95 (by omega)
                  refine l_istore_n rfl rfl rfl ?_
                  refine l_iinc rfl rfl rfl rfl ?_
                  refine l_goto rfl rfl ?_
                  exact Rl_weak (ih71 _ (by omega) ((v3 + 1)) ((v4 + 1)) (by omega) (by omega) (by omega) (by omega) (by omega) (by omega) (by omega) (by first | exact f68 | (intro q; exfalso; omega)) (by first | (intro _; exact F107) | (intro q; rw [show ((0 : Int)).toNat = 0 by rfl]; show _ = 0; omega)) (by omega) rfl) (And.intro rfl (And.intro rfl (And.intro rfl (And.intro rfl (And.intro rfl (True.intro))))))
        refine l_iconst rfl ?_
        refine l_istore rfl rfl rfl ?_
        exact Rl_weak (C71 _ (v3) (0) (by omega) (by omega) (by omega) (by omega) (by omega) (by omega) (by omega) (by first | exact f68 | (intro q; exfalso; omega)) (by first | (intro _; exact F107) | (intro q; rw [show ((0 : Int)).toNat = 0 by rfl]; show _ = 0; omega)) (by omega) rfl) (And.intro rfl (And.intro rfl (And.intro rfl (And.intro rfl (And.intro rfl (True.intro))))))
      refine l_iload rfl rfl ?_
      refine l_aload_n rfl rfl ?_
      refine l_gfi rfl rfl rfl rfl rfl ?_
      refine l_icmp_ge rfl rfl (by unfold rg; omega) (by unfold rg; omega) (fun w43 => ?_) (fun w44 => ?_)
      · exact Rl_weak (C68 (v3) (by omega) (by omega) (by omega) (by omega) (by omega) (fun q => by rw [f30]; congr 1; omega) (by omega)) (And.intro rfl (And.intro rfl (And.intro rfl (And.intro rfl (True.intro)))))
      · refine l_iload_n rfl rfl ?_
        refine l_iconst rfl ?_
        refine l_icmp_ne rfl rfl (by unfold rg; omega) (by unfold rg; omega) (fun w45 => ?_) (fun w46 => ?_)
        · exact Rl_weak (C68 (v3) (by omega) (by omega) (by omega) (by omega) (by omega) (fun q => by rw [f30]; congr 1; omega) (by omega)) (And.intro rfl (And.intro rfl (And.intro rfl (And.intro rfl (True.intro)))))
        · refine l_iload_n rfl rfl ?_
          refine l_aload_n rfl rfl ?_
          refine l_iload_n rfl rfl ?_
          refine l_iload rfl rfl ?_
          refine l_callV rfl rfl rfl (t_mo_has__2 hH i v4 ⟨by omega, by omega⟩ ⟨by omega, by omega⟩ (by first | assumption | exact (by assumption : ABV S)) _) ?_
          rintro _ _ ⟨rfl, z48, rfl, w48, w47, h49⟩
          show Rl _ _ _ _ _ [iv z48, iv v3] _ _
          refine l_if_eq rfl rfl (by unfold rg; omega) (fun w49 => ?_) (fun w50 => ?_)
          · refine l_iconst rfl ?_
            refine l_iadd rfl ?_
            have F61 : (v3 + 0) = npN S i (v4 + 1).toNat := npN_s f30 (by omega) h49 (by omega)
            refine l_istore_n rfl rfl rfl ?_
            refine l_iinc rfl rfl rfl rfl ?_
            refine l_goto rfl rfl ?_
            exact Rl_weak (ih30 _ (by omega) ((v3 + 0)) ((v4 + 1)) (by omega) (by omega) (by omega) (by omega) (by omega) (by omega) (by omega) (by first | exact F61 | rfl) (by omega) rfl) (And.intro rfl (And.intro rfl (And.intro rfl (And.intro rfl (And.intro rfl (True.intro))))))
          · refine l_iconst rfl ?_
            refine l_goto rfl rfl ?_
            refine l_iadd rfl ?_
            have F61 : (v3 + 1) = npN S i (v4 + 1).toNat := npN_s f30 (by omega) h49 (by omega)
            refine l_istore_n rfl rfl rfl ?_
            refine l_iinc rfl rfl rfl rfl ?_
            refine l_goto rfl rfl ?_
            exact Rl_weak (ih30 _ (by omega) ((v3 + 1)) ((v4 + 1)) (by omega) (by omega) (by omega) (by omega) (by omega) (by omega) (by omega) (by first | exact F61 | rfl) (by omega) rfl) (And.intro rfl (And.intro rfl (And.intro rfl (And.intro rfl (And.intro rfl (True.intro))))))
  refine l_iload_n rfl rfl ?_
  refine l_iconst rfl ?_
  refine l_aload_n rfl rfl ?_
  refine l_gfi rfl rfl rfl rfl rfl ?_
  refine l_iconst rfl ?_
  refine l_isub rfl ?_
  refine l_callS rfl rfl (by decide) rfl (t_mo_in hH i 0 ((Xi S 904 16) - 1) ⟨by omega, by omega⟩ ⟨by omega, by omega⟩ ⟨by omega, by omega⟩ _) ?_
  rintro _ _ ⟨rfl, z52, rfl, w52, w51⟩
  show Rl _ _ _ _ _ [iv z52] _ _
  refine l_if_eq rfl rfl (by unfold rg; omega) (fun w53 => ?_) (fun w54 => ?_)
  · refine l_iconst rfl ?_
    refine l_ireturn rfl rfl ?_
    exact ⟨rfl, _, rfl, ⟨by omega, by omega⟩, (by omega)⟩
  · refine l_iload_n rfl rfl ?_
    refine l_iconst rfl ?_
    refine l_iconst rfl ?_
    refine l_callS rfl rfl (by decide) rfl (t_mo_in hH w 0 2 ⟨by omega, by omega⟩ ⟨by omega, by omega⟩ ⟨by omega, by omega⟩ _) ?_
    rintro _ _ ⟨rfl, z56, rfl, w56, w55⟩
    show Rl _ _ _ _ _ [iv z56] _ _
    refine l_if_ne rfl rfl (by unfold rg; omega) (fun w57 => ?_) (fun w58 => ?_)
    · refine l_iconst rfl ?_
      refine l_istore_n rfl rfl rfl ?_
      refine l_iconst rfl ?_
      refine l_istore rfl rfl rfl ?_
      exact Rl_weak (C30 _ (0) (0) (by omega) (by omega) (by omega) (by omega) (by omega) (by omega) (by omega) (by first | exact F61 | rfl) (by omega) rfl) (And.intro rfl (And.intro rfl (And.intro rfl (And.intro rfl (And.intro rfl (True.intro))))))
    · refine l_iconst rfl ?_
      refine l_ireturn rfl rfl ?_
      exact ⟨rfl, _, rfl, ⟨by omega, by omega⟩, (by omega)⟩
end
section
/-! QUESTIONS: the relation between calls -/
def RLQ (U S : sS) : Prop := RVO U S ∧ WHC U ∧ RCT U S ∧ KND U S ∧ RTY U S ∧ RAJ U S ∧ RRE U S ∧ RBT U S ∧ RVA U S ∧ ROB U S ∧ True ∧ RAQ U S ∧ RPR U S ∧ RWY U S ∧ True
def RLB (U S : sS) : Prop := RLQ U S ∧ TX3 U ∧ RCM U S ∧ BKC U S ∧ DFR U S ∧ RULS U S
theorem RLW.q {U S : sS} (h : RLW U S) : RLQ U S := by
  obtain ⟨a, b, c, d, e, f, g, i, j, k, _, l, m, n, _⟩ := h
  exact ⟨a, b, c, d, e, f, g, i, j, k, trivial, l, m, n, trivial⟩
theorem RLA.b {U S : sS} (h : RLA U S) : RLB U S := ⟨h.1.q, h.2⟩
/-! QUESTIONS: both answer alike. Values and texts of objects -/
theorem trw_ch {U S : sS} {p : Nat} (hK : KND U S) (hp : ∀ k : Nat, (k : Int) < Xi U 5 0 → (Xi U (66 + (24 + k)) p = 0 ↔ Xi S 933 (12 * k + p) = 0)) : ∀ (n f : Nat) (k : Int), k < Xi U 5 0 → k + 1 ≤ n → k + 1 ≤ f → (chN S 933 12 p f k = -1 ∧ trwn U p n k = -1) ∨ (0 ≤ chN S 933 12 p f k ∧ chN S 933 12 p f k < Xi U 5 0 ∧ trwn U p n k = 24 + chN S 933 12 p f k ∧ Xi S 933 (12 * chN S 933 12 p f k + p).toNat ≠ 0)
  | 0, 0, k, _, _, _ => Or.inl ⟨rfl, rfl⟩
  | 0, f + 1, k, _, h, _ => Or.inl ⟨by unfold chN; rw [if_pos (by omega)], rfl⟩
  | n + 1, 0, k, _, _, h => Or.inl ⟨rfl, by unfold trwn; rw [if_pos (by omega)]⟩
  | n + 1, f + 1, k, hk, hn, hf => by
    unfold chN trwn
    by_cases q : k < 0
    · rw [if_pos q, if_pos q]; exact Or.inl ⟨rfl, rfl⟩
    · rw [if_neg q, if_neg q]
      have a := hp k.toNat (by omega)
      rw [show 24 + k.toNat = (24 + k).toNat by omega, show 12 * k.toNat + p = (12 * k + p).toNat by omega] at a
      by_cases r : Xi S 933 (12 * k + p).toNat = 0
      · rw [if_pos (a.2 r), if_neg (fun x => x r)]
        obtain ⟨x, y, _⟩ := hK.2 k.toNat (by omega)
        rw [x]
        exact trw_ch hK hp n f (Xi S 917 k.toNat) (by omega) (by omega) (by omega)
      · rw [if_neg (fun x => r (a.1 x)), if_pos r]
        exact Or.inr ⟨by omega, hk, rfl, r⟩
theorem fvo_r {U S : sS} {t : Int} (h : Xi U 5 4 = Xi S 904 30) (h8 : ∀ i : Nat, (i : Int) < Xi U 5 4 → Xi U 8 i = Xi S 927 i) : fvo U t = fvR S t := by
  have : ∀ (n : Nat) (i : Int), 0 ≤ i → i + n ≤ Xi U 5 4 → fvn U t n i = fvRn S t n i := by
    intro n
    induction n with
    | zero => intro i _ _; rfl
    | succ n ih =>
      intro i i0 hi
      unfold fvn fvRn
      rw [h8 i.toNat (by omega), ih (i + 1) (by omega) (by omega)]
  unfold fvo fvR
  rw [← h]
  by_cases q : 0 ≤ Xi U 5 4
  · exact this _ 0 (by omega) (by omega)
  · rw [show (Xi U 5 4).toNat = 0 by omega]; rfl
/-- what both say of a property -/
theorem num_r {U S : sS} {o p : Int} (hw : RLQ U S) (ho : 0 ≤ o ∧ o < Xi U 5 2) (hp : 0 ≤ p ∧ p < Xi U 5 5) : VLQ U S p (vof U o p.toNat) (lof U o p.toNat) (nuR S o p) (nlR S o p) ∧ Xi U 9 p.toNat = Xi S 928 p.toNat := by
  obtain ⟨_, _, ct, kn, ty, _, _, _, _, ob, _, _, pr, _, _⟩ := hw
  have c5 := ct
  unfold RCT at c5
  have p12 : p < 12 := by omega
  have t9 := (ty.2.1 p.toNat (by omega))
  have b := (pr.1 o.toNat p.toNat (by omega) (by omega)).1
  have k0 := ob.1.2 o.toNat (by omega)
  have key := trw_ch (p := p.toNat) kn (fun k hk => by have u := (pr.2.1 k p.toNat hk (by omega)).1.1; rw [show ((24 + (k : Int)).toNat) = 24 + k by omega, show ((p.toNat : Int)).toNat = p.toNat by omega, show ((12 * (k : Int) + (p.toNat : Int)).toNat) = 12 * k + p.toNat by omega] at u; exact u) 16 17 (Xi S 918 o.toNat) (by omega) (by omega) (by omega)
  rw [show ((p.toNat : Nat) : Int) = p by omega] at key
  unfold PVR at b
  rw [show ((o.toNat : Nat) : Int).toNat = o.toNat by omega, show ((p.toNat : Nat) : Int).toNat = p.toNat by omega, show ((12 * ((o.toNat : Nat) : Int) + ((p.toNat : Nat) : Int)).toNat) = (12 * o + p).toNat by omega] at b
  refine ⟨?_, t9.1⟩
  by_cases q : Xi S 930 (12 * o + p).toNat = 0
  · have e : trw U o p.toNat = trwn U p.toNat 16 (Xi S 918 o.toNat) := by unfold trw; rw [if_pos (b.1.2 q), k0.1]
    rcases key with ⟨x, y⟩ | ⟨x1, x2, x3, x4⟩
    · have e2 : trw U o p.toNat = -1 := e.trans y
      have g : chR S 933 12 p (Xi S 918 o.toNat) = -1 := x
      have l0 : lof U o p.toNat = 0 := by unfold lof; rw [if_pos e2]
      by_cases r : 1 < Xi S 928 p.toNat
      · obtain ⟨n1, n2⟩ := nu_3 q g r
        refine ⟨fun z => absurd z (by omega), fun _ => ?_⟩
        rw [n1]; unfold vof; rw [if_pos e2, if_neg (by omega), t9.1]
        exact fvo_r ct.2.2.2.2.1.1 (fun i hi => (ty.1 i hi).1)
      · obtain ⟨n1, n2⟩ := nu_4 q g (by omega)
        have v0 : vof U o p.toNat = 0 := by unfold vof; rw [if_pos e2, if_pos (by omega)]
        exact ⟨fun _ => ⟨by rw [l0, n2], fun i i0 hi => absurd hi (by rw [l0]; omega)⟩, fun _ => by rw [v0, n1]⟩
    · have e2 : trw U o p.toNat = 24 + chR S 933 12 p (Xi S 918 o.toNat) := e.trans x3
      obtain ⟨n1, n2⟩ := nu_2 (S := S) (o := o) (p := p) (k := chR S 933 12 p (Xi S 918 o.toNat)) q rfl (by show chN S 933 12 p 17 _ ≠ -1; omega)
      have y1 : 0 ≤ chR S 933 12 p (Xi S 918 o.toNat) := x1
      have y2 : chR S 933 12 p (Xi S 918 o.toNat) < Xi U 5 0 := x2
      have y4 : Xi S 933 (12 * chR S 933 12 p (Xi S 918 o.toNat) + p).toNat ≠ 0 := x4
      generalize chR S 933 12 p (Xi S 918 o.toNat) = k at *
      have u := (pr.2.1 k.toNat p.toNat (by omega) (by omega)).1
      unfold PVR at u
      rw [show ((24 + ((k.toNat : Nat) : Int)).toNat) = (24 + k).toNat by omega, show ((p.toNat : Nat) : Int).toNat = p.toNat by omega, show ((12 * ((k.toNat : Nat) : Int) + ((p.toNat : Nat) : Int)).toNat) = (12 * k + p).toNat by omega] at u
      have v1 : vof U o p.toNat = Xi U (107 + (24 + k).toNat) p.toNat := by unfold vof; rw [e2, if_neg (by omega)]
      have l1 : lof U o p.toNat = Xi U (148 + (24 + k).toNat) p.toNat := by unfold lof; rw [e2, if_neg (by omega)]
      rw [v1, l1, n1, n2]
      exact u.2 y4
  · have e : trw U o p.toNat = o := by unfold trw; rw [if_neg (fun x => q (b.1.1 x))]
    obtain ⟨n1, n2⟩ := nu_1 q
    have v1 : vof U o p.toNat = Xi U (107 + o.toNat) p.toNat := by unfold vof; rw [e, if_neg (by omega)]
    have l1 : lof U o p.toNat = Xi U (148 + o.toNat) p.toNat := by unfold lof; rw [e, if_neg (by omega)]
    rw [v1, l1, n1, n2]
    exact b.2 q
/-! ways -/
theorem fw_spec {S : sS} {c : Nat} {room d a : Int} : ∀ (n : Nat) (i : Int), 0 ≤ i → (fwN S c room d n i = -1 ∧ ∀ k : Nat, i ≤ k → (k : Int) < i + n → ¬ (Xi S c k = room ∧ Xi S 944 k = d)) ∨ (∃ k : Nat, i ≤ k ∧ (k : Int) < i + n ∧ fwN S c room d n i = k ∧ (Xi S c k = room ∧ Xi S 944 k = d) ∧ ∀ j : Nat, i ≤ j → j < k → ¬ (Xi S c j = room ∧ Xi S 944 j = d))
  | 0, i, _ => Or.inl ⟨rfl, fun k a b => by omega⟩
  | n + 1, i, i0 => by
    unfold fwN
    by_cases q : Xi S c i.toNat = room ∧ Xi S 944 i.toNat = d
    · rw [if_pos q]
      exact Or.inr ⟨i.toNat, by omega, by omega, by omega, q, fun j a b => by omega⟩
    · rw [if_neg q]
      rcases fw_spec (S := S) (c := c) (room := room) (d := d) (a := a) n (i + 1) (by omega) with ⟨x, y⟩ | ⟨k, x1, x2, x3, x4, x5⟩
      · exact Or.inl ⟨x, fun k a b => by
          by_cases e : (k : Int) = i
          · rw [show k = i.toNat by omega]; exact q
          · exact y k (by omega) (by omega)⟩
      · exact Or.inr ⟨k, by omega, by omega, x3, x4, fun j a b => by
          by_cases e : (j : Int) = i
          · rw [show j = i.toNat by omega]; exact q
          · exact x5 j (by omega) b⟩
def RBI (U : sS) (k : Nat) (room b f : Int) : Prop := (f = -1 ∧ ∀ x : Nat, (x : Int) < b → Xi U (196 + x) k ≠ room) ∨ (0 ≤ f ∧ f < b ∧ Xi U (196 + f.toNat) k = room ∧ ∀ x : Nat, (x : Int) < b → Xi U (196 + x) k = room → Xi U (221 + f.toNat) k ≤ Xi U (221 + x) k)
theorem rb_spec {U : sS} {k : Nat} {room : Int} : ∀ (n : Nat) (b f : Int), 0 ≤ b → RBI U k room b f → RBI U k room (b + n) (rbn U k room n b f)
  | 0, b, f, _, h => by rw [show b + ((0 : Nat) : Int) = b by omega]; exact h
  | n + 1, b, f, b0, h => by
    unfold rbn
    rw [show b + ((n + 1 : Nat) : Int) = (b + 1) + (n : Int) by omega]
    refine rb_spec n (b + 1) _ (by omega) ?_
    by_cases q : Xi U (196 + b.toNat) k = room ∧ (f = -1 ∨ Xi U (221 + b.toNat) k < Xi U (221 + f.toNat) k)
    · rw [if_pos q]
      refine Or.inr ⟨b0, by omega, q.1, fun x hx e => ?_⟩
      by_cases y : (x : Int) = b
      · rw [show x = b.toNat by omega]; exact Int.le_refl _
      · rcases h with ⟨_, h2⟩ | ⟨h1, h2, h3, h4⟩
        · exact absurd e (h2 x (by omega))
        · have := h4 x (by omega) e
          omega
    · rw [if_neg q]
      rcases h with ⟨h1, h2⟩ | ⟨h1, h2, h3, h4⟩
      · refine Or.inl ⟨h1, fun x hx e => ?_⟩
        by_cases y : (x : Int) = b
        · rw [show x = b.toNat by omega] at e; exact q ⟨e, Or.inl h1⟩
        · exact h2 x (by omega) e
      · refine Or.inr ⟨h1, by omega, h3, fun x hx e => ?_⟩
        by_cases y : (x : Int) = b
        · rw [show x = b.toNat by omega] at e ⊢
          by_cases z : Xi U (221 + b.toNat) k < Xi U (221 + f.toNat) k
          · exact absurd ⟨e, Or.inr z⟩ q
          · omega
        · exact h4 x (by omega) e
theorem ixor_6 {d : Int} (h : 0 ≤ d ∧ d < 6) : 0 ≤ ixorF d 1 ∧ ixorF d 1 < 6 := by
  have : d = 0 ∨ d = 1 ∨ d = 2 ∨ d = 3 ∨ d = 4 ∨ d = 5 := by omega
  rcases this with e | e | e | e | e | e <;> rw [e] <;> decide
theorem lead_r {U S : sS} {room d : Int} (hw : RWY U S) (hr : 0 ≤ room ∧ room < 24) (hd : 0 ≤ d ∧ d < 6) (h2 : Xi U 5 2 ≤ 24) : rbh U room d = ldR S room d := by
  obtain ⟨⟨w1, w2, w3⟩, w4, w5⟩ := hw
  have hx := ixor_6 hd
  have key1 := fw_spec (S := S) (c := 943) (room := room) (d := d) (a := 0) (Xi S 904 51 - 0).toNat 0 (by omega)
  have key2 := fw_spec (S := S) (c := 945) (room := room) (d := ixorF d 1) (a := 0) (Xi S 904 51 - 0).toNat 0 (by omega)
  change (fwR S 943 room d = -1 ∧ _) ∨ (∃ k : Nat, _ ∧ _ ∧ fwR S 943 room d = k ∧ _) at key1
  change (fwR S 945 room (ixorF d 1) = -1 ∧ _) ∨ (∃ k : Nat, _ ∧ _ ∧ fwR S 945 room (ixorF d 1) = k ∧ _) at key2
  unfold rbh
  by_cases q : Xi U (196 + room.toNat) d.toNat = -1
  · rw [if_pos q]
    have n1 : fwR S 943 room d = -1 := by
      rcases key1 with x | ⟨k, x1, x2, x3, x4, x5⟩
      · exact x.1
      · have u := w4 k (by omega)
        rw [x4.1, x4.2] at u
        omega
    have sp := rb_spec (U := U) (k := (ixorF d 1).toNat) (room := room) 24 0 (-1) (by omega) (Or.inl ⟨rfl, fun x hx => by omega⟩)
    rcases sp with ⟨s1, s2⟩ | ⟨s1, s2, s3, s4⟩
    · rw [s1]
      refine (ld_3 n1 ?_).symm
      rcases key2 with x | ⟨k, x1, x2, x3, x4, x5⟩
      · exact x.1
      · have u := w4 k (by omega)
        have v := s2 (Xi S 943 k).toNat (by omega)
        rw [x4.1, x4.2] at u
        exact absurd u.2.2.2.1 v
    · generalize rbn U (ixorF d 1).toNat room 24 0 (-1) = f at *
      obtain ⟨k, k1, k2, k3⟩ := w5 f.toNat (ixorF d 1).toNat (by omega) (by omega) (by rw [s3]; omega)
      have u := w4 k k1
      rw [k2, k3] at u
      rw [show ((f.toNat : Nat) : Int).toNat = f.toNat by omega, show (((ixorF d 1).toNat : Nat) : Int).toNat = (ixorF d 1).toNat by omega, s3] at u
      rcases key2 with x | ⟨j, x1, x2, x3, x4, x5⟩
      · exact absurd ⟨u.2.2.2.1.symm, by rw [k3]; omega⟩ (x.2 k (by omega) (by omega))
      · rw [ld_2 n1 x3 (by omega)]
        have v := w4 j (by omega)
        rw [x4.1, x4.2] at v
        have m := s4 (Xi S 943 j).toNat (by omega) v.2.2.2.1
        rw [u.2.2.2.2, v.2.2.2.2] at m
        have e : j = k := by
          by_cases z : k < j
          · exact absurd ⟨u.2.2.2.1.symm, by rw [k3]; omega⟩ (x5 k (by omega) z)
          · omega
        rw [show ((j : Int)).toNat = j by omega, e, k2]
        omega
  · rw [if_neg q]
    obtain ⟨k, k1, k2, k3⟩ := w5 room.toNat d.toNat (by omega) (by omega) q
    rcases key1 with x | ⟨j, x1, x2, x3, x4, x5⟩
    · exact absurd ⟨by rw [k2]; omega, by rw [k3]; omega⟩ (x.2 k (by omega) (by omega))
    · rw [ld_1 x3 (by omega), show ((j : Int)).toNat = j by omega]
      have u := w4 j (by omega)
      rw [x4.1, x4.2] at u
      exact u.2.2.2.1

/-! RULES in order -/
def rkU (S : sS) (a : Nat) : Int := if Xi S (248 + a) 2 ≠ -1 then 0 else if Xi S (248 + a) 3 ≠ -1 then 1 else 2
theorem rkU_i {S : sS} {a : Nat} : (Xi S (248 + a) 2 ≠ -1 → rkU S a = 0) ∧ (Xi S (248 + a) 2 = -1 → Xi S (248 + a) 3 ≠ -1 → rkU S a = 1) ∧ (Xi S (248 + a) 2 = -1 → Xi S (248 + a) 3 = -1 → rkU S a = 2) := by
  unfold rkU
  refine ⟨fun h => if_pos h, fun h g => ?_, fun h g => ?_⟩
  · rw [if_neg (fun x => x h), if_pos g]
  · rw [if_neg (fun x => x h), if_neg (fun x => x g)]
/-- a rule's key: smaller comes first -/
def kyU (S : sS) (a : Nat) : Int × Int × Int × Int := (rkU S a, (if rkU S a = 1 then - kab S (Xi S (248 + a) 3) else 0), (if rkU S a = 1 then - Xi S (248 + a) 4 else 0), - Xi S (248 + a) 5)
def kLt (x y : Int × Int × Int × Int) : Prop := x.1 < y.1 ∨ (x.1 = y.1 ∧ (x.2.1 < y.2.1 ∨ (x.2.1 = y.2.1 ∧ (x.2.2.1 < y.2.2.1 ∨ (x.2.2.1 = y.2.2.1 ∧ x.2.2.2 < y.2.2.2)))))
theorem kLt_t {x y z : Int × Int × Int × Int} (h : ¬ kLt y x) (g : ¬ kLt z y) : ¬ kLt z x := by
  obtain ⟨x1, x2, x3, x4⟩ := x
  obtain ⟨y1, y2, y3, y4⟩ := y
  obtain ⟨z1, z2, z3, z4⟩ := z
  unfold kLt at *
  dsimp only at *
  omega
theorem kLt_a {x y : Int × Int × Int × Int} (h : kLt x y) : ¬ kLt y x := by
  obtain ⟨x1, x2, x3, x4⟩ := x
  obtain ⟨y1, y2, y3, y4⟩ := y
  unfold kLt at *
  dsimp only at *
  omega
def CFU (S : sS) (a b : Nat) : Prop := kLt (kyU S a) (kyU S b)
theorem cfu_i {S : sS} {a b : Nat} {p q r s z : Int} (h1 : p = rkU S a) (h2 : q = rkU S b) (h : rkU S a = rkU S b → rkU S a = 1 → r = kab S (Xi S (248 + a) 3) ∧ s = kab S (Xi S (248 + b) 3)) (hz : (z = 1 ∧ p < q) ∨ (z = 0 ∧ q < p) ∨ (p = q ∧ p = 1 ∧ ((z = 1 ∧ s < r) ∨ (z = 0 ∧ r < s) ∨ (r = s ∧ ((z = 1 ∧ Xi S (248 + b) 4 < Xi S (248 + a) 4) ∨ (z = 0 ∧ Xi S (248 + a) 4 < Xi S (248 + b) 4) ∨ (Xi S (248 + a) 4 = Xi S (248 + b) 4 ∧ ((z = 1 ∧ Xi S (248 + b) 5 < Xi S (248 + a) 5) ∨ (z = 0 ∧ Xi S (248 + a) 5 ≤ Xi S (248 + b) 5))))))) ∨ (p = q ∧ p ≠ 1 ∧ ((z = 1 ∧ Xi S (248 + b) 5 < Xi S (248 + a) 5) ∨ (z = 0 ∧ Xi S (248 + a) 5 ≤ Xi S (248 + b) 5)))) : (z = 1 → CFU S a b) ∧ (z = 0 → ¬ CFU S a b) := by
  unfold CFU kLt kyU
  dsimp only
  rw [h1, h2] at hz
  by_cases e : rkU S a = 1
  · by_cases f : rkU S b = 1
    · rw [if_pos e, if_pos e, if_pos f, if_pos f]
      obtain ⟨g1, g2⟩ := h (by omega) e
      rw [g1, g2] at hz
      omega
    · rw [if_pos e, if_pos e, if_neg f, if_neg f]
      omega
  · by_cases f : rkU S b = 1
    · rw [if_neg e, if_neg e, if_pos f, if_pos f]
      omega
    · rw [if_neg e, if_neg e, if_neg f, if_neg f]
      omega
/-- one rule is ahead of another -/
def AHU (S : sS) (a b : Nat) : Prop := CFU S a b ∨ (¬ CFU S b a ∧ a < b)
theorem ahu_a {S : sS} {a b : Nat} (h : AHU S a b) : ¬ AHU S b a := by
  rcases h with h | ⟨h1, h2⟩
  · rintro (g | ⟨g1, g2⟩)
    · exact kLt_a h g
    · exact g1 h
  · rintro (g | ⟨g1, g2⟩)
    · exact h1 g
    · omega
theorem ahu_n {S : sS} {a b : Nat} (h : AHU S a b) : ¬ CFU S b a := by
  rcases h with h | h
  · exact kLt_a h
  · exact h.1
/-- a sum over the first rows -/
def smN (f : Nat → Int) : Nat → Int
  | 0 => 0
  | n + 1 => smN f n + f n
theorem smN_e {f g : Nat → Int} : ∀ {n : Nat}, (∀ j, j < n → f j = g j) → smN f n = smN g n
  | 0, _ => rfl
  | n + 1, h => by
    unfold smN
    rw [smN_e (n := n) (fun j hj => h j (by omega)), h n (by omega)]
theorem smN_0 {f : Nat → Int} : ∀ {n : Nat}, (∀ j, j < n → f j = 0) → smN f n = 0
  | 0, _ => rfl
  | n + 1, h => by
    unfold smN
    rw [smN_0 (n := n) (fun j hj => h j (by omega)), h n (by omega)]; rfl
theorem smN_1 {f : Nat → Int} {r : Nat} {x : Int} : ∀ {n : Nat}, r < n → f r = x → (∀ j, j < n → j ≠ r → f j = 0) → smN f n = x
  | 0, h, _, _ => by omega
  | n + 1, h, e, g => by
    unfold smN
    by_cases q : r = n
    · rw [smN_0 (fun j hj => g j (by omega) (by omega)), ← q, e]; omega
    · rw [smN_1 (n := n) (by omega) e (fun j hj hn => g j (by omega) hn), g n (by omega) (by omega)]; omega
theorem smN_w {f g : Nat → Int} {p : Nat} : ∀ {n : Nat}, p + 1 < n → f p = g (p + 1) → f (p + 1) = g p → (∀ j, j < n → j ≠ p → j ≠ p + 1 → f j = g j) → smN f n = smN g n
  | 0, h, _, _, _ => by omega
  | n + 1, h, a, b, c => by
    by_cases q : p + 1 = n
    · cases n with
      | zero => omega
      | succ m =>
        have e : p = m := by omega
        show smN f m + f m + f (m + 1) = smN g m + g m + g (m + 1)
        rw [smN_e (f := f) (g := g) (n := m) (fun j hj => c j (by omega) (by omega) (by omega))]
        rw [e] at a b
        omega
    · show smN f n + f n = smN g n + g n
      rw [smN_w (n := n) (by omega) a b (fun j hj x y => c j (by omega) x y), c n (by omega) (by omega) (by omega)]
/-- the first rules stand in order -/
def SRT (S T : sS) (i : Int) : Prop := (∀ j : Nat, (j : Int) < i → 0 ≤ Xi T 272 j ∧ Xi T 272 j < i) ∧ (∀ j k : Nat, j < k → (k : Int) < i → AHU S (Xi T 272 j).toNat (Xi T 272 k).toNat) ∧ ∀ P : Nat → Int, smN (fun j => P (Xi T 272 j).toNat) i.toNat = smN P i.toNat
/-- the same with a hole -/
def HOL (S T : sS) (h i : Int) : Prop := (∀ j : Nat, (j : Int) ≤ i → (j : Int) ≠ h → 0 ≤ Xi T 272 j ∧ Xi T 272 j < i) ∧ (∀ j k : Nat, j < k → (k : Int) ≤ i → (j : Int) ≠ h → (k : Int) ≠ h → AHU S (Xi T 272 j).toNat (Xi T 272 k).toNat) ∧ (∀ j : Nat, h < j → (j : Int) ≤ i → CFU S i.toNat (Xi T 272 j).toNat) ∧ ∀ P : Nat → Int, smN (fun j => if (j : Int) = h then 0 else P (Xi T 272 j).toNat) (i.toNat + 1) = smN P i.toNat
theorem srt_0 {S T : sS} {i : Int} (h : i = 0) : SRT S T i := by
  rw [h]
  exact ⟨fun j hj => by omega, fun j k _ hk => by omega, fun P => rfl⟩
theorem hol_0 {S T : sS} {i : Int} (h : SRT S T i) (i0 : 0 ≤ i) : HOL S T i i := by
  obtain ⟨a, b, c⟩ := h
  refine ⟨fun j x y => a j (by omega), fun j k x y z w => b j k x (by omega), fun j x y => by omega, fun P => ?_⟩
  show smN _ i.toNat + (if ((i.toNat : Nat) : Int) = i then 0 else _) = _
  rw [if_pos (by omega), smN_e (g := fun j => P (Xi T 272 j).toNat) (fun j hj => by show (if (j : Int) = i then _ else _) = _; rw [if_neg (by omega)]), c P]
  omega
theorem hol_s {S T U : sS} {h i x : Int} (g : HOL S T h i) (h0 : 0 < h) (hi : h ≤ i) (e : U = uI T 272 h.toNat (Int32.ofInt x)) (ex : x = Xi T 272 (h - 1).toNat) (rx : rg x) (cf : CFU S i.toNat (Xi T 272 (h - 1).toNat).toNat) : HOL S U (h - 1) i := by
  obtain ⟨a, b, c, d⟩ := g
  have k1 : Xi U 272 h.toNat = Xi T 272 (h - 1).toNat := by rw [e, Xi_same rx, ex]
  have k2 : ∀ j : Nat, (j : Int) ≠ h → Xi U 272 j = Xi T 272 j := fun j hj => by rw [e, Xi_ne (by omega)]
  refine ⟨fun j hj hn => ?_, fun j k hjk hk hj hn => ?_, fun j hj hk => ?_, fun P => ?_⟩
  · by_cases q : (j : Int) = h
    · rw [show j = h.toNat by omega, k1]; exact a (h - 1).toNat (by omega) (by omega)
    · rw [k2 j q]; exact a j hj q
  · by_cases q : (j : Int) = h
    · rw [show j = h.toNat by omega, k1, k2 k (by omega)]; exact b (h - 1).toNat k (by omega) hk (by omega) (by omega)
    · by_cases r : (k : Int) = h
      · rw [show k = h.toNat by omega, k1, k2 j q]; exact b j (h - 1).toNat (by omega) (by omega) q (by omega)
      · rw [k2 j q, k2 k r]; exact b j k hjk hk q r
  · by_cases q : (j : Int) = h
    · rw [show j = h.toNat by omega, k1]; exact cf
    · rw [k2 j q]; exact c j (by omega) hk
  · rw [← d P]
    refine smN_w (p := (h - 1).toNat) (by omega) ?_ ?_ (fun j hj x y => ?_)
    · show (if (((h - 1).toNat : Nat) : Int) = h - 1 then 0 else _) = (if (((h - 1).toNat + 1 : Nat) : Int) = h then 0 else _)
      rw [if_pos (by omega), if_pos (by omega)]
    · show (if (((h - 1).toNat + 1 : Nat) : Int) = h - 1 then 0 else _) = (if (((h - 1).toNat : Nat) : Int) = h then 0 else _)
      rw [if_neg (by omega), if_neg (by omega), show (h - 1).toNat + 1 = h.toNat by omega, k1]
    · show (if (j : Int) = h - 1 then 0 else _) = (if (j : Int) = h then 0 else _)
      rw [if_neg (by omega), if_neg (by omega), k2 j (by omega)]
theorem srt_s {S T U : sS} {h i : Int} (g : HOL S T h i) (h0 : 0 ≤ h) (hi : h ≤ i) (i24 : i < 24) (e : U = uI T 272 h.toNat (Int32.ofInt i)) (cf : h ≤ 0 ∨ ¬ CFU S i.toNat (Xi T 272 (h - 1).toNat).toNat) : SRT S U (i + 1) := by
  obtain ⟨a, b, c, d⟩ := g
  have k1 : Xi U 272 h.toNat = i := by rw [e, Xi_same (by unfold rg; omega)]
  have k2 : ∀ j : Nat, (j : Int) ≠ h → Xi U 272 j = Xi T 272 j := fun j hj => by rw [e, Xi_ne (by omega)]
  have lo : ∀ j : Nat, (j : Int) < h → AHU S (Xi T 272 j).toNat i.toNat := fun j hj => by
    have r := a j (by omega) (by omega)
    refine Or.inr ⟨?_, by omega⟩
    have q := cf.resolve_left (by omega)
    by_cases z : (j : Int) = h - 1
    · rw [show j = (h - 1).toNat by omega]; exact q
    · exact kLt_t (ahu_n (b j (h - 1).toNat (by omega) (by omega) (by omega) (by omega))) q
  refine ⟨fun j hj => ?_, fun j k hjk hk => ?_, fun P => ?_⟩
  · by_cases q : (j : Int) = h
    · rw [show j = h.toNat by omega, k1]; omega
    · rw [k2 j q]; have := a j (by omega) q; omega
  · by_cases q : (j : Int) = h
    · rw [show j = h.toNat by omega, k1, k2 k (by omega)]; exact Or.inl (c k (by omega) (by omega))
    · by_cases r : (k : Int) = h
      · rw [show k = h.toNat by omega, k1, k2 j q]; exact lo j (by omega)
      · rw [k2 j q, k2 k r]; exact b j k hjk (by omega) q r
  · rw [show (i + 1).toNat = i.toNat + 1 by omega]
    show _ = smN P i.toNat + P i.toNat
    rw [← d P]
    have : ∀ n : Nat, h.toNat < n → smN (fun j => P (Xi U 272 j).toNat) n = smN (fun j => if (j : Int) = h then 0 else P (Xi T 272 j).toNat) n + P i.toNat := by
      intro n
      induction n with
      | zero => intro q; omega
      | succ n ih =>
        intro q
        show smN _ n + P (Xi U 272 n).toNat = smN _ n + (if (n : Int) = h then 0 else P (Xi T 272 n).toNat) + P i.toNat
        by_cases z : (n : Int) = h
        · rw [if_pos z, show n = h.toNat by omega, k1, smN_e (f := fun j => P (Xi U 272 j).toNat) (g := fun j => if (j : Int) = h then 0 else P (Xi T 272 j).toNat) (fun j hj => by show _ = (if (j : Int) = h then 0 else _); rw [if_neg (by omega), k2 j (by omega)])]
          omega
        · rw [if_neg z, ih (by omega), k2 n z]
          omega
    exact this (i.toNat + 1) (by omega)
noncomputable def ctP (P : Prop) : Int := @ite Int P (Classical.propDecidable P) 1 0
theorem ctP_1 {P : Prop} (h : P) : ctP P = 1 := if_pos h
theorem ctP_0 {P : Prop} (h : ¬ P) : ctP P = 0 := if_neg h
theorem ctP_e {P Q : Prop} (h : P ↔ Q) : ctP P = ctP Q := by
  by_cases q : Q
  · rw [ctP_1 q, ctP_1 (h.2 q)]
  · rw [ctP_0 q, ctP_0 (fun x => q (h.1 x))]
theorem ctP_r {P : Prop} : 0 ≤ ctP P ∧ ctP P ≤ 1 := by
  by_cases q : P
  · rw [ctP_1 q]; omega
  · rw [ctP_0 q]; omega
/-- how many rules of the same sort are ahead of a rule -/
noncomputable def noU (S : sS) (n r : Nat) : Int := smN (fun s => ctP (s ≠ r ∧ Xi S (248 + s) 0 = Xi S (248 + r) 0 ∧ AHU S s r)) n
noncomputable def pioN (S : sS) (i : Nat) (m : Nat) : Int := smN (fun j => ctP (Xi S (248 + (Xi S 272 j).toNat) 0 = Xi S (248 + i) 0)) m
def PIO (S : sS) (i : Nat) (n z : Int) : Prop := ∃ m : Nat, (m : Int) ≤ n ∧ z = pioN S i m ∧ (∀ j : Nat, j < m → Xi S 272 j ≠ i) ∧ ((m : Int) = n ∨ Xi S 272 m = i)
theorem pio_no {S : sS} {i : Nat} {n z : Int} (h : PIO S i n z) (g : SRT S S n) (hi : (i : Int) < n) : z = noU S n.toNat i := by
  obtain ⟨m, h1, h2, h3, h4⟩ := h
  obtain ⟨a, b, c⟩ := g
  have ex : ∃ p : Nat, (p : Int) < n ∧ Xi S 272 p = i := by
    apply Classical.byContradiction
    intro q
    have u := c (fun s => ctP (s = i))
    rw [smN_0 (f := fun j => ctP ((Xi S 272 j).toNat = i)) (fun j hj => ctP_0 (fun e => q ⟨j, by omega, by have := a j (by omega); omega⟩)), smN_1 (f := fun s => ctP (s = i)) (r := i) (x := 1) (by omega) (ctP_1 rfl) (fun j hj hn => ctP_0 hn)] at u
    omega
  have mp : (m : Int) < n ∧ Xi S 272 m = i := by
    obtain ⟨p, p1, p2⟩ := ex
    have : ¬ p < m := fun x => h3 p x p2
    rcases h4 with e | e
    · omega
    · refine ⟨?_, e⟩
      by_cases q : (m : Int) = n
      · omega
      · omega
  have u := c (fun s => ctP (s ≠ i ∧ Xi S (248 + s) 0 = Xi S (248 + i) 0 ∧ AHU S s i))
  rw [h2]
  unfold noU
  rw [← u]
  have key : ∀ k : Nat, m ≤ k → (k : Int) ≤ n → smN (fun j => ctP ((Xi S 272 j).toNat ≠ i ∧ Xi S (248 + (Xi S 272 j).toNat) 0 = Xi S (248 + i) 0 ∧ AHU S (Xi S 272 j).toNat i)) k = pioN S i m := by
    intro k
    induction k with
    | zero => intro x _; rw [show m = 0 by omega]; rfl
    | succ k ih =>
      intro x y
      by_cases q : m = k + 1
      · rw [q]
        unfold pioN
        refine smN_e (fun j hj => ctP_e ⟨fun t => t.2.1, fun t => ⟨?_, t, ?_⟩⟩)
        · have := h3 j (by omega); have := a j (by omega); omega
        · have v := b j m (by omega) mp.1
          rw [mp.2] at v
          exact v
      · show smN _ k + ctP _ = _
        rw [ih (by omega) (by omega), ctP_0]
        · omega
        · rintro ⟨t1, t2, t3⟩
          by_cases w : k = m
          · rw [w, mp.2] at t1; exact t1 rfl
          · have v := b m k (by omega) (by omega)
            rw [mp.2] at v
            exact ahu_a v t3
  exact (key n.toNat (by omega) (by omega)).symm
/-! the reference's order -/
def ocR (S : sS) (a : Nat) : Int := if Xi S 980 a ≠ -1 then 0 else if Xi S 981 a ≠ -1 then 1 else 2
theorem ocR_i {S : sS} {a : Nat} : (Xi S 980 a ≠ -1 → ocR S a = 0) ∧ (Xi S 980 a = -1 → Xi S 981 a ≠ -1 → ocR S a = 1) ∧ (Xi S 980 a = -1 → Xi S 981 a = -1 → ocR S a = 2) := by
  unfold ocR
  refine ⟨fun h => if_pos h, fun h g => ?_, fun h g => ?_⟩
  · rw [if_neg (fun x => x h), if_pos g]
  · rw [if_neg (fun x => x h), if_neg (fun x => x g)]
def dpN (S : sS) : Nat → Int → Int
  | 0, _ => 0
  | f + 1, k => if k < 0 then 0 else 1 + dpN S f (Xi S 917 k.toNat)
theorem dpN_st {S : sS} (hB : ABV S) : ∀ (f g : Nat) (k : Int), k ≤ 15 → k + 2 ≤ f → k + 2 ≤ g → dpN S f k = dpN S g k
  | 0, 0, _, _, _, _ => rfl
  | 0, g + 1, k, _, h, _ => by
    show 0 = if k < 0 then 0 else _
    rw [if_pos (by omega)]
  | f + 1, 0, k, _, _, h => by
    show (if k < 0 then 0 else _) = 0
    rw [if_pos (by omega)]
  | f + 1, g + 1, k, h1, h2, h3 => by
    show (if k < 0 then 0 else 1 + dpN S f (Xi S 917 k.toNat)) = (if k < 0 then 0 else 1 + dpN S g (Xi S 917 k.toNat))
    by_cases a : k < 0
    · rw [if_pos a, if_pos a]
    · rw [if_neg a, if_neg a]
      have b := hB k.toNat (by omega)
      rw [dpN_st hB f g (Xi S 917 k.toNat) (by omega) (by omega) (by omega)]
/-- how many kinds a chain has -/
def dpR (S : sS) (k : Int) : Int := dpN S 17 k
theorem dpR_n {S : sS} {k : Int} (h : k < 0) : dpR S k = 0 := if_pos h
theorem dpR_s {S : sS} {k : Int} (hB : ABV S) (h : 0 ≤ k) (h2 : k ≤ 15) : dpR S k = 1 + dpR S (Xi S 917 k.toNat) := by
  show (if k < 0 then 0 else 1 + dpN S 16 (Xi S 917 k.toNat)) = 1 + dpN S 17 (Xi S 917 k.toNat)
  have a := hB k.toNat (by omega)
  rw [if_neg (by omega), dpN_st hB 16 17 _ (by omega) (by omega) (by omega)]
def kyR (S : sS) (a : Nat) : Int × Int × Int × Int := (ocR S a, (if ocR S a = 1 then - dpR S (Xi S 981 a) else 0), (if ocR S a = 1 then - Xi S 982 a else 0), - Xi S 985 a)
def AHR (S : sS) (a b : Nat) : Prop := kLt (kyR S a) (kyR S b) ∨ (¬ kLt (kyR S b) (kyR S a) ∧ a < b)
theorem ahr_i {S : sS} {a b : Nat} {z r s : Int} (h : ocR S a = ocR S b → ocR S a = 1 → r = dpR S (Xi S 981 a) ∧ s = dpR S (Xi S 981 b)) (hz : (z = 1 ∧ ocR S a < ocR S b) ∨ (z = 0 ∧ ocR S b < ocR S a) ∨ (ocR S a = ocR S b ∧ ocR S a = 1 ∧ ((z = 1 ∧ s < r) ∨ (z = 0 ∧ r < s) ∨ (r = s ∧ ((z = 1 ∧ Xi S 982 b < Xi S 982 a) ∨ (z = 0 ∧ Xi S 982 a < Xi S 982 b) ∨ (Xi S 982 a = Xi S 982 b ∧ ((z = 1 ∧ Xi S 985 b < Xi S 985 a) ∨ (z = 0 ∧ Xi S 985 a < Xi S 985 b) ∨ (Xi S 985 a = Xi S 985 b ∧ ((z = 1 ∧ a < b) ∨ (z = 0 ∧ b ≤ a))))))))) ∨ (ocR S a = ocR S b ∧ ocR S a ≠ 1 ∧ ((z = 1 ∧ Xi S 985 b < Xi S 985 a) ∨ (z = 0 ∧ Xi S 985 a < Xi S 985 b) ∨ (Xi S 985 a = Xi S 985 b ∧ ((z = 1 ∧ a < b) ∨ (z = 0 ∧ b ≤ a)))))) : (z = 1 → AHR S a b) ∧ (z = 0 → ¬ AHR S a b) := by
  unfold AHR kLt kyR
  dsimp only
  by_cases e : ocR S a = 1
  · by_cases f : ocR S b = 1
    · rw [if_pos e, if_pos e, if_pos f, if_pos f]
      obtain ⟨g1, g2⟩ := h (by omega) e
      rw [g1, g2] at hz
      omega
    · rw [if_pos e, if_pos e, if_neg f, if_neg f]
      omega
  · by_cases f : ocR S b = 1
    · rw [if_neg e, if_neg e, if_pos f, if_pos f]
      omega
    · rw [if_neg e, if_neg e, if_neg f, if_neg f]
      omega
noncomputable def noR (S : sS) (n r : Nat) : Int := smN (fun s => ctP (s ≠ r ∧ Xi S 978 s = Xi S 978 r ∧ AHR S s r)) n
theorem noR_s {S : sS} {r : Nat} {i c x : Int} (h : c = noR S i.toNat r) (i0 : 0 ≤ i) (hx : (x = 1 ∧ i.toNat ≠ r ∧ Xi S 978 i.toNat = Xi S 978 r ∧ AHR S i.toNat r) ∨ (x = 0 ∧ ¬ (i.toNat ≠ r ∧ Xi S 978 i.toNat = Xi S 978 r ∧ AHR S i.toNat r))) : c + x = noR S (i + 1).toNat r := by
  rw [show (i + 1).toNat = i.toNat + 1 by omega]
  show _ = noR S i.toNat r + ctP (i.toNat ≠ r ∧ Xi S 978 i.toNat = Xi S 978 r ∧ AHR S i.toNat r)
  rw [← h]
  rcases hx with ⟨e, q⟩ | ⟨e, q⟩
  · rw [ctP_1 q, e]
  · rw [ctP_0 q, e]
/-- both orders are the same -/
theorem kab_dp {U S : sS} (h : KND U S) (hB : ABV S) : ∀ (n : Nat) (k c : Int), k < Xi U 5 0 → k + 1 ≤ n → kabn U n k c = c + dpR S k
  | 0, k, c, _, hn => by rw [dpR_n (by omega)]; unfold kabn; omega
  | n + 1, k, c, hk, hn => by
    unfold kabn
    by_cases q : k < 0
    · rw [if_pos q, dpR_n q]; omega
    · rw [if_neg q]
      have := h.1
      obtain ⟨a, b, _⟩ := h.2 k.toNat (by omega)
      rw [a, kab_dp h hB n (Xi S 917 k.toNat) (c + 1) (by omega) (by omega), dpR_s (k := k) hB (by omega) (by omega)]
      omega
theorem kab_r {U S : sS} {k : Int} (h : KND U S) (hB : ABV S) (hk : 0 ≤ k ∧ k < Xi U 5 0) : kab U k + 1 = dpR S k := by
  have := h.1
  obtain ⟨a, b, _⟩ := h.2 k.toNat (by omega)
  unfold kab
  rw [a, kab_dp h hB 16 (Xi S 917 k.toNat) 0 (by omega) (by omega), dpR_s (k := k) hB (by omega) (by omega)]
  omega
theorem ahu_r {U S : sS} {r s : Nat} (kn : KND U S) (hB : ABV S) (h1 : RUQ1 U S r) (h2 : RUQ1 U S s) : AHU U r s ↔ AHR S r s := by
  have fld : ∀ r : Nat, RUQ1 U S r → Xi U (248 + r) 2 = Xi S 980 r ∧ Xi U (248 + r) 3 = Xi S 981 r ∧ Xi U (248 + r) 4 = Xi S 982 r ∧ Xi U (248 + r) 5 = Xi S 985 r ∧ -1 ≤ Xi S 981 r ∧ Xi S 981 r < Xi U 5 0 := by
    intro r h
    have := kn.1
    obtain ⟨_, hd, t5, _⟩ := h
    unfold HRT at hd
    rcases hd with ⟨_, ⟨a1, a2, a3, a4⟩, b1, b2, b3, b4⟩ | ⟨_, a, o, k, n, ⟨a1, a2, a3, a4⟩, ⟨b1, b2, b3, b4⟩, ⟨_, _, c3, _⟩, _⟩
    · exact ⟨by omega, by omega, by omega, t5.1, by omega, by omega⟩
    · exact ⟨by omega, by omega, by omega, t5.1, by omega, by omega⟩
  have rk : ∀ r : Nat, RUQ1 U S r → rkU U r = ocR S r := by
    intro r h
    obtain ⟨e2, e3, _⟩ := fld r h
    unfold rkU ocR
    rw [e2, e3]
  have ky : ∀ r : Nat, RUQ1 U S r → (kyU U r).1 = (kyR S r).1 ∧ (kyU U r).2.1 = (kyR S r).2.1 + (if ocR S r = 1 then 1 else 0) ∧ (kyU U r).2.2.1 = (kyR S r).2.2.1 ∧ (kyU U r).2.2.2 = (kyR S r).2.2.2 := by
    intro r h
    obtain ⟨e2, e3, e4, e5, b1, b2⟩ := fld r h
    unfold kyU kyR
    dsimp only
    rw [rk r h, e3, e4, e5]
    refine ⟨rfl, ?_, rfl, rfl⟩
    by_cases q : ocR S r = 1
    · rw [if_pos q, if_pos q, if_pos q]
      have x : Xi S 981 r ≠ -1 := fun z => by
        have t := ocR_i (S := S) (a := r)
        by_cases w : Xi S 980 r = -1
        · have := t.2.2 w z; omega
        · have := t.1 w; omega
      have := kab_r kn hB (k := Xi S 981 r) ⟨by omega, b2⟩
      omega
    · rw [if_neg q, if_neg q, if_neg q]; rfl
  have lt : ∀ r s : Nat, RUQ1 U S r → RUQ1 U S s → (kLt (kyU U r) (kyU U s) ↔ kLt (kyR S r) (kyR S s)) := by
    intro r s hr hs
    obtain ⟨a1, a2, a3, a4⟩ := ky r hr
    obtain ⟨b1, b2, b3, b4⟩ := ky s hs
    have c1 : (kyR S r).1 = ocR S r := rfl
    have c2 : (kyR S s).1 = ocR S s := rfl
    unfold kLt
    rw [a1, a2, a3, a4, b1, b2, b3, b4]
    by_cases q : ocR S r = ocR S s
    · rw [q]
      omega
    · rw [c1, c2]
      omega
  unfold AHU AHR CFU
  rw [lt r s h1 h2, lt s r h2 h1]
theorem no_r {U S : sS} {n : Nat} {r : Nat} (kn : KND U S) (hB : ABV S) (hR : ∀ s : Nat, s < n → RUQ1 U S s) (hr : r < n) : noU U n r = noR S n r := by
  unfold noU noR
  refine smN_e (fun s hs => ctP_e ?_)
  rw [ahu_r kn hB (hR s hs) (hR r hr), (hR s hs).1.1, (hR r hr).1.1]
theorem pio_1 {S : sS} {i : Nat} {v c : Int} (h : c = pioN S i v.toNat) (v0 : 0 ≤ v) (e : Xi S (248 + (Xi S 272 v.toNat).toNat) 0 = Xi S (248 + i) 0) : c + 1 = pioN S i (v + 1).toNat := by
  rw [show (v + 1).toNat = v.toNat + 1 by omega]
  show _ = pioN S i v.toNat + ctP _
  rw [ctP_1 e, h]
theorem pio_0 {S : sS} {i : Nat} {v c : Int} (h : c = pioN S i v.toNat) (v0 : 0 ≤ v) (e : Xi S (248 + (Xi S 272 v.toNat).toNat) 0 ≠ Xi S (248 + i) 0) : c = pioN S i (v + 1).toNat := by
  rw [show (v + 1).toNat = v.toNat + 1 by omega]
  show _ = pioN S i v.toNat + ctP _
  rw [ctP_0 e, h]; omega
theorem cfu_k {l : List rec} {S T : sS} (F : FR l S T) (e : kdis l [(6, 7), (248, 272)] = true) (a b : Nat) (ha : a < 24) (hb : b < 24) : CFU T a b ↔ CFU S a b := by
  have m := F.smk e
  have h6 : ∀ j, Xi T 6 j = Xi S 6 j := fun j => m.x 6 rfl j
  have h : ∀ r j : Nat, r < 24 → Xi T (248 + r) j = Xi S (248 + r) j := fun r j hr => m.x _ (inK_i (a := 248) (b := 272) (by simp) (by omega) (by omega)) j
  have kn : ∀ (n : Nat) (k c : Int), kabn T n k c = kabn S n k c := by
    intro n
    induction n with
    | zero => intro k c; rfl
    | succ n ih => intro k c; unfold kabn; rw [h6, ih]
  have ka : ∀ k, kab T k = kab S k := fun k => by unfold kab; rw [h6, kn]
  have ky : ∀ r, r < 24 → kyU T r = kyU S r := fun r hr => by unfold kyU rkU; rw [h r 2 hr, h r 3 hr, h r 4 hr, h r 5 hr, ka]
  unfold CFU
  rw [ky a ha, ky b hb]

/-! QUESTIONS: how many bits -/
def bc1 (i : Int) : Int := i - iandF (iushrF i 1) 1431655765
def bc2 (a : Int) : Int := iandF a 858993459 + iandF (iushrF a 2) 858993459
def bc3 (b : Int) : Int := iandF (b + iushrF b 4) 252645135
def bc4 (c : Int) : Int := c + iushrF c 8
def bc5 (c : Int) : Int := c + iushrF c 16
def bcJ (i : Int) : Int := iandF (bc5 (bc4 (bc3 (bc2 (bc1 i))))) 63
/-- bits below n -/
def pcN (v : Int) : Nat → Int
  | 0 => 0
  | n + 1 => pcN v n + (if gb v (n : Int) then 1 else 0)
def bcK (a : Nat) : Bool := (List.range 64).all (fun b => decide (bcJ ((64 * a + b : Nat) : Int) = pcN ((64 * a + b : Nat) : Int) 12))
set_option maxRecDepth 100000 in
theorem bcK_all : (List.range 64).all bcK = true := by decide +kernel
theorem bc_pc {v : Int} (h : 0 ≤ v ∧ v < 4096) : bcJ v = pcN v 12 := by
  have a := List.all_eq_true.mp bcK_all (v.toNat / 64) (List.mem_range.mpr (by omega))
  have b := List.all_eq_true.mp a (v.toNat % 64) (List.mem_range.mpr (by omega))
  have c := of_decide_eq_true b
  rw [show ((64 * (v.toNat / 64) + v.toNat % 64 : Nat) : Int) = v by omega] at c
  exact c
theorem pc_np {U S : sS} {k v : Int} (hv : v = pps U k) (kn : KND U S) (hk : 0 ≤ k ∧ k < Xi U 5 0) : ∀ n : Nat, n ≤ 12 → pcN v n = npN S k n
  | 0, _ => rfl
  | n + 1, h => by
    unfold pcN npN
    rw [pc_np hv kn hk n (by omega)]
    have a := pps_hs kn hk.2 (p := (n : Int)) (by omega)
    rw [← hv, bt_gb (by omega)] at a
    by_cases q : gb v (n : Int) = true
    · rw [q] at a ⊢
      rw [if_neg (a.1 (by decide))]; rfl
    · rw [Bool.not_eq_true] at q
      rw [q] at a ⊢
      rw [if_pos (Decidable.byContradiction (fun x => absurd (a.2 x) (by decide)))]; rfl
theorem np_end {S : sS} {k c : Int} (c0 : 0 ≤ c) (h : ∀ p : Int, c ≤ p → p < 12 → hsR S k p = 0) : ∀ n : Nat, c ≤ n → n ≤ 12 → npN S k n = npN S k c.toNat
  | 0, a, _ => by rw [show c.toNat = 0 by omega]
  | n + 1, a, b => by
    by_cases q : c = ((n + 1 : Nat) : Int)
    · rw [q]; rfl
    · show npN S k n + (if hsR S k (n : Int) = 0 then 0 else 1) = npN S k c.toNat
      rw [np_end c0 h n (by omega) (by omega), if_pos (h n (by omega) (by omega))]; omega
theorem adj_na {U S : sS} {k : Int} (kn : KND U S) (hk : 0 ≤ k ∧ k < Xi U 5 0) (n0 : Nat) (h : ∀ a : Nat, a < n0 → Xi U 10 a = Xi S 921 a) : ∀ (n : Nat) (i : Nat) (c : Int), i + n = n0 → c = naN S k i → adjn U k n i c = naN S k n0
  | 0, i, c, e, h2 => by
    unfold adjn; rw [h2, show i = n0 by omega]
  | n + 1, i, c, e, h2 => by
    unfold adjn
    rw [show ((i : Int) + 1) = ((i + 1 : Nat) : Int) by omega]
    refine adj_na kn hk n0 h n (i + 1) _ (by omega) ?_
    show _ = naN S k i + _
    rw [h2, show ((i : Int)).toNat = i by omega, h i (by omega), isK_bl kn hk.2]
    by_cases q : blR S k (Xi S 921 i) = 0
    · rw [if_pos q, if_pos q]; omega
    · rw [if_neg q, if_neg q]
end
section
/-! QUESTIONS: both answer alike, given the posts of both rows -/
theorem told_same {U S : sS} {w z y : Int} (h : RLB U S) (a : (w = 9 → z = Xi U 246 2) ∧ (w = 10 → z = Xi U 882 3) ∧ (0 ≤ w → w ≤ 8 → z = Xi U 5 w.toNat) ∧ (w < 0 ∨ 10 < w → z = -1)) (b : (w = 0 → y = Xi S 904 16) ∧ (w = 1 → y = Xi S 904 18) ∧ (w = 2 → y = Xi S 904 19) ∧ (w = 3 → y = Xi S 904 23) ∧ (w = 4 → y = Xi S 904 30) ∧ (w = 5 → y = Xi S 904 32) ∧ (w = 6 → y = Xi S 904 41) ∧ (w = 7 → y = Xi S 904 47) ∧ (w = 8 → y = Xi S 904 49) ∧ (w = 9 → y = Xi S 904 130) ∧ (w = 10 → y = Xi S 904 55) ∧ (w < 0 ∨ 10 < w → y = -1)) : z = y := by
  have cs : (0 ≤ w ∧ w ≤ 8) ∨ w = 9 ∨ w = 10 ∨ (w < 0 ∨ 10 < w) := by clear a b h; omega
  obtain ⟨⟨_, _, ct, _⟩, _, cm, bk, _, _⟩ := h
  have e9 := bk.2.2.2.1.1
  have e10 := cm.1.1
  obtain ⟨a1, a2, a3, a4⟩ := a
  obtain ⟨b0, b1, b2, b3, b4, b5, b6, b7, b8, b9, b10, b11⟩ := b
  rcases cs with q | q | q | q
  · have e := a3 q.1 q.2
    have : w = 0 ∨ w = 1 ∨ w = 2 ∨ w = 3 ∨ w = 4 ∨ w = 5 ∨ w = 6 ∨ w = 7 ∨ w = 8 := by clear a1 a2 a3 a4 b0 b1 b2 b3 b4 b5 b6 b7 b8 b9 b10 b11 e; omega
    obtain ⟨c0, c1, c2, c3, c4, c5, c6, c7, c8⟩ := ct
    rcases this with x | x | x | x | x | x | x | x | x <;> rw [x] at e
    · rw [e, b0 x]; exact c0.1
    · rw [e, b1 x]; exact c1.1
    · rw [e, b2 x]; exact c2.1
    · rw [e, b3 x]; exact c3.1
    · rw [e, b4 x]; exact c4.1
    · rw [e, b5 x]; exact c5.1
    · rw [e, b6 x]; exact c6.1
    · rw [e, b7 x]; exact c7.1
    · rw [e, b8 x]; exact c8.1
  · rw [a1 q, b9 q]; exact e9
  · rw [a2 q, b10 q]; exact e10
  · rw [a4 q, b11 q]
theorem object_same {U S : sS} {i w z y : Int} (h : RLQ U S) (a : (i < 0 ∨ Xi U 5 2 ≤ i → z = -1) ∧ (0 ≤ i → i < Xi U 5 2 → (w = 0 → z = Xi U 21 i.toNat) ∧ (w = 1 → z = Xi U 22 i.toNat) ∧ (w = 2 → z = Xi U 23 i.toNat) ∧ (w < 0 ∨ 2 < w → z = -1))) (b : (i < 0 ∨ Xi S 904 19 ≤ i → y = -1) ∧ (0 ≤ i → i < Xi S 904 19 → (w = 0 → y = Xi S 918 i.toNat) ∧ (w = 1 → y = Xi S 919 i.toNat) ∧ (w = 2 → Xi S 919 i.toNat = 0 → y = -1) ∧ (w = 2 → Xi S 919 i.toNat ≠ 0 → y = Xi S 920 i.toNat) ∧ (w < 0 ∨ 2 < w → y = -1))) : z = y := by
  obtain ⟨_, _, ct, _, _, _, _, _, _, ob, _⟩ := h
  have c2 := ct.2.2.1
  by_cases q : 0 ≤ i ∧ i < Xi U 5 2
  · obtain ⟨a1, a2, a3, a4⟩ := a.2 q.1 q.2
    obtain ⟨b1, b2, b3, b4, b5⟩ := b.2 q.1 (by omega)
    have k := ob.1.2 i.toNat (by omega)
    have p := ob.2 i.toNat (by omega)
    omega
  · have := a.1 (by omega)
    have := b.1 (by omega)
    omega
theorem leads_same {U S : sS} {room dir z y : Int} (h : RLQ U S) (a : ((room < 0 ∨ Xi U 5 2 ≤ room ∨ dir < 0 ∨ 6 ≤ dir) → z = -1) ∧ (0 ≤ room → room < Xi U 5 2 → 0 ≤ dir → dir < 6 → z = rbh U room dir)) (b : ((room < 0 ∨ Xi S 904 19 ≤ room ∨ dir < 0 ∨ 6 ≤ dir) → y = -1) ∧ (0 ≤ room → room < Xi S 904 19 → 0 ≤ dir → dir < 6 → y = ldR S room dir)) : z = y := by
  obtain ⟨_, _, ct, _, _, _, _, _, _, _, _, _, _, wy, _⟩ := h
  have c2 := ct.2.2.1
  by_cases q : 0 ≤ room ∧ room < Xi U 5 2 ∧ 0 ≤ dir ∧ dir < 6
  · rw [a.2 q.1 q.2.1 q.2.2.1 q.2.2.2, b.2 q.1 (by omega) q.2.2.1 q.2.2.2]
    exact lead_r wy ⟨q.1, by omega⟩ q.2.2 (by omega)
  · have := a.1 (by omega)
    have := b.1 (by omega)
    omega
theorem related_same {U S : sS} {r a b z y : Int} (h : RLQ U S) (hz : 0 ≤ z ∧ z ≤ 1) (hy : 0 ≤ y ∧ y ≤ 1) (p : ((r < 0 ∨ Xi U 5 6 ≤ r ∨ a < 0 ∨ Xi U 5 2 ≤ a ∨ b < 0 ∨ Xi U 5 2 ≤ b) → z = 0) ∧ (0 ≤ r → r < Xi U 5 6 → 0 ≤ a → a < Xi U 5 2 → 0 ≤ b → b < Xi U 5 2 → z = relF U r a b)) (q : ((r < 0 ∨ Xi S 904 41 ≤ r ∨ a < 0 ∨ Xi S 904 19 ≤ a ∨ b < 0 ∨ Xi S 904 19 ≤ b) → y = 0) ∧ (0 ≤ r → r < Xi S 904 41 → 0 ≤ a → a < Xi S 904 19 → 0 ≤ b → b < Xi S 904 19 → (y = 0 ↔ Xi S 940 (576 * r + 24 * a + b).toNat = 0))) : z = y := by
  obtain ⟨_, _, ct, _, _, _, _, bt, _⟩ := h
  have c2 := ct.2.2.1
  have c6 := ct.2.2.2.2.2.2.1
  by_cases x : 0 ≤ r ∧ r < Xi U 5 6 ∧ 0 ≤ a ∧ a < Xi U 5 2 ∧ 0 ≤ b ∧ b < Xi U 5 2
  · have e1 := p.2 x.1 x.2.1 x.2.2.1 x.2.2.2.1 x.2.2.2.2.1 x.2.2.2.2.2
    have e2 := q.2 x.1 (by omega) x.2.2.1 (by omega) x.2.2.2.2.1 (by omega)
    have t := (bt r.toNat a.toNat b.toNat (by omega) (by omega) (by omega)).2 (by omega)
    rw [show ((b.toNat : Nat) : Int) = b by omega, show 576 * r.toNat + 24 * a.toNat + b.toNat = (576 * r + 24 * a + b).toNat by omega] at t
    unfold relF at e1
    rw [bt_gb (by omega)] at e1
    by_cases g : gb (Xi U (189 + r.toNat) a.toNat) b = true
    · rw [g] at e1
      have := t.1 g
      rw [if_pos (by decide)] at e1
      omega
    · have g2 := g
      rw [Bool.not_eq_true] at g2
      rw [g2] at e1
      rw [if_neg (by decide)] at e1
      have : Xi S 940 (576 * r + 24 * a + b).toNat = 0 := Decidable.byContradiction (fun v => g (t.2 v))
      omega
  · have := p.1 (by omega)
    have := q.1 (by omega)
    omega
theorem kind_same {U S : sS} {i w z y : Int} (h : RLQ U S) (hv : 0 ≤ pps U i ∧ pps U i < 4096) (p : ((i < 0 ∨ Xi U 5 0 ≤ i ∨ w < 0 ∨ 2 < w) → z = -1) ∧ (0 ≤ i → i < Xi U 5 0 → (w = 0 → z = Xi U 6 i.toNat) ∧ (w = 1 → z = bcJ (pps U i)) ∧ (w = 2 → z = adjs U i))) (q : ((i < 0 ∨ Xi S 904 16 ≤ i ∨ w < 0 ∨ 2 < w) → y = -1) ∧ (0 ≤ i → i < Xi S 904 16 → (w = 0 → y = Xi S 917 i.toNat) ∧ (w = 1 → y = npN S i (Xi S 904 32).toNat) ∧ (w = 2 → y = naN S i (Xi S 904 23).toNat))) : z = y := by
  obtain ⟨_, _, ct, kn, ty, aj, _⟩ := h
  have c0 := ct.1
  have c3 := ct.2.2.2.1
  have c5 := ct.2.2.2.2.2.1
  by_cases x : 0 ≤ i ∧ i < Xi U 5 0 ∧ 0 ≤ w ∧ w ≤ 2
  · obtain ⟨p0, p1, p2⟩ := p.2 x.1 x.2.1
    obtain ⟨q0, q1, q2⟩ := q.2 x.1 (by omega)
    have : w = 0 ∨ w = 1 ∨ w = 2 := by omega
    rcases this with e | e | e
    · rw [p0 e, q0 e]; exact (kn.2 i.toNat (by omega)).1
    · rw [p1 e, q1 e, bc_pc hv, pc_np rfl kn ⟨x.1, x.2.1⟩ 12 (by omega), ← c5.1]
      refine np_end (by omega) (fun a b c => ?_) 12 (by omega) (by omega)
      have hs : ∀ (f : Nat) (k : Int), k < Xi U 5 0 → hsN S a f k = 0 := by
        intro f
        induction f with
        | zero => intro k _; rfl
        | succ f ih =>
          intro k hk
          unfold hsN
          by_cases r : k < 0
          · rw [if_pos r]
          · rw [if_neg r]
            have u := (kn.2 k.toNat (by omega)).2.1
            have v := ty.2.2.1 k.toNat a.toNat (by omega) (by omega)
            rw [show 12 * k.toNat + a.toNat = (12 * k + a).toNat by omega] at v
            rw [if_neg (fun z => absurd (v z) (by omega))]
            exact ih _ (by omega)
      exact hs 17 i x.2.1
    · rw [p2 e, q2 e, ← c3.1]
      unfold adjs
      exact adj_na kn ⟨x.1, x.2.1⟩ (Xi U 5 3).toNat (fun a ha => (aj a (by omega)).1.1) (Xi U 5 3).toNat 0 0 (by omega) rfl
  · have := p.1 (by omega)
    have := q.1 (by omega)
    omega
theorem hasp_r {U S : sS} {o p : Int} (h : RLQ U S) : ((0 ≤ o ∧ o < Xi U 5 2) ∧ (0 ≤ p ∧ p < Xi U 5 5) ∧ iandF (ishrF (pps U (Xi U 21 o.toNat)) p) 1 = 1) ↔ ((0 ≤ o ∧ o < Xi S 904 19) ∧ (0 ≤ p ∧ p < Xi S 904 32) ∧ hsR S (Xi S 918 o.toNat) p ≠ 0) := by
  obtain ⟨_, _, ct, kn, _, _, _, _, _, ob, _⟩ := h
  have c2 := ct.2.2.1
  have c5 := ct.2.2.2.2.2.1
  rw [← c2.1, ← c5.1]
  have key : 0 ≤ o ∧ o < Xi U 5 2 → 0 ≤ p ∧ p < Xi U 5 5 → (iandF (ishrF (pps U (Xi U 21 o.toNat)) p) 1 = 1 ↔ hsR S (Xi S 918 o.toNat) p ≠ 0) := by
    intro a b
    have k := ob.1.2 o.toNat (by omega)
    rw [k.1, ← pps_hs kn k.2.2 (p := p) (by omega), bt_gb (by omega)]
    cases gb (pps U (Xi S 918 o.toNat)) p <;> decide
  constructor
  · rintro ⟨a, b, c⟩; exact ⟨a, b, (key a b).1 c⟩
  · rintro ⟨a, b, c⟩; exact ⟨a, b, (key a b).2 c⟩
theorem property_same {U S : sS} {o p z y : Int} (h : RLQ U S)
    (a : ((0 ≤ o ∧ o < Xi U 5 2) ∧ (0 ≤ p ∧ p < Xi U 5 5) ∧ iandF (ishrF (pps U (Xi U 21 o.toNat)) p) 1 = 1 → (Xi U 9 p.toNat = 1 → z = lof U o p.toNat) ∧ (Xi U 9 p.toNat ≠ 1 → z = vof U o p.toNat)) ∧ (¬ ((0 ≤ o ∧ o < Xi U 5 2) ∧ (0 ≤ p ∧ p < Xi U 5 5) ∧ iandF (ishrF (pps U (Xi U 21 o.toNat)) p) 1 = 1) → z = -1))
    (b : ((0 ≤ o ∧ o < Xi S 904 19) ∧ (0 ≤ p ∧ p < Xi S 904 32) ∧ hsR S (Xi S 918 o.toNat) p ≠ 0 → (Xi S 928 p.toNat = 1 → y = nlR S o p) ∧ (Xi S 928 p.toNat ≠ 1 → y = nuR S o p)) ∧ (¬ ((0 ≤ o ∧ o < Xi S 904 19) ∧ (0 ≤ p ∧ p < Xi S 904 32) ∧ hsR S (Xi S 918 o.toNat) p ≠ 0) → y = -1)) : z = y := by
  have e := hasp_r (o := o) (p := p) h
  by_cases q : (0 ≤ o ∧ o < Xi U 5 2) ∧ (0 ≤ p ∧ p < Xi U 5 5) ∧ iandF (ishrF (pps U (Xi U 21 o.toNat)) p) 1 = 1
  · obtain ⟨⟨n1, n2⟩, n3⟩ := num_r h q.1 q.2.1
    obtain ⟨a1, a2⟩ := a.1 q
    obtain ⟨b1, b2⟩ := b.1 (e.1 q)
    by_cases t : Xi S 928 p.toNat = 1
    · rw [a1 (by omega), b1 t]; exact (n1 t).1
    · rw [a2 (by omega), b2 t]; exact n2 t
  · rw [a.2 q, b.2 (fun x => q (e.2 x))]
theorem letter_same {U S : sS} {o p k z y : Int} (h : RLQ U S)
    (a : (((0 ≤ o ∧ o < Xi U 5 2) ∧ (0 ≤ p ∧ p < Xi U 5 5) ∧ iandF (ishrF (pps U (Xi U 21 o.toNat)) p) 1 = 1) ∧ Xi U 9 p.toNat = 1 ∧ 0 ≤ k ∧ k < lof U o p.toNat → z = Xi U (txr U) (vof U o p.toNat + k).toNat % 256) ∧ (¬ (((0 ≤ o ∧ o < Xi U 5 2) ∧ (0 ≤ p ∧ p < Xi U 5 5) ∧ iandF (ishrF (pps U (Xi U 21 o.toNat)) p) 1 = 1) ∧ Xi U 9 p.toNat = 1 ∧ 0 ≤ k ∧ k < lof U o p.toNat) → z = -1))
    (b : (((0 ≤ o ∧ o < Xi S 904 19) ∧ (0 ≤ p ∧ p < Xi S 904 32) ∧ hsR S (Xi S 918 o.toNat) p ≠ 0) ∧ Xi S 928 p.toNat = 1 ∧ 0 ≤ k ∧ k < nlR S o p → y = Xi S 906 (nuR S o p + k).toNat % 256) ∧ (¬ (((0 ≤ o ∧ o < Xi S 904 19) ∧ (0 ≤ p ∧ p < Xi S 904 32) ∧ hsR S (Xi S 918 o.toNat) p ≠ 0) ∧ Xi S 928 p.toNat = 1 ∧ 0 ≤ k ∧ k < nlR S o p) → y = -1)) : z = y := by
  have e := hasp_r (o := o) (p := p) h
  by_cases q : (0 ≤ o ∧ o < Xi U 5 2) ∧ (0 ≤ p ∧ p < Xi U 5 5) ∧ iandF (ishrF (pps U (Xi U 21 o.toNat)) p) 1 = 1
  · obtain ⟨⟨n1, n2⟩, n3⟩ := num_r h q.1 q.2.1
    by_cases t : Xi S 928 p.toNat = 1 ∧ 0 ≤ k ∧ k < lof U o p.toNat
    · obtain ⟨x1, x2⟩ := n1 t.1
      rw [a.1 ⟨q, by omega, t.2.1, t.2.2⟩, b.1 ⟨e.1 q, t.1, t.2.1, by omega⟩, x2 k t.2.1 t.2.2]
    · rw [a.2 (fun x => t ⟨by omega, x.2.2.1, x.2.2.2⟩), b.2 (fun x => t ⟨x.2.1, x.2.2.1, by have := (n1 x.2.1).1; omega⟩)]
  · rw [a.2 (fun x => q x.1), b.2 (fun x => q (e.2 x.1))]
theorem rule_same {U S : sS} {i w z y : Int} (h : RLB U S) (hB : ABV S) (hs : SRT U U (Xi U 246 2)) (a : ((i < 0 ∨ Xi U 246 2 ≤ i ∨ w < 0 ∨ 7 < w) → z = -1) ∧ (0 ≤ i → i < Xi U 246 2 → (0 ≤ w → w ≤ 6 → z = Xi U (248 + i.toNat) w.toNat) ∧ (w = 7 → PIO U i.toNat (Xi U 246 2) z))) (b : ((i < 0 ∨ Xi S 904 130 ≤ i ∨ w < 0 ∨ 7 < w) → y = -1) ∧ (0 ≤ i → i < Xi S 904 130 → (w = 0 → y = Xi S 978 i.toNat) ∧ (w = 1 → y = Xi S 979 i.toNat) ∧ (w = 2 → y = Xi S 980 i.toNat) ∧ (w = 3 → y = Xi S 981 i.toNat) ∧ (w = 4 → y = Xi S 982 i.toNat) ∧ (w = 5 → y = Xi S 985 i.toNat) ∧ (w = 6 → y = Xi S 987 i.toNat) ∧ (w = 7 → y = noR S (Xi S 904 130).toNat i.toNat))) : z = y := by
  obtain ⟨⟨_, _, ct, kn, _⟩, _, _, bk, _, ru⟩ := h
  have e := bk.2.2.2.1
  by_cases q : 0 ≤ i ∧ i < Xi U 246 2 ∧ 0 ≤ w ∧ w ≤ 7
  · obtain ⟨a1, a2⟩ := a.2 q.1 q.2.1
    obtain ⟨b0, b1, b2, b3, b4, b5, b6, b7⟩ := b.2 q.1 (by omega)
    obtain ⟨u0, u1, u5, u6, _⟩ := ru i.toNat (by omega)
    have hd : Xi U (248 + i.toNat) 1 = Xi S 979 i.toNat ∧ Xi U (248 + i.toNat) 2 = Xi S 980 i.toNat ∧ Xi U (248 + i.toNat) 3 = Xi S 981 i.toNat ∧ Xi U (248 + i.toNat) 4 = Xi S 982 i.toNat := by
      unfold HRT at u1
      rcases u1 with ⟨_, ⟨c1, c2, c3, c4⟩, d1, d2, d3, d4⟩ | ⟨_, aa, o, k, n, ⟨c1, c2, c3, c4⟩, ⟨d1, d2, d3, d4⟩, _⟩
      · omega
      · omega
    by_cases w7 : w = 7
    · rw [b7 w7, pio_no (a2 w7) hs (by omega), ← e.1]
      exact no_r kn hB (fun s hs => ru s (by omega)) (by omega)
    · have v := a1 (by omega) (by omega)
      have : w = 0 ∨ w = 1 ∨ w = 2 ∨ w = 3 ∨ w = 4 ∨ w = 5 ∨ w = 6 := by omega
      rcases this with x | x | x | x | x | x | x <;> rw [x] at v
      · rw [v, b0 x]; exact u0.1
      · rw [v, b1 x]; exact hd.1
      · rw [v, b2 x]; exact hd.2.1
      · rw [v, b3 x]; exact hd.2.2.1
      · rw [v, b4 x]; exact hd.2.2.2
      · rw [v, b5 x]; exact u5.1
      · rw [v, b6 x]; exact u6.1
  · have := a.1 (by omega)
    have := b.1 (by omega)
    omega
end
