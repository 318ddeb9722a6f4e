/-! SAFETY of methods: printed by wip/safe (vc.py, decl.py) -/
/-! SAFETY of the reference: kinds, properties, adjectives as functions -/
def blN (S : sS) (o : Int) : Nat → Int → Int
  | 0, _ => 0
  | f + 1, k => if k < 0 then 0 else if k = o then 1 else blN S o f (Xi S 917 k.toNat)
theorem blN_st {S : sS} {o : Int} (hB : ABV S) : ∀ (f g : Nat) (k : Int), k ≤ 15 → k + 2 ≤ f → k + 2 ≤ g → blN S o f k = blN S o g k
  | 0, 0, _, _, _, _ => rfl
  | 0, g + 1, k, _, h, _ => by
    show 0 = if k < 0 then 0 else _
    rw [if_pos (by omega)]
  | f + 1, 0, k, _, _, h => by
    show (if k < 0 then 0 else _) = 0
    rw [if_pos (by omega)]
  | f + 1, g + 1, k, h1, h2, h3 => by
    show (if k < 0 then 0 else if k = o then 1 else blN S o f (Xi S 917 k.toNat)) = (if k < 0 then 0 else if k = o then 1 else blN S o g (Xi S 917 k.toNat))
    by_cases q : k < 0
    · rw [if_pos q, if_pos q]
    · have a := hB k.toNat (by omega)
      rw [if_neg q, if_neg q, blN_st hB f g (Xi S 917 k.toNat) (by omega) (by omega) (by omega)]
/-- is a kind another, or below it -/
def blR (S : sS) (k o : Int) : Int := blN S o 17 k
theorem blR_n {S : sS} {k o : Int} (h : k < 0) : blR S k o = 0 := if_pos h
theorem blR_e {S : sS} {k o : Int} (h : 0 ≤ k) (e : k = o) : blR S k o = 1 := by
  show (if k < 0 then 0 else if k = o then 1 else _) = 1
  rw [if_neg (by omega), if_pos e]
theorem blR_s {S : sS} {k o : Int} (hB : ABV S) (h : 0 ≤ k) (h2 : k ≤ 15) (e : k ≠ o) : blR S k o = blR S (Xi S 917 k.toNat) o := by
  show (if k < 0 then 0 else if k = o then 1 else blN S o 16 (Xi S 917 k.toNat)) = blN S o 17 (Xi S 917 k.toNat)
  have a := hB k.toNat (by omega)
  rw [if_neg (by omega), if_neg e, blN_st hB 16 17 _ (by omega) (by omega) (by omega)]
def hsN (S : sS) (p : Int) : Nat → Int → Int
  | 0, _ => 0
  | f + 1, k => if k < 0 then 0 else if Xi S 929 (12 * k + p).toNat ≠ 0 then 1 else hsN S p f (Xi S 917 k.toNat)
theorem hsN_st {S : sS} {p : Int} (hB : ABV S) : ∀ (f g : Nat) (k : Int), k ≤ 15 → k + 2 ≤ f → k + 2 ≤ g → hsN S p f k = hsN S p g k
  | 0, 0, _, _, _, _ => rfl
  | 0, g + 1, k, _, h, _ => by
    show 0 = if k < 0 then 0 else _
    rw [if_pos (by omega)]
  | f + 1, 0, k, _, _, h => by
    show (if k < 0 then 0 else _) = 0
    rw [if_pos (by omega)]
  | f + 1, g + 1, k, h1, h2, h3 => by
    show (if k < 0 then 0 else if Xi S 929 (12 * k + p).toNat ≠ 0 then 1 else hsN S p f (Xi S 917 k.toNat)) = (if k < 0 then 0 else if Xi S 929 (12 * k + p).toNat ≠ 0 then 1 else hsN S p g (Xi S 917 k.toNat))
    by_cases q : k < 0
    · rw [if_pos q, if_pos q]
    · have a := hB k.toNat (by omega)
      rw [if_neg q, if_neg q, hsN_st hB f g (Xi S 917 k.toNat) (by omega) (by omega) (by omega)]
/-- has a kind, or one above it, that property -/
def hsR (S : sS) (k p : Int) : Int := hsN S p 17 k
theorem hsR_n {S : sS} {k p : Int} (h : k < 0) : hsR S k p = 0 := if_pos h
theorem hsR_e {S : sS} {k p : Int} (h : 0 ≤ k) (e : Xi S 929 (12 * k + p).toNat ≠ 0) : hsR S k p = 1 := by
  show (if k < 0 then 0 else if Xi S 929 (12 * k + p).toNat ≠ 0 then 1 else _) = 1
  rw [if_neg (by omega), if_pos e]
theorem hsR_s {S : sS} {k p : Int} (hB : ABV S) (h : 0 ≤ k) (h2 : k ≤ 15) (e : Xi S 929 (12 * k + p).toNat = 0) : hsR S k p = hsR S (Xi S 917 k.toNat) p := by
  show (if k < 0 then 0 else if Xi S 929 (12 * k + p).toNat ≠ 0 then 1 else hsN S p 16 (Xi S 917 k.toNat)) = hsN S p 17 (Xi S 917 k.toNat)
  have a := hB k.toNat (by omega)
  rw [if_neg (by omega), if_neg (fun q => q e), hsN_st hB 16 17 _ (by omega) (by omega) (by omega)]
/-- how many of the first properties of a kind are of a type -/
def mtN (S : sS) (k t : Int) : Nat → Int
  | 0 => 0
  | m + 1 => mtN S k t m + (if Xi S 928 m = t ∧ hsR S k m = 1 then 1 else 0)
theorem mtN_s {S : sS} {k t v : Int} (h : 0 ≤ v) : mtN S k t (v + 1).toNat = mtN S k t v.toNat + (if Xi S 928 v.toNat = t ∧ hsR S k v = 1 then 1 else 0) := by
  rw [show (v + 1).toNat = v.toNat + 1 by omega]
  show mtN S k t v.toNat + (if Xi S 928 v.toNat = t ∧ hsR S k (v.toNat : Int) = 1 then 1 else 0) = _
  rw [show ((v.toNat : Nat) : Int) = v by omega]
def mtR (S : sS) (k t : Int) : Int := if k < 0 then 0 else mtN S k t (Xi S 904 32).toNat
/-- how often an adjective is meant -/
noncomputable def adR (S : sS) (t m k f v : Int) : Int := if nmR S t m = -1 then 0 else if Xi S 914 (nmR S t m).toNat = 5 ∧ blR S k (Xi S 921 (Xi S 915 (nmR S t m).toNat).toNat) = 1 ∧ (f ≠ 0 ∨ Xi S 924 (Xi S 915 (nmR S t m).toNat).toNat = 0) then 1 else if Xi S 914 (nmR S t m).toNat = 6 ∧ v ≠ 0 then mtR S k (Xi S 927 (Xi S 915 (nmR S t m).toNat).toNat) else 0
theorem blN_k {S T : sS} {o : Int} (e : ∀ j, Xi T 917 j = Xi S 917 j) : ∀ (f : Nat) (k : Int), blN T o f k = blN S o f k
  | 0, _ => rfl
  | f + 1, k => by
    show (if k < 0 then 0 else if k = o then 1 else blN T o f (Xi T 917 k.toNat)) = (if k < 0 then 0 else if k = o then 1 else blN S o f (Xi S 917 k.toNat))
    rw [e, blN_k e f]
theorem hsN_k {S T : sS} {p : Int} (e : ∀ j, Xi T 917 j = Xi S 917 j) (e2 : ∀ j, Xi T 929 j = Xi S 929 j) : ∀ (f : Nat) (k : Int), hsN T p f k = hsN S p f k
  | 0, _ => rfl
  | f + 1, k => by
    show (if k < 0 then 0 else if Xi T 929 (12 * k + p).toNat ≠ 0 then 1 else hsN T p f (Xi T 917 k.toNat)) = (if k < 0 then 0 else if Xi S 929 (12 * k + p).toNat ≠ 0 then 1 else hsN S p f (Xi S 917 k.toNat))
    rw [e, e2, hsN_k e e2 f]
theorem mtN_k {S T : sS} {k t : Int} (e : ∀ j, Xi T 917 j = Xi S 917 j) (e2 : ∀ j, Xi T 929 j = Xi S 929 j) (e3 : ∀ j, Xi T 928 j = Xi S 928 j) : ∀ m : Nat, mtN T k t m = mtN S k t m
  | 0 => rfl
  | m + 1 => by
    show mtN T k t m + (if Xi T 928 m = t ∧ hsN T m 17 k = 1 then 1 else 0) = mtN S k t m + (if Xi S 928 m = t ∧ hsN S m 17 k = 1 then 1 else 0)
    rw [mtN_k e e2 e3 m, e3, hsN_k e e2]
theorem mtR_k {S T : sS} {k t : Int} (e : ∀ j, Xi T 917 j = Xi S 917 j) (e2 : ∀ j, Xi T 929 j = Xi S 929 j) (e3 : ∀ j, Xi T 928 j = Xi S 928 j) (e4 : Xi T 904 32 = Xi S 904 32) : mtR T k t = mtR S k t := by
  unfold mtR
  rw [e4, mtN_k e e2 e3]
def kAD : List (Nat × Nat) := [(917, 918), (921, 922), (924, 925), (927, 930)]
theorem adR_FR {l : List rec} {S T : sS} {t m k f v : Int} (h : FR l S T) (e : (kdis l kLX && mD l [15]) = true) (e2 : (kdis l kAD && mD l [32]) = true) : adR T t m k f v = adR S t m k f v := by
  unfold adR
  rw [nmR_FR h e]
  rw [Bool.and_eq_true] at e e2
  have q := h.smk e.1
  have r := h.smk e2.1
  have b : ∀ o, blR T k o = blR S k o := fun o => blN_k (fun j => r.x 917 rfl j) 17 k
  have c : ∀ y, mtR T k y = mtR S k y := fun y => by
    unfold mtR
    rw [mD_x h e2.2 32 (by decide), mtN_k (fun j => r.x 917 rfl j) (fun j => r.x 929 rfl j) (fun j => r.x 928 rfl j)]
  rw [q.x 914 rfl, q.x 915 rfl, r.x 921 rfl, r.x 924 rfl, r.x 927 rfl, b, c]
abbrev Q_mo_isBelow__2 (S : sS) (kind : Int) (of_ : Int) : pst := fun r S1 => S = S1 ∧ (∃ z : Int, r = some (iv z) ∧ (0 ≤ z ∧ z ≤ 1) ∧ (z = 1 → 0 ≤ kind ∧ 0 ≤ of_) ∧ (z = blR S kind of_))
set_option maxRecDepth 100000 in
theorem t_mo_isBelow__2 {S : sS} (hH : HI S) (kind : Int) (of_ : Int) (hkind : -1 ≤ kind ∧ kind ≤ 15) (hof_ : -2147483648 ≤ of_ ∧ of_ ≤ 2147483647) (hB : ABV S) (d : Nat) : Mt lay0 (d + 1) m_mo_isBelow [.ref 904, iv kind, iv of_] S (Q_mo_isBelow__2 S kind of_) := by
  refine Mt_R rfl rfl ?_
  have C2 : ∀ (n2 : Nat) (v3 : Int), (-1 ≤ v3 ∧ v3 ≤ 15) → (v3 ≤ kind) → (blR S kind of_ = blR S v3 of_) → n2 = (v3 + 1).toNat → Rl lay0 (d + 0) m_mo_isBelow 2 [(0, .ref 904), (2, iv of_), (3, iv v3)] [] S (Q_mo_isBelow__2 S kind of_) := by
    intro n2
    induction n2 using Nat.strongRecOn with
    | ind n2 ih2 =>
      intro v3 w1 w2 f2 hm2
      have C21 : ∀  (v3 : Int), (-1 ≤ v3 ∧ v3 ≤ 15) → (v3 ≤ kind) → (blR S kind of_ = blR S v3 of_) → (v3 < 0 ∨ v3 ≠ of_ → blR S v3 of_ = 0) → Rl lay0 (d + 0) m_mo_isBelow 21 [(2, iv of_), (3, iv v3)] [] S (Q_mo_isBelow__2 S kind of_) := by
        intro v3 w3 w4 f21 g21
        refine l_iload_n rfl rfl ?_
        refine l_iload_n rfl rfl ?_
        refine l_icmp_ne rfl rfl (by unfold rg; omega) (by unfold rg; omega) (fun w5 => ?_) (fun w6 => ?_)
        · refine l_iconst rfl ?_
          refine l_ireturn rfl rfl ?_
          exact ⟨rfl, _, rfl, ⟨by omega, by omega⟩, (by first | assumption | omega), (by first | (rw [f21]; exact (blR_e (by omega) (by omega)).symm) | (rw [f21]; exact (g21 (by omega)).symm))⟩
        · refine l_iload_n rfl rfl ?_
          refine l_if_lt rfl rfl (by unfold rg; omega) (fun w7 => ?_) (fun w8 => ?_)
          · refine l_iconst rfl ?_
            refine l_ireturn rfl rfl ?_
            exact ⟨rfl, _, rfl, ⟨by omega, by omega⟩, (by first | assumption | omega), (by first | (rw [f21]; exact (blR_e (by omega) (by omega)).symm) | (rw [f21]; exact (g21 (by omega)).symm))⟩
          · refine l_iconst rfl ?_
            refine l_goto rfl rfl ?_
            refine l_ireturn rfl rfl ?_
            exact ⟨rfl, _, rfl, ⟨by omega, by omega⟩, (by first | assumption | omega), (by first | (rw [f21]; exact (blR_e (by omega) (by omega)).symm) | (rw [f21]; exact (g21 (by omega)).symm))⟩
      refine l_iload_n rfl rfl ?_
      refine l_if_lt rfl rfl (by unfold rg; omega) (fun w9 => ?_) (fun w10 => ?_)
      · exact Rl_weak (C21 (v3) (by omega) (by omega) (f2) (fun q => blR_n (by omega))) (And.intro rfl (And.intro rfl (True.intro)))
      · refine l_iload_n rfl rfl ?_
        refine l_iload_n rfl rfl ?_
        refine l_icmp_eq rfl rfl (by unfold rg; omega) (by unfold rg; omega) (fun w11 => ?_) (fun w12 => ?_)
        · exact Rl_weak (C21 (v3) (by omega) (by omega) (f2) (fun q => blR_n (by omega))) (And.intro rfl (And.intro rfl (True.intro)))
        · refine l_aload_n rfl rfl ?_
          refine l_gfr rfl rfl rfl rfl rfl (hH.r 904 17 917 rfl) ?_
          refine l_iload_n rfl rfl ?_
          refine l_iaload (n := 16) rfl rfl (by omega) (by omega) (by unfold rg; omega) ?_
          have w13 : -1 ≤ (Xi S 917 ((v3).toNat)) ∧ (Xi S 917 ((v3).toNat)) ≤ 15 := hH.c _ _
          have b16 : (Xi S 917 ((v3).toNat)) < v3 := by have t := hB (v3).toNat (by omega); omega
          refine l_istore_n rfl rfl rfl ?_
          refine l_goto rfl rfl ?_
          exact Rl_weak (ih2 _ (by omega) ((Xi S 917 ((v3).toNat))) (by omega) (by omega) (by first | rfl | exact f2.trans (blR_s hB (by omega) (by omega) (by omega))) rfl) (And.intro rfl (And.intro rfl (And.intro rfl (True.intro))))
  refine l_iload_n rfl rfl ?_
  refine l_istore_n rfl rfl rfl ?_
  exact Rl_weak (C2 _ (kind) (by omega) (by omega) (by first | rfl | exact f2.trans (blR_s hB (by omega) (by omega) (by omega))) rfl) (And.intro rfl (And.intro rfl (And.intro rfl (True.intro))))
abbrev Q_mo_has__2 (S : sS) (kind : Int) (p : Int) : pst := fun r S1 => S = S1 ∧ (∃ z : Int, r = some (iv z) ∧ (0 ≤ z ∧ z ≤ 1) ∧ (z = 1 → 0 ≤ kind) ∧ (z = hsR S kind p))
set_option maxRecDepth 100000 in
theorem t_mo_has__2 {S : sS} (hH : HI S) (kind : Int) (p : Int) (hkind : -1 ≤ kind ∧ kind ≤ 15) (hp : 0 ≤ p ∧ p ≤ 11) (hB : ABV S) (d : Nat) : Mt lay0 (d + 1) m_mo_has [.ref 904, iv kind, iv p] S (Q_mo_has__2 S kind p) := by
  refine Mt_R rfl rfl ?_
  have C2 : ∀ (n2 : Nat) (v3 : Int), (-1 ≤ v3 ∧ v3 ≤ 15) → (v3 ≤ kind) → (hsR S kind p = hsR S v3 p) → n2 = (v3 + 1).toNat → Rl lay0 (d + 0) m_mo_has 2 [(0, .ref 904), (2, iv p), (3, iv v3)] [] S (Q_mo_has__2 S kind p) := by
    intro n2
    induction n2 using Nat.strongRecOn with
    | ind n2 ih2 =>
      intro v3 w1 w2 f2 hm2
      refine l_iload_n rfl rfl ?_
      refine l_if_lt rfl rfl (by unfold rg; omega) (fun w3 => ?_) (fun w4 => ?_)
      · refine l_iconst rfl ?_
        refine l_ireturn rfl rfl ?_
        exact ⟨rfl, _, rfl, ⟨by omega, by omega⟩, (by first | assumption | omega), (by first | (rw [f2]; exact (hsR_e (by omega) (by omega)).symm) | (rw [f2]; exact (hsR_n (by omega)).symm))⟩
      · refine l_aload_n rfl rfl ?_
        refine l_gfr rfl rfl rfl rfl rfl (hH.r 904 34 929 rfl) ?_
        refine l_bipush rfl rfl ?_
        refine l_iload_n rfl rfl ?_
        refine l_imul rfl ?_
        refine l_iload_n rfl rfl ?_
        refine l_iadd rfl ?_
        refine l_baload (n := 192) rfl rfl rfl (by decide) (by omega) (by omega) (by unfold rg; omega) ?_
        have w5 : 0 ≤ (Xi S 929 ((((12 * v3) + p)).toNat)) ∧ (Xi S 929 ((((12 * v3) + p)).toNat)) ≤ 1 := hH.c _ _
        refine l_if_eq rfl rfl (by unfold rg; omega) (fun w6 => ?_) (fun w7 => ?_)
        · refine l_aload_n rfl rfl ?_
          refine l_gfr rfl rfl rfl rfl rfl (hH.r 904 17 917 rfl) ?_
          refine l_iload_n rfl rfl ?_
          refine l_iaload (n := 16) rfl rfl (by omega) (by omega) (by unfold rg; omega) ?_
          have w8 : -1 ≤ (Xi S 917 ((v3).toNat)) ∧ (Xi S 917 ((v3).toNat)) ≤ 15 := hH.c _ _
          have b27 : (Xi S 917 ((v3).toNat)) < v3 := by have t := hB (v3).toNat (by omega); omega
          refine l_istore_n rfl rfl rfl ?_
          refine l_goto rfl rfl ?_
          exact Rl_weak (ih2 _ (by omega) ((Xi S 917 ((v3).toNat))) (by omega) (by omega) (by first | rfl | exact f2.trans (hsR_s hB (by omega) (by omega) (by omega))) rfl) (And.intro rfl (And.intro rfl (And.intro rfl (True.intro))))
        · refine l_iconst rfl ?_
          refine l_ireturn rfl rfl ?_
          exact ⟨rfl, _, rfl, ⟨by omega, by omega⟩, (by first | assumption | omega), (by first | (rw [f2]; exact (hsR_e (by omega) (by omega)).symm) | (rw [f2]; exact (hsR_n (by omega)).symm))⟩
  refine l_iload_n rfl rfl ?_
  refine l_istore_n rfl rfl rfl ?_
  exact Rl_weak (C2 _ (kind) (by omega) (by omega) (by first | rfl | exact f2.trans (hsR_s hB (by omega) (by omega) (by omega))) rfl) (And.intro rfl (And.intro rfl (And.intro rfl (True.intro))))
def md_mo_propertyOf__2 : List rec := [(904, 905, 64, 65)]
abbrev Q_mo_propertyOf__2 (S : sS) (kind : Int) (type : Int) : pst := fun r S1 => HI S1 ∧ FR md_mo_propertyOf__2 S S1 ∧ (∃ z : Int, r = some (iv z) ∧ (-1 ≤ z ∧ z ≤ 11) ∧ (z = -1 → Xi S1 904 64 = 0) ∧ (z ≠ -1 → z < Xi S 904 32) ∧ (z ≠ -1 → 0 ≤ kind) ∧ (Xi S1 904 64 = mtR S kind type))
set_option maxRecDepth 100000 in
theorem t_mo_propertyOf__2 {S : sS} (hH : HI S) (kind : Int) (type : Int) (hkind : -1 ≤ kind ∧ kind ≤ 15) (htype : -2147483648 ≤ type ∧ type ≤ 2147483647) (hB : ABV S) (d : Nat) : Mt lay0 (d + 2) m_mo_propertyOf [.ref 904, iv kind, iv type] S (Q_mo_propertyOf__2 S kind type) := by
  refine Mt_R rfl rfl ?_
  have hF : FR md_mo_propertyOf__2 S S := FR.rf
  have w1 : 0 ≤ Xi S 904 32 ∧ Xi S 904 32 ≤ 12 := hH.c _ _
  have w2 : 0 ≤ Xi S 904 64 ∧ Xi S 904 64 ≤ 12 := hH.c _ _
  have hc32 : 0 ≤ Xi S 904 32 ∧ Xi S 904 32 ≤ 12 := hH.c _ _
  have C10 : ∀ (n10 : Nat) (T1 : sS) (_ : HI T1) (_ : FR md_mo_propertyOf__2 S T1) (v3 : Int) (v4 : Int), (-1 ≤ v3 ∧ v3 ≤ 11) → (0 ≤ v4 ∧ v4 ≤ 12) → (Xi T1 904 64 ≤ v4) → (v3 = -1 → Xi T1 904 64 = 0) → (v3 ≠ -1 → 1 ≤ Xi T1 904 64) → (v3 ≠ -1 → v3 < Xi S 904 32) → (v3 ≠ -1 → 0 ≤ kind) → (v4 ≤ Xi S 904 32) → (Xi T1 904 64 = if kind < 0 then 0 else mtN S kind type (v4).toNat) → n10 = (13 - v4).toNat → Rl lay0 (d + 1) m_mo_propertyOf 10 [(0, .ref 904), (1, iv kind), (2, iv type), (3, iv v3), (4, iv v4)] [] T1 (Q_mo_propertyOf__2 S kind type) := by
    intro n10
    induction n10 using Nat.strongRecOn with
    | ind n10 ih10 =>
      intro T1 hHT1 hFT1 v3 v4 w3 w4 w5 w6 w7 w8 w9 w10 f10 hm10
      have w11 : Xi T1 904 32 = Xi S 904 32 := hFT1.x _ _ rfl
      have w12 : 0 ≤ Xi T1 904 64 ∧ Xi T1 904 64 ≤ 12 := hHT1.c _ _
      have C74 : ∀  (T2 : sS) (_ : HI T2) (_ : FR md_mo_propertyOf__2 S T2) (v3 : Int), (-1 ≤ v3 ∧ v3 ≤ 11) → (v3 = -1 → Xi T2 904 64 = 0) → (v3 ≠ -1 → v3 < Xi S 904 32) → (v3 ≠ -1 → 0 ≤ kind) → (Xi T2 904 64 = mtR S kind type) → Rl lay0 (d + 1) m_mo_propertyOf 74 [(3, iv v3)] [] T2 (Q_mo_propertyOf__2 S kind type) := by
        intro T2 hHT2 hFT2 v3 w13 w14 w15 w16 f74
        have w17 : Xi T2 904 32 = Xi S 904 32 := hFT2.x _ _ rfl
        have w18 : 0 ≤ Xi T2 904 64 ∧ Xi T2 904 64 ≤ 12 := hHT2.c _ _
        refine l_iload_n rfl rfl ?_
        refine l_ireturn rfl rfl ?_
        have w19 : 0 ≤ Xi T2 904 32 ∧ Xi T2 904 32 ≤ 12 := hHT2.c _ _
        exact ⟨hHT2, hFT2, _, rfl, ⟨by omega, by omega⟩, (by first | assumption | omega), (by first | assumption | omega), (by first | assumption | omega), (f74)⟩
      refine l_iload rfl rfl ?_
      refine l_aload_n rfl rfl ?_
      refine l_gfi rfl rfl rfl rfl rfl ?_
      have p13 : (Xi T1 904 32) = Xi S 904 32 := by first | rfl | exact hFT1.x 904 32 rfl
      refine l_icmp_ge rfl rfl (by unfold rg; omega) (by unfold rg; omega) (fun w21 => ?_) (fun w22 => ?_)
      · have w23 : 0 ≤ Xi T1 904 32 ∧ Xi T1 904 32 ≤ 12 := hHT1.c _ _
        exact Rl_weak (C74 T1 hHT1 hFT1 (v3) (by omega) (by omega) (by omega) (by omega) (by unfold mtR; rcases Int.lt_or_le kind 0 with kk | kk; (have t := f10; rw [if_pos kk] at t ⊢; exact t); (have t := f10; rw [if_neg (by omega)] at t ⊢; rw [show Xi S 904 32 = v4 by omega]; exact t))) (And.intro rfl (True.intro))
      · refine l_iload_n rfl rfl ?_
        refine l_if_lt rfl rfl (by unfold rg; omega) (fun w25 => ?_) (fun w26 => ?_)
        · have w27 : 0 ≤ Xi T1 904 32 ∧ Xi T1 904 32 ≤ 12 := hHT1.c _ _
          exact Rl_weak (C74 T1 hHT1 hFT1 (v3) (by omega) (by omega) (by omega) (by omega) (by unfold mtR; rcases Int.lt_or_le kind 0 with kk | kk; (have t := f10; rw [if_pos kk] at t ⊢; exact t); (have t := f10; rw [if_neg (by omega)] at t ⊢; rw [show Xi S 904 32 = v4 by omega]; exact t))) (And.intro rfl (True.intro))
        · refine l_aload_n rfl rfl ?_
          refine l_gfr rfl rfl rfl rfl rfl (hHT1.r 904 33 928 rfl) ?_
          refine l_iload rfl rfl ?_
          refine l_iaload (n := 12) rfl rfl (by omega) (by omega) (by unfold rg; omega) ?_
          have w29 : 0 ≤ (Xi T1 928 ((v4).toNat)) ∧ (Xi T1 928 ((v4).toNat)) ≤ 7 := hHT1.c _ _
          have t29 : (Xi T1 928 ((v4).toNat)) = Xi S 928 (v4).toNat := by first | rfl | exact (hFT1.cx 928 rfl _).1
          refine l_iload_n rfl rfl ?_
          refine l_icmp_ne rfl rfl (by unfold rg; omega) (by unfold rg; omega) (fun w30 => ?_) (fun w31 => ?_)
          · refine l_iinc rfl rfl rfl rfl ?_
            refine l_goto rfl rfl ?_
            have w32 : 0 ≤ Xi T1 904 32 ∧ Xi T1 904 32 ≤ 12 := hHT1.c _ _
            exact Rl_weak (ih10 _ (by omega) T1 hHT1 hFT1 (v3) ((v4 + 1)) (by omega) (by omega) (by omega) (by omega) (by omega) (by omega) (by omega) (by omega) (by first | (rw [show Xi T1 904 64 = 0 by omega]; split <;> rfl) | (rw [if_neg (by omega), mtN_s (by omega), if_pos ⟨by omega, by omega⟩]; have t := f10; rw [if_neg (by omega)] at t; omega) | (rw [if_neg (by omega), mtN_s (by omega), if_neg (fun q => by omega)]; have t := f10; rw [if_neg (by omega)] at t; omega)) rfl) (And.intro rfl (And.intro rfl (And.intro rfl (And.intro rfl (And.intro rfl (True.intro))))))
          · refine l_aload_n rfl rfl ?_
            refine l_iload_n rfl rfl ?_
            refine l_iload rfl rfl ?_
            refine l_callV rfl rfl rfl (t_mo_has__2 hHT1 kind v4 ⟨by omega, by omega⟩ ⟨by omega, by omega⟩ (by first | assumption | exact (ABV_FR hFT1 rfl (by assumption : ABV S))) _) ?_
            rintro _ _ ⟨rfl, z38, rfl, w38, w36, w37⟩
            show Rl _ _ _ _ _ [iv z38] _ _
            have h38 : z38 = hsR S kind v4 := by first | assumption | exact (by assumption : z38 = hsR T1 kind v4).trans (hsN_k (fun j => (hFT1.cx 917 rfl j).1) (fun j => (hFT1.cx 929 rfl j).1) 17 kind)
            refine l_if_eq rfl rfl (by unfold rg; omega) (fun w39 => ?_) (fun w40 => ?_)
            · refine l_iinc rfl rfl rfl rfl ?_
              refine l_goto rfl rfl ?_
              have w41 : 0 ≤ Xi T1 904 32 ∧ Xi T1 904 32 ≤ 12 := hHT1.c _ _
              exact Rl_weak (ih10 _ (by omega) T1 hHT1 hFT1 (v3) ((v4 + 1)) (by omega) (by omega) (by omega) (by omega) (by omega) (by omega) (by omega) (by omega) (by first | (rw [show Xi T1 904 64 = 0 by omega]; split <;> rfl) | (rw [if_neg (by omega), mtN_s (by omega), if_pos ⟨by omega, by omega⟩]; have t := f10; rw [if_neg (by omega)] at t; omega) | (rw [if_neg (by omega), mtN_s (by omega), if_neg (fun q => by omega)]; have t := f10; rw [if_neg (by omega)] at t; omega)) rfl) (And.intro rfl (And.intro rfl (And.intro rfl (And.intro rfl (And.intro rfl (True.intro))))))
            · refine l_aload_n rfl rfl ?_
              refine l_gfi rfl rfl rfl rfl rfl ?_
              refine l_if_ne rfl rfl (by unfold rg; omega) (fun w43 => ?_) (fun w44 => ?_)
              · refine l_iload_n rfl rfl ?_
                refine l_istore_n rfl rfl rfl ?_
                refine l_aload_n rfl rfl ?_
                refine l_dup rfl rfl ?_
                refine l_gfi rfl rfl rfl rfl rfl ?_
                refine l_iconst rfl ?_
                refine l_iadd rfl ?_
                refine l_pfi rfl rfl rfl rfl ?_
                obtain ⟨U3, eU3⟩ : ∃ T : sS, T = uI T1 904 64 (Int32.ofInt ((Xi T1 904 64) + 1)) := ⟨_, rfl⟩
                rw [← eU3]
                have hHU3 : HI U3 := by rw [eU3]; exact HI_w hHT1 (show 0 ≤ ((Xi T1 904 64) + 1) by omega) (show ((Xi T1 904 64) + 1) ≤ 12 by omega)
                have hFU3 : FR md_mo_propertyOf__2 S U3 := by rw [eU3]; exact FR.wI hFT1 (mdf_i (r := (904, 905, 64, 65)) (List.mem_of_getElem? (i := 0) rfl) (inR_i (by omega) (by omega) (by omega) (by omega)))
                have w45 : Xi U3 904 64 = ((Xi T1 904 64) + 1) := by rw [eU3]; exact Xi_same (by unfold rg; omega)
                refine l_iinc rfl rfl rfl rfl ?_
                refine l_goto rfl rfl ?_
                have w46 : Xi U3 904 32 = Xi T1 904 32 := (show Xi U3 904 32 = Xi T1 904 32 from by rw [eU3]; exact Xi_ne (by omega))
                have w47 : 0 ≤ Xi T1 904 32 ∧ Xi T1 904 32 ≤ 12 := hHT1.c _ _
                have w48 : 0 ≤ Xi U3 904 64 ∧ Xi U3 904 64 ≤ 12 := hHU3.c _ _
                exact Rl_weak (ih10 _ (by omega) U3 hHU3 hFU3 (v3) ((v4 + 1)) (by omega) (by omega) (by omega) (by omega) (by omega) (by omega) (by omega) (by omega) (by first | (rw [show Xi U3 904 64 = 0 by omega]; split <;> rfl) | (rw [if_neg (by omega), mtN_s (by omega), if_pos ⟨by omega, by omega⟩]; have t := f10; rw [if_neg (by omega)] at t; omega) | (rw [if_neg (by omega), mtN_s (by omega), if_neg (fun q => by omega)]; have t := f10; rw [if_neg (by omega)] at t; omega)) rfl) (And.intro rfl (And.intro rfl (And.intro rfl (And.intro rfl (And.intro rfl (True.intro))))))
              · refine l_iload rfl rfl ?_
                refine l_goto rfl rfl ?_
                refine l_istore_n rfl rfl rfl ?_
                refine l_aload_n rfl rfl ?_
                refine l_dup rfl rfl ?_
                refine l_gfi rfl rfl rfl rfl rfl ?_
                refine l_iconst rfl ?_
                refine l_iadd rfl ?_
                refine l_pfi rfl rfl rfl rfl ?_
                obtain ⟨U4, eU4⟩ : ∃ T : sS, T = uI T1 904 64 (Int32.ofInt ((Xi T1 904 64) + 1)) := ⟨_, rfl⟩
                rw [← eU4]
                have hHU4 : HI U4 := by rw [eU4]; exact HI_w hHT1 (show 0 ≤ ((Xi T1 904 64) + 1) by omega) (show ((Xi T1 904 64) + 1) ≤ 12 by omega)
                have hFU4 : FR md_mo_propertyOf__2 S U4 := by rw [eU4]; exact FR.wI hFT1 (mdf_i (r := (904, 905, 64, 65)) (List.mem_of_getElem? (i := 0) rfl) (inR_i (by omega) (by omega) (by omega) (by omega)))
                have w49 : Xi U4 904 64 = ((Xi T1 904 64) + 1) := by rw [eU4]; exact Xi_same (by unfold rg; omega)
                refine l_iinc rfl rfl rfl rfl ?_
                refine l_goto rfl rfl ?_
                have w50 : Xi U4 904 32 = Xi T1 904 32 := (show Xi U4 904 32 = Xi T1 904 32 from by rw [eU4]; exact Xi_ne (by omega))
                have w51 : 0 ≤ Xi T1 904 32 ∧ Xi T1 904 32 ≤ 12 := hHT1.c _ _
                have w52 : 0 ≤ Xi U4 904 64 ∧ Xi U4 904 64 ≤ 12 := hHU4.c _ _
                exact Rl_weak (ih10 _ (by omega) U4 hHU4 hFU4 (v4) ((v4 + 1)) (by omega) (by omega) (by omega) (by omega) (by omega) (by omega) (by omega) (by omega) (by first | (rw [show Xi U4 904 64 = 0 by omega]; split <;> rfl) | (rw [if_neg (by omega), mtN_s (by omega), if_pos ⟨by omega, by omega⟩]; have t := f10; rw [if_neg (by omega)] at t; omega) | (rw [if_neg (by omega), mtN_s (by omega), if_neg (fun q => by omega)]; have t := f10; rw [if_neg (by omega)] at t; omega)) rfl) (And.intro rfl (And.intro rfl (And.intro rfl (And.intro rfl (And.intro rfl (True.intro))))))
  refine l_iconst rfl ?_
  refine l_istore_n rfl rfl rfl ?_
  refine l_aload_n rfl rfl ?_
  refine l_iconst rfl ?_
  refine l_pfi rfl rfl rfl rfl ?_
  obtain ⟨U5, eU5⟩ : ∃ T : sS, T = uI S 904 64 (Int32.ofInt 0) := ⟨_, rfl⟩
  rw [← eU5]
  have hHU5 : HI U5 := by rw [eU5]; exact HI_w hH (show 0 ≤ 0 by omega) (show 0 ≤ 12 by omega)
  have hFU5 : FR md_mo_propertyOf__2 S U5 := by rw [eU5]; exact FR.wI hF (mdf_i (r := (904, 905, 64, 65)) (List.mem_of_getElem? (i := 0) rfl) (inR_i (by omega) (by omega) (by omega) (by omega)))
  have w53 : Xi U5 904 64 = 0 := by rw [eU5]; exact Xi_same (by unfold rg; omega)
  refine l_iconst rfl ?_
  refine l_istore rfl rfl rfl ?_
  have w54 : Xi U5 904 32 = Xi S 904 32 := (show Xi U5 904 32 = Xi S 904 32 from by rw [eU5]; exact Xi_ne (by omega))
  have w56 : 0 ≤ Xi U5 904 64 ∧ Xi U5 904 64 ≤ 12 := hHU5.c _ _
  exact Rl_weak (C10 _ U5 hHU5 hFU5 ((-1)) (0) (by omega) (by omega) (by omega) (by omega) (by omega) (by omega) (by omega) (by omega) (by first | (rw [show Xi U5 904 64 = 0 by omega]; split <;> rfl) | (rw [if_neg (by omega), mtN_s (by omega), if_pos ⟨by omega, by omega⟩]; have t := f10; rw [if_neg (by omega)] at t; omega) | (rw [if_neg (by omega), mtN_s (by omega), if_neg (fun q => by omega)]; have t := f10; rw [if_neg (by omega)] at t; omega)) rfl) (And.intro rfl (And.intro rfl (And.intro rfl (And.intro rfl (And.intro rfl (True.intro))))))
def md_mo_adjective__2 : List rec := [(904, 905, 64, 65), (904, 905, 113, 114)]
abbrev Q_mo_adjective__2 (S : sS) (t : Int) (m : Int) (kind : Int) (dfd : Int) (vls : Int) : pst := fun r S1 => HI S1 ∧ FR md_mo_adjective__2 S S1 ∧ (∃ z : Int, r = some (iv z) ∧ (0 ≤ z ∧ z ≤ 12) ∧ (1 ≤ z → ADM S1 (Xi S1 904 113)) ∧ (1 ≤ z → dfd = 0 → Xi S1 904 113 < 100 → Xi S 922 (Xi S1 904 113).toNat ≠ -1) ∧ (z = adR S t m kind dfd vls))
set_option maxRecDepth 100000 in
set_option maxHeartbeats 4000000 in
theorem t_mo_adjective__2 {S : sS} (hH : HI S) (t : Int) (m : Int) (kind : Int) (dfd : Int) (vls : Int) (ht : 0 ≤ t ∧ t ≤ 5001) (hm : -2147483648 ≤ m ∧ m ≤ 2147483647) (hkind : -1 ≤ kind ∧ kind ≤ 15) (hdfd : 0 ≤ dfd ∧ dfd ≤ 1) (hvls : 0 ≤ vls ∧ vls ≤ 1) (hn : m ≤ 3 → t + m ≤ 5002) (hM : LXM S) (hB : ABV S) (hC : DCM S) (d : Nat) : Mt lay0 (d + 3) m_mo_adjective [.ref 904, iv t, iv m, iv kind, iv dfd, iv vls] S (Q_mo_adjective__2 S t m kind dfd vls) := by
  refine Mt_R rfl rfl ?_
  have hF : FR md_mo_adjective__2 S S := FR.rf
  have hc3 : 0 ≤ Xi S 904 23 ∧ Xi S 904 23 ≤ 24 := hH.c _ _
  have hc19 : 0 ≤ Xi S 904 19 ∧ Xi S 904 19 ≤ 24 := hH.c _ _
  have hc32 : 0 ≤ Xi S 904 32 ∧ Xi S 904 32 ≤ 12 := hH.c _ _
  have hc30 : 0 ≤ Xi S 904 30 ∧ Xi S 904 30 ≤ 64 := hH.c _ _
  refine l_aload_n rfl rfl ?_
  refine l_iload_n rfl rfl ?_
  refine l_iload_n rfl rfl ?_
  have w2 : 0 ≤ Xi S 904 15 ∧ Xi S 904 15 ≤ 300 := hH.c _ _
  have w3 : 0 ≤ Xi S 904 23 ∧ Xi S 904 23 ≤ 24 := hH.c _ _
  refine l_callV rfl rfl rfl (t_mo_mean__2 hH t m ⟨by omega, by omega⟩ ⟨by omega, by omega⟩ (by first | assumption | omega) _) ?_
  rintro _ _ ⟨rfl, z7, rfl, w7, w6, m3⟩
  show Rl _ _ _ _ _ [iv z7] _ _
  refine l_istore rfl rfl rfl ?_
  refine l_aload_n rfl rfl ?_
  refine l_iconst rfl ?_
  refine l_pfi rfl rfl rfl rfl ?_
  obtain ⟨U1, eU1⟩ : ∃ T : sS, T = uI S 904 113 (Int32.ofInt (-1)) := ⟨_, rfl⟩
  rw [← eU1]
  have hHU1 : HI U1 := by rw [eU1]; exact HI_w hH (show -1 ≤ (-1) by omega) (show (-1) ≤ 6411 by omega)
  have hFU1 : FR md_mo_adjective__2 S U1 := by rw [eU1]; exact FR.wI hF (mdf_i (r := (904, 905, 113, 114)) (List.mem_of_getElem? (i := 1) rfl) (inR_i (by omega) (by omega) (by omega) (by omega)))
  have w8 : Xi U1 904 113 = (-1) := by rw [eU1]; exact Xi_same (by unfold rg; omega)
  refine l_iload rfl rfl ?_
  refine l_iconst rfl ?_
  refine l_icmp_ne rfl rfl (by unfold rg; omega) (by unfold rg; omega) (fun w9 => ?_) (fun w10 => ?_)
  · refine l_aload_n rfl rfl ?_
    refine l_gfr rfl rfl rfl rfl rfl (hHU1.r 904 13 915 rfl) ?_
    refine l_iload rfl rfl ?_
    refine l_iaload (n := 300) rfl rfl (by omega) (by omega) (by unfold rg; omega) ?_
    have w11 : 0 ≤ (Xi U1 915 ((z7).toNat)) ∧ (Xi U1 915 ((z7).toNat)) ≤ 63 := hHU1.c _ _
    have M27 : LXM U1 := LXM_FR (FR_e eU1) rfl hM
    have y27 : Xi U1 904 23 = Xi S 904 23 ∧ Xi U1 904 30 = Xi S 904 30 ∧ Xi U1 904 15 = Xi S 904 15 := ⟨hFU1.x 904 23 rfl, hFU1.x 904 30 rfl, hFU1.x 904 15 rfl⟩
    have a27 : Xi U1 914 (z7).toNat = 5 → (Xi U1 915 ((z7).toNat)) < Xi S 904 23 := fun q => by have t := lxm (s := 5) M27 (k := z7) (by omega) (by omega) q; rw [cM5] at t; omega
    have b27 : Xi U1 914 (z7).toNat = 6 → (Xi U1 915 ((z7).toNat)) < Xi S 904 30 := fun q => by have t := lxm (s := 6) M27 (k := z7) (by omega) (by omega) q; rw [cM6] at t; omega
    have e27i : (Xi U1 915 ((z7).toNat)) = Xi S 915 (z7).toNat := by first | rfl | exact (hFU1.cx 915 rfl _).1
    refine l_istore rfl rfl rfl ?_
    refine l_aload_n rfl rfl ?_
    refine l_gfr rfl rfl rfl rfl rfl (hHU1.r 904 12 914 rfl) ?_
    refine l_iload rfl rfl ?_
    refine l_iaload (n := 300) rfl rfl (by omega) (by omega) (by unfold rg; omega) ?_
    have w12 : 0 ≤ (Xi U1 914 ((z7).toNat)) ∧ (Xi U1 914 ((z7).toNat)) ≤ 12 := hHU1.c _ _
    have e36 : (Xi U1 914 ((z7).toNat)) = Xi S 914 (z7).toNat := by first | rfl | exact (hFU1.cx 914 rfl _).1
    refine l_iconst rfl ?_
    refine l_icmp_ne rfl rfl (by unfold rg; omega) (by unfold rg; omega) (fun w13 => ?_) (fun w14 => ?_)
    · refine l_aload_n rfl rfl ?_
      refine l_gfr rfl rfl rfl rfl rfl (hHU1.r 904 12 914 rfl) ?_
      refine l_iload rfl rfl ?_
      refine l_iaload (n := 300) rfl rfl (by omega) (by omega) (by unfold rg; omega) ?_
      have e85 : (Xi U1 914 ((z7).toNat)) = Xi S 914 (z7).toNat := by first | rfl | exact (hFU1.cx 914 rfl _).1
      refine l_bipush rfl rfl ?_
      refine l_icmp_ne rfl rfl (by unfold rg; omega) (by unfold rg; omega) (fun w15 => ?_) (fun w16 => ?_)
      · refine l_iconst rfl ?_
        refine l_ireturn rfl rfl ?_
        have w17 : -1 ≤ Xi U1 904 113 ∧ Xi U1 904 113 ≤ 6411 := hHU1.c _ _
        have w18 : Xi U1 904 23 = Xi S 904 23 := (show Xi U1 904 23 = Xi S 904 23 from by rw [eU1]; exact Xi_ne (by omega))
        have w20 : Xi U1 904 32 = Xi S 904 32 := (show Xi U1 904 32 = Xi S 904 32 from by rw [eU1]; exact Xi_ne (by omega))
        have w21 : 0 ≤ Xi S 904 32 ∧ Xi S 904 32 ≤ 12 := hH.c _ _
        have w22 : Xi U1 904 64 = Xi S 904 64 := (show Xi U1 904 64 = Xi S 904 64 from by rw [eU1]; exact Xi_ne (by omega))
        have w23 : 0 ≤ Xi S 904 64 ∧ Xi S 904 64 ≤ 12 := hH.c _ _
        exact ⟨hHU1, hFU1, _, rfl, ⟨by omega, by omega⟩, (fun q => by first | (exfalso; omega) | exact Or.inl ⟨by omega, by omega⟩ | exact Or.inr ⟨by omega, by omega, by omega⟩), (fun q q2 q3 => by first | (exfalso; omega) | (rw [x74]; exact c67 (by omega))), (by first | (exfalso; omega) | skip; unfold adR; rw [← m3]; first | rw [if_pos (by omega)] | (rw [if_neg (by omega), if_pos ⟨by omega, by omega, by omega⟩]) | (rw [if_neg (by omega), if_neg (fun q => by omega), if_pos ⟨by omega, by omega⟩]; omega) | (rw [if_neg (by omega), if_neg (fun q => by omega), if_neg (fun q => by omega)]))⟩
      · refine l_iload rfl rfl ?_
        refine l_if_eq rfl rfl (by unfold rg; omega) (fun w24 => ?_) (fun w25 => ?_)
        · refine l_iconst rfl ?_
          refine l_ireturn rfl rfl ?_
          have w26 : -1 ≤ Xi U1 904 113 ∧ Xi U1 904 113 ≤ 6411 := hHU1.c _ _
          have w27 : Xi U1 904 23 = Xi S 904 23 := (show Xi U1 904 23 = Xi S 904 23 from by rw [eU1]; exact Xi_ne (by omega))
          have w29 : Xi U1 904 32 = Xi S 904 32 := (show Xi U1 904 32 = Xi S 904 32 from by rw [eU1]; exact Xi_ne (by omega))
          have w30 : 0 ≤ Xi S 904 32 ∧ Xi S 904 32 ≤ 12 := hH.c _ _
          have w31 : Xi U1 904 64 = Xi S 904 64 := (show Xi U1 904 64 = Xi S 904 64 from by rw [eU1]; exact Xi_ne (by omega))
          have w32 : 0 ≤ Xi S 904 64 ∧ Xi S 904 64 ≤ 12 := hH.c _ _
          exact ⟨hHU1, hFU1, _, rfl, ⟨by omega, by omega⟩, (fun q => by first | (exfalso; omega) | exact Or.inl ⟨by omega, by omega⟩ | exact Or.inr ⟨by omega, by omega, by omega⟩), (fun q q2 q3 => by first | (exfalso; omega) | (rw [x74]; exact c67 (by omega))), (by first | (exfalso; omega) | skip; unfold adR; rw [← m3]; first | rw [if_pos (by omega)] | (rw [if_neg (by omega), if_pos ⟨by omega, by omega, by omega⟩]) | (rw [if_neg (by omega), if_neg (fun q => by omega), if_pos ⟨by omega, by omega⟩]; omega) | (rw [if_neg (by omega), if_neg (fun q => by omega), if_neg (fun q => by omega)]))⟩
        · refine l_aload_n rfl rfl ?_
          refine l_iload_n rfl rfl ?_
          refine l_aload_n rfl rfl ?_
          refine l_gfr rfl rfl rfl rfl rfl (hHU1.r 904 31 927 rfl) ?_
          refine l_iload rfl rfl ?_
          refine l_iaload (n := 64) rfl rfl (by omega) (by omega) (by unfold rg; omega) ?_
          have w33 : 0 ≤ (Xi U1 927 (((Xi U1 915 ((z7).toNat))).toNat)) ∧ (Xi U1 927 (((Xi U1 915 ((z7).toNat))).toNat)) ≤ 7 := hHU1.c _ _
          have e104 : (Xi U1 927 (((Xi U1 915 ((z7).toNat))).toNat)) = Xi S 927 (Xi S 915 (z7).toNat).toNat := by rw [← e27i]; first | rfl | exact (hFU1.cx 927 rfl _).1
          have w37 : Xi U1 904 32 = Xi S 904 32 := (show Xi U1 904 32 = Xi S 904 32 from by rw [eU1]; exact Xi_ne (by omega))
          have w38 : 0 ≤ Xi S 904 32 ∧ Xi S 904 32 ≤ 12 := hH.c _ _
          have w39 : Xi U1 904 64 = Xi S 904 64 := (show Xi U1 904 64 = Xi S 904 64 from by rw [eU1]; exact Xi_ne (by omega))
          have w40 : 0 ≤ Xi S 904 64 ∧ Xi S 904 64 ≤ 12 := hH.c _ _
          refine l_callV rfl rfl rfl (t_mo_propertyOf__2 hHU1 kind (Xi U1 927 (((Xi U1 915 ((z7).toNat))).toNat)) ⟨by omega, by omega⟩ ⟨by omega, by omega⟩ (by first | assumption | exact (ABV_FR hFU1 rfl (by assumption : ABV S))) _) ?_
          rintro _ T2 ⟨hHT2, w46, z45, rfl, w45, w41, w42, w43, w44⟩
          have hFT2 : FR md_mo_adjective__2 S T2 := FR.tr hFU1 w46 rfl
          show Rl _ _ _ _ _ [iv z45] _ _
          have c105 : Xi T2 904 64 = mtR S kind (Xi S 927 (Xi S 915 (z7).toNat).toNat) := by rw [← e104]; exact (by assumption : Xi T2 904 64 = mtR U1 kind _).trans (mtR_k (fun j => (hFU1.cx 917 rfl j).1) (fun j => (hFU1.cx 929 rfl j).1) (fun j => (hFU1.cx 928 rfl j).1) (hFU1.x 904 32 rfl))
          refine l_istore rfl rfl rfl ?_
          refine l_aload_n rfl rfl ?_
          refine l_iload rfl rfl ?_
          refine l_iconst rfl ?_
          refine l_icmp_ne rfl rfl (by unfold rg; omega) (by unfold rg; omega) (fun w47 => ?_) (fun w48 => ?_)
          · refine l_bipush rfl rfl ?_
            refine l_bipush rfl rfl ?_
            refine l_iload rfl rfl ?_
            refine l_imul rfl ?_
            refine l_iadd rfl ?_
            refine l_iload rfl rfl ?_
            refine l_iadd rfl ?_
            refine l_pfi rfl rfl rfl rfl ?_
            obtain ⟨U3, eU3⟩ : ∃ T : sS, T = uI T2 904 113 (Int32.ofInt ((100 + (100 * (Xi U1 915 ((z7).toNat)))) + z45)) := ⟨_, rfl⟩
            rw [← eU3]
            have hHU3 : HI U3 := by rw [eU3]; exact HI_w hHT2 (show -1 ≤ ((100 + (100 * (Xi U1 915 ((z7).toNat)))) + z45) by omega) (show ((100 + (100 * (Xi U1 915 ((z7).toNat)))) + z45) ≤ 6411 by omega)
            have hFU3 : FR md_mo_adjective__2 S U3 := by rw [eU3]; exact FR.wI hFT2 (mdf_i (r := (904, 905, 113, 114)) (List.mem_of_getElem? (i := 1) rfl) (inR_i (by omega) (by omega) (by omega) (by omega)))
            have w49 : Xi U3 904 113 = ((100 + (100 * (Xi U1 915 ((z7).toNat)))) + z45) := by rw [eU3]; exact Xi_same (by unfold rg; omega)
            have z132 : Xi U3 904 32 = Xi S 904 32 := hFU3.x 904 32 rfl
            have v132 : Xi U3 904 64 = Xi T2 904 64 := by rw [eU3, Xi_ne (by omega)]
            refine l_aload_n rfl rfl ?_
            refine l_gfi rfl rfl rfl rfl rfl ?_
            have w50 : 0 ≤ (Xi U3 904 64) ∧ (Xi U3 904 64) ≤ 12 := hHU3.c _ _
            refine l_ireturn rfl rfl ?_
            have w51 : -1 ≤ Xi U3 904 113 ∧ Xi U3 904 113 ≤ 6411 := hHU3.c _ _
            have w52 : Xi U3 904 23 = Xi S 904 23 := (show Xi U3 904 23 = Xi T2 904 23 from by rw [eU3]; exact Xi_ne (by omega)).trans ( (show Xi T2 904 23 = Xi U1 904 23 from w46.x _ _ rfl).trans ((show Xi U1 904 23 = Xi S 904 23 from by rw [eU1]; exact Xi_ne (by omega))))
            have w54 : Xi U3 904 32 = Xi S 904 32 := (show Xi U3 904 32 = Xi T2 904 32 from by rw [eU3]; exact Xi_ne (by omega)).trans ( (show Xi T2 904 32 = Xi U1 904 32 from w46.x _ _ rfl).trans ((show Xi U1 904 32 = Xi S 904 32 from by rw [eU1]; exact Xi_ne (by omega))))
            have w56 : Xi U3 904 64 = Xi T2 904 64 := (show Xi U3 904 64 = Xi T2 904 64 from by rw [eU3]; exact Xi_ne (by omega))
            have w57 : 0 ≤ Xi T2 904 64 ∧ Xi T2 904 64 ≤ 12 := hHT2.c _ _
            exact ⟨hHU3, hFU3, _, rfl, ⟨by omega, by omega⟩, (fun q => by first | (exfalso; omega) | exact Or.inl ⟨by omega, by omega⟩ | exact Or.inr ⟨by omega, by omega, by omega⟩), (fun q q2 q3 => by first | (exfalso; omega) | (rw [x74]; exact c67 (by omega))), (by first | (exfalso; omega) | skip; unfold adR; rw [← m3]; first | rw [if_pos (by omega)] | (rw [if_neg (by omega), if_pos ⟨by omega, by omega, by omega⟩]) | (rw [if_neg (by omega), if_neg (fun q => by omega), if_pos ⟨by omega, by omega⟩]; omega) | (rw [if_neg (by omega), if_neg (fun q => by omega), if_neg (fun q => by omega)]))⟩
          · refine l_iconst rfl ?_
            refine l_goto rfl rfl ?_
            refine l_pfi rfl rfl rfl rfl ?_
            obtain ⟨U4, eU4⟩ : ∃ T : sS, T = uI T2 904 113 (Int32.ofInt (-1)) := ⟨_, rfl⟩
            rw [← eU4]
            have hHU4 : HI U4 := by rw [eU4]; exact HI_w hHT2 (show -1 ≤ (-1) by omega) (show (-1) ≤ 6411 by omega)
            have hFU4 : FR md_mo_adjective__2 S U4 := by rw [eU4]; exact FR.wI hFT2 (mdf_i (r := (904, 905, 113, 114)) (List.mem_of_getElem? (i := 1) rfl) (inR_i (by omega) (by omega) (by omega) (by omega)))
            have w58 : Xi U4 904 113 = (-1) := by rw [eU4]; exact Xi_same (by unfold rg; omega)
            have z132 : Xi U4 904 32 = Xi S 904 32 := hFU4.x 904 32 rfl
            have v132 : Xi U4 904 64 = Xi T2 904 64 := by rw [eU4, Xi_ne (by omega)]
            refine l_aload_n rfl rfl ?_
            refine l_gfi rfl rfl rfl rfl rfl ?_
            have w59 : 0 ≤ (Xi U4 904 64) ∧ (Xi U4 904 64) ≤ 12 := hHU4.c _ _
            refine l_ireturn rfl rfl ?_
            have w60 : -1 ≤ Xi U4 904 113 ∧ Xi U4 904 113 ≤ 6411 := hHU4.c _ _
            have w61 : Xi U4 904 23 = Xi S 904 23 := (show Xi U4 904 23 = Xi T2 904 23 from by rw [eU4]; exact Xi_ne (by omega)).trans ( (show Xi T2 904 23 = Xi U1 904 23 from w46.x _ _ rfl).trans ((show Xi U1 904 23 = Xi S 904 23 from by rw [eU1]; exact Xi_ne (by omega))))
            have w63 : Xi U4 904 32 = Xi S 904 32 := (show Xi U4 904 32 = Xi T2 904 32 from by rw [eU4]; exact Xi_ne (by omega)).trans ( (show Xi T2 904 32 = Xi U1 904 32 from w46.x _ _ rfl).trans ((show Xi U1 904 32 = Xi S 904 32 from by rw [eU1]; exact Xi_ne (by omega))))
            have w65 : Xi U4 904 64 = Xi T2 904 64 := (show Xi U4 904 64 = Xi T2 904 64 from by rw [eU4]; exact Xi_ne (by omega))
            have w66 : 0 ≤ Xi T2 904 64 ∧ Xi T2 904 64 ≤ 12 := hHT2.c _ _
            exact ⟨hHU4, hFU4, _, rfl, ⟨by omega, by omega⟩, (fun q => by first | (exfalso; omega) | exact Or.inl ⟨by omega, by omega⟩ | exact Or.inr ⟨by omega, by omega, by omega⟩), (fun q q2 q3 => by first | (exfalso; omega) | (rw [x74]; exact c67 (by omega))), (by first | (exfalso; omega) | skip; unfold adR; rw [← m3]; first | rw [if_pos (by omega)] | (rw [if_neg (by omega), if_pos ⟨by omega, by omega, by omega⟩]) | (rw [if_neg (by omega), if_neg (fun q => by omega), if_pos ⟨by omega, by omega⟩]; omega) | (rw [if_neg (by omega), if_neg (fun q => by omega), if_neg (fun q => by omega)]))⟩
    · refine l_aload_n rfl rfl ?_
      refine l_iload_n rfl rfl ?_
      refine l_aload_n rfl rfl ?_
      refine l_gfr rfl rfl rfl rfl rfl (hHU1.r 904 24 921 rfl) ?_
      refine l_iload rfl rfl ?_
      refine l_iaload (n := 24) rfl rfl (by omega) (by omega) (by unfold rg; omega) ?_
      have w67 : 0 ≤ (Xi U1 921 (((Xi U1 915 ((z7).toNat))).toNat)) ∧ (Xi U1 921 (((Xi U1 915 ((z7).toNat))).toNat)) ≤ 15 := hHU1.c _ _
      have e49 : (Xi U1 921 (((Xi U1 915 ((z7).toNat))).toNat)) = Xi S 921 (Xi S 915 (z7).toNat).toNat := by rw [← e27i]; first | rfl | exact (hFU1.cx 921 rfl _).1
      refine l_callV rfl rfl rfl (t_mo_isBelow__2 hHU1 kind (Xi U1 921 (((Xi U1 915 ((z7).toNat))).toNat)) ⟨by omega, by omega⟩ ⟨by omega, by omega⟩ (by first | assumption | exact (ABV_FR hFU1 rfl (by assumption : ABV S))) _) ?_
      rintro _ _ ⟨rfl, z77, rfl, w77, w75, w76⟩
      show Rl _ _ _ _ _ [iv z77] _ _
      have b50 : z77 = blR S kind (Xi S 921 (Xi S 915 (z7).toNat).toNat) := by rw [← e49]; exact (by assumption : z77 = blR U1 kind _).trans (blN_k (fun j => (hFU1.cx 917 rfl j).1) 17 kind)
      refine l_if_eq rfl rfl (by unfold rg; omega) (fun w78 => ?_) (fun w79 => ?_)
      · refine l_aload_n rfl rfl ?_
        refine l_gfr rfl rfl rfl rfl rfl (hHU1.r 904 12 914 rfl) ?_
        refine l_iload rfl rfl ?_
        refine l_iaload (n := 300) rfl rfl (by omega) (by omega) (by unfold rg; omega) ?_
        have e85 : (Xi U1 914 ((z7).toNat)) = Xi S 914 (z7).toNat := by first | rfl | exact (hFU1.cx 914 rfl _).1
        refine l_bipush rfl rfl ?_
        refine l_icmp_ne rfl rfl (by unfold rg; omega) (by unfold rg; omega) (fun w80 => ?_) (fun w81 => ?_)
        · refine l_iconst rfl ?_
          refine l_ireturn rfl rfl ?_
          have w82 : -1 ≤ Xi U1 904 113 ∧ Xi U1 904 113 ≤ 6411 := hHU1.c _ _
          have w83 : Xi U1 904 23 = Xi S 904 23 := (show Xi U1 904 23 = Xi S 904 23 from by rw [eU1]; exact Xi_ne (by omega))
          have w85 : Xi U1 904 32 = Xi S 904 32 := (show Xi U1 904 32 = Xi S 904 32 from by rw [eU1]; exact Xi_ne (by omega))
          have w86 : 0 ≤ Xi S 904 32 ∧ Xi S 904 32 ≤ 12 := hH.c _ _
          have w87 : Xi U1 904 64 = Xi S 904 64 := (show Xi U1 904 64 = Xi S 904 64 from by rw [eU1]; exact Xi_ne (by omega))
          have w88 : 0 ≤ Xi S 904 64 ∧ Xi S 904 64 ≤ 12 := hH.c _ _
          exact ⟨hHU1, hFU1, _, rfl, ⟨by omega, by omega⟩, (fun q => by first | (exfalso; omega) | exact Or.inl ⟨by omega, by omega⟩ | exact Or.inr ⟨by omega, by omega, by omega⟩), (fun q q2 q3 => by first | (exfalso; omega) | (rw [x74]; exact c67 (by omega))), (by first | (exfalso; omega) | skip; unfold adR; rw [← m3]; first | rw [if_pos (by omega)] | (rw [if_neg (by omega), if_pos ⟨by omega, by omega, by omega⟩]) | (rw [if_neg (by omega), if_neg (fun q => by omega), if_pos ⟨by omega, by omega⟩]; omega) | (rw [if_neg (by omega), if_neg (fun q => by omega), if_neg (fun q => by omega)]))⟩
        · refine l_iload rfl rfl ?_
          refine l_if_eq rfl rfl (by unfold rg; omega) (fun w89 => ?_) (fun w90 => ?_)
          · refine l_iconst rfl ?_
            refine l_ireturn rfl rfl ?_
            have w91 : -1 ≤ Xi U1 904 113 ∧ Xi U1 904 113 ≤ 6411 := hHU1.c _ _
            have w92 : Xi U1 904 23 = Xi S 904 23 := (show Xi U1 904 23 = Xi S 904 23 from by rw [eU1]; exact Xi_ne (by omega))
            have w94 : Xi U1 904 32 = Xi S 904 32 := (show Xi U1 904 32 = Xi S 904 32 from by rw [eU1]; exact Xi_ne (by omega))
            have w95 : 0 ≤ Xi S 904 32 ∧ Xi S 904 32 ≤ 12 := hH.c _ _
            have w96 : Xi U1 904 64 = Xi S 904 64 := (show Xi U1 904 64 = Xi S 904 64 from by rw [eU1]; exact Xi_ne (by omega))
            have w97 : 0 ≤ Xi S 904 64 ∧ Xi S 904 64 ≤ 12 := hH.c _ _
            exact ⟨hHU1, hFU1, _, rfl, ⟨by omega, by omega⟩, (fun q => by first | (exfalso; omega) | exact Or.inl ⟨by omega, by omega⟩ | exact Or.inr ⟨by omega, by omega, by omega⟩), (fun q q2 q3 => by first | (exfalso; omega) | (rw [x74]; exact c67 (by omega))), (by first | (exfalso; omega) | skip; unfold adR; rw [← m3]; first | rw [if_pos (by omega)] | (rw [if_neg (by omega), if_pos ⟨by omega, by omega, by omega⟩]) | (rw [if_neg (by omega), if_neg (fun q => by omega), if_pos ⟨by omega, by omega⟩]; omega) | (rw [if_neg (by omega), if_neg (fun q => by omega), if_neg (fun q => by omega)]))⟩
          · refine l_aload_n rfl rfl ?_
            refine l_iload_n rfl rfl ?_
            refine l_aload_n rfl rfl ?_
            refine l_gfr rfl rfl rfl rfl rfl (hHU1.r 904 31 927 rfl) ?_
            refine l_iload rfl rfl ?_
            refine l_iaload (n := 64) rfl rfl (by omega) (by omega) (by unfold rg; omega) ?_
            have w98 : 0 ≤ (Xi U1 927 (((Xi U1 915 ((z7).toNat))).toNat)) ∧ (Xi U1 927 (((Xi U1 915 ((z7).toNat))).toNat)) ≤ 7 := hHU1.c _ _
            have e104 : (Xi U1 927 (((Xi U1 915 ((z7).toNat))).toNat)) = Xi S 927 (Xi S 915 (z7).toNat).toNat := by rw [← e27i]; first | rfl | exact (hFU1.cx 927 rfl _).1
            have w102 : Xi U1 904 32 = Xi S 904 32 := (show Xi U1 904 32 = Xi S 904 32 from by rw [eU1]; exact Xi_ne (by omega))
            have w103 : 0 ≤ Xi S 904 32 ∧ Xi S 904 32 ≤ 12 := hH.c _ _
            have w104 : Xi U1 904 64 = Xi S 904 64 := (show Xi U1 904 64 = Xi S 904 64 from by rw [eU1]; exact Xi_ne (by omega))
            have w105 : 0 ≤ Xi S 904 64 ∧ Xi S 904 64 ≤ 12 := hH.c _ _
            refine l_callV rfl rfl rfl (t_mo_propertyOf__2 hHU1 kind (Xi U1 927 (((Xi U1 915 ((z7).toNat))).toNat)) ⟨by omega, by omega⟩ ⟨by omega, by omega⟩ (by first | assumption | exact (ABV_FR hFU1 rfl (by assumption : ABV S))) _) ?_
            rintro _ T5 ⟨hHT5, w111, z110, rfl, w110, w106, w107, w108, w109⟩
            have hFT5 : FR md_mo_adjective__2 S T5 := FR.tr hFU1 w111 rfl
            show Rl _ _ _ _ _ [iv z110] _ _
            have c105 : Xi T5 904 64 = mtR S kind (Xi S 927 (Xi S 915 (z7).toNat).toNat) := by rw [← e104]; exact (by assumption : Xi T5 904 64 = mtR U1 kind _).trans (mtR_k (fun j => (hFU1.cx 917 rfl j).1) (fun j => (hFU1.cx 929 rfl j).1) (fun j => (hFU1.cx 928 rfl j).1) (hFU1.x 904 32 rfl))
            refine l_istore rfl rfl rfl ?_
            refine l_aload_n rfl rfl ?_
            refine l_iload rfl rfl ?_
            refine l_iconst rfl ?_
            refine l_icmp_ne rfl rfl (by unfold rg; omega) (by unfold rg; omega) (fun w112 => ?_) (fun w113 => ?_)
            · refine l_bipush rfl rfl ?_
              refine l_bipush rfl rfl ?_
              refine l_iload rfl rfl ?_
              refine l_imul rfl ?_
              refine l_iadd rfl ?_
              refine l_iload rfl rfl ?_
              refine l_iadd rfl ?_
              refine l_pfi rfl rfl rfl rfl ?_
              obtain ⟨U6, eU6⟩ : ∃ T : sS, T = uI T5 904 113 (Int32.ofInt ((100 + (100 * (Xi U1 915 ((z7).toNat)))) + z110)) := ⟨_, rfl⟩
              rw [← eU6]
              have hHU6 : HI U6 := by rw [eU6]; exact HI_w hHT5 (show -1 ≤ ((100 + (100 * (Xi U1 915 ((z7).toNat)))) + z110) by omega) (show ((100 + (100 * (Xi U1 915 ((z7).toNat)))) + z110) ≤ 6411 by omega)
              have hFU6 : FR md_mo_adjective__2 S U6 := by rw [eU6]; exact FR.wI hFT5 (mdf_i (r := (904, 905, 113, 114)) (List.mem_of_getElem? (i := 1) rfl) (inR_i (by omega) (by omega) (by omega) (by omega)))
              have w114 : Xi U6 904 113 = ((100 + (100 * (Xi U1 915 ((z7).toNat)))) + z110) := by rw [eU6]; exact Xi_same (by unfold rg; omega)
              have z132 : Xi U6 904 32 = Xi S 904 32 := hFU6.x 904 32 rfl
              have v132 : Xi U6 904 64 = Xi T5 904 64 := by rw [eU6, Xi_ne (by omega)]
              refine l_aload_n rfl rfl ?_
              refine l_gfi rfl rfl rfl rfl rfl ?_
              have w115 : 0 ≤ (Xi U6 904 64) ∧ (Xi U6 904 64) ≤ 12 := hHU6.c _ _
              refine l_ireturn rfl rfl ?_
              have w116 : -1 ≤ Xi U6 904 113 ∧ Xi U6 904 113 ≤ 6411 := hHU6.c _ _
              have w117 : Xi U6 904 23 = Xi S 904 23 := (show Xi U6 904 23 = Xi T5 904 23 from by rw [eU6]; exact Xi_ne (by omega)).trans ( (show Xi T5 904 23 = Xi U1 904 23 from w111.x _ _ rfl).trans ((show Xi U1 904 23 = Xi S 904 23 from by rw [eU1]; exact Xi_ne (by omega))))
              have w119 : Xi U6 904 32 = Xi S 904 32 := (show Xi U6 904 32 = Xi T5 904 32 from by rw [eU6]; exact Xi_ne (by omega)).trans ( (show Xi T5 904 32 = Xi U1 904 32 from w111.x _ _ rfl).trans ((show Xi U1 904 32 = Xi S 904 32 from by rw [eU1]; exact Xi_ne (by omega))))
              have w121 : Xi U6 904 64 = Xi T5 904 64 := (show Xi U6 904 64 = Xi T5 904 64 from by rw [eU6]; exact Xi_ne (by omega))
              have w122 : 0 ≤ Xi T5 904 64 ∧ Xi T5 904 64 ≤ 12 := hHT5.c _ _
              exact ⟨hHU6, hFU6, _, rfl, ⟨by omega, by omega⟩, (fun q => by first | (exfalso; omega) | exact Or.inl ⟨by omega, by omega⟩ | exact Or.inr ⟨by omega, by omega, by omega⟩), (fun q q2 q3 => by first | (exfalso; omega) | (rw [x74]; exact c67 (by omega))), (by first | (exfalso; omega) | skip; unfold adR; rw [← m3]; first | rw [if_pos (by omega)] | (rw [if_neg (by omega), if_pos ⟨by omega, by omega, by omega⟩]) | (rw [if_neg (by omega), if_neg (fun q => by omega), if_pos ⟨by omega, by omega⟩]; omega) | (rw [if_neg (by omega), if_neg (fun q => by omega), if_neg (fun q => by omega)]))⟩
            · refine l_iconst rfl ?_
              refine l_goto rfl rfl ?_
              refine l_pfi rfl rfl rfl rfl ?_
              obtain ⟨U7, eU7⟩ : ∃ T : sS, T = uI T5 904 113 (Int32.ofInt (-1)) := ⟨_, rfl⟩
              rw [← eU7]
              have hHU7 : HI U7 := by rw [eU7]; exact HI_w hHT5 (show -1 ≤ (-1) by omega) (show (-1) ≤ 6411 by omega)
              have hFU7 : FR md_mo_adjective__2 S U7 := by rw [eU7]; exact FR.wI hFT5 (mdf_i (r := (904, 905, 113, 114)) (List.mem_of_getElem? (i := 1) rfl) (inR_i (by omega) (by omega) (by omega) (by omega)))
              have w123 : Xi U7 904 113 = (-1) := by rw [eU7]; exact Xi_same (by unfold rg; omega)
              have z132 : Xi U7 904 32 = Xi S 904 32 := hFU7.x 904 32 rfl
              have v132 : Xi U7 904 64 = Xi T5 904 64 := by rw [eU7, Xi_ne (by omega)]
              refine l_aload_n rfl rfl ?_
              refine l_gfi rfl rfl rfl rfl rfl ?_
              have w124 : 0 ≤ (Xi U7 904 64) ∧ (Xi U7 904 64) ≤ 12 := hHU7.c _ _
              refine l_ireturn rfl rfl ?_
              have w125 : -1 ≤ Xi U7 904 113 ∧ Xi U7 904 113 ≤ 6411 := hHU7.c _ _
              have w126 : Xi U7 904 23 = Xi S 904 23 := (show Xi U7 904 23 = Xi T5 904 23 from by rw [eU7]; exact Xi_ne (by omega)).trans ( (show Xi T5 904 23 = Xi U1 904 23 from w111.x _ _ rfl).trans ((show Xi U1 904 23 = Xi S 904 23 from by rw [eU1]; exact Xi_ne (by omega))))
              have w128 : Xi U7 904 32 = Xi S 904 32 := (show Xi U7 904 32 = Xi T5 904 32 from by rw [eU7]; exact Xi_ne (by omega)).trans ( (show Xi T5 904 32 = Xi U1 904 32 from w111.x _ _ rfl).trans ((show Xi U1 904 32 = Xi S 904 32 from by rw [eU1]; exact Xi_ne (by omega))))
              have w130 : Xi U7 904 64 = Xi T5 904 64 := (show Xi U7 904 64 = Xi T5 904 64 from by rw [eU7]; exact Xi_ne (by omega))
              have w131 : 0 ≤ Xi T5 904 64 ∧ Xi T5 904 64 ≤ 12 := hHT5.c _ _
              exact ⟨hHU7, hFU7, _, rfl, ⟨by omega, by omega⟩, (fun q => by first | (exfalso; omega) | exact Or.inl ⟨by omega, by omega⟩ | exact Or.inr ⟨by omega, by omega, by omega⟩), (fun q q2 q3 => by first | (exfalso; omega) | (rw [x74]; exact c67 (by omega))), (by first | (exfalso; omega) | skip; unfold adR; rw [← m3]; first | rw [if_pos (by omega)] | (rw [if_neg (by omega), if_pos ⟨by omega, by omega, by omega⟩]) | (rw [if_neg (by omega), if_neg (fun q => by omega), if_pos ⟨by omega, by omega⟩]; omega) | (rw [if_neg (by omega), if_neg (fun q => by omega), if_neg (fun q => by omega)]))⟩
      · refine l_iload rfl rfl ?_
        refine l_if_ne rfl rfl (by unfold rg; omega) (fun w132 => ?_) (fun w133 => ?_)
        · refine l_aload_n rfl rfl ?_
          refine l_iload rfl rfl ?_
          refine l_pfi rfl rfl rfl rfl ?_
          obtain ⟨U8, eU8⟩ : ∃ T : sS, T = uI U1 904 113 (Int32.ofInt (Xi U1 915 ((z7).toNat))) := ⟨_, rfl⟩
          rw [← eU8]
          have hHU8 : HI U8 := by rw [eU8]; exact HI_w hHU1 (show -1 ≤ (Xi U1 915 ((z7).toNat)) by omega) (show (Xi U1 915 ((z7).toNat)) ≤ 6411 by omega)
          have hFU8 : FR md_mo_adjective__2 S U8 := by rw [eU8]; exact FR.wI hFU1 (mdf_i (r := (904, 905, 113, 114)) (List.mem_of_getElem? (i := 1) rfl) (inR_i (by omega) (by omega) (by omega) (by omega)))
          have w134 : Xi U8 904 113 = (Xi U1 915 ((z7).toNat)) := by rw [eU8]; exact Xi_same (by unfold rg; omega)
          have x74 : Xi U8 904 113 = (Xi U1 915 ((z7).toNat)) := by omega
          have z74 : Xi U8 904 23 = Xi S 904 23 := hFU8.x 904 23 rfl
          refine l_iconst rfl ?_
          refine l_ireturn rfl rfl ?_
          have w135 : -1 ≤ Xi U8 904 113 ∧ Xi U8 904 113 ≤ 6411 := hHU8.c _ _
          have w136 : Xi U8 904 23 = Xi S 904 23 := (show Xi U8 904 23 = Xi U1 904 23 from by rw [eU8]; exact Xi_ne (by omega)).trans ((show Xi U1 904 23 = Xi S 904 23 from by rw [eU1]; exact Xi_ne (by omega)))
          have w138 : Xi U8 904 32 = Xi S 904 32 := (show Xi U8 904 32 = Xi U1 904 32 from by rw [eU8]; exact Xi_ne (by omega)).trans ((show Xi U1 904 32 = Xi S 904 32 from by rw [eU1]; exact Xi_ne (by omega)))
          have w139 : 0 ≤ Xi S 904 32 ∧ Xi S 904 32 ≤ 12 := hH.c _ _
          have w140 : Xi U8 904 64 = Xi S 904 64 := (show Xi U8 904 64 = Xi U1 904 64 from by rw [eU8]; exact Xi_ne (by omega)).trans ((show Xi U1 904 64 = Xi S 904 64 from by rw [eU1]; exact Xi_ne (by omega)))
          have w141 : 0 ≤ Xi S 904 64 ∧ Xi S 904 64 ≤ 12 := hH.c _ _
          exact ⟨hHU8, hFU8, _, rfl, ⟨by omega, by omega⟩, (fun q => by first | (exfalso; omega) | exact Or.inl ⟨by omega, by omega⟩ | exact Or.inr ⟨by omega, by omega, by omega⟩), (fun q q2 q3 => by first | (exfalso; omega) | (rw [x74]; exact c67 (by omega))), (by first | (exfalso; omega) | skip; unfold adR; rw [← m3]; first | rw [if_pos (by omega)] | (rw [if_neg (by omega), if_pos ⟨by omega, by omega, by omega⟩]) | (rw [if_neg (by omega), if_neg (fun q => by omega), if_pos ⟨by omega, by omega⟩]; omega) | (rw [if_neg (by omega), if_neg (fun q => by omega), if_neg (fun q => by omega)]))⟩
        · refine l_aload_n rfl rfl ?_
          refine l_gfr rfl rfl rfl rfl rfl (hHU1.r 904 27 924 rfl) ?_
          refine l_iload rfl rfl ?_
          refine l_iaload (n := 24) rfl rfl (by omega) (by omega) (by unfold rg; omega) ?_
          have w142 : 0 ≤ (Xi U1 924 (((Xi U1 915 ((z7).toNat))).toNat)) ∧ (Xi U1 924 (((Xi U1 915 ((z7).toNat))).toNat)) ≤ 6 := hHU1.c _ _
          have d67 : (Xi U1 924 (((Xi U1 915 ((z7).toNat))).toNat)) = Xi S 924 ((Xi U1 915 ((z7).toNat))).toNat := by first | rfl | exact (hFU1.cx 924 rfl _).1
          have c67 : (Xi U1 924 (((Xi U1 915 ((z7).toNat))).toNat)) = 0 → Xi S 922 ((Xi U1 915 ((z7).toNat))).toNat ≠ -1 := fun q => hC ((Xi U1 915 ((z7).toNat))).toNat (by omega) (by omega)
          have d67b : (Xi U1 924 (((Xi U1 915 ((z7).toNat))).toNat)) = Xi S 924 (Xi S 915 (z7).toNat).toNat := by rw [← e27i]; exact d67
          refine l_if_ne rfl rfl (by unfold rg; omega) (fun w143 => ?_) (fun w144 => ?_)
          · refine l_aload_n rfl rfl ?_
            refine l_gfr rfl rfl rfl rfl rfl (hHU1.r 904 12 914 rfl) ?_
            refine l_iload rfl rfl ?_
            refine l_iaload (n := 300) rfl rfl (by omega) (by omega) (by unfold rg; omega) ?_
            have e85 : (Xi U1 914 ((z7).toNat)) = Xi S 914 (z7).toNat := by first | rfl | exact (hFU1.cx 914 rfl _).1
            refine l_bipush rfl rfl ?_
            refine l_icmp_ne rfl rfl (by unfold rg; omega) (by unfold rg; omega) (fun w145 => ?_) (fun w146 => ?_)
            · refine l_iconst rfl ?_
              refine l_ireturn rfl rfl ?_
              have w147 : -1 ≤ Xi U1 904 113 ∧ Xi U1 904 113 ≤ 6411 := hHU1.c _ _
              have w148 : Xi U1 904 23 = Xi S 904 23 := (show Xi U1 904 23 = Xi S 904 23 from by rw [eU1]; exact Xi_ne (by omega))
              have w150 : Xi U1 904 32 = Xi S 904 32 := (show Xi U1 904 32 = Xi S 904 32 from by rw [eU1]; exact Xi_ne (by omega))
              have w151 : 0 ≤ Xi S 904 32 ∧ Xi S 904 32 ≤ 12 := hH.c _ _
              have w152 : Xi U1 904 64 = Xi S 904 64 := (show Xi U1 904 64 = Xi S 904 64 from by rw [eU1]; exact Xi_ne (by omega))
              have w153 : 0 ≤ Xi S 904 64 ∧ Xi S 904 64 ≤ 12 := hH.c _ _
              exact ⟨hHU1, hFU1, _, rfl, ⟨by omega, by omega⟩, (fun q => by first | (exfalso; omega) | exact Or.inl ⟨by omega, by omega⟩ | exact Or.inr ⟨by omega, by omega, by omega⟩), (fun q q2 q3 => by first | (exfalso; omega) | (rw [x74]; exact c67 (by omega))), (by first | (exfalso; omega) | skip; unfold adR; rw [← m3]; first | rw [if_pos (by omega)] | (rw [if_neg (by omega), if_pos ⟨by omega, by omega, by omega⟩]) | (rw [if_neg (by omega), if_neg (fun q => by omega), if_pos ⟨by omega, by omega⟩]; omega) | (rw [if_neg (by omega), if_neg (fun q => by omega), if_neg (fun q => by omega)]))⟩
            · refine l_iload rfl rfl ?_
              refine l_if_eq rfl rfl (by unfold rg; omega) (fun w154 => ?_) (fun w155 => ?_)
              · refine l_iconst rfl ?_
                refine l_ireturn rfl rfl ?_
                have w156 : -1 ≤ Xi U1 904 113 ∧ Xi U1 904 113 ≤ 6411 := hHU1.c _ _
                have w157 : Xi U1 904 23 = Xi S 904 23 := (show Xi U1 904 23 = Xi S 904 23 from by rw [eU1]; exact Xi_ne (by omega))
                have w159 : Xi U1 904 32 = Xi S 904 32 := (show Xi U1 904 32 = Xi S 904 32 from by rw [eU1]; exact Xi_ne (by omega))
                have w160 : 0 ≤ Xi S 904 32 ∧ Xi S 904 32 ≤ 12 := hH.c _ _
                have w161 : Xi U1 904 64 = Xi S 904 64 := (show Xi U1 904 64 = Xi S 904 64 from by rw [eU1]; exact Xi_ne (by omega))
                have w162 : 0 ≤ Xi S 904 64 ∧ Xi S 904 64 ≤ 12 := hH.c _ _
                exact ⟨hHU1, hFU1, _, rfl, ⟨by omega, by omega⟩, (fun q => by first | (exfalso; omega) | exact Or.inl ⟨by omega, by omega⟩ | exact Or.inr ⟨by omega, by omega, by omega⟩), (fun q q2 q3 => by first | (exfalso; omega) | (rw [x74]; exact c67 (by omega))), (by first | (exfalso; omega) | skip; unfold adR; rw [← m3]; first | rw [if_pos (by omega)] | (rw [if_neg (by omega), if_pos ⟨by omega, by omega, by omega⟩]) | (rw [if_neg (by omega), if_neg (fun q => by omega), if_pos ⟨by omega, by omega⟩]; omega) | (rw [if_neg (by omega), if_neg (fun q => by omega), if_neg (fun q => by omega)]))⟩
              · refine l_aload_n rfl rfl ?_
                refine l_iload_n rfl rfl ?_
                refine l_aload_n rfl rfl ?_
                refine l_gfr rfl rfl rfl rfl rfl (hHU1.r 904 31 927 rfl) ?_
                refine l_iload rfl rfl ?_
                refine l_iaload (n := 64) rfl rfl (by omega) (by omega) (by unfold rg; omega) ?_
                have w163 : 0 ≤ (Xi U1 927 (((Xi U1 915 ((z7).toNat))).toNat)) ∧ (Xi U1 927 (((Xi U1 915 ((z7).toNat))).toNat)) ≤ 7 := hHU1.c _ _
                have e104 : (Xi U1 927 (((Xi U1 915 ((z7).toNat))).toNat)) = Xi S 927 (Xi S 915 (z7).toNat).toNat := by rw [← e27i]; first | rfl | exact (hFU1.cx 927 rfl _).1
                have w167 : Xi U1 904 32 = Xi S 904 32 := (show Xi U1 904 32 = Xi S 904 32 from by rw [eU1]; exact Xi_ne (by omega))
                have w168 : 0 ≤ Xi S 904 32 ∧ Xi S 904 32 ≤ 12 := hH.c _ _
                have w169 : Xi U1 904 64 = Xi S 904 64 := (show Xi U1 904 64 = Xi S 904 64 from by rw [eU1]; exact Xi_ne (by omega))
                have w170 : 0 ≤ Xi S 904 64 ∧ Xi S 904 64 ≤ 12 := hH.c _ _
                refine l_callV rfl rfl rfl (t_mo_propertyOf__2 hHU1 kind (Xi U1 927 (((Xi U1 915 ((z7).toNat))).toNat)) ⟨by omega, by omega⟩ ⟨by omega, by omega⟩ (by first | assumption | exact (ABV_FR hFU1 rfl (by assumption : ABV S))) _) ?_
                rintro _ T9 ⟨hHT9, w176, z175, rfl, w175, w171, w172, w173, w174⟩
                have hFT9 : FR md_mo_adjective__2 S T9 := FR.tr hFU1 w176 rfl
                show Rl _ _ _ _ _ [iv z175] _ _
                have c105 : Xi T9 904 64 = mtR S kind (Xi S 927 (Xi S 915 (z7).toNat).toNat) := by rw [← e104]; exact (by assumption : Xi T9 904 64 = mtR U1 kind _).trans (mtR_k (fun j => (hFU1.cx 917 rfl j).1) (fun j => (hFU1.cx 929 rfl j).1) (fun j => (hFU1.cx 928 rfl j).1) (hFU1.x 904 32 rfl))
                refine l_istore rfl rfl rfl ?_
                refine l_aload_n rfl rfl ?_
                refine l_iload rfl rfl ?_
                refine l_iconst rfl ?_
                refine l_icmp_ne rfl rfl (by unfold rg; omega) (by unfold rg; omega) (fun w177 => ?_) (fun w178 => ?_)
                · refine l_bipush rfl rfl ?_
                  refine l_bipush rfl rfl ?_
                  refine l_iload rfl rfl ?_
                  refine l_imul rfl ?_
                  refine l_iadd rfl ?_
                  refine l_iload rfl rfl ?_
                  refine l_iadd rfl ?_
                  refine l_pfi rfl rfl rfl rfl ?_
                  obtain ⟨U10, eU10⟩ : ∃ T : sS, T = uI T9 904 113 (Int32.ofInt ((100 + (100 * (Xi U1 915 ((z7).toNat)))) + z175)) := ⟨_, rfl⟩
                  rw [← eU10]
                  have hHU10 : HI U10 := by rw [eU10]; exact HI_w hHT9 (show -1 ≤ ((100 + (100 * (Xi U1 915 ((z7).toNat)))) + z175) by omega) (show ((100 + (100 * (Xi U1 915 ((z7).toNat)))) + z175) ≤ 6411 by omega)
                  have hFU10 : FR md_mo_adjective__2 S U10 := by rw [eU10]; exact FR.wI hFT9 (mdf_i (r := (904, 905, 113, 114)) (List.mem_of_getElem? (i := 1) rfl) (inR_i (by omega) (by omega) (by omega) (by omega)))
                  have w179 : Xi U10 904 113 = ((100 + (100 * (Xi U1 915 ((z7).toNat)))) + z175) := by rw [eU10]; exact Xi_same (by unfold rg; omega)
                  have z132 : Xi U10 904 32 = Xi S 904 32 := hFU10.x 904 32 rfl
                  have v132 : Xi U10 904 64 = Xi T9 904 64 := by rw [eU10, Xi_ne (by omega)]
                  refine l_aload_n rfl rfl ?_
                  refine l_gfi rfl rfl rfl rfl rfl ?_
                  have w180 : 0 ≤ (Xi U10 904 64) ∧ (Xi U10 904 64) ≤ 12 := hHU10.c _ _
                  refine l_ireturn rfl rfl ?_
                  have w181 : -1 ≤ Xi U10 904 113 ∧ Xi U10 904 113 ≤ 6411 := hHU10.c _ _
                  have w182 : Xi U10 904 23 = Xi S 904 23 := (show Xi U10 904 23 = Xi T9 904 23 from by rw [eU10]; exact Xi_ne (by omega)).trans ( (show Xi T9 904 23 = Xi U1 904 23 from w176.x _ _ rfl).trans ((show Xi U1 904 23 = Xi S 904 23 from by rw [eU1]; exact Xi_ne (by omega))))
                  have w184 : Xi U10 904 32 = Xi S 904 32 := (show Xi U10 904 32 = Xi T9 904 32 from by rw [eU10]; exact Xi_ne (by omega)).trans ( (show Xi T9 904 32 = Xi U1 904 32 from w176.x _ _ rfl).trans ((show Xi U1 904 32 = Xi S 904 32 from by rw [eU1]; exact Xi_ne (by omega))))
                  have w186 : Xi U10 904 64 = Xi T9 904 64 := (show Xi U10 904 64 = Xi T9 904 64 from by rw [eU10]; exact Xi_ne (by omega))
                  have w187 : 0 ≤ Xi T9 904 64 ∧ Xi T9 904 64 ≤ 12 := hHT9.c _ _
                  exact ⟨hHU10, hFU10, _, rfl, ⟨by omega, by omega⟩, (fun q => by first | (exfalso; omega) | exact Or.inl ⟨by omega, by omega⟩ | exact Or.inr ⟨by omega, by omega, by omega⟩), (fun q q2 q3 => by first | (exfalso; omega) | (rw [x74]; exact c67 (by omega))), (by first | (exfalso; omega) | skip; unfold adR; rw [← m3]; first | rw [if_pos (by omega)] | (rw [if_neg (by omega), if_pos ⟨by omega, by omega, by omega⟩]) | (rw [if_neg (by omega), if_neg (fun q => by omega), if_pos ⟨by omega, by omega⟩]; omega) | (rw [if_neg (by omega), if_neg (fun q => by omega), if_neg (fun q => by omega)]))⟩
                · refine l_iconst rfl ?_
                  refine l_goto rfl rfl ?_
                  refine l_pfi rfl rfl rfl rfl ?_
                  obtain ⟨U11, eU11⟩ : ∃ T : sS, T = uI T9 904 113 (Int32.ofInt (-1)) := ⟨_, rfl⟩
                  rw [← eU11]
                  have hHU11 : HI U11 := by rw [eU11]; exact HI_w hHT9 (show -1 ≤ (-1) by omega) (show (-1) ≤ 6411 by omega)
                  have hFU11 : FR md_mo_adjective__2 S U11 := by rw [eU11]; exact FR.wI hFT9 (mdf_i (r := (904, 905, 113, 114)) (List.mem_of_getElem? (i := 1) rfl) (inR_i (by omega) (by omega) (by omega) (by omega)))
                  have w188 : Xi U11 904 113 = (-1) := by rw [eU11]; exact Xi_same (by unfold rg; omega)
                  have z132 : Xi U11 904 32 = Xi S 904 32 := hFU11.x 904 32 rfl
                  have v132 : Xi U11 904 64 = Xi T9 904 64 := by rw [eU11, Xi_ne (by omega)]
                  refine l_aload_n rfl rfl ?_
                  refine l_gfi rfl rfl rfl rfl rfl ?_
                  have w189 : 0 ≤ (Xi U11 904 64) ∧ (Xi U11 904 64) ≤ 12 := hHU11.c _ _
                  refine l_ireturn rfl rfl ?_
                  have w190 : -1 ≤ Xi U11 904 113 ∧ Xi U11 904 113 ≤ 6411 := hHU11.c _ _
                  have w191 : Xi U11 904 23 = Xi S 904 23 := (show Xi U11 904 23 = Xi T9 904 23 from by rw [eU11]; exact Xi_ne (by omega)).trans ( (show Xi T9 904 23 = Xi U1 904 23 from w176.x _ _ rfl).trans ((show Xi U1 904 23 = Xi S 904 23 from by rw [eU1]; exact Xi_ne (by omega))))
                  have w193 : Xi U11 904 32 = Xi S 904 32 := (show Xi U11 904 32 = Xi T9 904 32 from by rw [eU11]; exact Xi_ne (by omega)).trans ( (show Xi T9 904 32 = Xi U1 904 32 from w176.x _ _ rfl).trans ((show Xi U1 904 32 = Xi S 904 32 from by rw [eU1]; exact Xi_ne (by omega))))
                  have w195 : Xi U11 904 64 = Xi T9 904 64 := (show Xi U11 904 64 = Xi T9 904 64 from by rw [eU11]; exact Xi_ne (by omega))
                  have w196 : 0 ≤ Xi T9 904 64 ∧ Xi T9 904 64 ≤ 12 := hHT9.c _ _
                  exact ⟨hHU11, hFU11, _, rfl, ⟨by omega, by omega⟩, (fun q => by first | (exfalso; omega) | exact Or.inl ⟨by omega, by omega⟩ | exact Or.inr ⟨by omega, by omega, by omega⟩), (fun q q2 q3 => by first | (exfalso; omega) | (rw [x74]; exact c67 (by omega))), (by first | (exfalso; omega) | skip; unfold adR; rw [← m3]; first | rw [if_pos (by omega)] | (rw [if_neg (by omega), if_pos ⟨by omega, by omega, by omega⟩]) | (rw [if_neg (by omega), if_neg (fun q => by omega), if_pos ⟨by omega, by omega⟩]; omega) | (rw [if_neg (by omega), if_neg (fun q => by omega), if_neg (fun q => by omega)]))⟩
          · refine l_aload_n rfl rfl ?_
            refine l_iload rfl rfl ?_
            refine l_pfi rfl rfl rfl rfl ?_
            obtain ⟨U12, eU12⟩ : ∃ T : sS, T = uI U1 904 113 (Int32.ofInt (Xi U1 915 ((z7).toNat))) := ⟨_, rfl⟩
            rw [← eU12]
            have hHU12 : HI U12 := by rw [eU12]; exact HI_w hHU1 (show -1 ≤ (Xi U1 915 ((z7).toNat)) by omega) (show (Xi U1 915 ((z7).toNat)) ≤ 6411 by omega)
            have hFU12 : FR md_mo_adjective__2 S U12 := by rw [eU12]; exact FR.wI hFU1 (mdf_i (r := (904, 905, 113, 114)) (List.mem_of_getElem? (i := 1) rfl) (inR_i (by omega) (by omega) (by omega) (by omega)))
            have w197 : Xi U12 904 113 = (Xi U1 915 ((z7).toNat)) := by rw [eU12]; exact Xi_same (by unfold rg; omega)
            have x74 : Xi U12 904 113 = (Xi U1 915 ((z7).toNat)) := by omega
            have z74 : Xi U12 904 23 = Xi S 904 23 := hFU12.x 904 23 rfl
            refine l_iconst rfl ?_
            refine l_ireturn rfl rfl ?_
            have w198 : -1 ≤ Xi U12 904 113 ∧ Xi U12 904 113 ≤ 6411 := hHU12.c _ _
            have w199 : Xi U12 904 23 = Xi S 904 23 := (show Xi U12 904 23 = Xi U1 904 23 from by rw [eU12]; exact Xi_ne (by omega)).trans ((show Xi U1 904 23 = Xi S 904 23 from by rw [eU1]; exact Xi_ne (by omega)))
            have w201 : Xi U12 904 32 = Xi S 904 32 := (show Xi U12 904 32 = Xi U1 904 32 from by rw [eU12]; exact Xi_ne (by omega)).trans ((show Xi U1 904 32 = Xi S 904 32 from by rw [eU1]; exact Xi_ne (by omega)))
            have w202 : 0 ≤ Xi S 904 32 ∧ Xi S 904 32 ≤ 12 := hH.c _ _
            have w203 : Xi U12 904 64 = Xi S 904 64 := (show Xi U12 904 64 = Xi U1 904 64 from by rw [eU12]; exact Xi_ne (by omega)).trans ((show Xi U1 904 64 = Xi S 904 64 from by rw [eU1]; exact Xi_ne (by omega)))
            have w204 : 0 ≤ Xi S 904 64 ∧ Xi S 904 64 ≤ 12 := hH.c _ _
            exact ⟨hHU12, hFU12, _, rfl, ⟨by omega, by omega⟩, (fun q => by first | (exfalso; omega) | exact Or.inl ⟨by omega, by omega⟩ | exact Or.inr ⟨by omega, by omega, by omega⟩), (fun q q2 q3 => by first | (exfalso; omega) | (rw [x74]; exact c67 (by omega))), (by first | (exfalso; omega) | skip; unfold adR; rw [← m3]; first | rw [if_pos (by omega)] | (rw [if_neg (by omega), if_pos ⟨by omega, by omega, by omega⟩]) | (rw [if_neg (by omega), if_neg (fun q => by omega), if_pos ⟨by omega, by omega⟩]; omega) | (rw [if_neg (by omega), if_neg (fun q => by omega), if_neg (fun q => by omega)]))⟩
  · refine l_iconst rfl ?_
    refine l_ireturn rfl rfl ?_
    have w205 : -1 ≤ Xi U1 904 113 ∧ Xi U1 904 113 ≤ 6411 := hHU1.c _ _
    have w206 : Xi U1 904 23 = Xi S 904 23 := (show Xi U1 904 23 = Xi S 904 23 from by rw [eU1]; exact Xi_ne (by omega))
    have w208 : Xi U1 904 32 = Xi S 904 32 := (show Xi U1 904 32 = Xi S 904 32 from by rw [eU1]; exact Xi_ne (by omega))
    have w209 : 0 ≤ Xi S 904 32 ∧ Xi S 904 32 ≤ 12 := hH.c _ _
    have w210 : Xi U1 904 64 = Xi S 904 64 := (show Xi U1 904 64 = Xi S 904 64 from by rw [eU1]; exact Xi_ne (by omega))
    have w211 : 0 ≤ Xi S 904 64 ∧ Xi S 904 64 ≤ 12 := hH.c _ _
    exact ⟨hHU1, hFU1, _, rfl, ⟨by omega, by omega⟩, (fun q => by first | (exfalso; omega) | exact Or.inl ⟨by omega, by omega⟩ | exact Or.inr ⟨by omega, by omega, by omega⟩), (fun q q2 q3 => by first | (exfalso; omega) | (rw [x74]; exact c67 (by omega))), (by first | (exfalso; omega) | skip; unfold adR; rw [← m3]; first | rw [if_pos (by omega)] | (rw [if_neg (by omega), if_pos ⟨by omega, by omega, by omega⟩]) | (rw [if_neg (by omega), if_neg (fun q => by omega), if_pos ⟨by omega, by omega⟩]; omega) | (rw [if_neg (by omega), if_neg (fun q => by omega), if_neg (fun q => by omega)]))⟩
/-! SAFETY of the reference: System.arraycopy -/
def cpI (S : sS) (a b s t n : Nat) : sS := (va_up S.1 b (va_cpy (S.1 a) (S.1 b) s t n), S.2.1, S.2.2)
def cpJ (S : sS) (a b s t n : Nat) : sS := (S.1, va_up S.2.1 b (va_cpy (S.2.1 a) (S.2.1 b) s t n), S.2.2)
section
variable {lay : Nat → Nat × Nat} {d pc : Nat} {q : mT} {L : List (Nat × Value)} {st : List Value} {S : sS} {Q : pst}
theorem l_acp {ix na : Nat} {md : mT} {a b : Nat} {x y z : Int} {S2 : sS} (hc : lk q.2.2.2.2.2 pc = some (.invokestatic ix)) (hk : kLs q.2.2.2.2.1 ix = some (9, md, na)) (hs : Nat.ble (st.map (fun v => v.category)).sum 8 = true) (he : acp lay S a (Int32.ofInt x) b (Int32.ofInt y) (Int32.ofInt z) = some S2) (h : Rl lay d q (pc + 3) L st S2 Q) : Rl lay d q pc L (iv z :: iv y :: .ref b :: iv x :: .ref a :: st) S Q := by
  intro lv ha
  obtain ⟨N, r, S1, hr, hq⟩ := h lv ha
  refine ⟨N + 1, r, S1, fun F G hF hG => ?_, hq⟩
  obtain ⟨F, rfl⟩ : ∃ F1, F = F1 + 1 := ⟨F - 1, by omega⟩
  have e := hr F G (by omega) (by omega)
  unfold run
  rw [hc]
  simp only [hk]
  show (bif Nat.ble (st.map (fun v => v.category)).sum 8 then (match acp lay S a (Int32.ofInt x) b (Int32.ofInt y) (Int32.ofInt z) with
    | some S1 => run lay (fLs q.2.2.2.2.1) (cLs q.2.2.2.2.1) (kLs q.2.2.2.2.1) q.2.2.1 q.2.2.2.1 (evd lay G d) q.2.2.2.2.2 F (pc + 3) lv st S1
    | none => none) else none) = _
  rw [hs, he]
  exact e
theorem acp_c {x y z : Int} {A B : Nat} (hx : 0 ≤ x) (hy : 0 ≤ y) (hz : 0 ≤ z) (h1 : x + z ≤ A) (h2 : y + z ≤ B) (hA : A ≤ 10000) (hB : B ≤ 10000) : ((decide (¬ Int32.ofInt x < 0) && (decide (¬ Int32.ofInt y < 0) && decide (¬ Int32.ofInt z < 0))) && (Nat.ble (x.toNat + z.toNat) A && Nat.ble (y.toNat + z.toNat) B)) = true := by
  have z0 : (0 : Int32) = Int32.ofInt 0 := by decide
  have n : ∀ {w : Int}, 0 ≤ w → w ≤ 10000 → ¬ Int32.ofInt w < 0 := fun {w} a b u => by
    rw [z0] at u
    have := (i32_lt (x := w) (y := 0) ⟨by omega, by omega⟩ ⟨by omega, by omega⟩).mp u
    omega
  rw [decide_eq_true (n hx (by omega)), decide_eq_true (n hy (by omega)), decide_eq_true (n hz (by omega)), Nat.ble_eq_true_of_le (show x.toNat + z.toNat ≤ A by omega), Nat.ble_eq_true_of_le (show y.toNat + z.toNat ≤ B by omega)]
  rfl
theorem acpI {x y z : Int} {a b A B : Nat} (ha : lay a = (1, A)) (hb : lay b = (1, B)) (hx : 0 ≤ x) (hy : 0 ≤ y) (hz : 0 ≤ z) (h1 : x + z ≤ A) (h2 : y + z ≤ B) (hA : A ≤ 10000) (hB : B ≤ 10000) : acp lay S a (Int32.ofInt x) b (Int32.ofInt y) (Int32.ofInt z) = some (cpI S a b x.toNat y.toNat z.toNat) := by
  unfold acp
  rw [ix_i (x := x) ⟨by omega, by omega⟩, ix_i (x := y) ⟨by omega, by omega⟩, ix_i (x := z) ⟨by omega, by omega⟩, ha, hb]
  have c := acp_c hx hy hz h1 h2 hA hB
  show (bif ((decide (¬ Int32.ofInt x < 0) && (decide (¬ Int32.ofInt y < 0) && decide (¬ Int32.ofInt z < 0))) && (Nat.ble (x.toNat + z.toNat) A && Nat.ble (y.toNat + z.toNat) B)) then _ else none) = _
  rw [c]
  rfl
theorem acpJ {x y z : Int} {a b A B : Nat} (ha : lay a = (2, A)) (hb : lay b = (2, B)) (hx : 0 ≤ x) (hy : 0 ≤ y) (hz : 0 ≤ z) (h1 : x + z ≤ A) (h2 : y + z ≤ B) (hA : A ≤ 10000) (hB : B ≤ 10000) : acp lay S a (Int32.ofInt x) b (Int32.ofInt y) (Int32.ofInt z) = some (cpJ S a b x.toNat y.toNat z.toNat) := by
  unfold acp
  rw [ix_i (x := x) ⟨by omega, by omega⟩, ix_i (x := y) ⟨by omega, by omega⟩, ix_i (x := z) ⟨by omega, by omega⟩, ha, hb]
  have c := acp_c hx hy hz h1 h2 hA hB
  show (bif ((decide (¬ Int32.ofInt x < 0) && (decide (¬ Int32.ofInt y < 0) && decide (¬ Int32.ofInt z < 0))) && (Nat.ble (x.toNat + z.toNat) A && Nat.ble (y.toNat + z.toNat) B)) then _ else none) = _
  rw [c]
  rfl
end
theorem cpI_in {S : sS} {a b s t n j : Nat} (h : t ≤ j ∧ j < t + n) : Xi (cpI S a b s t n) b j = Xi S a (s + (j - t)) := by
  have e : (cpI S a b s t n).1 b j = S.1 a (s + (j - t)) := by
    show (va_up S.1 b (va_cpy (S.1 a) (S.1 b) s t n)) b j = _
    unfold va_up va_cpy
    rw [if_pos rfl]
    exact if_pos h
  unfold Xi
  rw [e]
theorem cpI_nx {S : sS} {a b s t n k j : Nat} (h : k ≠ b ∨ ¬ (t ≤ j ∧ j < t + n)) : (cpI S a b s t n).1 k j = S.1 k j := by
  show (va_up S.1 b (va_cpy (S.1 a) (S.1 b) s t n)) k j = _
  unfold va_up va_cpy
  by_cases q : k = b
  · rw [if_pos q]
    rcases h with h | h
    · exact absurd q h
    · show (if t ≤ j ∧ j < t + n then S.1 a (s + (j - t)) else S.1 b j) = S.1 k j
      rw [if_neg h, q]
  · rw [if_neg q]
theorem cpI_ne {S : sS} {a b s t n k j : Nat} (h : k ≠ b ∨ ¬ (t ≤ j ∧ j < t + n)) : Xi (cpI S a b s t n) k j = Xi S k j := by
  unfold Xi
  rw [cpI_nx h]
theorem HI_cpI {S : sS} {a b s t n : Nat} (hH : HI S) (h : ∀ j, t ≤ j → j < t + n → (lh b j).1 ≤ Xi S a (s + (j - t)) ∧ Xi S a (s + (j - t)) ≤ (lh b j).2) : HI (cpI S a b s t n) := ⟨hH.1, fun k j => by
  by_cases q : k = b ∧ (t ≤ j ∧ j < t + n)
  · obtain ⟨rfl, q⟩ := q
    rw [cpI_in q]
    exact h j q.1 q.2
  · rw [cpI_ne (by by_cases c : k = b; exact Or.inr (fun x => q ⟨c, x⟩); exact Or.inl c)]
    exact hH.2 k j⟩
theorem inR_s {b k j : Nat} (h : mdf [(b, b + 1, 0, 100000)] k j = false) : k ≠ b ∨ 100000 ≤ j := by
  by_cases q : k = b
  · rcases Nat.lt_or_ge j 100000 with c | c
    · have t : mdf [(b, b + 1, 0, 100000)] k j = true := mdf_i (r := (b, b + 1, 0, 100000)) (List.mem_of_getElem? (i := 0) rfl) (inR_i (by omega) (by omega) (by omega) (by omega))
      rw [t] at h
      cases h
    · exact Or.inr c
  · exact Or.inl q
theorem FR_cpI {S : sS} {a b s t n : Nat} (h : t + n ≤ 100000) : FR [(b, b + 1, 0, 100000)] S (cpI S a b s t n) := fun k j e => by
  have q := inR_s e
  exact ⟨cpI_nx (by omega), rfl, rfl⟩
theorem HI_cpJ {S : sS} {a b s t n : Nat} (hH : HI S) : HI (cpJ S a b s t n) := ⟨hH.1, fun k j => hH.2 k j⟩
theorem FR_cpJ {S : sS} {a b s t n : Nat} (h : t + n ≤ 100000) : FR [(b, b + 1, 0, 100000)] S (cpJ S a b s t n) := fun k j e => by
  have q := inR_s e
  refine ⟨rfl, ?_, rfl⟩
  show (va_up S.2.1 b (va_cpy (S.2.1 a) (S.2.1 b) s t n)) k j = _
  unfold va_up va_cpy
  by_cases c : k = b
  · rw [if_pos c]
    show (if t ≤ j ∧ j < t + n then S.2.1 a (s + (j - t)) else S.2.1 b j) = S.2.1 k j
    rw [if_neg (by omega), c]
  · rw [if_neg c]
/-! SAFETY of the reference: descriptions -/
def ADX (S : sS) (f a : Int) : Prop := ADM S a ∧ (f = 0 → a < 100 → Xi S 922 a.toNat ≠ -1)
def CHV (S : sS) (f m : Int) : Prop := ∀ i : Nat, (i : Int) < m → ADX S f (Xi S 968 i)
theorem CHV_FR {l : List rec} {S T : sS} {f m : Int} (h : FR l S T) (e : (kdis l [(922, 923), (968, 969)] && mD l [23, 32]) = true) (hq : CHV S f m) : CHV T f m := fun i hi => by
  have e0 := e
  rw [Bool.and_eq_true] at e
  have k := h.smk e.1
  have t := hq i hi
  unfold ADX ADM at *
  rw [mD_x h e.2 23 (by decide), mD_x h e.2 32 (by decide), k.x 968 rfl, k.x 922 rfl]
  exact t
theorem CHV.le {S : sS} {f m m2 : Int} (h : CHV S f m) (e : m2 ≤ m) : CHV S f m2 := fun i hi => h i (by omega)
theorem chv_add {S U : sS} {f m a : Int} {j : Nat} (h : CHV S f m) (e : U = uI S 968 j (Int32.ofInt a)) (hj : (j : Int) = m) (ha : ADX S f a) (hr : rg a) : CHV U f (m + 1) := fun i hi => by
  have x : ∀ k j, k ≠ 968 → Xi U k j = Xi S k j := fun k j c => by rw [e, Xi_ne (by omega)]
  unfold ADX ADM
  rw [x 904 23 (by decide), x 904 32 (by decide), x 922 _ (by decide)]
  by_cases q : i = j
  · rw [q, e, Xi_same hr]; exact ha
  · rw [show Xi U 968 i = Xi S 968 i by rw [e, Xi_ne (by omega)]]; exact h i (by omega)
def RDV (S : sS) (f : Int) : Prop := Xi S 904 109 ≠ 0 → Xi S 904 110 < Xi S 904 16 ∧ ∀ i : Nat, (i : Int) < Xi S 904 112 → ADX S f (Xi S 967 i)
theorem RDV_FR {l : List rec} {S T : sS} {f : Int} (h : FR l S T) (e : (kdis l [(922, 923), (967, 968)] && mD l [16, 23, 32, 109, 110, 112]) = true) (hq : RDV S f) : RDV T f := by
  rw [Bool.and_eq_true] at e
  have k := h.smk e.1
  unfold RDV ADX ADM
  simp only [mD_x h e.2 16 (by decide), mD_x h e.2 23 (by decide), mD_x h e.2 32 (by decide), mD_x h e.2 109 (by decide), mD_x h e.2 110 (by decide), mD_x h e.2 112 (by decide), k.x 967 rfl, k.x 922 rfl]
  exact hq
theorem rdv_i {T U : sS} {f : Int} {v : Int32} (hk : Xi T 904 110 < Xi T 904 16) (hc : ∀ i : Nat, (i : Int) < Xi T 904 112 → ADX T f (Xi T 967 i)) (e : U = uI T 904 109 v) : RDV U f := fun _ => by
  have x : ∀ k j, (k = 904 → j ≠ 109) → Xi U k j = Xi T k j := fun k j c => by rw [e, Xi_ne (by omega)]
  unfold ADX ADM
  simp only [x 904 110 (by decide), x 904 16 (by decide), x 904 112 (by decide), x 904 23 (by decide), x 904 32 (by decide), x 967 _ (fun e => absurd e (by decide)), x 922 _ (fun e => absurd e (by decide))]
  exact ⟨hk, hc⟩
theorem chv_cp {P T : sS} {f m : Int} (h : CHV P f m) (e : T = cpI P 968 967 (0 : Int).toNat (0 : Int).toNat (6 : Int).toNat) (hm : m ≤ 6) : ∀ i : Nat, (i : Int) < m → ADX T f (Xi T 967 i) := fun i hi => by
  have x : ∀ k j, k ≠ 967 → Xi T k j = Xi P k j := fun k j c => by rw [e]; exact cpI_ne (Or.inl c)
  have y : Xi T 967 i = Xi P 968 i := by
    rw [e]
    have t := cpI_in (S := P) (a := 968) (b := 967) (s := 0) (t := 0) (n := 6) (j := i) (by omega)
    rw [show 0 + (i - 0) = i by omega] at t
    exact t
  have t := h i hi
  unfold ADX ADM at *
  rw [y, x 904 23 (by decide), x 904 32 (by decide), x 922 _ (by decide)]
  exact t
def md_mo_parted : List rec := [(904, 905, 64, 65), (904, 905, 109, 110), (904, 905, 110, 111), (904, 905, 112, 113), (904, 905, 113, 114), (967, 968, 0, 100000), (968, 969, 0, 100000)]
abbrev Q_mo_parted (S : sS) (from_ : Int) (to : Int) (kind : Int) (dfd : Int) (m : Int) : pst := fun r S1 => HI S1 ∧ FR md_mo_parted S S1 ∧ (r = none ∧ (RDV S1 dfd) ∧ (CHV S1 dfd m))
set_option maxRecDepth 100000 in
theorem u_mo_parted {S : sS} (hH : HI S) (from_ : Int) (to : Int) (kind : Int) (dfd : Int) (m : Int) (hfrom_ : 0 ≤ from_ ∧ from_ ≤ 5001) (hto : 0 ≤ to ∧ to ≤ 5001) (hkind : 0 ≤ kind ∧ kind ≤ 15) (hdfd : 0 ≤ dfd ∧ dfd ≤ 1) (hm : 0 ≤ m ∧ m ≤ 6) (hM : LXM S) (hB : ABV S) (hC : DCM S) (hft : from_ ≤ to) (hb : m + (to - from_) ≤ 5) (hk : kind < Xi S 904 16) (hch : CHV S dfd m) (hrd : RDV S dfd) (d : Nat) (hrec : ∀ {S : sS} (_ : HI S) (from_2 : Int) (to2 : Int) (kind2 : Int) (dfd2 : Int) (m2 : Int) (hfrom_ : 0 ≤ from_2 ∧ from_2 ≤ 5001) (hto : 0 ≤ to2 ∧ to2 ≤ 5001) (hkind : 0 ≤ kind2 ∧ kind2 ≤ 15) (hdfd : 0 ≤ dfd2 ∧ dfd2 ≤ 1) (hm : 0 ≤ m2 ∧ m2 ≤ 6) (hM : LXM S) (hB : ABV S) (hC : DCM S) (hft : from_2 ≤ to2) (hb : m2 + (to2 - from_2) ≤ 5) (hk : kind2 < Xi S 904 16) (hch : CHV S dfd2 m2) (hrd : RDV S dfd2), (to2 - from_2 < to - from_) → Mt lay0 (d + 3) m_mo_parted [.ref 904, iv from_2, iv to2, iv kind2, iv dfd2, iv m2] S (Q_mo_parted S from_2 to2 kind2 dfd2 m2)) : Mt lay0 (d + 4) m_mo_parted [.ref 904, iv from_, iv to, iv kind, iv dfd, iv m] S (Q_mo_parted S from_ to kind dfd m) := by
  refine Mt_R rfl rfl ?_
  have hF : FR md_mo_parted S S := FR.rf
  have w1 : 0 ≤ Xi S 904 16 ∧ Xi S 904 16 ≤ 16 := hH.c _ _
  have C52 : ∀ (n52 : Nat) (T1 : sS) (_ : HI T1) (_ : FR md_mo_parted S T1) (v6 : Int), (1 ≤ v6 ∧ v6 ≤ 4) → (from_ < to) → (CHV T1 dfd m) → (RDV T1 dfd) → n52 = (5 - v6).toNat → Rl lay0 (d + 3) m_mo_parted 52 [(0, .ref 904), (1, iv from_), (2, iv to), (3, iv kind), (4, iv dfd), (5, iv m), (6, iv v6)] [] T1 (Q_mo_parted S from_ to kind dfd m) := by
    intro n52
    induction n52 using Nat.strongRecOn with
    | ind n52 ih52 =>
      intro T1 hHT1 hFT1 v6 w2 w3 C52 R52 hm52
      have w4 : Xi T1 904 16 = Xi S 904 16 := hFT1.x _ _ rfl
      have C88 : ∀ (n88 : Nat) (T2 : sS) (_ : HI T2) (_ : FR md_mo_parted S T2) (v6 : Int) (v7 : Int) (v8 : Int) (v9 : Int), (1 ≤ v6 ∧ v6 ≤ 3) → (0 ≤ v7 ∧ v7 ≤ 12) → (-1 ≤ v8 ∧ v8 ≤ 6411) → (0 ≤ v9 ∧ v9 ≤ 12) → (from_ + v6 ≤ to) → (v6 ≤ 3) → (CHV T2 dfd m) → (RDV T2 dfd) → (1 ≤ v7 → ADX T2 dfd v8) → ((5 - v6).toNat ≤ n52) → n88 = (13 - v9).toNat → Rl lay0 (d + 3) m_mo_parted 88 [(0, .ref 904), (1, iv from_), (2, iv to), (3, iv kind), (4, iv dfd), (5, iv m), (6, iv v6), (7, iv v7), (8, iv v8), (9, iv v9)] [] T2 (Q_mo_parted S from_ to kind dfd m) := by
        intro n88
        induction n88 using Nat.strongRecOn with
        | ind n88 ih88 =>
          intro T2 hHT2 hFT2 v6 v7 v8 v9 w5 w6 w7 w8 w9 w10 C88 R88 A88 w11 hm88
          have w12 : Xi T2 904 16 = Xi S 904 16 := hFT2.x _ _ rfl
          refine l_iload rfl rfl ?_
          refine l_iload rfl rfl ?_
          refine l_icmp_ge rfl rfl (by unfold rg; omega) (by unfold rg; omega) (fun w13 => ?_) (fun w14 => ?_)
          · refine l_iinc rfl rfl rfl rfl ?_
            refine l_goto rfl rfl ?_
            have w15 : 0 ≤ Xi T2 904 110 ∧ Xi T2 904 110 ≤ 15 := hHT2.c _ _
            have w16 : 0 ≤ Xi T2 904 112 ∧ Xi T2 904 112 ≤ 6 := hHT2.c _ _
            have w17 : 0 ≤ Xi T2 904 16 ∧ Xi T2 904 16 ≤ 16 := hHT2.c _ _
            exact Rl_weak (ih52 _ (by omega) T2 hHT2 hFT2 ((v6 + 1)) (by omega) (by omega) (by first | exact hch | exact C88) (by first | exact hrd | exact R88) rfl) (And.intro rfl (And.intro rfl (And.intro rfl (And.intro rfl (And.intro rfl (And.intro rfl (And.intro rfl (True.intro))))))))
          · refine l_aload_n rfl rfl ?_
            refine l_gfr rfl rfl rfl rfl rfl (hHT2.r 904 114 968 rfl) ?_
            refine l_iload rfl rfl ?_
            refine l_iload rfl rfl ?_
            refine l_iastore (n := 6) rfl rfl (by omega) (by omega) (by unfold rg; omega) ?_
            obtain ⟨U3, eU3⟩ : ∃ T : sS, T = uI T2 968 ((m).toNat) (Int32.ofInt v8) := ⟨_, rfl⟩
            rw [← eU3]
            have hHU3 : HI U3 := by rw [eU3]; exact HI_w hHT2 (show -1 ≤ v8 by omega) (show v8 ≤ 6411 by omega)
            have hFU3 : FR md_mo_parted S U3 := by rw [eU3]; exact FR.wI hFT2 (mdf_i (r := (968, 969, 0, 100000)) (List.mem_of_getElem? (i := 6) rfl) (inR_i (by omega) (by omega) (by omega) (by omega)))
            have w18 : Xi U3 968 ((m).toNat) = v8 := by rw [eU3]; exact Xi_same (by unfold rg; omega)
            have C103 : CHV U3 dfd (m + 1) := chv_add C88 eU3 (by omega) (A88 (by omega)) (by unfold rg; omega)
            have R103 : RDV U3 dfd := RDV_FR (FR_e eU3) rfl R88
            refine l_aload_n rfl rfl ?_
            refine l_iload_n rfl rfl ?_
            refine l_iload rfl rfl ?_
            refine l_iadd rfl ?_
            refine l_iload_n rfl rfl ?_
            refine l_iload_n rfl rfl ?_
            refine l_iload rfl rfl ?_
            refine l_iload rfl rfl ?_
            refine l_iconst rfl ?_
            refine l_iadd rfl ?_
            have w19 : Xi U3 904 109 = Xi T2 904 109 := (show Xi U3 904 109 = Xi T2 904 109 from by rw [eU3]; exact Xi_ne (by omega))
            have w20 : Xi U3 904 110 = Xi T2 904 110 := (show Xi U3 904 110 = Xi T2 904 110 from by rw [eU3]; exact Xi_ne (by omega))
            have w21 : 0 ≤ Xi T2 904 110 ∧ Xi T2 904 110 ≤ 15 := hHT2.c _ _
            have w22 : Xi U3 904 112 = Xi T2 904 112 := (show Xi U3 904 112 = Xi T2 904 112 from by rw [eU3]; exact Xi_ne (by omega))
            have w23 : 0 ≤ Xi T2 904 112 ∧ Xi T2 904 112 ≤ 6 := hHT2.c _ _
            have w24 : Xi U3 904 16 = Xi T2 904 16 := (show Xi U3 904 16 = Xi T2 904 16 from by rw [eU3]; exact Xi_ne (by omega))
            have w25 : 0 ≤ Xi T2 904 16 ∧ Xi T2 904 16 ≤ 16 := hHT2.c _ _
            refine l_callV rfl rfl rfl (hrec hHU3 (from_ + v6) to kind dfd (m + 1) ⟨by omega, by omega⟩ ⟨by omega, by omega⟩ ⟨by omega, by omega⟩ ⟨by omega, by omega⟩ ⟨by omega, by omega⟩ (by first | assumption | exact (LXM_FR hFU3 rfl (by assumption : LXM S))) (by first | assumption | exact (ABV_FR hFU3 rfl (by assumption : ABV S))) (by first | assumption | exact (DCM_FR hFU3 rfl (by assumption : DCM S))) (by first | assumption | omega) (by first | assumption | omega) (by first | assumption | omega) (by first | assumption | exact (by assumption : CHV U3 _ _)) (by first | assumption | exact (RDV_FR (FR_e eU3) rfl (by assumption : RDV T2 _))) (by omega)) ?_
            rintro _ T4 ⟨hHT4, w29, rfl, w26, w27⟩
            have hFT4 : FR md_mo_parted S T4 := FR.tr hFU3 w29 rfl
            show Rl _ _ _ _ _ [] _ _
            have A117 : 1 ≤ v7 → ADX T4 dfd v8 := fun q => ⟨by unfold ADM; rw [hFT4.x 904 23 rfl, hFT4.x 904 32 rfl, ← hFT2.x 904 23 rfl, ← hFT2.x 904 32 rfl]; exact (A88 q).1, fun a b => by rw [(hFT4.cx 922 rfl _).1, ← (hFT2.cx 922 rfl _).1]; exact (A88 q).2 a b⟩
            refine l_iinc rfl rfl rfl rfl ?_
            refine l_goto rfl rfl ?_
            have w30 : 0 ≤ Xi T4 904 110 ∧ Xi T4 904 110 ≤ 15 := hHT4.c _ _
            have w31 : 0 ≤ Xi T4 904 112 ∧ Xi T4 904 112 ≤ 6 := hHT4.c _ _
            have w32 : Xi T4 904 16 = Xi T2 904 16 := (show Xi T4 904 16 = Xi U3 904 16 from w29.x _ _ rfl).trans ((show Xi U3 904 16 = Xi T2 904 16 from by rw [eU3]; exact Xi_ne (by omega)))
            exact Rl_weak (ih88 _ (by omega) T4 hHT4 hFT4 (v6) (v7) (v8) ((v9 + 1)) (by omega) (by omega) (by omega) (by omega) (by omega) (by omega) (by first | assumption | exact CHV.le (by assumption) (by omega) | exact CHV_FR (by assumption : FR md_mo_adjective _ T4) rfl C52) (by first | assumption | exact RDV_FR (by assumption : FR md_mo_adjective _ T4) rfl R52) (by first | exact A117 | exact A74) (by omega) rfl) (And.intro rfl (And.intro rfl (And.intro rfl (And.intro rfl (And.intro rfl (And.intro rfl (And.intro rfl (And.intro rfl (And.intro rfl (And.intro rfl (True.intro)))))))))))
      refine l_iload rfl rfl ?_
      refine l_iconst rfl ?_
      refine l_icmp_gt rfl rfl (by unfold rg; omega) (by unfold rg; omega) (fun w34 => ?_) (fun w35 => ?_)
      · refine l_return rfl rfl ?_
        exact ⟨hHT1, hFT1, rfl, (by first | exact r45 | exact R52), (by first | exact c45 | exact C52)⟩
      · refine l_iload_n rfl rfl ?_
        refine l_iload rfl rfl ?_
        refine l_iadd rfl ?_
        refine l_iload_n rfl rfl ?_
        refine l_icmp_gt rfl rfl (by unfold rg; omega) (by unfold rg; omega) (fun w39 => ?_) (fun w40 => ?_)
        · refine l_return rfl rfl ?_
          exact ⟨hHT1, hFT1, rfl, (by first | exact r45 | exact R52), (by first | exact c45 | exact C52)⟩
        · refine l_aload_n rfl rfl ?_
          refine l_iload_n rfl rfl ?_
          refine l_iload rfl rfl ?_
          refine l_iload_n rfl rfl ?_
          refine l_iload rfl rfl ?_
          refine l_iconst rfl ?_
          refine l_callV rfl rfl rfl (t_mo_adjective__2 hHT1 from_ v6 kind dfd 1 ⟨by omega, by omega⟩ ⟨by omega, by omega⟩ ⟨by omega, by omega⟩ ⟨by omega, by omega⟩ ⟨by omega, by omega⟩ (by first | assumption | omega) (by first | assumption | exact (LXM_FR hFT1 rfl (by assumption : LXM S))) (by first | assumption | exact (ABV_FR hFT1 rfl (by assumption : ABV S))) (by first | assumption | exact (DCM_FR hFT1 rfl (by assumption : DCM S))) _) ?_
          rintro _ T5 ⟨hHT5, w51, z50, rfl, w50, w47, w48, w49⟩
          have hFT5 : FR md_mo_parted S T5 := FR.tr hFT1 w51 rfl
          show Rl _ _ _ _ _ [iv z50] _ _
          have A74 : 1 ≤ z50 → ADX T5 dfd (Xi T5 904 113) := fun q => ⟨(by assumption : 1 ≤ z50 → ADM T5 (Xi T5 904 113)) q, fun a b => by rw [(hFT5.cx 922 rfl _).1, ← (hFT1.cx 922 rfl _).1]; exact (by assumption : 1 ≤ z50 → dfd = 0 → Xi T5 904 113 < 100 → _) q a b⟩
          refine l_istore rfl rfl rfl ?_
          refine l_aload_n rfl rfl ?_
          refine l_gfi rfl rfl rfl rfl rfl ?_
          have w52 : -1 ≤ (Xi T5 904 113) ∧ (Xi T5 904 113) ≤ 6411 := hHT5.c _ _
          refine l_istore rfl rfl rfl ?_
          refine l_iconst rfl ?_
          refine l_istore rfl rfl rfl ?_
          have w53 : Xi T5 904 109 = Xi T1 904 109 := (show Xi T5 904 109 = Xi T1 904 109 from w51.x _ _ rfl)
          have w54 : Xi T5 904 110 = Xi T1 904 110 := (show Xi T5 904 110 = Xi T1 904 110 from w51.x _ _ rfl)
          have w55 : 0 ≤ Xi T1 904 110 ∧ Xi T1 904 110 ≤ 15 := hHT1.c _ _
          have w56 : Xi T5 904 112 = Xi T1 904 112 := (show Xi T5 904 112 = Xi T1 904 112 from w51.x _ _ rfl)
          have w57 : 0 ≤ Xi T1 904 112 ∧ Xi T1 904 112 ≤ 6 := hHT1.c _ _
          have w58 : Xi T5 904 16 = Xi T1 904 16 := (show Xi T5 904 16 = Xi T1 904 16 from w51.x _ _ rfl)
          have w59 : 0 ≤ Xi T1 904 16 ∧ Xi T1 904 16 ≤ 16 := hHT1.c _ _
          exact Rl_weak (C88 _ T5 hHT5 hFT5 (v6) (z50) ((Xi T5 904 113)) (0) (by omega) (by omega) (by omega) (by omega) (by omega) (by omega) (by first | assumption | exact CHV.le (by assumption) (by omega) | exact CHV_FR (by assumption : FR md_mo_adjective _ T5) rfl C52) (by first | assumption | exact RDV_FR (by assumption : FR md_mo_adjective _ T5) rfl R52) (by first | exact A117 | exact A74) (by omega) rfl) (And.intro rfl (And.intro rfl (And.intro rfl (And.intro rfl (And.intro rfl (And.intro rfl (And.intro rfl (And.intro rfl (And.intro rfl (And.intro rfl (True.intro)))))))))))
  refine l_iload_n rfl rfl ?_
  refine l_iload_n rfl rfl ?_
  refine l_icmp_ne rfl rfl (by unfold rg; omega) (by unfold rg; omega) (fun w60 => ?_) (fun w61 => ?_)
  · refine l_iconst rfl ?_
    refine l_istore rfl rfl rfl ?_
    have w62 : 0 ≤ Xi S 904 110 ∧ Xi S 904 110 ≤ 15 := hH.c _ _
    have w63 : 0 ≤ Xi S 904 112 ∧ Xi S 904 112 ≤ 6 := hH.c _ _
    exact Rl_weak (C52 _ S hH hF (1) (by omega) (by omega) (by first | exact hch | exact C88) (by first | exact hrd | exact R88) rfl) (And.intro rfl (And.intro rfl (And.intro rfl (And.intro rfl (And.intro rfl (And.intro rfl (And.intro rfl (True.intro))))))))
  · refine l_aload_n rfl rfl ?_
    refine l_gfi rfl rfl rfl rfl rfl ?_
    have w65 : -2147483648 ≤ (Xi S 904 109) ∧ (Xi S 904 109) ≤ 2147483647 := Xi_rgI
    refine l_if_ne rfl rfl (by unfold rg; omega) (fun w66 => ?_) (fun w67 => ?_)
    · refine l_aload_n rfl rfl ?_
      refine l_dup rfl rfl ?_
      refine l_gfi rfl rfl rfl rfl rfl ?_
      refine l_iconst rfl ?_
      refine l_iaddW rfl (fun c68 w68 => ?_)
      refine l_pfi rfl rfl rfl rfl ?_
      obtain ⟨U6, eU6⟩ : ∃ T : sS, T = uI S 904 109 (Int32.ofInt c68) := ⟨_, rfl⟩
      rw [← eU6]
      have hHU6 : HI U6 := by rw [eU6]; exact HI_any hH (rfl)
      have hFU6 : FR md_mo_parted S U6 := by rw [eU6]; exact FR.wI hF (mdf_i (r := (904, 905, 109, 110)) (List.mem_of_getElem? (i := 1) rfl) (inR_i (by omega) (by omega) (by omega) (by omega)))
      have w69 : Xi U6 904 109 = c68 := by rw [eU6]; exact Xi_same (by unfold rg; omega)
      have r45 : RDV U6 dfd := by first | exact rdv_i (by omega) (fun i hi => d35 i (by omega)) eU6 | exact rdv_i (hrd (by omega)).1 (hrd (by omega)).2 eU6
      have c45 : CHV U6 dfd m := CHV_FR (FR_e eU6) rfl (by first | exact c35 | exact hch)
      refine l_return rfl rfl ?_
      exact ⟨hHU6, hFU6, rfl, (by first | exact r45 | exact R52), (by first | exact c45 | exact C52)⟩
    · refine l_aload_n rfl rfl ?_
      refine l_iload_n rfl rfl ?_
      refine l_pfi rfl rfl rfl rfl ?_
      obtain ⟨U7, eU7⟩ : ∃ T : sS, T = uI S 904 110 (Int32.ofInt kind) := ⟨_, rfl⟩
      rw [← eU7]
      have hHU7 : HI U7 := by rw [eU7]; exact HI_w hH (show 0 ≤ kind by omega) (show kind ≤ 15 by omega)
      have hFU7 : FR md_mo_parted S U7 := by rw [eU7]; exact FR.wI hF (mdf_i (r := (904, 905, 110, 111)) (List.mem_of_getElem? (i := 2) rfl) (inR_i (by omega) (by omega) (by omega) (by omega)))
      have w76 : Xi U7 904 110 = kind := by rw [eU7]; exact Xi_same (by unfold rg; omega)
      have c14 : CHV U7 dfd m := CHV_FR (FR_e eU7) rfl hch
      refine l_aload_n rfl rfl ?_
      refine l_iload rfl rfl ?_
      refine l_pfi rfl rfl rfl rfl ?_
      obtain ⟨U8, eU8⟩ : ∃ T : sS, T = uI U7 904 112 (Int32.ofInt m) := ⟨_, rfl⟩
      rw [← eU8]
      have hHU8 : HI U8 := by rw [eU8]; exact HI_w hHU7 (show 0 ≤ m by omega) (show m ≤ 6 by omega)
      have hFU8 : FR md_mo_parted S U8 := by rw [eU8]; exact FR.wI hFU7 (mdf_i (r := (904, 905, 112, 113)) (List.mem_of_getElem? (i := 3) rfl) (inR_i (by omega) (by omega) (by omega) (by omega)))
      have w77 : Xi U8 904 112 = m := by rw [eU8]; exact Xi_same (by unfold rg; omega)
      have c20 : CHV U8 dfd m := CHV_FR (FR_e eU8) rfl c14
      have x20 : Xi U8 904 110 = Xi U7 904 110 ∧ Xi U8 904 16 = Xi S 904 16 := ⟨by rw [eU8, Xi_ne (by omega)], hFU8.x 904 16 rfl⟩
      refine l_aload_n rfl rfl ?_
      refine l_gfr rfl rfl rfl rfl rfl (hHU8.r 904 114 968 rfl) ?_
      refine l_iconst rfl ?_
      refine l_aload_n rfl rfl ?_
      refine l_gfr rfl rfl rfl rfl rfl (hHU8.r 904 111 967 rfl) ?_
      refine l_iconst rfl ?_
      refine l_bipush rfl rfl ?_
      refine l_acp rfl rfl rfl (acpI (A := 6) (B := 6) rfl rfl (by omega) (by omega) (by omega) (by omega) (by omega) (by omega) (by omega)) ?_
      obtain ⟨T9, eT9⟩ : ∃ T : sS, T = cpI U8 968 967 (0 : Int).toNat (0 : Int).toNat (6 : Int).toNat := ⟨_, rfl⟩
      rw [← eT9]
      have hHT9 : HI T9 := by rw [eT9]; exact HI_cpI hHU8 (fun j _ _ => hHU8.c 968 _)
      have w78 : FR [(967, 968, 0, 100000)] U8 T9 := by rw [eT9]; exact FR_cpI (by omega)
      have hFT9 : FR md_mo_parted S T9 := FR.tr hFU8 w78 rfl
      have d35 := chv_cp c20 eT9 (by omega)
      have c35 : CHV T9 dfd m := CHV_FR (by assumption : FR [(967, 968, 0, 100000)] U8 T9) rfl c20
      have y35 : Xi T9 904 110 = Xi U8 904 110 ∧ Xi T9 904 112 = Xi U8 904 112 ∧ Xi T9 904 16 = Xi U8 904 16 := ⟨(by assumption : FR [(967, 968, 0, 100000)] U8 T9).x 904 110 rfl, (by assumption : FR [(967, 968, 0, 100000)] U8 T9).x 904 112 rfl, (by assumption : FR [(967, 968, 0, 100000)] U8 T9).x 904 16 rfl⟩
      refine l_aload_n rfl rfl ?_
      refine l_dup rfl rfl ?_
      refine l_gfi rfl rfl rfl rfl rfl ?_
      have w79 : (Xi T9 904 109) = (Xi S 904 109) := (show Xi T9 904 109 = Xi U8 904 109 from w78.x _ _ rfl).trans ( (show Xi U8 904 109 = Xi U7 904 109 from by rw [eU8]; exact Xi_ne (by omega)).trans ((show Xi U7 904 109 = Xi S 904 109 from by rw [eU7]; exact Xi_ne (by omega))))
      rw [w79]
      refine l_iconst rfl ?_
      refine l_iaddW rfl (fun c80 w80 => ?_)
      refine l_pfi rfl rfl rfl rfl ?_
      obtain ⟨U10, eU10⟩ : ∃ T : sS, T = uI T9 904 109 (Int32.ofInt c80) := ⟨_, rfl⟩
      rw [← eU10]
      have hHU10 : HI U10 := by rw [eU10]; exact HI_any hHT9 (rfl)
      have hFU10 : FR md_mo_parted S U10 := by rw [eU10]; exact FR.wI hFT9 (mdf_i (r := (904, 905, 109, 110)) (List.mem_of_getElem? (i := 1) rfl) (inR_i (by omega) (by omega) (by omega) (by omega)))
      have w81 : Xi U10 904 109 = c80 := by rw [eU10]; exact Xi_same (by unfold rg; omega)
      have r45 : RDV U10 dfd := by first | exact rdv_i (by omega) (fun i hi => d35 i (by omega)) eU10 | exact rdv_i (hrd (by omega)).1 (hrd (by omega)).2 eU10
      have c45 : CHV U10 dfd m := CHV_FR (FR_e eU10) rfl (by first | exact c35 | exact hch)
      refine l_return rfl rfl ?_
      exact ⟨hHU10, hFU10, rfl, (by first | exact r45 | exact R52), (by first | exact c45 | exact C52)⟩
theorem k_mp (n : Nat) : ∀ (d : Nat) {S : sS} (_ : HI S) (from_ : Int) (to : Int) (kind : Int) (dfd : Int) (m : Int) (hfrom_ : 0 ≤ from_ ∧ from_ ≤ 5001) (hto : 0 ≤ to ∧ to ≤ 5001) (hkind : 0 ≤ kind ∧ kind ≤ 15) (hdfd : 0 ≤ dfd ∧ dfd ≤ 1) (hm : 0 ≤ m ∧ m ≤ 6) (hM : LXM S) (hB : ABV S) (hC : DCM S) (hft : from_ ≤ to) (hb : m + (to - from_) ≤ 5) (hk : kind < Xi S 904 16) (hch : CHV S dfd m) (hrd : RDV S dfd), (to - from_).toNat = n → Mt lay0 (d + n + 4) m_mo_parted [.ref 904, iv from_, iv to, iv kind, iv dfd, iv m] S (Q_mo_parted S from_ to kind dfd m) := by
  induction n using Nat.strongRecOn with
  | ind n ih =>
    intro d S hH from_ to kind dfd m hfrom_ hto hkind hdfd hm hM hB hC hft hb hk hch hrd hmeas
    exact u_mo_parted hH from_ to kind dfd m hfrom_ hto hkind hdfd hm hM hB hC hft hb hk hch hrd (d + n) (fun {S} hH2 xfrom_ xto xkind xdfd xm xhfrom_ xhto xhkind xhdfd xhm xhM xhB xhC xhft xhb xhk xhch xhrd hlt => by
      have t := ih (xto - xfrom_).toNat (by omega) (d + n - 1 - (xto - xfrom_).toNat) hH2 xfrom_ xto xkind xdfd xm xhfrom_ xhto xhkind xhdfd xhm xhM xhB xhC xhft xhb xhk xhch xhrd rfl
      rw [show d + n - 1 - (xto - xfrom_).toNat + (xto - xfrom_).toNat + 4 = d + n + 3 by omega] at t
      exact t)
theorem t_mo_parted {S : sS} (hH : HI S) (from_ : Int) (to : Int) (kind : Int) (dfd : Int) (m : Int) (hfrom_ : 0 ≤ from_ ∧ from_ ≤ 5001) (hto : 0 ≤ to ∧ to ≤ 5001) (hkind : 0 ≤ kind ∧ kind ≤ 15) (hdfd : 0 ≤ dfd ∧ dfd ≤ 1) (hm : 0 ≤ m ∧ m ≤ 6) (hM : LXM S) (hB : ABV S) (hC : DCM S) (hft : from_ ≤ to) (hb : m + (to - from_) ≤ 5) (hk : kind < Xi S 904 16) (hch : CHV S dfd m) (hrd : RDV S dfd) (d : Nat) : Mt lay0 (d + 9) m_mo_parted [.ref 904, iv from_, iv to, iv kind, iv dfd, iv m] S (Q_mo_parted S from_ to kind dfd m) := by
  have t := k_mp (to - from_).toNat (d + (5 - (to - from_).toNat)) hH from_ to kind dfd m hfrom_ hto hkind hdfd hm hM hB hC hft hb hk hch hrd rfl
  rw [show d + (5 - (to - from_).toNat) + (to - from_).toNat + 4 = d + 9 by omega] at t
  exact t

def md_mo_describe : List rec := [(904, 905, 64, 65), (904, 905, 109, 110), (904, 905, 110, 111), (904, 905, 112, 113), (904, 905, 113, 114), (967, 968, 0, 100000), (968, 969, 0, 100000)]
abbrev Q_mo_describe (S : sS) (from_ : Int) (m : Int) (pl : Int) (dfd : Int) (al : Int) : pst := fun r S1 => HI S1 ∧ FR md_mo_describe S S1 ∧ (r = none ∧ (RDV S1 dfd))
set_option maxRecDepth 100000 in
theorem t_mo_describe {S : sS} (hH : HI S) (from_ : Int) (m : Int) (pl : Int) (dfd : Int) (al : Int) (hfrom_ : 0 ≤ from_ ∧ from_ ≤ 5001) (hm : 0 ≤ m ∧ m ≤ 5010) (hpl : 0 ≤ pl ∧ pl ≤ 1) (hdfd : 0 ≤ dfd ∧ dfd ≤ 1) (hal : -1 ≤ al ∧ al ≤ 15) (hM : LXM S) (hB : ABV S) (hC : DCM S) (hfm : from_ + m ≤ 5001) (hrd : RDV S dfd) (d : Nat) : Mt lay0 (d + 10) m_mo_describe [.ref 904, iv from_, iv m, iv pl, iv dfd, iv al] S (Q_mo_describe S from_ m pl dfd al) := by
  refine Mt_R rfl rfl ?_
  have hF : FR md_mo_describe S S := FR.rf
  have hc16 : 0 ≤ Xi S 904 16 ∧ Xi S 904 16 ≤ 16 := hH.c _ _
  have C10 : ∀ (n10 : Nat) (T1 : sS) (_ : HI T1) (_ : FR md_mo_describe S T1) (v6 : Int), (1 ≤ v6 ∧ v6 ≤ 4) → (m ≤ 6) → (RDV T1 dfd) → n10 = (5 - v6).toNat → Rl lay0 (d + 9) m_mo_describe 10 [(0, .ref 904), (1, iv from_), (2, iv m), (3, iv pl), (4, iv dfd), (5, iv al), (6, iv v6)] [] T1 (Q_mo_describe S from_ m pl dfd al) := by
    intro n10
    induction n10 using Nat.strongRecOn with
    | ind n10 ih10 =>
      intro T1 hHT1 hFT1 v6 w1 w2 R10 hm10
      have w3 : Xi T1 904 16 = Xi S 904 16 := hFT1.x _ _ rfl
      have C90 : ∀  (T2 : sS) (_ : HI T2) (_ : FR md_mo_describe S T2), (RDV T2 dfd) → Rl lay0 (d + 9) m_mo_describe 90 [] [] T2 (Q_mo_describe S from_ m pl dfd al) := by
        intro T2 hHT2 hFT2 R90
        have w4 : Xi T2 904 16 = Xi S 904 16 := hFT2.x _ _ rfl
        refine l_return rfl rfl ?_
        exact ⟨hHT2, hFT2, rfl, (by first | exact R90 | exact R10 | exact hrd)⟩
      refine l_iload rfl rfl ?_
      refine l_iconst rfl ?_
      refine l_icmp_gt rfl rfl (by unfold rg; omega) (by unfold rg; omega) (fun w5 => ?_) (fun w6 => ?_)
      · exact Rl_weak (C90 T1 hHT1 hFT1  (R10)) (True.intro)
      · refine l_iload rfl rfl ?_
        refine l_iload_n rfl rfl ?_
        refine l_icmp_gt rfl rfl (by unfold rg; omega) (by unfold rg; omega) (fun w7 => ?_) (fun w8 => ?_)
        · exact Rl_weak (C90 T1 hHT1 hFT1  (R10)) (True.intro)
        · refine l_aload_n rfl rfl ?_
          refine l_iload_n rfl rfl ?_
          refine l_iload_n rfl rfl ?_
          refine l_iadd rfl ?_
          refine l_iload rfl rfl ?_
          refine l_isub rfl ?_
          refine l_iload rfl rfl ?_
          refine l_iload_n rfl rfl ?_
          refine l_if_eq rfl rfl (by unfold rg; omega) (fun w9 => ?_) (fun w10 => ?_)
          · refine l_iconst rfl ?_
            refine l_callV rfl rfl rfl (t_mo_means hHT1 ((from_ + m) - v6) v6 0 ⟨by omega, by omega⟩ ⟨by omega, by omega⟩ ⟨by omega, by omega⟩ (by first | assumption | omega) (by first | assumption | exact (LXM_FR hFT1 rfl (by assumption : LXM S))) _) ?_
            rintro _ _ ⟨rfl, z12, rfl, w12, w11⟩
            show Rl _ _ _ _ _ [iv z12] _ _
            have x40 : z12 ≠ -1 → z12 < Xi T1 904 16 := fun q => by have t := (by assumption : z12 ≠ -1 → z12 < cM T1 _) q; first | (rw [cM0] at t; exact t) | (rw [cM1] at t; exact t)
            have c40 : Xi T1 904 16 = Xi S 904 16 := hFT1.x 904 16 rfl
            refine l_istore rfl rfl rfl ?_
            refine l_iload rfl rfl ?_
            refine l_iconst rfl ?_
            refine l_icmp_eq rfl rfl (by unfold rg; omega) (by unfold rg; omega) (fun w13 => ?_) (fun w14 => ?_)
            · refine l_iinc rfl rfl rfl rfl ?_
              refine l_goto rfl rfl ?_
              exact Rl_weak (ih10 _ (by omega) T1 hHT1 hFT1 ((v6 + 1)) (by omega) (by omega) (by first | assumption | exact hrd) rfl) (And.intro rfl (And.intro rfl (And.intro rfl (And.intro rfl (And.intro rfl (And.intro rfl (And.intro rfl (True.intro))))))))
            · refine l_iload rfl rfl ?_
              refine l_iconst rfl ?_
              refine l_icmp_eq rfl rfl (by unfold rg; omega) (by unfold rg; omega) (fun w15 => ?_) (fun w16 => ?_)
              · refine l_aload_n rfl rfl ?_
                refine l_iload_n rfl rfl ?_
                refine l_iload_n rfl rfl ?_
                refine l_iload_n rfl rfl ?_
                refine l_iadd rfl ?_
                refine l_iload rfl rfl ?_
                refine l_isub rfl ?_
                refine l_iload rfl rfl ?_
                refine l_iload rfl rfl ?_
                refine l_iconst rfl ?_
                have w17 : 0 ≤ Xi T1 904 16 ∧ Xi T1 904 16 ≤ 16 := hHT1.c _ _
                refine l_callV rfl rfl rfl (t_mo_parted hHT1 from_ ((from_ + m) - v6) z12 dfd 0 ⟨by omega, by omega⟩ ⟨by omega, by omega⟩ ⟨by omega, by omega⟩ ⟨by omega, by omega⟩ ⟨by omega, by omega⟩ (by first | assumption | exact (LXM_FR hFT1 rfl (by assumption : LXM S))) (by first | assumption | exact (ABV_FR hFT1 rfl (by assumption : ABV S))) (by first | assumption | exact (DCM_FR hFT1 rfl (by assumption : DCM S))) (by first | assumption | omega) (by first | assumption | omega) (by first | assumption | omega) (fun i hi => absurd hi (by omega)) (by first | assumption | exact (by assumption : RDV T1 _)) _) ?_
                rintro _ T3 ⟨hHT3, w21, rfl, w18, w19⟩
                have hFT3 : FR md_mo_describe S T3 := FR.tr hFT1 w21 rfl
                show Rl _ _ _ _ _ [] _ _
                refine l_iinc rfl rfl rfl rfl ?_
                refine l_goto rfl rfl ?_
                exact Rl_weak (ih10 _ (by omega) T3 hHT3 hFT3 ((v6 + 1)) (by omega) (by omega) (by first | assumption | exact hrd) rfl) (And.intro rfl (And.intro rfl (And.intro rfl (And.intro rfl (And.intro rfl (And.intro rfl (And.intro rfl (True.intro))))))))
              · refine l_aload_n rfl rfl ?_
                refine l_iload rfl rfl ?_
                refine l_iload rfl rfl ?_
                refine l_callV rfl rfl rfl (t_mo_isBelow hHT1 z12 al ⟨by omega, by omega⟩ ⟨by omega, by omega⟩ (by first | assumption | exact (ABV_FR hFT1 rfl (by assumption : ABV S))) _) ?_
                rintro _ _ ⟨rfl, z23, rfl, w23, w22⟩
                show Rl _ _ _ _ _ [iv z23] _ _
                refine l_if_eq rfl rfl (by unfold rg; omega) (fun w24 => ?_) (fun w25 => ?_)
                · refine l_iinc rfl rfl rfl rfl ?_
                  refine l_goto rfl rfl ?_
                  exact Rl_weak (ih10 _ (by omega) T1 hHT1 hFT1 ((v6 + 1)) (by omega) (by omega) (by first | assumption | exact hrd) rfl) (And.intro rfl (And.intro rfl (And.intro rfl (And.intro rfl (And.intro rfl (And.intro rfl (And.intro rfl (True.intro))))))))
                · refine l_aload_n rfl rfl ?_
                  refine l_iload_n rfl rfl ?_
                  refine l_iload_n rfl rfl ?_
                  refine l_iload_n rfl rfl ?_
                  refine l_iadd rfl ?_
                  refine l_iload rfl rfl ?_
                  refine l_isub rfl ?_
                  refine l_iload rfl rfl ?_
                  refine l_iload rfl rfl ?_
                  refine l_iconst rfl ?_
                  have w26 : 0 ≤ Xi T1 904 16 ∧ Xi T1 904 16 ≤ 16 := hHT1.c _ _
                  refine l_callV rfl rfl rfl (t_mo_parted hHT1 from_ ((from_ + m) - v6) z12 dfd 0 ⟨by omega, by omega⟩ ⟨by omega, by omega⟩ ⟨by omega, by omega⟩ ⟨by omega, by omega⟩ ⟨by omega, by omega⟩ (by first | assumption | exact (LXM_FR hFT1 rfl (by assumption : LXM S))) (by first | assumption | exact (ABV_FR hFT1 rfl (by assumption : ABV S))) (by first | assumption | exact (DCM_FR hFT1 rfl (by assumption : DCM S))) (by first | assumption | omega) (by first | assumption | omega) (by first | assumption | omega) (fun i hi => absurd hi (by omega)) (by first | assumption | exact (by assumption : RDV T1 _)) _) ?_
                  rintro _ T4 ⟨hHT4, w30, rfl, w27, w28⟩
                  have hFT4 : FR md_mo_describe S T4 := FR.tr hFT1 w30 rfl
                  show Rl _ _ _ _ _ [] _ _
                  refine l_iinc rfl rfl rfl rfl ?_
                  refine l_goto rfl rfl ?_
                  exact Rl_weak (ih10 _ (by omega) T4 hHT4 hFT4 ((v6 + 1)) (by omega) (by omega) (by first | assumption | exact hrd) rfl) (And.intro rfl (And.intro rfl (And.intro rfl (And.intro rfl (And.intro rfl (And.intro rfl (And.intro rfl (True.intro))))))))
          · refine l_iconst rfl ?_
            refine l_goto rfl rfl ?_
            refine l_callV rfl rfl rfl (t_mo_means hHT1 ((from_ + m) - v6) v6 1 ⟨by omega, by omega⟩ ⟨by omega, by omega⟩ ⟨by omega, by omega⟩ (by first | assumption | omega) (by first | assumption | exact (LXM_FR hFT1 rfl (by assumption : LXM S))) _) ?_
            rintro _ _ ⟨rfl, z32, rfl, w32, w31⟩
            show Rl _ _ _ _ _ [iv z32] _ _
            have x40 : z32 ≠ -1 → z32 < Xi T1 904 16 := fun q => by have t := (by assumption : z32 ≠ -1 → z32 < cM T1 _) q; first | (rw [cM0] at t; exact t) | (rw [cM1] at t; exact t)
            have c40 : Xi T1 904 16 = Xi S 904 16 := hFT1.x 904 16 rfl
            refine l_istore rfl rfl rfl ?_
            refine l_iload rfl rfl ?_
            refine l_iconst rfl ?_
            refine l_icmp_eq rfl rfl (by unfold rg; omega) (by unfold rg; omega) (fun w33 => ?_) (fun w34 => ?_)
            · refine l_iinc rfl rfl rfl rfl ?_
              refine l_goto rfl rfl ?_
              exact Rl_weak (ih10 _ (by omega) T1 hHT1 hFT1 ((v6 + 1)) (by omega) (by omega) (by first | assumption | exact hrd) rfl) (And.intro rfl (And.intro rfl (And.intro rfl (And.intro rfl (And.intro rfl (And.intro rfl (And.intro rfl (True.intro))))))))
            · refine l_iload rfl rfl ?_
              refine l_iconst rfl ?_
              refine l_icmp_eq rfl rfl (by unfold rg; omega) (by unfold rg; omega) (fun w35 => ?_) (fun w36 => ?_)
              · refine l_aload_n rfl rfl ?_
                refine l_iload_n rfl rfl ?_
                refine l_iload_n rfl rfl ?_
                refine l_iload_n rfl rfl ?_
                refine l_iadd rfl ?_
                refine l_iload rfl rfl ?_
                refine l_isub rfl ?_
                refine l_iload rfl rfl ?_
                refine l_iload rfl rfl ?_
                refine l_iconst rfl ?_
                have w37 : 0 ≤ Xi T1 904 16 ∧ Xi T1 904 16 ≤ 16 := hHT1.c _ _
                refine l_callV rfl rfl rfl (t_mo_parted hHT1 from_ ((from_ + m) - v6) z32 dfd 0 ⟨by omega, by omega⟩ ⟨by omega, by omega⟩ ⟨by omega, by omega⟩ ⟨by omega, by omega⟩ ⟨by omega, by omega⟩ (by first | assumption | exact (LXM_FR hFT1 rfl (by assumption : LXM S))) (by first | assumption | exact (ABV_FR hFT1 rfl (by assumption : ABV S))) (by first | assumption | exact (DCM_FR hFT1 rfl (by assumption : DCM S))) (by first | assumption | omega) (by first | assumption | omega) (by first | assumption | omega) (fun i hi => absurd hi (by omega)) (by first | assumption | exact (by assumption : RDV T1 _)) _) ?_
                rintro _ T5 ⟨hHT5, w41, rfl, w38, w39⟩
                have hFT5 : FR md_mo_describe S T5 := FR.tr hFT1 w41 rfl
                show Rl _ _ _ _ _ [] _ _
                refine l_iinc rfl rfl rfl rfl ?_
                refine l_goto rfl rfl ?_
                exact Rl_weak (ih10 _ (by omega) T5 hHT5 hFT5 ((v6 + 1)) (by omega) (by omega) (by first | assumption | exact hrd) rfl) (And.intro rfl (And.intro rfl (And.intro rfl (And.intro rfl (And.intro rfl (And.intro rfl (And.intro rfl (True.intro))))))))
              · refine l_aload_n rfl rfl ?_
                refine l_iload rfl rfl ?_
                refine l_iload rfl rfl ?_
                refine l_callV rfl rfl rfl (t_mo_isBelow hHT1 z32 al ⟨by omega, by omega⟩ ⟨by omega, by omega⟩ (by first | assumption | exact (ABV_FR hFT1 rfl (by assumption : ABV S))) _) ?_
                rintro _ _ ⟨rfl, z43, rfl, w43, w42⟩
                show Rl _ _ _ _ _ [iv z43] _ _
                refine l_if_eq rfl rfl (by unfold rg; omega) (fun w44 => ?_) (fun w45 => ?_)
                · refine l_iinc rfl rfl rfl rfl ?_
                  refine l_goto rfl rfl ?_
                  exact Rl_weak (ih10 _ (by omega) T1 hHT1 hFT1 ((v6 + 1)) (by omega) (by omega) (by first | assumption | exact hrd) rfl) (And.intro rfl (And.intro rfl (And.intro rfl (And.intro rfl (And.intro rfl (And.intro rfl (And.intro rfl (True.intro))))))))
                · refine l_aload_n rfl rfl ?_
                  refine l_iload_n rfl rfl ?_
                  refine l_iload_n rfl rfl ?_
                  refine l_iload_n rfl rfl ?_
                  refine l_iadd rfl ?_
                  refine l_iload rfl rfl ?_
                  refine l_isub rfl ?_
                  refine l_iload rfl rfl ?_
                  refine l_iload rfl rfl ?_
                  refine l_iconst rfl ?_
                  have w46 : 0 ≤ Xi T1 904 16 ∧ Xi T1 904 16 ≤ 16 := hHT1.c _ _
                  refine l_callV rfl rfl rfl (t_mo_parted hHT1 from_ ((from_ + m) - v6) z32 dfd 0 ⟨by omega, by omega⟩ ⟨by omega, by omega⟩ ⟨by omega, by omega⟩ ⟨by omega, by omega⟩ ⟨by omega, by omega⟩ (by first | assumption | exact (LXM_FR hFT1 rfl (by assumption : LXM S))) (by first | assumption | exact (ABV_FR hFT1 rfl (by assumption : ABV S))) (by first | assumption | exact (DCM_FR hFT1 rfl (by assumption : DCM S))) (by first | assumption | omega) (by first | assumption | omega) (by first | assumption | omega) (fun i hi => absurd hi (by omega)) (by first | assumption | exact (by assumption : RDV T1 _)) _) ?_
                  rintro _ T6 ⟨hHT6, w50, rfl, w47, w48⟩
                  have hFT6 : FR md_mo_describe S T6 := FR.tr hFT1 w50 rfl
                  show Rl _ _ _ _ _ [] _ _
                  refine l_iinc rfl rfl rfl rfl ?_
                  refine l_goto rfl rfl ?_
                  exact Rl_weak (ih10 _ (by omega) T6 hHT6 hFT6 ((v6 + 1)) (by omega) (by omega) (by first | assumption | exact hrd) rfl) (And.intro rfl (And.intro rfl (And.intro rfl (And.intro rfl (And.intro rfl (And.intro rfl (And.intro rfl (True.intro))))))))
  refine l_iload_n rfl rfl ?_
  refine l_bipush rfl rfl ?_
  refine l_icmp_le rfl rfl (by unfold rg; omega) (by unfold rg; omega) (fun w51 => ?_) (fun w52 => ?_)
  · refine l_iconst rfl ?_
    refine l_istore rfl rfl rfl ?_
    exact Rl_weak (C10 _ S hH hF (1) (by omega) (by omega) (by first | assumption | exact hrd) rfl) (And.intro rfl (And.intro rfl (And.intro rfl (And.intro rfl (And.intro rfl (And.intro rfl (And.intro rfl (True.intro))))))))
  · refine l_return rfl rfl ?_
    exact ⟨hH, hF, rfl, (by first | exact R90 | exact R10 | exact hrd)⟩
theorem msR_1 {S : sS} {t n s : Int} (h : msR S t n s ≠ -1) : 1 ≤ n ∧ n ≤ 3 := by
  unfold msR nmR at h
  by_cases q : n < 1 ∨ 3 < n
  · rw [if_pos q] at h
    exact absurd (if_neg (fun x => x.1 rfl)) h
  · omega
abbrev Q_mo_objectOf__2 (S : sS) (from_ : Int) (to : Int) : pst := fun r S1 => S = S1 ∧ (∃ z : Int, r = some (iv z) ∧ (-9 ≤ z ∧ z ≤ 23) ∧ (z ≠ -9 → 0 ≤ z ∧ z < Xi S 904 19) ∧ (z ≠ -9 → from_ < to))
set_option maxRecDepth 100000 in
theorem t_mo_objectOf__2 {S : sS} (hH : HI S) (from_ : Int) (to : Int) (hfrom_ : 0 ≤ from_ ∧ from_ ≤ 5001) (hto : 0 ≤ to ∧ to ≤ 5001) (hM : LXM S) (d : Nat) : Mt lay0 (d + 4) m_mo_objectOf [.ref 904, iv from_, iv to] S (Q_mo_objectOf__2 S from_ to) := by
  refine Mt_R rfl rfl ?_
  have w1 : 0 ≤ Xi S 904 19 ∧ Xi S 904 19 ≤ 24 := hH.c _ _
  have hc19 : 0 ≤ Xi S 904 19 ∧ Xi S 904 19 ≤ 24 := hH.c _ _
  have C28 : ∀ (n28 : Nat) (v3 : Int) (v4 : Int), (0 ≤ v3 ∧ v3 ≤ 5001) → (0 ≤ v4 ∧ v4 ≤ 5001) → (from_ ≤ v3 ∧ v3 ≤ from_ + 1) → (v3 ≤ 5001) → n28 = (5002 - v4).toNat → Rl lay0 (d + 3) m_mo_objectOf 28 [(0, .ref 904), (2, iv to), (3, iv v3), (4, iv v4)] [] S (Q_mo_objectOf__2 S from_ to) := by
    intro n28
    induction n28 using Nat.strongRecOn with
    | ind n28 ih28 =>
      intro v3 v4 w2 w3 w4 w5 hm28
      refine l_iload rfl rfl ?_
      refine l_iload_n rfl rfl ?_
      refine l_icmp_ge rfl rfl (by unfold rg; omega) (by unfold rg; omega) (fun w6 => ?_) (fun w7 => ?_)
      · refine l_aload_n rfl rfl ?_
        refine l_iload_n rfl rfl ?_
        refine l_iload_n rfl rfl ?_
        refine l_iload_n rfl rfl ?_
        refine l_isub rfl ?_
        refine l_iconst rfl ?_
        refine l_callV rfl rfl rfl (t_mo_means__2 hH v3 (to - v3) 4 ⟨by omega, by omega⟩ ⟨by omega, by omega⟩ ⟨by omega, by omega⟩ (by first | assumption | omega) (by first | assumption | exact (by assumption : LXM S)) _) ?_
        rintro _ _ ⟨rfl, z10, rfl, w10, w8, w9⟩
        show Rl _ _ _ _ _ [iv z10] _ _
        have x60 : z10 ≠ -1 → z10 < Xi S 904 19 := fun q => by have t := (by assumption : z10 ≠ -1 → z10 < cM S 4) q; rw [cM4] at t; exact t
        have p60 : z10 ≠ -1 → 1 ≤ to - v3 := fun q => (msR_1 (S := S) (t := v3) (n := to - v3) (s := 4) (by rw [← (by assumption : z10 = msR S _ _ _)]; exact q)).1
        refine l_istore rfl rfl rfl ?_
        refine l_iload rfl rfl ?_
        refine l_iconst rfl ?_
        refine l_icmp_ne rfl rfl (by unfold rg; omega) (by unfold rg; omega) (fun w11 => ?_) (fun w12 => ?_)
        · refine l_iload rfl rfl ?_
          refine l_ireturn rfl rfl ?_
          exact ⟨rfl, _, rfl, ⟨by omega, by omega⟩, (by omega), (by omega)⟩
        · refine l_bipush rfl rfl ?_
          refine l_goto rfl rfl ?_
          refine l_ireturn rfl rfl ?_
          exact ⟨rfl, _, rfl, ⟨by omega, by omega⟩, (by omega), (by omega)⟩
      · refine l_aload_n rfl rfl ?_
        refine l_gfr rfl rfl rfl rfl rfl (hH.r 904 4 907 rfl) ?_
        refine l_iload rfl rfl ?_
        refine l_iaload (n := 5002) rfl rfl (by omega) (by omega) (by unfold rg; omega) ?_
        have w13 : 0 ≤ (Xi S 907 ((v4).toNat)) ∧ (Xi S 907 ((v4).toNat)) ≤ 154 := hH.c _ _
        refine l_iconst rfl ?_
        refine l_icmp_eq rfl rfl (by unfold rg; omega) (by unfold rg; omega) (fun w14 => ?_) (fun w15 => ?_)
        · refine l_iinc rfl rfl rfl rfl ?_
          refine l_goto rfl rfl ?_
          exact Rl_weak (ih28 _ (by omega) (v3) ((v4 + 1)) (by omega) (by omega) (by omega) (by omega) rfl) (And.intro rfl (And.intro rfl (And.intro rfl (And.intro rfl (True.intro)))))
        · refine l_bipush rfl rfl ?_
          refine l_ireturn rfl rfl ?_
          exact ⟨rfl, _, rfl, ⟨by omega, by omega⟩, (by omega), (by omega)⟩
  refine l_iload_n rfl rfl ?_
  refine l_iload_n rfl rfl ?_
  refine l_icmp_ge rfl rfl (by unfold rg; omega) (by unfold rg; omega) (fun w16 => ?_) (fun w17 => ?_)
  · refine l_iload_n rfl rfl ?_
    refine l_istore_n rfl rfl rfl ?_
    refine l_iload_n rfl rfl ?_
    refine l_istore rfl rfl rfl ?_
    exact Rl_weak (C28 _ (from_) (from_) (by omega) (by omega) (by omega) (by omega) rfl) (And.intro rfl (And.intro rfl (And.intro rfl (And.intro rfl (True.intro)))))
  · refine l_aload_n rfl rfl ?_
    refine l_gfr rfl rfl rfl rfl rfl (hH.r 904 4 907 rfl) ?_
    refine l_iload_n rfl rfl ?_
    refine l_iaload (n := 5002) rfl rfl (by omega) (by omega) (by unfold rg; omega) ?_
    have w18 : 0 ≤ (Xi S 907 ((from_).toNat)) ∧ (Xi S 907 ((from_).toNat)) ≤ 154 := hH.c _ _
    refine l_callS rfl rfl (by decide) rfl (t_mo_isArt hH (Xi S 907 ((from_).toNat)) ⟨by omega, by omega⟩ _) ?_
    rintro _ _ ⟨rfl, z20, rfl, w20, w19⟩
    show Rl _ _ _ _ _ [iv z20] _ _
    refine l_if_eq rfl rfl (by unfold rg; omega) (fun w21 => ?_) (fun w22 => ?_)
    · refine l_iload_n rfl rfl ?_
      refine l_istore_n rfl rfl rfl ?_
      refine l_iload_n rfl rfl ?_
      refine l_istore rfl rfl rfl ?_
      exact Rl_weak (C28 _ (from_) (from_) (by omega) (by omega) (by omega) (by omega) rfl) (And.intro rfl (And.intro rfl (And.intro rfl (And.intro rfl (True.intro)))))
    · refine l_iload_n rfl rfl ?_
      refine l_iconst rfl ?_
      refine l_iadd rfl ?_
      refine l_goto rfl rfl ?_
      refine l_istore_n rfl rfl rfl ?_
      refine l_iload_n rfl rfl ?_
      refine l_istore rfl rfl rfl ?_
      exact Rl_weak (C28 _ ((from_ + 1)) ((from_ + 1)) (by omega) (by omega) (by omega) (by omega) rfl) (And.intro rfl (And.intro rfl (And.intro rfl (And.intro rfl (True.intro)))))


