/-! SAFETY of methods: printed by wip/safe (vc.py, decl.py) -/
/-! SAFETY of the reference: kinds, properties, adjectives as functions -/
def blN (S : sS) (o : Int) : Nat → Int → Int
  | 0, _ => 0
  | f + 1, k => if k < 0 then 0 else if k = o then 1 else blN S o f (Xi S 917 k.toNat)
theorem blN_st {S : sS} {o : Int} (hB : ABV S) : ∀ (f g : Nat) (k : Int), k ≤ 15 → k + 2 ≤ f → k + 2 ≤ g → blN S o f k = blN S o g k
  | 0, 0, _, _, _, _ => rfl
  | 0, g + 1, k, _, h, _ => by
    show 0 = if k < 0 then 0 else _
    rw [if_pos (by omega)]
  | f + 1, 0, k, _, _, h => by
    show (if k < 0 then 0 else _) = 0
    rw [if_pos (by omega)]
  | f + 1, g + 1, k, h1, h2, h3 => by
    show (if k < 0 then 0 else if k = o then 1 else blN S o f (Xi S 917 k.toNat)) = (if k < 0 then 0 else if k = o then 1 else blN S o g (Xi S 917 k.toNat))
    by_cases q : k < 0
    · rw [if_pos q, if_pos q]
    · have a := hB k.toNat (by omega)
      rw [if_neg q, if_neg q, blN_st hB f g (Xi S 917 k.toNat) (by omega) (by omega) (by omega)]
/-- is a kind another, or below it -/
def blR (S : sS) (k o : Int) : Int := blN S o 17 k
theorem blR_n {S : sS} {k o : Int} (h : k < 0) : blR S k o = 0 := if_pos h
theorem blR_e {S : sS} {k o : Int} (h : 0 ≤ k) (e : k = o) : blR S k o = 1 := by
  show (if k < 0 then 0 else if k = o then 1 else _) = 1
  rw [if_neg (by omega), if_pos e]
theorem blR_s {S : sS} {k o : Int} (hB : ABV S) (h : 0 ≤ k) (h2 : k ≤ 15) (e : k ≠ o) : blR S k o = blR S (Xi S 917 k.toNat) o := by
  show (if k < 0 then 0 else if k = o then 1 else blN S o 16 (Xi S 917 k.toNat)) = blN S o 17 (Xi S 917 k.toNat)
  have a := hB k.toNat (by omega)
  rw [if_neg (by omega), if_neg e, blN_st hB 16 17 _ (by omega) (by omega) (by omega)]
def hsN (S : sS) (p : Int) : Nat → Int → Int
  | 0, _ => 0
  | f + 1, k => if k < 0 then 0 else if Xi S 929 (12 * k + p).toNat ≠ 0 then 1 else hsN S p f (Xi S 917 k.toNat)
theorem hsN_st {S : sS} {p : Int} (hB : ABV S) : ∀ (f g : Nat) (k : Int), k ≤ 15 → k + 2 ≤ f → k + 2 ≤ g → hsN S p f k = hsN S p g k
  | 0, 0, _, _, _, _ => rfl
  | 0, g + 1, k, _, h, _ => by
    show 0 = if k < 0 then 0 else _
    rw [if_pos (by omega)]
  | f + 1, 0, k, _, _, h => by
    show (if k < 0 then 0 else _) = 0
    rw [if_pos (by omega)]
  | f + 1, g + 1, k, h1, h2, h3 => by
    show (if k < 0 then 0 else if Xi S 929 (12 * k + p).toNat ≠ 0 then 1 else hsN S p f (Xi S 917 k.toNat)) = (if k < 0 then 0 else if Xi S 929 (12 * k + p).toNat ≠ 0 then 1 else hsN S p g (Xi S 917 k.toNat))
    by_cases q : k < 0
    · rw [if_pos q, if_pos q]
    · have a := hB k.toNat (by omega)
      rw [if_neg q, if_neg q, hsN_st hB f g (Xi S 917 k.toNat) (by omega) (by omega) (by omega)]
/-- has a kind, or one above it, that property -/
def hsR (S : sS) (k p : Int) : Int := hsN S p 17 k
theorem hsR_n {S : sS} {k p : Int} (h : k < 0) : hsR S k p = 0 := if_pos h
theorem hsR_e {S : sS} {k p : Int} (h : 0 ≤ k) (e : Xi S 929 (12 * k + p).toNat ≠ 0) : hsR S k p = 1 := by
  show (if k < 0 then 0 else if Xi S 929 (12 * k + p).toNat ≠ 0 then 1 else _) = 1
  rw [if_neg (by omega), if_pos e]
theorem hsR_s {S : sS} {k p : Int} (hB : ABV S) (h : 0 ≤ k) (h2 : k ≤ 15) (e : Xi S 929 (12 * k + p).toNat = 0) : hsR S k p = hsR S (Xi S 917 k.toNat) p := by
  show (if k < 0 then 0 else if Xi S 929 (12 * k + p).toNat ≠ 0 then 1 else hsN S p 16 (Xi S 917 k.toNat)) = hsN S p 17 (Xi S 917 k.toNat)
  have a := hB k.toNat (by omega)
  rw [if_neg (by omega), if_neg (fun q => q e), hsN_st hB 16 17 _ (by omega) (by omega) (by omega)]
/-- how many of the first properties of a kind are of a type -/
def mtN (S : sS) (k t : Int) : Nat → Int
  | 0 => 0
  | m + 1 => mtN S k t m + (if Xi S 928 m = t ∧ hsR S k m = 1 then 1 else 0)
theorem mtN_s {S : sS} {k t v : Int} (h : 0 ≤ v) : mtN S k t (v + 1).toNat = mtN S k t v.toNat + (if Xi S 928 v.toNat = t ∧ hsR S k v = 1 then 1 else 0) := by
  rw [show (v + 1).toNat = v.toNat + 1 by omega]
  show mtN S k t v.toNat + (if Xi S 928 v.toNat = t ∧ hsR S k (v.toNat : Int) = 1 then 1 else 0) = _
  rw [show ((v.toNat : Nat) : Int) = v by omega]
def mtR (S : sS) (k t : Int) : Int := if k < 0 then 0 else mtN S k t (Xi S 904 32).toNat
/-- how often an adjective is meant -/
noncomputable def adR (S : sS) (t m k f v : Int) : Int := if nmR S t m = -1 then 0 else if Xi S 914 (nmR S t m).toNat = 5 ∧ blR S k (Xi S 921 (Xi S 915 (nmR S t m).toNat).toNat) = 1 ∧ (f ≠ 0 ∨ Xi S 924 (Xi S 915 (nmR S t m).toNat).toNat = 0) then 1 else if Xi S 914 (nmR S t m).toNat = 6 ∧ v ≠ 0 then mtR S k (Xi S 927 (Xi S 915 (nmR S t m).toNat).toNat) else 0
theorem blN_k {S T : sS} {o : Int} (e : ∀ j, Xi T 917 j = Xi S 917 j) : ∀ (f : Nat) (k : Int), blN T o f k = blN S o f k
  | 0, _ => rfl
  | f + 1, k => by
    show (if k < 0 then 0 else if k = o then 1 else blN T o f (Xi T 917 k.toNat)) = (if k < 0 then 0 else if k = o then 1 else blN S o f (Xi S 917 k.toNat))
    rw [e, blN_k e f]
theorem hsN_k {S T : sS} {p : Int} (e : ∀ j, Xi T 917 j = Xi S 917 j) (e2 : ∀ j, Xi T 929 j = Xi S 929 j) : ∀ (f : Nat) (k : Int), hsN T p f k = hsN S p f k
  | 0, _ => rfl
  | f + 1, k => by
    show (if k < 0 then 0 else if Xi T 929 (12 * k + p).toNat ≠ 0 then 1 else hsN T p f (Xi T 917 k.toNat)) = (if k < 0 then 0 else if Xi S 929 (12 * k + p).toNat ≠ 0 then 1 else hsN S p f (Xi S 917 k.toNat))
    rw [e, e2, hsN_k e e2 f]
theorem mtN_k {S T : sS} {k t : Int} (e : ∀ j, Xi T 917 j = Xi S 917 j) (e2 : ∀ j, Xi T 929 j = Xi S 929 j) (e3 : ∀ j, Xi T 928 j = Xi S 928 j) : ∀ m : Nat, mtN T k t m = mtN S k t m
  | 0 => rfl
  | m + 1 => by
    show mtN T k t m + (if Xi T 928 m = t ∧ hsN T m 17 k = 1 then 1 else 0) = mtN S k t m + (if Xi S 928 m = t ∧ hsN S m 17 k = 1 then 1 else 0)
    rw [mtN_k e e2 e3 m, e3, hsN_k e e2]
theorem mtR_k {S T : sS} {k t : Int} (e : ∀ j, Xi T 917 j = Xi S 917 j) (e2 : ∀ j, Xi T 929 j = Xi S 929 j) (e3 : ∀ j, Xi T 928 j = Xi S 928 j) (e4 : Xi T 904 32 = Xi S 904 32) : mtR T k t = mtR S k t := by
  unfold mtR
  rw [e4, mtN_k e e2 e3]
def kAD : List (Nat × Nat) := [(917, 918), (921, 922), (924, 925), (927, 930)]
theorem adR_FR {l : List rec} {S T : sS} {t m k f v : Int} (h : FR l S T) (e : (kdis l kLX && mD l [15]) = true) (e2 : (kdis l kAD && mD l [32]) = true) : adR T t m k f v = adR S t m k f v := by
  unfold adR
  rw [nmR_FR h e]
  rw [Bool.and_eq_true] at e e2
  have q := h.smk e.1
  have r := h.smk e2.1
  have b : ∀ o, blR T k o = blR S k o := fun o => blN_k (fun j => r.x 917 rfl j) 17 k
  have c : ∀ y, mtR T k y = mtR S k y := fun y => by
    unfold mtR
    rw [mD_x h e2.2 32 (by decide), mtN_k (fun j => r.x 917 rfl j) (fun j => r.x 929 rfl j) (fun j => r.x 928 rfl j)]
  rw [q.x 914 rfl, q.x 915 rfl, r.x 921 rfl, r.x 924 rfl, r.x 927 rfl, b, c]
abbrev Q_mo_isBelow__2 (S : sS) (kind : Int) (of_ : Int) : pst := fun r S1 => S = S1 ∧ (∃ z : Int, r = some (iv z) ∧ (0 ≤ z ∧ z ≤ 1) ∧ (z = 1 → 0 ≤ kind ∧ 0 ≤ of_) ∧ (z = blR S kind of_))
set_option maxRecDepth 100000 in
theorem t_mo_isBelow__2 {S : sS} (hH : HI S) (kind : Int) (of_ : Int) (hkind : -1 ≤ kind ∧ kind ≤ 15) (hof_ : -2147483648 ≤ of_ ∧ of_ ≤ 2147483647) (hB : ABV S) (d : Nat) : Mt lay0 (d + 1) m_mo_isBelow [.ref 904, iv kind, iv of_] S (Q_mo_isBelow__2 S kind of_) := by
  refine Mt_R rfl rfl ?_
  have C2 : ∀ (n2 : Nat) (v3 : Int), (-1 ≤ v3 ∧ v3 ≤ 15) → (v3 ≤ kind) → (blR S kind of_ = blR S v3 of_) → n2 = (v3 + 1).toNat → Rl lay0 (d + 0) m_mo_isBelow 2 [(0, .ref 904), (2, iv of_), (3, iv v3)] [] S (Q_mo_isBelow__2 S kind of_) := by
    intro n2
    induction n2 using Nat.strongRecOn with
    | ind n2 ih2 =>
      intro v3 w1 w2 f2 hm2
      have C21 : ∀  (v3 : Int), (-1 ≤ v3 ∧ v3 ≤ 15) → (v3 ≤ kind) → (blR S kind of_ = blR S v3 of_) → (v3 < 0 ∨ v3 ≠ of_ → blR S v3 of_ = 0) → Rl lay0 (d + 0) m_mo_isBelow 21 [(2, iv of_), (3, iv v3)] [] S (Q_mo_isBelow__2 S kind of_) := by
        intro v3 w3 w4 f21 g21
        refine l_iload_n rfl rfl ?_
        refine l_iload_n rfl rfl ?_
        refine l_icmp_ne rfl rfl (by unfold rg; omega) (by unfold rg; omega) (fun w5 => ?_) (fun w6 => ?_)
        · refine l_iconst rfl ?_
          refine l_ireturn rfl rfl ?_
          exact ⟨rfl, _, rfl, ⟨by omega, by omega⟩, (by first | assumption | omega), (by first | (rw [f21]; exact (blR_e (by omega) (by omega)).symm) | (rw [f21]; exact (g21 (by omega)).symm))⟩
        · refine l_iload_n rfl rfl ?_
          refine l_if_lt rfl rfl (by unfold rg; omega) (fun w7 => ?_) (fun w8 => ?_)
          · refine l_iconst rfl ?_
            refine l_ireturn rfl rfl ?_
            exact ⟨rfl, _, rfl, ⟨by omega, by omega⟩, (by first | assumption | omega), (by first | (rw [f21]; exact (blR_e (by omega) (by omega)).symm) | (rw [f21]; exact (g21 (by omega)).symm))⟩
          · refine l_iconst rfl ?_
            refine l_goto rfl rfl ?_
            refine l_ireturn rfl rfl ?_
            exact ⟨rfl, _, rfl, ⟨by omega, by omega⟩, (by first | assumption | omega), (by first | (rw [f21]; exact (blR_e (by omega) (by omega)).symm) | (rw [f21]; exact (g21 (by omega)).symm))⟩
      refine l_iload_n rfl rfl ?_
      refine l_if_lt rfl rfl (by unfold rg; omega) (fun w9 => ?_) (fun w10 => ?_)
      · exact Rl_weak (C21 (v3) (by omega) (by omega) (f2) (fun q => blR_n (by omega))) (And.intro rfl (And.intro rfl (True.intro)))
      · refine l_iload_n rfl rfl ?_
        refine l_iload_n rfl rfl ?_
        refine l_icmp_eq rfl rfl (by unfold rg; omega) (by unfold rg; omega) (fun w11 => ?_) (fun w12 => ?_)
        · exact Rl_weak (C21 (v3) (by omega) (by omega) (f2) (fun q => blR_n (by omega))) (And.intro rfl (And.intro rfl (True.intro)))
        · refine l_aload_n rfl rfl ?_
          refine l_gfr rfl rfl rfl rfl rfl (hH.r 904 17 917 rfl) ?_
          refine l_iload_n rfl rfl ?_
          refine l_iaload (n := 16) rfl rfl (by omega) (by omega) (by unfold rg; omega) ?_
          have w13 : -1 ≤ (Xi S 917 ((v3).toNat)) ∧ (Xi S 917 ((v3).toNat)) ≤ 15 := hH.c _ _
          have b16 : (Xi S 917 ((v3).toNat)) < v3 := by have t := hB (v3).toNat (by omega); omega
          refine l_istore_n rfl rfl rfl ?_
          refine l_goto rfl rfl ?_
          exact Rl_weak (ih2 _ (by omega) ((Xi S 917 ((v3).toNat))) (by omega) (by omega) (by first | rfl | exact f2.trans (blR_s hB (by omega) (by omega) (by omega))) rfl) (And.intro rfl (And.intro rfl (And.intro rfl (True.intro))))
  refine l_iload_n rfl rfl ?_
  refine l_istore_n rfl rfl rfl ?_
  exact Rl_weak (C2 _ (kind) (by omega) (by omega) (by first | rfl | exact f2.trans (blR_s hB (by omega) (by omega) (by omega))) rfl) (And.intro rfl (And.intro rfl (And.intro rfl (True.intro))))
abbrev Q_mo_has__2 (S : sS) (kind : Int) (p : Int) : pst := fun r S1 => S = S1 ∧ (∃ z : Int, r = some (iv z) ∧ (0 ≤ z ∧ z ≤ 1) ∧ (z = 1 → 0 ≤ kind) ∧ (z = hsR S kind p))
set_option maxRecDepth 100000 in
theorem t_mo_has__2 {S : sS} (hH : HI S) (kind : Int) (p : Int) (hkind : -1 ≤ kind ∧ kind ≤ 15) (hp : 0 ≤ p ∧ p ≤ 11) (hB : ABV S) (d : Nat) : Mt lay0 (d + 1) m_mo_has [.ref 904, iv kind, iv p] S (Q_mo_has__2 S kind p) := by
  refine Mt_R rfl rfl ?_
  have C2 : ∀ (n2 : Nat) (v3 : Int), (-1 ≤ v3 ∧ v3 ≤ 15) → (v3 ≤ kind) → (hsR S kind p = hsR S v3 p) → n2 = (v3 + 1).toNat → Rl lay0 (d + 0) m_mo_has 2 [(0, .ref 904), (2, iv p), (3, iv v3)] [] S (Q_mo_has__2 S kind p) := by
    intro n2
    induction n2 using Nat.strongRecOn with
    | ind n2 ih2 =>
      intro v3 w1 w2 f2 hm2
      refine l_iload_n rfl rfl ?_
      refine l_if_lt rfl rfl (by unfold rg; omega) (fun w3 => ?_) (fun w4 => ?_)
      · refine l_iconst rfl ?_
        refine l_ireturn rfl rfl ?_
        exact ⟨rfl, _, rfl, ⟨by omega, by omega⟩, (by first | assumption | omega), (by first | (rw [f2]; exact (hsR_e (by omega) (by omega)).symm) | (rw [f2]; exact (hsR_n (by omega)).symm))⟩
      · refine l_aload_n rfl rfl ?_
        refine l_gfr rfl rfl rfl rfl rfl (hH.r 904 34 929 rfl) ?_
        refine l_bipush rfl rfl ?_
        refine l_iload_n rfl rfl ?_
        refine l_imul rfl ?_
        refine l_iload_n rfl rfl ?_
        refine l_iadd rfl ?_
        refine l_baload (n := 192) rfl rfl rfl (by decide) (by omega) (by omega) (by unfold rg; omega) ?_
        have w5 : 0 ≤ (Xi S 929 ((((12 * v3) + p)).toNat)) ∧ (Xi S 929 ((((12 * v3) + p)).toNat)) ≤ 1 := hH.c _ _
        refine l_if_eq rfl rfl (by unfold rg; omega) (fun w6 => ?_) (fun w7 => ?_)
        · refine l_aload_n rfl rfl ?_
          refine l_gfr rfl rfl rfl rfl rfl (hH.r 904 17 917 rfl) ?_
          refine l_iload_n rfl rfl ?_
          refine l_iaload (n := 16) rfl rfl (by omega) (by omega) (by unfold rg; omega) ?_
          have w8 : -1 ≤ (Xi S 917 ((v3).toNat)) ∧ (Xi S 917 ((v3).toNat)) ≤ 15 := hH.c _ _
          have b27 : (Xi S 917 ((v3).toNat)) < v3 := by have t := hB (v3).toNat (by omega); omega
          refine l_istore_n rfl rfl rfl ?_
          refine l_goto rfl rfl ?_
          exact Rl_weak (ih2 _ (by omega) ((Xi S 917 ((v3).toNat))) (by omega) (by omega) (by first | rfl | exact f2.trans (hsR_s hB (by omega) (by omega) (by omega))) rfl) (And.intro rfl (And.intro rfl (And.intro rfl (True.intro))))
        · refine l_iconst rfl ?_
          refine l_ireturn rfl rfl ?_
          exact ⟨rfl, _, rfl, ⟨by omega, by omega⟩, (by first | assumption | omega), (by first | (rw [f2]; exact (hsR_e (by omega) (by omega)).symm) | (rw [f2]; exact (hsR_n (by omega)).symm))⟩
  refine l_iload_n rfl rfl ?_
  refine l_istore_n rfl rfl rfl ?_
  exact Rl_weak (C2 _ (kind) (by omega) (by omega) (by first | rfl | exact f2.trans (hsR_s hB (by omega) (by omega) (by omega))) rfl) (And.intro rfl (And.intro rfl (And.intro rfl (True.intro))))
def md_mo_propertyOf__2 : List rec := [(904, 905, 64, 65)]
abbrev Q_mo_propertyOf__2 (S : sS) (kind : Int) (type : Int) : pst := fun r S1 => HI S1 ∧ FR md_mo_propertyOf__2 S S1 ∧ (∃ z : Int, r = some (iv z) ∧ (-1 ≤ z ∧ z ≤ 11) ∧ (z = -1 → Xi S1 904 64 = 0) ∧ (z ≠ -1 → z < Xi S 904 32) ∧ (z ≠ -1 → 0 ≤ kind) ∧ (Xi S1 904 64 = mtR S kind type))
set_option maxRecDepth 100000 in
theorem t_mo_propertyOf__2 {S : sS} (hH : HI S) (kind : Int) (type : Int) (hkind : -1 ≤ kind ∧ kind ≤ 15) (htype : -2147483648 ≤ type ∧ type ≤ 2147483647) (hB : ABV S) (d : Nat) : Mt lay0 (d + 2) m_mo_propertyOf [.ref 904, iv kind, iv type] S (Q_mo_propertyOf__2 S kind type) := by
  refine Mt_R rfl rfl ?_
  have hF : FR md_mo_propertyOf__2 S S := FR.rf
  have w1 : 0 ≤ Xi S 904 32 ∧ Xi S 904 32 ≤ 12 := hH.c _ _
  have w2 : 0 ≤ Xi S 904 64 ∧ Xi S 904 64 ≤ 12 := hH.c _ _
  have hc32 : 0 ≤ Xi S 904 32 ∧ Xi S 904 32 ≤ 12 := hH.c _ _
  have C10 : ∀ (n10 : Nat) (T1 : sS) (_ : HI T1) (_ : FR md_mo_propertyOf__2 S T1) (v3 : Int) (v4 : Int), (-1 ≤ v3 ∧ v3 ≤ 11) → (0 ≤ v4 ∧ v4 ≤ 12) → (Xi T1 904 64 ≤ v4) → (v3 = -1 → Xi T1 904 64 = 0) → (v3 ≠ -1 → 1 ≤ Xi T1 904 64) → (v3 ≠ -1 → v3 < Xi S 904 32) → (v3 ≠ -1 → 0 ≤ kind) → (v4 ≤ Xi S 904 32) → (Xi T1 904 64 = if kind < 0 then 0 else mtN S kind type (v4).toNat) → n10 = (13 - v4).toNat → Rl lay0 (d + 1) m_mo_propertyOf 10 [(0, .ref 904), (1, iv kind), (2, iv type), (3, iv v3), (4, iv v4)] [] T1 (Q_mo_propertyOf__2 S kind type) := by
    intro n10
    induction n10 using Nat.strongRecOn with
    | ind n10 ih10 =>
      intro T1 hHT1 hFT1 v3 v4 w3 w4 w5 w6 w7 w8 w9 w10 f10 hm10
      have w11 : Xi T1 904 32 = Xi S 904 32 := hFT1.x _ _ rfl
      have w12 : 0 ≤ Xi T1 904 64 ∧ Xi T1 904 64 ≤ 12 := hHT1.c _ _
      have C74 : ∀  (T2 : sS) (_ : HI T2) (_ : FR md_mo_propertyOf__2 S T2) (v3 : Int), (-1 ≤ v3 ∧ v3 ≤ 11) → (v3 = -1 → Xi T2 904 64 = 0) → (v3 ≠ -1 → v3 < Xi S 904 32) → (v3 ≠ -1 → 0 ≤ kind) → (Xi T2 904 64 = mtR S kind type) → Rl lay0 (d + 1) m_mo_propertyOf 74 [(3, iv v3)] [] T2 (Q_mo_propertyOf__2 S kind type) := by
        intro T2 hHT2 hFT2 v3 w13 w14 w15 w16 f74
        have w17 : Xi T2 904 32 = Xi S 904 32 := hFT2.x _ _ rfl
        have w18 : 0 ≤ Xi T2 904 64 ∧ Xi T2 904 64 ≤ 12 := hHT2.c _ _
        refine l_iload_n rfl rfl ?_
        refine l_ireturn rfl rfl ?_
        have w19 : 0 ≤ Xi T2 904 32 ∧ Xi T2 904 32 ≤ 12 := hHT2.c _ _
        have w20 : 0 ≤ Xi T2 904 64 ∧ Xi T2 904 64 ≤ 12 := hHT2.c _ _
        exact ⟨hHT2, hFT2, _, rfl, ⟨by omega, by omega⟩, (by first | assumption | omega), (by first | assumption | omega), (by first | assumption | omega), (f74)⟩
      refine l_iload rfl rfl ?_
      refine l_aload_n rfl rfl ?_
      refine l_gfi rfl rfl rfl rfl rfl ?_
      have p13 : (Xi T1 904 32) = Xi S 904 32 := by first | rfl | exact hFT1.x 904 32 rfl
      refine l_icmp_ge rfl rfl (by unfold rg; omega) (by unfold rg; omega) (fun w21 => ?_) (fun w22 => ?_)
      · have w23 : 0 ≤ Xi T1 904 32 ∧ Xi T1 904 32 ≤ 12 := hHT1.c _ _
        have w24 : 0 ≤ Xi T1 904 64 ∧ Xi T1 904 64 ≤ 12 := hHT1.c _ _
        exact Rl_weak (C74 T1 hHT1 hFT1 (v3) (by omega) (by omega) (by omega) (by omega) (by unfold mtR; rcases Int.lt_or_le kind 0 with kk | kk; (have t := f10; rw [if_pos kk] at t ⊢; exact t); (have t := f10; rw [if_neg (by omega)] at t ⊢; rw [show Xi S 904 32 = v4 by omega]; exact t))) (And.intro rfl (True.intro))
      · refine l_iload_n rfl rfl ?_
        refine l_if_lt rfl rfl (by unfold rg; omega) (fun w25 => ?_) (fun w26 => ?_)
        · have w27 : 0 ≤ Xi T1 904 32 ∧ Xi T1 904 32 ≤ 12 := hHT1.c _ _
          have w28 : 0 ≤ Xi T1 904 64 ∧ Xi T1 904 64 ≤ 12 := hHT1.c _ _
          exact Rl_weak (C74 T1 hHT1 hFT1 (v3) (by omega) (by omega) (by omega) (by omega) (by unfold mtR; rcases Int.lt_or_le kind 0 with kk | kk; (have t := f10; rw [if_pos kk] at t ⊢; exact t); (have t := f10; rw [if_neg (by omega)] at t ⊢; rw [show Xi S 904 32 = v4 by omega]; exact t))) (And.intro rfl (True.intro))
        · refine l_aload_n rfl rfl ?_
          refine l_gfr rfl rfl rfl rfl rfl (hHT1.r 904 33 928 rfl) ?_
          refine l_iload rfl rfl ?_
          refine l_iaload (n := 12) rfl rfl (by omega) (by omega) (by unfold rg; omega) ?_
          have w29 : 0 ≤ (Xi T1 928 ((v4).toNat)) ∧ (Xi T1 928 ((v4).toNat)) ≤ 7 := hHT1.c _ _
          have t29 : (Xi T1 928 ((v4).toNat)) = Xi S 928 (v4).toNat := by first | rfl | exact (hFT1.cx 928 rfl _).1
          refine l_iload_n rfl rfl ?_
          refine l_icmp_ne rfl rfl (by unfold rg; omega) (by unfold rg; omega) (fun w30 => ?_) (fun w31 => ?_)
          · refine l_iinc rfl rfl rfl rfl ?_
            refine l_goto rfl rfl ?_
            have w32 : 0 ≤ Xi T1 904 32 ∧ Xi T1 904 32 ≤ 12 := hHT1.c _ _
            have w33 : 0 ≤ Xi T1 904 64 ∧ Xi T1 904 64 ≤ 12 := hHT1.c _ _
            exact Rl_weak (ih10 _ (by omega) T1 hHT1 hFT1 (v3) ((v4 + 1)) (by omega) (by omega) (by omega) (by omega) (by omega) (by omega) (by omega) (by omega) (by first | (rw [show Xi T1 904 64 = 0 by omega]; split <;> rfl) | (rw [if_neg (by omega), mtN_s (by omega), if_pos ⟨by omega, by omega⟩]; have t := f10; rw [if_neg (by omega)] at t; omega) | (rw [if_neg (by omega), mtN_s (by omega), if_neg (fun q => by omega)]; have t := f10; rw [if_neg (by omega)] at t; omega)) rfl) (And.intro rfl (And.intro rfl (And.intro rfl (And.intro rfl (And.intro rfl (True.intro))))))
          · refine l_aload_n rfl rfl ?_
            refine l_iload_n rfl rfl ?_
            refine l_iload rfl rfl ?_
            have w34 : 0 ≤ Xi T1 904 32 ∧ Xi T1 904 32 ≤ 12 := hHT1.c _ _
            have w35 : 0 ≤ Xi T1 904 64 ∧ Xi T1 904 64 ≤ 12 := hHT1.c _ _
            refine l_callV rfl rfl rfl (t_mo_has__2 hHT1 kind v4 ⟨by omega, by omega⟩ ⟨by omega, by omega⟩ (by first | assumption | exact (ABV_FR hFT1 rfl (by assumption : ABV S))) _) ?_
            rintro _ _ ⟨rfl, z38, rfl, w38, w36, w37⟩
            show Rl _ _ _ _ _ [iv z38] _ _
            have h38 : z38 = hsR S kind v4 := by first | assumption | exact (by assumption : z38 = hsR T1 kind v4).trans (hsN_k (fun j => (hFT1.cx 917 rfl j).1) (fun j => (hFT1.cx 929 rfl j).1) 17 kind)
            refine l_if_eq rfl rfl (by unfold rg; omega) (fun w39 => ?_) (fun w40 => ?_)
            · refine l_iinc rfl rfl rfl rfl ?_
              refine l_goto rfl rfl ?_
              have w41 : 0 ≤ Xi T1 904 32 ∧ Xi T1 904 32 ≤ 12 := hHT1.c _ _
              have w42 : 0 ≤ Xi T1 904 64 ∧ Xi T1 904 64 ≤ 12 := hHT1.c _ _
              exact Rl_weak (ih10 _ (by omega) T1 hHT1 hFT1 (v3) ((v4 + 1)) (by omega) (by omega) (by omega) (by omega) (by omega) (by omega) (by omega) (by omega) (by first | (rw [show Xi T1 904 64 = 0 by omega]; split <;> rfl) | (rw [if_neg (by omega), mtN_s (by omega), if_pos ⟨by omega, by omega⟩]; have t := f10; rw [if_neg (by omega)] at t; omega) | (rw [if_neg (by omega), mtN_s (by omega), if_neg (fun q => by omega)]; have t := f10; rw [if_neg (by omega)] at t; omega)) rfl) (And.intro rfl (And.intro rfl (And.intro rfl (And.intro rfl (And.intro rfl (True.intro))))))
            · refine l_aload_n rfl rfl ?_
              refine l_gfi rfl rfl rfl rfl rfl ?_
              refine l_if_ne rfl rfl (by unfold rg; omega) (fun w43 => ?_) (fun w44 => ?_)
              · refine l_iload_n rfl rfl ?_
                refine l_istore_n rfl rfl rfl ?_
                refine l_aload_n rfl rfl ?_
                refine l_dup rfl rfl ?_
                refine l_gfi rfl rfl rfl rfl rfl ?_
                refine l_iconst rfl ?_
                refine l_iadd rfl ?_
                refine l_pfi rfl rfl rfl rfl ?_
                obtain ⟨U3, eU3⟩ : ∃ T : sS, T = uI T1 904 64 (Int32.ofInt ((Xi T1 904 64) + 1)) := ⟨_, rfl⟩
                rw [← eU3]
                have hHU3 : HI U3 := by rw [eU3]; exact HI_w hHT1 (show 0 ≤ ((Xi T1 904 64) + 1) by omega) (show ((Xi T1 904 64) + 1) ≤ 12 by omega)
                have hFU3 : FR md_mo_propertyOf__2 S U3 := by rw [eU3]; exact FR.wI hFT1 (mdf_i (r := (904, 905, 64, 65)) (List.mem_of_getElem? (i := 0) rfl) (inR_i (by omega) (by omega) (by omega) (by omega)))
                have w45 : Xi U3 904 64 = ((Xi T1 904 64) + 1) := by rw [eU3]; exact Xi_same (by unfold rg; omega)
                refine l_iinc rfl rfl rfl rfl ?_
                refine l_goto rfl rfl ?_
                have w46 : Xi U3 904 32 = Xi T1 904 32 := (show Xi U3 904 32 = Xi T1 904 32 from by rw [eU3]; exact Xi_ne (by omega))
                have w47 : 0 ≤ Xi T1 904 32 ∧ Xi T1 904 32 ≤ 12 := hHT1.c _ _
                have w48 : 0 ≤ Xi U3 904 64 ∧ Xi U3 904 64 ≤ 12 := hHU3.c _ _
                exact Rl_weak (ih10 _ (by omega) U3 hHU3 hFU3 (v3) ((v4 + 1)) (by omega) (by omega) (by omega) (by omega) (by omega) (by omega) (by omega) (by omega) (by first | (rw [show Xi U3 904 64 = 0 by omega]; split <;> rfl) | (rw [if_neg (by omega), mtN_s (by omega), if_pos ⟨by omega, by omega⟩]; have t := f10; rw [if_neg (by omega)] at t; omega) | (rw [if_neg (by omega), mtN_s (by omega), if_neg (fun q => by omega)]; have t := f10; rw [if_neg (by omega)] at t; omega)) rfl) (And.intro rfl (And.intro rfl (And.intro rfl (And.intro rfl (And.intro rfl (True.intro))))))
              · refine l_iload rfl rfl ?_
                refine l_goto rfl rfl ?_
                refine l_istore_n rfl rfl rfl ?_
                refine l_aload_n rfl rfl ?_
                refine l_dup rfl rfl ?_
                refine l_gfi rfl rfl rfl rfl rfl ?_
                refine l_iconst rfl ?_
                refine l_iadd rfl ?_
                refine l_pfi rfl rfl rfl rfl ?_
                obtain ⟨U4, eU4⟩ : ∃ T : sS, T = uI T1 904 64 (Int32.ofInt ((Xi T1 904 64) + 1)) := ⟨_, rfl⟩
                rw [← eU4]
                have hHU4 : HI U4 := by rw [eU4]; exact HI_w hHT1 (show 0 ≤ ((Xi T1 904 64) + 1) by omega) (show ((Xi T1 904 64) + 1) ≤ 12 by omega)
                have hFU4 : FR md_mo_propertyOf__2 S U4 := by rw [eU4]; exact FR.wI hFT1 (mdf_i (r := (904, 905, 64, 65)) (List.mem_of_getElem? (i := 0) rfl) (inR_i (by omega) (by omega) (by omega) (by omega)))
                have w49 : Xi U4 904 64 = ((Xi T1 904 64) + 1) := by rw [eU4]; exact Xi_same (by unfold rg; omega)
                refine l_iinc rfl rfl rfl rfl ?_
                refine l_goto rfl rfl ?_
                have w50 : Xi U4 904 32 = Xi T1 904 32 := (show Xi U4 904 32 = Xi T1 904 32 from by rw [eU4]; exact Xi_ne (by omega))
                have w51 : 0 ≤ Xi T1 904 32 ∧ Xi T1 904 32 ≤ 12 := hHT1.c _ _
                have w52 : 0 ≤ Xi U4 904 64 ∧ Xi U4 904 64 ≤ 12 := hHU4.c _ _
                exact Rl_weak (ih10 _ (by omega) U4 hHU4 hFU4 (v4) ((v4 + 1)) (by omega) (by omega) (by omega) (by omega) (by omega) (by omega) (by omega) (by omega) (by first | (rw [show Xi U4 904 64 = 0 by omega]; split <;> rfl) | (rw [if_neg (by omega), mtN_s (by omega), if_pos ⟨by omega, by omega⟩]; have t := f10; rw [if_neg (by omega)] at t; omega) | (rw [if_neg (by omega), mtN_s (by omega), if_neg (fun q => by omega)]; have t := f10; rw [if_neg (by omega)] at t; omega)) rfl) (And.intro rfl (And.intro rfl (And.intro rfl (And.intro rfl (And.intro rfl (True.intro))))))
  refine l_iconst rfl ?_
  refine l_istore_n rfl rfl rfl ?_
  refine l_aload_n rfl rfl ?_
  refine l_iconst rfl ?_
  refine l_pfi rfl rfl rfl rfl ?_
  obtain ⟨U5, eU5⟩ : ∃ T : sS, T = uI S 904 64 (Int32.ofInt 0) := ⟨_, rfl⟩
  rw [← eU5]
  have hHU5 : HI U5 := by rw [eU5]; exact HI_w hH (show 0 ≤ 0 by omega) (show 0 ≤ 12 by omega)
  have hFU5 : FR md_mo_propertyOf__2 S U5 := by rw [eU5]; exact FR.wI hF (mdf_i (r := (904, 905, 64, 65)) (List.mem_of_getElem? (i := 0) rfl) (inR_i (by omega) (by omega) (by omega) (by omega)))
  have w53 : Xi U5 904 64 = 0 := by rw [eU5]; exact Xi_same (by unfold rg; omega)
  refine l_iconst rfl ?_
  refine l_istore rfl rfl rfl ?_
  have w54 : Xi U5 904 32 = Xi S 904 32 := (show Xi U5 904 32 = Xi S 904 32 from by rw [eU5]; exact Xi_ne (by omega))
  have w55 : 0 ≤ Xi S 904 32 ∧ Xi S 904 32 ≤ 12 := hH.c _ _
  have w56 : 0 ≤ Xi U5 904 64 ∧ Xi U5 904 64 ≤ 12 := hHU5.c _ _
  exact Rl_weak (C10 _ U5 hHU5 hFU5 ((-1)) (0) (by omega) (by omega) (by omega) (by omega) (by omega) (by omega) (by omega) (by omega) (by first | (rw [show Xi U5 904 64 = 0 by omega]; split <;> rfl) | (rw [if_neg (by omega), mtN_s (by omega), if_pos ⟨by omega, by omega⟩]; have t := f10; rw [if_neg (by omega)] at t; omega) | (rw [if_neg (by omega), mtN_s (by omega), if_neg (fun q => by omega)]; have t := f10; rw [if_neg (by omega)] at t; omega)) rfl) (And.intro rfl (And.intro rfl (And.intro rfl (And.intro rfl (And.intro rfl (True.intro))))))
def md_mo_adjective__2 : List rec := [(904, 905, 64, 65), (904, 905, 113, 114)]
abbrev Q_mo_adjective__2 (S : sS) (t : Int) (m : Int) (kind : Int) (dfd : Int) (vls : Int) : pst := fun r S1 => HI S1 ∧ FR md_mo_adjective__2 S S1 ∧ (∃ z : Int, r = some (iv z) ∧ (0 ≤ z ∧ z ≤ 12) ∧ (1 ≤ z → ADM S1 (Xi S1 904 113)) ∧ (1 ≤ z → dfd = 0 → Xi S1 904 113 < 100 → Xi S 922 (Xi S1 904 113).toNat ≠ -1) ∧ (z = adR S t m kind dfd vls))
set_option maxRecDepth 100000 in
set_option maxHeartbeats 4000000 in
theorem t_mo_adjective__2 {S : sS} (hH : HI S) (t : Int) (m : Int) (kind : Int) (dfd : Int) (vls : Int) (ht : 0 ≤ t ∧ t ≤ 5001) (hm : -2147483648 ≤ m ∧ m ≤ 2147483647) (hkind : -1 ≤ kind ∧ kind ≤ 15) (hdfd : 0 ≤ dfd ∧ dfd ≤ 1) (hvls : 0 ≤ vls ∧ vls ≤ 1) (hn : m ≤ 3 → t + m ≤ 5002) (hM : LXM S) (hB : ABV S) (hC : DCM S) (d : Nat) : Mt lay0 (d + 3) m_mo_adjective [.ref 904, iv t, iv m, iv kind, iv dfd, iv vls] S (Q_mo_adjective__2 S t m kind dfd vls) := by
  refine Mt_R rfl rfl ?_
  have hF : FR md_mo_adjective__2 S S := FR.rf
  have hc3 : 0 ≤ Xi S 904 23 ∧ Xi S 904 23 ≤ 24 := hH.c _ _
  have hc19 : 0 ≤ Xi S 904 19 ∧ Xi S 904 19 ≤ 24 := hH.c _ _
  have hc32 : 0 ≤ Xi S 904 32 ∧ Xi S 904 32 ≤ 12 := hH.c _ _
  have hc30 : 0 ≤ Xi S 904 30 ∧ Xi S 904 30 ≤ 64 := hH.c _ _
  refine l_aload_n rfl rfl ?_
  refine l_iload_n rfl rfl ?_
  refine l_iload_n rfl rfl ?_
  have w1 : -1 ≤ Xi S 904 113 ∧ Xi S 904 113 ≤ 6411 := hH.c _ _
  have w2 : 0 ≤ Xi S 904 15 ∧ Xi S 904 15 ≤ 300 := hH.c _ _
  have w3 : 0 ≤ Xi S 904 23 ∧ Xi S 904 23 ≤ 24 := hH.c _ _
  have w4 : 0 ≤ Xi S 904 32 ∧ Xi S 904 32 ≤ 12 := hH.c _ _
  have w5 : 0 ≤ Xi S 904 64 ∧ Xi S 904 64 ≤ 12 := hH.c _ _
  refine l_callV rfl rfl rfl (t_mo_mean__2 hH t m ⟨by omega, by omega⟩ ⟨by omega, by omega⟩ (by first | assumption | omega) _) ?_
  rintro _ _ ⟨rfl, z7, rfl, w7, w6, m3⟩
  show Rl _ _ _ _ _ [iv z7] _ _
  refine l_istore rfl rfl rfl ?_
  refine l_aload_n rfl rfl ?_
  refine l_iconst rfl ?_
  refine l_pfi rfl rfl rfl rfl ?_
  obtain ⟨U1, eU1⟩ : ∃ T : sS, T = uI S 904 113 (Int32.ofInt (-1)) := ⟨_, rfl⟩
  rw [← eU1]
  have hHU1 : HI U1 := by rw [eU1]; exact HI_w hH (show -1 ≤ (-1) by omega) (show (-1) ≤ 6411 by omega)
  have hFU1 : FR md_mo_adjective__2 S U1 := by rw [eU1]; exact FR.wI hF (mdf_i (r := (904, 905, 113, 114)) (List.mem_of_getElem? (i := 1) rfl) (inR_i (by omega) (by omega) (by omega) (by omega)))
  have w8 : Xi U1 904 113 = (-1) := by rw [eU1]; exact Xi_same (by unfold rg; omega)
  refine l_iload rfl rfl ?_
  refine l_iconst rfl ?_
  refine l_icmp_ne rfl rfl (by unfold rg; omega) (by unfold rg; omega) (fun w9 => ?_) (fun w10 => ?_)
  · refine l_aload_n rfl rfl ?_
    refine l_gfr rfl rfl rfl rfl rfl (hHU1.r 904 13 915 rfl) ?_
    refine l_iload rfl rfl ?_
    refine l_iaload (n := 300) rfl rfl (by omega) (by omega) (by unfold rg; omega) ?_
    have w11 : 0 ≤ (Xi U1 915 ((z7).toNat)) ∧ (Xi U1 915 ((z7).toNat)) ≤ 63 := hHU1.c _ _
    have M27 : LXM U1 := LXM_FR (FR_e eU1) rfl hM
    have y27 : Xi U1 904 23 = Xi S 904 23 ∧ Xi U1 904 30 = Xi S 904 30 ∧ Xi U1 904 15 = Xi S 904 15 := ⟨hFU1.x 904 23 rfl, hFU1.x 904 30 rfl, hFU1.x 904 15 rfl⟩
    have a27 : Xi U1 914 (z7).toNat = 5 → (Xi U1 915 ((z7).toNat)) < Xi S 904 23 := fun q => by have t := lxm (s := 5) M27 (k := z7) (by omega) (by omega) q; rw [cM5] at t; omega
    have b27 : Xi U1 914 (z7).toNat = 6 → (Xi U1 915 ((z7).toNat)) < Xi S 904 30 := fun q => by have t := lxm (s := 6) M27 (k := z7) (by omega) (by omega) q; rw [cM6] at t; omega
    have e27i : (Xi U1 915 ((z7).toNat)) = Xi S 915 (z7).toNat := by first | rfl | exact (hFU1.cx 915 rfl _).1
    refine l_istore rfl rfl rfl ?_
    refine l_aload_n rfl rfl ?_
    refine l_gfr rfl rfl rfl rfl rfl (hHU1.r 904 12 914 rfl) ?_
    refine l_iload rfl rfl ?_
    refine l_iaload (n := 300) rfl rfl (by omega) (by omega) (by unfold rg; omega) ?_
    have w12 : 0 ≤ (Xi U1 914 ((z7).toNat)) ∧ (Xi U1 914 ((z7).toNat)) ≤ 12 := hHU1.c _ _
    have e36 : (Xi U1 914 ((z7).toNat)) = Xi S 914 (z7).toNat := by first | rfl | exact (hFU1.cx 914 rfl _).1
    refine l_iconst rfl ?_
    refine l_icmp_ne rfl rfl (by unfold rg; omega) (by unfold rg; omega) (fun w13 => ?_) (fun w14 => ?_)
    · refine l_aload_n rfl rfl ?_
      refine l_gfr rfl rfl rfl rfl rfl (hHU1.r 904 12 914 rfl) ?_
      refine l_iload rfl rfl ?_
      refine l_iaload (n := 300) rfl rfl (by omega) (by omega) (by unfold rg; omega) ?_
      have e85 : (Xi U1 914 ((z7).toNat)) = Xi S 914 (z7).toNat := by first | rfl | exact (hFU1.cx 914 rfl _).1
      refine l_bipush rfl rfl ?_
      refine l_icmp_ne rfl rfl (by unfold rg; omega) (by unfold rg; omega) (fun w15 => ?_) (fun w16 => ?_)
      · refine l_iconst rfl ?_
        refine l_ireturn rfl rfl ?_
        have w17 : -1 ≤ Xi U1 904 113 ∧ Xi U1 904 113 ≤ 6411 := hHU1.c _ _
        have w18 : Xi U1 904 23 = Xi S 904 23 := (show Xi U1 904 23 = Xi S 904 23 from by rw [eU1]; exact Xi_ne (by omega))
        have w19 : 0 ≤ Xi S 904 23 ∧ Xi S 904 23 ≤ 24 := hH.c _ _
        have w20 : Xi U1 904 32 = Xi S 904 32 := (show Xi U1 904 32 = Xi S 904 32 from by rw [eU1]; exact Xi_ne (by omega))
        have w21 : 0 ≤ Xi S 904 32 ∧ Xi S 904 32 ≤ 12 := hH.c _ _
        have w22 : Xi U1 904 64 = Xi S 904 64 := (show Xi U1 904 64 = Xi S 904 64 from by rw [eU1]; exact Xi_ne (by omega))
        have w23 : 0 ≤ Xi S 904 64 ∧ Xi S 904 64 ≤ 12 := hH.c _ _
        exact ⟨hHU1, hFU1, _, rfl, ⟨by omega, by omega⟩, (fun q => by first | (exfalso; omega) | exact Or.inl ⟨by omega, by omega⟩ | exact Or.inr ⟨by omega, by omega, by omega⟩), (fun q q2 q3 => by first | (exfalso; omega) | (rw [x74]; exact c67 (by omega))), (by first | (exfalso; omega) | skip; unfold adR; rw [← m3]; first | rw [if_pos (by omega)] | (rw [if_neg (by omega), if_pos ⟨by omega, by omega, by omega⟩]) | (rw [if_neg (by omega), if_neg (fun q => by omega), if_pos ⟨by omega, by omega⟩]; omega) | (rw [if_neg (by omega), if_neg (fun q => by omega), if_neg (fun q => by omega)]))⟩
      · refine l_iload rfl rfl ?_
        refine l_if_eq rfl rfl (by unfold rg; omega) (fun w24 => ?_) (fun w25 => ?_)
        · refine l_iconst rfl ?_
          refine l_ireturn rfl rfl ?_
          have w26 : -1 ≤ Xi U1 904 113 ∧ Xi U1 904 113 ≤ 6411 := hHU1.c _ _
          have w27 : Xi U1 904 23 = Xi S 904 23 := (show Xi U1 904 23 = Xi S 904 23 from by rw [eU1]; exact Xi_ne (by omega))
          have w28 : 0 ≤ Xi S 904 23 ∧ Xi S 904 23 ≤ 24 := hH.c _ _
          have w29 : Xi U1 904 32 = Xi S 904 32 := (show Xi U1 904 32 = Xi S 904 32 from by rw [eU1]; exact Xi_ne (by omega))
          have w30 : 0 ≤ Xi S 904 32 ∧ Xi S 904 32 ≤ 12 := hH.c _ _
          have w31 : Xi U1 904 64 = Xi S 904 64 := (show Xi U1 904 64 = Xi S 904 64 from by rw [eU1]; exact Xi_ne (by omega))
          have w32 : 0 ≤ Xi S 904 64 ∧ Xi S 904 64 ≤ 12 := hH.c _ _
          exact ⟨hHU1, hFU1, _, rfl, ⟨by omega, by omega⟩, (fun q => by first | (exfalso; omega) | exact Or.inl ⟨by omega, by omega⟩ | exact Or.inr ⟨by omega, by omega, by omega⟩), (fun q q2 q3 => by first | (exfalso; omega) | (rw [x74]; exact c67 (by omega))), (by first | (exfalso; omega) | skip; unfold adR; rw [← m3]; first | rw [if_pos (by omega)] | (rw [if_neg (by omega), if_pos ⟨by omega, by omega, by omega⟩]) | (rw [if_neg (by omega), if_neg (fun q => by omega), if_pos ⟨by omega, by omega⟩]; omega) | (rw [if_neg (by omega), if_neg (fun q => by omega), if_neg (fun q => by omega)]))⟩
        · refine l_aload_n rfl rfl ?_
          refine l_iload_n rfl rfl ?_
          refine l_aload_n rfl rfl ?_
          refine l_gfr rfl rfl rfl rfl rfl (hHU1.r 904 31 927 rfl) ?_
          refine l_iload rfl rfl ?_
          refine l_iaload (n := 64) rfl rfl (by omega) (by omega) (by unfold rg; omega) ?_
          have w33 : 0 ≤ (Xi U1 927 (((Xi U1 915 ((z7).toNat))).toNat)) ∧ (Xi U1 927 (((Xi U1 915 ((z7).toNat))).toNat)) ≤ 7 := hHU1.c _ _
          have e104 : (Xi U1 927 (((Xi U1 915 ((z7).toNat))).toNat)) = Xi S 927 (Xi S 915 (z7).toNat).toNat := by rw [← e27i]; first | rfl | exact (hFU1.cx 927 rfl _).1
          have w34 : -1 ≤ Xi U1 904 113 ∧ Xi U1 904 113 ≤ 6411 := hHU1.c _ _
          have w35 : Xi U1 904 23 = Xi S 904 23 := (show Xi U1 904 23 = Xi S 904 23 from by rw [eU1]; exact Xi_ne (by omega))
          have w36 : 0 ≤ Xi S 904 23 ∧ Xi S 904 23 ≤ 24 := hH.c _ _
          have w37 : Xi U1 904 32 = Xi S 904 32 := (show Xi U1 904 32 = Xi S 904 32 from by rw [eU1]; exact Xi_ne (by omega))
          have w38 : 0 ≤ Xi S 904 32 ∧ Xi S 904 32 ≤ 12 := hH.c _ _
          have w39 : Xi U1 904 64 = Xi S 904 64 := (show Xi U1 904 64 = Xi S 904 64 from by rw [eU1]; exact Xi_ne (by omega))
          have w40 : 0 ≤ Xi S 904 64 ∧ Xi S 904 64 ≤ 12 := hH.c _ _
          refine l_callV rfl rfl rfl (t_mo_propertyOf__2 hHU1 kind (Xi U1 927 (((Xi U1 915 ((z7).toNat))).toNat)) ⟨by omega, by omega⟩ ⟨by omega, by omega⟩ (by first | assumption | exact (ABV_FR hFU1 rfl (by assumption : ABV S))) _) ?_
          rintro _ T2 ⟨hHT2, w46, z45, rfl, w45, w41, w42, w43, w44⟩
          have hFT2 : FR md_mo_adjective__2 S T2 := FR.tr hFU1 w46 rfl
          show Rl _ _ _ _ _ [iv z45] _ _
          have c105 : Xi T2 904 64 = mtR S kind (Xi S 927 (Xi S 915 (z7).toNat).toNat) := by rw [← e104]; exact (by assumption : Xi T2 904 64 = mtR U1 kind _).trans (mtR_k (fun j => (hFU1.cx 917 rfl j).1) (fun j => (hFU1.cx 929 rfl j).1) (fun j => (hFU1.cx 928 rfl j).1) (hFU1.x 904 32 rfl))
          refine l_istore rfl rfl rfl ?_
          refine l_aload_n rfl rfl ?_
          refine l_iload rfl rfl ?_
          refine l_iconst rfl ?_
          refine l_icmp_ne rfl rfl (by unfold rg; omega) (by unfold rg; omega) (fun w47 => ?_) (fun w48 => ?_)
          · refine l_bipush rfl rfl ?_
            refine l_bipush rfl rfl ?_
            refine l_iload rfl rfl ?_
            refine l_imul rfl ?_
            refine l_iadd rfl ?_
            refine l_iload rfl rfl ?_
            refine l_iadd rfl ?_
            refine l_pfi rfl rfl rfl rfl ?_
            obtain ⟨U3, eU3⟩ : ∃ T : sS, T = uI T2 904 113 (Int32.ofInt ((100 + (100 * (Xi U1 915 ((z7).toNat)))) + z45)) := ⟨_, rfl⟩
            rw [← eU3]
            have hHU3 : HI U3 := by rw [eU3]; exact HI_w hHT2 (show -1 ≤ ((100 + (100 * (Xi U1 915 ((z7).toNat)))) + z45) by omega) (show ((100 + (100 * (Xi U1 915 ((z7).toNat)))) + z45) ≤ 6411 by omega)
            have hFU3 : FR md_mo_adjective__2 S U3 := by rw [eU3]; exact FR.wI hFT2 (mdf_i (r := (904, 905, 113, 114)) (List.mem_of_getElem? (i := 1) rfl) (inR_i (by omega) (by omega) (by omega) (by omega)))
            have w49 : Xi U3 904 113 = ((100 + (100 * (Xi U1 915 ((z7).toNat)))) + z45) := by rw [eU3]; exact Xi_same (by unfold rg; omega)
            have z132 : Xi U3 904 32 = Xi S 904 32 := hFU3.x 904 32 rfl
            have v132 : Xi U3 904 64 = Xi T2 904 64 := by rw [eU3, Xi_ne (by omega)]
            refine l_aload_n rfl rfl ?_
            refine l_gfi rfl rfl rfl rfl rfl ?_
            have w50 : 0 ≤ (Xi U3 904 64) ∧ (Xi U3 904 64) ≤ 12 := hHU3.c _ _
            refine l_ireturn rfl rfl ?_
            have w51 : -1 ≤ Xi U3 904 113 ∧ Xi U3 904 113 ≤ 6411 := hHU3.c _ _
            have w52 : Xi U3 904 23 = Xi S 904 23 := (show Xi U3 904 23 = Xi T2 904 23 from by rw [eU3]; exact Xi_ne (by omega)).trans ( (show Xi T2 904 23 = Xi U1 904 23 from w46.x _ _ rfl).trans ((show Xi U1 904 23 = Xi S 904 23 from by rw [eU1]; exact Xi_ne (by omega))))
            have w53 : 0 ≤ Xi S 904 23 ∧ Xi S 904 23 ≤ 24 := hH.c _ _
            have w54 : Xi U3 904 32 = Xi S 904 32 := (show Xi U3 904 32 = Xi T2 904 32 from by rw [eU3]; exact Xi_ne (by omega)).trans ( (show Xi T2 904 32 = Xi U1 904 32 from w46.x _ _ rfl).trans ((show Xi U1 904 32 = Xi S 904 32 from by rw [eU1]; exact Xi_ne (by omega))))
            have w55 : 0 ≤ Xi S 904 32 ∧ Xi S 904 32 ≤ 12 := hH.c _ _
            have w56 : Xi U3 904 64 = Xi T2 904 64 := (show Xi U3 904 64 = Xi T2 904 64 from by rw [eU3]; exact Xi_ne (by omega))
            have w57 : 0 ≤ Xi T2 904 64 ∧ Xi T2 904 64 ≤ 12 := hHT2.c _ _
            exact ⟨hHU3, hFU3, _, rfl, ⟨by omega, by omega⟩, (fun q => by first | (exfalso; omega) | exact Or.inl ⟨by omega, by omega⟩ | exact Or.inr ⟨by omega, by omega, by omega⟩), (fun q q2 q3 => by first | (exfalso; omega) | (rw [x74]; exact c67 (by omega))), (by first | (exfalso; omega) | skip; unfold adR; rw [← m3]; first | rw [if_pos (by omega)] | (rw [if_neg (by omega), if_pos ⟨by omega, by omega, by omega⟩]) | (rw [if_neg (by omega), if_neg (fun q => by omega), if_pos ⟨by omega, by omega⟩]; omega) | (rw [if_neg (by omega), if_neg (fun q => by omega), if_neg (fun q => by omega)]))⟩
          · refine l_iconst rfl ?_
            refine l_goto rfl rfl ?_
            refine l_pfi rfl rfl rfl rfl ?_
            obtain ⟨U4, eU4⟩ : ∃ T : sS, T = uI T2 904 113 (Int32.ofInt (-1)) := ⟨_, rfl⟩
            rw [← eU4]
            have hHU4 : HI U4 := by rw [eU4]; exact HI_w hHT2 (show -1 ≤ (-1) by omega) (show (-1) ≤ 6411 by omega)
            have hFU4 : FR md_mo_adjective__2 S U4 := by rw [eU4]; exact FR.wI hFT2 (mdf_i (r := (904, 905, 113, 114)) (List.mem_of_getElem? (i := 1) rfl) (inR_i (by omega) (by omega) (by omega) (by omega)))
            have w58 : Xi U4 904 113 = (-1) := by rw [eU4]; exact Xi_same (by unfold rg; omega)
            have z132 : Xi U4 904 32 = Xi S 904 32 := hFU4.x 904 32 rfl
            have v132 : Xi U4 904 64 = Xi T2 904 64 := by rw [eU4, Xi_ne (by omega)]
            refine l_aload_n rfl rfl ?_
            refine l_gfi rfl rfl rfl rfl rfl ?_
            have w59 : 0 ≤ (Xi U4 904 64) ∧ (Xi U4 904 64) ≤ 12 := hHU4.c _ _
            refine l_ireturn rfl rfl ?_
            have w60 : -1 ≤ Xi U4 904 113 ∧ Xi U4 904 113 ≤ 6411 := hHU4.c _ _
            have w61 : Xi U4 904 23 = Xi S 904 23 := (show Xi U4 904 23 = Xi T2 904 23 from by rw [eU4]; exact Xi_ne (by omega)).trans ( (show Xi T2 904 23 = Xi U1 904 23 from w46.x _ _ rfl).trans ((show Xi U1 904 23 = Xi S 904 23 from by rw [eU1]; exact Xi_ne (by omega))))
            have w62 : 0 ≤ Xi S 904 23 ∧ Xi S 904 23 ≤ 24 := hH.c _ _
            have w63 : Xi U4 904 32 = Xi S 904 32 := (show Xi U4 904 32 = Xi T2 904 32 from by rw [eU4]; exact Xi_ne (by omega)).trans ( (show Xi T2 904 32 = Xi U1 904 32 from w46.x _ _ rfl).trans ((show Xi U1 904 32 = Xi S 904 32 from by rw [eU1]; exact Xi_ne (by omega))))
            have w64 : 0 ≤ Xi S 904 32 ∧ Xi S 904 32 ≤ 12 := hH.c _ _
            have w65 : Xi U4 904 64 = Xi T2 904 64 := (show Xi U4 904 64 = Xi T2 904 64 from by rw [eU4]; exact Xi_ne (by omega))
            have w66 : 0 ≤ Xi T2 904 64 ∧ Xi T2 904 64 ≤ 12 := hHT2.c _ _
            exact ⟨hHU4, hFU4, _, rfl, ⟨by omega, by omega⟩, (fun q => by first | (exfalso; omega) | exact Or.inl ⟨by omega, by omega⟩ | exact Or.inr ⟨by omega, by omega, by omega⟩), (fun q q2 q3 => by first | (exfalso; omega) | (rw [x74]; exact c67 (by omega))), (by first | (exfalso; omega) | skip; unfold adR; rw [← m3]; first | rw [if_pos (by omega)] | (rw [if_neg (by omega), if_pos ⟨by omega, by omega, by omega⟩]) | (rw [if_neg (by omega), if_neg (fun q => by omega), if_pos ⟨by omega, by omega⟩]; omega) | (rw [if_neg (by omega), if_neg (fun q => by omega), if_neg (fun q => by omega)]))⟩
    · refine l_aload_n rfl rfl ?_
      refine l_iload_n rfl rfl ?_
      refine l_aload_n rfl rfl ?_
      refine l_gfr rfl rfl rfl rfl rfl (hHU1.r 904 24 921 rfl) ?_
      refine l_iload rfl rfl ?_
      refine l_iaload (n := 24) rfl rfl (by omega) (by omega) (by unfold rg; omega) ?_
      have w67 : 0 ≤ (Xi U1 921 (((Xi U1 915 ((z7).toNat))).toNat)) ∧ (Xi U1 921 (((Xi U1 915 ((z7).toNat))).toNat)) ≤ 15 := hHU1.c _ _
      have e49 : (Xi U1 921 (((Xi U1 915 ((z7).toNat))).toNat)) = Xi S 921 (Xi S 915 (z7).toNat).toNat := by rw [← e27i]; first | rfl | exact (hFU1.cx 921 rfl _).1
      have w68 : -1 ≤ Xi U1 904 113 ∧ Xi U1 904 113 ≤ 6411 := hHU1.c _ _
      have w69 : Xi U1 904 23 = Xi S 904 23 := (show Xi U1 904 23 = Xi S 904 23 from by rw [eU1]; exact Xi_ne (by omega))
      have w70 : 0 ≤ Xi S 904 23 ∧ Xi S 904 23 ≤ 24 := hH.c _ _
      have w71 : Xi U1 904 32 = Xi S 904 32 := (show Xi U1 904 32 = Xi S 904 32 from by rw [eU1]; exact Xi_ne (by omega))
      have w72 : 0 ≤ Xi S 904 32 ∧ Xi S 904 32 ≤ 12 := hH.c _ _
      have w73 : Xi U1 904 64 = Xi S 904 64 := (show Xi U1 904 64 = Xi S 904 64 from by rw [eU1]; exact Xi_ne (by omega))
      have w74 : 0 ≤ Xi S 904 64 ∧ Xi S 904 64 ≤ 12 := hH.c _ _
      refine l_callV rfl rfl rfl (t_mo_isBelow__2 hHU1 kind (Xi U1 921 (((Xi U1 915 ((z7).toNat))).toNat)) ⟨by omega, by omega⟩ ⟨by omega, by omega⟩ (by first | assumption | exact (ABV_FR hFU1 rfl (by assumption : ABV S))) _) ?_
      rintro _ _ ⟨rfl, z77, rfl, w77, w75, w76⟩
      show Rl _ _ _ _ _ [iv z77] _ _
      have b50 : z77 = blR S kind (Xi S 921 (Xi S 915 (z7).toNat).toNat) := by rw [← e49]; exact (by assumption : z77 = blR U1 kind _).trans (blN_k (fun j => (hFU1.cx 917 rfl j).1) 17 kind)
      refine l_if_eq rfl rfl (by unfold rg; omega) (fun w78 => ?_) (fun w79 => ?_)
      · refine l_aload_n rfl rfl ?_
        refine l_gfr rfl rfl rfl rfl rfl (hHU1.r 904 12 914 rfl) ?_
        refine l_iload rfl rfl ?_
        refine l_iaload (n := 300) rfl rfl (by omega) (by omega) (by unfold rg; omega) ?_
        have e85 : (Xi U1 914 ((z7).toNat)) = Xi S 914 (z7).toNat := by first | rfl | exact (hFU1.cx 914 rfl _).1
        refine l_bipush rfl rfl ?_
        refine l_icmp_ne rfl rfl (by unfold rg; omega) (by unfold rg; omega) (fun w80 => ?_) (fun w81 => ?_)
        · refine l_iconst rfl ?_
          refine l_ireturn rfl rfl ?_
          have w82 : -1 ≤ Xi U1 904 113 ∧ Xi U1 904 113 ≤ 6411 := hHU1.c _ _
          have w83 : Xi U1 904 23 = Xi S 904 23 := (show Xi U1 904 23 = Xi S 904 23 from by rw [eU1]; exact Xi_ne (by omega))
          have w84 : 0 ≤ Xi S 904 23 ∧ Xi S 904 23 ≤ 24 := hH.c _ _
          have w85 : Xi U1 904 32 = Xi S 904 32 := (show Xi U1 904 32 = Xi S 904 32 from by rw [eU1]; exact Xi_ne (by omega))
          have w86 : 0 ≤ Xi S 904 32 ∧ Xi S 904 32 ≤ 12 := hH.c _ _
          have w87 : Xi U1 904 64 = Xi S 904 64 := (show Xi U1 904 64 = Xi S 904 64 from by rw [eU1]; exact Xi_ne (by omega))
          have w88 : 0 ≤ Xi S 904 64 ∧ Xi S 904 64 ≤ 12 := hH.c _ _
          exact ⟨hHU1, hFU1, _, rfl, ⟨by omega, by omega⟩, (fun q => by first | (exfalso; omega) | exact Or.inl ⟨by omega, by omega⟩ | exact Or.inr ⟨by omega, by omega, by omega⟩), (fun q q2 q3 => by first | (exfalso; omega) | (rw [x74]; exact c67 (by omega))), (by first | (exfalso; omega) | skip; unfold adR; rw [← m3]; first | rw [if_pos (by omega)] | (rw [if_neg (by omega), if_pos ⟨by omega, by omega, by omega⟩]) | (rw [if_neg (by omega), if_neg (fun q => by omega), if_pos ⟨by omega, by omega⟩]; omega) | (rw [if_neg (by omega), if_neg (fun q => by omega), if_neg (fun q => by omega)]))⟩
        · refine l_iload rfl rfl ?_
          refine l_if_eq rfl rfl (by unfold rg; omega) (fun w89 => ?_) (fun w90 => ?_)
          · refine l_iconst rfl ?_
            refine l_ireturn rfl rfl ?_
            have w91 : -1 ≤ Xi U1 904 113 ∧ Xi U1 904 113 ≤ 6411 := hHU1.c _ _
            have w92 : Xi U1 904 23 = Xi S 904 23 := (show Xi U1 904 23 = Xi S 904 23 from by rw [eU1]; exact Xi_ne (by omega))
            have w93 : 0 ≤ Xi S 904 23 ∧ Xi S 904 23 ≤ 24 := hH.c _ _
            have w94 : Xi U1 904 32 = Xi S 904 32 := (show Xi U1 904 32 = Xi S 904 32 from by rw [eU1]; exact Xi_ne (by omega))
            have w95 : 0 ≤ Xi S 904 32 ∧ Xi S 904 32 ≤ 12 := hH.c _ _
            have w96 : Xi U1 904 64 = Xi S 904 64 := (show Xi U1 904 64 = Xi S 904 64 from by rw [eU1]; exact Xi_ne (by omega))
            have w97 : 0 ≤ Xi S 904 64 ∧ Xi S 904 64 ≤ 12 := hH.c _ _
            exact ⟨hHU1, hFU1, _, rfl, ⟨by omega, by omega⟩, (fun q => by first | (exfalso; omega) | exact Or.inl ⟨by omega, by omega⟩ | exact Or.inr ⟨by omega, by omega, by omega⟩), (fun q q2 q3 => by first | (exfalso; omega) | (rw [x74]; exact c67 (by omega))), (by first | (exfalso; omega) | skip; unfold adR; rw [← m3]; first | rw [if_pos (by omega)] | (rw [if_neg (by omega), if_pos ⟨by omega, by omega, by omega⟩]) | (rw [if_neg (by omega), if_neg (fun q => by omega), if_pos ⟨by omega, by omega⟩]; omega) | (rw [if_neg (by omega), if_neg (fun q => by omega), if_neg (fun q => by omega)]))⟩
          · refine l_aload_n rfl rfl ?_
            refine l_iload_n rfl rfl ?_
            refine l_aload_n rfl rfl ?_
            refine l_gfr rfl rfl rfl rfl rfl (hHU1.r 904 31 927 rfl) ?_
            refine l_iload rfl rfl ?_
            refine l_iaload (n := 64) rfl rfl (by omega) (by omega) (by unfold rg; omega) ?_
            have w98 : 0 ≤ (Xi U1 927 (((Xi U1 915 ((z7).toNat))).toNat)) ∧ (Xi U1 927 (((Xi U1 915 ((z7).toNat))).toNat)) ≤ 7 := hHU1.c _ _
            have e104 : (Xi U1 927 (((Xi U1 915 ((z7).toNat))).toNat)) = Xi S 927 (Xi S 915 (z7).toNat).toNat := by rw [← e27i]; first | rfl | exact (hFU1.cx 927 rfl _).1
            have w99 : -1 ≤ Xi U1 904 113 ∧ Xi U1 904 113 ≤ 6411 := hHU1.c _ _
            have w100 : Xi U1 904 23 = Xi S 904 23 := (show Xi U1 904 23 = Xi S 904 23 from by rw [eU1]; exact Xi_ne (by omega))
            have w101 : 0 ≤ Xi S 904 23 ∧ Xi S 904 23 ≤ 24 := hH.c _ _
            have w102 : Xi U1 904 32 = Xi S 904 32 := (show Xi U1 904 32 = Xi S 904 32 from by rw [eU1]; exact Xi_ne (by omega))
            have w103 : 0 ≤ Xi S 904 32 ∧ Xi S 904 32 ≤ 12 := hH.c _ _
            have w104 : Xi U1 904 64 = Xi S 904 64 := (show Xi U1 904 64 = Xi S 904 64 from by rw [eU1]; exact Xi_ne (by omega))
            have w105 : 0 ≤ Xi S 904 64 ∧ Xi S 904 64 ≤ 12 := hH.c _ _
            refine l_callV rfl rfl rfl (t_mo_propertyOf__2 hHU1 kind (Xi U1 927 (((Xi U1 915 ((z7).toNat))).toNat)) ⟨by omega, by omega⟩ ⟨by omega, by omega⟩ (by first | assumption | exact (ABV_FR hFU1 rfl (by assumption : ABV S))) _) ?_
            rintro _ T5 ⟨hHT5, w111, z110, rfl, w110, w106, w107, w108, w109⟩
            have hFT5 : FR md_mo_adjective__2 S T5 := FR.tr hFU1 w111 rfl
            show Rl _ _ _ _ _ [iv z110] _ _
            have c105 : Xi T5 904 64 = mtR S kind (Xi S 927 (Xi S 915 (z7).toNat).toNat) := by rw [← e104]; exact (by assumption : Xi T5 904 64 = mtR U1 kind _).trans (mtR_k (fun j => (hFU1.cx 917 rfl j).1) (fun j => (hFU1.cx 929 rfl j).1) (fun j => (hFU1.cx 928 rfl j).1) (hFU1.x 904 32 rfl))
            refine l_istore rfl rfl rfl ?_
            refine l_aload_n rfl rfl ?_
            refine l_iload rfl rfl ?_
            refine l_iconst rfl ?_
            refine l_icmp_ne rfl rfl (by unfold rg; omega) (by unfold rg; omega) (fun w112 => ?_) (fun w113 => ?_)
            · refine l_bipush rfl rfl ?_
              refine l_bipush rfl rfl ?_
              refine l_iload rfl rfl ?_
              refine l_imul rfl ?_
              refine l_iadd rfl ?_
              refine l_iload rfl rfl ?_
              refine l_iadd rfl ?_
              refine l_pfi rfl rfl rfl rfl ?_
              obtain ⟨U6, eU6⟩ : ∃ T : sS, T = uI T5 904 113 (Int32.ofInt ((100 + (100 * (Xi U1 915 ((z7).toNat)))) + z110)) := ⟨_, rfl⟩
              rw [← eU6]
              have hHU6 : HI U6 := by rw [eU6]; exact HI_w hHT5 (show -1 ≤ ((100 + (100 * (Xi U1 915 ((z7).toNat)))) + z110) by omega) (show ((100 + (100 * (Xi U1 915 ((z7).toNat)))) + z110) ≤ 6411 by omega)
              have hFU6 : FR md_mo_adjective__2 S U6 := by rw [eU6]; exact FR.wI hFT5 (mdf_i (r := (904, 905, 113, 114)) (List.mem_of_getElem? (i := 1) rfl) (inR_i (by omega) (by omega) (by omega) (by omega)))
              have w114 : Xi U6 904 113 = ((100 + (100 * (Xi U1 915 ((z7).toNat)))) + z110) := by rw [eU6]; exact Xi_same (by unfold rg; omega)
              have z132 : Xi U6 904 32 = Xi S 904 32 := hFU6.x 904 32 rfl
              have v132 : Xi U6 904 64 = Xi T5 904 64 := by rw [eU6, Xi_ne (by omega)]
              refine l_aload_n rfl rfl ?_
              refine l_gfi rfl rfl rfl rfl rfl ?_
              have w115 : 0 ≤ (Xi U6 904 64) ∧ (Xi U6 904 64) ≤ 12 := hHU6.c _ _
              refine l_ireturn rfl rfl ?_
              have w116 : -1 ≤ Xi U6 904 113 ∧ Xi U6 904 113 ≤ 6411 := hHU6.c _ _
              have w117 : Xi U6 904 23 = Xi S 904 23 := (show Xi U6 904 23 = Xi T5 904 23 from by rw [eU6]; exact Xi_ne (by omega)).trans ( (show Xi T5 904 23 = Xi U1 904 23 from w111.x _ _ rfl).trans ((show Xi U1 904 23 = Xi S 904 23 from by rw [eU1]; exact Xi_ne (by omega))))
              have w118 : 0 ≤ Xi S 904 23 ∧ Xi S 904 23 ≤ 24 := hH.c _ _
              have w119 : Xi U6 904 32 = Xi S 904 32 := (show Xi U6 904 32 = Xi T5 904 32 from by rw [eU6]; exact Xi_ne (by omega)).trans ( (show Xi T5 904 32 = Xi U1 904 32 from w111.x _ _ rfl).trans ((show Xi U1 904 32 = Xi S 904 32 from by rw [eU1]; exact Xi_ne (by omega))))
              have w120 : 0 ≤ Xi S 904 32 ∧ Xi S 904 32 ≤ 12 := hH.c _ _
              have w121 : Xi U6 904 64 = Xi T5 904 64 := (show Xi U6 904 64 = Xi T5 904 64 from by rw [eU6]; exact Xi_ne (by omega))
              have w122 : 0 ≤ Xi T5 904 64 ∧ Xi T5 904 64 ≤ 12 := hHT5.c _ _
              exact ⟨hHU6, hFU6, _, rfl, ⟨by omega, by omega⟩, (fun q => by first | (exfalso; omega) | exact Or.inl ⟨by omega, by omega⟩ | exact Or.inr ⟨by omega, by omega, by omega⟩), (fun q q2 q3 => by first | (exfalso; omega) | (rw [x74]; exact c67 (by omega))), (by first | (exfalso; omega) | skip; unfold adR; rw [← m3]; first | rw [if_pos (by omega)] | (rw [if_neg (by omega), if_pos ⟨by omega, by omega, by omega⟩]) | (rw [if_neg (by omega), if_neg (fun q => by omega), if_pos ⟨by omega, by omega⟩]; omega) | (rw [if_neg (by omega), if_neg (fun q => by omega), if_neg (fun q => by omega)]))⟩
            · refine l_iconst rfl ?_
              refine l_goto rfl rfl ?_
              refine l_pfi rfl rfl rfl rfl ?_
              obtain ⟨U7, eU7⟩ : ∃ T : sS, T = uI T5 904 113 (Int32.ofInt (-1)) := ⟨_, rfl⟩
              rw [← eU7]
              have hHU7 : HI U7 := by rw [eU7]; exact HI_w hHT5 (show -1 ≤ (-1) by omega) (show (-1) ≤ 6411 by omega)
              have hFU7 : FR md_mo_adjective__2 S U7 := by rw [eU7]; exact FR.wI hFT5 (mdf_i (r := (904, 905, 113, 114)) (List.mem_of_getElem? (i := 1) rfl) (inR_i (by omega) (by omega) (by omega) (by omega)))
              have w123 : Xi U7 904 113 = (-1) := by rw [eU7]; exact Xi_same (by unfold rg; omega)
              have z132 : Xi U7 904 32 = Xi S 904 32 := hFU7.x 904 32 rfl
              have v132 : Xi U7 904 64 = Xi T5 904 64 := by rw [eU7, Xi_ne (by omega)]
              refine l_aload_n rfl rfl ?_
              refine l_gfi rfl rfl rfl rfl rfl ?_
              have w124 : 0 ≤ (Xi U7 904 64) ∧ (Xi U7 904 64) ≤ 12 := hHU7.c _ _
              refine l_ireturn rfl rfl ?_
              have w125 : -1 ≤ Xi U7 904 113 ∧ Xi U7 904 113 ≤ 6411 := hHU7.c _ _
              have w126 : Xi U7 904 23 = Xi S 904 23 := (show Xi U7 904 23 = Xi T5 904 23 from by rw [eU7]; exact Xi_ne (by omega)).trans ( (show Xi T5 904 23 = Xi U1 904 23 from w111.x _ _ rfl).trans ((show Xi U1 904 23 = Xi S 904 23 from by rw [eU1]; exact Xi_ne (by omega))))
              have w127 : 0 ≤ Xi S 904 23 ∧ Xi S 904 23 ≤ 24 := hH.c _ _
              have w128 : Xi U7 904 32 = Xi S 904 32 := (show Xi U7 904 32 = Xi T5 904 32 from by rw [eU7]; exact Xi_ne (by omega)).trans ( (show Xi T5 904 32 = Xi U1 904 32 from w111.x _ _ rfl).trans ((show Xi U1 904 32 = Xi S 904 32 from by rw [eU1]; exact Xi_ne (by omega))))
              have w129 : 0 ≤ Xi S 904 32 ∧ Xi S 904 32 ≤ 12 := hH.c _ _
              have w130 : Xi U7 904 64 = Xi T5 904 64 := (show Xi U7 904 64 = Xi T5 904 64 from by rw [eU7]; exact Xi_ne (by omega))
              have w131 : 0 ≤ Xi T5 904 64 ∧ Xi T5 904 64 ≤ 12 := hHT5.c _ _
              exact ⟨hHU7, hFU7, _, rfl, ⟨by omega, by omega⟩, (fun q => by first | (exfalso; omega) | exact Or.inl ⟨by omega, by omega⟩ | exact Or.inr ⟨by omega, by omega, by omega⟩), (fun q q2 q3 => by first | (exfalso; omega) | (rw [x74]; exact c67 (by omega))), (by first | (exfalso; omega) | skip; unfold adR; rw [← m3]; first | rw [if_pos (by omega)] | (rw [if_neg (by omega), if_pos ⟨by omega, by omega, by omega⟩]) | (rw [if_neg (by omega), if_neg (fun q => by omega), if_pos ⟨by omega, by omega⟩]; omega) | (rw [if_neg (by omega), if_neg (fun q => by omega), if_neg (fun q => by omega)]))⟩
      · refine l_iload rfl rfl ?_
        refine l_if_ne rfl rfl (by unfold rg; omega) (fun w132 => ?_) (fun w133 => ?_)
        · refine l_aload_n rfl rfl ?_
          refine l_iload rfl rfl ?_
          refine l_pfi rfl rfl rfl rfl ?_
          obtain ⟨U8, eU8⟩ : ∃ T : sS, T = uI U1 904 113 (Int32.ofInt (Xi U1 915 ((z7).toNat))) := ⟨_, rfl⟩
          rw [← eU8]
          have hHU8 : HI U8 := by rw [eU8]; exact HI_w hHU1 (show -1 ≤ (Xi U1 915 ((z7).toNat)) by omega) (show (Xi U1 915 ((z7).toNat)) ≤ 6411 by omega)
          have hFU8 : FR md_mo_adjective__2 S U8 := by rw [eU8]; exact FR.wI hFU1 (mdf_i (r := (904, 905, 113, 114)) (List.mem_of_getElem? (i := 1) rfl) (inR_i (by omega) (by omega) (by omega) (by omega)))
          have w134 : Xi U8 904 113 = (Xi U1 915 ((z7).toNat)) := by rw [eU8]; exact Xi_same (by unfold rg; omega)
          have x74 : Xi U8 904 113 = (Xi U1 915 ((z7).toNat)) := by omega
          have z74 : Xi U8 904 23 = Xi S 904 23 := hFU8.x 904 23 rfl
          refine l_iconst rfl ?_
          refine l_ireturn rfl rfl ?_
          have w135 : -1 ≤ Xi U8 904 113 ∧ Xi U8 904 113 ≤ 6411 := hHU8.c _ _
          have w136 : Xi U8 904 23 = Xi S 904 23 := (show Xi U8 904 23 = Xi U1 904 23 from by rw [eU8]; exact Xi_ne (by omega)).trans ((show Xi U1 904 23 = Xi S 904 23 from by rw [eU1]; exact Xi_ne (by omega)))
          have w137 : 0 ≤ Xi S 904 23 ∧ Xi S 904 23 ≤ 24 := hH.c _ _
          have w138 : Xi U8 904 32 = Xi S 904 32 := (show Xi U8 904 32 = Xi U1 904 32 from by rw [eU8]; exact Xi_ne (by omega)).trans ((show Xi U1 904 32 = Xi S 904 32 from by rw [eU1]; exact Xi_ne (by omega)))
          have w139 : 0 ≤ Xi S 904 32 ∧ Xi S 904 32 ≤ 12 := hH.c _ _
          have w140 : Xi U8 904 64 = Xi S 904 64 := (show Xi U8 904 64 = Xi U1 904 64 from by rw [eU8]; exact Xi_ne (by omega)).trans ((show Xi U1 904 64 = Xi S 904 64 from by rw [eU1]; exact Xi_ne (by omega)))
          have w141 : 0 ≤ Xi S 904 64 ∧ Xi S 904 64 ≤ 12 := hH.c _ _
          exact ⟨hHU8, hFU8, _, rfl, ⟨by omega, by omega⟩, (fun q => by first | (exfalso; omega) | exact Or.inl ⟨by omega, by omega⟩ | exact Or.inr ⟨by omega, by omega, by omega⟩), (fun q q2 q3 => by first | (exfalso; omega) | (rw [x74]; exact c67 (by omega))), (by first | (exfalso; omega) | skip; unfold adR; rw [← m3]; first | rw [if_pos (by omega)] | (rw [if_neg (by omega), if_pos ⟨by omega, by omega, by omega⟩]) | (rw [if_neg (by omega), if_neg (fun q => by omega), if_pos ⟨by omega, by omega⟩]; omega) | (rw [if_neg (by omega), if_neg (fun q => by omega), if_neg (fun q => by omega)]))⟩
        · refine l_aload_n rfl rfl ?_
          refine l_gfr rfl rfl rfl rfl rfl (hHU1.r 904 27 924 rfl) ?_
          refine l_iload rfl rfl ?_
          refine l_iaload (n := 24) rfl rfl (by omega) (by omega) (by unfold rg; omega) ?_
          have w142 : 0 ≤ (Xi U1 924 (((Xi U1 915 ((z7).toNat))).toNat)) ∧ (Xi U1 924 (((Xi U1 915 ((z7).toNat))).toNat)) ≤ 6 := hHU1.c _ _
          have d67 : (Xi U1 924 (((Xi U1 915 ((z7).toNat))).toNat)) = Xi S 924 ((Xi U1 915 ((z7).toNat))).toNat := by first | rfl | exact (hFU1.cx 924 rfl _).1
          have c67 : (Xi U1 924 (((Xi U1 915 ((z7).toNat))).toNat)) = 0 → Xi S 922 ((Xi U1 915 ((z7).toNat))).toNat ≠ -1 := fun q => hC ((Xi U1 915 ((z7).toNat))).toNat (by omega) (by omega)
          have d67b : (Xi U1 924 (((Xi U1 915 ((z7).toNat))).toNat)) = Xi S 924 (Xi S 915 (z7).toNat).toNat := by rw [← e27i]; exact d67
          refine l_if_ne rfl rfl (by unfold rg; omega) (fun w143 => ?_) (fun w144 => ?_)
          · refine l_aload_n rfl rfl ?_
            refine l_gfr rfl rfl rfl rfl rfl (hHU1.r 904 12 914 rfl) ?_
            refine l_iload rfl rfl ?_
            refine l_iaload (n := 300) rfl rfl (by omega) (by omega) (by unfold rg; omega) ?_
            have e85 : (Xi U1 914 ((z7).toNat)) = Xi S 914 (z7).toNat := by first | rfl | exact (hFU1.cx 914 rfl _).1
            refine l_bipush rfl rfl ?_
            refine l_icmp_ne rfl rfl (by unfold rg; omega) (by unfold rg; omega) (fun w145 => ?_) (fun w146 => ?_)
            · refine l_iconst rfl ?_
              refine l_ireturn rfl rfl ?_
              have w147 : -1 ≤ Xi U1 904 113 ∧ Xi U1 904 113 ≤ 6411 := hHU1.c _ _
              have w148 : Xi U1 904 23 = Xi S 904 23 := (show Xi U1 904 23 = Xi S 904 23 from by rw [eU1]; exact Xi_ne (by omega))
              have w149 : 0 ≤ Xi S 904 23 ∧ Xi S 904 23 ≤ 24 := hH.c _ _
              have w150 : Xi U1 904 32 = Xi S 904 32 := (show Xi U1 904 32 = Xi S 904 32 from by rw [eU1]; exact Xi_ne (by omega))
              have w151 : 0 ≤ Xi S 904 32 ∧ Xi S 904 32 ≤ 12 := hH.c _ _
              have w152 : Xi U1 904 64 = Xi S 904 64 := (show Xi U1 904 64 = Xi S 904 64 from by rw [eU1]; exact Xi_ne (by omega))
              have w153 : 0 ≤ Xi S 904 64 ∧ Xi S 904 64 ≤ 12 := hH.c _ _
              exact ⟨hHU1, hFU1, _, rfl, ⟨by omega, by omega⟩, (fun q => by first | (exfalso; omega) | exact Or.inl ⟨by omega, by omega⟩ | exact Or.inr ⟨by omega, by omega, by omega⟩), (fun q q2 q3 => by first | (exfalso; omega) | (rw [x74]; exact c67 (by omega))), (by first | (exfalso; omega) | skip; unfold adR; rw [← m3]; first | rw [if_pos (by omega)] | (rw [if_neg (by omega), if_pos ⟨by omega, by omega, by omega⟩]) | (rw [if_neg (by omega), if_neg (fun q => by omega), if_pos ⟨by omega, by omega⟩]; omega) | (rw [if_neg (by omega), if_neg (fun q => by omega), if_neg (fun q => by omega)]))⟩
            · refine l_iload rfl rfl ?_
              refine l_if_eq rfl rfl (by unfold rg; omega) (fun w154 => ?_) (fun w155 => ?_)
              · refine l_iconst rfl ?_
                refine l_ireturn rfl rfl ?_
                have w156 : -1 ≤ Xi U1 904 113 ∧ Xi U1 904 113 ≤ 6411 := hHU1.c _ _
                have w157 : Xi U1 904 23 = Xi S 904 23 := (show Xi U1 904 23 = Xi S 904 23 from by rw [eU1]; exact Xi_ne (by omega))
                have w158 : 0 ≤ Xi S 904 23 ∧ Xi S 904 23 ≤ 24 := hH.c _ _
                have w159 : Xi U1 904 32 = Xi S 904 32 := (show Xi U1 904 32 = Xi S 904 32 from by rw [eU1]; exact Xi_ne (by omega))
                have w160 : 0 ≤ Xi S 904 32 ∧ Xi S 904 32 ≤ 12 := hH.c _ _
                have w161 : Xi U1 904 64 = Xi S 904 64 := (show Xi U1 904 64 = Xi S 904 64 from by rw [eU1]; exact Xi_ne (by omega))
                have w162 : 0 ≤ Xi S 904 64 ∧ Xi S 904 64 ≤ 12 := hH.c _ _
                exact ⟨hHU1, hFU1, _, rfl, ⟨by omega, by omega⟩, (fun q => by first | (exfalso; omega) | exact Or.inl ⟨by omega, by omega⟩ | exact Or.inr ⟨by omega, by omega, by omega⟩), (fun q q2 q3 => by first | (exfalso; omega) | (rw [x74]; exact c67 (by omega))), (by first | (exfalso; omega) | skip; unfold adR; rw [← m3]; first | rw [if_pos (by omega)] | (rw [if_neg (by omega), if_pos ⟨by omega, by omega, by omega⟩]) | (rw [if_neg (by omega), if_neg (fun q => by omega), if_pos ⟨by omega, by omega⟩]; omega) | (rw [if_neg (by omega), if_neg (fun q => by omega), if_neg (fun q => by omega)]))⟩
              · refine l_aload_n rfl rfl ?_
                refine l_iload_n rfl rfl ?_
                refine l_aload_n rfl rfl ?_
                refine l_gfr rfl rfl rfl rfl rfl (hHU1.r 904 31 927 rfl) ?_
                refine l_iload rfl rfl ?_
                refine l_iaload (n := 64) rfl rfl (by omega) (by omega) (by unfold rg; omega) ?_
                have w163 : 0 ≤ (Xi U1 927 (((Xi U1 915 ((z7).toNat))).toNat)) ∧ (Xi U1 927 (((Xi U1 915 ((z7).toNat))).toNat)) ≤ 7 := hHU1.c _ _
                have e104 : (Xi U1 927 (((Xi U1 915 ((z7).toNat))).toNat)) = Xi S 927 (Xi S 915 (z7).toNat).toNat := by rw [← e27i]; first | rfl | exact (hFU1.cx 927 rfl _).1
                have w164 : -1 ≤ Xi U1 904 113 ∧ Xi U1 904 113 ≤ 6411 := hHU1.c _ _
                have w165 : Xi U1 904 23 = Xi S 904 23 := (show Xi U1 904 23 = Xi S 904 23 from by rw [eU1]; exact Xi_ne (by omega))
                have w166 : 0 ≤ Xi S 904 23 ∧ Xi S 904 23 ≤ 24 := hH.c _ _
                have w167 : Xi U1 904 32 = Xi S 904 32 := (show Xi U1 904 32 = Xi S 904 32 from by rw [eU1]; exact Xi_ne (by omega))
                have w168 : 0 ≤ Xi S 904 32 ∧ Xi S 904 32 ≤ 12 := hH.c _ _
                have w169 : Xi U1 904 64 = Xi S 904 64 := (show Xi U1 904 64 = Xi S 904 64 from by rw [eU1]; exact Xi_ne (by omega))
                have w170 : 0 ≤ Xi S 904 64 ∧ Xi S 904 64 ≤ 12 := hH.c _ _
                refine l_callV rfl rfl rfl (t_mo_propertyOf__2 hHU1 kind (Xi U1 927 (((Xi U1 915 ((z7).toNat))).toNat)) ⟨by omega, by omega⟩ ⟨by omega, by omega⟩ (by first | assumption | exact (ABV_FR hFU1 rfl (by assumption : ABV S))) _) ?_
                rintro _ T9 ⟨hHT9, w176, z175, rfl, w175, w171, w172, w173, w174⟩
                have hFT9 : FR md_mo_adjective__2 S T9 := FR.tr hFU1 w176 rfl
                show Rl _ _ _ _ _ [iv z175] _ _
                have c105 : Xi T9 904 64 = mtR S kind (Xi S 927 (Xi S 915 (z7).toNat).toNat) := by rw [← e104]; exact (by assumption : Xi T9 904 64 = mtR U1 kind _).trans (mtR_k (fun j => (hFU1.cx 917 rfl j).1) (fun j => (hFU1.cx 929 rfl j).1) (fun j => (hFU1.cx 928 rfl j).1) (hFU1.x 904 32 rfl))
                refine l_istore rfl rfl rfl ?_
                refine l_aload_n rfl rfl ?_
                refine l_iload rfl rfl ?_
                refine l_iconst rfl ?_
                refine l_icmp_ne rfl rfl (by unfold rg; omega) (by unfold rg; omega) (fun w177 => ?_) (fun w178 => ?_)
                · refine l_bipush rfl rfl ?_
                  refine l_bipush rfl rfl ?_
                  refine l_iload rfl rfl ?_
                  refine l_imul rfl ?_
                  refine l_iadd rfl ?_
                  refine l_iload rfl rfl ?_
                  refine l_iadd rfl ?_
                  refine l_pfi rfl rfl rfl rfl ?_
                  obtain ⟨U10, eU10⟩ : ∃ T : sS, T = uI T9 904 113 (Int32.ofInt ((100 + (100 * (Xi U1 915 ((z7).toNat)))) + z175)) := ⟨_, rfl⟩
                  rw [← eU10]
                  have hHU10 : HI U10 := by rw [eU10]; exact HI_w hHT9 (show -1 ≤ ((100 + (100 * (Xi U1 915 ((z7).toNat)))) + z175) by omega) (show ((100 + (100 * (Xi U1 915 ((z7).toNat)))) + z175) ≤ 6411 by omega)
                  have hFU10 : FR md_mo_adjective__2 S U10 := by rw [eU10]; exact FR.wI hFT9 (mdf_i (r := (904, 905, 113, 114)) (List.mem_of_getElem? (i := 1) rfl) (inR_i (by omega) (by omega) (by omega) (by omega)))
                  have w179 : Xi U10 904 113 = ((100 + (100 * (Xi U1 915 ((z7).toNat)))) + z175) := by rw [eU10]; exact Xi_same (by unfold rg; omega)
                  have z132 : Xi U10 904 32 = Xi S 904 32 := hFU10.x 904 32 rfl
                  have v132 : Xi U10 904 64 = Xi T9 904 64 := by rw [eU10, Xi_ne (by omega)]
                  refine l_aload_n rfl rfl ?_
                  refine l_gfi rfl rfl rfl rfl rfl ?_
                  have w180 : 0 ≤ (Xi U10 904 64) ∧ (Xi U10 904 64) ≤ 12 := hHU10.c _ _
                  refine l_ireturn rfl rfl ?_
                  have w181 : -1 ≤ Xi U10 904 113 ∧ Xi U10 904 113 ≤ 6411 := hHU10.c _ _
                  have w182 : Xi U10 904 23 = Xi S 904 23 := (show Xi U10 904 23 = Xi T9 904 23 from by rw [eU10]; exact Xi_ne (by omega)).trans ( (show Xi T9 904 23 = Xi U1 904 23 from w176.x _ _ rfl).trans ((show Xi U1 904 23 = Xi S 904 23 from by rw [eU1]; exact Xi_ne (by omega))))
                  have w183 : 0 ≤ Xi S 904 23 ∧ Xi S 904 23 ≤ 24 := hH.c _ _
                  have w184 : Xi U10 904 32 = Xi S 904 32 := (show Xi U10 904 32 = Xi T9 904 32 from by rw [eU10]; exact Xi_ne (by omega)).trans ( (show Xi T9 904 32 = Xi U1 904 32 from w176.x _ _ rfl).trans ((show Xi U1 904 32 = Xi S 904 32 from by rw [eU1]; exact Xi_ne (by omega))))
                  have w185 : 0 ≤ Xi S 904 32 ∧ Xi S 904 32 ≤ 12 := hH.c _ _
                  have w186 : Xi U10 904 64 = Xi T9 904 64 := (show Xi U10 904 64 = Xi T9 904 64 from by rw [eU10]; exact Xi_ne (by omega))
                  have w187 : 0 ≤ Xi T9 904 64 ∧ Xi T9 904 64 ≤ 12 := hHT9.c _ _
                  exact ⟨hHU10, hFU10, _, rfl, ⟨by omega, by omega⟩, (fun q => by first | (exfalso; omega) | exact Or.inl ⟨by omega, by omega⟩ | exact Or.inr ⟨by omega, by omega, by omega⟩), (fun q q2 q3 => by first | (exfalso; omega) | (rw [x74]; exact c67 (by omega))), (by first | (exfalso; omega) | skip; unfold adR; rw [← m3]; first | rw [if_pos (by omega)] | (rw [if_neg (by omega), if_pos ⟨by omega, by omega, by omega⟩]) | (rw [if_neg (by omega), if_neg (fun q => by omega), if_pos ⟨by omega, by omega⟩]; omega) | (rw [if_neg (by omega), if_neg (fun q => by omega), if_neg (fun q => by omega)]))⟩
                · refine l_iconst rfl ?_
                  refine l_goto rfl rfl ?_
                  refine l_pfi rfl rfl rfl rfl ?_
                  obtain ⟨U11, eU11⟩ : ∃ T : sS, T = uI T9 904 113 (Int32.ofInt (-1)) := ⟨_, rfl⟩
                  rw [← eU11]
                  have hHU11 : HI U11 := by rw [eU11]; exact HI_w hHT9 (show -1 ≤ (-1) by omega) (show (-1) ≤ 6411 by omega)
                  have hFU11 : FR md_mo_adjective__2 S U11 := by rw [eU11]; exact FR.wI hFT9 (mdf_i (r := (904, 905, 113, 114)) (List.mem_of_getElem? (i := 1) rfl) (inR_i (by omega) (by omega) (by omega) (by omega)))
                  have w188 : Xi U11 904 113 = (-1) := by rw [eU11]; exact Xi_same (by unfold rg; omega)
                  have z132 : Xi U11 904 32 = Xi S 904 32 := hFU11.x 904 32 rfl
                  have v132 : Xi U11 904 64 = Xi T9 904 64 := by rw [eU11, Xi_ne (by omega)]
                  refine l_aload_n rfl rfl ?_
                  refine l_gfi rfl rfl rfl rfl rfl ?_
                  have w189 : 0 ≤ (Xi U11 904 64) ∧ (Xi U11 904 64) ≤ 12 := hHU11.c _ _
                  refine l_ireturn rfl rfl ?_
                  have w190 : -1 ≤ Xi U11 904 113 ∧ Xi U11 904 113 ≤ 6411 := hHU11.c _ _
                  have w191 : Xi U11 904 23 = Xi S 904 23 := (show Xi U11 904 23 = Xi T9 904 23 from by rw [eU11]; exact Xi_ne (by omega)).trans ( (show Xi T9 904 23 = Xi U1 904 23 from w176.x _ _ rfl).trans ((show Xi U1 904 23 = Xi S 904 23 from by rw [eU1]; exact Xi_ne (by omega))))
                  have w192 : 0 ≤ Xi S 904 23 ∧ Xi S 904 23 ≤ 24 := hH.c _ _
                  have w193 : Xi U11 904 32 = Xi S 904 32 := (show Xi U11 904 32 = Xi T9 904 32 from by rw [eU11]; exact Xi_ne (by omega)).trans ( (show Xi T9 904 32 = Xi U1 904 32 from w176.x _ _ rfl).trans ((show Xi U1 904 32 = Xi S 904 32 from by rw [eU1]; exact Xi_ne (by omega))))
                  have w194 : 0 ≤ Xi S 904 32 ∧ Xi S 904 32 ≤ 12 := hH.c _ _
                  have w195 : Xi U11 904 64 = Xi T9 904 64 := (show Xi U11 904 64 = Xi T9 904 64 from by rw [eU11]; exact Xi_ne (by omega))
                  have w196 : 0 ≤ Xi T9 904 64 ∧ Xi T9 904 64 ≤ 12 := hHT9.c _ _
                  exact ⟨hHU11, hFU11, _, rfl, ⟨by omega, by omega⟩, (fun q => by first | (exfalso; omega) | exact Or.inl ⟨by omega, by omega⟩ | exact Or.inr ⟨by omega, by omega, by omega⟩), (fun q q2 q3 => by first | (exfalso; omega) | (rw [x74]; exact c67 (by omega))), (by first | (exfalso; omega) | skip; unfold adR; rw [← m3]; first | rw [if_pos (by omega)] | (rw [if_neg (by omega), if_pos ⟨by omega, by omega, by omega⟩]) | (rw [if_neg (by omega), if_neg (fun q => by omega), if_pos ⟨by omega, by omega⟩]; omega) | (rw [if_neg (by omega), if_neg (fun q => by omega), if_neg (fun q => by omega)]))⟩
          · refine l_aload_n rfl rfl ?_
            refine l_iload rfl rfl ?_
            refine l_pfi rfl rfl rfl rfl ?_
            obtain ⟨U12, eU12⟩ : ∃ T : sS, T = uI U1 904 113 (Int32.ofInt (Xi U1 915 ((z7).toNat))) := ⟨_, rfl⟩
            rw [← eU12]
            have hHU12 : HI U12 := by rw [eU12]; exact HI_w hHU1 (show -1 ≤ (Xi U1 915 ((z7).toNat)) by omega) (show (Xi U1 915 ((z7).toNat)) ≤ 6411 by omega)
            have hFU12 : FR md_mo_adjective__2 S U12 := by rw [eU12]; exact FR.wI hFU1 (mdf_i (r := (904, 905, 113, 114)) (List.mem_of_getElem? (i := 1) rfl) (inR_i (by omega) (by omega) (by omega) (by omega)))
            have w197 : Xi U12 904 113 = (Xi U1 915 ((z7).toNat)) := by rw [eU12]; exact Xi_same (by unfold rg; omega)
            have x74 : Xi U12 904 113 = (Xi U1 915 ((z7).toNat)) := by omega
            have z74 : Xi U12 904 23 = Xi S 904 23 := hFU12.x 904 23 rfl
            refine l_iconst rfl ?_
            refine l_ireturn rfl rfl ?_
            have w198 : -1 ≤ Xi U12 904 113 ∧ Xi U12 904 113 ≤ 6411 := hHU12.c _ _
            have w199 : Xi U12 904 23 = Xi S 904 23 := (show Xi U12 904 23 = Xi U1 904 23 from by rw [eU12]; exact Xi_ne (by omega)).trans ((show Xi U1 904 23 = Xi S 904 23 from by rw [eU1]; exact Xi_ne (by omega)))
            have w200 : 0 ≤ Xi S 904 23 ∧ Xi S 904 23 ≤ 24 := hH.c _ _
            have w201 : Xi U12 904 32 = Xi S 904 32 := (show Xi U12 904 32 = Xi U1 904 32 from by rw [eU12]; exact Xi_ne (by omega)).trans ((show Xi U1 904 32 = Xi S 904 32 from by rw [eU1]; exact Xi_ne (by omega)))
            have w202 : 0 ≤ Xi S 904 32 ∧ Xi S 904 32 ≤ 12 := hH.c _ _
            have w203 : Xi U12 904 64 = Xi S 904 64 := (show Xi U12 904 64 = Xi U1 904 64 from by rw [eU12]; exact Xi_ne (by omega)).trans ((show Xi U1 904 64 = Xi S 904 64 from by rw [eU1]; exact Xi_ne (by omega)))
            have w204 : 0 ≤ Xi S 904 64 ∧ Xi S 904 64 ≤ 12 := hH.c _ _
            exact ⟨hHU12, hFU12, _, rfl, ⟨by omega, by omega⟩, (fun q => by first | (exfalso; omega) | exact Or.inl ⟨by omega, by omega⟩ | exact Or.inr ⟨by omega, by omega, by omega⟩), (fun q q2 q3 => by first | (exfalso; omega) | (rw [x74]; exact c67 (by omega))), (by first | (exfalso; omega) | skip; unfold adR; rw [← m3]; first | rw [if_pos (by omega)] | (rw [if_neg (by omega), if_pos ⟨by omega, by omega, by omega⟩]) | (rw [if_neg (by omega), if_neg (fun q => by omega), if_pos ⟨by omega, by omega⟩]; omega) | (rw [if_neg (by omega), if_neg (fun q => by omega), if_neg (fun q => by omega)]))⟩
  · refine l_iconst rfl ?_
    refine l_ireturn rfl rfl ?_
    have w205 : -1 ≤ Xi U1 904 113 ∧ Xi U1 904 113 ≤ 6411 := hHU1.c _ _
    have w206 : Xi U1 904 23 = Xi S 904 23 := (show Xi U1 904 23 = Xi S 904 23 from by rw [eU1]; exact Xi_ne (by omega))
    have w207 : 0 ≤ Xi S 904 23 ∧ Xi S 904 23 ≤ 24 := hH.c _ _
    have w208 : Xi U1 904 32 = Xi S 904 32 := (show Xi U1 904 32 = Xi S 904 32 from by rw [eU1]; exact Xi_ne (by omega))
    have w209 : 0 ≤ Xi S 904 32 ∧ Xi S 904 32 ≤ 12 := hH.c _ _
    have w210 : Xi U1 904 64 = Xi S 904 64 := (show Xi U1 904 64 = Xi S 904 64 from by rw [eU1]; exact Xi_ne (by omega))
    have w211 : 0 ≤ Xi S 904 64 ∧ Xi S 904 64 ≤ 12 := hH.c _ _
    exact ⟨hHU1, hFU1, _, rfl, ⟨by omega, by omega⟩, (fun q => by first | (exfalso; omega) | exact Or.inl ⟨by omega, by omega⟩ | exact Or.inr ⟨by omega, by omega, by omega⟩), (fun q q2 q3 => by first | (exfalso; omega) | (rw [x74]; exact c67 (by omega))), (by first | (exfalso; omega) | skip; unfold adR; rw [← m3]; first | rw [if_pos (by omega)] | (rw [if_neg (by omega), if_pos ⟨by omega, by omega, by omega⟩]) | (rw [if_neg (by omega), if_neg (fun q => by omega), if_pos ⟨by omega, by omega⟩]; omega) | (rw [if_neg (by omega), if_neg (fun q => by omega), if_neg (fun q => by omega)]))⟩
/-! SAFETY of the reference: System.arraycopy -/
def cpI (S : sS) (a b s t n : Nat) : sS := (va_up S.1 b (va_cpy (S.1 a) (S.1 b) s t n), S.2.1, S.2.2)
def cpJ (S : sS) (a b s t n : Nat) : sS := (S.1, va_up S.2.1 b (va_cpy (S.2.1 a) (S.2.1 b) s t n), S.2.2)
section
variable {lay : Nat → Nat × Nat} {d pc : Nat} {q : mT} {L : List (Nat × Value)} {st : List Value} {S : sS} {Q : pst}
theorem l_acp {ix na : Nat} {md : mT} {a b : Nat} {x y z : Int} {S2 : sS} (hc : lk q.2.2.2.2.2 pc = some (.invokestatic ix)) (hk : kLs q.2.2.2.2.1 ix = some (9, md, na)) (hs : Nat.ble (st.map (fun v => v.category)).sum 8 = true) (he : acp lay S a (Int32.ofInt x) b (Int32.ofInt y) (Int32.ofInt z) = some S2) (h : Rl lay d q (pc + 3) L st S2 Q) : Rl lay d q pc L (iv z :: iv y :: .ref b :: iv x :: .ref a :: st) S Q := by
  intro lv ha
  obtain ⟨N, r, S1, hr, hq⟩ := h lv ha
  refine ⟨N + 1, r, S1, fun F G hF hG => ?_, hq⟩
  obtain ⟨F, rfl⟩ : ∃ F1, F = F1 + 1 := ⟨F - 1, by omega⟩
  have e := hr F G (by omega) (by omega)
  unfold run
  rw [hc]
  simp only [hk]
  show (bif Nat.ble (st.map (fun v => v.category)).sum 8 then (match acp lay S a (Int32.ofInt x) b (Int32.ofInt y) (Int32.ofInt z) with
    | some S1 => run lay (fLs q.2.2.2.2.1) (cLs q.2.2.2.2.1) (kLs q.2.2.2.2.1) q.2.2.1 q.2.2.2.1 (evd lay G d) q.2.2.2.2.2 F (pc + 3) lv st S1
    | none => none) else none) = _
  rw [hs, he]
  exact e
theorem acp_c {x y z : Int} {A B : Nat} (hx : 0 ≤ x) (hy : 0 ≤ y) (hz : 0 ≤ z) (h1 : x + z ≤ A) (h2 : y + z ≤ B) (hA : A ≤ 10000) (hB : B ≤ 10000) : ((decide (¬ Int32.ofInt x < 0) && (decide (¬ Int32.ofInt y < 0) && decide (¬ Int32.ofInt z < 0))) && (Nat.ble (x.toNat + z.toNat) A && Nat.ble (y.toNat + z.toNat) B)) = true := by
  have z0 : (0 : Int32) = Int32.ofInt 0 := by decide
  have n : ∀ {w : Int}, 0 ≤ w → w ≤ 10000 → ¬ Int32.ofInt w < 0 := fun {w} a b u => by
    rw [z0] at u
    have := (i32_lt (x := w) (y := 0) ⟨by omega, by omega⟩ ⟨by omega, by omega⟩).mp u
    omega
  rw [decide_eq_true (n hx (by omega)), decide_eq_true (n hy (by omega)), decide_eq_true (n hz (by omega)), Nat.ble_eq_true_of_le (show x.toNat + z.toNat ≤ A by omega), Nat.ble_eq_true_of_le (show y.toNat + z.toNat ≤ B by omega)]
  rfl
theorem acpI {x y z : Int} {a b A B : Nat} (ha : lay a = (1, A)) (hb : lay b = (1, B)) (hx : 0 ≤ x) (hy : 0 ≤ y) (hz : 0 ≤ z) (h1 : x + z ≤ A) (h2 : y + z ≤ B) (hA : A ≤ 10000) (hB : B ≤ 10000) : acp lay S a (Int32.ofInt x) b (Int32.ofInt y) (Int32.ofInt z) = some (cpI S a b x.toNat y.toNat z.toNat) := by
  unfold acp
  rw [ix_i (x := x) ⟨by omega, by omega⟩, ix_i (x := y) ⟨by omega, by omega⟩, ix_i (x := z) ⟨by omega, by omega⟩, ha, hb]
  have c := acp_c hx hy hz h1 h2 hA hB
  show (bif ((decide (¬ Int32.ofInt x < 0) && (decide (¬ Int32.ofInt y < 0) && decide (¬ Int32.ofInt z < 0))) && (Nat.ble (x.toNat + z.toNat) A && Nat.ble (y.toNat + z.toNat) B)) then _ else none) = _
  rw [c]
  rfl
theorem acpJ {x y z : Int} {a b A B : Nat} (ha : lay a = (2, A)) (hb : lay b = (2, B)) (hx : 0 ≤ x) (hy : 0 ≤ y) (hz : 0 ≤ z) (h1 : x + z ≤ A) (h2 : y + z ≤ B) (hA : A ≤ 10000) (hB : B ≤ 10000) : acp lay S a (Int32.ofInt x) b (Int32.ofInt y) (Int32.ofInt z) = some (cpJ S a b x.toNat y.toNat z.toNat) := by
  unfold acp
  rw [ix_i (x := x) ⟨by omega, by omega⟩, ix_i (x := y) ⟨by omega, by omega⟩, ix_i (x := z) ⟨by omega, by omega⟩, ha, hb]
  have c := acp_c hx hy hz h1 h2 hA hB
  show (bif ((decide (¬ Int32.ofInt x < 0) && (decide (¬ Int32.ofInt y < 0) && decide (¬ Int32.ofInt z < 0))) && (Nat.ble (x.toNat + z.toNat) A && Nat.ble (y.toNat + z.toNat) B)) then _ else none) = _
  rw [c]
  rfl
end
theorem cpI_in {S : sS} {a b s t n j : Nat} (h : t ≤ j ∧ j < t + n) : Xi (cpI S a b s t n) b j = Xi S a (s + (j - t)) := by
  have e : (cpI S a b s t n).1 b j = S.1 a (s + (j - t)) := by
    show (va_up S.1 b (va_cpy (S.1 a) (S.1 b) s t n)) b j = _
    unfold va_up va_cpy
    rw [if_pos rfl]
    exact if_pos h
  unfold Xi
  rw [e]
theorem cpI_nx {S : sS} {a b s t n k j : Nat} (h : k ≠ b ∨ ¬ (t ≤ j ∧ j < t + n)) : (cpI S a b s t n).1 k j = S.1 k j := by
  show (va_up S.1 b (va_cpy (S.1 a) (S.1 b) s t n)) k j = _
  unfold va_up va_cpy
  by_cases q : k = b
  · rw [if_pos q]
    rcases h with h | h
    · exact absurd q h
    · show (if t ≤ j ∧ j < t + n then S.1 a (s + (j - t)) else S.1 b j) = S.1 k j
      rw [if_neg h, q]
  · rw [if_neg q]
theorem cpI_ne {S : sS} {a b s t n k j : Nat} (h : k ≠ b ∨ ¬ (t ≤ j ∧ j < t + n)) : Xi (cpI S a b s t n) k j = Xi S k j := by
  unfold Xi
  rw [cpI_nx h]
theorem HI_cpI {S : sS} {a b s t n : Nat} (hH : HI S) (h : ∀ j, t ≤ j → j < t + n → (lh b j).1 ≤ Xi S a (s + (j - t)) ∧ Xi S a (s + (j - t)) ≤ (lh b j).2) : HI (cpI S a b s t n) := ⟨hH.1, fun k j => by
  by_cases q : k = b ∧ (t ≤ j ∧ j < t + n)
  · obtain ⟨rfl, q⟩ := q
    rw [cpI_in q]
    exact h j q.1 q.2
  · rw [cpI_ne (by by_cases c : k = b; exact Or.inr (fun x => q ⟨c, x⟩); exact Or.inl c)]
    exact hH.2 k j⟩
theorem inR_s {b k j : Nat} (h : mdf [(b, b + 1, 0, 100000)] k j = false) : k ≠ b ∨ 100000 ≤ j := by
  by_cases q : k = b
  · rcases Nat.lt_or_ge j 100000 with c | c
    · have t : mdf [(b, b + 1, 0, 100000)] k j = true := mdf_i (r := (b, b + 1, 0, 100000)) (List.mem_of_getElem? (i := 0) rfl) (inR_i (by omega) (by omega) (by omega) (by omega))
      rw [t] at h
      cases h
    · exact Or.inr c
  · exact Or.inl q
theorem FR_cpI {S : sS} {a b s t n : Nat} (h : t + n ≤ 100000) : FR [(b, b + 1, 0, 100000)] S (cpI S a b s t n) := fun k j e => by
  have q := inR_s e
  exact ⟨cpI_nx (by omega), rfl, rfl⟩
theorem HI_cpJ {S : sS} {a b s t n : Nat} (hH : HI S) : HI (cpJ S a b s t n) := ⟨hH.1, fun k j => hH.2 k j⟩
theorem FR_cpJ {S : sS} {a b s t n : Nat} (h : t + n ≤ 100000) : FR [(b, b + 1, 0, 100000)] S (cpJ S a b s t n) := fun k j e => by
  have q := inR_s e
  refine ⟨rfl, ?_, rfl⟩
  show (va_up S.2.1 b (va_cpy (S.2.1 a) (S.2.1 b) s t n)) k j = _
  unfold va_up va_cpy
  by_cases c : k = b
  · rw [if_pos c]
    show (if t ≤ j ∧ j < t + n then S.2.1 a (s + (j - t)) else S.2.1 b j) = S.2.1 k j
    rw [if_neg (by omega), c]
  · rw [if_neg c]
/-! SAFETY of the reference: descriptions -/
def ADX (S : sS) (f a : Int) : Prop := ADM S a ∧ (f = 0 → a < 100 → Xi S 922 a.toNat ≠ -1)
theorem ADX_FR {l : List rec} {S T : sS} {f a : Int} (h : FR l S T) (e : (kdis l [(922, 923)] && mD l [23, 32]) = true) (hq : ADX S f a) : ADX T f a := by
  rw [Bool.and_eq_true] at e
  have k := h.smk e.1
  unfold ADX ADM
  rw [mD_x h e.2 23 (by decide), mD_x h e.2 32 (by decide), k.x 922 rfl]
  exact hq
def CHV (S : sS) (f m : Int) : Prop := ∀ i : Nat, (i : Int) < m → ADX S f (Xi S 968 i)
theorem CHV_FR {l : List rec} {S T : sS} {f m : Int} (h : FR l S T) (e : (kdis l [(922, 923), (968, 969)] && mD l [23, 32]) = true) (hq : CHV S f m) : CHV T f m := fun i hi => by
  have e0 := e
  rw [Bool.and_eq_true] at e
  have k := h.smk e.1
  have t := hq i hi
  unfold ADX ADM at *
  rw [mD_x h e.2 23 (by decide), mD_x h e.2 32 (by decide), k.x 968 rfl, k.x 922 rfl]
  exact t
theorem CHV.le {S : sS} {f m m2 : Int} (h : CHV S f m) (e : m2 ≤ m) : CHV S f m2 := fun i hi => h i (by omega)
theorem chv_add {S U : sS} {f m a : Int} {j : Nat} (h : CHV S f m) (e : U = uI S 968 j (Int32.ofInt a)) (hj : (j : Int) = m) (ha : ADX S f a) (hr : rg a) : CHV U f (m + 1) := fun i hi => by
  have x : ∀ k j, k ≠ 968 → Xi U k j = Xi S k j := fun k j c => by rw [e, Xi_ne (by omega)]
  unfold ADX ADM
  rw [x 904 23 (by decide), x 904 32 (by decide), x 922 _ (by decide)]
  by_cases q : i = j
  · rw [q, e, Xi_same hr]; exact ha
  · rw [show Xi U 968 i = Xi S 968 i by rw [e, Xi_ne (by omega)]]; exact h i (by omega)
def RDV (S : sS) (f : Int) : Prop := Xi S 904 109 ≠ 0 → Xi S 904 110 < Xi S 904 16 ∧ ∀ i : Nat, (i : Int) < Xi S 904 112 → ADX S f (Xi S 967 i)
theorem RDV_FR {l : List rec} {S T : sS} {f : Int} (h : FR l S T) (e : (kdis l [(922, 923), (967, 968)] && mD l [16, 23, 32, 109, 110, 112]) = true) (hq : RDV S f) : RDV T f := by
  rw [Bool.and_eq_true] at e
  have k := h.smk e.1
  unfold RDV ADX ADM
  simp only [mD_x h e.2 16 (by decide), mD_x h e.2 23 (by decide), mD_x h e.2 32 (by decide), mD_x h e.2 109 (by decide), mD_x h e.2 110 (by decide), mD_x h e.2 112 (by decide), k.x 967 rfl, k.x 922 rfl]
  exact hq
theorem rdv_i {T U : sS} {f : Int} {v : Int32} (hk : Xi T 904 110 < Xi T 904 16) (hc : ∀ i : Nat, (i : Int) < Xi T 904 112 → ADX T f (Xi T 967 i)) (e : U = uI T 904 109 v) : RDV U f := fun _ => by
  have x : ∀ k j, (k = 904 → j ≠ 109) → Xi U k j = Xi T k j := fun k j c => by rw [e, Xi_ne (by omega)]
  unfold ADX ADM
  simp only [x 904 110 (by decide), x 904 16 (by decide), x 904 112 (by decide), x 904 23 (by decide), x 904 32 (by decide), x 967 _ (fun e => absurd e (by decide)), x 922 _ (fun e => absurd e (by decide))]
  exact ⟨hk, hc⟩
theorem chv_cp {P T : sS} {f m : Int} (h : CHV P f m) (e : T = cpI P 968 967 (0 : Int).toNat (0 : Int).toNat (6 : Int).toNat) (hm : m ≤ 6) : ∀ i : Nat, (i : Int) < m → ADX T f (Xi T 967 i) := fun i hi => by
  have x : ∀ k j, k ≠ 967 → Xi T k j = Xi P k j := fun k j c => by rw [e]; exact cpI_ne (Or.inl c)
  have y : Xi T 967 i = Xi P 968 i := by
    rw [e]
    have t := cpI_in (S := P) (a := 968) (b := 967) (s := 0) (t := 0) (n := 6) (j := i) (by omega)
    rw [show 0 + (i - 0) = i by omega] at t
    exact t
  have t := h i hi
  unfold ADX ADM at *
  rw [y, x 904 23 (by decide), x 904 32 (by decide), x 922 _ (by decide)]
  exact t
def md_mo_parted : List rec := [(904, 905, 64, 65), (904, 905, 109, 110), (904, 905, 110, 111), (904, 905, 112, 113), (904, 905, 113, 114), (967, 968, 0, 100000), (968, 969, 0, 100000)]
abbrev Q_mo_parted (S : sS) (from_ : Int) (to : Int) (kind : Int) (dfd : Int) (m : Int) : pst := fun r S1 => HI S1 ∧ FR md_mo_parted S S1 ∧ (r = none ∧ (RDV S1 dfd) ∧ (CHV S1 dfd m))
set_option maxRecDepth 100000 in
theorem u_mo_parted {S : sS} (hH : HI S) (from_ : Int) (to : Int) (kind : Int) (dfd : Int) (m : Int) (hfrom_ : 0 ≤ from_ ∧ from_ ≤ 5001) (hto : 0 ≤ to ∧ to ≤ 5001) (hkind : 0 ≤ kind ∧ kind ≤ 15) (hdfd : 0 ≤ dfd ∧ dfd ≤ 1) (hm : 0 ≤ m ∧ m ≤ 6) (hM : LXM S) (hB : ABV S) (hC : DCM S) (hft : from_ ≤ to) (hb : m + (to - from_) ≤ 5) (hk : kind < Xi S 904 16) (hch : CHV S dfd m) (hrd : RDV S dfd) (d : Nat) (hrec : ∀ {S : sS} (_ : HI S) (from_2 : Int) (to2 : Int) (kind2 : Int) (dfd2 : Int) (m2 : Int) (hfrom_ : 0 ≤ from_2 ∧ from_2 ≤ 5001) (hto : 0 ≤ to2 ∧ to2 ≤ 5001) (hkind : 0 ≤ kind2 ∧ kind2 ≤ 15) (hdfd : 0 ≤ dfd2 ∧ dfd2 ≤ 1) (hm : 0 ≤ m2 ∧ m2 ≤ 6) (hM : LXM S) (hB : ABV S) (hC : DCM S) (hft : from_2 ≤ to2) (hb : m2 + (to2 - from_2) ≤ 5) (hk : kind2 < Xi S 904 16) (hch : CHV S dfd2 m2) (hrd : RDV S dfd2), (to2 - from_2 < to - from_) → Mt lay0 (d + 3) m_mo_parted [.ref 904, iv from_2, iv to2, iv kind2, iv dfd2, iv m2] S (Q_mo_parted S from_2 to2 kind2 dfd2 m2)) : Mt lay0 (d + 4) m_mo_parted [.ref 904, iv from_, iv to, iv kind, iv dfd, iv m] S (Q_mo_parted S from_ to kind dfd m) := by
  refine Mt_R rfl rfl ?_
  have hF : FR md_mo_parted S S := FR.rf
  have w1 : 0 ≤ Xi S 904 16 ∧ Xi S 904 16 ≤ 16 := hH.c _ _
  have C52 : ∀ (n52 : Nat) (T1 : sS) (_ : HI T1) (_ : FR md_mo_parted S T1) (v6 : Int), (1 ≤ v6 ∧ v6 ≤ 4) → (from_ < to) → (CHV T1 dfd m) → (RDV T1 dfd) → n52 = (5 - v6).toNat → Rl lay0 (d + 3) m_mo_parted 52 [(0, .ref 904), (1, iv from_), (2, iv to), (3, iv kind), (4, iv dfd), (5, iv m), (6, iv v6)] [] T1 (Q_mo_parted S from_ to kind dfd m) := by
    intro n52
    induction n52 using Nat.strongRecOn with
    | ind n52 ih52 =>
      intro T1 hHT1 hFT1 v6 w2 w3 C52 R52 hm52
      have w4 : Xi T1 904 16 = Xi S 904 16 := hFT1.x _ _ rfl
      have C88 : ∀ (n88 : Nat) (T2 : sS) (_ : HI T2) (_ : FR md_mo_parted S T2) (v6 : Int) (v7 : Int) (v8 : Int) (v9 : Int), (1 ≤ v6 ∧ v6 ≤ 3) → (0 ≤ v7 ∧ v7 ≤ 12) → (-1 ≤ v8 ∧ v8 ≤ 6411) → (0 ≤ v9 ∧ v9 ≤ 12) → (from_ + v6 ≤ to) → (v6 ≤ 3) → (CHV T2 dfd m) → (RDV T2 dfd) → (1 ≤ v7 → ADX T2 dfd v8) → ((5 - v6).toNat ≤ n52) → n88 = (13 - v9).toNat → Rl lay0 (d + 3) m_mo_parted 88 [(0, .ref 904), (1, iv from_), (2, iv to), (3, iv kind), (4, iv dfd), (5, iv m), (6, iv v6), (7, iv v7), (8, iv v8), (9, iv v9)] [] T2 (Q_mo_parted S from_ to kind dfd m) := by
        intro n88
        induction n88 using Nat.strongRecOn with
        | ind n88 ih88 =>
          intro T2 hHT2 hFT2 v6 v7 v8 v9 w5 w6 w7 w8 w9 w10 C88 R88 A88 w11 hm88
          have w12 : Xi T2 904 16 = Xi S 904 16 := hFT2.x _ _ rfl
          refine l_iload rfl rfl ?_
          refine l_iload rfl rfl ?_
          refine l_icmp_ge rfl rfl (by unfold rg; omega) (by unfold rg; omega) (fun w13 => ?_) (fun w14 => ?_)
          · refine l_iinc rfl rfl rfl rfl ?_
            refine l_goto rfl rfl ?_
            have w15 : 0 ≤ Xi T2 904 110 ∧ Xi T2 904 110 ≤ 15 := hHT2.c _ _
            have w16 : 0 ≤ Xi T2 904 112 ∧ Xi T2 904 112 ≤ 6 := hHT2.c _ _
            have w17 : 0 ≤ Xi T2 904 16 ∧ Xi T2 904 16 ≤ 16 := hHT2.c _ _
            exact Rl_weak (ih52 _ (by omega) T2 hHT2 hFT2 ((v6 + 1)) (by omega) (by omega) (by first | exact hch | exact C88) (by first | exact hrd | exact R88) rfl) (And.intro rfl (And.intro rfl (And.intro rfl (And.intro rfl (And.intro rfl (And.intro rfl (And.intro rfl (True.intro))))))))
          · refine l_aload_n rfl rfl ?_
            refine l_gfr rfl rfl rfl rfl rfl (hHT2.r 904 114 968 rfl) ?_
            refine l_iload rfl rfl ?_
            refine l_iload rfl rfl ?_
            refine l_iastore (n := 6) rfl rfl (by omega) (by omega) (by unfold rg; omega) ?_
            obtain ⟨U3, eU3⟩ : ∃ T : sS, T = uI T2 968 ((m).toNat) (Int32.ofInt v8) := ⟨_, rfl⟩
            rw [← eU3]
            have hHU3 : HI U3 := by rw [eU3]; exact HI_w hHT2 (show -1 ≤ v8 by omega) (show v8 ≤ 6411 by omega)
            have hFU3 : FR md_mo_parted S U3 := by rw [eU3]; exact FR.wI hFT2 (mdf_i (r := (968, 969, 0, 100000)) (List.mem_of_getElem? (i := 6) rfl) (inR_i (by omega) (by omega) (by omega) (by omega)))
            have w18 : Xi U3 968 ((m).toNat) = v8 := by rw [eU3]; exact Xi_same (by unfold rg; omega)
            have C103 : CHV U3 dfd (m + 1) := chv_add C88 eU3 (by omega) (A88 (by omega)) (by unfold rg; omega)
            have R103 : RDV U3 dfd := RDV_FR (FR_e eU3) rfl R88
            refine l_aload_n rfl rfl ?_
            refine l_iload_n rfl rfl ?_
            refine l_iload rfl rfl ?_
            refine l_iadd rfl ?_
            refine l_iload_n rfl rfl ?_
            refine l_iload_n rfl rfl ?_
            refine l_iload rfl rfl ?_
            refine l_iload rfl rfl ?_
            refine l_iconst rfl ?_
            refine l_iadd rfl ?_
            have w19 : Xi U3 904 109 = Xi T2 904 109 := (show Xi U3 904 109 = Xi T2 904 109 from by rw [eU3]; exact Xi_ne (by omega))
            have w20 : Xi U3 904 110 = Xi T2 904 110 := (show Xi U3 904 110 = Xi T2 904 110 from by rw [eU3]; exact Xi_ne (by omega))
            have w21 : 0 ≤ Xi T2 904 110 ∧ Xi T2 904 110 ≤ 15 := hHT2.c _ _
            have w22 : Xi U3 904 112 = Xi T2 904 112 := (show Xi U3 904 112 = Xi T2 904 112 from by rw [eU3]; exact Xi_ne (by omega))
            have w23 : 0 ≤ Xi T2 904 112 ∧ Xi T2 904 112 ≤ 6 := hHT2.c _ _
            have w24 : Xi U3 904 16 = Xi T2 904 16 := (show Xi U3 904 16 = Xi T2 904 16 from by rw [eU3]; exact Xi_ne (by omega))
            have w25 : 0 ≤ Xi T2 904 16 ∧ Xi T2 904 16 ≤ 16 := hHT2.c _ _
            refine l_callV rfl rfl rfl (hrec hHU3 (from_ + v6) to kind dfd (m + 1) ⟨by omega, by omega⟩ ⟨by omega, by omega⟩ ⟨by omega, by omega⟩ ⟨by omega, by omega⟩ ⟨by omega, by omega⟩ (by first | assumption | exact (LXM_FR hFU3 rfl (by assumption : LXM S))) (by first | assumption | exact (ABV_FR hFU3 rfl (by assumption : ABV S))) (by first | assumption | exact (DCM_FR hFU3 rfl (by assumption : DCM S))) (by first | assumption | omega) (by first | assumption | omega) (by first | assumption | omega) (by first | assumption | exact (by assumption : CHV U3 _ _)) (by first | assumption | exact (RDV_FR (FR_e eU3) rfl (by assumption : RDV T2 _))) (by omega)) ?_
            rintro _ T4 ⟨hHT4, w29, rfl, w26, w27⟩
            have hFT4 : FR md_mo_parted S T4 := FR.tr hFU3 w29 rfl
            show Rl _ _ _ _ _ [] _ _
            have A117 : 1 ≤ v7 → ADX T4 dfd v8 := fun q => ⟨by unfold ADM; rw [hFT4.x 904 23 rfl, hFT4.x 904 32 rfl, ← hFT2.x 904 23 rfl, ← hFT2.x 904 32 rfl]; exact (A88 q).1, fun a b => by rw [(hFT4.cx 922 rfl _).1, ← (hFT2.cx 922 rfl _).1]; exact (A88 q).2 a b⟩
            refine l_iinc rfl rfl rfl rfl ?_
            refine l_goto rfl rfl ?_
            have w30 : 0 ≤ Xi T4 904 110 ∧ Xi T4 904 110 ≤ 15 := hHT4.c _ _
            have w31 : 0 ≤ Xi T4 904 112 ∧ Xi T4 904 112 ≤ 6 := hHT4.c _ _
            have w32 : Xi T4 904 16 = Xi T2 904 16 := (show Xi T4 904 16 = Xi U3 904 16 from w29.x _ _ rfl).trans ((show Xi U3 904 16 = Xi T2 904 16 from by rw [eU3]; exact Xi_ne (by omega)))
            have w33 : 0 ≤ Xi T2 904 16 ∧ Xi T2 904 16 ≤ 16 := hHT2.c _ _
            exact Rl_weak (ih88 _ (by omega) T4 hHT4 hFT4 (v6) (v7) (v8) ((v9 + 1)) (by omega) (by omega) (by omega) (by omega) (by omega) (by omega) (by first | assumption | exact CHV.le (by assumption) (by omega) | exact CHV_FR (by assumption : FR md_mo_adjective _ T4) rfl C52) (by first | assumption | exact RDV_FR (by assumption : FR md_mo_adjective _ T4) rfl R52) (by first | exact A117 | exact A74) (by omega) rfl) (And.intro rfl (And.intro rfl (And.intro rfl (And.intro rfl (And.intro rfl (And.intro rfl (And.intro rfl (And.intro rfl (And.intro rfl (And.intro rfl (True.intro)))))))))))
      refine l_iload rfl rfl ?_
      refine l_iconst rfl ?_
      refine l_icmp_gt rfl rfl (by unfold rg; omega) (by unfold rg; omega) (fun w34 => ?_) (fun w35 => ?_)
      · refine l_return rfl rfl ?_
        have w36 : 0 ≤ Xi T1 904 110 ∧ Xi T1 904 110 ≤ 15 := hHT1.c _ _
        have w37 : 0 ≤ Xi T1 904 112 ∧ Xi T1 904 112 ≤ 6 := hHT1.c _ _
        have w38 : 0 ≤ Xi T1 904 16 ∧ Xi T1 904 16 ≤ 16 := hHT1.c _ _
        exact ⟨hHT1, hFT1, rfl, (by first | exact r45 | exact R52), (by first | exact c45 | exact C52)⟩
      · refine l_iload_n rfl rfl ?_
        refine l_iload rfl rfl ?_
        refine l_iadd rfl ?_
        refine l_iload_n rfl rfl ?_
        refine l_icmp_gt rfl rfl (by unfold rg; omega) (by unfold rg; omega) (fun w39 => ?_) (fun w40 => ?_)
        · refine l_return rfl rfl ?_
          have w41 : 0 ≤ Xi T1 904 110 ∧ Xi T1 904 110 ≤ 15 := hHT1.c _ _
          have w42 : 0 ≤ Xi T1 904 112 ∧ Xi T1 904 112 ≤ 6 := hHT1.c _ _
          have w43 : 0 ≤ Xi T1 904 16 ∧ Xi T1 904 16 ≤ 16 := hHT1.c _ _
          exact ⟨hHT1, hFT1, rfl, (by first | exact r45 | exact R52), (by first | exact c45 | exact C52)⟩
        · refine l_aload_n rfl rfl ?_
          refine l_iload_n rfl rfl ?_
          refine l_iload rfl rfl ?_
          refine l_iload_n rfl rfl ?_
          refine l_iload rfl rfl ?_
          refine l_iconst rfl ?_
          have w44 : 0 ≤ Xi T1 904 110 ∧ Xi T1 904 110 ≤ 15 := hHT1.c _ _
          have w45 : 0 ≤ Xi T1 904 112 ∧ Xi T1 904 112 ≤ 6 := hHT1.c _ _
          have w46 : 0 ≤ Xi T1 904 16 ∧ Xi T1 904 16 ≤ 16 := hHT1.c _ _
          refine l_callV rfl rfl rfl (t_mo_adjective__2 hHT1 from_ v6 kind dfd 1 ⟨by omega, by omega⟩ ⟨by omega, by omega⟩ ⟨by omega, by omega⟩ ⟨by omega, by omega⟩ ⟨by omega, by omega⟩ (by first | assumption | omega) (by first | assumption | exact (LXM_FR hFT1 rfl (by assumption : LXM S))) (by first | assumption | exact (ABV_FR hFT1 rfl (by assumption : ABV S))) (by first | assumption | exact (DCM_FR hFT1 rfl (by assumption : DCM S))) _) ?_
          rintro _ T5 ⟨hHT5, w51, z50, rfl, w50, w47, w48, w49⟩
          have hFT5 : FR md_mo_parted S T5 := FR.tr hFT1 w51 rfl
          show Rl _ _ _ _ _ [iv z50] _ _
          have A74 : 1 ≤ z50 → ADX T5 dfd (Xi T5 904 113) := fun q => ⟨(by assumption : 1 ≤ z50 → ADM T5 (Xi T5 904 113)) q, fun a b => by rw [(hFT5.cx 922 rfl _).1, ← (hFT1.cx 922 rfl _).1]; exact (by assumption : 1 ≤ z50 → dfd = 0 → Xi T5 904 113 < 100 → _) q a b⟩
          refine l_istore rfl rfl rfl ?_
          refine l_aload_n rfl rfl ?_
          refine l_gfi rfl rfl rfl rfl rfl ?_
          have w52 : -1 ≤ (Xi T5 904 113) ∧ (Xi T5 904 113) ≤ 6411 := hHT5.c _ _
          refine l_istore rfl rfl rfl ?_
          refine l_iconst rfl ?_
          refine l_istore rfl rfl rfl ?_
          have w53 : Xi T5 904 109 = Xi T1 904 109 := (show Xi T5 904 109 = Xi T1 904 109 from w51.x _ _ rfl)
          have w54 : Xi T5 904 110 = Xi T1 904 110 := (show Xi T5 904 110 = Xi T1 904 110 from w51.x _ _ rfl)
          have w55 : 0 ≤ Xi T1 904 110 ∧ Xi T1 904 110 ≤ 15 := hHT1.c _ _
          have w56 : Xi T5 904 112 = Xi T1 904 112 := (show Xi T5 904 112 = Xi T1 904 112 from w51.x _ _ rfl)
          have w57 : 0 ≤ Xi T1 904 112 ∧ Xi T1 904 112 ≤ 6 := hHT1.c _ _
          have w58 : Xi T5 904 16 = Xi T1 904 16 := (show Xi T5 904 16 = Xi T1 904 16 from w51.x _ _ rfl)
          have w59 : 0 ≤ Xi T1 904 16 ∧ Xi T1 904 16 ≤ 16 := hHT1.c _ _
          exact Rl_weak (C88 _ T5 hHT5 hFT5 (v6) (z50) ((Xi T5 904 113)) (0) (by omega) (by omega) (by omega) (by omega) (by omega) (by omega) (by first | assumption | exact CHV.le (by assumption) (by omega) | exact CHV_FR (by assumption : FR md_mo_adjective _ T5) rfl C52) (by first | assumption | exact RDV_FR (by assumption : FR md_mo_adjective _ T5) rfl R52) (by first | exact A117 | exact A74) (by omega) rfl) (And.intro rfl (And.intro rfl (And.intro rfl (And.intro rfl (And.intro rfl (And.intro rfl (And.intro rfl (And.intro rfl (And.intro rfl (And.intro rfl (True.intro)))))))))))
  refine l_iload_n rfl rfl ?_
  refine l_iload_n rfl rfl ?_
  refine l_icmp_ne rfl rfl (by unfold rg; omega) (by unfold rg; omega) (fun w60 => ?_) (fun w61 => ?_)
  · refine l_iconst rfl ?_
    refine l_istore rfl rfl rfl ?_
    have w62 : 0 ≤ Xi S 904 110 ∧ Xi S 904 110 ≤ 15 := hH.c _ _
    have w63 : 0 ≤ Xi S 904 112 ∧ Xi S 904 112 ≤ 6 := hH.c _ _
    have w64 : 0 ≤ Xi S 904 16 ∧ Xi S 904 16 ≤ 16 := hH.c _ _
    exact Rl_weak (C52 _ S hH hF (1) (by omega) (by omega) (by first | exact hch | exact C88) (by first | exact hrd | exact R88) rfl) (And.intro rfl (And.intro rfl (And.intro rfl (And.intro rfl (And.intro rfl (And.intro rfl (And.intro rfl (True.intro))))))))
  · refine l_aload_n rfl rfl ?_
    refine l_gfi rfl rfl rfl rfl rfl ?_
    have w65 : -2147483648 ≤ (Xi S 904 109) ∧ (Xi S 904 109) ≤ 2147483647 := Xi_rgI
    refine l_if_ne rfl rfl (by unfold rg; omega) (fun w66 => ?_) (fun w67 => ?_)
    · refine l_aload_n rfl rfl ?_
      refine l_dup rfl rfl ?_
      refine l_gfi rfl rfl rfl rfl rfl ?_
      refine l_iconst rfl ?_
      refine l_iaddW rfl (fun c68 w68 => ?_)
      refine l_pfi rfl rfl rfl rfl ?_
      obtain ⟨U6, eU6⟩ : ∃ T : sS, T = uI S 904 109 (Int32.ofInt c68) := ⟨_, rfl⟩
      rw [← eU6]
      have hHU6 : HI U6 := by rw [eU6]; exact HI_any hH (rfl)
      have hFU6 : FR md_mo_parted S U6 := by rw [eU6]; exact FR.wI hF (mdf_i (r := (904, 905, 109, 110)) (List.mem_of_getElem? (i := 1) rfl) (inR_i (by omega) (by omega) (by omega) (by omega)))
      have w69 : Xi U6 904 109 = c68 := by rw [eU6]; exact Xi_same (by unfold rg; omega)
      have r45 : RDV U6 dfd := by first | exact rdv_i (by omega) (fun i hi => d35 i (by omega)) eU6 | exact rdv_i (hrd (by omega)).1 (hrd (by omega)).2 eU6
      have c45 : CHV U6 dfd m := CHV_FR (FR_e eU6) rfl (by first | exact c35 | exact hch)
      refine l_return rfl rfl ?_
      have w70 : Xi U6 904 110 = Xi S 904 110 := (show Xi U6 904 110 = Xi S 904 110 from by rw [eU6]; exact Xi_ne (by omega))
      have w71 : 0 ≤ Xi S 904 110 ∧ Xi S 904 110 ≤ 15 := hH.c _ _
      have w72 : Xi U6 904 112 = Xi S 904 112 := (show Xi U6 904 112 = Xi S 904 112 from by rw [eU6]; exact Xi_ne (by omega))
      have w73 : 0 ≤ Xi S 904 112 ∧ Xi S 904 112 ≤ 6 := hH.c _ _
      have w74 : Xi U6 904 16 = Xi S 904 16 := (show Xi U6 904 16 = Xi S 904 16 from by rw [eU6]; exact Xi_ne (by omega))
      have w75 : 0 ≤ Xi S 904 16 ∧ Xi S 904 16 ≤ 16 := hH.c _ _
      exact ⟨hHU6, hFU6, rfl, (by first | exact r45 | exact R52), (by first | exact c45 | exact C52)⟩
    · refine l_aload_n rfl rfl ?_
      refine l_iload_n rfl rfl ?_
      refine l_pfi rfl rfl rfl rfl ?_
      obtain ⟨U7, eU7⟩ : ∃ T : sS, T = uI S 904 110 (Int32.ofInt kind) := ⟨_, rfl⟩
      rw [← eU7]
      have hHU7 : HI U7 := by rw [eU7]; exact HI_w hH (show 0 ≤ kind by omega) (show kind ≤ 15 by omega)
      have hFU7 : FR md_mo_parted S U7 := by rw [eU7]; exact FR.wI hF (mdf_i (r := (904, 905, 110, 111)) (List.mem_of_getElem? (i := 2) rfl) (inR_i (by omega) (by omega) (by omega) (by omega)))
      have w76 : Xi U7 904 110 = kind := by rw [eU7]; exact Xi_same (by unfold rg; omega)
      have c14 : CHV U7 dfd m := CHV_FR (FR_e eU7) rfl hch
      refine l_aload_n rfl rfl ?_
      refine l_iload rfl rfl ?_
      refine l_pfi rfl rfl rfl rfl ?_
      obtain ⟨U8, eU8⟩ : ∃ T : sS, T = uI U7 904 112 (Int32.ofInt m) := ⟨_, rfl⟩
      rw [← eU8]
      have hHU8 : HI U8 := by rw [eU8]; exact HI_w hHU7 (show 0 ≤ m by omega) (show m ≤ 6 by omega)
      have hFU8 : FR md_mo_parted S U8 := by rw [eU8]; exact FR.wI hFU7 (mdf_i (r := (904, 905, 112, 113)) (List.mem_of_getElem? (i := 3) rfl) (inR_i (by omega) (by omega) (by omega) (by omega)))
      have w77 : Xi U8 904 112 = m := by rw [eU8]; exact Xi_same (by unfold rg; omega)
      have c20 : CHV U8 dfd m := CHV_FR (FR_e eU8) rfl c14
      have x20 : Xi U8 904 110 = Xi U7 904 110 ∧ Xi U8 904 16 = Xi S 904 16 := ⟨by rw [eU8, Xi_ne (by omega)], hFU8.x 904 16 rfl⟩
      refine l_aload_n rfl rfl ?_
      refine l_gfr rfl rfl rfl rfl rfl (hHU8.r 904 114 968 rfl) ?_
      refine l_iconst rfl ?_
      refine l_aload_n rfl rfl ?_
      refine l_gfr rfl rfl rfl rfl rfl (hHU8.r 904 111 967 rfl) ?_
      refine l_iconst rfl ?_
      refine l_bipush rfl rfl ?_
      refine l_acp rfl rfl rfl (acpI (A := 6) (B := 6) rfl rfl (by omega) (by omega) (by omega) (by omega) (by omega) (by omega) (by omega)) ?_
      obtain ⟨T9, eT9⟩ : ∃ T : sS, T = cpI U8 968 967 (0 : Int).toNat (0 : Int).toNat (6 : Int).toNat := ⟨_, rfl⟩
      rw [← eT9]
      have hHT9 : HI T9 := by rw [eT9]; exact HI_cpI hHU8 (fun j _ _ => hHU8.c 968 _)
      have w78 : FR [(967, 968, 0, 100000)] U8 T9 := by rw [eT9]; exact FR_cpI (by omega)
      have hFT9 : FR md_mo_parted S T9 := FR.tr hFU8 w78 rfl
      have d35 := chv_cp c20 eT9 (by omega)
      have c35 : CHV T9 dfd m := CHV_FR (by assumption : FR [(967, 968, 0, 100000)] U8 T9) rfl c20
      have y35 : Xi T9 904 110 = Xi U8 904 110 ∧ Xi T9 904 112 = Xi U8 904 112 ∧ Xi T9 904 16 = Xi U8 904 16 := ⟨(by assumption : FR [(967, 968, 0, 100000)] U8 T9).x 904 110 rfl, (by assumption : FR [(967, 968, 0, 100000)] U8 T9).x 904 112 rfl, (by assumption : FR [(967, 968, 0, 100000)] U8 T9).x 904 16 rfl⟩
      refine l_aload_n rfl rfl ?_
      refine l_dup rfl rfl ?_
      refine l_gfi rfl rfl rfl rfl rfl ?_
      have w79 : (Xi T9 904 109) = (Xi S 904 109) := (show Xi T9 904 109 = Xi U8 904 109 from w78.x _ _ rfl).trans ( (show Xi U8 904 109 = Xi U7 904 109 from by rw [eU8]; exact Xi_ne (by omega)).trans ((show Xi U7 904 109 = Xi S 904 109 from by rw [eU7]; exact Xi_ne (by omega))))
      rw [w79]
      refine l_iconst rfl ?_
      refine l_iaddW rfl (fun c80 w80 => ?_)
      refine l_pfi rfl rfl rfl rfl ?_
      obtain ⟨U10, eU10⟩ : ∃ T : sS, T = uI T9 904 109 (Int32.ofInt c80) := ⟨_, rfl⟩
      rw [← eU10]
      have hHU10 : HI U10 := by rw [eU10]; exact HI_any hHT9 (rfl)
      have hFU10 : FR md_mo_parted S U10 := by rw [eU10]; exact FR.wI hFT9 (mdf_i (r := (904, 905, 109, 110)) (List.mem_of_getElem? (i := 1) rfl) (inR_i (by omega) (by omega) (by omega) (by omega)))
      have w81 : Xi U10 904 109 = c80 := by rw [eU10]; exact Xi_same (by unfold rg; omega)
      have r45 : RDV U10 dfd := by first | exact rdv_i (by omega) (fun i hi => d35 i (by omega)) eU10 | exact rdv_i (hrd (by omega)).1 (hrd (by omega)).2 eU10
      have c45 : CHV U10 dfd m := CHV_FR (FR_e eU10) rfl (by first | exact c35 | exact hch)
      refine l_return rfl rfl ?_
      have w82 : Xi U10 904 110 = Xi U7 904 110 := (show Xi U10 904 110 = Xi T9 904 110 from by rw [eU10]; exact Xi_ne (by omega)).trans ( (show Xi T9 904 110 = Xi U8 904 110 from w78.x _ _ rfl).trans ((show Xi U8 904 110 = Xi U7 904 110 from by rw [eU8]; exact Xi_ne (by omega))))
      have w83 : 0 ≤ Xi U7 904 110 ∧ Xi U7 904 110 ≤ 15 := hHU7.c _ _
      have w84 : Xi U10 904 112 = Xi U8 904 112 := (show Xi U10 904 112 = Xi T9 904 112 from by rw [eU10]; exact Xi_ne (by omega)).trans ((show Xi T9 904 112 = Xi U8 904 112 from w78.x _ _ rfl))
      have w85 : 0 ≤ Xi U8 904 112 ∧ Xi U8 904 112 ≤ 6 := hHU8.c _ _
      have w86 : Xi U10 904 16 = Xi S 904 16 := (show Xi U10 904 16 = Xi T9 904 16 from by rw [eU10]; exact Xi_ne (by omega)).trans ( (show Xi T9 904 16 = Xi U8 904 16 from w78.x _ _ rfl).trans ( (show Xi U8 904 16 = Xi U7 904 16 from by rw [eU8]; exact Xi_ne (by omega)).trans ((show Xi U7 904 16 = Xi S 904 16 from by rw [eU7]; exact Xi_ne (by omega)))))
      have w87 : 0 ≤ Xi S 904 16 ∧ Xi S 904 16 ≤ 16 := hH.c _ _
      exact ⟨hHU10, hFU10, rfl, (by first | exact r45 | exact R52), (by first | exact c45 | exact C52)⟩
theorem k_mp (n : Nat) : ∀ (d : Nat) {S : sS} (_ : HI S) (from_ : Int) (to : Int) (kind : Int) (dfd : Int) (m : Int) (hfrom_ : 0 ≤ from_ ∧ from_ ≤ 5001) (hto : 0 ≤ to ∧ to ≤ 5001) (hkind : 0 ≤ kind ∧ kind ≤ 15) (hdfd : 0 ≤ dfd ∧ dfd ≤ 1) (hm : 0 ≤ m ∧ m ≤ 6) (hM : LXM S) (hB : ABV S) (hC : DCM S) (hft : from_ ≤ to) (hb : m + (to - from_) ≤ 5) (hk : kind < Xi S 904 16) (hch : CHV S dfd m) (hrd : RDV S dfd), (to - from_).toNat = n → Mt lay0 (d + n + 4) m_mo_parted [.ref 904, iv from_, iv to, iv kind, iv dfd, iv m] S (Q_mo_parted S from_ to kind dfd m) := by
  induction n using Nat.strongRecOn with
  | ind n ih =>
    intro d S hH from_ to kind dfd m hfrom_ hto hkind hdfd hm hM hB hC hft hb hk hch hrd hmeas
    exact u_mo_parted hH from_ to kind dfd m hfrom_ hto hkind hdfd hm hM hB hC hft hb hk hch hrd (d + n) (fun {S} hH2 xfrom_ xto xkind xdfd xm xhfrom_ xhto xhkind xhdfd xhm xhM xhB xhC xhft xhb xhk xhch xhrd hlt => by
      have t := ih (xto - xfrom_).toNat (by omega) (d + n - 1 - (xto - xfrom_).toNat) hH2 xfrom_ xto xkind xdfd xm xhfrom_ xhto xhkind xhdfd xhm xhM xhB xhC xhft xhb xhk xhch xhrd rfl
      rw [show d + n - 1 - (xto - xfrom_).toNat + (xto - xfrom_).toNat + 4 = d + n + 3 by omega] at t
      exact t)
theorem t_mo_parted {S : sS} (hH : HI S) (from_ : Int) (to : Int) (kind : Int) (dfd : Int) (m : Int) (hfrom_ : 0 ≤ from_ ∧ from_ ≤ 5001) (hto : 0 ≤ to ∧ to ≤ 5001) (hkind : 0 ≤ kind ∧ kind ≤ 15) (hdfd : 0 ≤ dfd ∧ dfd ≤ 1) (hm : 0 ≤ m ∧ m ≤ 6) (hM : LXM S) (hB : ABV S) (hC : DCM S) (hft : from_ ≤ to) (hb : m + (to - from_) ≤ 5) (hk : kind < Xi S 904 16) (hch : CHV S dfd m) (hrd : RDV S dfd) (d : Nat) : Mt lay0 (d + 9) m_mo_parted [.ref 904, iv from_, iv to, iv kind, iv dfd, iv m] S (Q_mo_parted S from_ to kind dfd m) := by
  have t := k_mp (to - from_).toNat (d + (5 - (to - from_).toNat)) hH from_ to kind dfd m hfrom_ hto hkind hdfd hm hM hB hC hft hb hk hch hrd rfl
  rw [show d + (5 - (to - from_).toNat) + (to - from_).toNat + 4 = d + 9 by omega] at t
  exact t

def md_mo_describe : List rec := [(904, 905, 64, 65), (904, 905, 109, 110), (904, 905, 110, 111), (904, 905, 112, 113), (904, 905, 113, 114), (967, 968, 0, 100000), (968, 969, 0, 100000)]
abbrev Q_mo_describe (S : sS) (from_ : Int) (m : Int) (pl : Int) (dfd : Int) (al : Int) : pst := fun r S1 => HI S1 ∧ FR md_mo_describe S S1 ∧ (r = none ∧ (RDV S1 dfd))
set_option maxRecDepth 100000 in
theorem t_mo_describe {S : sS} (hH : HI S) (from_ : Int) (m : Int) (pl : Int) (dfd : Int) (al : Int) (hfrom_ : 0 ≤ from_ ∧ from_ ≤ 5001) (hm : 0 ≤ m ∧ m ≤ 5010) (hpl : 0 ≤ pl ∧ pl ≤ 1) (hdfd : 0 ≤ dfd ∧ dfd ≤ 1) (hal : -1 ≤ al ∧ al ≤ 15) (hM : LXM S) (hB : ABV S) (hC : DCM S) (hfm : from_ + m ≤ 5001) (hrd : RDV S dfd) (d : Nat) : Mt lay0 (d + 10) m_mo_describe [.ref 904, iv from_, iv m, iv pl, iv dfd, iv al] S (Q_mo_describe S from_ m pl dfd al) := by
  refine Mt_R rfl rfl ?_
  have hF : FR md_mo_describe S S := FR.rf
  have hc16 : 0 ≤ Xi S 904 16 ∧ Xi S 904 16 ≤ 16 := hH.c _ _
  have C10 : ∀ (n10 : Nat) (T1 : sS) (_ : HI T1) (_ : FR md_mo_describe S T1) (v6 : Int), (1 ≤ v6 ∧ v6 ≤ 4) → (m ≤ 6) → (RDV T1 dfd) → n10 = (5 - v6).toNat → Rl lay0 (d + 9) m_mo_describe 10 [(0, .ref 904), (1, iv from_), (2, iv m), (3, iv pl), (4, iv dfd), (5, iv al), (6, iv v6)] [] T1 (Q_mo_describe S from_ m pl dfd al) := by
    intro n10
    induction n10 using Nat.strongRecOn with
    | ind n10 ih10 =>
      intro T1 hHT1 hFT1 v6 w1 w2 R10 hm10
      have w3 : Xi T1 904 16 = Xi S 904 16 := hFT1.x _ _ rfl
      have C90 : ∀  (T2 : sS) (_ : HI T2) (_ : FR md_mo_describe S T2), (RDV T2 dfd) → Rl lay0 (d + 9) m_mo_describe 90 [] [] T2 (Q_mo_describe S from_ m pl dfd al) := by
        intro T2 hHT2 hFT2 R90
        have w4 : Xi T2 904 16 = Xi S 904 16 := hFT2.x _ _ rfl
        refine l_return rfl rfl ?_
        exact ⟨hHT2, hFT2, rfl, (by first | exact R90 | exact R10 | exact hrd)⟩
      refine l_iload rfl rfl ?_
      refine l_iconst rfl ?_
      refine l_icmp_gt rfl rfl (by unfold rg; omega) (by unfold rg; omega) (fun w5 => ?_) (fun w6 => ?_)
      · exact Rl_weak (C90 T1 hHT1 hFT1  (R10)) (True.intro)
      · refine l_iload rfl rfl ?_
        refine l_iload_n rfl rfl ?_
        refine l_icmp_gt rfl rfl (by unfold rg; omega) (by unfold rg; omega) (fun w7 => ?_) (fun w8 => ?_)
        · exact Rl_weak (C90 T1 hHT1 hFT1  (R10)) (True.intro)
        · refine l_aload_n rfl rfl ?_
          refine l_iload_n rfl rfl ?_
          refine l_iload_n rfl rfl ?_
          refine l_iadd rfl ?_
          refine l_iload rfl rfl ?_
          refine l_isub rfl ?_
          refine l_iload rfl rfl ?_
          refine l_iload_n rfl rfl ?_
          refine l_if_eq rfl rfl (by unfold rg; omega) (fun w9 => ?_) (fun w10 => ?_)
          · refine l_iconst rfl ?_
            refine l_callV rfl rfl rfl (t_mo_means hHT1 ((from_ + m) - v6) v6 0 ⟨by omega, by omega⟩ ⟨by omega, by omega⟩ ⟨by omega, by omega⟩ (by first | assumption | omega) (by first | assumption | exact (LXM_FR hFT1 rfl (by assumption : LXM S))) _) ?_
            rintro _ _ ⟨rfl, z12, rfl, w12, w11⟩
            show Rl _ _ _ _ _ [iv z12] _ _
            have x40 : z12 ≠ -1 → z12 < Xi T1 904 16 := fun q => by have t := (by assumption : z12 ≠ -1 → z12 < cM T1 _) q; first | (rw [cM0] at t; exact t) | (rw [cM1] at t; exact t)
            have c40 : Xi T1 904 16 = Xi S 904 16 := hFT1.x 904 16 rfl
            refine l_istore rfl rfl rfl ?_
            refine l_iload rfl rfl ?_
            refine l_iconst rfl ?_
            refine l_icmp_eq rfl rfl (by unfold rg; omega) (by unfold rg; omega) (fun w13 => ?_) (fun w14 => ?_)
            · refine l_iinc rfl rfl rfl rfl ?_
              refine l_goto rfl rfl ?_
              exact Rl_weak (ih10 _ (by omega) T1 hHT1 hFT1 ((v6 + 1)) (by omega) (by omega) (by first | assumption | exact hrd) rfl) (And.intro rfl (And.intro rfl (And.intro rfl (And.intro rfl (And.intro rfl (And.intro rfl (And.intro rfl (True.intro))))))))
            · refine l_iload rfl rfl ?_
              refine l_iconst rfl ?_
              refine l_icmp_eq rfl rfl (by unfold rg; omega) (by unfold rg; omega) (fun w15 => ?_) (fun w16 => ?_)
              · refine l_aload_n rfl rfl ?_
                refine l_iload_n rfl rfl ?_
                refine l_iload_n rfl rfl ?_
                refine l_iload_n rfl rfl ?_
                refine l_iadd rfl ?_
                refine l_iload rfl rfl ?_
                refine l_isub rfl ?_
                refine l_iload rfl rfl ?_
                refine l_iload rfl rfl ?_
                refine l_iconst rfl ?_
                have w17 : 0 ≤ Xi T1 904 16 ∧ Xi T1 904 16 ≤ 16 := hHT1.c _ _
                refine l_callV rfl rfl rfl (t_mo_parted hHT1 from_ ((from_ + m) - v6) z12 dfd 0 ⟨by omega, by omega⟩ ⟨by omega, by omega⟩ ⟨by omega, by omega⟩ ⟨by omega, by omega⟩ ⟨by omega, by omega⟩ (by first | assumption | exact (LXM_FR hFT1 rfl (by assumption : LXM S))) (by first | assumption | exact (ABV_FR hFT1 rfl (by assumption : ABV S))) (by first | assumption | exact (DCM_FR hFT1 rfl (by assumption : DCM S))) (by first | assumption | omega) (by first | assumption | omega) (by first | assumption | omega) (fun i hi => absurd hi (by omega)) (by first | assumption | exact (by assumption : RDV T1 _)) _) ?_
                rintro _ T3 ⟨hHT3, w21, rfl, w18, w19⟩
                have hFT3 : FR md_mo_describe S T3 := FR.tr hFT1 w21 rfl
                show Rl _ _ _ _ _ [] _ _
                refine l_iinc rfl rfl rfl rfl ?_
                refine l_goto rfl rfl ?_
                exact Rl_weak (ih10 _ (by omega) T3 hHT3 hFT3 ((v6 + 1)) (by omega) (by omega) (by first | assumption | exact hrd) rfl) (And.intro rfl (And.intro rfl (And.intro rfl (And.intro rfl (And.intro rfl (And.intro rfl (And.intro rfl (True.intro))))))))
              · refine l_aload_n rfl rfl ?_
                refine l_iload rfl rfl ?_
                refine l_iload rfl rfl ?_
                refine l_callV rfl rfl rfl (t_mo_isBelow hHT1 z12 al ⟨by omega, by omega⟩ ⟨by omega, by omega⟩ (by first | assumption | exact (ABV_FR hFT1 rfl (by assumption : ABV S))) _) ?_
                rintro _ _ ⟨rfl, z23, rfl, w23, w22⟩
                show Rl _ _ _ _ _ [iv z23] _ _
                refine l_if_eq rfl rfl (by unfold rg; omega) (fun w24 => ?_) (fun w25 => ?_)
                · refine l_iinc rfl rfl rfl rfl ?_
                  refine l_goto rfl rfl ?_
                  exact Rl_weak (ih10 _ (by omega) T1 hHT1 hFT1 ((v6 + 1)) (by omega) (by omega) (by first | assumption | exact hrd) rfl) (And.intro rfl (And.intro rfl (And.intro rfl (And.intro rfl (And.intro rfl (And.intro rfl (And.intro rfl (True.intro))))))))
                · refine l_aload_n rfl rfl ?_
                  refine l_iload_n rfl rfl ?_
                  refine l_iload_n rfl rfl ?_
                  refine l_iload_n rfl rfl ?_
                  refine l_iadd rfl ?_
                  refine l_iload rfl rfl ?_
                  refine l_isub rfl ?_
                  refine l_iload rfl rfl ?_
                  refine l_iload rfl rfl ?_
                  refine l_iconst rfl ?_
                  have w26 : 0 ≤ Xi T1 904 16 ∧ Xi T1 904 16 ≤ 16 := hHT1.c _ _
                  refine l_callV rfl rfl rfl (t_mo_parted hHT1 from_ ((from_ + m) - v6) z12 dfd 0 ⟨by omega, by omega⟩ ⟨by omega, by omega⟩ ⟨by omega, by omega⟩ ⟨by omega, by omega⟩ ⟨by omega, by omega⟩ (by first | assumption | exact (LXM_FR hFT1 rfl (by assumption : LXM S))) (by first | assumption | exact (ABV_FR hFT1 rfl (by assumption : ABV S))) (by first | assumption | exact (DCM_FR hFT1 rfl (by assumption : DCM S))) (by first | assumption | omega) (by first | assumption | omega) (by first | assumption | omega) (fun i hi => absurd hi (by omega)) (by first | assumption | exact (by assumption : RDV T1 _)) _) ?_
                  rintro _ T4 ⟨hHT4, w30, rfl, w27, w28⟩
                  have hFT4 : FR md_mo_describe S T4 := FR.tr hFT1 w30 rfl
                  show Rl _ _ _ _ _ [] _ _
                  refine l_iinc rfl rfl rfl rfl ?_
                  refine l_goto rfl rfl ?_
                  exact Rl_weak (ih10 _ (by omega) T4 hHT4 hFT4 ((v6 + 1)) (by omega) (by omega) (by first | assumption | exact hrd) rfl) (And.intro rfl (And.intro rfl (And.intro rfl (And.intro rfl (And.intro rfl (And.intro rfl (And.intro rfl (True.intro))))))))
          · refine l_iconst rfl ?_
            refine l_goto rfl rfl ?_
            refine l_callV rfl rfl rfl (t_mo_means hHT1 ((from_ + m) - v6) v6 1 ⟨by omega, by omega⟩ ⟨by omega, by omega⟩ ⟨by omega, by omega⟩ (by first | assumption | omega) (by first | assumption | exact (LXM_FR hFT1 rfl (by assumption : LXM S))) _) ?_
            rintro _ _ ⟨rfl, z32, rfl, w32, w31⟩
            show Rl _ _ _ _ _ [iv z32] _ _
            have x40 : z32 ≠ -1 → z32 < Xi T1 904 16 := fun q => by have t := (by assumption : z32 ≠ -1 → z32 < cM T1 _) q; first | (rw [cM0] at t; exact t) | (rw [cM1] at t; exact t)
            have c40 : Xi T1 904 16 = Xi S 904 16 := hFT1.x 904 16 rfl
            refine l_istore rfl rfl rfl ?_
            refine l_iload rfl rfl ?_
            refine l_iconst rfl ?_
            refine l_icmp_eq rfl rfl (by unfold rg; omega) (by unfold rg; omega) (fun w33 => ?_) (fun w34 => ?_)
            · refine l_iinc rfl rfl rfl rfl ?_
              refine l_goto rfl rfl ?_
              exact Rl_weak (ih10 _ (by omega) T1 hHT1 hFT1 ((v6 + 1)) (by omega) (by omega) (by first | assumption | exact hrd) rfl) (And.intro rfl (And.intro rfl (And.intro rfl (And.intro rfl (And.intro rfl (And.intro rfl (And.intro rfl (True.intro))))))))
            · refine l_iload rfl rfl ?_
              refine l_iconst rfl ?_
              refine l_icmp_eq rfl rfl (by unfold rg; omega) (by unfold rg; omega) (fun w35 => ?_) (fun w36 => ?_)
              · refine l_aload_n rfl rfl ?_
                refine l_iload_n rfl rfl ?_
                refine l_iload_n rfl rfl ?_
                refine l_iload_n rfl rfl ?_
                refine l_iadd rfl ?_
                refine l_iload rfl rfl ?_
                refine l_isub rfl ?_
                refine l_iload rfl rfl ?_
                refine l_iload rfl rfl ?_
                refine l_iconst rfl ?_
                have w37 : 0 ≤ Xi T1 904 16 ∧ Xi T1 904 16 ≤ 16 := hHT1.c _ _
                refine l_callV rfl rfl rfl (t_mo_parted hHT1 from_ ((from_ + m) - v6) z32 dfd 0 ⟨by omega, by omega⟩ ⟨by omega, by omega⟩ ⟨by omega, by omega⟩ ⟨by omega, by omega⟩ ⟨by omega, by omega⟩ (by first | assumption | exact (LXM_FR hFT1 rfl (by assumption : LXM S))) (by first | assumption | exact (ABV_FR hFT1 rfl (by assumption : ABV S))) (by first | assumption | exact (DCM_FR hFT1 rfl (by assumption : DCM S))) (by first | assumption | omega) (by first | assumption | omega) (by first | assumption | omega) (fun i hi => absurd hi (by omega)) (by first | assumption | exact (by assumption : RDV T1 _)) _) ?_
                rintro _ T5 ⟨hHT5, w41, rfl, w38, w39⟩
                have hFT5 : FR md_mo_describe S T5 := FR.tr hFT1 w41 rfl
                show Rl _ _ _ _ _ [] _ _
                refine l_iinc rfl rfl rfl rfl ?_
                refine l_goto rfl rfl ?_
                exact Rl_weak (ih10 _ (by omega) T5 hHT5 hFT5 ((v6 + 1)) (by omega) (by omega) (by first | assumption | exact hrd) rfl) (And.intro rfl (And.intro rfl (And.intro rfl (And.intro rfl (And.intro rfl (And.intro rfl (And.intro rfl (True.intro))))))))
              · refine l_aload_n rfl rfl ?_
                refine l_iload rfl rfl ?_
                refine l_iload rfl rfl ?_
                refine l_callV rfl rfl rfl (t_mo_isBelow hHT1 z32 al ⟨by omega, by omega⟩ ⟨by omega, by omega⟩ (by first | assumption | exact (ABV_FR hFT1 rfl (by assumption : ABV S))) _) ?_
                rintro _ _ ⟨rfl, z43, rfl, w43, w42⟩
                show Rl _ _ _ _ _ [iv z43] _ _
                refine l_if_eq rfl rfl (by unfold rg; omega) (fun w44 => ?_) (fun w45 => ?_)
                · refine l_iinc rfl rfl rfl rfl ?_
                  refine l_goto rfl rfl ?_
                  exact Rl_weak (ih10 _ (by omega) T1 hHT1 hFT1 ((v6 + 1)) (by omega) (by omega) (by first | assumption | exact hrd) rfl) (And.intro rfl (And.intro rfl (And.intro rfl (And.intro rfl (And.intro rfl (And.intro rfl (And.intro rfl (True.intro))))))))
                · refine l_aload_n rfl rfl ?_
                  refine l_iload_n rfl rfl ?_
                  refine l_iload_n rfl rfl ?_
                  refine l_iload_n rfl rfl ?_
                  refine l_iadd rfl ?_
                  refine l_iload rfl rfl ?_
                  refine l_isub rfl ?_
                  refine l_iload rfl rfl ?_
                  refine l_iload rfl rfl ?_
                  refine l_iconst rfl ?_
                  have w46 : 0 ≤ Xi T1 904 16 ∧ Xi T1 904 16 ≤ 16 := hHT1.c _ _
                  refine l_callV rfl rfl rfl (t_mo_parted hHT1 from_ ((from_ + m) - v6) z32 dfd 0 ⟨by omega, by omega⟩ ⟨by omega, by omega⟩ ⟨by omega, by omega⟩ ⟨by omega, by omega⟩ ⟨by omega, by omega⟩ (by first | assumption | exact (LXM_FR hFT1 rfl (by assumption : LXM S))) (by first | assumption | exact (ABV_FR hFT1 rfl (by assumption : ABV S))) (by first | assumption | exact (DCM_FR hFT1 rfl (by assumption : DCM S))) (by first | assumption | omega) (by first | assumption | omega) (by first | assumption | omega) (fun i hi => absurd hi (by omega)) (by first | assumption | exact (by assumption : RDV T1 _)) _) ?_
                  rintro _ T6 ⟨hHT6, w50, rfl, w47, w48⟩
                  have hFT6 : FR md_mo_describe S T6 := FR.tr hFT1 w50 rfl
                  show Rl _ _ _ _ _ [] _ _
                  refine l_iinc rfl rfl rfl rfl ?_
                  refine l_goto rfl rfl ?_
                  exact Rl_weak (ih10 _ (by omega) T6 hHT6 hFT6 ((v6 + 1)) (by omega) (by omega) (by first | assumption | exact hrd) rfl) (And.intro rfl (And.intro rfl (And.intro rfl (And.intro rfl (And.intro rfl (And.intro rfl (And.intro rfl (True.intro))))))))
  refine l_iload_n rfl rfl ?_
  refine l_bipush rfl rfl ?_
  refine l_icmp_le rfl rfl (by unfold rg; omega) (by unfold rg; omega) (fun w51 => ?_) (fun w52 => ?_)
  · refine l_iconst rfl ?_
    refine l_istore rfl rfl rfl ?_
    exact Rl_weak (C10 _ S hH hF (1) (by omega) (by omega) (by first | assumption | exact hrd) rfl) (And.intro rfl (And.intro rfl (And.intro rfl (And.intro rfl (And.intro rfl (And.intro rfl (And.intro rfl (True.intro))))))))
  · refine l_return rfl rfl ?_
    exact ⟨hH, hF, rfl, (by first | exact R90 | exact R10 | exact hrd)⟩
theorem msR_1 {S : sS} {t n s : Int} (h : msR S t n s ≠ -1) : 1 ≤ n ∧ n ≤ 3 := by
  unfold msR nmR at h
  by_cases q : n < 1 ∨ 3 < n
  · rw [if_pos q] at h
    exact absurd (if_neg (fun x => x.1 rfl)) h
  · omega
abbrev Q_mo_objectOf__2 (S : sS) (from_ : Int) (to : Int) : pst := fun r S1 => S = S1 ∧ (∃ z : Int, r = some (iv z) ∧ (-9 ≤ z ∧ z ≤ 23) ∧ (z ≠ -9 → 0 ≤ z ∧ z < Xi S 904 19) ∧ (z ≠ -9 → from_ < to))
set_option maxRecDepth 100000 in
theorem t_mo_objectOf__2 {S : sS} (hH : HI S) (from_ : Int) (to : Int) (hfrom_ : 0 ≤ from_ ∧ from_ ≤ 5001) (hto : 0 ≤ to ∧ to ≤ 5001) (hM : LXM S) (d : Nat) : Mt lay0 (d + 4) m_mo_objectOf [.ref 904, iv from_, iv to] S (Q_mo_objectOf__2 S from_ to) := by
  refine Mt_R rfl rfl ?_
  have w1 : 0 ≤ Xi S 904 19 ∧ Xi S 904 19 ≤ 24 := hH.c _ _
  have hc19 : 0 ≤ Xi S 904 19 ∧ Xi S 904 19 ≤ 24 := hH.c _ _
  have C28 : ∀ (n28 : Nat) (v3 : Int) (v4 : Int), (0 ≤ v3 ∧ v3 ≤ 5001) → (0 ≤ v4 ∧ v4 ≤ 5001) → (from_ ≤ v3 ∧ v3 ≤ from_ + 1) → (v3 ≤ 5001) → n28 = (5002 - v4).toNat → Rl lay0 (d + 3) m_mo_objectOf 28 [(0, .ref 904), (2, iv to), (3, iv v3), (4, iv v4)] [] S (Q_mo_objectOf__2 S from_ to) := by
    intro n28
    induction n28 using Nat.strongRecOn with
    | ind n28 ih28 =>
      intro v3 v4 w2 w3 w4 w5 hm28
      refine l_iload rfl rfl ?_
      refine l_iload_n rfl rfl ?_
      refine l_icmp_ge rfl rfl (by unfold rg; omega) (by unfold rg; omega) (fun w6 => ?_) (fun w7 => ?_)
      · refine l_aload_n rfl rfl ?_
        refine l_iload_n rfl rfl ?_
        refine l_iload_n rfl rfl ?_
        refine l_iload_n rfl rfl ?_
        refine l_isub rfl ?_
        refine l_iconst rfl ?_
        refine l_callV rfl rfl rfl (t_mo_means__2 hH v3 (to - v3) 4 ⟨by omega, by omega⟩ ⟨by omega, by omega⟩ ⟨by omega, by omega⟩ (by first | assumption | omega) (by first | assumption | exact (by assumption : LXM S)) _) ?_
        rintro _ _ ⟨rfl, z10, rfl, w10, w8, w9⟩
        show Rl _ _ _ _ _ [iv z10] _ _
        have x60 : z10 ≠ -1 → z10 < Xi S 904 19 := fun q => by have t := (by assumption : z10 ≠ -1 → z10 < cM S 4) q; rw [cM4] at t; exact t
        have p60 : z10 ≠ -1 → 1 ≤ to - v3 := fun q => (msR_1 (S := S) (t := v3) (n := to - v3) (s := 4) (by rw [← (by assumption : z10 = msR S _ _ _)]; exact q)).1
        refine l_istore rfl rfl rfl ?_
        refine l_iload rfl rfl ?_
        refine l_iconst rfl ?_
        refine l_icmp_ne rfl rfl (by unfold rg; omega) (by unfold rg; omega) (fun w11 => ?_) (fun w12 => ?_)
        · refine l_iload rfl rfl ?_
          refine l_ireturn rfl rfl ?_
          exact ⟨rfl, _, rfl, ⟨by omega, by omega⟩, (by omega), (by omega)⟩
        · refine l_bipush rfl rfl ?_
          refine l_goto rfl rfl ?_
          refine l_ireturn rfl rfl ?_
          exact ⟨rfl, _, rfl, ⟨by omega, by omega⟩, (by omega), (by omega)⟩
      · refine l_aload_n rfl rfl ?_
        refine l_gfr rfl rfl rfl rfl rfl (hH.r 904 4 907 rfl) ?_
        refine l_iload rfl rfl ?_
        refine l_iaload (n := 5002) rfl rfl (by omega) (by omega) (by unfold rg; omega) ?_
        have w13 : 0 ≤ (Xi S 907 ((v4).toNat)) ∧ (Xi S 907 ((v4).toNat)) ≤ 154 := hH.c _ _
        refine l_iconst rfl ?_
        refine l_icmp_eq rfl rfl (by unfold rg; omega) (by unfold rg; omega) (fun w14 => ?_) (fun w15 => ?_)
        · refine l_iinc rfl rfl rfl rfl ?_
          refine l_goto rfl rfl ?_
          exact Rl_weak (ih28 _ (by omega) (v3) ((v4 + 1)) (by omega) (by omega) (by omega) (by omega) rfl) (And.intro rfl (And.intro rfl (And.intro rfl (And.intro rfl (True.intro)))))
        · refine l_bipush rfl rfl ?_
          refine l_ireturn rfl rfl ?_
          exact ⟨rfl, _, rfl, ⟨by omega, by omega⟩, (by omega), (by omega)⟩
  refine l_iload_n rfl rfl ?_
  refine l_iload_n rfl rfl ?_
  refine l_icmp_ge rfl rfl (by unfold rg; omega) (by unfold rg; omega) (fun w16 => ?_) (fun w17 => ?_)
  · refine l_iload_n rfl rfl ?_
    refine l_istore_n rfl rfl rfl ?_
    refine l_iload_n rfl rfl ?_
    refine l_istore rfl rfl rfl ?_
    exact Rl_weak (C28 _ (from_) (from_) (by omega) (by omega) (by omega) (by omega) rfl) (And.intro rfl (And.intro rfl (And.intro rfl (And.intro rfl (True.intro)))))
  · refine l_aload_n rfl rfl ?_
    refine l_gfr rfl rfl rfl rfl rfl (hH.r 904 4 907 rfl) ?_
    refine l_iload_n rfl rfl ?_
    refine l_iaload (n := 5002) rfl rfl (by omega) (by omega) (by unfold rg; omega) ?_
    have w18 : 0 ≤ (Xi S 907 ((from_).toNat)) ∧ (Xi S 907 ((from_).toNat)) ≤ 154 := hH.c _ _
    refine l_callS rfl rfl (by decide) rfl (t_mo_isArt hH (Xi S 907 ((from_).toNat)) ⟨by omega, by omega⟩ _) ?_
    rintro _ _ ⟨rfl, z20, rfl, w20, w19⟩
    show Rl _ _ _ _ _ [iv z20] _ _
    refine l_if_eq rfl rfl (by unfold rg; omega) (fun w21 => ?_) (fun w22 => ?_)
    · refine l_iload_n rfl rfl ?_
      refine l_istore_n rfl rfl rfl ?_
      refine l_iload_n rfl rfl ?_
      refine l_istore rfl rfl rfl ?_
      exact Rl_weak (C28 _ (from_) (from_) (by omega) (by omega) (by omega) (by omega) rfl) (And.intro rfl (And.intro rfl (And.intro rfl (And.intro rfl (True.intro)))))
    · refine l_iload_n rfl rfl ?_
      refine l_iconst rfl ?_
      refine l_iadd rfl ?_
      refine l_goto rfl rfl ?_
      refine l_istore_n rfl rfl rfl ?_
      refine l_iload_n rfl rfl ?_
      refine l_istore rfl rfl rfl ?_
      exact Rl_weak (C28 _ ((from_ + 1)) ((from_ + 1)) (by omega) (by omega) (by omega) (by omega) rfl) (And.intro rfl (And.intro rfl (And.intro rfl (And.intro rfl (True.intro)))))
def md_mo_listOf : List rec := [(988, 989, 0, 100000), (989, 990, 0, 100000), (990, 991, 0, 100000)]
abbrev Q_mo_listOf (S : sS) (from_ : Int) (to : Int) (kind : Int) : pst := fun r S1 => HI S1 ∧ FR md_mo_listOf S S1 ∧ (∃ z : Int, r = some (iv z) ∧ (0 ≤ z ∧ z ≤ 2600))
set_option maxRecDepth 100000 in
theorem t_mo_listOf {S : sS} (hH : HI S) (from_ : Int) (to : Int) (kind : Int) (hfrom_ : 0 ≤ from_ ∧ from_ ≤ 5001) (hto : 0 ≤ to ∧ to ≤ 5001) (hkind : 0 ≤ kind ∧ kind ≤ 15) (hM : LXM S) (hB : ABV S) (hft : from_ ≤ to) (d : Nat) : Mt lay0 (d + 5) m_mo_listOf [.ref 904, iv from_, iv to, .ref 988, iv kind] S (Q_mo_listOf S from_ to kind) := by
  refine Mt_R rfl rfl ?_
  have hF : FR md_mo_listOf S S := FR.rf
  have hc19 : 0 ≤ Xi S 904 19 ∧ Xi S 904 19 ≤ 24 := hH.c _ _
  have C9 : ∀ (n9 : Nat) (T1 : sS) (_ : HI T1) (_ : FR md_mo_listOf S T1) (v5 : Int) (v6 : Int) (v7 : Int), (0 ≤ v5 ∧ v5 ≤ 2600) → (0 ≤ v6 ∧ v6 ≤ 5002) → (0 ≤ v7 ∧ v7 ≤ 1) → (from_ ≤ v6) → (v6 ≤ to + 1) → (v7 = 1 → v6 ≤ to) → (2 * v5 ≤ v6 - from_) → n9 = (6000 * v7 - v6).toNat → Rl lay0 (d + 4) m_mo_listOf 9 [(0, .ref 904), (2, iv to), (3, .ref 988), (4, iv kind), (5, iv v5), (6, iv v6), (7, iv v7)] [] T1 (Q_mo_listOf S from_ to kind) := by
    intro n9
    induction n9 using Nat.strongRecOn with
    | ind n9 ih9 =>
      intro T1 hHT1 hFT1 v5 v6 v7 w1 w2 w3 w4 w5 w6 w7 hm9
      have w8 : Xi T1 904 19 = Xi S 904 19 := hFT1.x _ _ rfl
      have C18 : ∀ (n18 : Nat) (T2 : sS) (_ : HI T2) (_ : FR md_mo_listOf S T2) (v5 : Int) (v6 : Int) (v8 : Int), (0 ≤ v5 ∧ v5 ≤ 2600) → (0 ≤ v6 ∧ v6 ≤ 5002) → (0 ≤ v8 ∧ v8 ≤ 5001) → (from_ ≤ v6) → (v6 ≤ to) → (2 * v5 ≤ v6 - from_) → (v6 ≤ v8) → (v8 ≤ to) → ((6000 * v7 - v6).toNat ≤ n9) → n18 = (5002 - v8).toNat → Rl lay0 (d + 4) m_mo_listOf 18 [(0, .ref 904), (2, iv to), (3, .ref 988), (4, iv kind), (5, iv v5), (6, iv v6), (8, iv v8)] [] T2 (Q_mo_listOf S from_ to kind) := by
        intro n18
        induction n18 using Nat.strongRecOn with
        | ind n18 ih18 =>
          intro T2 hHT2 hFT2 v5 v6 v8 w9 w10 w11 w12 w13 w14 w15 w16 w17 hm18
          have w18 : Xi T2 904 19 = Xi S 904 19 := hFT2.x _ _ rfl
          refine l_iload rfl rfl ?_
          refine l_iload_n rfl rfl ?_
          refine l_icmp_ge rfl rfl (by unfold rg; omega) (by unfold rg; omega) (fun w19 => ?_) (fun w20 => ?_)
          · refine l_aload_n rfl rfl ?_
            refine l_iload rfl rfl ?_
            refine l_iload rfl rfl ?_
            have w21 : 0 ≤ Xi T2 904 19 ∧ Xi T2 904 19 ≤ 24 := hHT2.c _ _
            refine l_callV rfl rfl rfl (t_mo_objectOf__2 hHT2 v6 v8 ⟨by omega, by omega⟩ ⟨by omega, by omega⟩ (by first | assumption | exact (LXM_FR hFT2 rfl (by assumption : LXM S))) _) ?_
            rintro _ _ ⟨rfl, z24, rfl, w24, w22, w23⟩
            show Rl _ _ _ _ _ [iv z24] _ _
            refine l_istore rfl rfl rfl ?_
            refine l_iload rfl rfl ?_
            refine l_bipush rfl rfl ?_
            refine l_icmp_eq rfl rfl (by unfold rg; omega) (by unfold rg; omega) (fun w25 => ?_) (fun w26 => ?_)
            · refine l_iconst rfl ?_
              refine l_ireturn rfl rfl ?_
              exact ⟨hHT2, hFT2, _, rfl, ⟨by omega, by omega⟩⟩
            · refine l_aload_n rfl rfl ?_
              refine l_aload_n rfl rfl ?_
              refine l_gfr rfl rfl rfl rfl rfl (hHT2.r 904 20 918 rfl) ?_
              refine l_iload rfl rfl ?_
              refine l_iaload (n := 24) rfl rfl (by omega) (by omega) (by unfold rg; omega) ?_
              have w27 : 0 ≤ (Xi T2 918 ((z24).toNat)) ∧ (Xi T2 918 ((z24).toNat)) ≤ 15 := hHT2.c _ _
              refine l_iload rfl rfl ?_
              refine l_callV rfl rfl rfl (t_mo_isBelow hHT2 (Xi T2 918 ((z24).toNat)) kind ⟨by omega, by omega⟩ ⟨by omega, by omega⟩ (by first | assumption | exact (ABV_FR hFT2 rfl (by assumption : ABV S))) _) ?_
              rintro _ _ ⟨rfl, z29, rfl, w29, w28⟩
              show Rl _ _ _ _ _ [iv z29] _ _
              refine l_if_ne rfl rfl (by unfold rg; omega) (fun w30 => ?_) (fun w31 => ?_)
              · refine l_aload_n rfl rfl ?_
                refine l_iload rfl rfl ?_
                refine l_iload rfl rfl ?_
                refine l_iastore (n := 2600) rfl rfl (by omega) (by omega) (by unfold rg; omega) ?_
                obtain ⟨U3, eU3⟩ : ∃ T : sS, T = uI T2 988 ((v5).toNat) (Int32.ofInt z24) := ⟨_, rfl⟩
                rw [← eU3]
                have hHU3 : HI U3 := by rw [eU3]; exact HI_w hHT2 (show 0 ≤ z24 by omega) (show z24 ≤ 23 by omega)
                have hFU3 : FR md_mo_listOf S U3 := by rw [eU3]; exact FR.wI hFT2 (mdf_i (r := (988, 989, 0, 100000)) (List.mem_of_getElem? (i := 0) rfl) (inR_i (by omega) (by omega) (by omega) (by omega)))
                have w32 : Xi U3 988 ((v5).toNat) = z24 := by rw [eU3]; exact Xi_same (by unfold rg; omega)
                refine l_iinc rfl rfl rfl rfl ?_
                refine l_iload rfl rfl ?_
                refine l_iload_n rfl rfl ?_
                refine l_icmp_ge rfl rfl (by unfold rg; omega) (by unfold rg; omega) (fun w33 => ?_) (fun w34 => ?_)
                · refine l_iconst rfl ?_
                  refine l_istore rfl rfl rfl ?_
                  refine l_iload rfl rfl ?_
                  refine l_iconst rfl ?_
                  refine l_iadd rfl ?_
                  refine l_istore rfl rfl rfl ?_
                  refine l_iload rfl rfl ?_
                  refine l_iload rfl rfl ?_
                  refine l_if_eq rfl rfl (by unfold rg; omega) (fun w35 => ?_) (fun w36 => absurd w36 (by omega))
                  · refine l_iconst rfl ?_
                    refine l_iadd rfl ?_
                    refine l_istore rfl rfl rfl ?_
                    refine l_goto rfl rfl ?_
                    exact Rl_weak (ih9 _ (by omega) U3 hHU3 hFU3 ((v5 + 1)) (((v8 + 1) + 0)) (0) (by omega) (by omega) (by omega) (by omega) (by omega) (by omega) (by omega) rfl) (And.intro rfl (And.intro rfl (And.intro rfl (And.intro rfl (And.intro rfl (And.intro rfl (And.intro rfl (True.intro))))))))
                · refine l_iconst rfl ?_
                  refine l_goto rfl rfl ?_
                  refine l_istore rfl rfl rfl ?_
                  refine l_iload rfl rfl ?_
                  refine l_iconst rfl ?_
                  refine l_iadd rfl ?_
                  refine l_istore rfl rfl rfl ?_
                  refine l_iload rfl rfl ?_
                  refine l_iload rfl rfl ?_
                  refine l_if_eq rfl rfl (by unfold rg; omega) (fun w37 => absurd w37 (by omega)) (fun w38 => ?_)
                  · refine l_aload_n rfl rfl ?_
                    refine l_gfr rfl rfl rfl rfl rfl (hHU3.r 904 4 907 rfl) ?_
                    refine l_iload rfl rfl ?_
                    refine l_iaload (n := 5002) rfl rfl (by omega) (by omega) (by unfold rg; omega) ?_
                    have w39 : 0 ≤ (Xi U3 907 ((v8).toNat)) ∧ (Xi U3 907 ((v8).toNat)) ≤ 154 := hHU3.c _ _
                    refine l_bipush rfl rfl ?_
                    refine l_icmp_ne rfl rfl (by unfold rg; omega) (by unfold rg; omega) (fun w40 => ?_) (fun w41 => ?_)
                    · refine l_iconst rfl ?_
                      refine l_iadd rfl ?_
                      refine l_istore rfl rfl rfl ?_
                      refine l_goto rfl rfl ?_
                      exact Rl_weak (ih9 _ (by omega) U3 hHU3 hFU3 ((v5 + 1)) (((v8 + 1) + 0)) (1) (by omega) (by omega) (by omega) (by omega) (by omega) (by omega) (by omega) rfl) (And.intro rfl (And.intro rfl (And.intro rfl (And.intro rfl (And.intro rfl (And.intro rfl (And.intro rfl (True.intro))))))))
                    · refine l_iload rfl rfl ?_
                      refine l_iload_n rfl rfl ?_
                      refine l_icmp_ge rfl rfl (by unfold rg; omega) (by unfold rg; omega) (fun w42 => ?_) (fun w43 => ?_)
                      · refine l_iconst rfl ?_
                        refine l_iadd rfl ?_
                        refine l_istore rfl rfl rfl ?_
                        refine l_goto rfl rfl ?_
                        exact Rl_weak (ih9 _ (by omega) U3 hHU3 hFU3 ((v5 + 1)) (((v8 + 1) + 0)) (1) (by omega) (by omega) (by omega) (by omega) (by omega) (by omega) (by omega) rfl) (And.intro rfl (And.intro rfl (And.intro rfl (And.intro rfl (And.intro rfl (And.intro rfl (And.intro rfl (True.intro))))))))
                      · refine l_aload_n rfl rfl ?_
                        refine l_gfr rfl rfl rfl rfl rfl (hHU3.r 904 4 907 rfl) ?_
                        refine l_iload rfl rfl ?_
                        refine l_iaload (n := 5002) rfl rfl (by omega) (by omega) (by unfold rg; omega) ?_
                        have w44 : 0 ≤ (Xi U3 907 (((v8 + 1)).toNat)) ∧ (Xi U3 907 (((v8 + 1)).toNat)) ≤ 154 := hHU3.c _ _
                        refine l_bipush rfl rfl ?_
                        refine l_icmp_ne rfl rfl (by unfold rg; omega) (by unfold rg; omega) (fun w45 => ?_) (fun w46 => ?_)
                        · refine l_iconst rfl ?_
                          refine l_iadd rfl ?_
                          refine l_istore rfl rfl rfl ?_
                          refine l_goto rfl rfl ?_
                          exact Rl_weak (ih9 _ (by omega) U3 hHU3 hFU3 ((v5 + 1)) (((v8 + 1) + 0)) (1) (by omega) (by omega) (by omega) (by omega) (by omega) (by omega) (by omega) rfl) (And.intro rfl (And.intro rfl (And.intro rfl (And.intro rfl (And.intro rfl (And.intro rfl (And.intro rfl (True.intro))))))))
                        · refine l_iconst rfl ?_
                          refine l_goto rfl rfl ?_
                          refine l_iadd rfl ?_
                          refine l_istore rfl rfl rfl ?_
                          refine l_goto rfl rfl ?_
                          exact Rl_weak (ih9 _ (by omega) U3 hHU3 hFU3 ((v5 + 1)) (((v8 + 1) + 1)) (1) (by omega) (by omega) (by omega) (by omega) (by omega) (by omega) (by omega) rfl) (And.intro rfl (And.intro rfl (And.intro rfl (And.intro rfl (And.intro rfl (And.intro rfl (And.intro rfl (True.intro))))))))
              · refine l_iconst rfl ?_
                refine l_ireturn rfl rfl ?_
                exact ⟨hHT2, hFT2, _, rfl, ⟨by omega, by omega⟩⟩
          · refine l_aload_n rfl rfl ?_
            refine l_gfr rfl rfl rfl rfl rfl (hHT2.r 904 4 907 rfl) ?_
            refine l_iload rfl rfl ?_
            refine l_iaload (n := 5002) rfl rfl (by omega) (by omega) (by unfold rg; omega) ?_
            have w47 : 0 ≤ (Xi T2 907 ((v8).toNat)) ∧ (Xi T2 907 ((v8).toNat)) ≤ 154 := hHT2.c _ _
            refine l_bipush rfl rfl ?_
            refine l_icmp_eq rfl rfl (by unfold rg; omega) (by unfold rg; omega) (fun w48 => ?_) (fun w49 => ?_)
            · refine l_aload_n rfl rfl ?_
              refine l_iload rfl rfl ?_
              refine l_iload rfl rfl ?_
              have w50 : 0 ≤ Xi T2 904 19 ∧ Xi T2 904 19 ≤ 24 := hHT2.c _ _
              refine l_callV rfl rfl rfl (t_mo_objectOf__2 hHT2 v6 v8 ⟨by omega, by omega⟩ ⟨by omega, by omega⟩ (by first | assumption | exact (LXM_FR hFT2 rfl (by assumption : LXM S))) _) ?_
              rintro _ _ ⟨rfl, z53, rfl, w53, w51, w52⟩
              show Rl _ _ _ _ _ [iv z53] _ _
              refine l_istore rfl rfl rfl ?_
              refine l_iload rfl rfl ?_
              refine l_bipush rfl rfl ?_
              refine l_icmp_eq rfl rfl (by unfold rg; omega) (by unfold rg; omega) (fun w54 => ?_) (fun w55 => ?_)
              · refine l_iconst rfl ?_
                refine l_ireturn rfl rfl ?_
                exact ⟨hHT2, hFT2, _, rfl, ⟨by omega, by omega⟩⟩
              · refine l_aload_n rfl rfl ?_
                refine l_aload_n rfl rfl ?_
                refine l_gfr rfl rfl rfl rfl rfl (hHT2.r 904 20 918 rfl) ?_
                refine l_iload rfl rfl ?_
                refine l_iaload (n := 24) rfl rfl (by omega) (by omega) (by unfold rg; omega) ?_
                have w56 : 0 ≤ (Xi T2 918 ((z53).toNat)) ∧ (Xi T2 918 ((z53).toNat)) ≤ 15 := hHT2.c _ _
                refine l_iload rfl rfl ?_
                refine l_callV rfl rfl rfl (t_mo_isBelow hHT2 (Xi T2 918 ((z53).toNat)) kind ⟨by omega, by omega⟩ ⟨by omega, by omega⟩ (by first | assumption | exact (ABV_FR hFT2 rfl (by assumption : ABV S))) _) ?_
                rintro _ _ ⟨rfl, z58, rfl, w58, w57⟩
                show Rl _ _ _ _ _ [iv z58] _ _
                refine l_if_ne rfl rfl (by unfold rg; omega) (fun w59 => ?_) (fun w60 => ?_)
                · refine l_aload_n rfl rfl ?_
                  refine l_iload rfl rfl ?_
                  refine l_iload rfl rfl ?_
                  refine l_iastore (n := 2600) rfl rfl (by omega) (by omega) (by unfold rg; omega) ?_
                  obtain ⟨U4, eU4⟩ : ∃ T : sS, T = uI T2 988 ((v5).toNat) (Int32.ofInt z53) := ⟨_, rfl⟩
                  rw [← eU4]
                  have hHU4 : HI U4 := by rw [eU4]; exact HI_w hHT2 (show 0 ≤ z53 by omega) (show z53 ≤ 23 by omega)
                  have hFU4 : FR md_mo_listOf S U4 := by rw [eU4]; exact FR.wI hFT2 (mdf_i (r := (988, 989, 0, 100000)) (List.mem_of_getElem? (i := 0) rfl) (inR_i (by omega) (by omega) (by omega) (by omega)))
                  have w61 : Xi U4 988 ((v5).toNat) = z53 := by rw [eU4]; exact Xi_same (by unfold rg; omega)
                  refine l_iinc rfl rfl rfl rfl ?_
                  refine l_iload rfl rfl ?_
                  refine l_iload_n rfl rfl ?_
                  refine l_icmp_ge rfl rfl (by unfold rg; omega) (by unfold rg; omega) (fun w62 => ?_) (fun w63 => ?_)
                  · refine l_iconst rfl ?_
                    refine l_istore rfl rfl rfl ?_
                    refine l_iload rfl rfl ?_
                    refine l_iconst rfl ?_
                    refine l_iadd rfl ?_
                    refine l_istore rfl rfl rfl ?_
                    refine l_iload rfl rfl ?_
                    refine l_iload rfl rfl ?_
                    refine l_if_eq rfl rfl (by unfold rg; omega) (fun w64 => ?_) (fun w65 => absurd w65 (by omega))
                    · refine l_iconst rfl ?_
                      refine l_iadd rfl ?_
                      refine l_istore rfl rfl rfl ?_
                      refine l_goto rfl rfl ?_
                      exact Rl_weak (ih9 _ (by omega) U4 hHU4 hFU4 ((v5 + 1)) (((v8 + 1) + 0)) (0) (by omega) (by omega) (by omega) (by omega) (by omega) (by omega) (by omega) rfl) (And.intro rfl (And.intro rfl (And.intro rfl (And.intro rfl (And.intro rfl (And.intro rfl (And.intro rfl (True.intro))))))))
                  · refine l_iconst rfl ?_
                    refine l_goto rfl rfl ?_
                    refine l_istore rfl rfl rfl ?_
                    refine l_iload rfl rfl ?_
                    refine l_iconst rfl ?_
                    refine l_iadd rfl ?_
                    refine l_istore rfl rfl rfl ?_
                    refine l_iload rfl rfl ?_
                    refine l_iload rfl rfl ?_
                    refine l_if_eq rfl rfl (by unfold rg; omega) (fun w66 => absurd w66 (by omega)) (fun w67 => ?_)
                    · refine l_aload_n rfl rfl ?_
                      refine l_gfr rfl rfl rfl rfl rfl (hHU4.r 904 4 907 rfl) ?_
                      refine l_iload rfl rfl ?_
                      refine l_iaload (n := 5002) rfl rfl (by omega) (by omega) (by unfold rg; omega) ?_
                      have w68 : (Xi U4 907 ((v8).toNat)) = (Xi T2 907 ((v8).toNat)) := (show Xi U4 907 ((v8).toNat) = Xi T2 907 ((v8).toNat) from by rw [eU4]; exact Xi_ne (by omega))
                      rw [w68]
                      refine l_bipush rfl rfl ?_
                      refine l_icmp_ne rfl rfl (by unfold rg; omega) (by unfold rg; omega) (fun w69 => ?_) (fun w70 => ?_)
                      · refine l_iconst rfl ?_
                        refine l_iadd rfl ?_
                        refine l_istore rfl rfl rfl ?_
                        refine l_goto rfl rfl ?_
                        exact Rl_weak (ih9 _ (by omega) U4 hHU4 hFU4 ((v5 + 1)) (((v8 + 1) + 0)) (1) (by omega) (by omega) (by omega) (by omega) (by omega) (by omega) (by omega) rfl) (And.intro rfl (And.intro rfl (And.intro rfl (And.intro rfl (And.intro rfl (And.intro rfl (And.intro rfl (True.intro))))))))
                      · refine l_iload rfl rfl ?_
                        refine l_iload_n rfl rfl ?_
                        refine l_icmp_ge rfl rfl (by unfold rg; omega) (by unfold rg; omega) (fun w71 => ?_) (fun w72 => ?_)
                        · refine l_iconst rfl ?_
                          refine l_iadd rfl ?_
                          refine l_istore rfl rfl rfl ?_
                          refine l_goto rfl rfl ?_
                          exact Rl_weak (ih9 _ (by omega) U4 hHU4 hFU4 ((v5 + 1)) (((v8 + 1) + 0)) (1) (by omega) (by omega) (by omega) (by omega) (by omega) (by omega) (by omega) rfl) (And.intro rfl (And.intro rfl (And.intro rfl (And.intro rfl (And.intro rfl (And.intro rfl (And.intro rfl (True.intro))))))))
                        · refine l_aload_n rfl rfl ?_
                          refine l_gfr rfl rfl rfl rfl rfl (hHU4.r 904 4 907 rfl) ?_
                          refine l_iload rfl rfl ?_
                          refine l_iaload (n := 5002) rfl rfl (by omega) (by omega) (by unfold rg; omega) ?_
                          have w73 : 0 ≤ (Xi U4 907 (((v8 + 1)).toNat)) ∧ (Xi U4 907 (((v8 + 1)).toNat)) ≤ 154 := hHU4.c _ _
                          refine l_bipush rfl rfl ?_
                          refine l_icmp_ne rfl rfl (by unfold rg; omega) (by unfold rg; omega) (fun w74 => ?_) (fun w75 => ?_)
                          · refine l_iconst rfl ?_
                            refine l_iadd rfl ?_
                            refine l_istore rfl rfl rfl ?_
                            refine l_goto rfl rfl ?_
                            exact Rl_weak (ih9 _ (by omega) U4 hHU4 hFU4 ((v5 + 1)) (((v8 + 1) + 0)) (1) (by omega) (by omega) (by omega) (by omega) (by omega) (by omega) (by omega) rfl) (And.intro rfl (And.intro rfl (And.intro rfl (And.intro rfl (And.intro rfl (And.intro rfl (And.intro rfl (True.intro))))))))
                          · refine l_iconst rfl ?_
                            refine l_goto rfl rfl ?_
                            refine l_iadd rfl ?_
                            refine l_istore rfl rfl rfl ?_
                            refine l_goto rfl rfl ?_
                            exact Rl_weak (ih9 _ (by omega) U4 hHU4 hFU4 ((v5 + 1)) (((v8 + 1) + 1)) (1) (by omega) (by omega) (by omega) (by omega) (by omega) (by omega) (by omega) rfl) (And.intro rfl (And.intro rfl (And.intro rfl (And.intro rfl (And.intro rfl (And.intro rfl (And.intro rfl (True.intro))))))))
                · refine l_iconst rfl ?_
                  refine l_ireturn rfl rfl ?_
                  exact ⟨hHT2, hFT2, _, rfl, ⟨by omega, by omega⟩⟩
            · refine l_aload_n rfl rfl ?_
              refine l_gfr rfl rfl rfl rfl rfl (hHT2.r 904 4 907 rfl) ?_
              refine l_iload rfl rfl ?_
              refine l_iaload (n := 5002) rfl rfl (by omega) (by omega) (by unfold rg; omega) ?_
              refine l_bipush rfl rfl ?_
              refine l_icmp_eq rfl rfl (by unfold rg; omega) (by unfold rg; omega) (fun w76 => ?_) (fun w77 => ?_)
              · refine l_aload_n rfl rfl ?_
                refine l_iload rfl rfl ?_
                refine l_iload rfl rfl ?_
                have w78 : 0 ≤ Xi T2 904 19 ∧ Xi T2 904 19 ≤ 24 := hHT2.c _ _
                refine l_callV rfl rfl rfl (t_mo_objectOf__2 hHT2 v6 v8 ⟨by omega, by omega⟩ ⟨by omega, by omega⟩ (by first | assumption | exact (LXM_FR hFT2 rfl (by assumption : LXM S))) _) ?_
                rintro _ _ ⟨rfl, z81, rfl, w81, w79, w80⟩
                show Rl _ _ _ _ _ [iv z81] _ _
                refine l_istore rfl rfl rfl ?_
                refine l_iload rfl rfl ?_
                refine l_bipush rfl rfl ?_
                refine l_icmp_eq rfl rfl (by unfold rg; omega) (by unfold rg; omega) (fun w82 => ?_) (fun w83 => ?_)
                · refine l_iconst rfl ?_
                  refine l_ireturn rfl rfl ?_
                  exact ⟨hHT2, hFT2, _, rfl, ⟨by omega, by omega⟩⟩
                · refine l_aload_n rfl rfl ?_
                  refine l_aload_n rfl rfl ?_
                  refine l_gfr rfl rfl rfl rfl rfl (hHT2.r 904 20 918 rfl) ?_
                  refine l_iload rfl rfl ?_
                  refine l_iaload (n := 24) rfl rfl (by omega) (by omega) (by unfold rg; omega) ?_
                  have w84 : 0 ≤ (Xi T2 918 ((z81).toNat)) ∧ (Xi T2 918 ((z81).toNat)) ≤ 15 := hHT2.c _ _
                  refine l_iload rfl rfl ?_
                  refine l_callV rfl rfl rfl (t_mo_isBelow hHT2 (Xi T2 918 ((z81).toNat)) kind ⟨by omega, by omega⟩ ⟨by omega, by omega⟩ (by first | assumption | exact (ABV_FR hFT2 rfl (by assumption : ABV S))) _) ?_
                  rintro _ _ ⟨rfl, z86, rfl, w86, w85⟩
                  show Rl _ _ _ _ _ [iv z86] _ _
                  refine l_if_ne rfl rfl (by unfold rg; omega) (fun w87 => ?_) (fun w88 => ?_)
                  · refine l_aload_n rfl rfl ?_
                    refine l_iload rfl rfl ?_
                    refine l_iload rfl rfl ?_
                    refine l_iastore (n := 2600) rfl rfl (by omega) (by omega) (by unfold rg; omega) ?_
                    obtain ⟨U5, eU5⟩ : ∃ T : sS, T = uI T2 988 ((v5).toNat) (Int32.ofInt z81) := ⟨_, rfl⟩
                    rw [← eU5]
                    have hHU5 : HI U5 := by rw [eU5]; exact HI_w hHT2 (show 0 ≤ z81 by omega) (show z81 ≤ 23 by omega)
                    have hFU5 : FR md_mo_listOf S U5 := by rw [eU5]; exact FR.wI hFT2 (mdf_i (r := (988, 989, 0, 100000)) (List.mem_of_getElem? (i := 0) rfl) (inR_i (by omega) (by omega) (by omega) (by omega)))
                    have w89 : Xi U5 988 ((v5).toNat) = z81 := by rw [eU5]; exact Xi_same (by unfold rg; omega)
                    refine l_iinc rfl rfl rfl rfl ?_
                    refine l_iload rfl rfl ?_
                    refine l_iload_n rfl rfl ?_
                    refine l_icmp_ge rfl rfl (by unfold rg; omega) (by unfold rg; omega) (fun w90 => ?_) (fun w91 => ?_)
                    · refine l_iconst rfl ?_
                      refine l_istore rfl rfl rfl ?_
                      refine l_iload rfl rfl ?_
                      refine l_iconst rfl ?_
                      refine l_iadd rfl ?_
                      refine l_istore rfl rfl rfl ?_
                      refine l_iload rfl rfl ?_
                      refine l_iload rfl rfl ?_
                      refine l_if_eq rfl rfl (by unfold rg; omega) (fun w92 => ?_) (fun w93 => absurd w93 (by omega))
                      · refine l_iconst rfl ?_
                        refine l_iadd rfl ?_
                        refine l_istore rfl rfl rfl ?_
                        refine l_goto rfl rfl ?_
                        exact Rl_weak (ih9 _ (by omega) U5 hHU5 hFU5 ((v5 + 1)) (((v8 + 1) + 0)) (0) (by omega) (by omega) (by omega) (by omega) (by omega) (by omega) (by omega) rfl) (And.intro rfl (And.intro rfl (And.intro rfl (And.intro rfl (And.intro rfl (And.intro rfl (And.intro rfl (True.intro))))))))
                    · refine l_iconst rfl ?_
                      refine l_goto rfl rfl ?_
                      refine l_istore rfl rfl rfl ?_
                      refine l_iload rfl rfl ?_
                      refine l_iconst rfl ?_
                      refine l_iadd rfl ?_
                      refine l_istore rfl rfl rfl ?_
                      refine l_iload rfl rfl ?_
                      refine l_iload rfl rfl ?_
                      refine l_if_eq rfl rfl (by unfold rg; omega) (fun w94 => absurd w94 (by omega)) (fun w95 => ?_)
                      · refine l_aload_n rfl rfl ?_
                        refine l_gfr rfl rfl rfl rfl rfl (hHU5.r 904 4 907 rfl) ?_
                        refine l_iload rfl rfl ?_
                        refine l_iaload (n := 5002) rfl rfl (by omega) (by omega) (by unfold rg; omega) ?_
                        have w96 : (Xi U5 907 ((v8).toNat)) = (Xi T2 907 ((v8).toNat)) := (show Xi U5 907 ((v8).toNat) = Xi T2 907 ((v8).toNat) from by rw [eU5]; exact Xi_ne (by omega))
                        rw [w96]
                        refine l_bipush rfl rfl ?_
                        refine l_icmp_ne rfl rfl (by unfold rg; omega) (by unfold rg; omega) (fun w97 => ?_) (fun w98 => ?_)
                        · refine l_iconst rfl ?_
                          refine l_iadd rfl ?_
                          refine l_istore rfl rfl rfl ?_
                          refine l_goto rfl rfl ?_
                          exact Rl_weak (ih9 _ (by omega) U5 hHU5 hFU5 ((v5 + 1)) (((v8 + 1) + 0)) (1) (by omega) (by omega) (by omega) (by omega) (by omega) (by omega) (by omega) rfl) (And.intro rfl (And.intro rfl (And.intro rfl (And.intro rfl (And.intro rfl (And.intro rfl (And.intro rfl (True.intro))))))))
                        · refine l_iload rfl rfl ?_
                          refine l_iload_n rfl rfl ?_
                          refine l_icmp_ge rfl rfl (by unfold rg; omega) (by unfold rg; omega) (fun w99 => ?_) (fun w100 => ?_)
                          · refine l_iconst rfl ?_
                            refine l_iadd rfl ?_
                            refine l_istore rfl rfl rfl ?_
                            refine l_goto rfl rfl ?_
                            exact Rl_weak (ih9 _ (by omega) U5 hHU5 hFU5 ((v5 + 1)) (((v8 + 1) + 0)) (1) (by omega) (by omega) (by omega) (by omega) (by omega) (by omega) (by omega) rfl) (And.intro rfl (And.intro rfl (And.intro rfl (And.intro rfl (And.intro rfl (And.intro rfl (And.intro rfl (True.intro))))))))
                          · refine l_aload_n rfl rfl ?_
                            refine l_gfr rfl rfl rfl rfl rfl (hHU5.r 904 4 907 rfl) ?_
                            refine l_iload rfl rfl ?_
                            refine l_iaload (n := 5002) rfl rfl (by omega) (by omega) (by unfold rg; omega) ?_
                            have w101 : 0 ≤ (Xi U5 907 (((v8 + 1)).toNat)) ∧ (Xi U5 907 (((v8 + 1)).toNat)) ≤ 154 := hHU5.c _ _
                            refine l_bipush rfl rfl ?_
                            refine l_icmp_ne rfl rfl (by unfold rg; omega) (by unfold rg; omega) (fun w102 => ?_) (fun w103 => ?_)
                            · refine l_iconst rfl ?_
                              refine l_iadd rfl ?_
                              refine l_istore rfl rfl rfl ?_
                              refine l_goto rfl rfl ?_
                              exact Rl_weak (ih9 _ (by omega) U5 hHU5 hFU5 ((v5 + 1)) (((v8 + 1) + 0)) (1) (by omega) (by omega) (by omega) (by omega) (by omega) (by omega) (by omega) rfl) (And.intro rfl (And.intro rfl (And.intro rfl (And.intro rfl (And.intro rfl (And.intro rfl (And.intro rfl (True.intro))))))))
                            · refine l_iconst rfl ?_
                              refine l_goto rfl rfl ?_
                              refine l_iadd rfl ?_
                              refine l_istore rfl rfl rfl ?_
                              refine l_goto rfl rfl ?_
                              exact Rl_weak (ih9 _ (by omega) U5 hHU5 hFU5 ((v5 + 1)) (((v8 + 1) + 1)) (1) (by omega) (by omega) (by omega) (by omega) (by omega) (by omega) (by omega) rfl) (And.intro rfl (And.intro rfl (And.intro rfl (And.intro rfl (And.intro rfl (And.intro rfl (And.intro rfl (True.intro))))))))
                  · refine l_iconst rfl ?_
                    refine l_ireturn rfl rfl ?_
                    exact ⟨hHT2, hFT2, _, rfl, ⟨by omega, by omega⟩⟩
              · refine l_iinc rfl rfl rfl rfl ?_
                refine l_goto rfl rfl ?_
                exact Rl_weak (ih18 _ (by omega) T2 hHT2 hFT2 (v5) (v6) ((v8 + 1)) (by omega) (by omega) (by omega) (by omega) (by omega) (by omega) (by omega) (by omega) (by omega) rfl) (And.intro rfl (And.intro rfl (And.intro rfl (And.intro rfl (And.intro rfl (And.intro rfl (And.intro rfl (True.intro))))))))
      refine l_iload rfl rfl ?_
      refine l_if_eq rfl rfl (by unfold rg; omega) (fun w104 => ?_) (fun w105 => ?_)
      · refine l_iload rfl rfl ?_
        refine l_ireturn rfl rfl ?_
        exact ⟨hHT1, hFT1, _, rfl, ⟨by omega, by omega⟩⟩
      · refine l_iload rfl rfl ?_
        refine l_istore rfl rfl rfl ?_
        exact Rl_weak (C18 _ T1 hHT1 hFT1 (v5) (v6) (v6) (by omega) (by omega) (by omega) (by omega) (by omega) (by omega) (by omega) (by omega) (by omega) rfl) (And.intro rfl (And.intro rfl (And.intro rfl (And.intro rfl (And.intro rfl (And.intro rfl (And.intro rfl (True.intro))))))))
  refine l_iconst rfl ?_
  refine l_istore rfl rfl rfl ?_
  refine l_iload_n rfl rfl ?_
  refine l_istore rfl rfl rfl ?_
  refine l_iconst rfl ?_
  refine l_istore rfl rfl rfl ?_
  exact Rl_weak (C9 _ S hH hF (0) (from_) (1) (by omega) (by omega) (by omega) (by omega) (by omega) (by omega) (by omega) rfl) (And.intro rfl (And.intro rfl (And.intro rfl (And.intro rfl (And.intro rfl (And.intro rfl (And.intro rfl (True.intro))))))))
def md_mo_listOf__2 : List rec := [(988, 989, 0, 100000), (989, 990, 0, 100000), (990, 991, 0, 100000)]
abbrev Q_mo_listOf__2 (S : sS) (from_ : Int) (to : Int) (kind : Int) : pst := fun r S1 => HI S1 ∧ FR md_mo_listOf__2 S S1 ∧ (∃ z : Int, r = some (iv z) ∧ (0 ≤ z ∧ z ≤ 2600))
set_option maxRecDepth 100000 in
theorem t_mo_listOf__2 {S : sS} (hH : HI S) (from_ : Int) (to : Int) (kind : Int) (hfrom_ : 0 ≤ from_ ∧ from_ ≤ 5001) (hto : 0 ≤ to ∧ to ≤ 5001) (hkind : 0 ≤ kind ∧ kind ≤ 15) (hM : LXM S) (hB : ABV S) (hft : from_ ≤ to) (d : Nat) : Mt lay0 (d + 5) m_mo_listOf [.ref 904, iv from_, iv to, .ref 989, iv kind] S (Q_mo_listOf__2 S from_ to kind) := by
  refine Mt_R rfl rfl ?_
  have hF : FR md_mo_listOf__2 S S := FR.rf
  have hc19 : 0 ≤ Xi S 904 19 ∧ Xi S 904 19 ≤ 24 := hH.c _ _
  have C9 : ∀ (n9 : Nat) (T1 : sS) (_ : HI T1) (_ : FR md_mo_listOf__2 S T1) (v5 : Int) (v6 : Int) (v7 : Int), (0 ≤ v5 ∧ v5 ≤ 2600) → (0 ≤ v6 ∧ v6 ≤ 5002) → (0 ≤ v7 ∧ v7 ≤ 1) → (from_ ≤ v6) → (v6 ≤ to + 1) → (v7 = 1 → v6 ≤ to) → (2 * v5 ≤ v6 - from_) → n9 = (6000 * v7 - v6).toNat → Rl lay0 (d + 4) m_mo_listOf 9 [(0, .ref 904), (2, iv to), (3, .ref 989), (4, iv kind), (5, iv v5), (6, iv v6), (7, iv v7)] [] T1 (Q_mo_listOf__2 S from_ to kind) := by
    intro n9
    induction n9 using Nat.strongRecOn with
    | ind n9 ih9 =>
      intro T1 hHT1 hFT1 v5 v6 v7 w1 w2 w3 w4 w5 w6 w7 hm9
      have w8 : Xi T1 904 19 = Xi S 904 19 := hFT1.x _ _ rfl
      have C18 : ∀ (n18 : Nat) (T2 : sS) (_ : HI T2) (_ : FR md_mo_listOf__2 S T2) (v5 : Int) (v6 : Int) (v8 : Int), (0 ≤ v5 ∧ v5 ≤ 2600) → (0 ≤ v6 ∧ v6 ≤ 5002) → (0 ≤ v8 ∧ v8 ≤ 5001) → (from_ ≤ v6) → (v6 ≤ to) → (2 * v5 ≤ v6 - from_) → (v6 ≤ v8) → (v8 ≤ to) → ((6000 * v7 - v6).toNat ≤ n9) → n18 = (5002 - v8).toNat → Rl lay0 (d + 4) m_mo_listOf 18 [(0, .ref 904), (2, iv to), (3, .ref 989), (4, iv kind), (5, iv v5), (6, iv v6), (8, iv v8)] [] T2 (Q_mo_listOf__2 S from_ to kind) := by
        intro n18
        induction n18 using Nat.strongRecOn with
        | ind n18 ih18 =>
          intro T2 hHT2 hFT2 v5 v6 v8 w9 w10 w11 w12 w13 w14 w15 w16 w17 hm18
          have w18 : Xi T2 904 19 = Xi S 904 19 := hFT2.x _ _ rfl
          refine l_iload rfl rfl ?_
          refine l_iload_n rfl rfl ?_
          refine l_icmp_ge rfl rfl (by unfold rg; omega) (by unfold rg; omega) (fun w19 => ?_) (fun w20 => ?_)
          · refine l_aload_n rfl rfl ?_
            refine l_iload rfl rfl ?_
            refine l_iload rfl rfl ?_
            have w21 : 0 ≤ Xi T2 904 19 ∧ Xi T2 904 19 ≤ 24 := hHT2.c _ _
            refine l_callV rfl rfl rfl (t_mo_objectOf__2 hHT2 v6 v8 ⟨by omega, by omega⟩ ⟨by omega, by omega⟩ (by first | assumption | exact (LXM_FR hFT2 rfl (by assumption : LXM S))) _) ?_
            rintro _ _ ⟨rfl, z24, rfl, w24, w22, w23⟩
            show Rl _ _ _ _ _ [iv z24] _ _
            refine l_istore rfl rfl rfl ?_
            refine l_iload rfl rfl ?_
            refine l_bipush rfl rfl ?_
            refine l_icmp_eq rfl rfl (by unfold rg; omega) (by unfold rg; omega) (fun w25 => ?_) (fun w26 => ?_)
            · refine l_iconst rfl ?_
              refine l_ireturn rfl rfl ?_
              exact ⟨hHT2, hFT2, _, rfl, ⟨by omega, by omega⟩⟩
            · refine l_aload_n rfl rfl ?_
              refine l_aload_n rfl rfl ?_
              refine l_gfr rfl rfl rfl rfl rfl (hHT2.r 904 20 918 rfl) ?_
              refine l_iload rfl rfl ?_
              refine l_iaload (n := 24) rfl rfl (by omega) (by omega) (by unfold rg; omega) ?_
              have w27 : 0 ≤ (Xi T2 918 ((z24).toNat)) ∧ (Xi T2 918 ((z24).toNat)) ≤ 15 := hHT2.c _ _
              refine l_iload rfl rfl ?_
              refine l_callV rfl rfl rfl (t_mo_isBelow hHT2 (Xi T2 918 ((z24).toNat)) kind ⟨by omega, by omega⟩ ⟨by omega, by omega⟩ (by first | assumption | exact (ABV_FR hFT2 rfl (by assumption : ABV S))) _) ?_
              rintro _ _ ⟨rfl, z29, rfl, w29, w28⟩
              show Rl _ _ _ _ _ [iv z29] _ _
              refine l_if_ne rfl rfl (by unfold rg; omega) (fun w30 => ?_) (fun w31 => ?_)
              · refine l_aload_n rfl rfl ?_
                refine l_iload rfl rfl ?_
                refine l_iload rfl rfl ?_
                refine l_iastore (n := 2600) rfl rfl (by omega) (by omega) (by unfold rg; omega) ?_
                obtain ⟨U3, eU3⟩ : ∃ T : sS, T = uI T2 989 ((v5).toNat) (Int32.ofInt z24) := ⟨_, rfl⟩
                rw [← eU3]
                have hHU3 : HI U3 := by rw [eU3]; exact HI_w hHT2 (show 0 ≤ z24 by omega) (show z24 ≤ 23 by omega)
                have hFU3 : FR md_mo_listOf__2 S U3 := by rw [eU3]; exact FR.wI hFT2 (mdf_i (r := (989, 990, 0, 100000)) (List.mem_of_getElem? (i := 1) rfl) (inR_i (by omega) (by omega) (by omega) (by omega)))
                have w32 : Xi U3 989 ((v5).toNat) = z24 := by rw [eU3]; exact Xi_same (by unfold rg; omega)
                refine l_iinc rfl rfl rfl rfl ?_
                refine l_iload rfl rfl ?_
                refine l_iload_n rfl rfl ?_
                refine l_icmp_ge rfl rfl (by unfold rg; omega) (by unfold rg; omega) (fun w33 => ?_) (fun w34 => ?_)
                · refine l_iconst rfl ?_
                  refine l_istore rfl rfl rfl ?_
                  refine l_iload rfl rfl ?_
                  refine l_iconst rfl ?_
                  refine l_iadd rfl ?_
                  refine l_istore rfl rfl rfl ?_
                  refine l_iload rfl rfl ?_
                  refine l_iload rfl rfl ?_
                  refine l_if_eq rfl rfl (by unfold rg; omega) (fun w35 => ?_) (fun w36 => absurd w36 (by omega))
                  · refine l_iconst rfl ?_
                    refine l_iadd rfl ?_
                    refine l_istore rfl rfl rfl ?_
                    refine l_goto rfl rfl ?_
                    exact Rl_weak (ih9 _ (by omega) U3 hHU3 hFU3 ((v5 + 1)) (((v8 + 1) + 0)) (0) (by omega) (by omega) (by omega) (by omega) (by omega) (by omega) (by omega) rfl) (And.intro rfl (And.intro rfl (And.intro rfl (And.intro rfl (And.intro rfl (And.intro rfl (And.intro rfl (True.intro))))))))
                · refine l_iconst rfl ?_
                  refine l_goto rfl rfl ?_
                  refine l_istore rfl rfl rfl ?_
                  refine l_iload rfl rfl ?_
                  refine l_iconst rfl ?_
                  refine l_iadd rfl ?_
                  refine l_istore rfl rfl rfl ?_
                  refine l_iload rfl rfl ?_
                  refine l_iload rfl rfl ?_
                  refine l_if_eq rfl rfl (by unfold rg; omega) (fun w37 => absurd w37 (by omega)) (fun w38 => ?_)
                  · refine l_aload_n rfl rfl ?_
                    refine l_gfr rfl rfl rfl rfl rfl (hHU3.r 904 4 907 rfl) ?_
                    refine l_iload rfl rfl ?_
                    refine l_iaload (n := 5002) rfl rfl (by omega) (by omega) (by unfold rg; omega) ?_
                    have w39 : 0 ≤ (Xi U3 907 ((v8).toNat)) ∧ (Xi U3 907 ((v8).toNat)) ≤ 154 := hHU3.c _ _
                    refine l_bipush rfl rfl ?_
                    refine l_icmp_ne rfl rfl (by unfold rg; omega) (by unfold rg; omega) (fun w40 => ?_) (fun w41 => ?_)
                    · refine l_iconst rfl ?_
                      refine l_iadd rfl ?_
                      refine l_istore rfl rfl rfl ?_
                      refine l_goto rfl rfl ?_
                      exact Rl_weak (ih9 _ (by omega) U3 hHU3 hFU3 ((v5 + 1)) (((v8 + 1) + 0)) (1) (by omega) (by omega) (by omega) (by omega) (by omega) (by omega) (by omega) rfl) (And.intro rfl (And.intro rfl (And.intro rfl (And.intro rfl (And.intro rfl (And.intro rfl (And.intro rfl (True.intro))))))))
                    · refine l_iload rfl rfl ?_
                      refine l_iload_n rfl rfl ?_
                      refine l_icmp_ge rfl rfl (by unfold rg; omega) (by unfold rg; omega) (fun w42 => ?_) (fun w43 => ?_)
                      · refine l_iconst rfl ?_
                        refine l_iadd rfl ?_
                        refine l_istore rfl rfl rfl ?_
                        refine l_goto rfl rfl ?_
                        exact Rl_weak (ih9 _ (by omega) U3 hHU3 hFU3 ((v5 + 1)) (((v8 + 1) + 0)) (1) (by omega) (by omega) (by omega) (by omega) (by omega) (by omega) (by omega) rfl) (And.intro rfl (And.intro rfl (And.intro rfl (And.intro rfl (And.intro rfl (And.intro rfl (And.intro rfl (True.intro))))))))
                      · refine l_aload_n rfl rfl ?_
                        refine l_gfr rfl rfl rfl rfl rfl (hHU3.r 904 4 907 rfl) ?_
                        refine l_iload rfl rfl ?_
                        refine l_iaload (n := 5002) rfl rfl (by omega) (by omega) (by unfold rg; omega) ?_
                        have w44 : 0 ≤ (Xi U3 907 (((v8 + 1)).toNat)) ∧ (Xi U3 907 (((v8 + 1)).toNat)) ≤ 154 := hHU3.c _ _
                        refine l_bipush rfl rfl ?_
                        refine l_icmp_ne rfl rfl (by unfold rg; omega) (by unfold rg; omega) (fun w45 => ?_) (fun w46 => ?_)
                        · refine l_iconst rfl ?_
                          refine l_iadd rfl ?_
                          refine l_istore rfl rfl rfl ?_
                          refine l_goto rfl rfl ?_
                          exact Rl_weak (ih9 _ (by omega) U3 hHU3 hFU3 ((v5 + 1)) (((v8 + 1) + 0)) (1) (by omega) (by omega) (by omega) (by omega) (by omega) (by omega) (by omega) rfl) (And.intro rfl (And.intro rfl (And.intro rfl (And.intro rfl (And.intro rfl (And.intro rfl (And.intro rfl (True.intro))))))))
                        · refine l_iconst rfl ?_
                          refine l_goto rfl rfl ?_
                          refine l_iadd rfl ?_
                          refine l_istore rfl rfl rfl ?_
                          refine l_goto rfl rfl ?_
                          exact Rl_weak (ih9 _ (by omega) U3 hHU3 hFU3 ((v5 + 1)) (((v8 + 1) + 1)) (1) (by omega) (by omega) (by omega) (by omega) (by omega) (by omega) (by omega) rfl) (And.intro rfl (And.intro rfl (And.intro rfl (And.intro rfl (And.intro rfl (And.intro rfl (And.intro rfl (True.intro))))))))
              · refine l_iconst rfl ?_
                refine l_ireturn rfl rfl ?_
                exact ⟨hHT2, hFT2, _, rfl, ⟨by omega, by omega⟩⟩
          · refine l_aload_n rfl rfl ?_
            refine l_gfr rfl rfl rfl rfl rfl (hHT2.r 904 4 907 rfl) ?_
            refine l_iload rfl rfl ?_
            refine l_iaload (n := 5002) rfl rfl (by omega) (by omega) (by unfold rg; omega) ?_
            have w47 : 0 ≤ (Xi T2 907 ((v8).toNat)) ∧ (Xi T2 907 ((v8).toNat)) ≤ 154 := hHT2.c _ _
            refine l_bipush rfl rfl ?_
            refine l_icmp_eq rfl rfl (by unfold rg; omega) (by unfold rg; omega) (fun w48 => ?_) (fun w49 => ?_)
            · refine l_aload_n rfl rfl ?_
              refine l_iload rfl rfl ?_
              refine l_iload rfl rfl ?_
              have w50 : 0 ≤ Xi T2 904 19 ∧ Xi T2 904 19 ≤ 24 := hHT2.c _ _
              refine l_callV rfl rfl rfl (t_mo_objectOf__2 hHT2 v6 v8 ⟨by omega, by omega⟩ ⟨by omega, by omega⟩ (by first | assumption | exact (LXM_FR hFT2 rfl (by assumption : LXM S))) _) ?_
              rintro _ _ ⟨rfl, z53, rfl, w53, w51, w52⟩
              show Rl _ _ _ _ _ [iv z53] _ _
              refine l_istore rfl rfl rfl ?_
              refine l_iload rfl rfl ?_
              refine l_bipush rfl rfl ?_
              refine l_icmp_eq rfl rfl (by unfold rg; omega) (by unfold rg; omega) (fun w54 => ?_) (fun w55 => ?_)
              · refine l_iconst rfl ?_
                refine l_ireturn rfl rfl ?_
                exact ⟨hHT2, hFT2, _, rfl, ⟨by omega, by omega⟩⟩
              · refine l_aload_n rfl rfl ?_
                refine l_aload_n rfl rfl ?_
                refine l_gfr rfl rfl rfl rfl rfl (hHT2.r 904 20 918 rfl) ?_
                refine l_iload rfl rfl ?_
                refine l_iaload (n := 24) rfl rfl (by omega) (by omega) (by unfold rg; omega) ?_
                have w56 : 0 ≤ (Xi T2 918 ((z53).toNat)) ∧ (Xi T2 918 ((z53).toNat)) ≤ 15 := hHT2.c _ _
                refine l_iload rfl rfl ?_
                refine l_callV rfl rfl rfl (t_mo_isBelow hHT2 (Xi T2 918 ((z53).toNat)) kind ⟨by omega, by omega⟩ ⟨by omega, by omega⟩ (by first | assumption | exact (ABV_FR hFT2 rfl (by assumption : ABV S))) _) ?_
                rintro _ _ ⟨rfl, z58, rfl, w58, w57⟩
                show Rl _ _ _ _ _ [iv z58] _ _
                refine l_if_ne rfl rfl (by unfold rg; omega) (fun w59 => ?_) (fun w60 => ?_)
                · refine l_aload_n rfl rfl ?_
                  refine l_iload rfl rfl ?_
                  refine l_iload rfl rfl ?_
                  refine l_iastore (n := 2600) rfl rfl (by omega) (by omega) (by unfold rg; omega) ?_
                  obtain ⟨U4, eU4⟩ : ∃ T : sS, T = uI T2 989 ((v5).toNat) (Int32.ofInt z53) := ⟨_, rfl⟩
                  rw [← eU4]
                  have hHU4 : HI U4 := by rw [eU4]; exact HI_w hHT2 (show 0 ≤ z53 by omega) (show z53 ≤ 23 by omega)
                  have hFU4 : FR md_mo_listOf__2 S U4 := by rw [eU4]; exact FR.wI hFT2 (mdf_i (r := (989, 990, 0, 100000)) (List.mem_of_getElem? (i := 1) rfl) (inR_i (by omega) (by omega) (by omega) (by omega)))
                  have w61 : Xi U4 989 ((v5).toNat) = z53 := by rw [eU4]; exact Xi_same (by unfold rg; omega)
                  refine l_iinc rfl rfl rfl rfl ?_
                  refine l_iload rfl rfl ?_
                  refine l_iload_n rfl rfl ?_
                  refine l_icmp_ge rfl rfl (by unfold rg; omega) (by unfold rg; omega) (fun w62 => ?_) (fun w63 => ?_)
                  · refine l_iconst rfl ?_
                    refine l_istore rfl rfl rfl ?_
                    refine l_iload rfl rfl ?_
                    refine l_iconst rfl ?_
                    refine l_iadd rfl ?_
                    refine l_istore rfl rfl rfl ?_
                    refine l_iload rfl rfl ?_
                    refine l_iload rfl rfl ?_
                    refine l_if_eq rfl rfl (by unfold rg; omega) (fun w64 => ?_) (fun w65 => absurd w65 (by omega))
                    · refine l_iconst rfl ?_
                      refine l_iadd rfl ?_
                      refine l_istore rfl rfl rfl ?_
                      refine l_goto rfl rfl ?_
                      exact Rl_weak (ih9 _ (by omega) U4 hHU4 hFU4 ((v5 + 1)) (((v8 + 1) + 0)) (0) (by omega) (by omega) (by omega) (by omega) (by omega) (by omega) (by omega) rfl) (And.intro rfl (And.intro rfl (And.intro rfl (And.intro rfl (And.intro rfl (And.intro rfl (And.intro rfl (True.intro))))))))
                  · refine l_iconst rfl ?_
                    refine l_goto rfl rfl ?_
                    refine l_istore rfl rfl rfl ?_
                    refine l_iload rfl rfl ?_
                    refine l_iconst rfl ?_
                    refine l_iadd rfl ?_
                    refine l_istore rfl rfl rfl ?_
                    refine l_iload rfl rfl ?_
                    refine l_iload rfl rfl ?_
                    refine l_if_eq rfl rfl (by unfold rg; omega) (fun w66 => absurd w66 (by omega)) (fun w67 => ?_)
                    · refine l_aload_n rfl rfl ?_
                      refine l_gfr rfl rfl rfl rfl rfl (hHU4.r 904 4 907 rfl) ?_
                      refine l_iload rfl rfl ?_
                      refine l_iaload (n := 5002) rfl rfl (by omega) (by omega) (by unfold rg; omega) ?_
                      have w68 : (Xi U4 907 ((v8).toNat)) = (Xi T2 907 ((v8).toNat)) := (show Xi U4 907 ((v8).toNat) = Xi T2 907 ((v8).toNat) from by rw [eU4]; exact Xi_ne (by omega))
                      rw [w68]
                      refine l_bipush rfl rfl ?_
                      refine l_icmp_ne rfl rfl (by unfold rg; omega) (by unfold rg; omega) (fun w69 => ?_) (fun w70 => ?_)
                      · refine l_iconst rfl ?_
                        refine l_iadd rfl ?_
                        refine l_istore rfl rfl rfl ?_
                        refine l_goto rfl rfl ?_
                        exact Rl_weak (ih9 _ (by omega) U4 hHU4 hFU4 ((v5 + 1)) (((v8 + 1) + 0)) (1) (by omega) (by omega) (by omega) (by omega) (by omega) (by omega) (by omega) rfl) (And.intro rfl (And.intro rfl (And.intro rfl (And.intro rfl (And.intro rfl (And.intro rfl (And.intro rfl (True.intro))))))))
                      · refine l_iload rfl rfl ?_
                        refine l_iload_n rfl rfl ?_
                        refine l_icmp_ge rfl rfl (by unfold rg; omega) (by unfold rg; omega) (fun w71 => ?_) (fun w72 => ?_)
                        · refine l_iconst rfl ?_
                          refine l_iadd rfl ?_
                          refine l_istore rfl rfl rfl ?_
                          refine l_goto rfl rfl ?_
                          exact Rl_weak (ih9 _ (by omega) U4 hHU4 hFU4 ((v5 + 1)) (((v8 + 1) + 0)) (1) (by omega) (by omega) (by omega) (by omega) (by omega) (by omega) (by omega) rfl) (And.intro rfl (And.intro rfl (And.intro rfl (And.intro rfl (And.intro rfl (And.intro rfl (And.intro rfl (True.intro))))))))
                        · refine l_aload_n rfl rfl ?_
                          refine l_gfr rfl rfl rfl rfl rfl (hHU4.r 904 4 907 rfl) ?_
                          refine l_iload rfl rfl ?_
                          refine l_iaload (n := 5002) rfl rfl (by omega) (by omega) (by unfold rg; omega) ?_
                          have w73 : 0 ≤ (Xi U4 907 (((v8 + 1)).toNat)) ∧ (Xi U4 907 (((v8 + 1)).toNat)) ≤ 154 := hHU4.c _ _
                          refine l_bipush rfl rfl ?_
                          refine l_icmp_ne rfl rfl (by unfold rg; omega) (by unfold rg; omega) (fun w74 => ?_) (fun w75 => ?_)
                          · refine l_iconst rfl ?_
                            refine l_iadd rfl ?_
                            refine l_istore rfl rfl rfl ?_
                            refine l_goto rfl rfl ?_
                            exact Rl_weak (ih9 _ (by omega) U4 hHU4 hFU4 ((v5 + 1)) (((v8 + 1) + 0)) (1) (by omega) (by omega) (by omega) (by omega) (by omega) (by omega) (by omega) rfl) (And.intro rfl (And.intro rfl (And.intro rfl (And.intro rfl (And.intro rfl (And.intro rfl (And.intro rfl (True.intro))))))))
                          · refine l_iconst rfl ?_
                            refine l_goto rfl rfl ?_
                            refine l_iadd rfl ?_
                            refine l_istore rfl rfl rfl ?_
                            refine l_goto rfl rfl ?_
                            exact Rl_weak (ih9 _ (by omega) U4 hHU4 hFU4 ((v5 + 1)) (((v8 + 1) + 1)) (1) (by omega) (by omega) (by omega) (by omega) (by omega) (by omega) (by omega) rfl) (And.intro rfl (And.intro rfl (And.intro rfl (And.intro rfl (And.intro rfl (And.intro rfl (And.intro rfl (True.intro))))))))
                · refine l_iconst rfl ?_
                  refine l_ireturn rfl rfl ?_
                  exact ⟨hHT2, hFT2, _, rfl, ⟨by omega, by omega⟩⟩
            · refine l_aload_n rfl rfl ?_
              refine l_gfr rfl rfl rfl rfl rfl (hHT2.r 904 4 907 rfl) ?_
              refine l_iload rfl rfl ?_
              refine l_iaload (n := 5002) rfl rfl (by omega) (by omega) (by unfold rg; omega) ?_
              refine l_bipush rfl rfl ?_
              refine l_icmp_eq rfl rfl (by unfold rg; omega) (by unfold rg; omega) (fun w76 => ?_) (fun w77 => ?_)
              · refine l_aload_n rfl rfl ?_
                refine l_iload rfl rfl ?_
                refine l_iload rfl rfl ?_
                have w78 : 0 ≤ Xi T2 904 19 ∧ Xi T2 904 19 ≤ 24 := hHT2.c _ _
                refine l_callV rfl rfl rfl (t_mo_objectOf__2 hHT2 v6 v8 ⟨by omega, by omega⟩ ⟨by omega, by omega⟩ (by first | assumption | exact (LXM_FR hFT2 rfl (by assumption : LXM S))) _) ?_
                rintro _ _ ⟨rfl, z81, rfl, w81, w79, w80⟩
                show Rl _ _ _ _ _ [iv z81] _ _
                refine l_istore rfl rfl rfl ?_
                refine l_iload rfl rfl ?_
                refine l_bipush rfl rfl ?_
                refine l_icmp_eq rfl rfl (by unfold rg; omega) (by unfold rg; omega) (fun w82 => ?_) (fun w83 => ?_)
                · refine l_iconst rfl ?_
                  refine l_ireturn rfl rfl ?_
                  exact ⟨hHT2, hFT2, _, rfl, ⟨by omega, by omega⟩⟩
                · refine l_aload_n rfl rfl ?_
                  refine l_aload_n rfl rfl ?_
                  refine l_gfr rfl rfl rfl rfl rfl (hHT2.r 904 20 918 rfl) ?_
                  refine l_iload rfl rfl ?_
                  refine l_iaload (n := 24) rfl rfl (by omega) (by omega) (by unfold rg; omega) ?_
                  have w84 : 0 ≤ (Xi T2 918 ((z81).toNat)) ∧ (Xi T2 918 ((z81).toNat)) ≤ 15 := hHT2.c _ _
                  refine l_iload rfl rfl ?_
                  refine l_callV rfl rfl rfl (t_mo_isBelow hHT2 (Xi T2 918 ((z81).toNat)) kind ⟨by omega, by omega⟩ ⟨by omega, by omega⟩ (by first | assumption | exact (ABV_FR hFT2 rfl (by assumption : ABV S))) _) ?_
                  rintro _ _ ⟨rfl, z86, rfl, w86, w85⟩
                  show Rl _ _ _ _ _ [iv z86] _ _
                  refine l_if_ne rfl rfl (by unfold rg; omega) (fun w87 => ?_) (fun w88 => ?_)
                  · refine l_aload_n rfl rfl ?_
                    refine l_iload rfl rfl ?_
                    refine l_iload rfl rfl ?_
                    refine l_iastore (n := 2600) rfl rfl (by omega) (by omega) (by unfold rg; omega) ?_
                    obtain ⟨U5, eU5⟩ : ∃ T : sS, T = uI T2 989 ((v5).toNat) (Int32.ofInt z81) := ⟨_, rfl⟩
                    rw [← eU5]
                    have hHU5 : HI U5 := by rw [eU5]; exact HI_w hHT2 (show 0 ≤ z81 by omega) (show z81 ≤ 23 by omega)
                    have hFU5 : FR md_mo_listOf__2 S U5 := by rw [eU5]; exact FR.wI hFT2 (mdf_i (r := (989, 990, 0, 100000)) (List.mem_of_getElem? (i := 1) rfl) (inR_i (by omega) (by omega) (by omega) (by omega)))
                    have w89 : Xi U5 989 ((v5).toNat) = z81 := by rw [eU5]; exact Xi_same (by unfold rg; omega)
                    refine l_iinc rfl rfl rfl rfl ?_
                    refine l_iload rfl rfl ?_
                    refine l_iload_n rfl rfl ?_
                    refine l_icmp_ge rfl rfl (by unfold rg; omega) (by unfold rg; omega) (fun w90 => ?_) (fun w91 => ?_)
                    · refine l_iconst rfl ?_
                      refine l_istore rfl rfl rfl ?_
                      refine l_iload rfl rfl ?_
                      refine l_iconst rfl ?_
                      refine l_iadd rfl ?_
                      refine l_istore rfl rfl rfl ?_
                      refine l_iload rfl rfl ?_
                      refine l_iload rfl rfl ?_
                      refine l_if_eq rfl rfl (by unfold rg; omega) (fun w92 => ?_) (fun w93 => absurd w93 (by omega))
                      · refine l_iconst rfl ?_
                        refine l_iadd rfl ?_
                        refine l_istore rfl rfl rfl ?_
                        refine l_goto rfl rfl ?_
                        exact Rl_weak (ih9 _ (by omega) U5 hHU5 hFU5 ((v5 + 1)) (((v8 + 1) + 0)) (0) (by omega) (by omega) (by omega) (by omega) (by omega) (by omega) (by omega) rfl) (And.intro rfl (And.intro rfl (And.intro rfl (And.intro rfl (And.intro rfl (And.intro rfl (And.intro rfl (True.intro))))))))
                    · refine l_iconst rfl ?_
                      refine l_goto rfl rfl ?_
                      refine l_istore rfl rfl rfl ?_
                      refine l_iload rfl rfl ?_
                      refine l_iconst rfl ?_
                      refine l_iadd rfl ?_
                      refine l_istore rfl rfl rfl ?_
                      refine l_iload rfl rfl ?_
                      refine l_iload rfl rfl ?_
                      refine l_if_eq rfl rfl (by unfold rg; omega) (fun w94 => absurd w94 (by omega)) (fun w95 => ?_)
                      · refine l_aload_n rfl rfl ?_
                        refine l_gfr rfl rfl rfl rfl rfl (hHU5.r 904 4 907 rfl) ?_
                        refine l_iload rfl rfl ?_
                        refine l_iaload (n := 5002) rfl rfl (by omega) (by omega) (by unfold rg; omega) ?_
                        have w96 : (Xi U5 907 ((v8).toNat)) = (Xi T2 907 ((v8).toNat)) := (show Xi U5 907 ((v8).toNat) = Xi T2 907 ((v8).toNat) from by rw [eU5]; exact Xi_ne (by omega))
                        rw [w96]
                        refine l_bipush rfl rfl ?_
                        refine l_icmp_ne rfl rfl (by unfold rg; omega) (by unfold rg; omega) (fun w97 => ?_) (fun w98 => ?_)
                        · refine l_iconst rfl ?_
                          refine l_iadd rfl ?_
                          refine l_istore rfl rfl rfl ?_
                          refine l_goto rfl rfl ?_
                          exact Rl_weak (ih9 _ (by omega) U5 hHU5 hFU5 ((v5 + 1)) (((v8 + 1) + 0)) (1) (by omega) (by omega) (by omega) (by omega) (by omega) (by omega) (by omega) rfl) (And.intro rfl (And.intro rfl (And.intro rfl (And.intro rfl (And.intro rfl (And.intro rfl (And.intro rfl (True.intro))))))))
                        · refine l_iload rfl rfl ?_
                          refine l_iload_n rfl rfl ?_
                          refine l_icmp_ge rfl rfl (by unfold rg; omega) (by unfold rg; omega) (fun w99 => ?_) (fun w100 => ?_)
                          · refine l_iconst rfl ?_
                            refine l_iadd rfl ?_
                            refine l_istore rfl rfl rfl ?_
                            refine l_goto rfl rfl ?_
                            exact Rl_weak (ih9 _ (by omega) U5 hHU5 hFU5 ((v5 + 1)) (((v8 + 1) + 0)) (1) (by omega) (by omega) (by omega) (by omega) (by omega) (by omega) (by omega) rfl) (And.intro rfl (And.intro rfl (And.intro rfl (And.intro rfl (And.intro rfl (And.intro rfl (And.intro rfl (True.intro))))))))
                          · refine l_aload_n rfl rfl ?_
                            refine l_gfr rfl rfl rfl rfl rfl (hHU5.r 904 4 907 rfl) ?_
                            refine l_iload rfl rfl ?_
                            refine l_iaload (n := 5002) rfl rfl (by omega) (by omega) (by unfold rg; omega) ?_
                            have w101 : 0 ≤ (Xi U5 907 (((v8 + 1)).toNat)) ∧ (Xi U5 907 (((v8 + 1)).toNat)) ≤ 154 := hHU5.c _ _
                            refine l_bipush rfl rfl ?_
                            refine l_icmp_ne rfl rfl (by unfold rg; omega) (by unfold rg; omega) (fun w102 => ?_) (fun w103 => ?_)
                            · refine l_iconst rfl ?_
                              refine l_iadd rfl ?_
                              refine l_istore rfl rfl rfl ?_
                              refine l_goto rfl rfl ?_
                              exact Rl_weak (ih9 _ (by omega) U5 hHU5 hFU5 ((v5 + 1)) (((v8 + 1) + 0)) (1) (by omega) (by omega) (by omega) (by omega) (by omega) (by omega) (by omega) rfl) (And.intro rfl (And.intro rfl (And.intro rfl (And.intro rfl (And.intro rfl (And.intro rfl (And.intro rfl (True.intro))))))))
                            · refine l_iconst rfl ?_
                              refine l_goto rfl rfl ?_
                              refine l_iadd rfl ?_
                              refine l_istore rfl rfl rfl ?_
                              refine l_goto rfl rfl ?_
                              exact Rl_weak (ih9 _ (by omega) U5 hHU5 hFU5 ((v5 + 1)) (((v8 + 1) + 1)) (1) (by omega) (by omega) (by omega) (by omega) (by omega) (by omega) (by omega) rfl) (And.intro rfl (And.intro rfl (And.intro rfl (And.intro rfl (And.intro rfl (And.intro rfl (And.intro rfl (True.intro))))))))
                  · refine l_iconst rfl ?_
                    refine l_ireturn rfl rfl ?_
                    exact ⟨hHT2, hFT2, _, rfl, ⟨by omega, by omega⟩⟩
              · refine l_iinc rfl rfl rfl rfl ?_
                refine l_goto rfl rfl ?_
                exact Rl_weak (ih18 _ (by omega) T2 hHT2 hFT2 (v5) (v6) ((v8 + 1)) (by omega) (by omega) (by omega) (by omega) (by omega) (by omega) (by omega) (by omega) (by omega) rfl) (And.intro rfl (And.intro rfl (And.intro rfl (And.intro rfl (And.intro rfl (And.intro rfl (And.intro rfl (True.intro))))))))
      refine l_iload rfl rfl ?_
      refine l_if_eq rfl rfl (by unfold rg; omega) (fun w104 => ?_) (fun w105 => ?_)
      · refine l_iload rfl rfl ?_
        refine l_ireturn rfl rfl ?_
        exact ⟨hHT1, hFT1, _, rfl, ⟨by omega, by omega⟩⟩
      · refine l_iload rfl rfl ?_
        refine l_istore rfl rfl rfl ?_
        exact Rl_weak (C18 _ T1 hHT1 hFT1 (v5) (v6) (v6) (by omega) (by omega) (by omega) (by omega) (by omega) (by omega) (by omega) (by omega) (by omega) rfl) (And.intro rfl (And.intro rfl (And.intro rfl (And.intro rfl (And.intro rfl (And.intro rfl (And.intro rfl (True.intro))))))))
  refine l_iconst rfl ?_
  refine l_istore rfl rfl rfl ?_
  refine l_iload_n rfl rfl ?_
  refine l_istore rfl rfl rfl ?_
  refine l_iconst rfl ?_
  refine l_istore rfl rfl rfl ?_
  exact Rl_weak (C9 _ S hH hF (0) (from_) (1) (by omega) (by omega) (by omega) (by omega) (by omega) (by omega) (by omega) rfl) (And.intro rfl (And.intro rfl (And.intro rfl (And.intro rfl (And.intro rfl (And.intro rfl (And.intro rfl (True.intro))))))))
def md_mo_listOf__3 : List rec := [(988, 989, 0, 100000), (989, 990, 0, 100000), (990, 991, 0, 100000)]
abbrev Q_mo_listOf__3 (S : sS) (from_ : Int) (to : Int) (kind : Int) : pst := fun r S1 => HI S1 ∧ FR md_mo_listOf__3 S S1 ∧ (∃ z : Int, r = some (iv z) ∧ (0 ≤ z ∧ z ≤ 2600))
set_option maxRecDepth 100000 in
theorem t_mo_listOf__3 {S : sS} (hH : HI S) (from_ : Int) (to : Int) (kind : Int) (hfrom_ : 0 ≤ from_ ∧ from_ ≤ 5001) (hto : 0 ≤ to ∧ to ≤ 5001) (hkind : 0 ≤ kind ∧ kind ≤ 15) (hM : LXM S) (hB : ABV S) (hft : from_ ≤ to) (d : Nat) : Mt lay0 (d + 5) m_mo_listOf [.ref 904, iv from_, iv to, .ref 990, iv kind] S (Q_mo_listOf__3 S from_ to kind) := by
  refine Mt_R rfl rfl ?_
  have hF : FR md_mo_listOf__3 S S := FR.rf
  have hc19 : 0 ≤ Xi S 904 19 ∧ Xi S 904 19 ≤ 24 := hH.c _ _
  have C9 : ∀ (n9 : Nat) (T1 : sS) (_ : HI T1) (_ : FR md_mo_listOf__3 S T1) (v5 : Int) (v6 : Int) (v7 : Int), (0 ≤ v5 ∧ v5 ≤ 2600) → (0 ≤ v6 ∧ v6 ≤ 5002) → (0 ≤ v7 ∧ v7 ≤ 1) → (from_ ≤ v6) → (v6 ≤ to + 1) → (v7 = 1 → v6 ≤ to) → (2 * v5 ≤ v6 - from_) → n9 = (6000 * v7 - v6).toNat → Rl lay0 (d + 4) m_mo_listOf 9 [(0, .ref 904), (2, iv to), (3, .ref 990), (4, iv kind), (5, iv v5), (6, iv v6), (7, iv v7)] [] T1 (Q_mo_listOf__3 S from_ to kind) := by
    intro n9
    induction n9 using Nat.strongRecOn with
    | ind n9 ih9 =>
      intro T1 hHT1 hFT1 v5 v6 v7 w1 w2 w3 w4 w5 w6 w7 hm9
      have w8 : Xi T1 904 19 = Xi S 904 19 := hFT1.x _ _ rfl
      have C18 : ∀ (n18 : Nat) (T2 : sS) (_ : HI T2) (_ : FR md_mo_listOf__3 S T2) (v5 : Int) (v6 : Int) (v8 : Int), (0 ≤ v5 ∧ v5 ≤ 2600) → (0 ≤ v6 ∧ v6 ≤ 5002) → (0 ≤ v8 ∧ v8 ≤ 5001) → (from_ ≤ v6) → (v6 ≤ to) → (2 * v5 ≤ v6 - from_) → (v6 ≤ v8) → (v8 ≤ to) → ((6000 * v7 - v6).toNat ≤ n9) → n18 = (5002 - v8).toNat → Rl lay0 (d + 4) m_mo_listOf 18 [(0, .ref 904), (2, iv to), (3, .ref 990), (4, iv kind), (5, iv v5), (6, iv v6), (8, iv v8)] [] T2 (Q_mo_listOf__3 S from_ to kind) := by
        intro n18
        induction n18 using Nat.strongRecOn with
        | ind n18 ih18 =>
          intro T2 hHT2 hFT2 v5 v6 v8 w9 w10 w11 w12 w13 w14 w15 w16 w17 hm18
          have w18 : Xi T2 904 19 = Xi S 904 19 := hFT2.x _ _ rfl
          refine l_iload rfl rfl ?_
          refine l_iload_n rfl rfl ?_
          refine l_icmp_ge rfl rfl (by unfold rg; omega) (by unfold rg; omega) (fun w19 => ?_) (fun w20 => ?_)
          · refine l_aload_n rfl rfl ?_
            refine l_iload rfl rfl ?_
            refine l_iload rfl rfl ?_
            have w21 : 0 ≤ Xi T2 904 19 ∧ Xi T2 904 19 ≤ 24 := hHT2.c _ _
            refine l_callV rfl rfl rfl (t_mo_objectOf__2 hHT2 v6 v8 ⟨by omega, by omega⟩ ⟨by omega, by omega⟩ (by first | assumption | exact (LXM_FR hFT2 rfl (by assumption : LXM S))) _) ?_
            rintro _ _ ⟨rfl, z24, rfl, w24, w22, w23⟩
            show Rl _ _ _ _ _ [iv z24] _ _
            refine l_istore rfl rfl rfl ?_
            refine l_iload rfl rfl ?_
            refine l_bipush rfl rfl ?_
            refine l_icmp_eq rfl rfl (by unfold rg; omega) (by unfold rg; omega) (fun w25 => ?_) (fun w26 => ?_)
            · refine l_iconst rfl ?_
              refine l_ireturn rfl rfl ?_
              exact ⟨hHT2, hFT2, _, rfl, ⟨by omega, by omega⟩⟩
            · refine l_aload_n rfl rfl ?_
              refine l_aload_n rfl rfl ?_
              refine l_gfr rfl rfl rfl rfl rfl (hHT2.r 904 20 918 rfl) ?_
              refine l_iload rfl rfl ?_
              refine l_iaload (n := 24) rfl rfl (by omega) (by omega) (by unfold rg; omega) ?_
              have w27 : 0 ≤ (Xi T2 918 ((z24).toNat)) ∧ (Xi T2 918 ((z24).toNat)) ≤ 15 := hHT2.c _ _
              refine l_iload rfl rfl ?_
              refine l_callV rfl rfl rfl (t_mo_isBelow hHT2 (Xi T2 918 ((z24).toNat)) kind ⟨by omega, by omega⟩ ⟨by omega, by omega⟩ (by first | assumption | exact (ABV_FR hFT2 rfl (by assumption : ABV S))) _) ?_
              rintro _ _ ⟨rfl, z29, rfl, w29, w28⟩
              show Rl _ _ _ _ _ [iv z29] _ _
              refine l_if_ne rfl rfl (by unfold rg; omega) (fun w30 => ?_) (fun w31 => ?_)
              · refine l_aload_n rfl rfl ?_
                refine l_iload rfl rfl ?_
                refine l_iload rfl rfl ?_
                refine l_iastore (n := 2600) rfl rfl (by omega) (by omega) (by unfold rg; omega) ?_
                obtain ⟨U3, eU3⟩ : ∃ T : sS, T = uI T2 990 ((v5).toNat) (Int32.ofInt z24) := ⟨_, rfl⟩
                rw [← eU3]
                have hHU3 : HI U3 := by rw [eU3]; exact HI_w hHT2 (show 0 ≤ z24 by omega) (show z24 ≤ 23 by omega)
                have hFU3 : FR md_mo_listOf__3 S U3 := by rw [eU3]; exact FR.wI hFT2 (mdf_i (r := (990, 991, 0, 100000)) (List.mem_of_getElem? (i := 2) rfl) (inR_i (by omega) (by omega) (by omega) (by omega)))
                have w32 : Xi U3 990 ((v5).toNat) = z24 := by rw [eU3]; exact Xi_same (by unfold rg; omega)
                refine l_iinc rfl rfl rfl rfl ?_
                refine l_iload rfl rfl ?_
                refine l_iload_n rfl rfl ?_
                refine l_icmp_ge rfl rfl (by unfold rg; omega) (by unfold rg; omega) (fun w33 => ?_) (fun w34 => ?_)
                · refine l_iconst rfl ?_
                  refine l_istore rfl rfl rfl ?_
                  refine l_iload rfl rfl ?_
                  refine l_iconst rfl ?_
                  refine l_iadd rfl ?_
                  refine l_istore rfl rfl rfl ?_
                  refine l_iload rfl rfl ?_
                  refine l_iload rfl rfl ?_
                  refine l_if_eq rfl rfl (by unfold rg; omega) (fun w35 => ?_) (fun w36 => absurd w36 (by omega))
                  · refine l_iconst rfl ?_
                    refine l_iadd rfl ?_
                    refine l_istore rfl rfl rfl ?_
                    refine l_goto rfl rfl ?_
                    exact Rl_weak (ih9 _ (by omega) U3 hHU3 hFU3 ((v5 + 1)) (((v8 + 1) + 0)) (0) (by omega) (by omega) (by omega) (by omega) (by omega) (by omega) (by omega) rfl) (And.intro rfl (And.intro rfl (And.intro rfl (And.intro rfl (And.intro rfl (And.intro rfl (And.intro rfl (True.intro))))))))
                · refine l_iconst rfl ?_
                  refine l_goto rfl rfl ?_
                  refine l_istore rfl rfl rfl ?_
                  refine l_iload rfl rfl ?_
                  refine l_iconst rfl ?_
                  refine l_iadd rfl ?_
                  refine l_istore rfl rfl rfl ?_
                  refine l_iload rfl rfl ?_
                  refine l_iload rfl rfl ?_
                  refine l_if_eq rfl rfl (by unfold rg; omega) (fun w37 => absurd w37 (by omega)) (fun w38 => ?_)
                  · refine l_aload_n rfl rfl ?_
                    refine l_gfr rfl rfl rfl rfl rfl (hHU3.r 904 4 907 rfl) ?_
                    refine l_iload rfl rfl ?_
                    refine l_iaload (n := 5002) rfl rfl (by omega) (by omega) (by unfold rg; omega) ?_
                    have w39 : 0 ≤ (Xi U3 907 ((v8).toNat)) ∧ (Xi U3 907 ((v8).toNat)) ≤ 154 := hHU3.c _ _
                    refine l_bipush rfl rfl ?_
                    refine l_icmp_ne rfl rfl (by unfold rg; omega) (by unfold rg; omega) (fun w40 => ?_) (fun w41 => ?_)
                    · refine l_iconst rfl ?_
                      refine l_iadd rfl ?_
                      refine l_istore rfl rfl rfl ?_
                      refine l_goto rfl rfl ?_
                      exact Rl_weak (ih9 _ (by omega) U3 hHU3 hFU3 ((v5 + 1)) (((v8 + 1) + 0)) (1) (by omega) (by omega) (by omega) (by omega) (by omega) (by omega) (by omega) rfl) (And.intro rfl (And.intro rfl (And.intro rfl (And.intro rfl (And.intro rfl (And.intro rfl (And.intro rfl (True.intro))))))))
                    · refine l_iload rfl rfl ?_
                      refine l_iload_n rfl rfl ?_
                      refine l_icmp_ge rfl rfl (by unfold rg; omega) (by unfold rg; omega) (fun w42 => ?_) (fun w43 => ?_)
                      · refine l_iconst rfl ?_
                        refine l_iadd rfl ?_
                        refine l_istore rfl rfl rfl ?_
                        refine l_goto rfl rfl ?_
                        exact Rl_weak (ih9 _ (by omega) U3 hHU3 hFU3 ((v5 + 1)) (((v8 + 1) + 0)) (1) (by omega) (by omega) (by omega) (by omega) (by omega) (by omega) (by omega) rfl) (And.intro rfl (And.intro rfl (And.intro rfl (And.intro rfl (And.intro rfl (And.intro rfl (And.intro rfl (True.intro))))))))
                      · refine l_aload_n rfl rfl ?_
                        refine l_gfr rfl rfl rfl rfl rfl (hHU3.r 904 4 907 rfl) ?_
                        refine l_iload rfl rfl ?_
                        refine l_iaload (n := 5002) rfl rfl (by omega) (by omega) (by unfold rg; omega) ?_
                        have w44 : 0 ≤ (Xi U3 907 (((v8 + 1)).toNat)) ∧ (Xi U3 907 (((v8 + 1)).toNat)) ≤ 154 := hHU3.c _ _
                        refine l_bipush rfl rfl ?_
                        refine l_icmp_ne rfl rfl (by unfold rg; omega) (by unfold rg; omega) (fun w45 => ?_) (fun w46 => ?_)
                        · refine l_iconst rfl ?_
                          refine l_iadd rfl ?_
                          refine l_istore rfl rfl rfl ?_
                          refine l_goto rfl rfl ?_
                          exact Rl_weak (ih9 _ (by omega) U3 hHU3 hFU3 ((v5 + 1)) (((v8 + 1) + 0)) (1) (by omega) (by omega) (by omega) (by omega) (by omega) (by omega) (by omega) rfl) (And.intro rfl (And.intro rfl (And.intro rfl (And.intro rfl (And.intro rfl (And.intro rfl (And.intro rfl (True.intro))))))))
                        · refine l_iconst rfl ?_
                          refine l_goto rfl rfl ?_
                          refine l_iadd rfl ?_
                          refine l_istore rfl rfl rfl ?_
                          refine l_goto rfl rfl ?_
                          exact Rl_weak (ih9 _ (by omega) U3 hHU3 hFU3 ((v5 + 1)) (((v8 + 1) + 1)) (1) (by omega) (by omega) (by omega) (by omega) (by omega) (by omega) (by omega) rfl) (And.intro rfl (And.intro rfl (And.intro rfl (And.intro rfl (And.intro rfl (And.intro rfl (And.intro rfl (True.intro))))))))
              · refine l_iconst rfl ?_
                refine l_ireturn rfl rfl ?_
                exact ⟨hHT2, hFT2, _, rfl, ⟨by omega, by omega⟩⟩
          · refine l_aload_n rfl rfl ?_
            refine l_gfr rfl rfl rfl rfl rfl (hHT2.r 904 4 907 rfl) ?_
            refine l_iload rfl rfl ?_
            refine l_iaload (n := 5002) rfl rfl (by omega) (by omega) (by unfold rg; omega) ?_
            have w47 : 0 ≤ (Xi T2 907 ((v8).toNat)) ∧ (Xi T2 907 ((v8).toNat)) ≤ 154 := hHT2.c _ _
            refine l_bipush rfl rfl ?_
            refine l_icmp_eq rfl rfl (by unfold rg; omega) (by unfold rg; omega) (fun w48 => ?_) (fun w49 => ?_)
            · refine l_aload_n rfl rfl ?_
              refine l_iload rfl rfl ?_
              refine l_iload rfl rfl ?_
              have w50 : 0 ≤ Xi T2 904 19 ∧ Xi T2 904 19 ≤ 24 := hHT2.c _ _
              refine l_callV rfl rfl rfl (t_mo_objectOf__2 hHT2 v6 v8 ⟨by omega, by omega⟩ ⟨by omega, by omega⟩ (by first | assumption | exact (LXM_FR hFT2 rfl (by assumption : LXM S))) _) ?_
              rintro _ _ ⟨rfl, z53, rfl, w53, w51, w52⟩
              show Rl _ _ _ _ _ [iv z53] _ _
              refine l_istore rfl rfl rfl ?_
              refine l_iload rfl rfl ?_
              refine l_bipush rfl rfl ?_
              refine l_icmp_eq rfl rfl (by unfold rg; omega) (by unfold rg; omega) (fun w54 => ?_) (fun w55 => ?_)
              · refine l_iconst rfl ?_
                refine l_ireturn rfl rfl ?_
                exact ⟨hHT2, hFT2, _, rfl, ⟨by omega, by omega⟩⟩
              · refine l_aload_n rfl rfl ?_
                refine l_aload_n rfl rfl ?_
                refine l_gfr rfl rfl rfl rfl rfl (hHT2.r 904 20 918 rfl) ?_
                refine l_iload rfl rfl ?_
                refine l_iaload (n := 24) rfl rfl (by omega) (by omega) (by unfold rg; omega) ?_
                have w56 : 0 ≤ (Xi T2 918 ((z53).toNat)) ∧ (Xi T2 918 ((z53).toNat)) ≤ 15 := hHT2.c _ _
                refine l_iload rfl rfl ?_
                refine l_callV rfl rfl rfl (t_mo_isBelow hHT2 (Xi T2 918 ((z53).toNat)) kind ⟨by omega, by omega⟩ ⟨by omega, by omega⟩ (by first | assumption | exact (ABV_FR hFT2 rfl (by assumption : ABV S))) _) ?_
                rintro _ _ ⟨rfl, z58, rfl, w58, w57⟩
                show Rl _ _ _ _ _ [iv z58] _ _
                refine l_if_ne rfl rfl (by unfold rg; omega) (fun w59 => ?_) (fun w60 => ?_)
                · refine l_aload_n rfl rfl ?_
                  refine l_iload rfl rfl ?_
                  refine l_iload rfl rfl ?_
                  refine l_iastore (n := 2600) rfl rfl (by omega) (by omega) (by unfold rg; omega) ?_
                  obtain ⟨U4, eU4⟩ : ∃ T : sS, T = uI T2 990 ((v5).toNat) (Int32.ofInt z53) := ⟨_, rfl⟩
                  rw [← eU4]
                  have hHU4 : HI U4 := by rw [eU4]; exact HI_w hHT2 (show 0 ≤ z53 by omega) (show z53 ≤ 23 by omega)
                  have hFU4 : FR md_mo_listOf__3 S U4 := by rw [eU4]; exact FR.wI hFT2 (mdf_i (r := (990, 991, 0, 100000)) (List.mem_of_getElem? (i := 2) rfl) (inR_i (by omega) (by omega) (by omega) (by omega)))
                  have w61 : Xi U4 990 ((v5).toNat) = z53 := by rw [eU4]; exact Xi_same (by unfold rg; omega)
                  refine l_iinc rfl rfl rfl rfl ?_
                  refine l_iload rfl rfl ?_
                  refine l_iload_n rfl rfl ?_
                  refine l_icmp_ge rfl rfl (by unfold rg; omega) (by unfold rg; omega) (fun w62 => ?_) (fun w63 => ?_)
                  · refine l_iconst rfl ?_
                    refine l_istore rfl rfl rfl ?_
                    refine l_iload rfl rfl ?_
                    refine l_iconst rfl ?_
                    refine l_iadd rfl ?_
                    refine l_istore rfl rfl rfl ?_
                    refine l_iload rfl rfl ?_
                    refine l_iload rfl rfl ?_
                    refine l_if_eq rfl rfl (by unfold rg; omega) (fun w64 => ?_) (fun w65 => absurd w65 (by omega))
                    · refine l_iconst rfl ?_
                      refine l_iadd rfl ?_
                      refine l_istore rfl rfl rfl ?_
                      refine l_goto rfl rfl ?_
                      exact Rl_weak (ih9 _ (by omega) U4 hHU4 hFU4 ((v5 + 1)) (((v8 + 1) + 0)) (0) (by omega) (by omega) (by omega) (by omega) (by omega) (by omega) (by omega) rfl) (And.intro rfl (And.intro rfl (And.intro rfl (And.intro rfl (And.intro rfl (And.intro rfl (And.intro rfl (True.intro))))))))
                  · refine l_iconst rfl ?_
                    refine l_goto rfl rfl ?_
                    refine l_istore rfl rfl rfl ?_
                    refine l_iload rfl rfl ?_
                    refine l_iconst rfl ?_
                    refine l_iadd rfl ?_
                    refine l_istore rfl rfl rfl ?_
                    refine l_iload rfl rfl ?_
                    refine l_iload rfl rfl ?_
                    refine l_if_eq rfl rfl (by unfold rg; omega) (fun w66 => absurd w66 (by omega)) (fun w67 => ?_)
                    · refine l_aload_n rfl rfl ?_
                      refine l_gfr rfl rfl rfl rfl rfl (hHU4.r 904 4 907 rfl) ?_
                      refine l_iload rfl rfl ?_
                      refine l_iaload (n := 5002) rfl rfl (by omega) (by omega) (by unfold rg; omega) ?_
                      have w68 : (Xi U4 907 ((v8).toNat)) = (Xi T2 907 ((v8).toNat)) := (show Xi U4 907 ((v8).toNat) = Xi T2 907 ((v8).toNat) from by rw [eU4]; exact Xi_ne (by omega))
                      rw [w68]
                      refine l_bipush rfl rfl ?_
                      refine l_icmp_ne rfl rfl (by unfold rg; omega) (by unfold rg; omega) (fun w69 => ?_) (fun w70 => ?_)
                      · refine l_iconst rfl ?_
                        refine l_iadd rfl ?_
                        refine l_istore rfl rfl rfl ?_
                        refine l_goto rfl rfl ?_
                        exact Rl_weak (ih9 _ (by omega) U4 hHU4 hFU4 ((v5 + 1)) (((v8 + 1) + 0)) (1) (by omega) (by omega) (by omega) (by omega) (by omega) (by omega) (by omega) rfl) (And.intro rfl (And.intro rfl (And.intro rfl (And.intro rfl (And.intro rfl (And.intro rfl (And.intro rfl (True.intro))))))))
                      · refine l_iload rfl rfl ?_
                        refine l_iload_n rfl rfl ?_
                        refine l_icmp_ge rfl rfl (by unfold rg; omega) (by unfold rg; omega) (fun w71 => ?_) (fun w72 => ?_)
                        · refine l_iconst rfl ?_
                          refine l_iadd rfl ?_
                          refine l_istore rfl rfl rfl ?_
                          refine l_goto rfl rfl ?_
                          exact Rl_weak (ih9 _ (by omega) U4 hHU4 hFU4 ((v5 + 1)) (((v8 + 1) + 0)) (1) (by omega) (by omega) (by omega) (by omega) (by omega) (by omega) (by omega) rfl) (And.intro rfl (And.intro rfl (And.intro rfl (And.intro rfl (And.intro rfl (And.intro rfl (And.intro rfl (True.intro))))))))
                        · refine l_aload_n rfl rfl ?_
                          refine l_gfr rfl rfl rfl rfl rfl (hHU4.r 904 4 907 rfl) ?_
                          refine l_iload rfl rfl ?_
                          refine l_iaload (n := 5002) rfl rfl (by omega) (by omega) (by unfold rg; omega) ?_
                          have w73 : 0 ≤ (Xi U4 907 (((v8 + 1)).toNat)) ∧ (Xi U4 907 (((v8 + 1)).toNat)) ≤ 154 := hHU4.c _ _
                          refine l_bipush rfl rfl ?_
                          refine l_icmp_ne rfl rfl (by unfold rg; omega) (by unfold rg; omega) (fun w74 => ?_) (fun w75 => ?_)
                          · refine l_iconst rfl ?_
                            refine l_iadd rfl ?_
                            refine l_istore rfl rfl rfl ?_
                            refine l_goto rfl rfl ?_
                            exact Rl_weak (ih9 _ (by omega) U4 hHU4 hFU4 ((v5 + 1)) (((v8 + 1) + 0)) (1) (by omega) (by omega) (by omega) (by omega) (by omega) (by omega) (by omega) rfl) (And.intro rfl (And.intro rfl (And.intro rfl (And.intro rfl (And.intro rfl (And.intro rfl (And.intro rfl (True.intro))))))))
                          · refine l_iconst rfl ?_
                            refine l_goto rfl rfl ?_
                            refine l_iadd rfl ?_
                            refine l_istore rfl rfl rfl ?_
                            refine l_goto rfl rfl ?_
                            exact Rl_weak (ih9 _ (by omega) U4 hHU4 hFU4 ((v5 + 1)) (((v8 + 1) + 1)) (1) (by omega) (by omega) (by omega) (by omega) (by omega) (by omega) (by omega) rfl) (And.intro rfl (And.intro rfl (And.intro rfl (And.intro rfl (And.intro rfl (And.intro rfl (And.intro rfl (True.intro))))))))
                · refine l_iconst rfl ?_
                  refine l_ireturn rfl rfl ?_
                  exact ⟨hHT2, hFT2, _, rfl, ⟨by omega, by omega⟩⟩
            · refine l_aload_n rfl rfl ?_
              refine l_gfr rfl rfl rfl rfl rfl (hHT2.r 904 4 907 rfl) ?_
              refine l_iload rfl rfl ?_
              refine l_iaload (n := 5002) rfl rfl (by omega) (by omega) (by unfold rg; omega) ?_
              refine l_bipush rfl rfl ?_
              refine l_icmp_eq rfl rfl (by unfold rg; omega) (by unfold rg; omega) (fun w76 => ?_) (fun w77 => ?_)
              · refine l_aload_n rfl rfl ?_
                refine l_iload rfl rfl ?_
                refine l_iload rfl rfl ?_
                have w78 : 0 ≤ Xi T2 904 19 ∧ Xi T2 904 19 ≤ 24 := hHT2.c _ _
                refine l_callV rfl rfl rfl (t_mo_objectOf__2 hHT2 v6 v8 ⟨by omega, by omega⟩ ⟨by omega, by omega⟩ (by first | assumption | exact (LXM_FR hFT2 rfl (by assumption : LXM S))) _) ?_
                rintro _ _ ⟨rfl, z81, rfl, w81, w79, w80⟩
                show Rl _ _ _ _ _ [iv z81] _ _
                refine l_istore rfl rfl rfl ?_
                refine l_iload rfl rfl ?_
                refine l_bipush rfl rfl ?_
                refine l_icmp_eq rfl rfl (by unfold rg; omega) (by unfold rg; omega) (fun w82 => ?_) (fun w83 => ?_)
                · refine l_iconst rfl ?_
                  refine l_ireturn rfl rfl ?_
                  exact ⟨hHT2, hFT2, _, rfl, ⟨by omega, by omega⟩⟩
                · refine l_aload_n rfl rfl ?_
                  refine l_aload_n rfl rfl ?_
                  refine l_gfr rfl rfl rfl rfl rfl (hHT2.r 904 20 918 rfl) ?_
                  refine l_iload rfl rfl ?_
                  refine l_iaload (n := 24) rfl rfl (by omega) (by omega) (by unfold rg; omega) ?_
                  have w84 : 0 ≤ (Xi T2 918 ((z81).toNat)) ∧ (Xi T2 918 ((z81).toNat)) ≤ 15 := hHT2.c _ _
                  refine l_iload rfl rfl ?_
                  refine l_callV rfl rfl rfl (t_mo_isBelow hHT2 (Xi T2 918 ((z81).toNat)) kind ⟨by omega, by omega⟩ ⟨by omega, by omega⟩ (by first | assumption | exact (ABV_FR hFT2 rfl (by assumption : ABV S))) _) ?_
                  rintro _ _ ⟨rfl, z86, rfl, w86, w85⟩
                  show Rl _ _ _ _ _ [iv z86] _ _
                  refine l_if_ne rfl rfl (by unfold rg; omega) (fun w87 => ?_) (fun w88 => ?_)
                  · refine l_aload_n rfl rfl ?_
                    refine l_iload rfl rfl ?_
                    refine l_iload rfl rfl ?_
                    refine l_iastore (n := 2600) rfl rfl (by omega) (by omega) (by unfold rg; omega) ?_
                    obtain ⟨U5, eU5⟩ : ∃ T : sS, T = uI T2 990 ((v5).toNat) (Int32.ofInt z81) := ⟨_, rfl⟩
                    rw [← eU5]
                    have hHU5 : HI U5 := by rw [eU5]; exact HI_w hHT2 (show 0 ≤ z81 by omega) (show z81 ≤ 23 by omega)
                    have hFU5 : FR md_mo_listOf__3 S U5 := by rw [eU5]; exact FR.wI hFT2 (mdf_i (r := (990, 991, 0, 100000)) (List.mem_of_getElem? (i := 2) rfl) (inR_i (by omega) (by omega) (by omega) (by omega)))
                    have w89 : Xi U5 990 ((v5).toNat) = z81 := by rw [eU5]; exact Xi_same (by unfold rg; omega)
                    refine l_iinc rfl rfl rfl rfl ?_
                    refine l_iload rfl rfl ?_
                    refine l_iload_n rfl rfl ?_
                    refine l_icmp_ge rfl rfl (by unfold rg; omega) (by unfold rg; omega) (fun w90 => ?_) (fun w91 => ?_)
                    · refine l_iconst rfl ?_
                      refine l_istore rfl rfl rfl ?_
                      refine l_iload rfl rfl ?_
                      refine l_iconst rfl ?_
                      refine l_iadd rfl ?_
                      refine l_istore rfl rfl rfl ?_
                      refine l_iload rfl rfl ?_
                      refine l_iload rfl rfl ?_
                      refine l_if_eq rfl rfl (by unfold rg; omega) (fun w92 => ?_) (fun w93 => absurd w93 (by omega))
                      · refine l_iconst rfl ?_
                        refine l_iadd rfl ?_
                        refine l_istore rfl rfl rfl ?_
                        refine l_goto rfl rfl ?_
                        exact Rl_weak (ih9 _ (by omega) U5 hHU5 hFU5 ((v5 + 1)) (((v8 + 1) + 0)) (0) (by omega) (by omega) (by omega) (by omega) (by omega) (by omega) (by omega) rfl) (And.intro rfl (And.intro rfl (And.intro rfl (And.intro rfl (And.intro rfl (And.intro rfl (And.intro rfl (True.intro))))))))
                    · refine l_iconst rfl ?_
                      refine l_goto rfl rfl ?_
                      refine l_istore rfl rfl rfl ?_
                      refine l_iload rfl rfl ?_
                      refine l_iconst rfl ?_
                      refine l_iadd rfl ?_
                      refine l_istore rfl rfl rfl ?_
                      refine l_iload rfl rfl ?_
                      refine l_iload rfl rfl ?_
                      refine l_if_eq rfl rfl (by unfold rg; omega) (fun w94 => absurd w94 (by omega)) (fun w95 => ?_)
                      · refine l_aload_n rfl rfl ?_
                        refine l_gfr rfl rfl rfl rfl rfl (hHU5.r 904 4 907 rfl) ?_
                        refine l_iload rfl rfl ?_
                        refine l_iaload (n := 5002) rfl rfl (by omega) (by omega) (by unfold rg; omega) ?_
                        have w96 : (Xi U5 907 ((v8).toNat)) = (Xi T2 907 ((v8).toNat)) := (show Xi U5 907 ((v8).toNat) = Xi T2 907 ((v8).toNat) from by rw [eU5]; exact Xi_ne (by omega))
                        rw [w96]
                        refine l_bipush rfl rfl ?_
                        refine l_icmp_ne rfl rfl (by unfold rg; omega) (by unfold rg; omega) (fun w97 => ?_) (fun w98 => ?_)
                        · refine l_iconst rfl ?_
                          refine l_iadd rfl ?_
                          refine l_istore rfl rfl rfl ?_
                          refine l_goto rfl rfl ?_
                          exact Rl_weak (ih9 _ (by omega) U5 hHU5 hFU5 ((v5 + 1)) (((v8 + 1) + 0)) (1) (by omega) (by omega) (by omega) (by omega) (by omega) (by omega) (by omega) rfl) (And.intro rfl (And.intro rfl (And.intro rfl (And.intro rfl (And.intro rfl (And.intro rfl (And.intro rfl (True.intro))))))))
                        · refine l_iload rfl rfl ?_
                          refine l_iload_n rfl rfl ?_
                          refine l_icmp_ge rfl rfl (by unfold rg; omega) (by unfold rg; omega) (fun w99 => ?_) (fun w100 => ?_)
                          · refine l_iconst rfl ?_
                            refine l_iadd rfl ?_
                            refine l_istore rfl rfl rfl ?_
                            refine l_goto rfl rfl ?_
                            exact Rl_weak (ih9 _ (by omega) U5 hHU5 hFU5 ((v5 + 1)) (((v8 + 1) + 0)) (1) (by omega) (by omega) (by omega) (by omega) (by omega) (by omega) (by omega) rfl) (And.intro rfl (And.intro rfl (And.intro rfl (And.intro rfl (And.intro rfl (And.intro rfl (And.intro rfl (True.intro))))))))
                          · refine l_aload_n rfl rfl ?_
                            refine l_gfr rfl rfl rfl rfl rfl (hHU5.r 904 4 907 rfl) ?_
                            refine l_iload rfl rfl ?_
                            refine l_iaload (n := 5002) rfl rfl (by omega) (by omega) (by unfold rg; omega) ?_
                            have w101 : 0 ≤ (Xi U5 907 (((v8 + 1)).toNat)) ∧ (Xi U5 907 (((v8 + 1)).toNat)) ≤ 154 := hHU5.c _ _
                            refine l_bipush rfl rfl ?_
                            refine l_icmp_ne rfl rfl (by unfold rg; omega) (by unfold rg; omega) (fun w102 => ?_) (fun w103 => ?_)
                            · refine l_iconst rfl ?_
                              refine l_iadd rfl ?_
                              refine l_istore rfl rfl rfl ?_
                              refine l_goto rfl rfl ?_
                              exact Rl_weak (ih9 _ (by omega) U5 hHU5 hFU5 ((v5 + 1)) (((v8 + 1) + 0)) (1) (by omega) (by omega) (by omega) (by omega) (by omega) (by omega) (by omega) rfl) (And.intro rfl (And.intro rfl (And.intro rfl (And.intro rfl (And.intro rfl (And.intro rfl (And.intro rfl (True.intro))))))))
                            · refine l_iconst rfl ?_
                              refine l_goto rfl rfl ?_
                              refine l_iadd rfl ?_
                              refine l_istore rfl rfl rfl ?_
                              refine l_goto rfl rfl ?_
                              exact Rl_weak (ih9 _ (by omega) U5 hHU5 hFU5 ((v5 + 1)) (((v8 + 1) + 1)) (1) (by omega) (by omega) (by omega) (by omega) (by omega) (by omega) (by omega) rfl) (And.intro rfl (And.intro rfl (And.intro rfl (And.intro rfl (And.intro rfl (And.intro rfl (And.intro rfl (True.intro))))))))
                  · refine l_iconst rfl ?_
                    refine l_ireturn rfl rfl ?_
                    exact ⟨hHT2, hFT2, _, rfl, ⟨by omega, by omega⟩⟩
              · refine l_iinc rfl rfl rfl rfl ?_
                refine l_goto rfl rfl ?_
                exact Rl_weak (ih18 _ (by omega) T2 hHT2 hFT2 (v5) (v6) ((v8 + 1)) (by omega) (by omega) (by omega) (by omega) (by omega) (by omega) (by omega) (by omega) (by omega) rfl) (And.intro rfl (And.intro rfl (And.intro rfl (And.intro rfl (And.intro rfl (And.intro rfl (And.intro rfl (True.intro))))))))
      refine l_iload rfl rfl ?_
      refine l_if_eq rfl rfl (by unfold rg; omega) (fun w104 => ?_) (fun w105 => ?_)
      · refine l_iload rfl rfl ?_
        refine l_ireturn rfl rfl ?_
        exact ⟨hHT1, hFT1, _, rfl, ⟨by omega, by omega⟩⟩
      · refine l_iload rfl rfl ?_
        refine l_istore rfl rfl rfl ?_
        exact Rl_weak (C18 _ T1 hHT1 hFT1 (v5) (v6) (v6) (by omega) (by omega) (by omega) (by omega) (by omega) (by omega) (by omega) (by omega) (by omega) rfl) (And.intro rfl (And.intro rfl (And.intro rfl (And.intro rfl (And.intro rfl (And.intro rfl (And.intro rfl (True.intro))))))))
  refine l_iconst rfl ?_
  refine l_istore rfl rfl rfl ?_
  refine l_iload_n rfl rfl ?_
  refine l_istore rfl rfl rfl ?_
  refine l_iconst rfl ?_
  refine l_istore rfl rfl rfl ?_
  exact Rl_weak (C9 _ S hH hF (0) (from_) (1) (by omega) (by omega) (by omega) (by omega) (by omega) (by omega) (by omega) rfl) (And.intro rfl (And.intro rfl (And.intro rfl (And.intro rfl (And.intro rfl (And.intro rfl (And.intro rfl (True.intro))))))))
def md_mo_askSaying : List rec := [(904, 905, 104, 105), (904, 905, 105, 106), (904, 905, 106, 107), (904, 905, 144, 145), (904, 905, 146, 147), (904, 905, 147, 148), (988, 989, 0, 100000), (989, 990, 0, 100000), (990, 991, 0, 100000)]
abbrev Q_mo_askSaying (S : sS) (n : Nat) (dd : Nat) (first : Int) : pst := fun r S1 => HI S1 ∧ FR md_mo_askSaying S S1 ∧ (r = none ∧ (Xi S 904 106 ≠ 0 → Xi S1 904 106 ≠ 0))
set_option maxRecDepth 100000 in
set_option maxHeartbeats 4000000 in
theorem t_mo_askSaying {S : sS} (hH : HI S) (n : Nat) (dd : Nat) (first : Int) (hfirst : 0 ≤ first ∧ first ≤ 5001) (hT : TK S n) (hM : LXM S) (hB : ABV S) (hd : first ≤ dd ∧ dd < n ∧ Xi S 907 dd = 46) (d : Nat) : Mt lay0 (d + 6) m_mo_askSaying [.ref 904, iv first] S (Q_mo_askSaying S n dd first) := by
  refine Mt_R rfl rfl ?_
  have hF : FR md_mo_askSaying S S := FR.rf
  have w1 : 0 ≤ Xi S 904 106 ∧ Xi S 904 106 ≤ 9 := hH.c _ _
  have hn5 := hT.1
  have hc47 : 0 ≤ Xi S 904 47 ∧ Xi S 904 47 ≤ 8 := hH.c _ _
  have C2 : ∀ (n2 : Nat) (v2 : Int), (0 ≤ v2 ∧ v2 ≤ 5001) → (first ≤ v2) → (v2 ≤ dd) → n2 = (5002 - v2).toNat → Rl lay0 (d + 5) m_mo_askSaying 2 [(0, .ref 904), (1, iv first), (2, iv v2)] [] S (Q_mo_askSaying S n dd first) := by
    intro n2
    induction n2 using Nat.strongRecOn with
    | ind n2 ih2 =>
      intro v2 w2 w3 w4 hm2
      have C27 : ∀ (n27 : Nat) (T1 : sS) (_ : HI T1) (_ : FR md_mo_askSaying S T1) (v2 : Int) (v3 : Int) (v4 : Int) (v5 : Int), (0 ≤ v2 ∧ v2 ≤ 5001) → (0 ≤ v3 ∧ v3 ≤ 5002) → (0 ≤ v4 ∧ v4 ≤ 1) → (0 ≤ v5 ∧ v5 ≤ 5001) → (first ≤ v2) → (v2 ≤ dd) → (first ≤ v5) → (v5 ≤ v2) → (v3 ≤ v5 - first) → (Xi S 904 106 ≠ 0 → Xi T1 904 106 ≠ 0) → n27 = (5002 - v5).toNat → Rl lay0 (d + 5) m_mo_askSaying 27 [(0, .ref 904), (1, iv first), (2, iv v2), (3, iv v3), (4, iv v4), (5, iv v5)] [] T1 (Q_mo_askSaying S n dd first) := by
        intro n27
        induction n27 using Nat.strongRecOn with
        | ind n27 ih27 =>
          intro T1 hHT1 hFT1 v2 v3 v4 v5 w5 w6 w7 w8 w9 w10 w11 w12 w13 w14 hm27
          have w15 : 0 ≤ Xi T1 904 106 ∧ Xi T1 904 106 ≤ 9 := hHT1.c _ _
          have C69 : ∀  (T2 : sS) (_ : HI T2) (_ : FR md_mo_askSaying S T2) (v2 : Int) (v3 : Int) (v4 : Int) (v5 : Int) (v6 : Int), (1 ≤ v2 ∧ v2 ≤ 5001) → (0 ≤ v3 ∧ v3 ≤ 5002) → (0 ≤ v4 ∧ v4 ≤ 1) → (0 ≤ v5 ∧ v5 ≤ 5000) → (-1 ≤ v6 ∧ v6 ≤ 7) → (first ≤ v2) → (v2 ≤ dd) → (first ≤ v5) → (v5 < v2) → (v3 ≤ v5 - first) → (Xi S 904 106 ≠ 0 → Xi T2 904 106 ≠ 0) → ((5002 - v5).toNat ≤ n27) → Rl lay0 (d + 5) m_mo_askSaying 69 [(0, .ref 904), (1, iv first), (2, iv v2), (3, iv v3), (4, iv v4), (5, iv v5), (6, iv v6)] [] T2 (Q_mo_askSaying S n dd first) := by
            intro T2 hHT2 hFT2 v2 v3 v4 v5 v6 w16 w17 w18 w19 w20 w21 w22 w23 w24 w25 w26 w27
            have w28 : 0 ≤ Xi T2 904 106 ∧ Xi T2 904 106 ≤ 9 := hHT2.c _ _
            have C197 : ∀  (T3 : sS) (_ : HI T3) (_ : FR md_mo_askSaying S T3) (v2 : Int) (v3 : Int) (v4 : Int) (v5 : Int), (1 ≤ v2 ∧ v2 ≤ 5001) → (0 ≤ v3 ∧ v3 ≤ 5002) → (0 ≤ v4 ∧ v4 ≤ 1) → (0 ≤ v5 ∧ v5 ≤ 5000) → (first ≤ v2) → (v2 ≤ dd) → (first ≤ v5) → (v5 < v2) → (v3 ≤ v5 - first + 1) → (Xi S 904 106 ≠ 0 → Xi T3 904 106 ≠ 0) → ((5002 - v5).toNat ≤ n27) → Rl lay0 (d + 5) m_mo_askSaying 197 [(0, .ref 904), (1, iv first), (2, iv v2), (3, iv v3), (4, iv v4), (5, iv v5)] [] T3 (Q_mo_askSaying S n dd first) := by
              intro T3 hHT3 hFT3 v2 v3 v4 v5 w29 w30 w31 w32 w33 w34 w35 w36 w37 w38 w39
              have w40 : 0 ≤ Xi T3 904 106 ∧ Xi T3 904 106 ≤ 9 := hHT3.c _ _
              refine l_iload rfl rfl ?_
              refine l_if_eq rfl rfl (by unfold rg; omega) (fun w41 => ?_) (fun w42 => ?_)
              · refine l_iconst rfl ?_
                refine l_istore rfl rfl rfl ?_
                refine l_iinc rfl rfl rfl rfl ?_
                refine l_goto rfl rfl ?_
                have w43 : 0 ≤ Xi T3 904 106 ∧ Xi T3 904 106 ≤ 9 := hHT3.c _ _
                exact Rl_weak (ih27 _ (by omega) T3 hHT3 hFT3 (v2) (v3) (0) ((v5 + 1)) (by omega) (by omega) (by omega) (by omega) (by omega) (by omega) (by omega) (by omega) (by omega) (by omega) rfl) (And.intro rfl (And.intro rfl (And.intro rfl (And.intro rfl (And.intro rfl (And.intro rfl (True.intro)))))))
              · refine l_aload_n rfl rfl ?_
                refine l_gfr rfl rfl rfl rfl rfl (hHT3.r 904 4 907 rfl) ?_
                refine l_iload rfl rfl ?_
                refine l_iaload (n := 5002) rfl rfl (by omega) (by omega) (by unfold rg; omega) ?_
                have w44 : 0 ≤ (Xi T3 907 ((v5).toNat)) ∧ (Xi T3 907 ((v5).toNat)) ≤ 154 := hHT3.c _ _
                refine l_bipush rfl rfl ?_
                refine l_icmp_eq rfl rfl (by unfold rg; omega) (by unfold rg; omega) (fun w45 => ?_) (fun w46 => ?_)
                · refine l_iconst rfl ?_
                  refine l_istore rfl rfl rfl ?_
                  refine l_iinc rfl rfl rfl rfl ?_
                  refine l_goto rfl rfl ?_
                  have w47 : 0 ≤ Xi T3 904 106 ∧ Xi T3 904 106 ≤ 9 := hHT3.c _ _
                  exact Rl_weak (ih27 _ (by omega) T3 hHT3 hFT3 (v2) (v3) (0) ((v5 + 1)) (by omega) (by omega) (by omega) (by omega) (by omega) (by omega) (by omega) (by omega) (by omega) (by omega) rfl) (And.intro rfl (And.intro rfl (And.intro rfl (And.intro rfl (And.intro rfl (And.intro rfl (True.intro)))))))
                · refine l_aload_n rfl rfl ?_
                  refine l_gfr rfl rfl rfl rfl rfl (hHT3.r 904 4 907 rfl) ?_
                  refine l_iload rfl rfl ?_
                  refine l_iaload (n := 5002) rfl rfl (by omega) (by omega) (by unfold rg; omega) ?_
                  refine l_bipush rfl rfl ?_
                  refine l_icmp_eq rfl rfl (by unfold rg; omega) (by unfold rg; omega) (fun w48 => ?_) (fun w49 => ?_)
                  · refine l_iconst rfl ?_
                    refine l_istore rfl rfl rfl ?_
                    refine l_iinc rfl rfl rfl rfl ?_
                    refine l_goto rfl rfl ?_
                    have w50 : 0 ≤ Xi T3 904 106 ∧ Xi T3 904 106 ≤ 9 := hHT3.c _ _
                    exact Rl_weak (ih27 _ (by omega) T3 hHT3 hFT3 (v2) (v3) (0) ((v5 + 1)) (by omega) (by omega) (by omega) (by omega) (by omega) (by omega) (by omega) (by omega) (by omega) (by omega) rfl) (And.intro rfl (And.intro rfl (And.intro rfl (And.intro rfl (And.intro rfl (And.intro rfl (True.intro)))))))
                  · refine l_iconst rfl ?_
                    refine l_goto rfl rfl ?_
                    refine l_istore rfl rfl rfl ?_
                    refine l_iinc rfl rfl rfl rfl ?_
                    refine l_goto rfl rfl ?_
                    have w51 : 0 ≤ Xi T3 904 106 ∧ Xi T3 904 106 ≤ 9 := hHT3.c _ _
                    exact Rl_weak (ih27 _ (by omega) T3 hHT3 hFT3 (v2) (v3) (1) ((v5 + 1)) (by omega) (by omega) (by omega) (by omega) (by omega) (by omega) (by omega) (by omega) (by omega) (by omega) rfl) (And.intro rfl (And.intro rfl (And.intro rfl (And.intro rfl (And.intro rfl (And.intro rfl (True.intro)))))))
            refine l_iload rfl rfl ?_
            refine l_iconst rfl ?_
            refine l_icmp_eq rfl rfl (by unfold rg; omega) (by unfold rg; omega) (fun w52 => ?_) (fun w53 => ?_)
            · have w54 : 0 ≤ Xi T2 904 106 ∧ Xi T2 904 106 ≤ 9 := hHT2.c _ _
              exact Rl_weak (C197 T2 hHT2 hFT2 (v2) (v3) (v4) (v5) (by omega) (by omega) (by omega) (by omega) (by omega) (by omega) (by omega) (by omega) (by omega) (by omega) (by omega)) (And.intro rfl (And.intro rfl (And.intro rfl (And.intro rfl (And.intro rfl (And.intro rfl (True.intro)))))))
            · refine l_iload rfl rfl ?_
              refine l_iload_n rfl rfl ?_
              refine l_icmp_le rfl rfl (by unfold rg; omega) (by unfold rg; omega) (fun w55 => ?_) (fun w56 => ?_)
              · have w57 : 0 ≤ Xi T2 904 106 ∧ Xi T2 904 106 ≤ 9 := hHT2.c _ _
                exact Rl_weak (C197 T2 hHT2 hFT2 (v2) (v3) (v4) (v5) (by omega) (by omega) (by omega) (by omega) (by omega) (by omega) (by omega) (by omega) (by omega) (by omega) (by omega)) (And.intro rfl (And.intro rfl (And.intro rfl (And.intro rfl (And.intro rfl (And.intro rfl (True.intro)))))))
              · refine l_iload rfl rfl ?_
                refine l_iconst rfl ?_
                refine l_iadd rfl ?_
                refine l_iload_n rfl rfl ?_
                refine l_icmp_ge rfl rfl (by unfold rg; omega) (by unfold rg; omega) (fun w58 => ?_) (fun w59 => ?_)
                · have w60 : 0 ≤ Xi T2 904 106 ∧ Xi T2 904 106 ≤ 9 := hHT2.c _ _
                  exact Rl_weak (C197 T2 hHT2 hFT2 (v2) (v3) (v4) (v5) (by omega) (by omega) (by omega) (by omega) (by omega) (by omega) (by omega) (by omega) (by omega) (by omega) (by omega)) (And.intro rfl (And.intro rfl (And.intro rfl (And.intro rfl (And.intro rfl (And.intro rfl (True.intro)))))))
                · refine l_aload_n rfl rfl ?_
                  refine l_gfr rfl rfl rfl rfl rfl (hHT2.r 904 48 941 rfl) ?_
                  refine l_iload rfl rfl ?_
                  refine l_iaload (n := 8) rfl rfl (by omega) (by omega) (by unfold rg; omega) ?_
                  have w61 : 0 ≤ (Xi T2 941 ((v6).toNat)) ∧ (Xi T2 941 ((v6).toNat)) ≤ 5 := hHT2.c _ _
                  refine l_istore rfl rfl rfl ?_
                  refine l_aload_n rfl rfl ?_
                  refine l_iload_n rfl rfl ?_
                  refine l_iload rfl rfl ?_
                  refine l_iload_n rfl rfl ?_
                  refine l_if_ne rfl rfl (by unfold rg; omega) (fun w62 => ?_) (fun w63 => ?_)
                  · refine l_aload_n rfl rfl ?_
                    refine l_gfr rfl rfl rfl rfl rfl (hHT2.r 904 148 990 rfl) ?_
                    refine l_aload_n rfl rfl ?_
                    refine l_gfr rfl rfl rfl rfl rfl (hHT2.r 904 42 936 rfl) ?_
                    refine l_iload rfl rfl ?_
                    refine l_iaload (n := 6) rfl rfl (by omega) (by omega) (by unfold rg; omega) ?_
                    have w64 : 0 ≤ (Xi T2 936 (((Xi T2 941 ((v6).toNat))).toNat)) ∧ (Xi T2 936 (((Xi T2 941 ((v6).toNat))).toNat)) ≤ 15 := hHT2.c _ _
                    have w65 : 0 ≤ Xi T2 904 106 ∧ Xi T2 904 106 ≤ 9 := hHT2.c _ _
                    refine l_callV rfl rfl rfl (t_mo_listOf__3 hHT2 first v5 (Xi T2 936 (((Xi T2 941 ((v6).toNat))).toNat)) ⟨by omega, by omega⟩ ⟨by omega, by omega⟩ ⟨by omega, by omega⟩ (by first | assumption | exact (LXM_FR hFT2 rfl (by assumption : LXM S))) (by first | assumption | exact (ABV_FR hFT2 rfl (by assumption : ABV S))) (by first | assumption | omega) _) ?_
                    rintro _ T4 ⟨hHT4, w67, z66, rfl, w66⟩
                    have hFT4 : FR md_mo_askSaying S T4 := FR.tr hFT2 w67 rfl
                    show Rl _ _ _ _ _ [iv z66] _ _
                    refine l_istore rfl rfl rfl ?_
                    refine l_aload_n rfl rfl ?_
                    refine l_iload rfl rfl ?_
                    refine l_iconst rfl ?_
                    refine l_iadd rfl ?_
                    refine l_iload_n rfl rfl ?_
                    refine l_iload_n rfl rfl ?_
                    refine l_if_ne rfl rfl (by unfold rg; omega) (fun w68 => ?_) (fun w69 => ?_)
                    · refine l_aload_n rfl rfl ?_
                      refine l_gfr rfl rfl rfl rfl rfl (hHT4.r 904 148 990 rfl) ?_
                      refine l_aload_n rfl rfl ?_
                      refine l_gfr rfl rfl rfl rfl rfl (hHT4.r 904 43 937 rfl) ?_
                      refine l_iload rfl rfl ?_
                      refine l_iaload (n := 6) rfl rfl (by omega) (by omega) (by unfold rg; omega) ?_
                      have w70 : 0 ≤ (Xi T4 937 (((Xi T2 941 ((v6).toNat))).toNat)) ∧ (Xi T4 937 (((Xi T2 941 ((v6).toNat))).toNat)) ≤ 15 := hHT4.c _ _
                      have w71 : Xi T4 904 106 = Xi T2 904 106 := (show Xi T4 904 106 = Xi T2 904 106 from w67.x _ _ rfl)
                      have w72 : 0 ≤ Xi T2 904 106 ∧ Xi T2 904 106 ≤ 9 := hHT2.c _ _
                      refine l_callV rfl rfl rfl (t_mo_listOf__3 hHT4 (v5 + 1) v2 (Xi T4 937 (((Xi T2 941 ((v6).toNat))).toNat)) ⟨by omega, by omega⟩ ⟨by omega, by omega⟩ ⟨by omega, by omega⟩ (by first | assumption | exact (LXM_FR hFT4 rfl (by assumption : LXM S))) (by first | assumption | exact (ABV_FR hFT4 rfl (by assumption : ABV S))) (by first | assumption | omega) _) ?_
                      rintro _ T5 ⟨hHT5, w74, z73, rfl, w73⟩
                      have hFT5 : FR md_mo_askSaying S T5 := FR.tr hFT4 w74 rfl
                      show Rl _ _ _ _ _ [iv z73] _ _
                      refine l_istore rfl rfl rfl ?_
                      refine l_iload rfl rfl ?_
                      refine l_if_le rfl rfl (by unfold rg; omega) (fun w75 => ?_) (fun w76 => ?_)
                      · have w77 : Xi T5 904 106 = Xi T2 904 106 := (show Xi T5 904 106 = Xi T4 904 106 from w74.x _ _ rfl).trans ((show Xi T4 904 106 = Xi T2 904 106 from w67.x _ _ rfl))
                        have w78 : 0 ≤ Xi T2 904 106 ∧ Xi T2 904 106 ≤ 9 := hHT2.c _ _
                        exact Rl_weak (C197 T5 hHT5 hFT5 (v2) (v3) (v4) (v5) (by omega) (by omega) (by omega) (by omega) (by omega) (by omega) (by omega) (by omega) (by omega) (by omega) (by omega)) (And.intro rfl (And.intro rfl (And.intro rfl (And.intro rfl (And.intro rfl (And.intro rfl (True.intro)))))))
                      · refine l_iload rfl rfl ?_
                        refine l_if_le rfl rfl (by unfold rg; omega) (fun w79 => ?_) (fun w80 => ?_)
                        · have w81 : Xi T5 904 106 = Xi T2 904 106 := (show Xi T5 904 106 = Xi T4 904 106 from w74.x _ _ rfl).trans ((show Xi T4 904 106 = Xi T2 904 106 from w67.x _ _ rfl))
                          have w82 : 0 ≤ Xi T2 904 106 ∧ Xi T2 904 106 ≤ 9 := hHT2.c _ _
                          exact Rl_weak (C197 T5 hHT5 hFT5 (v2) (v3) (v4) (v5) (by omega) (by omega) (by omega) (by omega) (by omega) (by omega) (by omega) (by omega) (by omega) (by omega) (by omega)) (And.intro rfl (And.intro rfl (And.intro rfl (And.intro rfl (And.intro rfl (And.intro rfl (True.intro)))))))
                        · refine l_iload_n rfl rfl ?_
                          refine l_if_ne rfl rfl (by unfold rg; omega) (fun w83 => ?_) (fun w84 => ?_)
                          · refine l_iinc rfl rfl rfl rfl ?_
                            have w85 : Xi T5 904 106 = Xi T2 904 106 := (show Xi T5 904 106 = Xi T4 904 106 from w74.x _ _ rfl).trans ((show Xi T4 904 106 = Xi T2 904 106 from w67.x _ _ rfl))
                            have w86 : 0 ≤ Xi T2 904 106 ∧ Xi T2 904 106 ≤ 9 := hHT2.c _ _
                            exact Rl_weak (C197 T5 hHT5 hFT5 (v2) ((v3 + 1)) (v4) (v5) (by omega) (by omega) (by omega) (by omega) (by omega) (by omega) (by omega) (by omega) (by omega) (by omega) (by omega)) (And.intro rfl (And.intro rfl (And.intro rfl (And.intro rfl (And.intro rfl (And.intro rfl (True.intro)))))))
                          · refine l_aload_n rfl rfl ?_
                            refine l_iload rfl rfl ?_
                            refine l_pfi rfl rfl rfl rfl ?_
                            obtain ⟨U6, eU6⟩ : ∃ T : sS, T = uI T5 904 144 (Int32.ofInt z66) := ⟨_, rfl⟩
                            rw [← eU6]
                            have hHU6 : HI U6 := by rw [eU6]; exact HI_w hHT5 (show 0 ≤ z66 by omega) (show z66 ≤ 2600 by omega)
                            have hFU6 : FR md_mo_askSaying S U6 := by rw [eU6]; exact FR.wI hFT5 (mdf_i (r := (904, 905, 144, 145)) (List.mem_of_getElem? (i := 3) rfl) (inR_i (by omega) (by omega) (by omega) (by omega)))
                            have w87 : Xi U6 904 144 = z66 := by rw [eU6]; exact Xi_same (by unfold rg; omega)
                            refine l_aload_n rfl rfl ?_
                            refine l_iload rfl rfl ?_
                            refine l_pfi rfl rfl rfl rfl ?_
                            obtain ⟨U7, eU7⟩ : ∃ T : sS, T = uI U6 904 146 (Int32.ofInt z73) := ⟨_, rfl⟩
                            rw [← eU7]
                            have hHU7 : HI U7 := by rw [eU7]; exact HI_w hHU6 (show 0 ≤ z73 by omega) (show z73 ≤ 2600 by omega)
                            have hFU7 : FR md_mo_askSaying S U7 := by rw [eU7]; exact FR.wI hFU6 (mdf_i (r := (904, 905, 146, 147)) (List.mem_of_getElem? (i := 4) rfl) (inR_i (by omega) (by omega) (by omega) (by omega)))
                            have w88 : Xi U7 904 146 = z73 := by rw [eU7]; exact Xi_same (by unfold rg; omega)
                            refine l_aload_n rfl rfl ?_
                            refine l_iload rfl rfl ?_
                            refine l_pfi rfl rfl rfl rfl ?_
                            obtain ⟨U8, eU8⟩ : ∃ T : sS, T = uI U7 904 147 (Int32.ofInt (Xi T2 941 ((v6).toNat))) := ⟨_, rfl⟩
                            rw [← eU8]
                            have hHU8 : HI U8 := by rw [eU8]; exact HI_w hHU7 (show 0 ≤ (Xi T2 941 ((v6).toNat)) by omega) (show (Xi T2 941 ((v6).toNat)) ≤ 5 by omega)
                            have hFU8 : FR md_mo_askSaying S U8 := by rw [eU8]; exact FR.wI hFU7 (mdf_i (r := (904, 905, 147, 148)) (List.mem_of_getElem? (i := 5) rfl) (inR_i (by omega) (by omega) (by omega) (by omega)))
                            have w89 : Xi U8 904 147 = (Xi T2 941 ((v6).toNat)) := by rw [eU8]; exact Xi_same (by unfold rg; omega)
                            refine l_iinc rfl rfl rfl rfl ?_
                            have w90 : Xi U8 904 106 = Xi T2 904 106 := (show Xi U8 904 106 = Xi U7 904 106 from by rw [eU8]; exact Xi_ne (by omega)).trans ( (show Xi U7 904 106 = Xi U6 904 106 from by rw [eU7]; exact Xi_ne (by omega)).trans ( (show Xi U6 904 106 = Xi T5 904 106 from by rw [eU6]; exact Xi_ne (by omega)).trans ( (show Xi T5 904 106 = Xi T4 904 106 from w74.x _ _ rfl).trans ((show Xi T4 904 106 = Xi T2 904 106 from w67.x _ _ rfl)))))
                            have w91 : 0 ≤ Xi T2 904 106 ∧ Xi T2 904 106 ≤ 9 := hHT2.c _ _
                            exact Rl_weak (C197 U8 hHU8 hFU8 (v2) ((v3 + 1)) (v4) (v5) (by omega) (by omega) (by omega) (by omega) (by omega) (by omega) (by omega) (by omega) (by omega) (by omega) (by omega)) (And.intro rfl (And.intro rfl (And.intro rfl (And.intro rfl (And.intro rfl (And.intro rfl (True.intro)))))))
                    · refine l_aload_n rfl rfl ?_
                      refine l_gfr rfl rfl rfl rfl rfl (hHT4.r 904 145 989 rfl) ?_
                      refine l_goto rfl rfl ?_
                      refine l_aload_n rfl rfl ?_
                      refine l_gfr rfl rfl rfl rfl rfl (hHT4.r 904 43 937 rfl) ?_
                      refine l_iload rfl rfl ?_
                      refine l_iaload (n := 6) rfl rfl (by omega) (by omega) (by unfold rg; omega) ?_
                      have w92 : 0 ≤ (Xi T4 937 (((Xi T2 941 ((v6).toNat))).toNat)) ∧ (Xi T4 937 (((Xi T2 941 ((v6).toNat))).toNat)) ≤ 15 := hHT4.c _ _
                      have w93 : Xi T4 904 106 = Xi T2 904 106 := (show Xi T4 904 106 = Xi T2 904 106 from w67.x _ _ rfl)
                      have w94 : 0 ≤ Xi T2 904 106 ∧ Xi T2 904 106 ≤ 9 := hHT2.c _ _
                      refine l_callV rfl rfl rfl (t_mo_listOf__2 hHT4 (v5 + 1) v2 (Xi T4 937 (((Xi T2 941 ((v6).toNat))).toNat)) ⟨by omega, by omega⟩ ⟨by omega, by omega⟩ ⟨by omega, by omega⟩ (by first | assumption | exact (LXM_FR hFT4 rfl (by assumption : LXM S))) (by first | assumption | exact (ABV_FR hFT4 rfl (by assumption : ABV S))) (by first | assumption | omega) _) ?_
                      rintro _ T9 ⟨hHT9, w96, z95, rfl, w95⟩
                      have hFT9 : FR md_mo_askSaying S T9 := FR.tr hFT4 w96 rfl
                      show Rl _ _ _ _ _ [iv z95] _ _
                      refine l_istore rfl rfl rfl ?_
                      refine l_iload rfl rfl ?_
                      refine l_if_le rfl rfl (by unfold rg; omega) (fun w97 => ?_) (fun w98 => ?_)
                      · have w99 : Xi T9 904 106 = Xi T2 904 106 := (show Xi T9 904 106 = Xi T4 904 106 from w96.x _ _ rfl).trans ((show Xi T4 904 106 = Xi T2 904 106 from w67.x _ _ rfl))
                        have w100 : 0 ≤ Xi T2 904 106 ∧ Xi T2 904 106 ≤ 9 := hHT2.c _ _
                        exact Rl_weak (C197 T9 hHT9 hFT9 (v2) (v3) (v4) (v5) (by omega) (by omega) (by omega) (by omega) (by omega) (by omega) (by omega) (by omega) (by omega) (by omega) (by omega)) (And.intro rfl (And.intro rfl (And.intro rfl (And.intro rfl (And.intro rfl (And.intro rfl (True.intro)))))))
                      · refine l_iload rfl rfl ?_
                        refine l_if_le rfl rfl (by unfold rg; omega) (fun w101 => ?_) (fun w102 => ?_)
                        · have w103 : Xi T9 904 106 = Xi T2 904 106 := (show Xi T9 904 106 = Xi T4 904 106 from w96.x _ _ rfl).trans ((show Xi T4 904 106 = Xi T2 904 106 from w67.x _ _ rfl))
                          have w104 : 0 ≤ Xi T2 904 106 ∧ Xi T2 904 106 ≤ 9 := hHT2.c _ _
                          exact Rl_weak (C197 T9 hHT9 hFT9 (v2) (v3) (v4) (v5) (by omega) (by omega) (by omega) (by omega) (by omega) (by omega) (by omega) (by omega) (by omega) (by omega) (by omega)) (And.intro rfl (And.intro rfl (And.intro rfl (And.intro rfl (And.intro rfl (And.intro rfl (True.intro)))))))
                        · refine l_iload_n rfl rfl ?_
                          refine l_if_ne rfl rfl (by unfold rg; omega) (fun w105 => ?_) (fun w106 => ?_)
                          · refine l_iinc rfl rfl rfl rfl ?_
                            have w107 : Xi T9 904 106 = Xi T2 904 106 := (show Xi T9 904 106 = Xi T4 904 106 from w96.x _ _ rfl).trans ((show Xi T4 904 106 = Xi T2 904 106 from w67.x _ _ rfl))
                            have w108 : 0 ≤ Xi T2 904 106 ∧ Xi T2 904 106 ≤ 9 := hHT2.c _ _
                            exact Rl_weak (C197 T9 hHT9 hFT9 (v2) ((v3 + 1)) (v4) (v5) (by omega) (by omega) (by omega) (by omega) (by omega) (by omega) (by omega) (by omega) (by omega) (by omega) (by omega)) (And.intro rfl (And.intro rfl (And.intro rfl (And.intro rfl (And.intro rfl (And.intro rfl (True.intro)))))))
                          · refine l_aload_n rfl rfl ?_
                            refine l_iload rfl rfl ?_
                            refine l_pfi rfl rfl rfl rfl ?_
                            obtain ⟨U10, eU10⟩ : ∃ T : sS, T = uI T9 904 144 (Int32.ofInt z66) := ⟨_, rfl⟩
                            rw [← eU10]
                            have hHU10 : HI U10 := by rw [eU10]; exact HI_w hHT9 (show 0 ≤ z66 by omega) (show z66 ≤ 2600 by omega)
                            have hFU10 : FR md_mo_askSaying S U10 := by rw [eU10]; exact FR.wI hFT9 (mdf_i (r := (904, 905, 144, 145)) (List.mem_of_getElem? (i := 3) rfl) (inR_i (by omega) (by omega) (by omega) (by omega)))
                            have w109 : Xi U10 904 144 = z66 := by rw [eU10]; exact Xi_same (by unfold rg; omega)
                            refine l_aload_n rfl rfl ?_
                            refine l_iload rfl rfl ?_
                            refine l_pfi rfl rfl rfl rfl ?_
                            obtain ⟨U11, eU11⟩ : ∃ T : sS, T = uI U10 904 146 (Int32.ofInt z95) := ⟨_, rfl⟩
                            rw [← eU11]
                            have hHU11 : HI U11 := by rw [eU11]; exact HI_w hHU10 (show 0 ≤ z95 by omega) (show z95 ≤ 2600 by omega)
                            have hFU11 : FR md_mo_askSaying S U11 := by rw [eU11]; exact FR.wI hFU10 (mdf_i (r := (904, 905, 146, 147)) (List.mem_of_getElem? (i := 4) rfl) (inR_i (by omega) (by omega) (by omega) (by omega)))
                            have w110 : Xi U11 904 146 = z95 := by rw [eU11]; exact Xi_same (by unfold rg; omega)
                            refine l_aload_n rfl rfl ?_
                            refine l_iload rfl rfl ?_
                            refine l_pfi rfl rfl rfl rfl ?_
                            obtain ⟨U12, eU12⟩ : ∃ T : sS, T = uI U11 904 147 (Int32.ofInt (Xi T2 941 ((v6).toNat))) := ⟨_, rfl⟩
                            rw [← eU12]
                            have hHU12 : HI U12 := by rw [eU12]; exact HI_w hHU11 (show 0 ≤ (Xi T2 941 ((v6).toNat)) by omega) (show (Xi T2 941 ((v6).toNat)) ≤ 5 by omega)
                            have hFU12 : FR md_mo_askSaying S U12 := by rw [eU12]; exact FR.wI hFU11 (mdf_i (r := (904, 905, 147, 148)) (List.mem_of_getElem? (i := 5) rfl) (inR_i (by omega) (by omega) (by omega) (by omega)))
                            have w111 : Xi U12 904 147 = (Xi T2 941 ((v6).toNat)) := by rw [eU12]; exact Xi_same (by unfold rg; omega)
                            refine l_iinc rfl rfl rfl rfl ?_
                            have w112 : Xi U12 904 106 = Xi T2 904 106 := (show Xi U12 904 106 = Xi U11 904 106 from by rw [eU12]; exact Xi_ne (by omega)).trans ( (show Xi U11 904 106 = Xi U10 904 106 from by rw [eU11]; exact Xi_ne (by omega)).trans ( (show Xi U10 904 106 = Xi T9 904 106 from by rw [eU10]; exact Xi_ne (by omega)).trans ( (show Xi T9 904 106 = Xi T4 904 106 from w96.x _ _ rfl).trans ((show Xi T4 904 106 = Xi T2 904 106 from w67.x _ _ rfl)))))
                            have w113 : 0 ≤ Xi T2 904 106 ∧ Xi T2 904 106 ≤ 9 := hHT2.c _ _
                            exact Rl_weak (C197 U12 hHU12 hFU12 (v2) ((v3 + 1)) (v4) (v5) (by omega) (by omega) (by omega) (by omega) (by omega) (by omega) (by omega) (by omega) (by omega) (by omega) (by omega)) (And.intro rfl (And.intro rfl (And.intro rfl (And.intro rfl (And.intro rfl (And.intro rfl (True.intro)))))))
                  · refine l_aload_n rfl rfl ?_
                    refine l_gfr rfl rfl rfl rfl rfl (hHT2.r 904 143 988 rfl) ?_
                    refine l_goto rfl rfl ?_
                    refine l_aload_n rfl rfl ?_
                    refine l_gfr rfl rfl rfl rfl rfl (hHT2.r 904 42 936 rfl) ?_
                    refine l_iload rfl rfl ?_
                    refine l_iaload (n := 6) rfl rfl (by omega) (by omega) (by unfold rg; omega) ?_
                    have w114 : 0 ≤ (Xi T2 936 (((Xi T2 941 ((v6).toNat))).toNat)) ∧ (Xi T2 936 (((Xi T2 941 ((v6).toNat))).toNat)) ≤ 15 := hHT2.c _ _
                    have w115 : 0 ≤ Xi T2 904 106 ∧ Xi T2 904 106 ≤ 9 := hHT2.c _ _
                    refine l_callV rfl rfl rfl (t_mo_listOf hHT2 first v5 (Xi T2 936 (((Xi T2 941 ((v6).toNat))).toNat)) ⟨by omega, by omega⟩ ⟨by omega, by omega⟩ ⟨by omega, by omega⟩ (by first | assumption | exact (LXM_FR hFT2 rfl (by assumption : LXM S))) (by first | assumption | exact (ABV_FR hFT2 rfl (by assumption : ABV S))) (by first | assumption | omega) _) ?_
                    rintro _ T13 ⟨hHT13, w117, z116, rfl, w116⟩
                    have hFT13 : FR md_mo_askSaying S T13 := FR.tr hFT2 w117 rfl
                    show Rl _ _ _ _ _ [iv z116] _ _
                    refine l_istore rfl rfl rfl ?_
                    refine l_aload_n rfl rfl ?_
                    refine l_iload rfl rfl ?_
                    refine l_iconst rfl ?_
                    refine l_iadd rfl ?_
                    refine l_iload_n rfl rfl ?_
                    refine l_iload_n rfl rfl ?_
                    refine l_if_ne rfl rfl (by unfold rg; omega) (fun w118 => ?_) (fun w119 => ?_)
                    · refine l_aload_n rfl rfl ?_
                      refine l_gfr rfl rfl rfl rfl rfl (hHT13.r 904 148 990 rfl) ?_
                      refine l_aload_n rfl rfl ?_
                      refine l_gfr rfl rfl rfl rfl rfl (hHT13.r 904 43 937 rfl) ?_
                      refine l_iload rfl rfl ?_
                      refine l_iaload (n := 6) rfl rfl (by omega) (by omega) (by unfold rg; omega) ?_
                      have w120 : 0 ≤ (Xi T13 937 (((Xi T2 941 ((v6).toNat))).toNat)) ∧ (Xi T13 937 (((Xi T2 941 ((v6).toNat))).toNat)) ≤ 15 := hHT13.c _ _
                      have w121 : Xi T13 904 106 = Xi T2 904 106 := (show Xi T13 904 106 = Xi T2 904 106 from w117.x _ _ rfl)
                      have w122 : 0 ≤ Xi T2 904 106 ∧ Xi T2 904 106 ≤ 9 := hHT2.c _ _
                      refine l_callV rfl rfl rfl (t_mo_listOf__3 hHT13 (v5 + 1) v2 (Xi T13 937 (((Xi T2 941 ((v6).toNat))).toNat)) ⟨by omega, by omega⟩ ⟨by omega, by omega⟩ ⟨by omega, by omega⟩ (by first | assumption | exact (LXM_FR hFT13 rfl (by assumption : LXM S))) (by first | assumption | exact (ABV_FR hFT13 rfl (by assumption : ABV S))) (by first | assumption | omega) _) ?_
                      rintro _ T14 ⟨hHT14, w124, z123, rfl, w123⟩
                      have hFT14 : FR md_mo_askSaying S T14 := FR.tr hFT13 w124 rfl
                      show Rl _ _ _ _ _ [iv z123] _ _
                      refine l_istore rfl rfl rfl ?_
                      refine l_iload rfl rfl ?_
                      refine l_if_le rfl rfl (by unfold rg; omega) (fun w125 => ?_) (fun w126 => ?_)
                      · have w127 : Xi T14 904 106 = Xi T2 904 106 := (show Xi T14 904 106 = Xi T13 904 106 from w124.x _ _ rfl).trans ((show Xi T13 904 106 = Xi T2 904 106 from w117.x _ _ rfl))
                        have w128 : 0 ≤ Xi T2 904 106 ∧ Xi T2 904 106 ≤ 9 := hHT2.c _ _
                        exact Rl_weak (C197 T14 hHT14 hFT14 (v2) (v3) (v4) (v5) (by omega) (by omega) (by omega) (by omega) (by omega) (by omega) (by omega) (by omega) (by omega) (by omega) (by omega)) (And.intro rfl (And.intro rfl (And.intro rfl (And.intro rfl (And.intro rfl (And.intro rfl (True.intro)))))))
                      · refine l_iload rfl rfl ?_
                        refine l_if_le rfl rfl (by unfold rg; omega) (fun w129 => ?_) (fun w130 => ?_)
                        · have w131 : Xi T14 904 106 = Xi T2 904 106 := (show Xi T14 904 106 = Xi T13 904 106 from w124.x _ _ rfl).trans ((show Xi T13 904 106 = Xi T2 904 106 from w117.x _ _ rfl))
                          have w132 : 0 ≤ Xi T2 904 106 ∧ Xi T2 904 106 ≤ 9 := hHT2.c _ _
                          exact Rl_weak (C197 T14 hHT14 hFT14 (v2) (v3) (v4) (v5) (by omega) (by omega) (by omega) (by omega) (by omega) (by omega) (by omega) (by omega) (by omega) (by omega) (by omega)) (And.intro rfl (And.intro rfl (And.intro rfl (And.intro rfl (And.intro rfl (And.intro rfl (True.intro)))))))
                        · refine l_iload_n rfl rfl ?_
                          refine l_if_ne rfl rfl (by unfold rg; omega) (fun w133 => ?_) (fun w134 => ?_)
                          · refine l_iinc rfl rfl rfl rfl ?_
                            have w135 : Xi T14 904 106 = Xi T2 904 106 := (show Xi T14 904 106 = Xi T13 904 106 from w124.x _ _ rfl).trans ((show Xi T13 904 106 = Xi T2 904 106 from w117.x _ _ rfl))
                            have w136 : 0 ≤ Xi T2 904 106 ∧ Xi T2 904 106 ≤ 9 := hHT2.c _ _
                            exact Rl_weak (C197 T14 hHT14 hFT14 (v2) ((v3 + 1)) (v4) (v5) (by omega) (by omega) (by omega) (by omega) (by omega) (by omega) (by omega) (by omega) (by omega) (by omega) (by omega)) (And.intro rfl (And.intro rfl (And.intro rfl (And.intro rfl (And.intro rfl (And.intro rfl (True.intro)))))))
                          · refine l_aload_n rfl rfl ?_
                            refine l_iload rfl rfl ?_
                            refine l_pfi rfl rfl rfl rfl ?_
                            obtain ⟨U15, eU15⟩ : ∃ T : sS, T = uI T14 904 144 (Int32.ofInt z116) := ⟨_, rfl⟩
                            rw [← eU15]
                            have hHU15 : HI U15 := by rw [eU15]; exact HI_w hHT14 (show 0 ≤ z116 by omega) (show z116 ≤ 2600 by omega)
                            have hFU15 : FR md_mo_askSaying S U15 := by rw [eU15]; exact FR.wI hFT14 (mdf_i (r := (904, 905, 144, 145)) (List.mem_of_getElem? (i := 3) rfl) (inR_i (by omega) (by omega) (by omega) (by omega)))
                            have w137 : Xi U15 904 144 = z116 := by rw [eU15]; exact Xi_same (by unfold rg; omega)
                            refine l_aload_n rfl rfl ?_
                            refine l_iload rfl rfl ?_
                            refine l_pfi rfl rfl rfl rfl ?_
                            obtain ⟨U16, eU16⟩ : ∃ T : sS, T = uI U15 904 146 (Int32.ofInt z123) := ⟨_, rfl⟩
                            rw [← eU16]
                            have hHU16 : HI U16 := by rw [eU16]; exact HI_w hHU15 (show 0 ≤ z123 by omega) (show z123 ≤ 2600 by omega)
                            have hFU16 : FR md_mo_askSaying S U16 := by rw [eU16]; exact FR.wI hFU15 (mdf_i (r := (904, 905, 146, 147)) (List.mem_of_getElem? (i := 4) rfl) (inR_i (by omega) (by omega) (by omega) (by omega)))
                            have w138 : Xi U16 904 146 = z123 := by rw [eU16]; exact Xi_same (by unfold rg; omega)
                            refine l_aload_n rfl rfl ?_
                            refine l_iload rfl rfl ?_
                            refine l_pfi rfl rfl rfl rfl ?_
                            obtain ⟨U17, eU17⟩ : ∃ T : sS, T = uI U16 904 147 (Int32.ofInt (Xi T2 941 ((v6).toNat))) := ⟨_, rfl⟩
                            rw [← eU17]
                            have hHU17 : HI U17 := by rw [eU17]; exact HI_w hHU16 (show 0 ≤ (Xi T2 941 ((v6).toNat)) by omega) (show (Xi T2 941 ((v6).toNat)) ≤ 5 by omega)
                            have hFU17 : FR md_mo_askSaying S U17 := by rw [eU17]; exact FR.wI hFU16 (mdf_i (r := (904, 905, 147, 148)) (List.mem_of_getElem? (i := 5) rfl) (inR_i (by omega) (by omega) (by omega) (by omega)))
                            have w139 : Xi U17 904 147 = (Xi T2 941 ((v6).toNat)) := by rw [eU17]; exact Xi_same (by unfold rg; omega)
                            refine l_iinc rfl rfl rfl rfl ?_
                            have w140 : Xi U17 904 106 = Xi T2 904 106 := (show Xi U17 904 106 = Xi U16 904 106 from by rw [eU17]; exact Xi_ne (by omega)).trans ( (show Xi U16 904 106 = Xi U15 904 106 from by rw [eU16]; exact Xi_ne (by omega)).trans ( (show Xi U15 904 106 = Xi T14 904 106 from by rw [eU15]; exact Xi_ne (by omega)).trans ( (show Xi T14 904 106 = Xi T13 904 106 from w124.x _ _ rfl).trans ((show Xi T13 904 106 = Xi T2 904 106 from w117.x _ _ rfl)))))
                            have w141 : 0 ≤ Xi T2 904 106 ∧ Xi T2 904 106 ≤ 9 := hHT2.c _ _
                            exact Rl_weak (C197 U17 hHU17 hFU17 (v2) ((v3 + 1)) (v4) (v5) (by omega) (by omega) (by omega) (by omega) (by omega) (by omega) (by omega) (by omega) (by omega) (by omega) (by omega)) (And.intro rfl (And.intro rfl (And.intro rfl (And.intro rfl (And.intro rfl (And.intro rfl (True.intro)))))))
                    · refine l_aload_n rfl rfl ?_
                      refine l_gfr rfl rfl rfl rfl rfl (hHT13.r 904 145 989 rfl) ?_
                      refine l_goto rfl rfl ?_
                      refine l_aload_n rfl rfl ?_
                      refine l_gfr rfl rfl rfl rfl rfl (hHT13.r 904 43 937 rfl) ?_
                      refine l_iload rfl rfl ?_
                      refine l_iaload (n := 6) rfl rfl (by omega) (by omega) (by unfold rg; omega) ?_
                      have w142 : 0 ≤ (Xi T13 937 (((Xi T2 941 ((v6).toNat))).toNat)) ∧ (Xi T13 937 (((Xi T2 941 ((v6).toNat))).toNat)) ≤ 15 := hHT13.c _ _
                      have w143 : Xi T13 904 106 = Xi T2 904 106 := (show Xi T13 904 106 = Xi T2 904 106 from w117.x _ _ rfl)
                      have w144 : 0 ≤ Xi T2 904 106 ∧ Xi T2 904 106 ≤ 9 := hHT2.c _ _
                      refine l_callV rfl rfl rfl (t_mo_listOf__2 hHT13 (v5 + 1) v2 (Xi T13 937 (((Xi T2 941 ((v6).toNat))).toNat)) ⟨by omega, by omega⟩ ⟨by omega, by omega⟩ ⟨by omega, by omega⟩ (by first | assumption | exact (LXM_FR hFT13 rfl (by assumption : LXM S))) (by first | assumption | exact (ABV_FR hFT13 rfl (by assumption : ABV S))) (by first | assumption | omega) _) ?_
                      rintro _ T18 ⟨hHT18, w146, z145, rfl, w145⟩
                      have hFT18 : FR md_mo_askSaying S T18 := FR.tr hFT13 w146 rfl
                      show Rl _ _ _ _ _ [iv z145] _ _
                      refine l_istore rfl rfl rfl ?_
                      refine l_iload rfl rfl ?_
                      refine l_if_le rfl rfl (by unfold rg; omega) (fun w147 => ?_) (fun w148 => ?_)
                      · have w149 : Xi T18 904 106 = Xi T2 904 106 := (show Xi T18 904 106 = Xi T13 904 106 from w146.x _ _ rfl).trans ((show Xi T13 904 106 = Xi T2 904 106 from w117.x _ _ rfl))
                        have w150 : 0 ≤ Xi T2 904 106 ∧ Xi T2 904 106 ≤ 9 := hHT2.c _ _
                        exact Rl_weak (C197 T18 hHT18 hFT18 (v2) (v3) (v4) (v5) (by omega) (by omega) (by omega) (by omega) (by omega) (by omega) (by omega) (by omega) (by omega) (by omega) (by omega)) (And.intro rfl (And.intro rfl (And.intro rfl (And.intro rfl (And.intro rfl (And.intro rfl (True.intro)))))))
                      · refine l_iload rfl rfl ?_
                        refine l_if_le rfl rfl (by unfold rg; omega) (fun w151 => ?_) (fun w152 => ?_)
                        · have w153 : Xi T18 904 106 = Xi T2 904 106 := (show Xi T18 904 106 = Xi T13 904 106 from w146.x _ _ rfl).trans ((show Xi T13 904 106 = Xi T2 904 106 from w117.x _ _ rfl))
                          have w154 : 0 ≤ Xi T2 904 106 ∧ Xi T2 904 106 ≤ 9 := hHT2.c _ _
                          exact Rl_weak (C197 T18 hHT18 hFT18 (v2) (v3) (v4) (v5) (by omega) (by omega) (by omega) (by omega) (by omega) (by omega) (by omega) (by omega) (by omega) (by omega) (by omega)) (And.intro rfl (And.intro rfl (And.intro rfl (And.intro rfl (And.intro rfl (And.intro rfl (True.intro)))))))
                        · refine l_iload_n rfl rfl ?_
                          refine l_if_ne rfl rfl (by unfold rg; omega) (fun w155 => ?_) (fun w156 => ?_)
                          · refine l_iinc rfl rfl rfl rfl ?_
                            have w157 : Xi T18 904 106 = Xi T2 904 106 := (show Xi T18 904 106 = Xi T13 904 106 from w146.x _ _ rfl).trans ((show Xi T13 904 106 = Xi T2 904 106 from w117.x _ _ rfl))
                            have w158 : 0 ≤ Xi T2 904 106 ∧ Xi T2 904 106 ≤ 9 := hHT2.c _ _
                            exact Rl_weak (C197 T18 hHT18 hFT18 (v2) ((v3 + 1)) (v4) (v5) (by omega) (by omega) (by omega) (by omega) (by omega) (by omega) (by omega) (by omega) (by omega) (by omega) (by omega)) (And.intro rfl (And.intro rfl (And.intro rfl (And.intro rfl (And.intro rfl (And.intro rfl (True.intro)))))))
                          · refine l_aload_n rfl rfl ?_
                            refine l_iload rfl rfl ?_
                            refine l_pfi rfl rfl rfl rfl ?_
                            obtain ⟨U19, eU19⟩ : ∃ T : sS, T = uI T18 904 144 (Int32.ofInt z116) := ⟨_, rfl⟩
                            rw [← eU19]
                            have hHU19 : HI U19 := by rw [eU19]; exact HI_w hHT18 (show 0 ≤ z116 by omega) (show z116 ≤ 2600 by omega)
                            have hFU19 : FR md_mo_askSaying S U19 := by rw [eU19]; exact FR.wI hFT18 (mdf_i (r := (904, 905, 144, 145)) (List.mem_of_getElem? (i := 3) rfl) (inR_i (by omega) (by omega) (by omega) (by omega)))
                            have w159 : Xi U19 904 144 = z116 := by rw [eU19]; exact Xi_same (by unfold rg; omega)
                            refine l_aload_n rfl rfl ?_
                            refine l_iload rfl rfl ?_
                            refine l_pfi rfl rfl rfl rfl ?_
                            obtain ⟨U20, eU20⟩ : ∃ T : sS, T = uI U19 904 146 (Int32.ofInt z145) := ⟨_, rfl⟩
                            rw [← eU20]
                            have hHU20 : HI U20 := by rw [eU20]; exact HI_w hHU19 (show 0 ≤ z145 by omega) (show z145 ≤ 2600 by omega)
                            have hFU20 : FR md_mo_askSaying S U20 := by rw [eU20]; exact FR.wI hFU19 (mdf_i (r := (904, 905, 146, 147)) (List.mem_of_getElem? (i := 4) rfl) (inR_i (by omega) (by omega) (by omega) (by omega)))
                            have w160 : Xi U20 904 146 = z145 := by rw [eU20]; exact Xi_same (by unfold rg; omega)
                            refine l_aload_n rfl rfl ?_
                            refine l_iload rfl rfl ?_
                            refine l_pfi rfl rfl rfl rfl ?_
                            obtain ⟨U21, eU21⟩ : ∃ T : sS, T = uI U20 904 147 (Int32.ofInt (Xi T2 941 ((v6).toNat))) := ⟨_, rfl⟩
                            rw [← eU21]
                            have hHU21 : HI U21 := by rw [eU21]; exact HI_w hHU20 (show 0 ≤ (Xi T2 941 ((v6).toNat)) by omega) (show (Xi T2 941 ((v6).toNat)) ≤ 5 by omega)
                            have hFU21 : FR md_mo_askSaying S U21 := by rw [eU21]; exact FR.wI hFU20 (mdf_i (r := (904, 905, 147, 148)) (List.mem_of_getElem? (i := 5) rfl) (inR_i (by omega) (by omega) (by omega) (by omega)))
                            have w161 : Xi U21 904 147 = (Xi T2 941 ((v6).toNat)) := by rw [eU21]; exact Xi_same (by unfold rg; omega)
                            refine l_iinc rfl rfl rfl rfl ?_
                            have w162 : Xi U21 904 106 = Xi T2 904 106 := (show Xi U21 904 106 = Xi U20 904 106 from by rw [eU21]; exact Xi_ne (by omega)).trans ( (show Xi U20 904 106 = Xi U19 904 106 from by rw [eU20]; exact Xi_ne (by omega)).trans ( (show Xi U19 904 106 = Xi T18 904 106 from by rw [eU19]; exact Xi_ne (by omega)).trans ( (show Xi T18 904 106 = Xi T13 904 106 from w146.x _ _ rfl).trans ((show Xi T13 904 106 = Xi T2 904 106 from w117.x _ _ rfl)))))
                            have w163 : 0 ≤ Xi T2 904 106 ∧ Xi T2 904 106 ≤ 9 := hHT2.c _ _
                            exact Rl_weak (C197 U21 hHU21 hFU21 (v2) ((v3 + 1)) (v4) (v5) (by omega) (by omega) (by omega) (by omega) (by omega) (by omega) (by omega) (by omega) (by omega) (by omega) (by omega)) (And.intro rfl (And.intro rfl (And.intro rfl (And.intro rfl (And.intro rfl (And.intro rfl (True.intro)))))))
          refine l_iload rfl rfl ?_
          refine l_iload_n rfl rfl ?_
          refine l_icmp_ge rfl rfl (by unfold rg; omega) (by unfold rg; omega) (fun w164 => ?_) (fun w165 => ?_)
          · refine l_aload_n rfl rfl ?_
            refine l_iload_n rfl rfl ?_
            refine l_if_le rfl rfl (by unfold rg; omega) (fun w166 => ?_) (fun w167 => ?_)
            · refine l_iconst rfl ?_
              refine l_iconst rfl ?_
              refine l_iload_n rfl rfl ?_
              have w168 : 0 ≤ Xi T1 904 106 ∧ Xi T1 904 106 ≤ 9 := hHT1.c _ _
              refine l_callV rfl rfl rfl (t_mo_need hHT1 0 4 first ⟨by omega, by omega⟩ ⟨by omega, by omega⟩ ⟨by omega, by omega⟩ _) ?_
              rintro _ T22 ⟨hHT22, w172, rfl, w169, w170⟩
              have hFT22 : FR md_mo_askSaying S T22 := FR.tr hFT1 w172 rfl
              show Rl _ _ _ _ _ [] _ _
              refine l_aload_n rfl rfl ?_
              refine l_iload_n rfl rfl ?_
              refine l_iconst rfl ?_
              refine l_icmp_ge rfl rfl (by unfold rg; omega) (by unfold rg; omega) (fun w173 => ?_) (fun w174 => ?_)
              · refine l_iconst rfl ?_
                refine l_bipush rfl rfl ?_
                refine l_iload_n rfl rfl ?_
                have w175 : 0 ≤ Xi T22 904 106 ∧ Xi T22 904 106 ≤ 9 := hHT22.c _ _
                refine l_callV rfl rfl rfl (t_mo_need hHT22 0 7 first ⟨by omega, by omega⟩ ⟨by omega, by omega⟩ ⟨by omega, by omega⟩ _) ?_
                rintro _ T23 ⟨hHT23, w179, rfl, w176, w177⟩
                have hFT23 : FR md_mo_askSaying S T23 := FR.tr hFT22 w179 rfl
                show Rl _ _ _ _ _ [] _ _
                refine l_return rfl rfl ?_
                have w180 : 0 ≤ Xi T23 904 106 ∧ Xi T23 904 106 ≤ 9 := hHT23.c _ _
                exact ⟨hHT23, hFT23, rfl, (by first | assumption | omega)⟩
              · refine l_iconst rfl ?_
                refine l_goto rfl rfl ?_
                refine l_bipush rfl rfl ?_
                refine l_iload_n rfl rfl ?_
                have w181 : 0 ≤ Xi T22 904 106 ∧ Xi T22 904 106 ≤ 9 := hHT22.c _ _
                refine l_callV rfl rfl rfl (t_mo_need hHT22 1 7 first ⟨by omega, by omega⟩ ⟨by omega, by omega⟩ ⟨by omega, by omega⟩ _) ?_
                rintro _ T24 ⟨hHT24, w185, rfl, w182, w183⟩
                have hFT24 : FR md_mo_askSaying S T24 := FR.tr hFT22 w185 rfl
                show Rl _ _ _ _ _ [] _ _
                refine l_return rfl rfl ?_
                have w186 : 0 ≤ Xi T24 904 106 ∧ Xi T24 904 106 ≤ 9 := hHT24.c _ _
                exact ⟨hHT24, hFT24, rfl, (by first | assumption | omega)⟩
            · refine l_iconst rfl ?_
              refine l_goto rfl rfl ?_
              refine l_iconst rfl ?_
              refine l_iload_n rfl rfl ?_
              have w187 : 0 ≤ Xi T1 904 106 ∧ Xi T1 904 106 ≤ 9 := hHT1.c _ _
              refine l_callV rfl rfl rfl (t_mo_need hHT1 1 4 first ⟨by omega, by omega⟩ ⟨by omega, by omega⟩ ⟨by omega, by omega⟩ _) ?_
              rintro _ T25 ⟨hHT25, w191, rfl, w188, w189⟩
              have hFT25 : FR md_mo_askSaying S T25 := FR.tr hFT1 w191 rfl
              show Rl _ _ _ _ _ [] _ _
              refine l_aload_n rfl rfl ?_
              refine l_iload_n rfl rfl ?_
              refine l_iconst rfl ?_
              refine l_icmp_ge rfl rfl (by unfold rg; omega) (by unfold rg; omega) (fun w192 => ?_) (fun w193 => ?_)
              · refine l_iconst rfl ?_
                refine l_bipush rfl rfl ?_
                refine l_iload_n rfl rfl ?_
                have w194 : 0 ≤ Xi T25 904 106 ∧ Xi T25 904 106 ≤ 9 := hHT25.c _ _
                refine l_callV rfl rfl rfl (t_mo_need hHT25 0 7 first ⟨by omega, by omega⟩ ⟨by omega, by omega⟩ ⟨by omega, by omega⟩ _) ?_
                rintro _ T26 ⟨hHT26, w198, rfl, w195, w196⟩
                have hFT26 : FR md_mo_askSaying S T26 := FR.tr hFT25 w198 rfl
                show Rl _ _ _ _ _ [] _ _
                refine l_return rfl rfl ?_
                have w199 : 0 ≤ Xi T26 904 106 ∧ Xi T26 904 106 ≤ 9 := hHT26.c _ _
                exact ⟨hHT26, hFT26, rfl, (by first | assumption | omega)⟩
              · refine l_iconst rfl ?_
                refine l_goto rfl rfl ?_
                refine l_bipush rfl rfl ?_
                refine l_iload_n rfl rfl ?_
                have w200 : 0 ≤ Xi T25 904 106 ∧ Xi T25 904 106 ≤ 9 := hHT25.c _ _
                refine l_callV rfl rfl rfl (t_mo_need hHT25 1 7 first ⟨by omega, by omega⟩ ⟨by omega, by omega⟩ ⟨by omega, by omega⟩ _) ?_
                rintro _ T27 ⟨hHT27, w204, rfl, w201, w202⟩
                have hFT27 : FR md_mo_askSaying S T27 := FR.tr hFT25 w204 rfl
                show Rl _ _ _ _ _ [] _ _
                refine l_return rfl rfl ?_
                have w205 : 0 ≤ Xi T27 904 106 ∧ Xi T27 904 106 ≤ 9 := hHT27.c _ _
                exact ⟨hHT27, hFT27, rfl, (by first | assumption | omega)⟩
          · refine l_aload_n rfl rfl ?_
            refine l_gfr rfl rfl rfl rfl rfl (hHT1.r 904 4 907 rfl) ?_
            refine l_iload rfl rfl ?_
            refine l_iaload (n := 5002) rfl rfl (by omega) (by omega) (by unfold rg; omega) ?_
            have w206 : 0 ≤ (Xi T1 907 ((v5).toNat)) ∧ (Xi T1 907 ((v5).toNat)) ≤ 154 := hHT1.c _ _
            refine l_iconst rfl ?_
            refine l_icmp_ne rfl rfl (by unfold rg; omega) (by unfold rg; omega) (fun w207 => ?_) (fun w208 => ?_)
            · refine l_iconst rfl ?_
              refine l_istore rfl rfl rfl ?_
              have w209 : 0 ≤ Xi T1 904 106 ∧ Xi T1 904 106 ≤ 9 := hHT1.c _ _
              exact Rl_weak (C69 T1 hHT1 hFT1 (v2) (v3) (v4) (v5) ((-1)) (by omega) (by omega) (by omega) (by omega) (by omega) (by omega) (by omega) (by omega) (by omega) (by omega) (by omega) (by omega)) (And.intro rfl (And.intro rfl (And.intro rfl (And.intro rfl (And.intro rfl (And.intro rfl (And.intro rfl (True.intro))))))))
            · refine l_aload_n rfl rfl ?_
              refine l_iload rfl rfl ?_
              refine l_iconst rfl ?_
              refine l_iload rfl rfl ?_
              refine l_if_eq rfl rfl (by unfold rg; omega) (fun w210 => ?_) (fun w211 => ?_)
              · refine l_bipush rfl rfl ?_
                have w212 : 0 ≤ Xi T1 904 106 ∧ Xi T1 904 106 ≤ 9 := hHT1.c _ _
                refine l_callV rfl rfl rfl (t_mo_means hHT1 v5 1 9 ⟨by omega, by omega⟩ ⟨by omega, by omega⟩ ⟨by omega, by omega⟩ (by first | assumption | omega) (by first | assumption | exact (LXM_FR hFT1 rfl (by assumption : LXM S))) _) ?_
                rintro _ _ ⟨rfl, z214, rfl, w214, w213⟩
                show Rl _ _ _ _ _ [iv z214] _ _
                have c60 : 0 ≤ Xi T1 904 47 ∧ Xi T1 904 47 ≤ 8 := hHT1.c _ _
                have x60 : z214 ≠ -1 → z214 < 8 := fun q => by have t := (by assumption : z214 ≠ -1 → z214 < cM T1 _) q; first | (rw [cM9] at t; omega) | (rw [cM10] at t; omega)
                refine l_goto rfl rfl ?_
                refine l_istore rfl rfl rfl ?_
                have w215 : 0 ≤ Xi T1 904 106 ∧ Xi T1 904 106 ≤ 9 := hHT1.c _ _
                exact Rl_weak (C69 T1 hHT1 hFT1 (v2) (v3) (v4) (v5) (z214) (by omega) (by omega) (by omega) (by omega) (by omega) (by omega) (by omega) (by omega) (by omega) (by omega) (by omega) (by omega)) (And.intro rfl (And.intro rfl (And.intro rfl (And.intro rfl (And.intro rfl (And.intro rfl (And.intro rfl (True.intro))))))))
              · refine l_bipush rfl rfl ?_
                refine l_goto rfl rfl ?_
                have w216 : 0 ≤ Xi T1 904 106 ∧ Xi T1 904 106 ≤ 9 := hHT1.c _ _
                refine l_callV rfl rfl rfl (t_mo_means hHT1 v5 1 10 ⟨by omega, by omega⟩ ⟨by omega, by omega⟩ ⟨by omega, by omega⟩ (by first | assumption | omega) (by first | assumption | exact (LXM_FR hFT1 rfl (by assumption : LXM S))) _) ?_
                rintro _ _ ⟨rfl, z218, rfl, w218, w217⟩
                show Rl _ _ _ _ _ [iv z218] _ _
                have c60 : 0 ≤ Xi T1 904 47 ∧ Xi T1 904 47 ≤ 8 := hHT1.c _ _
                have x60 : z218 ≠ -1 → z218 < 8 := fun q => by have t := (by assumption : z218 ≠ -1 → z218 < cM T1 _) q; first | (rw [cM9] at t; omega) | (rw [cM10] at t; omega)
                refine l_goto rfl rfl ?_
                refine l_istore rfl rfl rfl ?_
                have w219 : 0 ≤ Xi T1 904 106 ∧ Xi T1 904 106 ≤ 9 := hHT1.c _ _
                exact Rl_weak (C69 T1 hHT1 hFT1 (v2) (v3) (v4) (v5) (z218) (by omega) (by omega) (by omega) (by omega) (by omega) (by omega) (by omega) (by omega) (by omega) (by omega) (by omega) (by omega)) (And.intro rfl (And.intro rfl (And.intro rfl (And.intro rfl (And.intro rfl (And.intro rfl (And.intro rfl (True.intro))))))))
      refine l_aload_n rfl rfl ?_
      refine l_gfr rfl rfl rfl rfl rfl (hH.r 904 4 907 rfl) ?_
      refine l_iload_n rfl rfl ?_
      refine l_iaload (n := 5002) rfl rfl (by omega) (by omega) (by unfold rg; omega) ?_
      have w220 : 0 ≤ (Xi S 907 ((v2).toNat)) ∧ (Xi S 907 ((v2).toNat)) ≤ 154 := hH.c _ _
      have d7 : v2 = dd → (Xi S 907 ((v2).toNat)) = 46 := fun q => by rw [show (v2).toNat = dd by omega]; exact hd.2.2
      refine l_bipush rfl rfl ?_
      refine l_icmp_eq rfl rfl (by unfold rg; omega) (by unfold rg; omega) (fun w221 => ?_) (fun w222 => ?_)
      · refine l_iconst rfl ?_
        refine l_istore_n rfl rfl rfl ?_
        refine l_iconst rfl ?_
        refine l_istore rfl rfl rfl ?_
        refine l_iload_n rfl rfl ?_
        refine l_istore rfl rfl rfl ?_
        have w223 : 0 ≤ Xi S 904 106 ∧ Xi S 904 106 ≤ 9 := hH.c _ _
        exact Rl_weak (C27 _ S hH hF (v2) (0) (1) (first) (by omega) (by omega) (by omega) (by omega) (by omega) (by omega) (by omega) (by omega) (by omega) (by omega) rfl) (And.intro rfl (And.intro rfl (And.intro rfl (And.intro rfl (And.intro rfl (And.intro rfl (True.intro)))))))
      · refine l_iinc rfl rfl rfl rfl ?_
        refine l_goto rfl rfl ?_
        have w224 : 0 ≤ Xi S 904 106 ∧ Xi S 904 106 ≤ 9 := hH.c _ _
        exact Rl_weak (ih2 _ (by omega) ((v2 + 1)) (by omega) (by omega) (by omega) rfl) (And.intro rfl (And.intro rfl (And.intro rfl (True.intro))))
  refine l_iload_n rfl rfl ?_
  refine l_istore_n rfl rfl rfl ?_
  have w225 : 0 ≤ Xi S 904 106 ∧ Xi S 904 106 ≤ 9 := hH.c _ _
  exact Rl_weak (C2 _ (first) (by omega) (by omega) (by omega) rfl) (And.intro rfl (And.intro rfl (And.intro rfl (True.intro))))
/-- other entries than q stay -/
def KQ (T S : sS) (q : Int) : Prop := ∀ i : Nat, (i : Int) ≠ q → ∀ k : Nat, 969 ≤ k → k ≤ 975 → Xi T k i = Xi S k i
theorem KQ.rf {S : sS} {q : Int} : KQ S S q := fun _ _ _ _ _ => rfl
theorem KQ.w {T U S : sS} {q : Int} {k j : Nat} {v : Int32} (h : KQ T S q) (e : U = uI T k j v) (hj : (k < 969 ∨ 975 < k) ∨ (j : Int) = q) : KQ U S q := fun i hi k2 a b => by
  rw [e, Xi_ne (by omega)]
  exact h i hi k2 a b
theorem KQ.tr {S T U : sS} {q : Int} (h : KQ T S q) (g : KQ U T q) : KQ U S q := fun i hi k a b => (g i hi k a b).trans (h i hi k a b)
theorem kdis_q {l : List rec} {S T : sS} (f : FR l S T) (e : kdis l [(969, 976)] = true) (k : Nat) (a : 969 ≤ k) (b : k ≤ 975) (i : Nat) : Xi T k i = Xi S k i := by
  have q := f.smk e
  rcases (by omega : k = 969 ∨ k = 970 ∨ k = 971 ∨ k = 972 ∨ k = 973 ∨ k = 974 ∨ k = 975) with h | h | h | h | h | h | h <;> subst h <;> exact q.x _ rfl i
theorem KQ_FR {l : List rec} {T U S : sS} {q : Int} (f : FR l T U) (e : kdis l [(969, 976)] = true) (h : KQ T S q) : KQ U S q := fun i hi k a b => (kdis_q f e k a b i).trans (h i hi k a b)
/-- values are of the types that were told -/
def VTM (S : sS) : Prop := ∀ v : Nat, (v : Int) < Xi S 904 30 → 2 ≤ Xi S 927 v
theorem VTM_FR {l : List rec} {S T : sS} (h : FR l S T) (e : (kdis l [(927, 928)] && mD l [30]) = true) (hv : VTM S) : VTM T := by
  rw [Bool.and_eq_true] at e
  have k := h.smk e.1
  unfold VTM
  rw [mD_x h e.2 30 (by decide)]
  simp only [k.x 927 rfl]
  exact hv
def md_mo_whatMeant : List rec := [(904, 905, 104, 105), (904, 905, 105, 106), (904, 905, 106, 107), (973, 974, 0, 100000), (974, 975, 0, 100000)]
abbrev Q_mo_whatMeant (S : sS) (n : Nat) (t : Int) (rr : Int) (type : Int) (q : Int) : pst := fun r S1 => HI S1 ∧ FR md_mo_whatMeant S S1 ∧ (r = none ∧ (Xi S 904 106 ≠ 0 → Xi S1 904 106 ≠ 0) ∧ (OKT (Xi S1 973 q.toNat) (Xi S1 974 q.toNat)) ∧ (KQ S1 S q))
set_option maxRecDepth 100000 in
theorem t_mo_whatMeant {S : sS} (hH : HI S) (n : Nat) (t : Int) (rr : Int) (type : Int) (q : Int) (ht : 0 ≤ t ∧ t ≤ 5001) (hrr : -1 ≤ rr ∧ rr ≤ 2600) (htype : 0 ≤ type ∧ type ≤ 7) (hq : 0 ≤ q ∧ q ≤ 2399) (hT : TK S n) (hv : RNV S n) (hM : LXM S) (hK : TXK S n) (ht : t ≤ n) (hr : Xi S 907 t.toNat ≠ 4 → Xi S 907 t.toNat ≠ 5 → 0 ≤ rr ∧ rr < Xi S 904 69) (d : Nat) : Mt lay0 (d + 5) m_mo_whatMeant [.ref 904, iv t, iv rr, iv type, iv q] S (Q_mo_whatMeant S n t rr type q) := by
  refine Mt_R rfl rfl ?_
  have hF : FR md_mo_whatMeant S S := FR.rf
  have w1 : 0 ≤ Xi S 904 106 ∧ Xi S 904 106 ≤ 9 := hH.c _ _
  have w2 : 0 ≤ Xi S 904 69 ∧ Xi S 904 69 ≤ 2600 := hH.c _ _
  have hn5 := hT.1
  have hc69 : 0 ≤ Xi S 904 69 ∧ Xi S 904 69 ≤ 2600 := hH.c _ _
  have t5 : Xi S 907 t.toNat = 5 → t < n := fun q => tk_lt hT (by omega) ht (by omega)
  have hc30 : 0 ≤ Xi S 904 30 ∧ Xi S 904 30 ≤ 64 := hH.c _ _
  refine l_aload_n rfl rfl ?_
  refine l_gfr rfl rfl rfl rfl rfl (hH.r 904 4 907 rfl) ?_
  refine l_iload_n rfl rfl ?_
  refine l_iaload (n := 5002) rfl rfl (by omega) (by omega) (by unfold rg; omega) ?_
  have w3 : 0 ≤ (Xi S 907 ((t).toNat)) ∧ (Xi S 907 ((t).toNat)) ≤ 154 := hH.c _ _
  refine l_istore rfl rfl rfl ?_
  refine l_aload_n rfl rfl ?_
  refine l_gfr rfl rfl rfl rfl rfl (hH.r 904 122 973 rfl) ?_
  refine l_iload rfl rfl ?_
  refine l_iconst rfl ?_
  refine l_iastore (n := 2400) rfl rfl (by omega) (by omega) (by unfold rg; omega) ?_
  obtain ⟨U1, eU1⟩ : ∃ T : sS, T = uI S 973 ((q).toNat) (Int32.ofInt 0) := ⟨_, rfl⟩
  rw [← eU1]
  have hHU1 : HI U1 := by rw [eU1]; exact HI_any hH (rfl)
  have hFU1 : FR md_mo_whatMeant S U1 := by rw [eU1]; exact FR.wI hF (mdf_i (r := (973, 974, 0, 100000)) (List.mem_of_getElem? (i := 3) rfl) (inR_i (by omega) (by omega) (by omega) (by omega)))
  have w4 : Xi U1 973 ((q).toNat) = 0 := by rw [eU1]; exact Xi_same (by unfold rg; omega)
  have k15 : KQ U1 S q := KQ.w KQ.rf eU1 (by omega)
  refine l_aload_n rfl rfl ?_
  refine l_gfr rfl rfl rfl rfl rfl (hHU1.r 904 123 974 rfl) ?_
  refine l_iload rfl rfl ?_
  refine l_iconst rfl ?_
  refine l_iastore (n := 2400) rfl rfl (by omega) (by omega) (by unfold rg; omega) ?_
  obtain ⟨U2, eU2⟩ : ∃ T : sS, T = uI U1 974 ((q).toNat) (Int32.ofInt 0) := ⟨_, rfl⟩
  rw [← eU2]
  have hHU2 : HI U2 := by rw [eU2]; exact HI_any hHU1 (rfl)
  have hFU2 : FR md_mo_whatMeant S U2 := by rw [eU2]; exact FR.wI hFU1 (mdf_i (r := (974, 975, 0, 100000)) (List.mem_of_getElem? (i := 4) rfl) (inR_i (by omega) (by omega) (by omega) (by omega)))
  have w5 : Xi U2 974 ((q).toNat) = 0 := by rw [eU2]; exact Xi_same (by unfold rg; omega)
  have k23 : KQ U2 S q := KQ.w k15 eU2 (by omega)
  have n23 : Xi U2 974 (q).toNat = 0 := by assumption
  refine l_iload rfl rfl ?_
  refine l_iconst rfl ?_
  refine l_icmp_ne rfl rfl (by unfold rg; omega) (by unfold rg; omega) (fun w6 => ?_) (fun w7 => ?_)
  · refine l_iload rfl rfl ?_
    refine l_iconst rfl ?_
    refine l_icmp_ne rfl rfl (by unfold rg; omega) (by unfold rg; omega) (fun w8 => ?_) (fun w9 => ?_)
    · refine l_aload_n rfl rfl ?_
      refine l_iload_n rfl rfl ?_
      refine l_bipush rfl rfl ?_
      have w10 : Xi U2 904 106 = Xi S 904 106 := (show Xi U2 904 106 = Xi U1 904 106 from by rw [eU2]; exact Xi_ne (by omega)).trans ((show Xi U1 904 106 = Xi S 904 106 from by rw [eU1]; exact Xi_ne (by omega)))
      have w11 : 0 ≤ Xi S 904 106 ∧ Xi S 904 106 ≤ 9 := hH.c _ _
      have w12 : Xi U2 904 108 = Xi S 904 108 := (show Xi U2 904 108 = Xi U1 904 108 from by rw [eU2]; exact Xi_ne (by omega)).trans ((show Xi U1 904 108 = Xi S 904 108 from by rw [eU1]; exact Xi_ne (by omega)))
      have w13 : 0 ≤ Xi S 904 108 ∧ Xi S 904 108 ≤ 2600 := hH.c _ _
      have w14 : Xi U2 904 69 = Xi S 904 69 := (show Xi U2 904 69 = Xi U1 904 69 from by rw [eU2]; exact Xi_ne (by omega)).trans ((show Xi U1 904 69 = Xi S 904 69 from by rw [eU1]; exact Xi_ne (by omega)))
      have w15 : 0 ≤ Xi S 904 69 ∧ Xi S 904 69 ≤ 2600 := hH.c _ _
      refine l_callV rfl rfl rfl (t_mo_meansRun__2 hHU2 n rr 6 ⟨by omega, by omega⟩ ⟨by omega, by omega⟩ (by first | assumption | exact (TK_FR hFU2 rfl (by assumption : TK S _))) (by first | assumption | exact (RNV_FR hFU2 rfl (by assumption : RNV S _))) (by first | assumption | omega) (by first | assumption | exact (LXM_FR hFU2 rfl (by assumption : LXM S))) _) ?_
      rintro _ _ ⟨rfl, z18, rfl, w18, w16, w17⟩
      show Rl _ _ _ _ _ [iv z18] _ _
      have x119 : z18 ≠ -1 → z18 < Xi S 904 30 := fun q => by have t := (by assumption : z18 ≠ -1 → z18 < cM S 6) q; rw [cM6] at t; exact t
      refine l_istore rfl rfl rfl ?_
      refine l_aload_n rfl rfl ?_
      refine l_iload rfl rfl ?_
      refine l_iconst rfl ?_
      refine l_icmp_eq rfl rfl (by unfold rg; omega) (by unfold rg; omega) (fun w19 => ?_) (fun w20 => ?_)
      · refine l_iconst rfl ?_
        refine l_iconst rfl ?_
        refine l_iload_n rfl rfl ?_
        have w21 : Xi U2 904 106 = Xi S 904 106 := (show Xi U2 904 106 = Xi U1 904 106 from by rw [eU2]; exact Xi_ne (by omega)).trans ((show Xi U1 904 106 = Xi S 904 106 from by rw [eU1]; exact Xi_ne (by omega)))
        have w22 : 0 ≤ Xi S 904 106 ∧ Xi S 904 106 ≤ 9 := hH.c _ _
        have w23 : Xi U2 904 108 = Xi S 904 108 := (show Xi U2 904 108 = Xi U1 904 108 from by rw [eU2]; exact Xi_ne (by omega)).trans ((show Xi U1 904 108 = Xi S 904 108 from by rw [eU1]; exact Xi_ne (by omega)))
        have w24 : 0 ≤ Xi S 904 108 ∧ Xi S 904 108 ≤ 2600 := hH.c _ _
        have w25 : Xi U2 904 69 = Xi S 904 69 := (show Xi U2 904 69 = Xi U1 904 69 from by rw [eU2]; exact Xi_ne (by omega)).trans ((show Xi U1 904 69 = Xi S 904 69 from by rw [eU1]; exact Xi_ne (by omega)))
        have w26 : 0 ≤ Xi S 904 69 ∧ Xi S 904 69 ≤ 2600 := hH.c _ _
        refine l_callV rfl rfl rfl (t_mo_need hHU2 0 4 t ⟨by omega, by omega⟩ ⟨by omega, by omega⟩ ⟨by omega, by omega⟩ _) ?_
        rintro _ T3 ⟨hHT3, w30, rfl, w27, w28⟩
        have hFT3 : FR md_mo_whatMeant S T3 := FR.tr hFU2 w30 rfl
        show Rl _ _ _ _ _ [] _ _
        have k149 : KQ T3 S q := KQ_FR (by assumption : FR md_mo_need U2 T3) rfl k23
        refine l_aload_n rfl rfl ?_
        refine l_gfr rfl rfl rfl rfl rfl (hHT3.r 904 122 973 rfl) ?_
        refine l_iload rfl rfl ?_
        refine l_iload rfl rfl ?_
        refine l_iastore (n := 2400) rfl rfl (by omega) (by omega) (by unfold rg; omega) ?_
        obtain ⟨U4, eU4⟩ : ∃ T : sS, T = uI T3 973 ((q).toNat) (Int32.ofInt z18) := ⟨_, rfl⟩
        rw [← eU4]
        have hHU4 : HI U4 := by rw [eU4]; exact HI_any hHT3 (rfl)
        have hFU4 : FR md_mo_whatMeant S U4 := by rw [eU4]; exact FR.wI hFT3 (mdf_i (r := (973, 974, 0, 100000)) (List.mem_of_getElem? (i := 3) rfl) (inR_i (by omega) (by omega) (by omega) (by omega)))
        have w31 : Xi U4 973 ((q).toNat) = z18 := by rw [eU4]; exact Xi_same (by unfold rg; omega)
        have k160 : KQ U4 S q := KQ.w k149 eU4 (by omega)
        refine l_return rfl rfl ?_
        have w32 : Xi U4 974 (q).toNat = Xi U2 974 (q).toNat := (show Xi U4 974 (q).toNat = Xi T3 974 (q).toNat from by rw [eU4]; exact Xi_ne (by omega)).trans ((show Xi T3 974 (q).toNat = Xi U2 974 (q).toNat from (w30.cx 974 rfl _).1))
        have w33 : Xi U4 904 106 = Xi T3 904 106 := (show Xi U4 904 106 = Xi T3 904 106 from by rw [eU4]; exact Xi_ne (by omega))
        have w34 : 0 ≤ Xi T3 904 106 ∧ Xi T3 904 106 ≤ 9 := hHT3.c _ _
        have w35 : Xi U4 904 108 = Xi S 904 108 := (show Xi U4 904 108 = Xi T3 904 108 from by rw [eU4]; exact Xi_ne (by omega)).trans ( (show Xi T3 904 108 = Xi U2 904 108 from w30.x _ _ rfl).trans ( (show Xi U2 904 108 = Xi U1 904 108 from by rw [eU2]; exact Xi_ne (by omega)).trans ((show Xi U1 904 108 = Xi S 904 108 from by rw [eU1]; exact Xi_ne (by omega)))))
        have w36 : 0 ≤ Xi S 904 108 ∧ Xi S 904 108 ≤ 2600 := hH.c _ _
        have w37 : Xi U4 904 69 = Xi S 904 69 := (show Xi U4 904 69 = Xi T3 904 69 from by rw [eU4]; exact Xi_ne (by omega)).trans ( (show Xi T3 904 69 = Xi U2 904 69 from w30.x _ _ rfl).trans ( (show Xi U2 904 69 = Xi U1 904 69 from by rw [eU2]; exact Xi_ne (by omega)).trans ((show Xi U1 904 69 = Xi S 904 69 from by rw [eU1]; exact Xi_ne (by omega)))))
        have w38 : 0 ≤ Xi S 904 69 ∧ Xi S 904 69 ≤ 2600 := hH.c _ _
        exact ⟨hHU4, hFU4, rfl, (by omega), (by first | exact (fun _ => (by unfold OKT; omega)) o110 | exact Or.inl (by omega)), (by first | exact k58 | exact k111 | exact k160)⟩
      · refine l_aload_n rfl rfl ?_
        refine l_gfr rfl rfl rfl rfl rfl (hHU2.r 904 31 927 rfl) ?_
        refine l_iload rfl rfl ?_
        refine l_iaload (n := 64) rfl rfl (by omega) (by omega) (by unfold rg; omega) ?_
        have w39 : 0 ≤ (Xi U2 927 ((z18).toNat)) ∧ (Xi U2 927 ((z18).toNat)) ≤ 7 := hHU2.c _ _
        refine l_iload_n rfl rfl ?_
        refine l_icmp_ne rfl rfl (by unfold rg; omega) (by unfold rg; omega) (fun w40 => ?_) (fun w41 => ?_)
        · refine l_iconst rfl ?_
          refine l_iconst rfl ?_
          refine l_iload_n rfl rfl ?_
          have w42 : Xi U2 904 106 = Xi S 904 106 := (show Xi U2 904 106 = Xi U1 904 106 from by rw [eU2]; exact Xi_ne (by omega)).trans ((show Xi U1 904 106 = Xi S 904 106 from by rw [eU1]; exact Xi_ne (by omega)))
          have w43 : 0 ≤ Xi S 904 106 ∧ Xi S 904 106 ≤ 9 := hH.c _ _
          have w44 : Xi U2 904 108 = Xi S 904 108 := (show Xi U2 904 108 = Xi U1 904 108 from by rw [eU2]; exact Xi_ne (by omega)).trans ((show Xi U1 904 108 = Xi S 904 108 from by rw [eU1]; exact Xi_ne (by omega)))
          have w45 : 0 ≤ Xi S 904 108 ∧ Xi S 904 108 ≤ 2600 := hH.c _ _
          have w46 : Xi U2 904 69 = Xi S 904 69 := (show Xi U2 904 69 = Xi U1 904 69 from by rw [eU2]; exact Xi_ne (by omega)).trans ((show Xi U1 904 69 = Xi S 904 69 from by rw [eU1]; exact Xi_ne (by omega)))
          have w47 : 0 ≤ Xi S 904 69 ∧ Xi S 904 69 ≤ 2600 := hH.c _ _
          refine l_callV rfl rfl rfl (t_mo_need hHU2 0 4 t ⟨by omega, by omega⟩ ⟨by omega, by omega⟩ ⟨by omega, by omega⟩ _) ?_
          rintro _ T5 ⟨hHT5, w51, rfl, w48, w49⟩
          have hFT5 : FR md_mo_whatMeant S T5 := FR.tr hFU2 w51 rfl
          show Rl _ _ _ _ _ [] _ _
          have k149 : KQ T5 S q := KQ_FR (by assumption : FR md_mo_need U2 T5) rfl k23
          refine l_aload_n rfl rfl ?_
          refine l_gfr rfl rfl rfl rfl rfl (hHT5.r 904 122 973 rfl) ?_
          refine l_iload rfl rfl ?_
          refine l_iload rfl rfl ?_
          refine l_iastore (n := 2400) rfl rfl (by omega) (by omega) (by unfold rg; omega) ?_
          obtain ⟨U6, eU6⟩ : ∃ T : sS, T = uI T5 973 ((q).toNat) (Int32.ofInt z18) := ⟨_, rfl⟩
          rw [← eU6]
          have hHU6 : HI U6 := by rw [eU6]; exact HI_any hHT5 (rfl)
          have hFU6 : FR md_mo_whatMeant S U6 := by rw [eU6]; exact FR.wI hFT5 (mdf_i (r := (973, 974, 0, 100000)) (List.mem_of_getElem? (i := 3) rfl) (inR_i (by omega) (by omega) (by omega) (by omega)))
          have w52 : Xi U6 973 ((q).toNat) = z18 := by rw [eU6]; exact Xi_same (by unfold rg; omega)
          have k160 : KQ U6 S q := KQ.w k149 eU6 (by omega)
          refine l_return rfl rfl ?_
          have w53 : Xi U6 974 (q).toNat = Xi U2 974 (q).toNat := (show Xi U6 974 (q).toNat = Xi T5 974 (q).toNat from by rw [eU6]; exact Xi_ne (by omega)).trans ((show Xi T5 974 (q).toNat = Xi U2 974 (q).toNat from (w51.cx 974 rfl _).1))
          have w54 : Xi U6 904 106 = Xi T5 904 106 := (show Xi U6 904 106 = Xi T5 904 106 from by rw [eU6]; exact Xi_ne (by omega))
          have w55 : 0 ≤ Xi T5 904 106 ∧ Xi T5 904 106 ≤ 9 := hHT5.c _ _
          have w56 : Xi U6 904 108 = Xi S 904 108 := (show Xi U6 904 108 = Xi T5 904 108 from by rw [eU6]; exact Xi_ne (by omega)).trans ( (show Xi T5 904 108 = Xi U2 904 108 from w51.x _ _ rfl).trans ( (show Xi U2 904 108 = Xi U1 904 108 from by rw [eU2]; exact Xi_ne (by omega)).trans ((show Xi U1 904 108 = Xi S 904 108 from by rw [eU1]; exact Xi_ne (by omega)))))
          have w57 : 0 ≤ Xi S 904 108 ∧ Xi S 904 108 ≤ 2600 := hH.c _ _
          have w58 : Xi U6 904 69 = Xi S 904 69 := (show Xi U6 904 69 = Xi T5 904 69 from by rw [eU6]; exact Xi_ne (by omega)).trans ( (show Xi T5 904 69 = Xi U2 904 69 from w51.x _ _ rfl).trans ( (show Xi U2 904 69 = Xi U1 904 69 from by rw [eU2]; exact Xi_ne (by omega)).trans ((show Xi U1 904 69 = Xi S 904 69 from by rw [eU1]; exact Xi_ne (by omega)))))
          have w59 : 0 ≤ Xi S 904 69 ∧ Xi S 904 69 ≤ 2600 := hH.c _ _
          exact ⟨hHU6, hFU6, rfl, (by omega), (by first | exact (fun _ => (by unfold OKT; omega)) o110 | exact Or.inl (by omega)), (by first | exact k58 | exact k111 | exact k160)⟩
        · refine l_iconst rfl ?_
          refine l_goto rfl rfl ?_
          refine l_iconst rfl ?_
          refine l_iload_n rfl rfl ?_
          have w60 : Xi U2 904 106 = Xi S 904 106 := (show Xi U2 904 106 = Xi U1 904 106 from by rw [eU2]; exact Xi_ne (by omega)).trans ((show Xi U1 904 106 = Xi S 904 106 from by rw [eU1]; exact Xi_ne (by omega)))
          have w61 : 0 ≤ Xi S 904 106 ∧ Xi S 904 106 ≤ 9 := hH.c _ _
          have w62 : Xi U2 904 108 = Xi S 904 108 := (show Xi U2 904 108 = Xi U1 904 108 from by rw [eU2]; exact Xi_ne (by omega)).trans ((show Xi U1 904 108 = Xi S 904 108 from by rw [eU1]; exact Xi_ne (by omega)))
          have w63 : 0 ≤ Xi S 904 108 ∧ Xi S 904 108 ≤ 2600 := hH.c _ _
          have w64 : Xi U2 904 69 = Xi S 904 69 := (show Xi U2 904 69 = Xi U1 904 69 from by rw [eU2]; exact Xi_ne (by omega)).trans ((show Xi U1 904 69 = Xi S 904 69 from by rw [eU1]; exact Xi_ne (by omega)))
          have w65 : 0 ≤ Xi S 904 69 ∧ Xi S 904 69 ≤ 2600 := hH.c _ _
          refine l_callV rfl rfl rfl (t_mo_need hHU2 1 4 t ⟨by omega, by omega⟩ ⟨by omega, by omega⟩ ⟨by omega, by omega⟩ _) ?_
          rintro _ T7 ⟨hHT7, w69, rfl, w66, w67⟩
          have hFT7 : FR md_mo_whatMeant S T7 := FR.tr hFU2 w69 rfl
          show Rl _ _ _ _ _ [] _ _
          have k149 : KQ T7 S q := KQ_FR (by assumption : FR md_mo_need U2 T7) rfl k23
          refine l_aload_n rfl rfl ?_
          refine l_gfr rfl rfl rfl rfl rfl (hHT7.r 904 122 973 rfl) ?_
          refine l_iload rfl rfl ?_
          refine l_iload rfl rfl ?_
          refine l_iastore (n := 2400) rfl rfl (by omega) (by omega) (by unfold rg; omega) ?_
          obtain ⟨U8, eU8⟩ : ∃ T : sS, T = uI T7 973 ((q).toNat) (Int32.ofInt z18) := ⟨_, rfl⟩
          rw [← eU8]
          have hHU8 : HI U8 := by rw [eU8]; exact HI_any hHT7 (rfl)
          have hFU8 : FR md_mo_whatMeant S U8 := by rw [eU8]; exact FR.wI hFT7 (mdf_i (r := (973, 974, 0, 100000)) (List.mem_of_getElem? (i := 3) rfl) (inR_i (by omega) (by omega) (by omega) (by omega)))
          have w70 : Xi U8 973 ((q).toNat) = z18 := by rw [eU8]; exact Xi_same (by unfold rg; omega)
          have k160 : KQ U8 S q := KQ.w k149 eU8 (by omega)
          refine l_return rfl rfl ?_
          have w71 : Xi U8 974 (q).toNat = Xi U2 974 (q).toNat := (show Xi U8 974 (q).toNat = Xi T7 974 (q).toNat from by rw [eU8]; exact Xi_ne (by omega)).trans ((show Xi T7 974 (q).toNat = Xi U2 974 (q).toNat from (w69.cx 974 rfl _).1))
          have w72 : Xi U8 904 106 = Xi T7 904 106 := (show Xi U8 904 106 = Xi T7 904 106 from by rw [eU8]; exact Xi_ne (by omega))
          have w73 : 0 ≤ Xi T7 904 106 ∧ Xi T7 904 106 ≤ 9 := hHT7.c _ _
          have w74 : Xi U8 904 108 = Xi S 904 108 := (show Xi U8 904 108 = Xi T7 904 108 from by rw [eU8]; exact Xi_ne (by omega)).trans ( (show Xi T7 904 108 = Xi U2 904 108 from w69.x _ _ rfl).trans ( (show Xi U2 904 108 = Xi U1 904 108 from by rw [eU2]; exact Xi_ne (by omega)).trans ((show Xi U1 904 108 = Xi S 904 108 from by rw [eU1]; exact Xi_ne (by omega)))))
          have w75 : 0 ≤ Xi S 904 108 ∧ Xi S 904 108 ≤ 2600 := hH.c _ _
          have w76 : Xi U8 904 69 = Xi S 904 69 := (show Xi U8 904 69 = Xi T7 904 69 from by rw [eU8]; exact Xi_ne (by omega)).trans ( (show Xi T7 904 69 = Xi U2 904 69 from w69.x _ _ rfl).trans ( (show Xi U2 904 69 = Xi U1 904 69 from by rw [eU2]; exact Xi_ne (by omega)).trans ((show Xi U1 904 69 = Xi S 904 69 from by rw [eU1]; exact Xi_ne (by omega)))))
          have w77 : 0 ≤ Xi S 904 69 ∧ Xi S 904 69 ≤ 2600 := hH.c _ _
          exact ⟨hHU8, hFU8, rfl, (by omega), (by first | exact (fun _ => (by unfold OKT; omega)) o110 | exact Or.inl (by omega)), (by first | exact k58 | exact k111 | exact k160)⟩
    · refine l_aload_n rfl rfl ?_
      refine l_iload_n rfl rfl ?_
      refine l_iconst rfl ?_
      refine l_icmp_ne rfl rfl (by unfold rg; omega) (by unfold rg; omega) (fun w78 => ?_) (fun w79 => ?_)
      · refine l_iconst rfl ?_
        refine l_iconst rfl ?_
        refine l_iload_n rfl rfl ?_
        have w80 : Xi U2 904 106 = Xi S 904 106 := (show Xi U2 904 106 = Xi U1 904 106 from by rw [eU2]; exact Xi_ne (by omega)).trans ((show Xi U1 904 106 = Xi S 904 106 from by rw [eU1]; exact Xi_ne (by omega)))
        have w81 : 0 ≤ Xi S 904 106 ∧ Xi S 904 106 ≤ 9 := hH.c _ _
        have w82 : Xi U2 904 108 = Xi S 904 108 := (show Xi U2 904 108 = Xi U1 904 108 from by rw [eU2]; exact Xi_ne (by omega)).trans ((show Xi U1 904 108 = Xi S 904 108 from by rw [eU1]; exact Xi_ne (by omega)))
        have w83 : 0 ≤ Xi S 904 108 ∧ Xi S 904 108 ≤ 2600 := hH.c _ _
        have w84 : Xi U2 904 69 = Xi S 904 69 := (show Xi U2 904 69 = Xi U1 904 69 from by rw [eU2]; exact Xi_ne (by omega)).trans ((show Xi U1 904 69 = Xi S 904 69 from by rw [eU1]; exact Xi_ne (by omega)))
        have w85 : 0 ≤ Xi S 904 69 ∧ Xi S 904 69 ≤ 2600 := hH.c _ _
        refine l_callV rfl rfl rfl (t_mo_need hHU2 0 4 t ⟨by omega, by omega⟩ ⟨by omega, by omega⟩ ⟨by omega, by omega⟩ _) ?_
        rintro _ T9 ⟨hHT9, w89, rfl, w86, w87⟩
        have hFT9 : FR md_mo_whatMeant S T9 := FR.tr hFU2 w89 rfl
        show Rl _ _ _ _ _ [] _ _
        have k81 : KQ T9 S q := KQ_FR (by assumption : FR md_mo_need U2 T9) rfl k23
        refine l_aload_n rfl rfl ?_
        refine l_gfr rfl rfl rfl rfl rfl (hHT9.r 904 122 973 rfl) ?_
        refine l_iload rfl rfl ?_
        refine l_aload_n rfl rfl ?_
        refine l_gfr rfl rfl rfl rfl rfl (hHT9.r 904 5 908 rfl) ?_
        refine l_iload_n rfl rfl ?_
        refine l_iaload (n := 5002) rfl rfl (by omega) (by omega) (by unfold rg; omega) ?_
        have w90 : 0 ≤ (Xi T9 908 ((t).toNat)) ∧ (Xi T9 908 ((t).toNat)) ≤ 5000 := hHT9.c _ _
        have e95 : (Xi T9 908 ((t).toNat)) = Xi S 908 (t).toNat := by first | rfl | exact (hFT9.cx 908 rfl _).1
        refine l_iconst rfl ?_
        refine l_iadd rfl ?_
        refine l_iastore (n := 2400) rfl rfl (by omega) (by omega) (by unfold rg; omega) ?_
        obtain ⟨U10, eU10⟩ : ∃ T : sS, T = uI T9 973 ((q).toNat) (Int32.ofInt ((Xi T9 908 ((t).toNat)) + 1)) := ⟨_, rfl⟩
        rw [← eU10]
        have hHU10 : HI U10 := by rw [eU10]; exact HI_any hHT9 (rfl)
        have hFU10 : FR md_mo_whatMeant S U10 := by rw [eU10]; exact FR.wI hFT9 (mdf_i (r := (973, 974, 0, 100000)) (List.mem_of_getElem? (i := 3) rfl) (inR_i (by omega) (by omega) (by omega) (by omega)))
        have w91 : Xi U10 973 ((q).toNat) = ((Xi T9 908 ((t).toNat)) + 1) := by rw [eU10]; exact Xi_same (by unfold rg; omega)
        have k98 : KQ U10 S q := KQ.w k81 eU10 (by omega)
        refine l_aload_n rfl rfl ?_
        refine l_gfr rfl rfl rfl rfl rfl (hHU10.r 904 123 974 rfl) ?_
        refine l_iload rfl rfl ?_
        refine l_aload_n rfl rfl ?_
        refine l_gfr rfl rfl rfl rfl rfl (hHU10.r 904 6 909 rfl) ?_
        refine l_iload_n rfl rfl ?_
        refine l_iaload (n := 5002) rfl rfl (by omega) (by omega) (by unfold rg; omega) ?_
        have w92 : 0 ≤ (Xi U10 909 ((t).toNat)) ∧ (Xi U10 909 ((t).toNat)) ≤ 5000 := hHU10.c _ _
        have e110 : (Xi U10 909 ((t).toNat)) = Xi S 909 (t).toNat := by first | rfl | exact (hFU10.cx 909 rfl _).1
        have o110 : Xi S 908 (t).toNat + 1 + Xi S 909 (t).toNat ≤ 5000 := hK (t).toNat (by omega) (by omega)
        have g110 : 0 ≤ Xi S 909 (t).toNat ∧ 0 ≤ Xi S 908 (t).toNat := ⟨(hH.c 909 _).1, (hH.c 908 _).1⟩
        refine l_iastore (n := 2400) rfl rfl (by omega) (by omega) (by unfold rg; omega) ?_
        obtain ⟨U11, eU11⟩ : ∃ T : sS, T = uI U10 974 ((q).toNat) (Int32.ofInt (Xi U10 909 ((t).toNat))) := ⟨_, rfl⟩
        rw [← eU11]
        have hHU11 : HI U11 := by rw [eU11]; exact HI_any hHU10 (rfl)
        have hFU11 : FR md_mo_whatMeant S U11 := by rw [eU11]; exact FR.wI hFU10 (mdf_i (r := (974, 975, 0, 100000)) (List.mem_of_getElem? (i := 4) rfl) (inR_i (by omega) (by omega) (by omega) (by omega)))
        have w93 : Xi U11 974 ((q).toNat) = (Xi U10 909 ((t).toNat)) := by rw [eU11]; exact Xi_same (by unfold rg; omega)
        have k111 : KQ U11 S q := KQ.w k98 eU11 (by omega)
        refine l_goto rfl rfl ?_
        refine l_return rfl rfl ?_
        have w94 : Xi U11 973 (q).toNat = Xi U10 973 (q).toNat := (show Xi U11 973 (q).toNat = Xi U10 973 (q).toNat from by rw [eU11]; exact Xi_ne (by omega))
        have w95 : Xi U11 904 106 = Xi T9 904 106 := (show Xi U11 904 106 = Xi U10 904 106 from by rw [eU11]; exact Xi_ne (by omega)).trans ((show Xi U10 904 106 = Xi T9 904 106 from by rw [eU10]; exact Xi_ne (by omega)))
        have w96 : 0 ≤ Xi T9 904 106 ∧ Xi T9 904 106 ≤ 9 := hHT9.c _ _
        have w97 : Xi U11 904 108 = Xi S 904 108 := (show Xi U11 904 108 = Xi U10 904 108 from by rw [eU11]; exact Xi_ne (by omega)).trans ( (show Xi U10 904 108 = Xi T9 904 108 from by rw [eU10]; exact Xi_ne (by omega)).trans ( (show Xi T9 904 108 = Xi U2 904 108 from w89.x _ _ rfl).trans ( (show Xi U2 904 108 = Xi U1 904 108 from by rw [eU2]; exact Xi_ne (by omega)).trans ((show Xi U1 904 108 = Xi S 904 108 from by rw [eU1]; exact Xi_ne (by omega))))))
        have w98 : 0 ≤ Xi S 904 108 ∧ Xi S 904 108 ≤ 2600 := hH.c _ _
        have w99 : Xi U11 904 69 = Xi S 904 69 := (show Xi U11 904 69 = Xi U10 904 69 from by rw [eU11]; exact Xi_ne (by omega)).trans ( (show Xi U10 904 69 = Xi T9 904 69 from by rw [eU10]; exact Xi_ne (by omega)).trans ( (show Xi T9 904 69 = Xi U2 904 69 from w89.x _ _ rfl).trans ( (show Xi U2 904 69 = Xi U1 904 69 from by rw [eU2]; exact Xi_ne (by omega)).trans ((show Xi U1 904 69 = Xi S 904 69 from by rw [eU1]; exact Xi_ne (by omega))))))
        have w100 : 0 ≤ Xi S 904 69 ∧ Xi S 904 69 ≤ 2600 := hH.c _ _
        exact ⟨hHU11, hFU11, rfl, (by omega), (by first | exact (fun _ => (by unfold OKT; omega)) o110 | exact Or.inl (by omega)), (by first | exact k58 | exact k111 | exact k160)⟩
      · refine l_iconst rfl ?_
        refine l_goto rfl rfl ?_
        refine l_iconst rfl ?_
        refine l_iload_n rfl rfl ?_
        have w101 : Xi U2 904 106 = Xi S 904 106 := (show Xi U2 904 106 = Xi U1 904 106 from by rw [eU2]; exact Xi_ne (by omega)).trans ((show Xi U1 904 106 = Xi S 904 106 from by rw [eU1]; exact Xi_ne (by omega)))
        have w102 : 0 ≤ Xi S 904 106 ∧ Xi S 904 106 ≤ 9 := hH.c _ _
        have w103 : Xi U2 904 108 = Xi S 904 108 := (show Xi U2 904 108 = Xi U1 904 108 from by rw [eU2]; exact Xi_ne (by omega)).trans ((show Xi U1 904 108 = Xi S 904 108 from by rw [eU1]; exact Xi_ne (by omega)))
        have w104 : 0 ≤ Xi S 904 108 ∧ Xi S 904 108 ≤ 2600 := hH.c _ _
        have w105 : Xi U2 904 69 = Xi S 904 69 := (show Xi U2 904 69 = Xi U1 904 69 from by rw [eU2]; exact Xi_ne (by omega)).trans ((show Xi U1 904 69 = Xi S 904 69 from by rw [eU1]; exact Xi_ne (by omega)))
        have w106 : 0 ≤ Xi S 904 69 ∧ Xi S 904 69 ≤ 2600 := hH.c _ _
        refine l_callV rfl rfl rfl (t_mo_need hHU2 1 4 t ⟨by omega, by omega⟩ ⟨by omega, by omega⟩ ⟨by omega, by omega⟩ _) ?_
        rintro _ T12 ⟨hHT12, w110, rfl, w107, w108⟩
        have hFT12 : FR md_mo_whatMeant S T12 := FR.tr hFU2 w110 rfl
        show Rl _ _ _ _ _ [] _ _
        have k81 : KQ T12 S q := KQ_FR (by assumption : FR md_mo_need U2 T12) rfl k23
        refine l_aload_n rfl rfl ?_
        refine l_gfr rfl rfl rfl rfl rfl (hHT12.r 904 122 973 rfl) ?_
        refine l_iload rfl rfl ?_
        refine l_aload_n rfl rfl ?_
        refine l_gfr rfl rfl rfl rfl rfl (hHT12.r 904 5 908 rfl) ?_
        refine l_iload_n rfl rfl ?_
        refine l_iaload (n := 5002) rfl rfl (by omega) (by omega) (by unfold rg; omega) ?_
        have w111 : 0 ≤ (Xi T12 908 ((t).toNat)) ∧ (Xi T12 908 ((t).toNat)) ≤ 5000 := hHT12.c _ _
        have e95 : (Xi T12 908 ((t).toNat)) = Xi S 908 (t).toNat := by first | rfl | exact (hFT12.cx 908 rfl _).1
        refine l_iconst rfl ?_
        refine l_iadd rfl ?_
        refine l_iastore (n := 2400) rfl rfl (by omega) (by omega) (by unfold rg; omega) ?_
        obtain ⟨U13, eU13⟩ : ∃ T : sS, T = uI T12 973 ((q).toNat) (Int32.ofInt ((Xi T12 908 ((t).toNat)) + 1)) := ⟨_, rfl⟩
        rw [← eU13]
        have hHU13 : HI U13 := by rw [eU13]; exact HI_any hHT12 (rfl)
        have hFU13 : FR md_mo_whatMeant S U13 := by rw [eU13]; exact FR.wI hFT12 (mdf_i (r := (973, 974, 0, 100000)) (List.mem_of_getElem? (i := 3) rfl) (inR_i (by omega) (by omega) (by omega) (by omega)))
        have w112 : Xi U13 973 ((q).toNat) = ((Xi T12 908 ((t).toNat)) + 1) := by rw [eU13]; exact Xi_same (by unfold rg; omega)
        have k98 : KQ U13 S q := KQ.w k81 eU13 (by omega)
        refine l_aload_n rfl rfl ?_
        refine l_gfr rfl rfl rfl rfl rfl (hHU13.r 904 123 974 rfl) ?_
        refine l_iload rfl rfl ?_
        refine l_aload_n rfl rfl ?_
        refine l_gfr rfl rfl rfl rfl rfl (hHU13.r 904 6 909 rfl) ?_
        refine l_iload_n rfl rfl ?_
        refine l_iaload (n := 5002) rfl rfl (by omega) (by omega) (by unfold rg; omega) ?_
        have w113 : 0 ≤ (Xi U13 909 ((t).toNat)) ∧ (Xi U13 909 ((t).toNat)) ≤ 5000 := hHU13.c _ _
        have e110 : (Xi U13 909 ((t).toNat)) = Xi S 909 (t).toNat := by first | rfl | exact (hFU13.cx 909 rfl _).1
        have o110 : Xi S 908 (t).toNat + 1 + Xi S 909 (t).toNat ≤ 5000 := hK (t).toNat (by omega) (by omega)
        have g110 : 0 ≤ Xi S 909 (t).toNat ∧ 0 ≤ Xi S 908 (t).toNat := ⟨(hH.c 909 _).1, (hH.c 908 _).1⟩
        refine l_iastore (n := 2400) rfl rfl (by omega) (by omega) (by unfold rg; omega) ?_
        obtain ⟨U14, eU14⟩ : ∃ T : sS, T = uI U13 974 ((q).toNat) (Int32.ofInt (Xi U13 909 ((t).toNat))) := ⟨_, rfl⟩
        rw [← eU14]
        have hHU14 : HI U14 := by rw [eU14]; exact HI_any hHU13 (rfl)
        have hFU14 : FR md_mo_whatMeant S U14 := by rw [eU14]; exact FR.wI hFU13 (mdf_i (r := (974, 975, 0, 100000)) (List.mem_of_getElem? (i := 4) rfl) (inR_i (by omega) (by omega) (by omega) (by omega)))
        have w114 : Xi U14 974 ((q).toNat) = (Xi U13 909 ((t).toNat)) := by rw [eU14]; exact Xi_same (by unfold rg; omega)
        have k111 : KQ U14 S q := KQ.w k98 eU14 (by omega)
        refine l_goto rfl rfl ?_
        refine l_return rfl rfl ?_
        have w115 : Xi U14 973 (q).toNat = Xi U13 973 (q).toNat := (show Xi U14 973 (q).toNat = Xi U13 973 (q).toNat from by rw [eU14]; exact Xi_ne (by omega))
        have w116 : Xi U14 904 106 = Xi T12 904 106 := (show Xi U14 904 106 = Xi U13 904 106 from by rw [eU14]; exact Xi_ne (by omega)).trans ((show Xi U13 904 106 = Xi T12 904 106 from by rw [eU13]; exact Xi_ne (by omega)))
        have w117 : 0 ≤ Xi T12 904 106 ∧ Xi T12 904 106 ≤ 9 := hHT12.c _ _
        have w118 : Xi U14 904 108 = Xi S 904 108 := (show Xi U14 904 108 = Xi U13 904 108 from by rw [eU14]; exact Xi_ne (by omega)).trans ( (show Xi U13 904 108 = Xi T12 904 108 from by rw [eU13]; exact Xi_ne (by omega)).trans ( (show Xi T12 904 108 = Xi U2 904 108 from w110.x _ _ rfl).trans ( (show Xi U2 904 108 = Xi U1 904 108 from by rw [eU2]; exact Xi_ne (by omega)).trans ((show Xi U1 904 108 = Xi S 904 108 from by rw [eU1]; exact Xi_ne (by omega))))))
        have w119 : 0 ≤ Xi S 904 108 ∧ Xi S 904 108 ≤ 2600 := hH.c _ _
        have w120 : Xi U14 904 69 = Xi S 904 69 := (show Xi U14 904 69 = Xi U13 904 69 from by rw [eU14]; exact Xi_ne (by omega)).trans ( (show Xi U13 904 69 = Xi T12 904 69 from by rw [eU13]; exact Xi_ne (by omega)).trans ( (show Xi T12 904 69 = Xi U2 904 69 from w110.x _ _ rfl).trans ( (show Xi U2 904 69 = Xi U1 904 69 from by rw [eU2]; exact Xi_ne (by omega)).trans ((show Xi U1 904 69 = Xi S 904 69 from by rw [eU1]; exact Xi_ne (by omega))))))
        have w121 : 0 ≤ Xi S 904 69 ∧ Xi S 904 69 ≤ 2600 := hH.c _ _
        exact ⟨hHU14, hFU14, rfl, (by omega), (by first | exact (fun _ => (by unfold OKT; omega)) o110 | exact Or.inl (by omega)), (by first | exact k58 | exact k111 | exact k160)⟩
  · refine l_aload_n rfl rfl ?_
    refine l_iload_n rfl rfl ?_
    refine l_if_ne rfl rfl (by unfold rg; omega) (fun w122 => ?_) (fun w123 => ?_)
    · refine l_iconst rfl ?_
      refine l_iconst rfl ?_
      refine l_iload_n rfl rfl ?_
      have w124 : Xi U2 904 106 = Xi S 904 106 := (show Xi U2 904 106 = Xi U1 904 106 from by rw [eU2]; exact Xi_ne (by omega)).trans ((show Xi U1 904 106 = Xi S 904 106 from by rw [eU1]; exact Xi_ne (by omega)))
      have w125 : 0 ≤ Xi S 904 106 ∧ Xi S 904 106 ≤ 9 := hH.c _ _
      have w126 : Xi U2 904 108 = Xi S 904 108 := (show Xi U2 904 108 = Xi U1 904 108 from by rw [eU2]; exact Xi_ne (by omega)).trans ((show Xi U1 904 108 = Xi S 904 108 from by rw [eU1]; exact Xi_ne (by omega)))
      have w127 : 0 ≤ Xi S 904 108 ∧ Xi S 904 108 ≤ 2600 := hH.c _ _
      have w128 : Xi U2 904 69 = Xi S 904 69 := (show Xi U2 904 69 = Xi U1 904 69 from by rw [eU2]; exact Xi_ne (by omega)).trans ((show Xi U1 904 69 = Xi S 904 69 from by rw [eU1]; exact Xi_ne (by omega)))
      have w129 : 0 ≤ Xi S 904 69 ∧ Xi S 904 69 ≤ 2600 := hH.c _ _
      refine l_callV rfl rfl rfl (t_mo_need hHU2 0 4 t ⟨by omega, by omega⟩ ⟨by omega, by omega⟩ ⟨by omega, by omega⟩ _) ?_
      rintro _ T15 ⟨hHT15, w133, rfl, w130, w131⟩
      have hFT15 : FR md_mo_whatMeant S T15 := FR.tr hFU2 w133 rfl
      show Rl _ _ _ _ _ [] _ _
      have k42 : KQ T15 S q := KQ_FR (by assumption : FR md_mo_need U2 T15) rfl k23
      refine l_aload_n rfl rfl ?_
      refine l_gfr rfl rfl rfl rfl rfl (hHT15.r 904 122 973 rfl) ?_
      refine l_iload rfl rfl ?_
      refine l_aload_n rfl rfl ?_
      refine l_gfr rfl rfl rfl rfl rfl (hHT15.r 904 7 910 rfl) ?_
      refine l_iload_n rfl rfl ?_
      refine l_laload (n := 5002) rfl rfl (by omega) (by omega) (by unfold rg; omega) ?_
      have w134 : -9223372036854775808 ≤ (Xj T15 910 ((t).toNat)) ∧ (Xj T15 910 ((t).toNat)) < 9223372036854775808 := Xj_rg
      refine l_l2iA rfl (fun c135 w135 => ?_)
      refine l_iastore (n := 2400) rfl rfl (by omega) (by omega) (by unfold rg; omega) ?_
      obtain ⟨U16, eU16⟩ : ∃ T : sS, T = uI T15 973 ((q).toNat) (Int32.ofInt c135) := ⟨_, rfl⟩
      rw [← eU16]
      have hHU16 : HI U16 := by rw [eU16]; exact HI_any hHT15 (rfl)
      have hFU16 : FR md_mo_whatMeant S U16 := by rw [eU16]; exact FR.wI hFT15 (mdf_i (r := (973, 974, 0, 100000)) (List.mem_of_getElem? (i := 3) rfl) (inR_i (by omega) (by omega) (by omega) (by omega)))
      have w136 : Xi U16 973 ((q).toNat) = c135 := by rw [eU16]; exact Xi_same (by unfold rg; omega)
      have k58 : KQ U16 S q := KQ.w k42 eU16 (by omega)
      refine l_goto rfl rfl ?_
      refine l_return rfl rfl ?_
      have w137 : Xi U16 974 (q).toNat = Xi U2 974 (q).toNat := (show Xi U16 974 (q).toNat = Xi T15 974 (q).toNat from by rw [eU16]; exact Xi_ne (by omega)).trans ((show Xi T15 974 (q).toNat = Xi U2 974 (q).toNat from (w133.cx 974 rfl _).1))
      have w138 : Xi U16 904 106 = Xi T15 904 106 := (show Xi U16 904 106 = Xi T15 904 106 from by rw [eU16]; exact Xi_ne (by omega))
      have w139 : 0 ≤ Xi T15 904 106 ∧ Xi T15 904 106 ≤ 9 := hHT15.c _ _
      have w140 : Xi U16 904 108 = Xi S 904 108 := (show Xi U16 904 108 = Xi T15 904 108 from by rw [eU16]; exact Xi_ne (by omega)).trans ( (show Xi T15 904 108 = Xi U2 904 108 from w133.x _ _ rfl).trans ( (show Xi U2 904 108 = Xi U1 904 108 from by rw [eU2]; exact Xi_ne (by omega)).trans ((show Xi U1 904 108 = Xi S 904 108 from by rw [eU1]; exact Xi_ne (by omega)))))
      have w141 : 0 ≤ Xi S 904 108 ∧ Xi S 904 108 ≤ 2600 := hH.c _ _
      have w142 : Xi U16 904 69 = Xi S 904 69 := (show Xi U16 904 69 = Xi T15 904 69 from by rw [eU16]; exact Xi_ne (by omega)).trans ( (show Xi T15 904 69 = Xi U2 904 69 from w133.x _ _ rfl).trans ( (show Xi U2 904 69 = Xi U1 904 69 from by rw [eU2]; exact Xi_ne (by omega)).trans ((show Xi U1 904 69 = Xi S 904 69 from by rw [eU1]; exact Xi_ne (by omega)))))
      have w143 : 0 ≤ Xi S 904 69 ∧ Xi S 904 69 ≤ 2600 := hH.c _ _
      exact ⟨hHU16, hFU16, rfl, (by omega), (by first | exact (fun _ => (by unfold OKT; omega)) o110 | exact Or.inl (by omega)), (by first | exact k58 | exact k111 | exact k160)⟩
    · refine l_iconst rfl ?_
      refine l_goto rfl rfl ?_
      refine l_iconst rfl ?_
      refine l_iload_n rfl rfl ?_
      have w144 : Xi U2 904 106 = Xi S 904 106 := (show Xi U2 904 106 = Xi U1 904 106 from by rw [eU2]; exact Xi_ne (by omega)).trans ((show Xi U1 904 106 = Xi S 904 106 from by rw [eU1]; exact Xi_ne (by omega)))
      have w145 : 0 ≤ Xi S 904 106 ∧ Xi S 904 106 ≤ 9 := hH.c _ _
      have w146 : Xi U2 904 108 = Xi S 904 108 := (show Xi U2 904 108 = Xi U1 904 108 from by rw [eU2]; exact Xi_ne (by omega)).trans ((show Xi U1 904 108 = Xi S 904 108 from by rw [eU1]; exact Xi_ne (by omega)))
      have w147 : 0 ≤ Xi S 904 108 ∧ Xi S 904 108 ≤ 2600 := hH.c _ _
      have w148 : Xi U2 904 69 = Xi S 904 69 := (show Xi U2 904 69 = Xi U1 904 69 from by rw [eU2]; exact Xi_ne (by omega)).trans ((show Xi U1 904 69 = Xi S 904 69 from by rw [eU1]; exact Xi_ne (by omega)))
      have w149 : 0 ≤ Xi S 904 69 ∧ Xi S 904 69 ≤ 2600 := hH.c _ _
      refine l_callV rfl rfl rfl (t_mo_need hHU2 1 4 t ⟨by omega, by omega⟩ ⟨by omega, by omega⟩ ⟨by omega, by omega⟩ _) ?_
      rintro _ T17 ⟨hHT17, w153, rfl, w150, w151⟩
      have hFT17 : FR md_mo_whatMeant S T17 := FR.tr hFU2 w153 rfl
      show Rl _ _ _ _ _ [] _ _
      have k42 : KQ T17 S q := KQ_FR (by assumption : FR md_mo_need U2 T17) rfl k23
      refine l_aload_n rfl rfl ?_
      refine l_gfr rfl rfl rfl rfl rfl (hHT17.r 904 122 973 rfl) ?_
      refine l_iload rfl rfl ?_
      refine l_aload_n rfl rfl ?_
      refine l_gfr rfl rfl rfl rfl rfl (hHT17.r 904 7 910 rfl) ?_
      refine l_iload_n rfl rfl ?_
      refine l_laload (n := 5002) rfl rfl (by omega) (by omega) (by unfold rg; omega) ?_
      have w154 : -9223372036854775808 ≤ (Xj T17 910 ((t).toNat)) ∧ (Xj T17 910 ((t).toNat)) < 9223372036854775808 := Xj_rg
      refine l_l2iA rfl (fun c155 w155 => ?_)
      refine l_iastore (n := 2400) rfl rfl (by omega) (by omega) (by unfold rg; omega) ?_
      obtain ⟨U18, eU18⟩ : ∃ T : sS, T = uI T17 973 ((q).toNat) (Int32.ofInt c155) := ⟨_, rfl⟩
      rw [← eU18]
      have hHU18 : HI U18 := by rw [eU18]; exact HI_any hHT17 (rfl)
      have hFU18 : FR md_mo_whatMeant S U18 := by rw [eU18]; exact FR.wI hFT17 (mdf_i (r := (973, 974, 0, 100000)) (List.mem_of_getElem? (i := 3) rfl) (inR_i (by omega) (by omega) (by omega) (by omega)))
      have w156 : Xi U18 973 ((q).toNat) = c155 := by rw [eU18]; exact Xi_same (by unfold rg; omega)
      have k58 : KQ U18 S q := KQ.w k42 eU18 (by omega)
      refine l_goto rfl rfl ?_
      refine l_return rfl rfl ?_
      have w157 : Xi U18 974 (q).toNat = Xi U2 974 (q).toNat := (show Xi U18 974 (q).toNat = Xi T17 974 (q).toNat from by rw [eU18]; exact Xi_ne (by omega)).trans ((show Xi T17 974 (q).toNat = Xi U2 974 (q).toNat from (w153.cx 974 rfl _).1))
      have w158 : Xi U18 904 106 = Xi T17 904 106 := (show Xi U18 904 106 = Xi T17 904 106 from by rw [eU18]; exact Xi_ne (by omega))
      have w159 : 0 ≤ Xi T17 904 106 ∧ Xi T17 904 106 ≤ 9 := hHT17.c _ _
      have w160 : Xi U18 904 108 = Xi S 904 108 := (show Xi U18 904 108 = Xi T17 904 108 from by rw [eU18]; exact Xi_ne (by omega)).trans ( (show Xi T17 904 108 = Xi U2 904 108 from w153.x _ _ rfl).trans ( (show Xi U2 904 108 = Xi U1 904 108 from by rw [eU2]; exact Xi_ne (by omega)).trans ((show Xi U1 904 108 = Xi S 904 108 from by rw [eU1]; exact Xi_ne (by omega)))))
      have w161 : 0 ≤ Xi S 904 108 ∧ Xi S 904 108 ≤ 2600 := hH.c _ _
      have w162 : Xi U18 904 69 = Xi S 904 69 := (show Xi U18 904 69 = Xi T17 904 69 from by rw [eU18]; exact Xi_ne (by omega)).trans ( (show Xi T17 904 69 = Xi U2 904 69 from w153.x _ _ rfl).trans ( (show Xi U2 904 69 = Xi U1 904 69 from by rw [eU2]; exact Xi_ne (by omega)).trans ((show Xi U1 904 69 = Xi S 904 69 from by rw [eU1]; exact Xi_ne (by omega)))))
      have w163 : 0 ≤ Xi S 904 69 ∧ Xi S 904 69 ≤ 2600 := hH.c _ _
      exact ⟨hHU18, hFU18, rfl, (by omega), (by first | exact (fun _ => (by unfold OKT; omega)) o110 | exact Or.inl (by omega)), (by first | exact k58 | exact k111 | exact k160)⟩
/-- a saying that was found -/
def SYQ (S : sS) (q : Int) : Prop := thK S (0 ≤ Xi S 904 115) (0 ≤ Xi S 904 116) (Xi S 971 q.toNat) ∧ thK S (0 ≤ Xi S 904 115) (0 ≤ Xi S 904 116) (Xi S 975 q.toNat) ∧ 0 ≤ Xi S 972 q.toNat ∧ Xi S 972 q.toNat ≤ 5
theorem syq_i {P U1 U2 U3 : sS} {a b r q : Int} {j : Nat} (e1 : U1 = uI P 971 j (Int32.ofInt a)) (e2 : U2 = uI U1 975 j (Int32.ofInt b)) (e3 : U3 = uI U2 972 j (Int32.ofInt r)) (ha : (a ≠ -9 → a ≠ -1 → a ≠ -2 → 0 ≤ a ∧ a < Xi P 904 19) ∧ (a = -1 → 0 ≤ Xi P 904 115) ∧ (a = -2 → 0 ≤ Xi P 904 116)) (hb : (b ≠ -9 → b ≠ -1 → b ≠ -2 → 0 ≤ b ∧ b < Xi P 904 19) ∧ (b = -1 → 0 ≤ Xi P 904 115) ∧ (b = -2 → 0 ≤ Xi P 904 116)) (h1 : -9 < a ∧ a ≤ 23) (h2 : -9 < b ∧ b ≤ 23) (hr : 0 ≤ r ∧ r ≤ 5) (hj : j = q.toNat) (h9 : -2 ≤ a ∧ -2 ≤ b) : SYQ U3 q := by
  have x : ∀ k i, k ≠ 971 → k ≠ 975 → k ≠ 972 → Xi U3 k i = Xi P k i := fun k i c1 c2 c3 => by rw [e3, Xi_ne (by omega), e2, Xi_ne (by omega), e1, Xi_ne (by omega)]
  have y1 : Xi U3 971 q.toNat = a := by rw [e3, Xi_ne (by omega), e2, Xi_ne (by omega), e1, hj]; exact Xi_same ⟨by omega, by omega⟩
  have y2 : Xi U3 975 q.toNat = b := by rw [e3, Xi_ne (by omega), e2, hj]; exact Xi_same ⟨by omega, by omega⟩
  have y3 : Xi U3 972 q.toNat = r := by rw [e3, hj]; exact Xi_same ⟨by omega, by omega⟩
  unfold SYQ thK
  rw [y1, y2, y3, x 904 19 (by decide) (by decide) (by decide), x 904 115 (by decide) (by decide) (by decide), x 904 116 (by decide) (by decide) (by decide)]
  refine ⟨?_, ?_, hr.1, hr.2⟩
  · omega
  · omega
theorem SYQ_FR {l : List rec} {S T : sS} {q : Int} (h : FR l S T) (e : (kdis l [(971, 973), (975, 976)] && mD l [19, 115, 116]) = true) (hq : SYQ S q) : SYQ T q := by
  rw [Bool.and_eq_true] at e
  have k := h.smk e.1
  unfold SYQ thK
  rw [mD_x h e.2 19 (by decide), mD_x h e.2 115 (by decide), mD_x h e.2 116 (by decide), k.x 971 rfl, k.x 972 rfl, k.x 975 rfl]
  exact hq
def md_mo_sayings : List rec := [(971, 972, 0, 100000), (972, 973, 0, 100000), (975, 976, 0, 100000)]
abbrev Q_mo_sayings (S : sS) (from_ : Int) (to : Int) (q : Int) : pst := fun r S1 => HI S1 ∧ FR md_mo_sayings S S1 ∧ (∃ z : Int, r = some (iv z) ∧ (0 ≤ z ∧ z ≤ 5002) ∧ (1 ≤ z → SYQ S1 q) ∧ (KQ S1 S q))
set_option maxRecDepth 100000 in
theorem t_mo_sayings {S : sS} (hH : HI S) (from_ : Int) (to : Int) (q : Int) (hfrom_ : 0 ≤ from_ ∧ from_ ≤ 5001) (hto : 0 ≤ to ∧ to ≤ 5001) (hq : 0 ≤ q ∧ q ≤ 2399) (hM : LXM S) (hB : ABV S) (hft : from_ ≤ to) (d : Nat) : Mt lay0 (d + 6) m_mo_sayings [.ref 904, iv from_, iv to, iv q] S (Q_mo_sayings S from_ to q) := by
  refine Mt_R rfl rfl ?_
  have hF : FR md_mo_sayings S S := FR.rf
  have hc47 : 0 ≤ Xi S 904 47 ∧ Xi S 904 47 ≤ 8 := hH.c _ _
  have C8 : ∀ (n8 : Nat) (T1 : sS) (_ : HI T1) (_ : FR md_mo_sayings S T1) (v4 : Int) (v5 : Int), (0 ≤ v4 ∧ v4 ≤ 5002) → (1 ≤ v5 ∧ v5 ≤ 5002) → (from_ < v5) → (v5 ≤ to + 1) → (v4 ≤ v5 - from_ - 1) → (KQ T1 S q) → (1 ≤ v4 → SYQ T1 q) → n8 = (5003 - v5).toNat → Rl lay0 (d + 5) m_mo_sayings 8 [(0, .ref 904), (1, iv from_), (2, iv to), (3, iv q), (4, iv v4), (5, iv v5)] [] T1 (Q_mo_sayings S from_ to q) := by
    intro n8
    induction n8 using Nat.strongRecOn with
    | ind n8 ih8 =>
      intro T1 hHT1 hFT1 v4 v5 w1 w2 w3 w4 w5 K8 E8 hm8
      have w6 : Xi T1 904 115 = Xi S 904 115 := hFT1.x _ _ rfl
      have w7 : Xi T1 904 116 = Xi S 904 116 := hFT1.x _ _ rfl
      have w8 : Xi T1 904 19 = Xi S 904 19 := hFT1.x _ _ rfl
      have C42 : ∀  (T2 : sS) (_ : HI T2) (_ : FR md_mo_sayings S T2) (v4 : Int) (v5 : Int) (v6 : Int), (0 ≤ v4 ∧ v4 ≤ 5002) → (1 ≤ v5 ∧ v5 ≤ 5001) → (-1 ≤ v6 ∧ v6 ≤ 7) → (from_ < v5) → (v5 + 1 < to) → (v4 ≤ v5 - from_ - 1) → (KQ T2 S q) → (1 ≤ v4 → SYQ T2 q) → ((5003 - v5).toNat ≤ n8) → Rl lay0 (d + 5) m_mo_sayings 42 [(0, .ref 904), (1, iv from_), (2, iv to), (3, iv q), (4, iv v4), (5, iv v5), (6, iv v6)] [] T2 (Q_mo_sayings S from_ to q) := by
        intro T2 hHT2 hFT2 v4 v5 v6 w9 w10 w11 w12 w13 w14 K42 E42 w15
        have w16 : Xi T2 904 115 = Xi S 904 115 := hFT2.x _ _ rfl
        have w17 : Xi T2 904 116 = Xi S 904 116 := hFT2.x _ _ rfl
        have w18 : Xi T2 904 19 = Xi S 904 19 := hFT2.x _ _ rfl
        have C141 : ∀  (T3 : sS) (_ : HI T3) (_ : FR md_mo_sayings S T3) (v4 : Int) (v5 : Int), (0 ≤ v4 ∧ v4 ≤ 5002) → (1 ≤ v5 ∧ v5 ≤ 5001) → (from_ < v5) → (v5 + 1 < to) → (v4 ≤ v5 - from_) → (KQ T3 S q) → (1 ≤ v4 → SYQ T3 q) → ((5003 - v5).toNat ≤ n8) → Rl lay0 (d + 5) m_mo_sayings 141 [(0, .ref 904), (1, iv from_), (2, iv to), (3, iv q), (4, iv v4), (5, iv v5)] [] T3 (Q_mo_sayings S from_ to q) := by
          intro T3 hHT3 hFT3 v4 v5 w19 w20 w21 w22 w23 K141 E141 w24
          have w25 : Xi T3 904 115 = Xi S 904 115 := hFT3.x _ _ rfl
          have w26 : Xi T3 904 116 = Xi S 904 116 := hFT3.x _ _ rfl
          have w27 : Xi T3 904 19 = Xi S 904 19 := hFT3.x _ _ rfl
          refine l_iinc rfl rfl rfl rfl ?_
          refine l_goto rfl rfl ?_
          exact Rl_weak (ih8 _ (by omega) T3 hHT3 hFT3 (v4) ((v5 + 1)) (by omega) (by omega) (by omega) (by omega) (by omega) (by first | exact KQ.rf | exact K141) (by first | exact fun q1 => absurd q1 (by omega) | exact E141) rfl) (And.intro rfl (And.intro rfl (And.intro rfl (And.intro rfl (And.intro rfl (And.intro rfl (True.intro)))))))
        refine l_iload rfl rfl ?_
        refine l_iconst rfl ?_
        refine l_icmp_eq rfl rfl (by unfold rg; omega) (by unfold rg; omega) (fun w28 => ?_) (fun w29 => ?_)
        · exact Rl_weak (C141 T2 hHT2 hFT2 (v4) (v5) (by omega) (by omega) (by omega) (by omega) (by omega) (by assumption) (by first | exact fun _ => E137 | exact E42 | exact fun _ => E42 (by omega)) (by omega)) (And.intro rfl (And.intro rfl (And.intro rfl (And.intro rfl (And.intro rfl (And.intro rfl (True.intro)))))))
        · refine l_aload_n rfl rfl ?_
          refine l_gfr rfl rfl rfl rfl rfl (hHT2.r 904 48 941 rfl) ?_
          refine l_iload rfl rfl ?_
          refine l_iaload (n := 8) rfl rfl (by omega) (by omega) (by unfold rg; omega) ?_
          have w30 : 0 ≤ (Xi T2 941 ((v6).toNat)) ∧ (Xi T2 941 ((v6).toNat)) ≤ 5 := hHT2.c _ _
          refine l_istore rfl rfl rfl ?_
          refine l_aload_n rfl rfl ?_
          refine l_iload_n rfl rfl ?_
          refine l_iload rfl rfl ?_
          have w31 : -1 ≤ Xi T2 904 115 ∧ Xi T2 904 115 ≤ 15 := hHT2.c _ _
          have w32 : -1 ≤ Xi T2 904 116 ∧ Xi T2 904 116 ≤ 15 := hHT2.c _ _
          have w33 : 0 ≤ Xi T2 904 19 ∧ Xi T2 904 19 ≤ 24 := hHT2.c _ _
          refine l_callV rfl rfl rfl (t_mo_thingOf hHT2 from_ v5 ⟨by omega, by omega⟩ ⟨by omega, by omega⟩ (by first | assumption | exact (LXM_FR hFT2 rfl (by assumption : LXM S))) _) ?_
          rintro _ _ ⟨rfl, z37, rfl, w37, w34, w35, w36⟩
          show Rl _ _ _ _ _ [iv z37] _ _
          have a61 : (z37 ≠ -9 → z37 ≠ -1 → z37 ≠ -2 → 0 ≤ z37 ∧ z37 < Xi T2 904 19) ∧ (z37 = -1 → 0 ≤ Xi T2 904 115) ∧ (z37 = -2 → 0 ≤ Xi T2 904 116) := ⟨by assumption, by assumption, by assumption⟩
          refine l_istore rfl rfl rfl ?_
          refine l_aload_n rfl rfl ?_
          refine l_iload rfl rfl ?_
          refine l_iconst rfl ?_
          refine l_iadd rfl ?_
          refine l_iload_n rfl rfl ?_
          have w38 : -1 ≤ Xi T2 904 115 ∧ Xi T2 904 115 ≤ 15 := hHT2.c _ _
          have w39 : -1 ≤ Xi T2 904 116 ∧ Xi T2 904 116 ≤ 15 := hHT2.c _ _
          have w40 : 0 ≤ Xi T2 904 19 ∧ Xi T2 904 19 ≤ 24 := hHT2.c _ _
          refine l_callV rfl rfl rfl (t_mo_thingOf hHT2 (v5 + 1) to ⟨by omega, by omega⟩ ⟨by omega, by omega⟩ (by first | assumption | exact (LXM_FR hFT2 rfl (by assumption : LXM S))) _) ?_
          rintro _ _ ⟨rfl, z44, rfl, w44, w41, w42, w43⟩
          show Rl _ _ _ _ _ [iv z44] _ _
          have a72 : (z44 ≠ -9 → z44 ≠ -1 → z44 ≠ -2 → 0 ≤ z44 ∧ z44 < Xi T2 904 19) ∧ (z44 = -1 → 0 ≤ Xi T2 904 115) ∧ (z44 = -2 → 0 ≤ Xi T2 904 116) := ⟨by assumption, by assumption, by assumption⟩
          refine l_istore rfl rfl rfl ?_
          refine l_aload_n rfl rfl ?_
          refine l_iload rfl rfl ?_
          refine l_aload_n rfl rfl ?_
          refine l_gfr rfl rfl rfl rfl rfl (hHT2.r 904 42 936 rfl) ?_
          refine l_iload rfl rfl ?_
          refine l_iaload (n := 6) rfl rfl (by omega) (by omega) (by unfold rg; omega) ?_
          have w45 : 0 ≤ (Xi T2 936 (((Xi T2 941 ((v6).toNat))).toNat)) ∧ (Xi T2 936 (((Xi T2 941 ((v6).toNat))).toNat)) ≤ 15 := hHT2.c _ _
          refine l_callV rfl rfl rfl (t_mo_fits hHT2 z37 (Xi T2 936 (((Xi T2 941 ((v6).toNat))).toNat)) ⟨by omega, by omega⟩ ⟨by omega, by omega⟩ (by first | assumption | exact (ABV_FR hFT2 rfl (by assumption : ABV S))) (by first | assumption | omega) _) ?_
          rintro _ _ ⟨rfl, z47, rfl, w47, w46⟩
          show Rl _ _ _ _ _ [iv z47] _ _
          refine l_if_eq rfl rfl (by unfold rg; omega) (fun w48 => ?_) (fun w49 => ?_)
          · exact Rl_weak (C141 T2 hHT2 hFT2 (v4) (v5) (by omega) (by omega) (by omega) (by omega) (by omega) (by assumption) (by first | exact fun _ => E137 | exact E42 | exact fun _ => E42 (by omega)) (by omega)) (And.intro rfl (And.intro rfl (And.intro rfl (And.intro rfl (And.intro rfl (And.intro rfl (True.intro)))))))
          · refine l_aload_n rfl rfl ?_
            refine l_iload rfl rfl ?_
            refine l_aload_n rfl rfl ?_
            refine l_gfr rfl rfl rfl rfl rfl (hHT2.r 904 43 937 rfl) ?_
            refine l_iload rfl rfl ?_
            refine l_iaload (n := 6) rfl rfl (by omega) (by omega) (by unfold rg; omega) ?_
            have w50 : 0 ≤ (Xi T2 937 (((Xi T2 941 ((v6).toNat))).toNat)) ∧ (Xi T2 937 (((Xi T2 941 ((v6).toNat))).toNat)) ≤ 15 := hHT2.c _ _
            refine l_callV rfl rfl rfl (t_mo_fits hHT2 z44 (Xi T2 937 (((Xi T2 941 ((v6).toNat))).toNat)) ⟨by omega, by omega⟩ ⟨by omega, by omega⟩ (by first | assumption | exact (ABV_FR hFT2 rfl (by assumption : ABV S))) (by first | assumption | omega) _) ?_
            rintro _ _ ⟨rfl, z52, rfl, w52, w51⟩
            show Rl _ _ _ _ _ [iv z52] _ _
            refine l_if_eq rfl rfl (by unfold rg; omega) (fun w53 => ?_) (fun w54 => ?_)
            · exact Rl_weak (C141 T2 hHT2 hFT2 (v4) (v5) (by omega) (by omega) (by omega) (by omega) (by omega) (by assumption) (by first | exact fun _ => E137 | exact E42 | exact fun _ => E42 (by omega)) (by omega)) (And.intro rfl (And.intro rfl (And.intro rfl (And.intro rfl (And.intro rfl (And.intro rfl (True.intro)))))))
            · refine l_iload rfl rfl ?_
              refine l_if_ne rfl rfl (by unfold rg; omega) (fun w55 => ?_) (fun w56 => ?_)
              · refine l_iinc rfl rfl rfl rfl ?_
                exact Rl_weak (C141 T2 hHT2 hFT2 ((v4 + 1)) (v5) (by omega) (by omega) (by omega) (by omega) (by omega) (by assumption) (by first | exact fun _ => E137 | exact E42 | exact fun _ => E42 (by omega)) (by omega)) (And.intro rfl (And.intro rfl (And.intro rfl (And.intro rfl (And.intro rfl (And.intro rfl (True.intro)))))))
              · refine l_aload_n rfl rfl ?_
                refine l_gfr rfl rfl rfl rfl rfl (hHT2.r 904 120 971 rfl) ?_
                refine l_iload_n rfl rfl ?_
                refine l_iload rfl rfl ?_
                refine l_iastore (n := 2400) rfl rfl (by omega) (by omega) (by unfold rg; omega) ?_
                obtain ⟨U4, eU4⟩ : ∃ T : sS, T = uI T2 971 ((q).toNat) (Int32.ofInt z37) := ⟨_, rfl⟩
                rw [← eU4]
                have hHU4 : HI U4 := by rw [eU4]; exact HI_w hHT2 (show -9 ≤ z37 by omega) (show z37 ≤ 23 by omega)
                have hFU4 : FR md_mo_sayings S U4 := by rw [eU4]; exact FR.wI hFT2 (mdf_i (r := (971, 972, 0, 100000)) (List.mem_of_getElem? (i := 0) rfl) (inR_i (by omega) (by omega) (by omega) (by omega)))
                have w57 : Xi U4 971 ((q).toNat) = z37 := by rw [eU4]; exact Xi_same (by unfold rg; omega)
                have k121 : KQ U4 S q := KQ.w K42 eU4 (by omega)
                refine l_aload_n rfl rfl ?_
                refine l_gfr rfl rfl rfl rfl rfl (hHU4.r 904 124 975 rfl) ?_
                refine l_iload_n rfl rfl ?_
                refine l_iload rfl rfl ?_
                refine l_iastore (n := 2400) rfl rfl (by omega) (by omega) (by unfold rg; omega) ?_
                obtain ⟨U5, eU5⟩ : ∃ T : sS, T = uI U4 975 ((q).toNat) (Int32.ofInt z44) := ⟨_, rfl⟩
                rw [← eU5]
                have hHU5 : HI U5 := by rw [eU5]; exact HI_w hHU4 (show -9 ≤ z44 by omega) (show z44 ≤ 23 by omega)
                have hFU5 : FR md_mo_sayings S U5 := by rw [eU5]; exact FR.wI hFU4 (mdf_i (r := (975, 976, 0, 100000)) (List.mem_of_getElem? (i := 2) rfl) (inR_i (by omega) (by omega) (by omega) (by omega)))
                have w58 : Xi U5 975 ((q).toNat) = z44 := by rw [eU5]; exact Xi_same (by unfold rg; omega)
                have k129 : KQ U5 S q := KQ.w k121 eU5 (by omega)
                refine l_aload_n rfl rfl ?_
                refine l_gfr rfl rfl rfl rfl rfl (hHU5.r 904 121 972 rfl) ?_
                refine l_iload_n rfl rfl ?_
                refine l_iload rfl rfl ?_
                refine l_iastore (n := 2400) rfl rfl (by omega) (by omega) (by unfold rg; omega) ?_
                obtain ⟨U6, eU6⟩ : ∃ T : sS, T = uI U5 972 ((q).toNat) (Int32.ofInt (Xi T2 941 ((v6).toNat))) := ⟨_, rfl⟩
                rw [← eU6]
                have hHU6 : HI U6 := by rw [eU6]; exact HI_w hHU5 (show -1 ≤ (Xi T2 941 ((v6).toNat)) by omega) (show (Xi T2 941 ((v6).toNat)) ≤ 11 by omega)
                have hFU6 : FR md_mo_sayings S U6 := by rw [eU6]; exact FR.wI hFU5 (mdf_i (r := (972, 973, 0, 100000)) (List.mem_of_getElem? (i := 1) rfl) (inR_i (by omega) (by omega) (by omega) (by omega)))
                have w59 : Xi U6 972 ((q).toNat) = (Xi T2 941 ((v6).toNat)) := by rw [eU6]; exact Xi_same (by unfold rg; omega)
                have k137 : KQ U6 S q := KQ.w k129 eU6 (by omega)
                have E137 : SYQ U6 q := syq_i eU4 eU5 eU6 a61 a72 (by omega) (by omega) (by omega) (by omega) (by omega)
                refine l_iinc rfl rfl rfl rfl ?_
                exact Rl_weak (C141 U6 hHU6 hFU6 ((v4 + 1)) (v5) (by omega) (by omega) (by omega) (by omega) (by omega) (by assumption) (by first | exact fun _ => E137 | exact E42 | exact fun _ => E42 (by omega)) (by omega)) (And.intro rfl (And.intro rfl (And.intro rfl (And.intro rfl (And.intro rfl (And.intro rfl (True.intro)))))))
      refine l_iload rfl rfl ?_
      refine l_iconst rfl ?_
      refine l_iadd rfl ?_
      refine l_iload_n rfl rfl ?_
      refine l_icmp_ge rfl rfl (by unfold rg; omega) (by unfold rg; omega) (fun w60 => ?_) (fun w61 => ?_)
      · refine l_iload rfl rfl ?_
        refine l_ireturn rfl rfl ?_
        exact ⟨hHT1, hFT1, _, rfl, ⟨by omega, by omega⟩, (E8), (K8)⟩
      · refine l_aload_n rfl rfl ?_
        refine l_gfr rfl rfl rfl rfl rfl (hHT1.r 904 4 907 rfl) ?_
        refine l_iload rfl rfl ?_
        refine l_iaload (n := 5002) rfl rfl (by omega) (by omega) (by unfold rg; omega) ?_
        have w62 : 0 ≤ (Xi T1 907 ((v5).toNat)) ∧ (Xi T1 907 ((v5).toNat)) ≤ 154 := hHT1.c _ _
        refine l_iconst rfl ?_
        refine l_icmp_ne rfl rfl (by unfold rg; omega) (by unfold rg; omega) (fun w63 => ?_) (fun w64 => ?_)
        · refine l_iconst rfl ?_
          refine l_istore rfl rfl rfl ?_
          exact Rl_weak (C42 T1 hHT1 hFT1 (v4) (v5) ((-1)) (by omega) (by omega) (by omega) (by omega) (by omega) (by omega) (K8) (E8) (by omega)) (And.intro rfl (And.intro rfl (And.intro rfl (And.intro rfl (And.intro rfl (And.intro rfl (And.intro rfl (True.intro))))))))
        · refine l_aload_n rfl rfl ?_
          refine l_iload rfl rfl ?_
          refine l_iconst rfl ?_
          refine l_bipush rfl rfl ?_
          refine l_callV rfl rfl rfl (t_mo_means hHT1 v5 1 10 ⟨by omega, by omega⟩ ⟨by omega, by omega⟩ ⟨by omega, by omega⟩ (by first | assumption | omega) (by first | assumption | exact (LXM_FR hFT1 rfl (by assumption : LXM S))) _) ?_
          rintro _ _ ⟨rfl, z66, rfl, w66, w65⟩
          show Rl _ _ _ _ _ [iv z66] _ _
          have c33 : 0 ≤ Xi T1 904 47 ∧ Xi T1 904 47 ≤ 8 := hHT1.c _ _
          have x33 : z66 ≠ -1 → z66 < 8 := fun q => by have t := (by assumption : z66 ≠ -1 → z66 < cM T1 10) q; rw [cM10] at t; omega
          refine l_goto rfl rfl ?_
          refine l_istore rfl rfl rfl ?_
          exact Rl_weak (C42 T1 hHT1 hFT1 (v4) (v5) (z66) (by omega) (by omega) (by omega) (by omega) (by omega) (by omega) (K8) (E8) (by omega)) (And.intro rfl (And.intro rfl (And.intro rfl (And.intro rfl (And.intro rfl (And.intro rfl (And.intro rfl (True.intro))))))))
  refine l_iconst rfl ?_
  refine l_istore rfl rfl rfl ?_
  refine l_iload_n rfl rfl ?_
  refine l_iconst rfl ?_
  refine l_iadd rfl ?_
  refine l_istore rfl rfl rfl ?_
  exact Rl_weak (C8 _ S hH hF (0) ((from_ + 1)) (by omega) (by omega) (by omega) (by omega) (by omega) (by first | exact KQ.rf | exact K141) (by first | exact fun q1 => absurd q1 (by omega) | exact E141) rfl) (And.intro rfl (And.intro rfl (And.intro rfl (And.intro rfl (And.intro rfl (And.intro rfl (True.intro)))))))
abbrev Q_mo_packed (S : sS) (i : Nat) (xi : String × Nat × String × List Int32) : pst := fun r S1 => S = S1 ∧ (∃ z : Int, r = some (jw z))
set_option maxRecDepth 100000 in
theorem t_mo_packed {S : sS} (hH : HI S) (i : Nat) (xi : String × Nat × String × List Int32) (hi : strT[i]? = some xi) (d : Nat) : Mt lay0 (d + 4) m_mo_packed [.ref (SB + i)] S (Q_mo_packed S i xi) := by
  refine Mt_R rfl rfl ?_
  have hsli := str_sm hi
  have C4 : ∀ (n4 : Nat) (v1 : Int) (v3 : Int), (0 ≤ v3 ∧ v3 ≤ 400) → n4 = (400 - v3).toNat → Rl lay0 (d + 3) m_mo_packed 4 [(0, .ref (SB + i)), (1, jw v1), (3, iv v3)] [] S (Q_mo_packed S i xi) := by
    intro n4
    induction n4 using Nat.strongRecOn with
    | ind n4 ih4 =>
      intro v1 v3 w1 hm4
      refine l_iload_n rfl rfl ?_
      refine l_aload_n rfl rfl ?_
      refine l_callT rfl rfl (cOkT0 (str_is hi) rfl) (t_js_length hi _) ?_
      rintro _ _ ⟨rfl, rfl⟩
      show Rl _ _ _ _ _ [iv (xi.2.2.2.length : Int), iv v3] _ _
      refine l_icmp_ge rfl rfl (by unfold rg; omega) (by unfold rg; omega) (fun w3 => ?_) (fun w4 => ?_)
      · refine l_lload_n rfl rfl ?_
        refine l_lreturn rfl rfl ?_
        exact ⟨rfl, _, rfl⟩
      · refine l_lload_n rfl rfl ?_
        refine l_iconst rfl ?_
        refine l_lshlF rfl ?_
        have w5 : rgL (lshlF v1 5) := lshlF_rg
        refine l_aload_n rfl rfl ?_
        refine l_iload_n rfl rfl ?_
        refine l_callT rfl rfl (cOkT1 (str_is hi) rfl) (t_js_charAt hi (by omega) (by omega) _) ?_
        rintro _ _ ⟨rfl, c6, rfl, w6⟩
        show Rl _ _ _ _ _ [iv c6, jw (lshlF v1 5)] _ _
        refine l_bipush rfl rfl ?_
        refine l_isub rfl ?_
        refine l_i2l rfl (by unfold rg; omega) ?_
        refine l_lorF rfl ?_
        have w7 : rgL (lorF (lshlF v1 5) (c6 - 96)) := lorF_rg
        refine l_lstore_n rfl rfl rfl rfl ?_
        refine l_iinc rfl rfl rfl rfl ?_
        refine l_goto rfl rfl ?_
        exact Rl_weak (ih4 _ (by omega) ((lorF (lshlF v1 5) (c6 - 96))) ((v3 + 1)) (by omega) rfl) (And.intro rfl (And.intro rfl (And.intro rfl (True.intro))))
  refine l_lconst (z := 0) rfl rfl ?_
  refine l_lstore_n rfl rfl rfl rfl ?_
  refine l_iconst rfl ?_
  refine l_istore_n rfl rfl rfl ?_
  exact Rl_weak (C4 _ (0) (0) (by omega) rfl) (And.intro rfl (And.intro rfl (And.intro rfl (True.intro))))
def md_mo_slot : List rec := [(904, 905, 150, 151), (991, 992, 0, 100000)]
abbrev Q_mo_slot (S : sS) (from_ : Int) (end_ : Int) : pst := fun r S1 => HI S1 ∧ FR md_mo_slot S S1 ∧ (∃ z : Int, r = some (iv z) ∧ (-1 ≤ z ∧ z ≤ 5000) ∧ (z ≠ -1 → from_ < z ∧ z ≤ end_))
set_option maxRecDepth 100000 in
theorem t_mo_slot {S : sS} (hH : HI S) (from_ : Int) (end_ : Int) (hfrom_ : 0 ≤ from_ ∧ from_ ≤ 5000) (hend_ : 0 ≤ end_ ∧ end_ ≤ 5000) (hfe : from_ ≤ end_) (h0 : Xi S 904 150 = 0) (d : Nat) : Mt lay0 (d + 4) m_mo_slot [.ref 904, iv from_, iv end_] S (Q_mo_slot S from_ end_) := by
  refine Mt_R rfl rfl ?_
  have hF : FR md_mo_slot S S := FR.rf
  have w1 : 0 ≤ Xi S 904 150 ∧ Xi S 904 150 ≤ 5000 := hH.c _ _
  have C2 : ∀ (n2 : Nat) (T1 : sS) (_ : HI T1) (_ : FR md_mo_slot S T1) (v3 : Int), (0 ≤ v3 ∧ v3 ≤ 5000) → (from_ ≤ v3) → (v3 ≤ end_) → (Xi T1 904 150 ≤ v3 - from_) → n2 = (5001 - v3).toNat → Rl lay0 (d + 3) m_mo_slot 2 [(0, .ref 904), (2, iv end_), (3, iv v3)] [] T1 (Q_mo_slot S from_ end_) := by
    intro n2
    induction n2 using Nat.strongRecOn with
    | ind n2 ih2 =>
      intro T1 hHT1 hFT1 v3 w2 w3 w4 w5 hm2
      have w6 : 0 ≤ Xi T1 904 150 ∧ Xi T1 904 150 ≤ 5000 := hHT1.c _ _
      have C50 : ∀ (n50 : Nat) (T2 : sS) (_ : HI T2) (_ : FR md_mo_slot S T2) (v3 : Int) (v4 : Int), (0 ≤ v3 ∧ v3 ≤ 4999) → (0 ≤ v4 ∧ v4 ≤ 5000) → (from_ ≤ v3) → (v3 < end_) → (v3 ≤ v4) → (v4 ≤ end_) → (Xi T2 904 150 ≤ v3 - from_) → (v4 = v3 → ltr (Xi S 906 (v4).toNat) = 1) → ((5001 - v3).toNat ≤ n2) → n50 = (5001 - v4).toNat → Rl lay0 (d + 3) m_mo_slot 50 [(0, .ref 904), (2, iv end_), (3, iv v3), (4, iv v4)] [] T2 (Q_mo_slot S from_ end_) := by
        intro n50
        induction n50 using Nat.strongRecOn with
        | ind n50 ih50 =>
          intro T2 hHT2 hFT2 v3 v4 w7 w8 w9 w10 w11 w12 w13 hl50 w14 hm50
          have w15 : 0 ≤ Xi T2 904 150 ∧ Xi T2 904 150 ≤ 5000 := hHT2.c _ _
          have C75 : ∀  (T3 : sS) (_ : HI T3) (_ : FR md_mo_slot S T3) (v3 : Int) (v4 : Int), (0 ≤ v3 ∧ v3 ≤ 4999) → (0 ≤ v4 ∧ v4 ≤ 5000) → (from_ ≤ v3) → (v3 < v4) → (v4 ≤ end_) → (Xi T3 904 150 ≤ v3 - from_) → ((5001 - v3).toNat ≤ n2) → Rl lay0 (d + 3) m_mo_slot 75 [(0, .ref 904), (2, iv end_), (3, iv v3), (4, iv v4)] [] T3 (Q_mo_slot S from_ end_) := by
            intro T3 hHT3 hFT3 v3 v4 w16 w17 w18 w19 w20 w21 w22
            have w23 : 0 ≤ Xi T3 904 150 ∧ Xi T3 904 150 ≤ 5000 := hHT3.c _ _
            refine l_iload rfl rfl ?_
            refine l_iload_n rfl rfl ?_
            refine l_isub rfl ?_
            refine l_bipush rfl rfl ?_
            refine l_icmp_gt rfl rfl (by unfold rg; omega) (by unfold rg; omega) (fun w24 => ?_) (fun w25 => ?_)
            · refine l_iconst rfl ?_
              refine l_ireturn rfl rfl ?_
              have w26 : 0 ≤ Xi T3 904 150 ∧ Xi T3 904 150 ≤ 5000 := hHT3.c _ _
              exact ⟨hHT3, hFT3, _, rfl, ⟨by omega, by omega⟩, (by first | assumption | omega)⟩
            · refine l_aload_n rfl rfl ?_
              refine l_aload_n rfl rfl ?_
              refine l_gfr rfl rfl rfl rfl rfl (hHT3.r 904 2 906 rfl) ?_
              refine l_iload_n rfl rfl ?_
              refine l_iload rfl rfl ?_
              refine l_iload_n rfl rfl ?_
              refine l_isub rfl ?_
              have w27 : 0 ≤ Xi T3 904 150 ∧ Xi T3 904 150 ≤ 5000 := hHT3.c _ _
              refine l_callS rfl rfl (by decide) rfl (t_mo_wordOf hHT3 906 v3 (v4 - v3) (Or.inr rfl) ⟨by omega, by omega⟩ ⟨by omega, by omega⟩ (by first | assumption | omega) _) ?_
              rintro _ _ ⟨rfl, z28, rfl⟩
              show Rl _ _ _ _ _ [jw z28, .ref 904] _ _
              have w29 : 0 ≤ Xi T3 904 150 ∧ Xi T3 904 150 ≤ 5000 := hHT3.c _ _
              refine l_callV rfl rfl rfl (t_mo_keyOf hHT3 z28 _) ?_
              rintro _ _ ⟨rfl, z30, rfl, w30⟩
              show Rl _ _ _ _ _ [iv z30] _ _
              refine l_iconst rfl ?_
              refine l_icmp_eq rfl rfl (by unfold rg; omega) (by unfold rg; omega) (fun w31 => ?_) (fun w32 => ?_)
              · refine l_aload_n rfl rfl ?_
                refine l_gfi rfl rfl rfl rfl rfl ?_
                refine l_iconst rfl ?_
                refine l_icmp_ge rfl rfl (by unfold rg; omega) (by unfold rg; omega) (fun w33 => ?_) (fun w34 => ?_)
                · refine l_aload_n rfl rfl ?_
                  refine l_dup rfl rfl ?_
                  refine l_gfi rfl rfl rfl rfl rfl ?_
                  refine l_iconst rfl ?_
                  refine l_iadd rfl ?_
                  refine l_pfi rfl rfl rfl rfl ?_
                  obtain ⟨U4, eU4⟩ : ∃ T : sS, T = uI T3 904 150 (Int32.ofInt ((Xi T3 904 150) + 1)) := ⟨_, rfl⟩
                  rw [← eU4]
                  have hHU4 : HI U4 := by rw [eU4]; exact HI_w hHT3 (show 0 ≤ ((Xi T3 904 150) + 1) by omega) (show ((Xi T3 904 150) + 1) ≤ 5000 by omega)
                  have hFU4 : FR md_mo_slot S U4 := by rw [eU4]; exact FR.wI hFT3 (mdf_i (r := (904, 905, 150, 151)) (List.mem_of_getElem? (i := 0) rfl) (inR_i (by omega) (by omega) (by omega) (by omega)))
                  have w35 : Xi U4 904 150 = ((Xi T3 904 150) + 1) := by rw [eU4]; exact Xi_same (by unfold rg; omega)
                  refine l_iload rfl rfl ?_
                  refine l_istore_n rfl rfl rfl ?_
                  refine l_goto rfl rfl ?_
                  have w36 : 0 ≤ Xi U4 904 150 ∧ Xi U4 904 150 ≤ 5000 := hHU4.c _ _
                  exact Rl_weak (ih2 _ (by omega) U4 hHU4 hFU4 (v4) (by omega) (by omega) (by omega) (by omega) rfl) (And.intro rfl (And.intro rfl (And.intro rfl (True.intro))))
                · refine l_aload_n rfl rfl ?_
                  refine l_gfr rfl rfl rfl rfl rfl (hHT3.r 904 149 991 rfl) ?_
                  refine l_aload_n rfl rfl ?_
                  refine l_gfi rfl rfl rfl rfl rfl ?_
                  refine l_aload_n rfl rfl ?_
                  refine l_gfr rfl rfl rfl rfl rfl (hHT3.r 904 2 906 rfl) ?_
                  refine l_iload_n rfl rfl ?_
                  refine l_iload rfl rfl ?_
                  refine l_iload_n rfl rfl ?_
                  refine l_isub rfl ?_
                  have w37 : 0 ≤ Xi T3 904 150 ∧ Xi T3 904 150 ≤ 5000 := hHT3.c _ _
                  refine l_callS rfl rfl (by decide) rfl (t_mo_wordOf hHT3 906 v3 (v4 - v3) (Or.inr rfl) ⟨by omega, by omega⟩ ⟨by omega, by omega⟩ (by first | assumption | omega) _) ?_
                  rintro _ _ ⟨rfl, z38, rfl⟩
                  show Rl _ _ _ _ _ [jw z38, iv (Xi T3 904 150), .ref 991] _ _
                  refine l_lastore (n := 3) rfl rfl (by omega) (by omega) (by unfold rg; omega) ?_
                  obtain ⟨U5, eU5⟩ : ∃ T : sS, T = uJ T3 991 (((Xi T3 904 150)).toNat) (Int64.ofInt z38) := ⟨_, rfl⟩
                  rw [← eU5]
                  have hHU5 : HI U5 := by rw [eU5]; exact HI_J hHT3
                  have hFU5 : FR md_mo_slot S U5 := by rw [eU5]; exact FR.wJ hFT3 (mdf_i (r := (991, 992, 0, 100000)) (List.mem_of_getElem? (i := 1) rfl) (inR_i (by omega) (by omega) (by omega) (by omega)))
                  refine l_aload_n rfl rfl ?_
                  refine l_dup rfl rfl ?_
                  refine l_gfi rfl rfl rfl rfl rfl ?_
                  have w39 : (Xi U5 904 150) = (Xi T3 904 150) := (show Xi U5 904 150 = Xi T3 904 150 from by rw [eU5]; rfl)
                  rw [w39]
                  refine l_iconst rfl ?_
                  refine l_iadd rfl ?_
                  refine l_pfi rfl rfl rfl rfl ?_
                  obtain ⟨U6, eU6⟩ : ∃ T : sS, T = uI U5 904 150 (Int32.ofInt ((Xi T3 904 150) + 1)) := ⟨_, rfl⟩
                  rw [← eU6]
                  have hHU6 : HI U6 := by rw [eU6]; exact HI_w hHU5 (show 0 ≤ ((Xi T3 904 150) + 1) by omega) (show ((Xi T3 904 150) + 1) ≤ 5000 by omega)
                  have hFU6 : FR md_mo_slot S U6 := by rw [eU6]; exact FR.wI hFU5 (mdf_i (r := (904, 905, 150, 151)) (List.mem_of_getElem? (i := 0) rfl) (inR_i (by omega) (by omega) (by omega) (by omega)))
                  have w40 : Xi U6 904 150 = ((Xi T3 904 150) + 1) := by rw [eU6]; exact Xi_same (by unfold rg; omega)
                  refine l_iload rfl rfl ?_
                  refine l_istore_n rfl rfl rfl ?_
                  refine l_goto rfl rfl ?_
                  have w41 : 0 ≤ Xi U6 904 150 ∧ Xi U6 904 150 ≤ 5000 := hHU6.c _ _
                  exact Rl_weak (ih2 _ (by omega) U6 hHU6 hFU6 (v4) (by omega) (by omega) (by omega) (by omega) rfl) (And.intro rfl (And.intro rfl (And.intro rfl (True.intro))))
              · refine l_iconst rfl ?_
                refine l_ireturn rfl rfl ?_
                have w42 : 0 ≤ Xi T3 904 150 ∧ Xi T3 904 150 ≤ 5000 := hHT3.c _ _
                exact ⟨hHT3, hFT3, _, rfl, ⟨by omega, by omega⟩, (by first | assumption | omega)⟩
          refine l_iload rfl rfl ?_
          refine l_iload_n rfl rfl ?_
          refine l_icmp_ge rfl rfl (by unfold rg; omega) (by unfold rg; omega) (fun w43 => ?_) (fun w44 => ?_)
          · have w45 : 0 ≤ Xi T2 904 150 ∧ Xi T2 904 150 ≤ 5000 := hHT2.c _ _
            exact Rl_weak (C75 T2 hHT2 hFT2 (v3) (v4) (by omega) (by omega) (by omega) (by omega) (by omega) (by omega) (by omega)) (And.intro rfl (And.intro rfl (And.intro rfl (And.intro rfl (True.intro)))))
          · refine l_aload_n rfl rfl ?_
            refine l_gfr rfl rfl rfl rfl rfl (hHT2.r 904 2 906 rfl) ?_
            refine l_iload rfl rfl ?_
            refine l_baload (n := 5000) rfl rfl rfl (by decide) (by omega) (by omega) (by unfold rg; omega) ?_
            have w46 : -128 ≤ (Xi T2 906 ((v4).toNat)) ∧ (Xi T2 906 ((v4).toNat)) ≤ 127 := hHT2.c _ _
            have e62 : (Xi T2 906 ((v4).toNat)) = Xi S 906 (v4).toNat := by first | rfl | exact (hFT2.cx 906 rfl _).1
            have w47 : 0 ≤ Xi T2 904 150 ∧ Xi T2 904 150 ≤ 5000 := hHT2.c _ _
            refine l_callS rfl rfl (by decide) rfl (t_mo_isLetter hHT2 (Xi T2 906 ((v4).toNat)) ⟨by omega, by omega⟩ _) ?_
            rintro _ _ ⟨rfl, z49, rfl, w49, w48⟩
            show Rl _ _ _ _ _ [iv z49] _ _
            have l63 : v4 = v3 → z49 = 1 := fun q => by rw [(by assumption : z49 = ltr _), e62]; exact hl50 q
            refine l_if_eq rfl rfl (by unfold rg; omega) (fun w50 => ?_) (fun w51 => ?_)
            · have w52 : 0 ≤ Xi T2 904 150 ∧ Xi T2 904 150 ≤ 5000 := hHT2.c _ _
              exact Rl_weak (C75 T2 hHT2 hFT2 (v3) (v4) (by omega) (by omega) (by omega) (by omega) (by omega) (by omega) (by omega)) (And.intro rfl (And.intro rfl (And.intro rfl (And.intro rfl (True.intro)))))
            · refine l_iinc rfl rfl rfl rfl ?_
              refine l_goto rfl rfl ?_
              have w53 : 0 ≤ Xi T2 904 150 ∧ Xi T2 904 150 ≤ 5000 := hHT2.c _ _
              exact Rl_weak (ih50 _ (by omega) T2 hHT2 hFT2 (v3) ((v4 + 1)) (by omega) (by omega) (by omega) (by omega) (by omega) (by omega) (by omega) (by first | exact fun _ => by omega | exact fun q => by omega) (by omega) rfl) (And.intro rfl (And.intro rfl (And.intro rfl (And.intro rfl (True.intro)))))
      have C153 : ∀  (T7 : sS) (_ : HI T7) (_ : FR md_mo_slot S T7) (v3 : Int), (0 ≤ v3 ∧ v3 ≤ 5000) → (from_ ≤ v3) → (v3 ≤ end_) → Rl lay0 (d + 3) m_mo_slot 153 [(0, .ref 904), (2, iv end_), (3, iv v3)] [] T7 (Q_mo_slot S from_ end_) := by
        intro T7 hHT7 hFT7 v3 w54 w55 w56
        refine l_iload_n rfl rfl ?_
        refine l_iload_n rfl rfl ?_
        refine l_icmp_ge rfl rfl (by unfold rg; omega) (by unfold rg; omega) (fun w57 => ?_) (fun w58 => ?_)
        · refine l_iconst rfl ?_
          refine l_ireturn rfl rfl ?_
          have w59 : 0 ≤ Xi T7 904 150 ∧ Xi T7 904 150 ≤ 5000 := hHT7.c _ _
          exact ⟨hHT7, hFT7, _, rfl, ⟨by omega, by omega⟩, (by first | assumption | omega)⟩
        · refine l_aload_n rfl rfl ?_
          refine l_gfi rfl rfl rfl rfl rfl ?_
          have w60 : 0 ≤ (Xi T7 904 150) ∧ (Xi T7 904 150) ≤ 5000 := hHT7.c _ _
          refine l_if_le rfl rfl (by unfold rg; omega) (fun w61 => ?_) (fun w62 => ?_)
          · refine l_iconst rfl ?_
            refine l_ireturn rfl rfl ?_
            have w63 : 0 ≤ Xi T7 904 150 ∧ Xi T7 904 150 ≤ 5000 := hHT7.c _ _
            exact ⟨hHT7, hFT7, _, rfl, ⟨by omega, by omega⟩, (by first | assumption | omega)⟩
          · refine l_iload_n rfl rfl ?_
            refine l_iconst rfl ?_
            refine l_iadd rfl ?_
            refine l_goto rfl rfl ?_
            refine l_ireturn rfl rfl ?_
            have w64 : 0 ≤ Xi T7 904 150 ∧ Xi T7 904 150 ≤ 5000 := hHT7.c _ _
            exact ⟨hHT7, hFT7, _, rfl, ⟨by omega, by omega⟩, (by first | assumption | omega)⟩
      refine l_iload_n rfl rfl ?_
      refine l_iload_n rfl rfl ?_
      refine l_icmp_ge rfl rfl (by unfold rg; omega) (by unfold rg; omega) (fun w65 => ?_) (fun w66 => ?_)
      · have w67 : 0 ≤ Xi T1 904 150 ∧ Xi T1 904 150 ≤ 5000 := hHT1.c _ _
        exact Rl_weak (C153 T1 hHT1 hFT1 (v3) (by omega) (by omega) (by omega)) (And.intro rfl (And.intro rfl (And.intro rfl (True.intro))))
      · refine l_aload_n rfl rfl ?_
        refine l_gfr rfl rfl rfl rfl rfl (hHT1.r 904 2 906 rfl) ?_
        refine l_iload_n rfl rfl ?_
        refine l_baload (n := 5000) rfl rfl rfl (by decide) (by omega) (by omega) (by unfold rg; omega) ?_
        have w68 : -128 ≤ (Xi T1 906 ((v3).toNat)) ∧ (Xi T1 906 ((v3).toNat)) ≤ 127 := hHT1.c _ _
        refine l_bipush rfl rfl ?_
        refine l_icmp_eq rfl rfl (by unfold rg; omega) (by unfold rg; omega) (fun w69 => ?_) (fun w70 => ?_)
        · have w71 : 0 ≤ Xi T1 904 150 ∧ Xi T1 904 150 ≤ 5000 := hHT1.c _ _
          exact Rl_weak (C153 T1 hHT1 hFT1 (v3) (by omega) (by omega) (by omega)) (And.intro rfl (And.intro rfl (And.intro rfl (True.intro))))
        · refine l_aload_n rfl rfl ?_
          refine l_gfr rfl rfl rfl rfl rfl (hHT1.r 904 2 906 rfl) ?_
          refine l_iload_n rfl rfl ?_
          refine l_baload (n := 5000) rfl rfl rfl (by decide) (by omega) (by omega) (by unfold rg; omega) ?_
          refine l_bipush rfl rfl ?_
          refine l_icmp_ne rfl rfl (by unfold rg; omega) (by unfold rg; omega) (fun w72 => ?_) (fun w73 => ?_)
          · refine l_aload_n rfl rfl ?_
            refine l_gfr rfl rfl rfl rfl rfl (hHT1.r 904 2 906 rfl) ?_
            refine l_iload_n rfl rfl ?_
            refine l_baload (n := 5000) rfl rfl rfl (by decide) (by omega) (by omega) (by unfold rg; omega) ?_
            have e40 : (Xi T1 906 ((v3).toNat)) = Xi S 906 (v3).toNat := by first | rfl | exact (hFT1.cx 906 rfl _).1
            have w74 : 0 ≤ Xi T1 904 150 ∧ Xi T1 904 150 ≤ 5000 := hHT1.c _ _
            refine l_callS rfl rfl (by decide) rfl (t_mo_isLetter hHT1 (Xi T1 906 ((v3).toNat)) ⟨by omega, by omega⟩ _) ?_
            rintro _ _ ⟨rfl, z76, rfl, w76, w75⟩
            show Rl _ _ _ _ _ [iv z76] _ _
            have l41 : z76 = ltr (Xi S 906 (v3).toNat) := by rw [← e40]; assumption
            refine l_if_eq rfl rfl (by unfold rg; omega) (fun w77 => ?_) (fun w78 => ?_)
            · refine l_iconst rfl ?_
              refine l_ireturn rfl rfl ?_
              have w79 : 0 ≤ Xi T1 904 150 ∧ Xi T1 904 150 ≤ 5000 := hHT1.c _ _
              exact ⟨hHT1, hFT1, _, rfl, ⟨by omega, by omega⟩, (by first | assumption | omega)⟩
            · refine l_iload_n rfl rfl ?_
              refine l_istore rfl rfl rfl ?_
              have w80 : 0 ≤ Xi T1 904 150 ∧ Xi T1 904 150 ≤ 5000 := hHT1.c _ _
              exact Rl_weak (C50 _ T1 hHT1 hFT1 (v3) (v3) (by omega) (by omega) (by omega) (by omega) (by omega) (by omega) (by omega) (by first | exact fun _ => by omega | exact fun q => by omega) (by omega) rfl) (And.intro rfl (And.intro rfl (And.intro rfl (And.intro rfl (True.intro)))))
          · refine l_iinc rfl rfl rfl rfl ?_
            refine l_goto rfl rfl ?_
            have w81 : 0 ≤ Xi T1 904 150 ∧ Xi T1 904 150 ≤ 5000 := hHT1.c _ _
            exact Rl_weak (ih2 _ (by omega) T1 hHT1 hFT1 ((v3 + 1)) (by omega) (by omega) (by omega) (by omega) rfl) (And.intro rfl (And.intro rfl (And.intro rfl (True.intro))))
  refine l_iload_n rfl rfl ?_
  refine l_istore_n rfl rfl rfl ?_
  have w82 : 0 ≤ Xi S 904 150 ∧ Xi S 904 150 ≤ 5000 := hH.c _ _
  exact Rl_weak (C2 _ S hH hF (from_) (by omega) (by omega) (by omega) (by omega) rfl) (And.intro rfl (And.intro rfl (And.intro rfl (True.intro))))
def md_mo_isCommand : List rec := [(904, 905, 150, 151), (904, 905, 151, 152), (991, 992, 0, 100000), (992, 993, 0, 100000)]
abbrev Q_mo_isCommand (S : sS) (from_ : Int) (n : Int) : pst := fun r S1 => HI S1 ∧ FR md_mo_isCommand S S1 ∧ (∃ z : Int, r = some (iv z) ∧ (0 ≤ z ∧ z ≤ 1))
set_option maxRecDepth 100000 in
theorem t_mo_isCommand {S : sS} (hH : HI S) (from_ : Int) (n : Int) (hfrom_ : 0 ≤ from_ ∧ from_ ≤ 5000) (hn : 0 ≤ n ∧ n ≤ 5000) (hn5 : from_ + n ≤ 5000) (d : Nat) : Mt lay0 (d + 5) m_mo_isCommand [.ref 904, iv from_, iv n] S (Q_mo_isCommand S from_ n) := by
  refine Mt_R rfl rfl ?_
  have hF : FR md_mo_isCommand S S := FR.rf
  have w1 : 0 ≤ Xi S 904 151 ∧ Xi S 904 151 ≤ 8 := hH.c _ _
  have C23 : ∀ (n23 : Nat) (T1 : sS) (_ : HI T1) (_ : FR md_mo_isCommand S T1) (v3 : Int) (v4 : Int) (v5 : Int) (v6 : Int), (-1 ≤ v3 ∧ v3 ≤ 5000) → (0 ≤ v4 ∧ v4 ≤ 5000) → (0 ≤ v5 ∧ v5 ≤ 1) → (0 ≤ v6 ∧ v6 ≤ 1) → (v4 = from_ + n) → (v5 = 1 → from_ ≤ v3) → (v3 ≤ v4) → n23 = (6000 * v5 - v3).toNat → Rl lay0 (d + 4) m_mo_isCommand 23 [(0, .ref 904), (3, iv v3), (4, iv v4), (5, iv v5), (6, iv v6)] [] T1 (Q_mo_isCommand S from_ n) := by
    intro n23
    induction n23 using Nat.strongRecOn with
    | ind n23 ih23 =>
      intro T1 hHT1 hFT1 v3 v4 v5 v6 w2 w3 w4 w5 w6 w7 w8 hm23
      have C89 : ∀ (n89 : Nat) (T2 : sS) (_ : HI T2) (_ : FR md_mo_isCommand S T2) (v3 : Int) (v4 : Int) (v7 : Int), (0 ≤ v3 ∧ v3 ≤ 4999) → (0 ≤ v4 ∧ v4 ≤ 5000) → (0 ≤ v7 ∧ v7 ≤ 5000) → (v4 = from_ + n) → (from_ ≤ v3) → (v3 < v4) → (v3 ≤ v7) → (v7 ≤ v4) → (v5 = 1) → (Xi T2 904 151 ≤ 7) → (v7 = v3 → ltr (Xi S 906 (v7).toNat) = 1) → ((6000 * v5 - v3).toNat ≤ n23) → n89 = (5001 - v7).toNat → Rl lay0 (d + 4) m_mo_isCommand 89 [(0, .ref 904), (3, iv v3), (4, iv v4), (7, iv v7)] [] T2 (Q_mo_isCommand S from_ n) := by
        intro n89
        induction n89 using Nat.strongRecOn with
        | ind n89 ih89 =>
          intro T2 hHT2 hFT2 v3 v4 v7 w9 w10 w11 w12 w13 w14 w15 w16 w17 w18 hl89 w19 hm89
          have w20 : 0 ≤ Xi T2 904 151 ∧ Xi T2 904 151 ≤ 8 := hHT2.c _ _
          have C115 : ∀  (T3 : sS) (_ : HI T3) (_ : FR md_mo_isCommand S T3) (v3 : Int) (v4 : Int) (v7 : Int), (0 ≤ v3 ∧ v3 ≤ 4999) → (0 ≤ v4 ∧ v4 ≤ 5000) → (0 ≤ v7 ∧ v7 ≤ 5000) → (v4 = from_ + n) → (from_ ≤ v3) → (v3 < v7) → (v7 ≤ v4) → (v5 = 1) → (Xi T3 904 151 ≤ 7) → ((6000 * v5 - v3).toNat ≤ n23) → Rl lay0 (d + 4) m_mo_isCommand 115 [(0, .ref 904), (3, iv v3), (4, iv v4), (7, iv v7)] [] T3 (Q_mo_isCommand S from_ n) := by
            intro T3 hHT3 hFT3 v3 v4 v7 w21 w22 w23 w24 w25 w26 w27 w28 w29 w30
            have w31 : 0 ≤ Xi T3 904 151 ∧ Xi T3 904 151 ≤ 8 := hHT3.c _ _
            refine l_iload rfl rfl ?_
            refine l_iload_n rfl rfl ?_
            refine l_isub rfl ?_
            refine l_bipush rfl rfl ?_
            refine l_icmp_gt rfl rfl (by unfold rg; omega) (by unfold rg; omega) (fun w32 => ?_) (fun w33 => ?_)
            · refine l_iconst rfl ?_
              refine l_istore rfl rfl rfl ?_
              refine l_aload_n rfl rfl ?_
              refine l_gfr rfl rfl rfl rfl rfl (hHT3.r 904 152 992 rfl) ?_
              refine l_aload_n rfl rfl ?_
              refine l_gfi rfl rfl rfl rfl rfl ?_
              refine l_iload rfl rfl ?_
              refine l_if_eq rfl rfl (by unfold rg; omega) (fun w34 => ?_) (fun w35 => absurd w35 (by omega))
              · refine l_lconst (z := 0) rfl rfl ?_
                refine l_lastore (n := 8) rfl rfl (by omega) (by omega) (by unfold rg; omega) ?_
                obtain ⟨U4, eU4⟩ : ∃ T : sS, T = uJ T3 992 (((Xi T3 904 151)).toNat) (Int64.ofInt 0) := ⟨_, rfl⟩
                rw [← eU4]
                have hHU4 : HI U4 := by rw [eU4]; exact HI_J hHT3
                have hFU4 : FR md_mo_isCommand S U4 := by rw [eU4]; exact FR.wJ hFT3 (mdf_i (r := (992, 993, 0, 100000)) (List.mem_of_getElem? (i := 3) rfl) (inR_i (by omega) (by omega) (by omega) (by omega)))
                refine l_aload_n rfl rfl ?_
                refine l_dup rfl rfl ?_
                refine l_gfi rfl rfl rfl rfl rfl ?_
                have w36 : (Xi U4 904 151) = (Xi T3 904 151) := (show Xi U4 904 151 = Xi T3 904 151 from by rw [eU4]; rfl)
                rw [w36]
                refine l_iconst rfl ?_
                refine l_iadd rfl ?_
                refine l_pfi rfl rfl rfl rfl ?_
                obtain ⟨U5, eU5⟩ : ∃ T : sS, T = uI U4 904 151 (Int32.ofInt ((Xi T3 904 151) + 1)) := ⟨_, rfl⟩
                rw [← eU5]
                have hHU5 : HI U5 := by rw [eU5]; exact HI_w hHU4 (show 0 ≤ ((Xi T3 904 151) + 1) by omega) (show ((Xi T3 904 151) + 1) ≤ 8 by omega)
                have hFU5 : FR md_mo_isCommand S U5 := by rw [eU5]; exact FR.wI hFU4 (mdf_i (r := (904, 905, 151, 152)) (List.mem_of_getElem? (i := 1) rfl) (inR_i (by omega) (by omega) (by omega) (by omega)))
                have w37 : Xi U5 904 151 = ((Xi T3 904 151) + 1) := by rw [eU5]; exact Xi_same (by unfold rg; omega)
                refine l_iload rfl rfl ?_
                refine l_istore_n rfl rfl rfl ?_
                refine l_iconst rfl ?_
                refine l_istore rfl rfl rfl ?_
                refine l_goto rfl rfl ?_
                have w38 : Xi U5 904 150 = Xi T3 904 150 := (show Xi U5 904 150 = Xi U4 904 150 from by rw [eU5]; exact Xi_ne (by omega)).trans ((show Xi U4 904 150 = Xi T3 904 150 from by rw [eU4]; rfl))
                have w39 : 0 ≤ Xi T3 904 150 ∧ Xi T3 904 150 ≤ 5000 := hHT3.c _ _
                have w40 : 0 ≤ Xi U5 904 151 ∧ Xi U5 904 151 ≤ 8 := hHU5.c _ _
                exact Rl_weak (ih23 _ (by omega) U5 hHU5 hFU5 (v7) (v4) (0) (0) (by omega) (by omega) (by omega) (by omega) (by omega) (by omega) (by omega) rfl) (And.intro rfl (And.intro rfl (And.intro rfl (And.intro rfl (And.intro rfl (True.intro))))))
            · refine l_iconst rfl ?_
              refine l_goto rfl rfl ?_
              refine l_istore rfl rfl rfl ?_
              refine l_aload_n rfl rfl ?_
              refine l_gfr rfl rfl rfl rfl rfl (hHT3.r 904 152 992 rfl) ?_
              refine l_aload_n rfl rfl ?_
              refine l_gfi rfl rfl rfl rfl rfl ?_
              refine l_iload rfl rfl ?_
              refine l_if_eq rfl rfl (by unfold rg; omega) (fun w41 => absurd w41 (by omega)) (fun w42 => ?_)
              · refine l_aload_n rfl rfl ?_
                refine l_gfr rfl rfl rfl rfl rfl (hHT3.r 904 2 906 rfl) ?_
                refine l_iload_n rfl rfl ?_
                refine l_iload rfl rfl ?_
                refine l_iload_n rfl rfl ?_
                refine l_isub rfl ?_
                have w43 : 0 ≤ Xi T3 904 150 ∧ Xi T3 904 150 ≤ 5000 := hHT3.c _ _
                have w44 : 0 ≤ Xi T3 904 151 ∧ Xi T3 904 151 ≤ 8 := hHT3.c _ _
                refine l_callS rfl rfl (by decide) rfl (t_mo_wordOf hHT3 906 v3 (v7 - v3) (Or.inr rfl) ⟨by omega, by omega⟩ ⟨by omega, by omega⟩ (by first | assumption | omega) _) ?_
                rintro _ _ ⟨rfl, z45, rfl⟩
                show Rl _ _ _ _ _ [jw z45, iv (Xi T3 904 151), .ref 992] _ _
                refine l_goto rfl rfl ?_
                refine l_lastore (n := 8) rfl rfl (by omega) (by omega) (by unfold rg; omega) ?_
                obtain ⟨U6, eU6⟩ : ∃ T : sS, T = uJ T3 992 (((Xi T3 904 151)).toNat) (Int64.ofInt z45) := ⟨_, rfl⟩
                rw [← eU6]
                have hHU6 : HI U6 := by rw [eU6]; exact HI_J hHT3
                have hFU6 : FR md_mo_isCommand S U6 := by rw [eU6]; exact FR.wJ hFT3 (mdf_i (r := (992, 993, 0, 100000)) (List.mem_of_getElem? (i := 3) rfl) (inR_i (by omega) (by omega) (by omega) (by omega)))
                refine l_aload_n rfl rfl ?_
                refine l_dup rfl rfl ?_
                refine l_gfi rfl rfl rfl rfl rfl ?_
                have w46 : (Xi U6 904 151) = (Xi T3 904 151) := (show Xi U6 904 151 = Xi T3 904 151 from by rw [eU6]; rfl)
                rw [w46]
                refine l_iconst rfl ?_
                refine l_iadd rfl ?_
                refine l_pfi rfl rfl rfl rfl ?_
                obtain ⟨U7, eU7⟩ : ∃ T : sS, T = uI U6 904 151 (Int32.ofInt ((Xi T3 904 151) + 1)) := ⟨_, rfl⟩
                rw [← eU7]
                have hHU7 : HI U7 := by rw [eU7]; exact HI_w hHU6 (show 0 ≤ ((Xi T3 904 151) + 1) by omega) (show ((Xi T3 904 151) + 1) ≤ 8 by omega)
                have hFU7 : FR md_mo_isCommand S U7 := by rw [eU7]; exact FR.wI hFU6 (mdf_i (r := (904, 905, 151, 152)) (List.mem_of_getElem? (i := 1) rfl) (inR_i (by omega) (by omega) (by omega) (by omega)))
                have w47 : Xi U7 904 151 = ((Xi T3 904 151) + 1) := by rw [eU7]; exact Xi_same (by unfold rg; omega)
                refine l_iload rfl rfl ?_
                refine l_istore_n rfl rfl rfl ?_
                refine l_iconst rfl ?_
                refine l_istore rfl rfl rfl ?_
                refine l_goto rfl rfl ?_
                have w48 : Xi U7 904 150 = Xi T3 904 150 := (show Xi U7 904 150 = Xi U6 904 150 from by rw [eU7]; exact Xi_ne (by omega)).trans ((show Xi U6 904 150 = Xi T3 904 150 from by rw [eU6]; rfl))
                have w49 : 0 ≤ Xi T3 904 150 ∧ Xi T3 904 150 ≤ 5000 := hHT3.c _ _
                have w50 : 0 ≤ Xi U7 904 151 ∧ Xi U7 904 151 ≤ 8 := hHU7.c _ _
                exact Rl_weak (ih23 _ (by omega) U7 hHU7 hFU7 (v7) (v4) (1) (0) (by omega) (by omega) (by omega) (by omega) (by omega) (by omega) (by omega) rfl) (And.intro rfl (And.intro rfl (And.intro rfl (And.intro rfl (And.intro rfl (True.intro))))))
          refine l_iload rfl rfl ?_
          refine l_iload rfl rfl ?_
          refine l_icmp_ge rfl rfl (by unfold rg; omega) (by unfold rg; omega) (fun w51 => ?_) (fun w52 => ?_)
          · have w53 : 0 ≤ Xi T2 904 150 ∧ Xi T2 904 150 ≤ 5000 := hHT2.c _ _
            have w54 : 0 ≤ Xi T2 904 151 ∧ Xi T2 904 151 ≤ 8 := hHT2.c _ _
            exact Rl_weak (C115 T2 hHT2 hFT2 (v3) (v4) (v7) (by omega) (by omega) (by omega) (by omega) (by omega) (by omega) (by omega) (by omega) (by omega) (by omega)) (And.intro rfl (And.intro rfl (And.intro rfl (And.intro rfl (True.intro)))))
          · refine l_aload_n rfl rfl ?_
            refine l_gfr rfl rfl rfl rfl rfl (hHT2.r 904 2 906 rfl) ?_
            refine l_iload rfl rfl ?_
            refine l_baload (n := 5000) rfl rfl rfl (by decide) (by omega) (by omega) (by unfold rg; omega) ?_
            have w55 : -128 ≤ (Xi T2 906 ((v7).toNat)) ∧ (Xi T2 906 ((v7).toNat)) ≤ 127 := hHT2.c _ _
            have e102 : (Xi T2 906 ((v7).toNat)) = Xi S 906 (v7).toNat := by first | rfl | exact (hFT2.cx 906 rfl _).1
            have w56 : 0 ≤ Xi T2 904 150 ∧ Xi T2 904 150 ≤ 5000 := hHT2.c _ _
            have w57 : 0 ≤ Xi T2 904 151 ∧ Xi T2 904 151 ≤ 8 := hHT2.c _ _
            refine l_callS rfl rfl (by decide) rfl (t_mo_isLetter hHT2 (Xi T2 906 ((v7).toNat)) ⟨by omega, by omega⟩ _) ?_
            rintro _ _ ⟨rfl, z59, rfl, w59, w58⟩
            show Rl _ _ _ _ _ [iv z59] _ _
            have l103 : v7 = v3 → z59 = 1 := fun q => by rw [(by assumption : z59 = ltr _), e102]; exact hl89 q
            refine l_if_eq rfl rfl (by unfold rg; omega) (fun w60 => ?_) (fun w61 => ?_)
            · have w62 : 0 ≤ Xi T2 904 150 ∧ Xi T2 904 150 ≤ 5000 := hHT2.c _ _
              have w63 : 0 ≤ Xi T2 904 151 ∧ Xi T2 904 151 ≤ 8 := hHT2.c _ _
              exact Rl_weak (C115 T2 hHT2 hFT2 (v3) (v4) (v7) (by omega) (by omega) (by omega) (by omega) (by omega) (by omega) (by omega) (by omega) (by omega) (by omega)) (And.intro rfl (And.intro rfl (And.intro rfl (And.intro rfl (True.intro)))))
            · refine l_iinc rfl rfl rfl rfl ?_
              refine l_goto rfl rfl ?_
              have w64 : 0 ≤ Xi T2 904 150 ∧ Xi T2 904 150 ≤ 5000 := hHT2.c _ _
              have w65 : 0 ≤ Xi T2 904 151 ∧ Xi T2 904 151 ≤ 8 := hHT2.c _ _
              exact Rl_weak (ih89 _ (by omega) T2 hHT2 hFT2 (v3) (v4) ((v7 + 1)) (by omega) (by omega) (by omega) (by omega) (by omega) (by omega) (by omega) (by omega) (by omega) (by omega) (by first | exact fun _ => by omega | exact fun q => by omega) (by omega) rfl) (And.intro rfl (And.intro rfl (And.intro rfl (And.intro rfl (True.intro)))))
      have C272 : ∀  (T8 : sS) (_ : HI T8) (_ : FR md_mo_isCommand S T8) (v5 : Int), (0 ≤ v5 ∧ v5 ≤ 1) → Rl lay0 (d + 4) m_mo_isCommand 272 [(0, .ref 904), (5, iv v5)] [] T8 (Q_mo_isCommand S from_ n) := by
        intro T8 hHT8 hFT8 v5 w66
        refine l_iload rfl rfl ?_
        refine l_if_eq rfl rfl (by unfold rg; omega) (fun w67 => ?_) (fun w68 => ?_)
        · refine l_iconst rfl ?_
          refine l_ireturn rfl rfl ?_
          have w69 : 0 ≤ Xi T8 904 150 ∧ Xi T8 904 150 ≤ 5000 := hHT8.c _ _
          have w70 : 0 ≤ Xi T8 904 151 ∧ Xi T8 904 151 ≤ 8 := hHT8.c _ _
          exact ⟨hHT8, hFT8, _, rfl, ⟨by omega, by omega⟩⟩
        · refine l_aload_n rfl rfl ?_
          refine l_gfi rfl rfl rfl rfl rfl ?_
          have w71 : 0 ≤ (Xi T8 904 151) ∧ (Xi T8 904 151) ≤ 8 := hHT8.c _ _
          refine l_if_le rfl rfl (by unfold rg; omega) (fun w72 => ?_) (fun w73 => ?_)
          · refine l_iconst rfl ?_
            refine l_ireturn rfl rfl ?_
            have w74 : 0 ≤ Xi T8 904 150 ∧ Xi T8 904 150 ≤ 5000 := hHT8.c _ _
            have w75 : 0 ≤ Xi T8 904 151 ∧ Xi T8 904 151 ≤ 8 := hHT8.c _ _
            exact ⟨hHT8, hFT8, _, rfl, ⟨by omega, by omega⟩⟩
          · refine l_iconst rfl ?_
            refine l_goto rfl rfl ?_
            refine l_ireturn rfl rfl ?_
            have w76 : 0 ≤ Xi T8 904 150 ∧ Xi T8 904 150 ≤ 5000 := hHT8.c _ _
            have w77 : 0 ≤ Xi T8 904 151 ∧ Xi T8 904 151 ≤ 8 := hHT8.c _ _
            exact ⟨hHT8, hFT8, _, rfl, ⟨by omega, by omega⟩⟩
      refine l_iload rfl rfl ?_
      refine l_if_eq rfl rfl (by unfold rg; omega) (fun w78 => ?_) (fun w79 => ?_)
      · have w80 : 0 ≤ Xi T1 904 150 ∧ Xi T1 904 150 ≤ 5000 := hHT1.c _ _
        have w81 : 0 ≤ Xi T1 904 151 ∧ Xi T1 904 151 ≤ 8 := hHT1.c _ _
        exact Rl_weak (C272 T1 hHT1 hFT1 (v5) (by omega)) (And.intro rfl (And.intro rfl (True.intro)))
      · refine l_iload_n rfl rfl ?_
        refine l_iload rfl rfl ?_
        refine l_icmp_ge rfl rfl (by unfold rg; omega) (by unfold rg; omega) (fun w82 => ?_) (fun w83 => ?_)
        · have w84 : 0 ≤ Xi T1 904 150 ∧ Xi T1 904 150 ≤ 5000 := hHT1.c _ _
          have w85 : 0 ≤ Xi T1 904 151 ∧ Xi T1 904 151 ≤ 8 := hHT1.c _ _
          exact Rl_weak (C272 T1 hHT1 hFT1 (v5) (by omega)) (And.intro rfl (And.intro rfl (True.intro)))
        · refine l_aload_n rfl rfl ?_
          refine l_gfr rfl rfl rfl rfl rfl (hHT1.r 904 2 906 rfl) ?_
          refine l_iload_n rfl rfl ?_
          refine l_baload (n := 5000) rfl rfl rfl (by decide) (by omega) (by omega) (by unfold rg; omega) ?_
          have w86 : -128 ≤ (Xi T1 906 ((v3).toNat)) ∧ (Xi T1 906 ((v3).toNat)) ≤ 127 := hHT1.c _ _
          refine l_bipush rfl rfl ?_
          refine l_icmp_ne rfl rfl (by unfold rg; omega) (by unfold rg; omega) (fun w87 => ?_) (fun w88 => ?_)
          · refine l_iload rfl rfl ?_
            refine l_if_eq rfl rfl (by unfold rg; omega) (fun w89 => ?_) (fun w90 => ?_)
            · refine l_iconst rfl ?_
              refine l_istore rfl rfl rfl ?_
              refine l_goto rfl rfl ?_
              have w91 : 0 ≤ Xi T1 904 150 ∧ Xi T1 904 150 ≤ 5000 := hHT1.c _ _
              have w92 : 0 ≤ Xi T1 904 151 ∧ Xi T1 904 151 ≤ 8 := hHT1.c _ _
              exact Rl_weak (ih23 _ (by omega) T1 hHT1 hFT1 (v3) (v4) (0) (v6) (by omega) (by omega) (by omega) (by omega) (by omega) (by omega) (by omega) rfl) (And.intro rfl (And.intro rfl (And.intro rfl (And.intro rfl (And.intro rfl (True.intro))))))
            · refine l_aload_n rfl rfl ?_
              refine l_gfi rfl rfl rfl rfl rfl ?_
              have w93 : 0 ≤ (Xi T1 904 151) ∧ (Xi T1 904 151) ≤ 8 := hHT1.c _ _
              refine l_bipush rfl rfl ?_
              refine l_icmp_ne rfl rfl (by unfold rg; omega) (by unfold rg; omega) (fun w94 => ?_) (fun w95 => ?_)
              · refine l_aload_n rfl rfl ?_
                refine l_gfr rfl rfl rfl rfl rfl (hHT1.r 904 2 906 rfl) ?_
                refine l_iload_n rfl rfl ?_
                refine l_baload (n := 5000) rfl rfl rfl (by decide) (by omega) (by omega) (by unfold rg; omega) ?_
                have e79 : (Xi T1 906 ((v3).toNat)) = Xi S 906 (v3).toNat := by first | rfl | exact (hFT1.cx 906 rfl _).1
                have w96 : 0 ≤ Xi T1 904 150 ∧ Xi T1 904 150 ≤ 5000 := hHT1.c _ _
                have w97 : 0 ≤ Xi T1 904 151 ∧ Xi T1 904 151 ≤ 8 := hHT1.c _ _
                refine l_callS rfl rfl (by decide) rfl (t_mo_isLetter hHT1 (Xi T1 906 ((v3).toNat)) ⟨by omega, by omega⟩ _) ?_
                rintro _ _ ⟨rfl, z99, rfl, w99, w98⟩
                show Rl _ _ _ _ _ [iv z99] _ _
                have l80 : z99 = ltr (Xi S 906 (v3).toNat) := by rw [← e79]; assumption
                refine l_if_eq rfl rfl (by unfold rg; omega) (fun w100 => ?_) (fun w101 => ?_)
                · refine l_aload_n rfl rfl ?_
                  refine l_gfr rfl rfl rfl rfl rfl (hHT1.r 904 2 906 rfl) ?_
                  refine l_iload_n rfl rfl ?_
                  refine l_baload (n := 5000) rfl rfl rfl (by decide) (by omega) (by omega) (by unfold rg; omega) ?_
                  refine l_bipush rfl rfl ?_
                  refine l_icmp_ne rfl rfl (by unfold rg; omega) (by unfold rg; omega) (fun w102 => ?_) (fun w103 => ?_)
                  · refine l_iconst rfl ?_
                    refine l_istore rfl rfl rfl ?_
                    refine l_iload rfl rfl ?_
                    refine l_if_eq rfl rfl (by unfold rg; omega) (fun w104 => ?_) (fun w105 => absurd w105 (by omega))
                    · refine l_iload_n rfl rfl ?_
                      refine l_istore_n rfl rfl rfl ?_
                      refine l_iload rfl rfl ?_
                      refine l_if_eq rfl rfl (by unfold rg; omega) (fun w106 => ?_) (fun w107 => absurd w107 (by omega))
                      · refine l_iconst rfl ?_
                        refine l_istore rfl rfl rfl ?_
                        refine l_aload_n rfl rfl ?_
                        refine l_gfr rfl rfl rfl rfl rfl (hHT1.r 904 152 992 rfl) ?_
                        refine l_bipush rfl rfl ?_
                        refine l_aload_n rfl rfl ?_
                        refine l_gfi rfl rfl rfl rfl rfl ?_
                        refine l_min rfl rfl rfl (by unfold rg; omega) (by unfold rg; omega) ?_
                        refine l_lconst (z := 0) rfl rfl ?_
                        refine l_lastore (n := 8) rfl rfl (by omega) (by omega) (by unfold rg; omega) ?_
                        obtain ⟨U9, eU9⟩ : ∃ T : sS, T = uJ T1 992 (((if (Xi T1 904 151) < 7 then (Xi T1 904 151) else 7)).toNat) (Int64.ofInt 0) := ⟨_, rfl⟩
                        rw [← eU9]
                        have hHU9 : HI U9 := by rw [eU9]; exact HI_J hHT1
                        have hFU9 : FR md_mo_isCommand S U9 := by rw [eU9]; exact FR.wJ hFT1 (mdf_i (r := (992, 993, 0, 100000)) (List.mem_of_getElem? (i := 3) rfl) (inR_i (by omega) (by omega) (by omega) (by omega)))
                        refine l_aload_n rfl rfl ?_
                        refine l_dup rfl rfl ?_
                        refine l_gfi rfl rfl rfl rfl rfl ?_
                        have w108 : (Xi U9 904 151) = (Xi T1 904 151) := (show Xi U9 904 151 = Xi T1 904 151 from by rw [eU9]; rfl)
                        rw [w108]
                        refine l_iconst rfl ?_
                        refine l_iadd rfl ?_
                        refine l_pfi rfl rfl rfl rfl ?_
                        obtain ⟨U10, eU10⟩ : ∃ T : sS, T = uI U9 904 151 (Int32.ofInt ((Xi T1 904 151) + 1)) := ⟨_, rfl⟩
                        rw [← eU10]
                        have hHU10 : HI U10 := by rw [eU10]; exact HI_w hHU9 (show 0 ≤ ((Xi T1 904 151) + 1) by omega) (show ((Xi T1 904 151) + 1) ≤ 8 by omega)
                        have hFU10 : FR md_mo_isCommand S U10 := by rw [eU10]; exact FR.wI hFU9 (mdf_i (r := (904, 905, 151, 152)) (List.mem_of_getElem? (i := 1) rfl) (inR_i (by omega) (by omega) (by omega) (by omega)))
                        have w109 : Xi U10 904 151 = ((Xi T1 904 151) + 1) := by rw [eU10]; exact Xi_same (by unfold rg; omega)
                        refine l_iconst rfl ?_
                        refine l_istore rfl rfl rfl ?_
                        refine l_goto rfl rfl ?_
                        have w110 : Xi U10 904 150 = Xi T1 904 150 := (show Xi U10 904 150 = Xi U9 904 150 from by rw [eU10]; exact Xi_ne (by omega)).trans ((show Xi U9 904 150 = Xi T1 904 150 from by rw [eU9]; rfl))
                        have w111 : 0 ≤ Xi T1 904 150 ∧ Xi T1 904 150 ≤ 5000 := hHT1.c _ _
                        have w112 : 0 ≤ Xi U10 904 151 ∧ Xi U10 904 151 ≤ 8 := hHU10.c _ _
                        exact Rl_weak (ih23 _ (by omega) U10 hHU10 hFU10 (v3) (v4) (0) (0) (by omega) (by omega) (by omega) (by omega) (by omega) (by omega) (by omega) rfl) (And.intro rfl (And.intro rfl (And.intro rfl (And.intro rfl (And.intro rfl (True.intro))))))
                  · refine l_aload_n rfl rfl ?_
                    refine l_gfi rfl rfl rfl rfl rfl ?_
                    have w113 : 0 ≤ (Xi T1 904 150) ∧ (Xi T1 904 150) ≤ 5000 := hHT1.c _ _
                    refine l_if_ne rfl rfl (by unfold rg; omega) (fun w114 => ?_) (fun w115 => ?_)
                    · refine l_iconst rfl ?_
                      refine l_istore rfl rfl rfl ?_
                      refine l_iload rfl rfl ?_
                      refine l_if_eq rfl rfl (by unfold rg; omega) (fun w116 => ?_) (fun w117 => absurd w117 (by omega))
                      · refine l_iload_n rfl rfl ?_
                        refine l_istore_n rfl rfl rfl ?_
                        refine l_iload rfl rfl ?_
                        refine l_if_eq rfl rfl (by unfold rg; omega) (fun w118 => ?_) (fun w119 => absurd w119 (by omega))
                        · refine l_iconst rfl ?_
                          refine l_istore rfl rfl rfl ?_
                          refine l_aload_n rfl rfl ?_
                          refine l_gfr rfl rfl rfl rfl rfl (hHT1.r 904 152 992 rfl) ?_
                          refine l_bipush rfl rfl ?_
                          refine l_aload_n rfl rfl ?_
                          refine l_gfi rfl rfl rfl rfl rfl ?_
                          refine l_min rfl rfl rfl (by unfold rg; omega) (by unfold rg; omega) ?_
                          refine l_lconst (z := 0) rfl rfl ?_
                          refine l_lastore (n := 8) rfl rfl (by omega) (by omega) (by unfold rg; omega) ?_
                          obtain ⟨U11, eU11⟩ : ∃ T : sS, T = uJ T1 992 (((if (Xi T1 904 151) < 7 then (Xi T1 904 151) else 7)).toNat) (Int64.ofInt 0) := ⟨_, rfl⟩
                          rw [← eU11]
                          have hHU11 : HI U11 := by rw [eU11]; exact HI_J hHT1
                          have hFU11 : FR md_mo_isCommand S U11 := by rw [eU11]; exact FR.wJ hFT1 (mdf_i (r := (992, 993, 0, 100000)) (List.mem_of_getElem? (i := 3) rfl) (inR_i (by omega) (by omega) (by omega) (by omega)))
                          refine l_aload_n rfl rfl ?_
                          refine l_dup rfl rfl ?_
                          refine l_gfi rfl rfl rfl rfl rfl ?_
                          have w120 : (Xi U11 904 151) = (Xi T1 904 151) := (show Xi U11 904 151 = Xi T1 904 151 from by rw [eU11]; rfl)
                          rw [w120]
                          refine l_iconst rfl ?_
                          refine l_iadd rfl ?_
                          refine l_pfi rfl rfl rfl rfl ?_
                          obtain ⟨U12, eU12⟩ : ∃ T : sS, T = uI U11 904 151 (Int32.ofInt ((Xi T1 904 151) + 1)) := ⟨_, rfl⟩
                          rw [← eU12]
                          have hHU12 : HI U12 := by rw [eU12]; exact HI_w hHU11 (show 0 ≤ ((Xi T1 904 151) + 1) by omega) (show ((Xi T1 904 151) + 1) ≤ 8 by omega)
                          have hFU12 : FR md_mo_isCommand S U12 := by rw [eU12]; exact FR.wI hFU11 (mdf_i (r := (904, 905, 151, 152)) (List.mem_of_getElem? (i := 1) rfl) (inR_i (by omega) (by omega) (by omega) (by omega)))
                          have w121 : Xi U12 904 151 = ((Xi T1 904 151) + 1) := by rw [eU12]; exact Xi_same (by unfold rg; omega)
                          refine l_iconst rfl ?_
                          refine l_istore rfl rfl rfl ?_
                          refine l_goto rfl rfl ?_
                          have w122 : Xi U12 904 150 = Xi T1 904 150 := (show Xi U12 904 150 = Xi U11 904 150 from by rw [eU12]; exact Xi_ne (by omega)).trans ((show Xi U11 904 150 = Xi T1 904 150 from by rw [eU11]; rfl))
                          have w123 : 0 ≤ Xi T1 904 150 ∧ Xi T1 904 150 ≤ 5000 := hHT1.c _ _
                          have w124 : 0 ≤ Xi U12 904 151 ∧ Xi U12 904 151 ≤ 8 := hHU12.c _ _
                          exact Rl_weak (ih23 _ (by omega) U12 hHU12 hFU12 (v3) (v4) (0) (0) (by omega) (by omega) (by omega) (by omega) (by omega) (by omega) (by omega) rfl) (And.intro rfl (And.intro rfl (And.intro rfl (And.intro rfl (And.intro rfl (True.intro))))))
                    · refine l_iconst rfl ?_
                      refine l_goto rfl rfl ?_
                      refine l_istore rfl rfl rfl ?_
                      refine l_iload rfl rfl ?_
                      refine l_if_eq rfl rfl (by unfold rg; omega) (fun w125 => absurd w125 (by omega)) (fun w126 => ?_)
                      · refine l_aload_n rfl rfl ?_
                        refine l_iload_n rfl rfl ?_
                        refine l_iconst rfl ?_
                        refine l_iadd rfl ?_
                        refine l_iload rfl rfl ?_
                        have w127 : 0 ≤ Xi T1 904 150 ∧ Xi T1 904 150 ≤ 5000 := hHT1.c _ _
                        have w128 : 0 ≤ Xi T1 904 151 ∧ Xi T1 904 151 ≤ 8 := hHT1.c _ _
                        refine l_callV rfl rfl rfl (t_mo_slot hHT1 (v3 + 1) v4 ⟨by omega, by omega⟩ ⟨by omega, by omega⟩ (by first | assumption | omega) (by first | assumption | omega) _) ?_
                        rintro _ T13 ⟨hHT13, w131, z130, rfl, w130, w129⟩
                        have hFT13 : FR md_mo_isCommand S T13 := FR.tr hFT1 w131 rfl
                        show Rl _ _ _ _ _ [iv z130] _ _
                        refine l_goto rfl rfl ?_
                        refine l_istore_n rfl rfl rfl ?_
                        refine l_iload rfl rfl ?_
                        refine l_if_eq rfl rfl (by unfold rg; omega) (fun w132 => absurd w132 (by omega)) (fun w133 => ?_)
                        · refine l_iload_n rfl rfl ?_
                          refine l_iconst rfl ?_
                          refine l_icmp_eq rfl rfl (by unfold rg; omega) (by unfold rg; omega) (fun w134 => ?_) (fun w135 => ?_)
                          · refine l_iconst rfl ?_
                            refine l_istore rfl rfl rfl ?_
                            refine l_aload_n rfl rfl ?_
                            refine l_gfr rfl rfl rfl rfl rfl (hHT13.r 904 152 992 rfl) ?_
                            refine l_bipush rfl rfl ?_
                            refine l_aload_n rfl rfl ?_
                            refine l_gfi rfl rfl rfl rfl rfl ?_
                            have w136 : (Xi T13 904 151) = (Xi T1 904 151) := (show Xi T13 904 151 = Xi T1 904 151 from w131.x _ _ rfl)
                            rw [w136]
                            refine l_min rfl rfl rfl (by unfold rg; omega) (by unfold rg; omega) ?_
                            refine l_lconst (z := 0) rfl rfl ?_
                            refine l_lastore (n := 8) rfl rfl (by omega) (by omega) (by unfold rg; omega) ?_
                            obtain ⟨U14, eU14⟩ : ∃ T : sS, T = uJ T13 992 (((if (Xi T1 904 151) < 7 then (Xi T1 904 151) else 7)).toNat) (Int64.ofInt 0) := ⟨_, rfl⟩
                            rw [← eU14]
                            have hHU14 : HI U14 := by rw [eU14]; exact HI_J hHT13
                            have hFU14 : FR md_mo_isCommand S U14 := by rw [eU14]; exact FR.wJ hFT13 (mdf_i (r := (992, 993, 0, 100000)) (List.mem_of_getElem? (i := 3) rfl) (inR_i (by omega) (by omega) (by omega) (by omega)))
                            refine l_aload_n rfl rfl ?_
                            refine l_dup rfl rfl ?_
                            refine l_gfi rfl rfl rfl rfl rfl ?_
                            have w137 : (Xi U14 904 151) = (Xi T1 904 151) := (show Xi U14 904 151 = Xi T13 904 151 from by rw [eU14]; rfl).trans ((show Xi T13 904 151 = Xi T1 904 151 from w131.x _ _ rfl))
                            rw [w137]
                            refine l_iconst rfl ?_
                            refine l_iadd rfl ?_
                            refine l_pfi rfl rfl rfl rfl ?_
                            obtain ⟨U15, eU15⟩ : ∃ T : sS, T = uI U14 904 151 (Int32.ofInt ((Xi T1 904 151) + 1)) := ⟨_, rfl⟩
                            rw [← eU15]
                            have hHU15 : HI U15 := by rw [eU15]; exact HI_w hHU14 (show 0 ≤ ((Xi T1 904 151) + 1) by omega) (show ((Xi T1 904 151) + 1) ≤ 8 by omega)
                            have hFU15 : FR md_mo_isCommand S U15 := by rw [eU15]; exact FR.wI hFU14 (mdf_i (r := (904, 905, 151, 152)) (List.mem_of_getElem? (i := 1) rfl) (inR_i (by omega) (by omega) (by omega) (by omega)))
                            have w138 : Xi U15 904 151 = ((Xi T1 904 151) + 1) := by rw [eU15]; exact Xi_same (by unfold rg; omega)
                            refine l_iconst rfl ?_
                            refine l_istore rfl rfl rfl ?_
                            refine l_goto rfl rfl ?_
                            have w139 : Xi U15 904 150 = Xi T13 904 150 := (show Xi U15 904 150 = Xi U14 904 150 from by rw [eU15]; exact Xi_ne (by omega)).trans ((show Xi U14 904 150 = Xi T13 904 150 from by rw [eU14]; rfl))
                            have w140 : 0 ≤ Xi T13 904 150 ∧ Xi T13 904 150 ≤ 5000 := hHT13.c _ _
                            have w141 : 0 ≤ Xi U15 904 151 ∧ Xi U15 904 151 ≤ 8 := hHU15.c _ _
                            exact Rl_weak (ih23 _ (by omega) U15 hHU15 hFU15 (z130) (v4) (0) (0) (by omega) (by omega) (by omega) (by omega) (by omega) (by omega) (by omega) rfl) (And.intro rfl (And.intro rfl (And.intro rfl (And.intro rfl (And.intro rfl (True.intro))))))
                          · refine l_iconst rfl ?_
                            refine l_goto rfl rfl ?_
                            refine l_istore rfl rfl rfl ?_
                            refine l_aload_n rfl rfl ?_
                            refine l_gfr rfl rfl rfl rfl rfl (hHT13.r 904 152 992 rfl) ?_
                            refine l_bipush rfl rfl ?_
                            refine l_aload_n rfl rfl ?_
                            refine l_gfi rfl rfl rfl rfl rfl ?_
                            have w142 : (Xi T13 904 151) = (Xi T1 904 151) := (show Xi T13 904 151 = Xi T1 904 151 from w131.x _ _ rfl)
                            rw [w142]
                            refine l_min rfl rfl rfl (by unfold rg; omega) (by unfold rg; omega) ?_
                            refine l_lconst (z := 0) rfl rfl ?_
                            refine l_lastore (n := 8) rfl rfl (by omega) (by omega) (by unfold rg; omega) ?_
                            obtain ⟨U16, eU16⟩ : ∃ T : sS, T = uJ T13 992 (((if (Xi T1 904 151) < 7 then (Xi T1 904 151) else 7)).toNat) (Int64.ofInt 0) := ⟨_, rfl⟩
                            rw [← eU16]
                            have hHU16 : HI U16 := by rw [eU16]; exact HI_J hHT13
                            have hFU16 : FR md_mo_isCommand S U16 := by rw [eU16]; exact FR.wJ hFT13 (mdf_i (r := (992, 993, 0, 100000)) (List.mem_of_getElem? (i := 3) rfl) (inR_i (by omega) (by omega) (by omega) (by omega)))
                            refine l_aload_n rfl rfl ?_
                            refine l_dup rfl rfl ?_
                            refine l_gfi rfl rfl rfl rfl rfl ?_
                            have w143 : (Xi U16 904 151) = (Xi T1 904 151) := (show Xi U16 904 151 = Xi T13 904 151 from by rw [eU16]; rfl).trans ((show Xi T13 904 151 = Xi T1 904 151 from w131.x _ _ rfl))
                            rw [w143]
                            refine l_iconst rfl ?_
                            refine l_iadd rfl ?_
                            refine l_pfi rfl rfl rfl rfl ?_
                            obtain ⟨U17, eU17⟩ : ∃ T : sS, T = uI U16 904 151 (Int32.ofInt ((Xi T1 904 151) + 1)) := ⟨_, rfl⟩
                            rw [← eU17]
                            have hHU17 : HI U17 := by rw [eU17]; exact HI_w hHU16 (show 0 ≤ ((Xi T1 904 151) + 1) by omega) (show ((Xi T1 904 151) + 1) ≤ 8 by omega)
                            have hFU17 : FR md_mo_isCommand S U17 := by rw [eU17]; exact FR.wI hFU16 (mdf_i (r := (904, 905, 151, 152)) (List.mem_of_getElem? (i := 1) rfl) (inR_i (by omega) (by omega) (by omega) (by omega)))
                            have w144 : Xi U17 904 151 = ((Xi T1 904 151) + 1) := by rw [eU17]; exact Xi_same (by unfold rg; omega)
                            refine l_iconst rfl ?_
                            refine l_istore rfl rfl rfl ?_
                            refine l_goto rfl rfl ?_
                            have w145 : Xi U17 904 150 = Xi T13 904 150 := (show Xi U17 904 150 = Xi U16 904 150 from by rw [eU17]; exact Xi_ne (by omega)).trans ((show Xi U16 904 150 = Xi T13 904 150 from by rw [eU16]; rfl))
                            have w146 : 0 ≤ Xi T13 904 150 ∧ Xi T13 904 150 ≤ 5000 := hHT13.c _ _
                            have w147 : 0 ≤ Xi U17 904 151 ∧ Xi U17 904 151 ≤ 8 := hHU17.c _ _
                            exact Rl_weak (ih23 _ (by omega) U17 hHU17 hFU17 (z130) (v4) (1) (0) (by omega) (by omega) (by omega) (by omega) (by omega) (by omega) (by omega) rfl) (And.intro rfl (And.intro rfl (And.intro rfl (And.intro rfl (And.intro rfl (True.intro))))))
                · refine l_iload_n rfl rfl ?_
                  refine l_istore rfl rfl rfl ?_
                  have w148 : 0 ≤ Xi T1 904 150 ∧ Xi T1 904 150 ≤ 5000 := hHT1.c _ _
                  have w149 : 0 ≤ Xi T1 904 151 ∧ Xi T1 904 151 ≤ 8 := hHT1.c _ _
                  exact Rl_weak (C89 _ T1 hHT1 hFT1 (v3) (v4) (v3) (by omega) (by omega) (by omega) (by omega) (by omega) (by omega) (by omega) (by omega) (by omega) (by omega) (by first | exact fun _ => by omega | exact fun q => by omega) (by omega) rfl) (And.intro rfl (And.intro rfl (And.intro rfl (And.intro rfl (True.intro)))))
              · refine l_iconst rfl ?_
                refine l_istore rfl rfl rfl ?_
                refine l_goto rfl rfl ?_
                have w150 : 0 ≤ Xi T1 904 150 ∧ Xi T1 904 150 ≤ 5000 := hHT1.c _ _
                have w151 : 0 ≤ Xi T1 904 151 ∧ Xi T1 904 151 ≤ 8 := hHT1.c _ _
                exact Rl_weak (ih23 _ (by omega) T1 hHT1 hFT1 (v3) (v4) (0) (v6) (by omega) (by omega) (by omega) (by omega) (by omega) (by omega) (by omega) rfl) (And.intro rfl (And.intro rfl (And.intro rfl (And.intro rfl (And.intro rfl (True.intro))))))
          · refine l_iinc rfl rfl rfl rfl ?_
            refine l_iconst rfl ?_
            refine l_istore rfl rfl rfl ?_
            refine l_goto rfl rfl ?_
            have w152 : 0 ≤ Xi T1 904 150 ∧ Xi T1 904 150 ≤ 5000 := hHT1.c _ _
            have w153 : 0 ≤ Xi T1 904 151 ∧ Xi T1 904 151 ≤ 8 := hHT1.c _ _
            exact Rl_weak (ih23 _ (by omega) T1 hHT1 hFT1 ((v3 + 1)) (v4) (v5) (1) (by omega) (by omega) (by omega) (by omega) (by omega) (by omega) (by omega) rfl) (And.intro rfl (And.intro rfl (And.intro rfl (And.intro rfl (And.intro rfl (True.intro))))))
  refine l_iload_n rfl rfl ?_
  refine l_istore_n rfl rfl rfl ?_
  refine l_iload_n rfl rfl ?_
  refine l_iload_n rfl rfl ?_
  refine l_iadd rfl ?_
  refine l_istore rfl rfl rfl ?_
  refine l_aload_n rfl rfl ?_
  refine l_iconst rfl ?_
  refine l_pfi rfl rfl rfl rfl ?_
  obtain ⟨U18, eU18⟩ : ∃ T : sS, T = uI S 904 151 (Int32.ofInt 0) := ⟨_, rfl⟩
  rw [← eU18]
  have hHU18 : HI U18 := by rw [eU18]; exact HI_w hH (show 0 ≤ 0 by omega) (show 0 ≤ 8 by omega)
  have hFU18 : FR md_mo_isCommand S U18 := by rw [eU18]; exact FR.wI hF (mdf_i (r := (904, 905, 151, 152)) (List.mem_of_getElem? (i := 1) rfl) (inR_i (by omega) (by omega) (by omega) (by omega)))
  have w154 : Xi U18 904 151 = 0 := by rw [eU18]; exact Xi_same (by unfold rg; omega)
  refine l_aload_n rfl rfl ?_
  refine l_iconst rfl ?_
  refine l_pfi rfl rfl rfl rfl ?_
  obtain ⟨U19, eU19⟩ : ∃ T : sS, T = uI U18 904 150 (Int32.ofInt 0) := ⟨_, rfl⟩
  rw [← eU19]
  have hHU19 : HI U19 := by rw [eU19]; exact HI_w hHU18 (show 0 ≤ 0 by omega) (show 0 ≤ 5000 by omega)
  have hFU19 : FR md_mo_isCommand S U19 := by rw [eU19]; exact FR.wI hFU18 (mdf_i (r := (904, 905, 150, 151)) (List.mem_of_getElem? (i := 0) rfl) (inR_i (by omega) (by omega) (by omega) (by omega)))
  have w155 : Xi U19 904 150 = 0 := by rw [eU19]; exact Xi_same (by unfold rg; omega)
  refine l_iconst rfl ?_
  refine l_istore rfl rfl rfl ?_
  refine l_iconst rfl ?_
  refine l_istore rfl rfl rfl ?_
  have w156 : 0 ≤ Xi U19 904 150 ∧ Xi U19 904 150 ≤ 5000 := hHU19.c _ _
  have w157 : Xi U19 904 151 = Xi U18 904 151 := (show Xi U19 904 151 = Xi U18 904 151 from by rw [eU19]; exact Xi_ne (by omega))
  have w158 : 0 ≤ Xi U18 904 151 ∧ Xi U18 904 151 ≤ 8 := hHU18.c _ _
  exact Rl_weak (C23 _ U19 hHU19 hFU19 (from_) ((from_ + n)) (1) (1) (by omega) (by omega) (by omega) (by omega) (by omega) (by omega) (by omega) rfl) (And.intro rfl (And.intro rfl (And.intro rfl (And.intro rfl (And.intro rfl (True.intro))))))
def md_mo_askVerb : List rec := [(904, 905, 104, 105), (904, 905, 105, 106), (904, 905, 106, 107)]
abbrev Q_mo_askVerb (S : sS) (n : Nat) : pst := fun r S1 => HI S1 ∧ FR md_mo_askVerb S S1 ∧ (r = none ∧ (Xi S1 904 106 = 0 → Xi S 904 47 < 8 ∧ rnR S 1 8 ≠ -1 ∧ Xi S 951 0 = 1))
set_option maxRecDepth 100000 in
set_option maxHeartbeats 4000000 in
theorem t_mo_askVerb {S : sS} (hH : HI S) (n : Nat) (hT : TK S n) (hv : RNV S n) (hM : LXM S) (hN : NWV S) (h2 : 2 ≤ Xi S 904 69) (d : Nat) : Mt lay0 (d + 5) m_mo_askVerb [.ref 904] S (Q_mo_askVerb S n) := by
  refine Mt_R rfl rfl ?_
  have hF : FR md_mo_askVerb S S := FR.rf
  have w1 : 0 ≤ Xi S 904 47 ∧ Xi S 904 47 ≤ 8 := hH.c _ _
  have w2 : 0 ≤ Xi S 904 69 ∧ Xi S 904 69 ≤ 2600 := hH.c _ _
  have w3 : 0 ≤ Xi S 951 0 ∧ Xi S 951 0 ≤ 5010 := hH.c _ _
  have hn5 := hT.1
  have hc69 : 0 ≤ Xi S 904 69 ∧ Xi S 904 69 ≤ 2600 := hH.c _ _
  have q0 := hv 0 (by omega)
  have q1 := hv 1 (by omega)
  have g0 : 0 ≤ Xi S 950 0 ∧ Xi S 950 0 ≤ 5010 := hH.c 950 0
  have g1 : 0 ≤ Xi S 950 1 ∧ Xi S 950 1 ≤ 5010 := hH.c 950 1
  refine l_aload_n rfl rfl ?_
  refine l_gfr rfl rfl rfl rfl rfl (hH.r 904 67 950 rfl) ?_
  refine l_iconst rfl ?_
  refine l_iaload (n := 2600) rfl rfl (by omega) (by omega) (by unfold rg; omega) ?_
  have w4 : 0 ≤ (Xi S 950 ((0 : Int).toNat)) ∧ (Xi S 950 ((0 : Int).toNat)) ≤ 5010 := hH.c _ _
  have w5 : (Xi S 950 ((0 : Int).toNat)) = Xi S 950 0 := rfl
  refine l_istore_n rfl rfl rfl ?_
  refine l_aload_n rfl rfl ?_
  refine l_gfr rfl rfl rfl rfl rfl (hH.r 904 68 951 rfl) ?_
  refine l_iconst rfl ?_
  refine l_iaload (n := 2600) rfl rfl (by omega) (by omega) (by unfold rg; omega) ?_
  have w6 : 0 ≤ (Xi S 951 ((0 : Int).toNat)) ∧ (Xi S 951 ((0 : Int).toNat)) ≤ 5010 := hH.c _ _
  have w7 : (Xi S 951 ((0 : Int).toNat)) = Xi S 951 0 := rfl
  refine l_iconst rfl ?_
  refine l_icmp_ne rfl rfl (by unfold rg; omega) (by unfold rg; omega) (fun w8 => ?_) (fun w9 => ?_)
  · refine l_iconst rfl ?_
    refine l_istore_n rfl rfl rfl ?_
    refine l_aload_n rfl rfl ?_
    refine l_iload_n rfl rfl ?_
    refine l_iconst rfl ?_
    refine l_iload_n rfl rfl ?_
    have w10 : 0 ≤ Xi S 904 106 ∧ Xi S 904 106 ≤ 9 := hH.c _ _
    have w11 : 0 ≤ Xi S 904 108 ∧ Xi S 904 108 ≤ 2600 := hH.c _ _
    have w12 : 0 ≤ Xi S 904 69 ∧ Xi S 904 69 ≤ 2600 := hH.c _ _
    refine l_callV rfl rfl rfl (t_mo_need hH 0 3 (Xi S 950 ((0 : Int).toNat)) ⟨by omega, by omega⟩ ⟨by omega, by omega⟩ ⟨by omega, by omega⟩ _) ?_
    rintro _ T1 ⟨hHT1, w16, rfl, w13, w14⟩
    have hFT1 : FR md_mo_askVerb S T1 := FR.tr hF w16 rfl
    show Rl _ _ _ _ _ [] _ _
    refine l_aload_n rfl rfl ?_
    refine l_iload_n rfl rfl ?_
    refine l_if_eq rfl rfl (by unfold rg; omega) (fun w17 => ?_) (fun w18 => absurd w18 (by omega))
    · refine l_iconst rfl ?_
      refine l_goto rfl rfl ?_
      refine l_bipush rfl rfl ?_
      refine l_iload_n rfl rfl ?_
      have w19 : 0 ≤ Xi T1 904 106 ∧ Xi T1 904 106 ≤ 9 := hHT1.c _ _
      have w20 : Xi T1 904 108 = Xi S 904 108 := (show Xi T1 904 108 = Xi S 904 108 from w16.x _ _ rfl)
      have w21 : 0 ≤ Xi S 904 108 ∧ Xi S 904 108 ≤ 2600 := hH.c _ _
      have w22 : Xi T1 904 69 = Xi S 904 69 := (show Xi T1 904 69 = Xi S 904 69 from w16.x _ _ rfl)
      have w23 : 0 ≤ Xi S 904 69 ∧ Xi S 904 69 ≤ 2600 := hH.c _ _
      refine l_callV rfl rfl rfl (t_mo_need hHT1 1 9 (Xi S 950 ((0 : Int).toNat)) ⟨by omega, by omega⟩ ⟨by omega, by omega⟩ ⟨by omega, by omega⟩ _) ?_
      rintro _ T2 ⟨hHT2, w27, rfl, w24, w25⟩
      have hFT2 : FR md_mo_askVerb S T2 := FR.tr hFT1 w27 rfl
      show Rl _ _ _ _ _ [] _ _
      refine l_aload_n rfl rfl ?_
      refine l_aload_n rfl rfl ?_
      refine l_iconst rfl ?_
      refine l_bipush rfl rfl ?_
      have w28 : 0 ≤ Xi T2 904 106 ∧ Xi T2 904 106 ≤ 9 := hHT2.c _ _
      have w29 : Xi T2 904 108 = Xi S 904 108 := (show Xi T2 904 108 = Xi T1 904 108 from w27.x _ _ rfl).trans ((show Xi T1 904 108 = Xi S 904 108 from w16.x _ _ rfl))
      have w30 : 0 ≤ Xi S 904 108 ∧ Xi S 904 108 ≤ 2600 := hH.c _ _
      have w31 : Xi T2 904 69 = Xi S 904 69 := (show Xi T2 904 69 = Xi T1 904 69 from w27.x _ _ rfl).trans ((show Xi T1 904 69 = Xi S 904 69 from w16.x _ _ rfl))
      have w32 : 0 ≤ Xi S 904 69 ∧ Xi S 904 69 ≤ 2600 := hH.c _ _
      refine l_callV rfl rfl rfl (t_mo_meansRun__2 hHT2 n 1 8 ⟨by omega, by omega⟩ ⟨by omega, by omega⟩ (by first | assumption | exact (TK_FR hFT2 rfl (by assumption : TK S _))) (by first | assumption | exact (RNV_FR hFT2 rfl (by assumption : RNV S _))) (by first | assumption | omega) (by first | assumption | exact (LXM_FR hFT2 rfl (by assumption : LXM S))) _) ?_
      rintro _ _ ⟨rfl, z35, rfl, w35, w33, w34⟩
      show Rl _ _ _ _ _ [iv z35, .ref 904] _ _
      have r105 : z35 = rnR S 1 8 := (by assumption : z35 = rnR T2 _ _).trans (rnR_FR hFT2 rfl rfl)
      refine l_iconst rfl ?_
      refine l_icmp_eq rfl rfl (by unfold rg; omega) (by unfold rg; omega) (fun w36 => ?_) (fun w37 => ?_)
      · refine l_iconst rfl ?_
        refine l_iconst rfl ?_
        refine l_aload_n rfl rfl ?_
        refine l_gfr rfl rfl rfl rfl rfl (hHT2.r 904 67 950 rfl) ?_
        refine l_iconst rfl ?_
        refine l_iaload (n := 2600) rfl rfl (by omega) (by omega) (by unfold rg; omega) ?_
        have w38 : 0 ≤ (Xi T2 950 ((1 : Int).toNat)) ∧ (Xi T2 950 ((1 : Int).toNat)) ≤ 5010 := hHT2.c _ _
        have w39 : (Xi T2 950 ((1 : Int).toNat)) = Xi T2 950 1 := rfl
        have w40 : 0 ≤ Xi T2 904 106 ∧ Xi T2 904 106 ≤ 9 := hHT2.c _ _
        have w41 : Xi T2 904 108 = Xi S 904 108 := (show Xi T2 904 108 = Xi T1 904 108 from w27.x _ _ rfl).trans ((show Xi T1 904 108 = Xi S 904 108 from w16.x _ _ rfl))
        have w42 : 0 ≤ Xi S 904 108 ∧ Xi S 904 108 ≤ 2600 := hH.c _ _
        have w43 : Xi T2 904 69 = Xi S 904 69 := (show Xi T2 904 69 = Xi T1 904 69 from w27.x _ _ rfl).trans ((show Xi T1 904 69 = Xi S 904 69 from w16.x _ _ rfl))
        have w44 : 0 ≤ Xi S 904 69 ∧ Xi S 904 69 ≤ 2600 := hH.c _ _
        refine l_callV rfl rfl rfl (t_mo_need hHT2 0 4 (Xi T2 950 ((1 : Int).toNat)) ⟨by omega, by omega⟩ ⟨by omega, by omega⟩ ⟨by omega, by omega⟩ _) ?_
        rintro _ T3 ⟨hHT3, w48, rfl, w45, w46⟩
        have hFT3 : FR md_mo_askVerb S T3 := FR.tr hFT2 w48 rfl
        show Rl _ _ _ _ _ [] _ _
        refine l_return rfl rfl ?_
        have w49 : 0 ≤ Xi T3 904 106 ∧ Xi T3 904 106 ≤ 9 := hHT3.c _ _
        have w50 : Xi T3 904 108 = Xi S 904 108 := (show Xi T3 904 108 = Xi T2 904 108 from w48.x _ _ rfl).trans ( (show Xi T2 904 108 = Xi T1 904 108 from w27.x _ _ rfl).trans ((show Xi T1 904 108 = Xi S 904 108 from w16.x _ _ rfl)))
        have w51 : 0 ≤ Xi S 904 108 ∧ Xi S 904 108 ≤ 2600 := hH.c _ _
        have w52 : Xi T3 904 69 = Xi S 904 69 := (show Xi T3 904 69 = Xi T2 904 69 from w48.x _ _ rfl).trans ( (show Xi T2 904 69 = Xi T1 904 69 from w27.x _ _ rfl).trans ((show Xi T1 904 69 = Xi S 904 69 from w16.x _ _ rfl)))
        have w53 : 0 ≤ Xi S 904 69 ∧ Xi S 904 69 ≤ 2600 := hH.c _ _
        exact ⟨hHT3, hFT3, rfl, (by first | assumption | omega)⟩
      · refine l_iconst rfl ?_
        refine l_goto rfl rfl ?_
        refine l_iconst rfl ?_
        refine l_aload_n rfl rfl ?_
        refine l_gfr rfl rfl rfl rfl rfl (hHT2.r 904 67 950 rfl) ?_
        refine l_iconst rfl ?_
        refine l_iaload (n := 2600) rfl rfl (by omega) (by omega) (by unfold rg; omega) ?_
        have w54 : 0 ≤ (Xi T2 950 ((1 : Int).toNat)) ∧ (Xi T2 950 ((1 : Int).toNat)) ≤ 5010 := hHT2.c _ _
        have w55 : (Xi T2 950 ((1 : Int).toNat)) = Xi T2 950 1 := rfl
        have w56 : 0 ≤ Xi T2 904 106 ∧ Xi T2 904 106 ≤ 9 := hHT2.c _ _
        have w57 : Xi T2 904 108 = Xi S 904 108 := (show Xi T2 904 108 = Xi T1 904 108 from w27.x _ _ rfl).trans ((show Xi T1 904 108 = Xi S 904 108 from w16.x _ _ rfl))
        have w58 : 0 ≤ Xi S 904 108 ∧ Xi S 904 108 ≤ 2600 := hH.c _ _
        have w59 : Xi T2 904 69 = Xi S 904 69 := (show Xi T2 904 69 = Xi T1 904 69 from w27.x _ _ rfl).trans ((show Xi T1 904 69 = Xi S 904 69 from w16.x _ _ rfl))
        have w60 : 0 ≤ Xi S 904 69 ∧ Xi S 904 69 ≤ 2600 := hH.c _ _
        refine l_callV rfl rfl rfl (t_mo_need hHT2 1 4 (Xi T2 950 ((1 : Int).toNat)) ⟨by omega, by omega⟩ ⟨by omega, by omega⟩ ⟨by omega, by omega⟩ _) ?_
        rintro _ T4 ⟨hHT4, w64, rfl, w61, w62⟩
        have hFT4 : FR md_mo_askVerb S T4 := FR.tr hFT2 w64 rfl
        show Rl _ _ _ _ _ [] _ _
        refine l_return rfl rfl ?_
        have w65 : 0 ≤ Xi T4 904 106 ∧ Xi T4 904 106 ≤ 9 := hHT4.c _ _
        have w66 : Xi T4 904 108 = Xi S 904 108 := (show Xi T4 904 108 = Xi T2 904 108 from w64.x _ _ rfl).trans ( (show Xi T2 904 108 = Xi T1 904 108 from w27.x _ _ rfl).trans ((show Xi T1 904 108 = Xi S 904 108 from w16.x _ _ rfl)))
        have w67 : 0 ≤ Xi S 904 108 ∧ Xi S 904 108 ≤ 2600 := hH.c _ _
        have w68 : Xi T4 904 69 = Xi S 904 69 := (show Xi T4 904 69 = Xi T2 904 69 from w64.x _ _ rfl).trans ( (show Xi T2 904 69 = Xi T1 904 69 from w27.x _ _ rfl).trans ((show Xi T1 904 69 = Xi S 904 69 from w16.x _ _ rfl)))
        have w69 : 0 ≤ Xi S 904 69 ∧ Xi S 904 69 ≤ 2600 := hH.c _ _
        exact ⟨hHT4, hFT4, rfl, (by first | assumption | omega)⟩
  · refine l_aload_n rfl rfl ?_
    refine l_iconst rfl ?_
    have w70 : 0 ≤ Xi S 904 106 ∧ Xi S 904 106 ≤ 9 := hH.c _ _
    have w71 : 0 ≤ Xi S 904 108 ∧ Xi S 904 108 ≤ 2600 := hH.c _ _
    have w72 : 0 ≤ Xi S 904 69 ∧ Xi S 904 69 ≤ 2600 := hH.c _ _
    refine l_callV rfl rfl rfl (t_mo_isNew hH n 0 ⟨by omega, by omega⟩ (by first | assumption | exact (TK_FR hF rfl (by assumption : TK S _))) (by first | assumption | exact (RNV_FR hF rfl (by assumption : RNV S _))) (by first | assumption | omega) (by first | assumption | exact (NWV_FR hF rfl (by assumption : NWV S))) _) ?_
    rintro _ _ ⟨rfl, z74, rfl, w74, w73⟩
    show Rl _ _ _ _ _ [iv z74] _ _
    refine l_if_eq rfl rfl (by unfold rg; omega) (fun w75 => ?_) (fun w76 => ?_)
    · refine l_iconst rfl ?_
      refine l_istore_n rfl rfl rfl ?_
      refine l_aload_n rfl rfl ?_
      refine l_iload_n rfl rfl ?_
      refine l_iconst rfl ?_
      refine l_iload_n rfl rfl ?_
      have w77 : 0 ≤ Xi S 904 106 ∧ Xi S 904 106 ≤ 9 := hH.c _ _
      have w78 : 0 ≤ Xi S 904 108 ∧ Xi S 904 108 ≤ 2600 := hH.c _ _
      have w79 : 0 ≤ Xi S 904 69 ∧ Xi S 904 69 ≤ 2600 := hH.c _ _
      refine l_callV rfl rfl rfl (t_mo_need hH 0 3 (Xi S 950 ((0 : Int).toNat)) ⟨by omega, by omega⟩ ⟨by omega, by omega⟩ ⟨by omega, by omega⟩ _) ?_
      rintro _ T5 ⟨hHT5, w83, rfl, w80, w81⟩
      have hFT5 : FR md_mo_askVerb S T5 := FR.tr hF w83 rfl
      show Rl _ _ _ _ _ [] _ _
      refine l_aload_n rfl rfl ?_
      refine l_iload_n rfl rfl ?_
      refine l_if_eq rfl rfl (by unfold rg; omega) (fun w84 => ?_) (fun w85 => absurd w85 (by omega))
      · refine l_iconst rfl ?_
        refine l_goto rfl rfl ?_
        refine l_bipush rfl rfl ?_
        refine l_iload_n rfl rfl ?_
        have w86 : 0 ≤ Xi T5 904 106 ∧ Xi T5 904 106 ≤ 9 := hHT5.c _ _
        have w87 : Xi T5 904 108 = Xi S 904 108 := (show Xi T5 904 108 = Xi S 904 108 from w83.x _ _ rfl)
        have w88 : 0 ≤ Xi S 904 108 ∧ Xi S 904 108 ≤ 2600 := hH.c _ _
        have w89 : Xi T5 904 69 = Xi S 904 69 := (show Xi T5 904 69 = Xi S 904 69 from w83.x _ _ rfl)
        have w90 : 0 ≤ Xi S 904 69 ∧ Xi S 904 69 ≤ 2600 := hH.c _ _
        refine l_callV rfl rfl rfl (t_mo_need hHT5 1 9 (Xi S 950 ((0 : Int).toNat)) ⟨by omega, by omega⟩ ⟨by omega, by omega⟩ ⟨by omega, by omega⟩ _) ?_
        rintro _ T6 ⟨hHT6, w94, rfl, w91, w92⟩
        have hFT6 : FR md_mo_askVerb S T6 := FR.tr hFT5 w94 rfl
        show Rl _ _ _ _ _ [] _ _
        refine l_aload_n rfl rfl ?_
        refine l_aload_n rfl rfl ?_
        refine l_iconst rfl ?_
        refine l_bipush rfl rfl ?_
        have w95 : 0 ≤ Xi T6 904 106 ∧ Xi T6 904 106 ≤ 9 := hHT6.c _ _
        have w96 : Xi T6 904 108 = Xi S 904 108 := (show Xi T6 904 108 = Xi T5 904 108 from w94.x _ _ rfl).trans ((show Xi T5 904 108 = Xi S 904 108 from w83.x _ _ rfl))
        have w97 : 0 ≤ Xi S 904 108 ∧ Xi S 904 108 ≤ 2600 := hH.c _ _
        have w98 : Xi T6 904 69 = Xi S 904 69 := (show Xi T6 904 69 = Xi T5 904 69 from w94.x _ _ rfl).trans ((show Xi T5 904 69 = Xi S 904 69 from w83.x _ _ rfl))
        have w99 : 0 ≤ Xi S 904 69 ∧ Xi S 904 69 ≤ 2600 := hH.c _ _
        refine l_callV rfl rfl rfl (t_mo_meansRun__2 hHT6 n 1 8 ⟨by omega, by omega⟩ ⟨by omega, by omega⟩ (by first | assumption | exact (TK_FR hFT6 rfl (by assumption : TK S _))) (by first | assumption | exact (RNV_FR hFT6 rfl (by assumption : RNV S _))) (by first | assumption | omega) (by first | assumption | exact (LXM_FR hFT6 rfl (by assumption : LXM S))) _) ?_
        rintro _ _ ⟨rfl, z102, rfl, w102, w100, w101⟩
        show Rl _ _ _ _ _ [iv z102, .ref 904] _ _
        have r105 : z102 = rnR S 1 8 := (by assumption : z102 = rnR T6 _ _).trans (rnR_FR hFT6 rfl rfl)
        refine l_iconst rfl ?_
        refine l_icmp_eq rfl rfl (by unfold rg; omega) (by unfold rg; omega) (fun w103 => ?_) (fun w104 => ?_)
        · refine l_iconst rfl ?_
          refine l_iconst rfl ?_
          refine l_aload_n rfl rfl ?_
          refine l_gfr rfl rfl rfl rfl rfl (hHT6.r 904 67 950 rfl) ?_
          refine l_iconst rfl ?_
          refine l_iaload (n := 2600) rfl rfl (by omega) (by omega) (by unfold rg; omega) ?_
          have w105 : 0 ≤ (Xi T6 950 ((1 : Int).toNat)) ∧ (Xi T6 950 ((1 : Int).toNat)) ≤ 5010 := hHT6.c _ _
          have w106 : (Xi T6 950 ((1 : Int).toNat)) = Xi T6 950 1 := rfl
          have w107 : 0 ≤ Xi T6 904 106 ∧ Xi T6 904 106 ≤ 9 := hHT6.c _ _
          have w108 : Xi T6 904 108 = Xi S 904 108 := (show Xi T6 904 108 = Xi T5 904 108 from w94.x _ _ rfl).trans ((show Xi T5 904 108 = Xi S 904 108 from w83.x _ _ rfl))
          have w109 : 0 ≤ Xi S 904 108 ∧ Xi S 904 108 ≤ 2600 := hH.c _ _
          have w110 : Xi T6 904 69 = Xi S 904 69 := (show Xi T6 904 69 = Xi T5 904 69 from w94.x _ _ rfl).trans ((show Xi T5 904 69 = Xi S 904 69 from w83.x _ _ rfl))
          have w111 : 0 ≤ Xi S 904 69 ∧ Xi S 904 69 ≤ 2600 := hH.c _ _
          refine l_callV rfl rfl rfl (t_mo_need hHT6 0 4 (Xi T6 950 ((1 : Int).toNat)) ⟨by omega, by omega⟩ ⟨by omega, by omega⟩ ⟨by omega, by omega⟩ _) ?_
          rintro _ T7 ⟨hHT7, w115, rfl, w112, w113⟩
          have hFT7 : FR md_mo_askVerb S T7 := FR.tr hFT6 w115 rfl
          show Rl _ _ _ _ _ [] _ _
          refine l_return rfl rfl ?_
          have w116 : 0 ≤ Xi T7 904 106 ∧ Xi T7 904 106 ≤ 9 := hHT7.c _ _
          have w117 : Xi T7 904 108 = Xi S 904 108 := (show Xi T7 904 108 = Xi T6 904 108 from w115.x _ _ rfl).trans ( (show Xi T6 904 108 = Xi T5 904 108 from w94.x _ _ rfl).trans ((show Xi T5 904 108 = Xi S 904 108 from w83.x _ _ rfl)))
          have w118 : 0 ≤ Xi S 904 108 ∧ Xi S 904 108 ≤ 2600 := hH.c _ _
          have w119 : Xi T7 904 69 = Xi S 904 69 := (show Xi T7 904 69 = Xi T6 904 69 from w115.x _ _ rfl).trans ( (show Xi T6 904 69 = Xi T5 904 69 from w94.x _ _ rfl).trans ((show Xi T5 904 69 = Xi S 904 69 from w83.x _ _ rfl)))
          have w120 : 0 ≤ Xi S 904 69 ∧ Xi S 904 69 ≤ 2600 := hH.c _ _
          exact ⟨hHT7, hFT7, rfl, (by first | assumption | omega)⟩
        · refine l_iconst rfl ?_
          refine l_goto rfl rfl ?_
          refine l_iconst rfl ?_
          refine l_aload_n rfl rfl ?_
          refine l_gfr rfl rfl rfl rfl rfl (hHT6.r 904 67 950 rfl) ?_
          refine l_iconst rfl ?_
          refine l_iaload (n := 2600) rfl rfl (by omega) (by omega) (by unfold rg; omega) ?_
          have w121 : 0 ≤ (Xi T6 950 ((1 : Int).toNat)) ∧ (Xi T6 950 ((1 : Int).toNat)) ≤ 5010 := hHT6.c _ _
          have w122 : (Xi T6 950 ((1 : Int).toNat)) = Xi T6 950 1 := rfl
          have w123 : 0 ≤ Xi T6 904 106 ∧ Xi T6 904 106 ≤ 9 := hHT6.c _ _
          have w124 : Xi T6 904 108 = Xi S 904 108 := (show Xi T6 904 108 = Xi T5 904 108 from w94.x _ _ rfl).trans ((show Xi T5 904 108 = Xi S 904 108 from w83.x _ _ rfl))
          have w125 : 0 ≤ Xi S 904 108 ∧ Xi S 904 108 ≤ 2600 := hH.c _ _
          have w126 : Xi T6 904 69 = Xi S 904 69 := (show Xi T6 904 69 = Xi T5 904 69 from w94.x _ _ rfl).trans ((show Xi T5 904 69 = Xi S 904 69 from w83.x _ _ rfl))
          have w127 : 0 ≤ Xi S 904 69 ∧ Xi S 904 69 ≤ 2600 := hH.c _ _
          refine l_callV rfl rfl rfl (t_mo_need hHT6 1 4 (Xi T6 950 ((1 : Int).toNat)) ⟨by omega, by omega⟩ ⟨by omega, by omega⟩ ⟨by omega, by omega⟩ _) ?_
          rintro _ T8 ⟨hHT8, w131, rfl, w128, w129⟩
          have hFT8 : FR md_mo_askVerb S T8 := FR.tr hFT6 w131 rfl
          show Rl _ _ _ _ _ [] _ _
          refine l_return rfl rfl ?_
          have w132 : 0 ≤ Xi T8 904 106 ∧ Xi T8 904 106 ≤ 9 := hHT8.c _ _
          have w133 : Xi T8 904 108 = Xi S 904 108 := (show Xi T8 904 108 = Xi T6 904 108 from w131.x _ _ rfl).trans ( (show Xi T6 904 108 = Xi T5 904 108 from w94.x _ _ rfl).trans ((show Xi T5 904 108 = Xi S 904 108 from w83.x _ _ rfl)))
          have w134 : 0 ≤ Xi S 904 108 ∧ Xi S 904 108 ≤ 2600 := hH.c _ _
          have w135 : Xi T8 904 69 = Xi S 904 69 := (show Xi T8 904 69 = Xi T6 904 69 from w131.x _ _ rfl).trans ( (show Xi T6 904 69 = Xi T5 904 69 from w94.x _ _ rfl).trans ((show Xi T5 904 69 = Xi S 904 69 from w83.x _ _ rfl)))
          have w136 : 0 ≤ Xi S 904 69 ∧ Xi S 904 69 ≤ 2600 := hH.c _ _
          exact ⟨hHT8, hFT8, rfl, (by first | assumption | omega)⟩
    · refine l_aload_n rfl rfl ?_
      refine l_gfr rfl rfl rfl rfl rfl (hH.r 904 7 910 rfl) ?_
      refine l_iload_n rfl rfl ?_
      refine l_laload (n := 5002) rfl rfl (by omega) (by omega) (by unfold rg; omega) ?_
      have w137 : -9223372036854775808 ≤ (Xj S 910 (((Xi S 950 ((0 : Int).toNat))).toNat)) ∧ (Xj S 910 (((Xi S 950 ((0 : Int).toNat))).toNat)) < 9223372036854775808 := Xj_rg
      refine l_bipush rfl rfl ?_
      refine l_lshrF rfl ?_
      have w138 : rgL (lshrF (Xj S 910 (((Xi S 950 ((0 : Int).toNat))).toNat)) 55) := lshrF_rg
      refine l_lconst (z := 0) rfl rfl ?_
      refine l_lcmpA rfl (fun c139 w139 => ?_)
      refine l_if_ne rfl rfl (by unfold rg; omega) (fun w140 => ?_) (fun w141 => ?_)
      · refine l_iconst rfl ?_
        refine l_goto rfl rfl ?_
        refine l_istore_n rfl rfl rfl ?_
        refine l_aload_n rfl rfl ?_
        refine l_iload_n rfl rfl ?_
        refine l_iconst rfl ?_
        refine l_iload_n rfl rfl ?_
        have w142 : 0 ≤ Xi S 904 106 ∧ Xi S 904 106 ≤ 9 := hH.c _ _
        have w143 : 0 ≤ Xi S 904 108 ∧ Xi S 904 108 ≤ 2600 := hH.c _ _
        have w144 : 0 ≤ Xi S 904 69 ∧ Xi S 904 69 ≤ 2600 := hH.c _ _
        refine l_callV rfl rfl rfl (t_mo_need hH 1 3 (Xi S 950 ((0 : Int).toNat)) ⟨by omega, by omega⟩ ⟨by omega, by omega⟩ ⟨by omega, by omega⟩ _) ?_
        rintro _ T9 ⟨hHT9, w148, rfl, w145, w146⟩
        have hFT9 : FR md_mo_askVerb S T9 := FR.tr hF w148 rfl
        show Rl _ _ _ _ _ [] _ _
        refine l_aload_n rfl rfl ?_
        refine l_iload_n rfl rfl ?_
        refine l_if_eq rfl rfl (by unfold rg; omega) (fun w149 => absurd w149 (by omega)) (fun w150 => ?_)
        · refine l_aload_n rfl rfl ?_
          refine l_gfi rfl rfl rfl rfl rfl ?_
          have w151 : (Xi T9 904 47) = (Xi S 904 47) := (show Xi T9 904 47 = Xi S 904 47 from w148.x _ _ rfl)
          rw [w151]
          refine l_bipush rfl rfl ?_
          refine l_icmp_ge rfl rfl (by unfold rg; omega) (by unfold rg; omega) (fun w152 => ?_) (fun w153 => ?_)
          · refine l_iconst rfl ?_
            refine l_bipush rfl rfl ?_
            refine l_iload_n rfl rfl ?_
            have w154 : 0 ≤ Xi T9 904 106 ∧ Xi T9 904 106 ≤ 9 := hHT9.c _ _
            have w155 : Xi T9 904 108 = Xi S 904 108 := (show Xi T9 904 108 = Xi S 904 108 from w148.x _ _ rfl)
            have w156 : 0 ≤ Xi S 904 108 ∧ Xi S 904 108 ≤ 2600 := hH.c _ _
            have w157 : Xi T9 904 69 = Xi S 904 69 := (show Xi T9 904 69 = Xi S 904 69 from w148.x _ _ rfl)
            have w158 : 0 ≤ Xi S 904 69 ∧ Xi S 904 69 ≤ 2600 := hH.c _ _
            refine l_callV rfl rfl rfl (t_mo_need hHT9 0 9 (Xi S 950 ((0 : Int).toNat)) ⟨by omega, by omega⟩ ⟨by omega, by omega⟩ ⟨by omega, by omega⟩ _) ?_
            rintro _ T10 ⟨hHT10, w162, rfl, w159, w160⟩
            have hFT10 : FR md_mo_askVerb S T10 := FR.tr hFT9 w162 rfl
            show Rl _ _ _ _ _ [] _ _
            refine l_aload_n rfl rfl ?_
            refine l_aload_n rfl rfl ?_
            refine l_iconst rfl ?_
            refine l_bipush rfl rfl ?_
            have w163 : 0 ≤ Xi T10 904 106 ∧ Xi T10 904 106 ≤ 9 := hHT10.c _ _
            have w164 : Xi T10 904 108 = Xi S 904 108 := (show Xi T10 904 108 = Xi T9 904 108 from w162.x _ _ rfl).trans ((show Xi T9 904 108 = Xi S 904 108 from w148.x _ _ rfl))
            have w165 : 0 ≤ Xi S 904 108 ∧ Xi S 904 108 ≤ 2600 := hH.c _ _
            have w166 : Xi T10 904 69 = Xi S 904 69 := (show Xi T10 904 69 = Xi T9 904 69 from w162.x _ _ rfl).trans ((show Xi T9 904 69 = Xi S 904 69 from w148.x _ _ rfl))
            have w167 : 0 ≤ Xi S 904 69 ∧ Xi S 904 69 ≤ 2600 := hH.c _ _
            refine l_callV rfl rfl rfl (t_mo_meansRun__2 hHT10 n 1 8 ⟨by omega, by omega⟩ ⟨by omega, by omega⟩ (by first | assumption | exact (TK_FR hFT10 rfl (by assumption : TK S _))) (by first | assumption | exact (RNV_FR hFT10 rfl (by assumption : RNV S _))) (by first | assumption | omega) (by first | assumption | exact (LXM_FR hFT10 rfl (by assumption : LXM S))) _) ?_
            rintro _ _ ⟨rfl, z170, rfl, w170, w168, w169⟩
            show Rl _ _ _ _ _ [iv z170, .ref 904] _ _
            have r105 : z170 = rnR S 1 8 := (by assumption : z170 = rnR T10 _ _).trans (rnR_FR hFT10 rfl rfl)
            refine l_iconst rfl ?_
            refine l_icmp_eq rfl rfl (by unfold rg; omega) (by unfold rg; omega) (fun w171 => ?_) (fun w172 => ?_)
            · refine l_iconst rfl ?_
              refine l_iconst rfl ?_
              refine l_aload_n rfl rfl ?_
              refine l_gfr rfl rfl rfl rfl rfl (hHT10.r 904 67 950 rfl) ?_
              refine l_iconst rfl ?_
              refine l_iaload (n := 2600) rfl rfl (by omega) (by omega) (by unfold rg; omega) ?_
              have w173 : 0 ≤ (Xi T10 950 ((1 : Int).toNat)) ∧ (Xi T10 950 ((1 : Int).toNat)) ≤ 5010 := hHT10.c _ _
              have w174 : (Xi T10 950 ((1 : Int).toNat)) = Xi T10 950 1 := rfl
              have w175 : 0 ≤ Xi T10 904 106 ∧ Xi T10 904 106 ≤ 9 := hHT10.c _ _
              have w176 : Xi T10 904 108 = Xi S 904 108 := (show Xi T10 904 108 = Xi T9 904 108 from w162.x _ _ rfl).trans ((show Xi T9 904 108 = Xi S 904 108 from w148.x _ _ rfl))
              have w177 : 0 ≤ Xi S 904 108 ∧ Xi S 904 108 ≤ 2600 := hH.c _ _
              have w178 : Xi T10 904 69 = Xi S 904 69 := (show Xi T10 904 69 = Xi T9 904 69 from w162.x _ _ rfl).trans ((show Xi T9 904 69 = Xi S 904 69 from w148.x _ _ rfl))
              have w179 : 0 ≤ Xi S 904 69 ∧ Xi S 904 69 ≤ 2600 := hH.c _ _
              refine l_callV rfl rfl rfl (t_mo_need hHT10 0 4 (Xi T10 950 ((1 : Int).toNat)) ⟨by omega, by omega⟩ ⟨by omega, by omega⟩ ⟨by omega, by omega⟩ _) ?_
              rintro _ T11 ⟨hHT11, w183, rfl, w180, w181⟩
              have hFT11 : FR md_mo_askVerb S T11 := FR.tr hFT10 w183 rfl
              show Rl _ _ _ _ _ [] _ _
              refine l_return rfl rfl ?_
              have w184 : 0 ≤ Xi T11 904 106 ∧ Xi T11 904 106 ≤ 9 := hHT11.c _ _
              have w185 : Xi T11 904 108 = Xi S 904 108 := (show Xi T11 904 108 = Xi T10 904 108 from w183.x _ _ rfl).trans ( (show Xi T10 904 108 = Xi T9 904 108 from w162.x _ _ rfl).trans ((show Xi T9 904 108 = Xi S 904 108 from w148.x _ _ rfl)))
              have w186 : 0 ≤ Xi S 904 108 ∧ Xi S 904 108 ≤ 2600 := hH.c _ _
              have w187 : Xi T11 904 69 = Xi S 904 69 := (show Xi T11 904 69 = Xi T10 904 69 from w183.x _ _ rfl).trans ( (show Xi T10 904 69 = Xi T9 904 69 from w162.x _ _ rfl).trans ((show Xi T9 904 69 = Xi S 904 69 from w148.x _ _ rfl)))
              have w188 : 0 ≤ Xi S 904 69 ∧ Xi S 904 69 ≤ 2600 := hH.c _ _
              exact ⟨hHT11, hFT11, rfl, (by first | assumption | omega)⟩
            · refine l_iconst rfl ?_
              refine l_goto rfl rfl ?_
              refine l_iconst rfl ?_
              refine l_aload_n rfl rfl ?_
              refine l_gfr rfl rfl rfl rfl rfl (hHT10.r 904 67 950 rfl) ?_
              refine l_iconst rfl ?_
              refine l_iaload (n := 2600) rfl rfl (by omega) (by omega) (by unfold rg; omega) ?_
              have w189 : 0 ≤ (Xi T10 950 ((1 : Int).toNat)) ∧ (Xi T10 950 ((1 : Int).toNat)) ≤ 5010 := hHT10.c _ _
              have w190 : (Xi T10 950 ((1 : Int).toNat)) = Xi T10 950 1 := rfl
              have w191 : 0 ≤ Xi T10 904 106 ∧ Xi T10 904 106 ≤ 9 := hHT10.c _ _
              have w192 : Xi T10 904 108 = Xi S 904 108 := (show Xi T10 904 108 = Xi T9 904 108 from w162.x _ _ rfl).trans ((show Xi T9 904 108 = Xi S 904 108 from w148.x _ _ rfl))
              have w193 : 0 ≤ Xi S 904 108 ∧ Xi S 904 108 ≤ 2600 := hH.c _ _
              have w194 : Xi T10 904 69 = Xi S 904 69 := (show Xi T10 904 69 = Xi T9 904 69 from w162.x _ _ rfl).trans ((show Xi T9 904 69 = Xi S 904 69 from w148.x _ _ rfl))
              have w195 : 0 ≤ Xi S 904 69 ∧ Xi S 904 69 ≤ 2600 := hH.c _ _
              refine l_callV rfl rfl rfl (t_mo_need hHT10 1 4 (Xi T10 950 ((1 : Int).toNat)) ⟨by omega, by omega⟩ ⟨by omega, by omega⟩ ⟨by omega, by omega⟩ _) ?_
              rintro _ T12 ⟨hHT12, w199, rfl, w196, w197⟩
              have hFT12 : FR md_mo_askVerb S T12 := FR.tr hFT10 w199 rfl
              show Rl _ _ _ _ _ [] _ _
              refine l_return rfl rfl ?_
              have w200 : 0 ≤ Xi T12 904 106 ∧ Xi T12 904 106 ≤ 9 := hHT12.c _ _
              have w201 : Xi T12 904 108 = Xi S 904 108 := (show Xi T12 904 108 = Xi T10 904 108 from w199.x _ _ rfl).trans ( (show Xi T10 904 108 = Xi T9 904 108 from w162.x _ _ rfl).trans ((show Xi T9 904 108 = Xi S 904 108 from w148.x _ _ rfl)))
              have w202 : 0 ≤ Xi S 904 108 ∧ Xi S 904 108 ≤ 2600 := hH.c _ _
              have w203 : Xi T12 904 69 = Xi S 904 69 := (show Xi T12 904 69 = Xi T10 904 69 from w199.x _ _ rfl).trans ( (show Xi T10 904 69 = Xi T9 904 69 from w162.x _ _ rfl).trans ((show Xi T9 904 69 = Xi S 904 69 from w148.x _ _ rfl)))
              have w204 : 0 ≤ Xi S 904 69 ∧ Xi S 904 69 ≤ 2600 := hH.c _ _
              exact ⟨hHT12, hFT12, rfl, (by first | assumption | omega)⟩
          · refine l_iconst rfl ?_
            refine l_goto rfl rfl ?_
            refine l_bipush rfl rfl ?_
            refine l_iload_n rfl rfl ?_
            have w205 : 0 ≤ Xi T9 904 106 ∧ Xi T9 904 106 ≤ 9 := hHT9.c _ _
            have w206 : Xi T9 904 108 = Xi S 904 108 := (show Xi T9 904 108 = Xi S 904 108 from w148.x _ _ rfl)
            have w207 : 0 ≤ Xi S 904 108 ∧ Xi S 904 108 ≤ 2600 := hH.c _ _
            have w208 : Xi T9 904 69 = Xi S 904 69 := (show Xi T9 904 69 = Xi S 904 69 from w148.x _ _ rfl)
            have w209 : 0 ≤ Xi S 904 69 ∧ Xi S 904 69 ≤ 2600 := hH.c _ _
            refine l_callV rfl rfl rfl (t_mo_need hHT9 1 9 (Xi S 950 ((0 : Int).toNat)) ⟨by omega, by omega⟩ ⟨by omega, by omega⟩ ⟨by omega, by omega⟩ _) ?_
            rintro _ T13 ⟨hHT13, w213, rfl, w210, w211⟩
            have hFT13 : FR md_mo_askVerb S T13 := FR.tr hFT9 w213 rfl
            show Rl _ _ _ _ _ [] _ _
            refine l_aload_n rfl rfl ?_
            refine l_aload_n rfl rfl ?_
            refine l_iconst rfl ?_
            refine l_bipush rfl rfl ?_
            have w214 : 0 ≤ Xi T13 904 106 ∧ Xi T13 904 106 ≤ 9 := hHT13.c _ _
            have w215 : Xi T13 904 108 = Xi S 904 108 := (show Xi T13 904 108 = Xi T9 904 108 from w213.x _ _ rfl).trans ((show Xi T9 904 108 = Xi S 904 108 from w148.x _ _ rfl))
            have w216 : 0 ≤ Xi S 904 108 ∧ Xi S 904 108 ≤ 2600 := hH.c _ _
            have w217 : Xi T13 904 69 = Xi S 904 69 := (show Xi T13 904 69 = Xi T9 904 69 from w213.x _ _ rfl).trans ((show Xi T9 904 69 = Xi S 904 69 from w148.x _ _ rfl))
            have w218 : 0 ≤ Xi S 904 69 ∧ Xi S 904 69 ≤ 2600 := hH.c _ _
            refine l_callV rfl rfl rfl (t_mo_meansRun__2 hHT13 n 1 8 ⟨by omega, by omega⟩ ⟨by omega, by omega⟩ (by first | assumption | exact (TK_FR hFT13 rfl (by assumption : TK S _))) (by first | assumption | exact (RNV_FR hFT13 rfl (by assumption : RNV S _))) (by first | assumption | omega) (by first | assumption | exact (LXM_FR hFT13 rfl (by assumption : LXM S))) _) ?_
            rintro _ _ ⟨rfl, z221, rfl, w221, w219, w220⟩
            show Rl _ _ _ _ _ [iv z221, .ref 904] _ _
            have r105 : z221 = rnR S 1 8 := (by assumption : z221 = rnR T13 _ _).trans (rnR_FR hFT13 rfl rfl)
            refine l_iconst rfl ?_
            refine l_icmp_eq rfl rfl (by unfold rg; omega) (by unfold rg; omega) (fun w222 => ?_) (fun w223 => ?_)
            · refine l_iconst rfl ?_
              refine l_iconst rfl ?_
              refine l_aload_n rfl rfl ?_
              refine l_gfr rfl rfl rfl rfl rfl (hHT13.r 904 67 950 rfl) ?_
              refine l_iconst rfl ?_
              refine l_iaload (n := 2600) rfl rfl (by omega) (by omega) (by unfold rg; omega) ?_
              have w224 : 0 ≤ (Xi T13 950 ((1 : Int).toNat)) ∧ (Xi T13 950 ((1 : Int).toNat)) ≤ 5010 := hHT13.c _ _
              have w225 : (Xi T13 950 ((1 : Int).toNat)) = Xi T13 950 1 := rfl
              have w226 : 0 ≤ Xi T13 904 106 ∧ Xi T13 904 106 ≤ 9 := hHT13.c _ _
              have w227 : Xi T13 904 108 = Xi S 904 108 := (show Xi T13 904 108 = Xi T9 904 108 from w213.x _ _ rfl).trans ((show Xi T9 904 108 = Xi S 904 108 from w148.x _ _ rfl))
              have w228 : 0 ≤ Xi S 904 108 ∧ Xi S 904 108 ≤ 2600 := hH.c _ _
              have w229 : Xi T13 904 69 = Xi S 904 69 := (show Xi T13 904 69 = Xi T9 904 69 from w213.x _ _ rfl).trans ((show Xi T9 904 69 = Xi S 904 69 from w148.x _ _ rfl))
              have w230 : 0 ≤ Xi S 904 69 ∧ Xi S 904 69 ≤ 2600 := hH.c _ _
              refine l_callV rfl rfl rfl (t_mo_need hHT13 0 4 (Xi T13 950 ((1 : Int).toNat)) ⟨by omega, by omega⟩ ⟨by omega, by omega⟩ ⟨by omega, by omega⟩ _) ?_
              rintro _ T14 ⟨hHT14, w234, rfl, w231, w232⟩
              have hFT14 : FR md_mo_askVerb S T14 := FR.tr hFT13 w234 rfl
              show Rl _ _ _ _ _ [] _ _
              refine l_return rfl rfl ?_
              have w235 : 0 ≤ Xi T14 904 106 ∧ Xi T14 904 106 ≤ 9 := hHT14.c _ _
              have w236 : Xi T14 904 108 = Xi S 904 108 := (show Xi T14 904 108 = Xi T13 904 108 from w234.x _ _ rfl).trans ( (show Xi T13 904 108 = Xi T9 904 108 from w213.x _ _ rfl).trans ((show Xi T9 904 108 = Xi S 904 108 from w148.x _ _ rfl)))
              have w237 : 0 ≤ Xi S 904 108 ∧ Xi S 904 108 ≤ 2600 := hH.c _ _
              have w238 : Xi T14 904 69 = Xi S 904 69 := (show Xi T14 904 69 = Xi T13 904 69 from w234.x _ _ rfl).trans ( (show Xi T13 904 69 = Xi T9 904 69 from w213.x _ _ rfl).trans ((show Xi T9 904 69 = Xi S 904 69 from w148.x _ _ rfl)))
              have w239 : 0 ≤ Xi S 904 69 ∧ Xi S 904 69 ≤ 2600 := hH.c _ _
              exact ⟨hHT14, hFT14, rfl, (by first | assumption | omega)⟩
            · refine l_iconst rfl ?_
              refine l_goto rfl rfl ?_
              refine l_iconst rfl ?_
              refine l_aload_n rfl rfl ?_
              refine l_gfr rfl rfl rfl rfl rfl (hHT13.r 904 67 950 rfl) ?_
              refine l_iconst rfl ?_
              refine l_iaload (n := 2600) rfl rfl (by omega) (by omega) (by unfold rg; omega) ?_
              have w240 : 0 ≤ (Xi T13 950 ((1 : Int).toNat)) ∧ (Xi T13 950 ((1 : Int).toNat)) ≤ 5010 := hHT13.c _ _
              have w241 : (Xi T13 950 ((1 : Int).toNat)) = Xi T13 950 1 := rfl
              have w242 : 0 ≤ Xi T13 904 106 ∧ Xi T13 904 106 ≤ 9 := hHT13.c _ _
              have w243 : Xi T13 904 108 = Xi S 904 108 := (show Xi T13 904 108 = Xi T9 904 108 from w213.x _ _ rfl).trans ((show Xi T9 904 108 = Xi S 904 108 from w148.x _ _ rfl))
              have w244 : 0 ≤ Xi S 904 108 ∧ Xi S 904 108 ≤ 2600 := hH.c _ _
              have w245 : Xi T13 904 69 = Xi S 904 69 := (show Xi T13 904 69 = Xi T9 904 69 from w213.x _ _ rfl).trans ((show Xi T9 904 69 = Xi S 904 69 from w148.x _ _ rfl))
              have w246 : 0 ≤ Xi S 904 69 ∧ Xi S 904 69 ≤ 2600 := hH.c _ _
              refine l_callV rfl rfl rfl (t_mo_need hHT13 1 4 (Xi T13 950 ((1 : Int).toNat)) ⟨by omega, by omega⟩ ⟨by omega, by omega⟩ ⟨by omega, by omega⟩ _) ?_
              rintro _ T15 ⟨hHT15, w250, rfl, w247, w248⟩
              have hFT15 : FR md_mo_askVerb S T15 := FR.tr hFT13 w250 rfl
              show Rl _ _ _ _ _ [] _ _
              refine l_return rfl rfl ?_
              have w251 : 0 ≤ Xi T15 904 106 ∧ Xi T15 904 106 ≤ 9 := hHT15.c _ _
              have w252 : Xi T15 904 108 = Xi S 904 108 := (show Xi T15 904 108 = Xi T13 904 108 from w250.x _ _ rfl).trans ( (show Xi T13 904 108 = Xi T9 904 108 from w213.x _ _ rfl).trans ((show Xi T9 904 108 = Xi S 904 108 from w148.x _ _ rfl)))
              have w253 : 0 ≤ Xi S 904 108 ∧ Xi S 904 108 ≤ 2600 := hH.c _ _
              have w254 : Xi T15 904 69 = Xi S 904 69 := (show Xi T15 904 69 = Xi T13 904 69 from w250.x _ _ rfl).trans ( (show Xi T13 904 69 = Xi T9 904 69 from w213.x _ _ rfl).trans ((show Xi T9 904 69 = Xi S 904 69 from w148.x _ _ rfl)))
              have w255 : 0 ≤ Xi S 904 69 ∧ Xi S 904 69 ≤ 2600 := hH.c _ _
              exact ⟨hHT15, hFT15, rfl, (by first | assumption | omega)⟩
      · refine l_aload_n rfl rfl ?_
        refine l_aload_n rfl rfl ?_
        refine l_gfr rfl rfl rfl rfl rfl (hH.r 904 7 910 rfl) ?_
        refine l_iload_n rfl rfl ?_
        refine l_laload (n := 5002) rfl rfl (by omega) (by omega) (by unfold rg; omega) ?_
        have w256 : -9223372036854775808 ≤ (Xj S 910 (((Xi S 950 ((0 : Int).toNat))).toNat)) ∧ (Xj S 910 (((Xi S 950 ((0 : Int).toNat))).toNat)) < 9223372036854775808 := Xj_rg
        refine l_iconst rfl ?_
        refine l_lshlF rfl ?_
        have w257 : rgL (lshlF (Xj S 910 (((Xi S 950 ((0 : Int).toNat))).toNat)) 5) := lshlF_rg
        refine l_ldc2 (z := 19) rfl rfl ?_
        refine l_lorF rfl ?_
        have w258 : rgL (lorF (lshlF (Xj S 910 (((Xi S 950 ((0 : Int).toNat))).toNat)) 5) 19) := lorF_rg
        refine l_lconst (z := 0) rfl rfl ?_
        refine l_lconst (z := 0) rfl rfl ?_
        refine l_iconst rfl ?_
        have w259 : 0 ≤ Xi S 904 106 ∧ Xi S 904 106 ≤ 9 := hH.c _ _
        have w260 : 0 ≤ Xi S 904 108 ∧ Xi S 904 108 ≤ 2600 := hH.c _ _
        have w261 : 0 ≤ Xi S 904 15 ∧ Xi S 904 15 ≤ 300 := hH.c _ _
        have w262 : 0 ≤ Xi S 904 69 ∧ Xi S 904 69 ≤ 2600 := hH.c _ _
        refine l_callV rfl rfl rfl (t_mo_find hH (lorF (lshlF (Xj S 910 (((Xi S 950 ((0 : Int).toNat))).toNat)) 5) 19) 0 0 1 ⟨by omega, by omega⟩ _) ?_
        rintro _ _ ⟨rfl, z264, rfl, w264, w263⟩
        show Rl _ _ _ _ _ [iv z264] _ _
        refine l_iconst rfl ?_
        refine l_icmp_ne rfl rfl (by unfold rg; omega) (by unfold rg; omega) (fun w265 => ?_) (fun w266 => ?_)
        · refine l_iconst rfl ?_
          refine l_istore_n rfl rfl rfl ?_
          refine l_aload_n rfl rfl ?_
          refine l_iload_n rfl rfl ?_
          refine l_iconst rfl ?_
          refine l_iload_n rfl rfl ?_
          have w267 : 0 ≤ Xi S 904 106 ∧ Xi S 904 106 ≤ 9 := hH.c _ _
          have w268 : 0 ≤ Xi S 904 108 ∧ Xi S 904 108 ≤ 2600 := hH.c _ _
          have w269 : 0 ≤ Xi S 904 69 ∧ Xi S 904 69 ≤ 2600 := hH.c _ _
          refine l_callV rfl rfl rfl (t_mo_need hH 0 3 (Xi S 950 ((0 : Int).toNat)) ⟨by omega, by omega⟩ ⟨by omega, by omega⟩ ⟨by omega, by omega⟩ _) ?_
          rintro _ T16 ⟨hHT16, w273, rfl, w270, w271⟩
          have hFT16 : FR md_mo_askVerb S T16 := FR.tr hF w273 rfl
          show Rl _ _ _ _ _ [] _ _
          refine l_aload_n rfl rfl ?_
          refine l_iload_n rfl rfl ?_
          refine l_if_eq rfl rfl (by unfold rg; omega) (fun w274 => ?_) (fun w275 => absurd w275 (by omega))
          · refine l_iconst rfl ?_
            refine l_goto rfl rfl ?_
            refine l_bipush rfl rfl ?_
            refine l_iload_n rfl rfl ?_
            have w276 : 0 ≤ Xi T16 904 106 ∧ Xi T16 904 106 ≤ 9 := hHT16.c _ _
            have w277 : Xi T16 904 108 = Xi S 904 108 := (show Xi T16 904 108 = Xi S 904 108 from w273.x _ _ rfl)
            have w278 : 0 ≤ Xi S 904 108 ∧ Xi S 904 108 ≤ 2600 := hH.c _ _
            have w279 : Xi T16 904 69 = Xi S 904 69 := (show Xi T16 904 69 = Xi S 904 69 from w273.x _ _ rfl)
            have w280 : 0 ≤ Xi S 904 69 ∧ Xi S 904 69 ≤ 2600 := hH.c _ _
            refine l_callV rfl rfl rfl (t_mo_need hHT16 1 9 (Xi S 950 ((0 : Int).toNat)) ⟨by omega, by omega⟩ ⟨by omega, by omega⟩ ⟨by omega, by omega⟩ _) ?_
            rintro _ T17 ⟨hHT17, w284, rfl, w281, w282⟩
            have hFT17 : FR md_mo_askVerb S T17 := FR.tr hFT16 w284 rfl
            show Rl _ _ _ _ _ [] _ _
            refine l_aload_n rfl rfl ?_
            refine l_aload_n rfl rfl ?_
            refine l_iconst rfl ?_
            refine l_bipush rfl rfl ?_
            have w285 : 0 ≤ Xi T17 904 106 ∧ Xi T17 904 106 ≤ 9 := hHT17.c _ _
            have w286 : Xi T17 904 108 = Xi S 904 108 := (show Xi T17 904 108 = Xi T16 904 108 from w284.x _ _ rfl).trans ((show Xi T16 904 108 = Xi S 904 108 from w273.x _ _ rfl))
            have w287 : 0 ≤ Xi S 904 108 ∧ Xi S 904 108 ≤ 2600 := hH.c _ _
            have w288 : Xi T17 904 69 = Xi S 904 69 := (show Xi T17 904 69 = Xi T16 904 69 from w284.x _ _ rfl).trans ((show Xi T16 904 69 = Xi S 904 69 from w273.x _ _ rfl))
            have w289 : 0 ≤ Xi S 904 69 ∧ Xi S 904 69 ≤ 2600 := hH.c _ _
            refine l_callV rfl rfl rfl (t_mo_meansRun__2 hHT17 n 1 8 ⟨by omega, by omega⟩ ⟨by omega, by omega⟩ (by first | assumption | exact (TK_FR hFT17 rfl (by assumption : TK S _))) (by first | assumption | exact (RNV_FR hFT17 rfl (by assumption : RNV S _))) (by first | assumption | omega) (by first | assumption | exact (LXM_FR hFT17 rfl (by assumption : LXM S))) _) ?_
            rintro _ _ ⟨rfl, z292, rfl, w292, w290, w291⟩
            show Rl _ _ _ _ _ [iv z292, .ref 904] _ _
            have r105 : z292 = rnR S 1 8 := (by assumption : z292 = rnR T17 _ _).trans (rnR_FR hFT17 rfl rfl)
            refine l_iconst rfl ?_
            refine l_icmp_eq rfl rfl (by unfold rg; omega) (by unfold rg; omega) (fun w293 => ?_) (fun w294 => ?_)
            · refine l_iconst rfl ?_
              refine l_iconst rfl ?_
              refine l_aload_n rfl rfl ?_
              refine l_gfr rfl rfl rfl rfl rfl (hHT17.r 904 67 950 rfl) ?_
              refine l_iconst rfl ?_
              refine l_iaload (n := 2600) rfl rfl (by omega) (by omega) (by unfold rg; omega) ?_
              have w295 : 0 ≤ (Xi T17 950 ((1 : Int).toNat)) ∧ (Xi T17 950 ((1 : Int).toNat)) ≤ 5010 := hHT17.c _ _
              have w296 : (Xi T17 950 ((1 : Int).toNat)) = Xi T17 950 1 := rfl
              have w297 : 0 ≤ Xi T17 904 106 ∧ Xi T17 904 106 ≤ 9 := hHT17.c _ _
              have w298 : Xi T17 904 108 = Xi S 904 108 := (show Xi T17 904 108 = Xi T16 904 108 from w284.x _ _ rfl).trans ((show Xi T16 904 108 = Xi S 904 108 from w273.x _ _ rfl))
              have w299 : 0 ≤ Xi S 904 108 ∧ Xi S 904 108 ≤ 2600 := hH.c _ _
              have w300 : Xi T17 904 69 = Xi S 904 69 := (show Xi T17 904 69 = Xi T16 904 69 from w284.x _ _ rfl).trans ((show Xi T16 904 69 = Xi S 904 69 from w273.x _ _ rfl))
              have w301 : 0 ≤ Xi S 904 69 ∧ Xi S 904 69 ≤ 2600 := hH.c _ _
              refine l_callV rfl rfl rfl (t_mo_need hHT17 0 4 (Xi T17 950 ((1 : Int).toNat)) ⟨by omega, by omega⟩ ⟨by omega, by omega⟩ ⟨by omega, by omega⟩ _) ?_
              rintro _ T18 ⟨hHT18, w305, rfl, w302, w303⟩
              have hFT18 : FR md_mo_askVerb S T18 := FR.tr hFT17 w305 rfl
              show Rl _ _ _ _ _ [] _ _
              refine l_return rfl rfl ?_
              have w306 : 0 ≤ Xi T18 904 106 ∧ Xi T18 904 106 ≤ 9 := hHT18.c _ _
              have w307 : Xi T18 904 108 = Xi S 904 108 := (show Xi T18 904 108 = Xi T17 904 108 from w305.x _ _ rfl).trans ( (show Xi T17 904 108 = Xi T16 904 108 from w284.x _ _ rfl).trans ((show Xi T16 904 108 = Xi S 904 108 from w273.x _ _ rfl)))
              have w308 : 0 ≤ Xi S 904 108 ∧ Xi S 904 108 ≤ 2600 := hH.c _ _
              have w309 : Xi T18 904 69 = Xi S 904 69 := (show Xi T18 904 69 = Xi T17 904 69 from w305.x _ _ rfl).trans ( (show Xi T17 904 69 = Xi T16 904 69 from w284.x _ _ rfl).trans ((show Xi T16 904 69 = Xi S 904 69 from w273.x _ _ rfl)))
              have w310 : 0 ≤ Xi S 904 69 ∧ Xi S 904 69 ≤ 2600 := hH.c _ _
              exact ⟨hHT18, hFT18, rfl, (by first | assumption | omega)⟩
            · refine l_iconst rfl ?_
              refine l_goto rfl rfl ?_
              refine l_iconst rfl ?_
              refine l_aload_n rfl rfl ?_
              refine l_gfr rfl rfl rfl rfl rfl (hHT17.r 904 67 950 rfl) ?_
              refine l_iconst rfl ?_
              refine l_iaload (n := 2600) rfl rfl (by omega) (by omega) (by unfold rg; omega) ?_
              have w311 : 0 ≤ (Xi T17 950 ((1 : Int).toNat)) ∧ (Xi T17 950 ((1 : Int).toNat)) ≤ 5010 := hHT17.c _ _
              have w312 : (Xi T17 950 ((1 : Int).toNat)) = Xi T17 950 1 := rfl
              have w313 : 0 ≤ Xi T17 904 106 ∧ Xi T17 904 106 ≤ 9 := hHT17.c _ _
              have w314 : Xi T17 904 108 = Xi S 904 108 := (show Xi T17 904 108 = Xi T16 904 108 from w284.x _ _ rfl).trans ((show Xi T16 904 108 = Xi S 904 108 from w273.x _ _ rfl))
              have w315 : 0 ≤ Xi S 904 108 ∧ Xi S 904 108 ≤ 2600 := hH.c _ _
              have w316 : Xi T17 904 69 = Xi S 904 69 := (show Xi T17 904 69 = Xi T16 904 69 from w284.x _ _ rfl).trans ((show Xi T16 904 69 = Xi S 904 69 from w273.x _ _ rfl))
              have w317 : 0 ≤ Xi S 904 69 ∧ Xi S 904 69 ≤ 2600 := hH.c _ _
              refine l_callV rfl rfl rfl (t_mo_need hHT17 1 4 (Xi T17 950 ((1 : Int).toNat)) ⟨by omega, by omega⟩ ⟨by omega, by omega⟩ ⟨by omega, by omega⟩ _) ?_
              rintro _ T19 ⟨hHT19, w321, rfl, w318, w319⟩
              have hFT19 : FR md_mo_askVerb S T19 := FR.tr hFT17 w321 rfl
              show Rl _ _ _ _ _ [] _ _
              refine l_return rfl rfl ?_
              have w322 : 0 ≤ Xi T19 904 106 ∧ Xi T19 904 106 ≤ 9 := hHT19.c _ _
              have w323 : Xi T19 904 108 = Xi S 904 108 := (show Xi T19 904 108 = Xi T17 904 108 from w321.x _ _ rfl).trans ( (show Xi T17 904 108 = Xi T16 904 108 from w284.x _ _ rfl).trans ((show Xi T16 904 108 = Xi S 904 108 from w273.x _ _ rfl)))
              have w324 : 0 ≤ Xi S 904 108 ∧ Xi S 904 108 ≤ 2600 := hH.c _ _
              have w325 : Xi T19 904 69 = Xi S 904 69 := (show Xi T19 904 69 = Xi T17 904 69 from w321.x _ _ rfl).trans ( (show Xi T17 904 69 = Xi T16 904 69 from w284.x _ _ rfl).trans ((show Xi T16 904 69 = Xi S 904 69 from w273.x _ _ rfl)))
              have w326 : 0 ≤ Xi S 904 69 ∧ Xi S 904 69 ≤ 2600 := hH.c _ _
              exact ⟨hHT19, hFT19, rfl, (by first | assumption | omega)⟩
        · refine l_iconst rfl ?_
          refine l_goto rfl rfl ?_
          refine l_istore_n rfl rfl rfl ?_
          refine l_aload_n rfl rfl ?_
          refine l_iload_n rfl rfl ?_
          refine l_iconst rfl ?_
          refine l_iload_n rfl rfl ?_
          have w327 : 0 ≤ Xi S 904 106 ∧ Xi S 904 106 ≤ 9 := hH.c _ _
          have w328 : 0 ≤ Xi S 904 108 ∧ Xi S 904 108 ≤ 2600 := hH.c _ _
          have w329 : 0 ≤ Xi S 904 69 ∧ Xi S 904 69 ≤ 2600 := hH.c _ _
          refine l_callV rfl rfl rfl (t_mo_need hH 1 3 (Xi S 950 ((0 : Int).toNat)) ⟨by omega, by omega⟩ ⟨by omega, by omega⟩ ⟨by omega, by omega⟩ _) ?_
          rintro _ T20 ⟨hHT20, w333, rfl, w330, w331⟩
          have hFT20 : FR md_mo_askVerb S T20 := FR.tr hF w333 rfl
          show Rl _ _ _ _ _ [] _ _
          refine l_aload_n rfl rfl ?_
          refine l_iload_n rfl rfl ?_
          refine l_if_eq rfl rfl (by unfold rg; omega) (fun w334 => absurd w334 (by omega)) (fun w335 => ?_)
          · refine l_aload_n rfl rfl ?_
            refine l_gfi rfl rfl rfl rfl rfl ?_
            have w336 : (Xi T20 904 47) = (Xi S 904 47) := (show Xi T20 904 47 = Xi S 904 47 from w333.x _ _ rfl)
            rw [w336]
            refine l_bipush rfl rfl ?_
            refine l_icmp_ge rfl rfl (by unfold rg; omega) (by unfold rg; omega) (fun w337 => ?_) (fun w338 => ?_)
            · refine l_iconst rfl ?_
              refine l_bipush rfl rfl ?_
              refine l_iload_n rfl rfl ?_
              have w339 : 0 ≤ Xi T20 904 106 ∧ Xi T20 904 106 ≤ 9 := hHT20.c _ _
              have w340 : Xi T20 904 108 = Xi S 904 108 := (show Xi T20 904 108 = Xi S 904 108 from w333.x _ _ rfl)
              have w341 : 0 ≤ Xi S 904 108 ∧ Xi S 904 108 ≤ 2600 := hH.c _ _
              have w342 : Xi T20 904 69 = Xi S 904 69 := (show Xi T20 904 69 = Xi S 904 69 from w333.x _ _ rfl)
              have w343 : 0 ≤ Xi S 904 69 ∧ Xi S 904 69 ≤ 2600 := hH.c _ _
              refine l_callV rfl rfl rfl (t_mo_need hHT20 0 9 (Xi S 950 ((0 : Int).toNat)) ⟨by omega, by omega⟩ ⟨by omega, by omega⟩ ⟨by omega, by omega⟩ _) ?_
              rintro _ T21 ⟨hHT21, w347, rfl, w344, w345⟩
              have hFT21 : FR md_mo_askVerb S T21 := FR.tr hFT20 w347 rfl
              show Rl _ _ _ _ _ [] _ _
              refine l_aload_n rfl rfl ?_
              refine l_aload_n rfl rfl ?_
              refine l_iconst rfl ?_
              refine l_bipush rfl rfl ?_
              have w348 : 0 ≤ Xi T21 904 106 ∧ Xi T21 904 106 ≤ 9 := hHT21.c _ _
              have w349 : Xi T21 904 108 = Xi S 904 108 := (show Xi T21 904 108 = Xi T20 904 108 from w347.x _ _ rfl).trans ((show Xi T20 904 108 = Xi S 904 108 from w333.x _ _ rfl))
              have w350 : 0 ≤ Xi S 904 108 ∧ Xi S 904 108 ≤ 2600 := hH.c _ _
              have w351 : Xi T21 904 69 = Xi S 904 69 := (show Xi T21 904 69 = Xi T20 904 69 from w347.x _ _ rfl).trans ((show Xi T20 904 69 = Xi S 904 69 from w333.x _ _ rfl))
              have w352 : 0 ≤ Xi S 904 69 ∧ Xi S 904 69 ≤ 2600 := hH.c _ _
              refine l_callV rfl rfl rfl (t_mo_meansRun__2 hHT21 n 1 8 ⟨by omega, by omega⟩ ⟨by omega, by omega⟩ (by first | assumption | exact (TK_FR hFT21 rfl (by assumption : TK S _))) (by first | assumption | exact (RNV_FR hFT21 rfl (by assumption : RNV S _))) (by first | assumption | omega) (by first | assumption | exact (LXM_FR hFT21 rfl (by assumption : LXM S))) _) ?_
              rintro _ _ ⟨rfl, z355, rfl, w355, w353, w354⟩
              show Rl _ _ _ _ _ [iv z355, .ref 904] _ _
              have r105 : z355 = rnR S 1 8 := (by assumption : z355 = rnR T21 _ _).trans (rnR_FR hFT21 rfl rfl)
              refine l_iconst rfl ?_
              refine l_icmp_eq rfl rfl (by unfold rg; omega) (by unfold rg; omega) (fun w356 => ?_) (fun w357 => ?_)
              · refine l_iconst rfl ?_
                refine l_iconst rfl ?_
                refine l_aload_n rfl rfl ?_
                refine l_gfr rfl rfl rfl rfl rfl (hHT21.r 904 67 950 rfl) ?_
                refine l_iconst rfl ?_
                refine l_iaload (n := 2600) rfl rfl (by omega) (by omega) (by unfold rg; omega) ?_
                have w358 : 0 ≤ (Xi T21 950 ((1 : Int).toNat)) ∧ (Xi T21 950 ((1 : Int).toNat)) ≤ 5010 := hHT21.c _ _
                have w359 : (Xi T21 950 ((1 : Int).toNat)) = Xi T21 950 1 := rfl
                have w360 : 0 ≤ Xi T21 904 106 ∧ Xi T21 904 106 ≤ 9 := hHT21.c _ _
                have w361 : Xi T21 904 108 = Xi S 904 108 := (show Xi T21 904 108 = Xi T20 904 108 from w347.x _ _ rfl).trans ((show Xi T20 904 108 = Xi S 904 108 from w333.x _ _ rfl))
                have w362 : 0 ≤ Xi S 904 108 ∧ Xi S 904 108 ≤ 2600 := hH.c _ _
                have w363 : Xi T21 904 69 = Xi S 904 69 := (show Xi T21 904 69 = Xi T20 904 69 from w347.x _ _ rfl).trans ((show Xi T20 904 69 = Xi S 904 69 from w333.x _ _ rfl))
                have w364 : 0 ≤ Xi S 904 69 ∧ Xi S 904 69 ≤ 2600 := hH.c _ _
                refine l_callV rfl rfl rfl (t_mo_need hHT21 0 4 (Xi T21 950 ((1 : Int).toNat)) ⟨by omega, by omega⟩ ⟨by omega, by omega⟩ ⟨by omega, by omega⟩ _) ?_
                rintro _ T22 ⟨hHT22, w368, rfl, w365, w366⟩
                have hFT22 : FR md_mo_askVerb S T22 := FR.tr hFT21 w368 rfl
                show Rl _ _ _ _ _ [] _ _
                refine l_return rfl rfl ?_
                have w369 : 0 ≤ Xi T22 904 106 ∧ Xi T22 904 106 ≤ 9 := hHT22.c _ _
                have w370 : Xi T22 904 108 = Xi S 904 108 := (show Xi T22 904 108 = Xi T21 904 108 from w368.x _ _ rfl).trans ( (show Xi T21 904 108 = Xi T20 904 108 from w347.x _ _ rfl).trans ((show Xi T20 904 108 = Xi S 904 108 from w333.x _ _ rfl)))
                have w371 : 0 ≤ Xi S 904 108 ∧ Xi S 904 108 ≤ 2600 := hH.c _ _
                have w372 : Xi T22 904 69 = Xi S 904 69 := (show Xi T22 904 69 = Xi T21 904 69 from w368.x _ _ rfl).trans ( (show Xi T21 904 69 = Xi T20 904 69 from w347.x _ _ rfl).trans ((show Xi T20 904 69 = Xi S 904 69 from w333.x _ _ rfl)))
                have w373 : 0 ≤ Xi S 904 69 ∧ Xi S 904 69 ≤ 2600 := hH.c _ _
                exact ⟨hHT22, hFT22, rfl, (by first | assumption | omega)⟩
              · refine l_iconst rfl ?_
                refine l_goto rfl rfl ?_
                refine l_iconst rfl ?_
                refine l_aload_n rfl rfl ?_
                refine l_gfr rfl rfl rfl rfl rfl (hHT21.r 904 67 950 rfl) ?_
                refine l_iconst rfl ?_
                refine l_iaload (n := 2600) rfl rfl (by omega) (by omega) (by unfold rg; omega) ?_
                have w374 : 0 ≤ (Xi T21 950 ((1 : Int).toNat)) ∧ (Xi T21 950 ((1 : Int).toNat)) ≤ 5010 := hHT21.c _ _
                have w375 : (Xi T21 950 ((1 : Int).toNat)) = Xi T21 950 1 := rfl
                have w376 : 0 ≤ Xi T21 904 106 ∧ Xi T21 904 106 ≤ 9 := hHT21.c _ _
                have w377 : Xi T21 904 108 = Xi S 904 108 := (show Xi T21 904 108 = Xi T20 904 108 from w347.x _ _ rfl).trans ((show Xi T20 904 108 = Xi S 904 108 from w333.x _ _ rfl))
                have w378 : 0 ≤ Xi S 904 108 ∧ Xi S 904 108 ≤ 2600 := hH.c _ _
                have w379 : Xi T21 904 69 = Xi S 904 69 := (show Xi T21 904 69 = Xi T20 904 69 from w347.x _ _ rfl).trans ((show Xi T20 904 69 = Xi S 904 69 from w333.x _ _ rfl))
                have w380 : 0 ≤ Xi S 904 69 ∧ Xi S 904 69 ≤ 2600 := hH.c _ _
                refine l_callV rfl rfl rfl (t_mo_need hHT21 1 4 (Xi T21 950 ((1 : Int).toNat)) ⟨by omega, by omega⟩ ⟨by omega, by omega⟩ ⟨by omega, by omega⟩ _) ?_
                rintro _ T23 ⟨hHT23, w384, rfl, w381, w382⟩
                have hFT23 : FR md_mo_askVerb S T23 := FR.tr hFT21 w384 rfl
                show Rl _ _ _ _ _ [] _ _
                refine l_return rfl rfl ?_
                have w385 : 0 ≤ Xi T23 904 106 ∧ Xi T23 904 106 ≤ 9 := hHT23.c _ _
                have w386 : Xi T23 904 108 = Xi S 904 108 := (show Xi T23 904 108 = Xi T21 904 108 from w384.x _ _ rfl).trans ( (show Xi T21 904 108 = Xi T20 904 108 from w347.x _ _ rfl).trans ((show Xi T20 904 108 = Xi S 904 108 from w333.x _ _ rfl)))
                have w387 : 0 ≤ Xi S 904 108 ∧ Xi S 904 108 ≤ 2600 := hH.c _ _
                have w388 : Xi T23 904 69 = Xi S 904 69 := (show Xi T23 904 69 = Xi T21 904 69 from w384.x _ _ rfl).trans ( (show Xi T21 904 69 = Xi T20 904 69 from w347.x _ _ rfl).trans ((show Xi T20 904 69 = Xi S 904 69 from w333.x _ _ rfl)))
                have w389 : 0 ≤ Xi S 904 69 ∧ Xi S 904 69 ≤ 2600 := hH.c _ _
                exact ⟨hHT23, hFT23, rfl, (by first | assumption | omega)⟩
            · refine l_iconst rfl ?_
              refine l_goto rfl rfl ?_
              refine l_bipush rfl rfl ?_
              refine l_iload_n rfl rfl ?_
              have w390 : 0 ≤ Xi T20 904 106 ∧ Xi T20 904 106 ≤ 9 := hHT20.c _ _
              have w391 : Xi T20 904 108 = Xi S 904 108 := (show Xi T20 904 108 = Xi S 904 108 from w333.x _ _ rfl)
              have w392 : 0 ≤ Xi S 904 108 ∧ Xi S 904 108 ≤ 2600 := hH.c _ _
              have w393 : Xi T20 904 69 = Xi S 904 69 := (show Xi T20 904 69 = Xi S 904 69 from w333.x _ _ rfl)
              have w394 : 0 ≤ Xi S 904 69 ∧ Xi S 904 69 ≤ 2600 := hH.c _ _
              refine l_callV rfl rfl rfl (t_mo_need hHT20 1 9 (Xi S 950 ((0 : Int).toNat)) ⟨by omega, by omega⟩ ⟨by omega, by omega⟩ ⟨by omega, by omega⟩ _) ?_
              rintro _ T24 ⟨hHT24, w398, rfl, w395, w396⟩
              have hFT24 : FR md_mo_askVerb S T24 := FR.tr hFT20 w398 rfl
              show Rl _ _ _ _ _ [] _ _
              refine l_aload_n rfl rfl ?_
              refine l_aload_n rfl rfl ?_
              refine l_iconst rfl ?_
              refine l_bipush rfl rfl ?_
              have w399 : 0 ≤ Xi T24 904 106 ∧ Xi T24 904 106 ≤ 9 := hHT24.c _ _
              have w400 : Xi T24 904 108 = Xi S 904 108 := (show Xi T24 904 108 = Xi T20 904 108 from w398.x _ _ rfl).trans ((show Xi T20 904 108 = Xi S 904 108 from w333.x _ _ rfl))
              have w401 : 0 ≤ Xi S 904 108 ∧ Xi S 904 108 ≤ 2600 := hH.c _ _
              have w402 : Xi T24 904 69 = Xi S 904 69 := (show Xi T24 904 69 = Xi T20 904 69 from w398.x _ _ rfl).trans ((show Xi T20 904 69 = Xi S 904 69 from w333.x _ _ rfl))
              have w403 : 0 ≤ Xi S 904 69 ∧ Xi S 904 69 ≤ 2600 := hH.c _ _
              refine l_callV rfl rfl rfl (t_mo_meansRun__2 hHT24 n 1 8 ⟨by omega, by omega⟩ ⟨by omega, by omega⟩ (by first | assumption | exact (TK_FR hFT24 rfl (by assumption : TK S _))) (by first | assumption | exact (RNV_FR hFT24 rfl (by assumption : RNV S _))) (by first | assumption | omega) (by first | assumption | exact (LXM_FR hFT24 rfl (by assumption : LXM S))) _) ?_
              rintro _ _ ⟨rfl, z406, rfl, w406, w404, w405⟩
              show Rl _ _ _ _ _ [iv z406, .ref 904] _ _
              have r105 : z406 = rnR S 1 8 := (by assumption : z406 = rnR T24 _ _).trans (rnR_FR hFT24 rfl rfl)
              refine l_iconst rfl ?_
              refine l_icmp_eq rfl rfl (by unfold rg; omega) (by unfold rg; omega) (fun w407 => ?_) (fun w408 => ?_)
              · refine l_iconst rfl ?_
                refine l_iconst rfl ?_
                refine l_aload_n rfl rfl ?_
                refine l_gfr rfl rfl rfl rfl rfl (hHT24.r 904 67 950 rfl) ?_
                refine l_iconst rfl ?_
                refine l_iaload (n := 2600) rfl rfl (by omega) (by omega) (by unfold rg; omega) ?_
                have w409 : 0 ≤ (Xi T24 950 ((1 : Int).toNat)) ∧ (Xi T24 950 ((1 : Int).toNat)) ≤ 5010 := hHT24.c _ _
                have w410 : (Xi T24 950 ((1 : Int).toNat)) = Xi T24 950 1 := rfl
                have w411 : 0 ≤ Xi T24 904 106 ∧ Xi T24 904 106 ≤ 9 := hHT24.c _ _
                have w412 : Xi T24 904 108 = Xi S 904 108 := (show Xi T24 904 108 = Xi T20 904 108 from w398.x _ _ rfl).trans ((show Xi T20 904 108 = Xi S 904 108 from w333.x _ _ rfl))
                have w413 : 0 ≤ Xi S 904 108 ∧ Xi S 904 108 ≤ 2600 := hH.c _ _
                have w414 : Xi T24 904 69 = Xi S 904 69 := (show Xi T24 904 69 = Xi T20 904 69 from w398.x _ _ rfl).trans ((show Xi T20 904 69 = Xi S 904 69 from w333.x _ _ rfl))
                have w415 : 0 ≤ Xi S 904 69 ∧ Xi S 904 69 ≤ 2600 := hH.c _ _
                refine l_callV rfl rfl rfl (t_mo_need hHT24 0 4 (Xi T24 950 ((1 : Int).toNat)) ⟨by omega, by omega⟩ ⟨by omega, by omega⟩ ⟨by omega, by omega⟩ _) ?_
                rintro _ T25 ⟨hHT25, w419, rfl, w416, w417⟩
                have hFT25 : FR md_mo_askVerb S T25 := FR.tr hFT24 w419 rfl
                show Rl _ _ _ _ _ [] _ _
                refine l_return rfl rfl ?_
                have w420 : 0 ≤ Xi T25 904 106 ∧ Xi T25 904 106 ≤ 9 := hHT25.c _ _
                have w421 : Xi T25 904 108 = Xi S 904 108 := (show Xi T25 904 108 = Xi T24 904 108 from w419.x _ _ rfl).trans ( (show Xi T24 904 108 = Xi T20 904 108 from w398.x _ _ rfl).trans ((show Xi T20 904 108 = Xi S 904 108 from w333.x _ _ rfl)))
                have w422 : 0 ≤ Xi S 904 108 ∧ Xi S 904 108 ≤ 2600 := hH.c _ _
                have w423 : Xi T25 904 69 = Xi S 904 69 := (show Xi T25 904 69 = Xi T24 904 69 from w419.x _ _ rfl).trans ( (show Xi T24 904 69 = Xi T20 904 69 from w398.x _ _ rfl).trans ((show Xi T20 904 69 = Xi S 904 69 from w333.x _ _ rfl)))
                have w424 : 0 ≤ Xi S 904 69 ∧ Xi S 904 69 ≤ 2600 := hH.c _ _
                exact ⟨hHT25, hFT25, rfl, (by first | assumption | omega)⟩
              · refine l_iconst rfl ?_
                refine l_goto rfl rfl ?_
                refine l_iconst rfl ?_
                refine l_aload_n rfl rfl ?_
                refine l_gfr rfl rfl rfl rfl rfl (hHT24.r 904 67 950 rfl) ?_
                refine l_iconst rfl ?_
                refine l_iaload (n := 2600) rfl rfl (by omega) (by omega) (by unfold rg; omega) ?_
                have w425 : 0 ≤ (Xi T24 950 ((1 : Int).toNat)) ∧ (Xi T24 950 ((1 : Int).toNat)) ≤ 5010 := hHT24.c _ _
                have w426 : (Xi T24 950 ((1 : Int).toNat)) = Xi T24 950 1 := rfl
                have w427 : 0 ≤ Xi T24 904 106 ∧ Xi T24 904 106 ≤ 9 := hHT24.c _ _
                have w428 : Xi T24 904 108 = Xi S 904 108 := (show Xi T24 904 108 = Xi T20 904 108 from w398.x _ _ rfl).trans ((show Xi T20 904 108 = Xi S 904 108 from w333.x _ _ rfl))
                have w429 : 0 ≤ Xi S 904 108 ∧ Xi S 904 108 ≤ 2600 := hH.c _ _
                have w430 : Xi T24 904 69 = Xi S 904 69 := (show Xi T24 904 69 = Xi T20 904 69 from w398.x _ _ rfl).trans ((show Xi T20 904 69 = Xi S 904 69 from w333.x _ _ rfl))
                have w431 : 0 ≤ Xi S 904 69 ∧ Xi S 904 69 ≤ 2600 := hH.c _ _
                refine l_callV rfl rfl rfl (t_mo_need hHT24 1 4 (Xi T24 950 ((1 : Int).toNat)) ⟨by omega, by omega⟩ ⟨by omega, by omega⟩ ⟨by omega, by omega⟩ _) ?_
                rintro _ T26 ⟨hHT26, w435, rfl, w432, w433⟩
                have hFT26 : FR md_mo_askVerb S T26 := FR.tr hFT24 w435 rfl
                show Rl _ _ _ _ _ [] _ _
                refine l_return rfl rfl ?_
                have w436 : 0 ≤ Xi T26 904 106 ∧ Xi T26 904 106 ≤ 9 := hHT26.c _ _
                have w437 : Xi T26 904 108 = Xi S 904 108 := (show Xi T26 904 108 = Xi T24 904 108 from w435.x _ _ rfl).trans ( (show Xi T24 904 108 = Xi T20 904 108 from w398.x _ _ rfl).trans ((show Xi T20 904 108 = Xi S 904 108 from w333.x _ _ rfl)))
                have w438 : 0 ≤ Xi S 904 108 ∧ Xi S 904 108 ≤ 2600 := hH.c _ _
                have w439 : Xi T26 904 69 = Xi S 904 69 := (show Xi T26 904 69 = Xi T24 904 69 from w435.x _ _ rfl).trans ( (show Xi T24 904 69 = Xi T20 904 69 from w398.x _ _ rfl).trans ((show Xi T20 904 69 = Xi S 904 69 from w333.x _ _ rfl)))
                have w440 : 0 ≤ Xi S 904 69 ∧ Xi S 904 69 ≤ 2600 := hH.c _ _
                exact ⟨hHT26, hFT26, rfl, (by first | assumption | omega)⟩
def md_mo_askPlace : List rec := [(904, 905, 104, 105), (904, 905, 105, 106), (904, 905, 106, 107)]
abbrev Q_mo_askPlace (S : sS) (n : Nat) : pst := fun r S1 => HI S1 ∧ FR md_mo_askPlace S S1 ∧ (r = none ∧ (Xi S 904 106 ≠ 0 → Xi S1 904 106 ≠ 0) ∧ (Xi S1 904 106 = 0 → Xi S 904 73 ≠ 0 → rnR S (Xi S 904 74) 4 ≠ -1))
set_option maxRecDepth 100000 in
theorem t_mo_askPlace {S : sS} (hH : HI S) (n : Nat) (hT : TK S n) (hv : RNV S n) (hM : LXM S) (hB : ABV S) (hp : Xi S 904 73 ≠ 0 → Xi S 904 74 < Xi S 904 69) (d : Nat) : Mt lay0 (d + 5) m_mo_askPlace [.ref 904] S (Q_mo_askPlace S n) := by
  refine Mt_R rfl rfl ?_
  have hF : FR md_mo_askPlace S S := FR.rf
  have w1 : 0 ≤ Xi S 904 106 ∧ Xi S 904 106 ≤ 9 := hH.c _ _
  have w2 : 0 ≤ Xi S 904 69 ∧ Xi S 904 69 ≤ 2600 := hH.c _ _
  have w3 : 0 ≤ Xi S 904 73 ∧ Xi S 904 73 ≤ 5 := hH.c _ _
  have w4 : 0 ≤ Xi S 904 74 ∧ Xi S 904 74 ≤ 2600 := hH.c _ _
  have hn5 := hT.1
  have hc69 : 0 ≤ Xi S 904 69 ∧ Xi S 904 69 ≤ 2600 := hH.c _ _
  have hc74 : 0 ≤ Xi S 904 74 ∧ Xi S 904 74 ≤ 2600 := hH.c _ _
  have q74 : Xi S 904 73 ≠ 0 → Xi S 950 (Xi S 904 74).toNat ≤ n := fun q => by have := hv (Xi S 904 74).toNat (by omega); omega
  have hc19 : 0 ≤ Xi S 904 19 ∧ Xi S 904 19 ≤ 24 := hH.c _ _
  refine l_aload_n rfl rfl ?_
  refine l_gfi rfl rfl rfl rfl rfl ?_
  refine l_if_ne rfl rfl (by unfold rg; omega) (fun w5 => ?_) (fun w6 => ?_)
  · refine l_aload_n rfl rfl ?_
    refine l_aload_n rfl rfl ?_
    refine l_gfi rfl rfl rfl rfl rfl ?_
    refine l_iconst rfl ?_
    have w7 : 0 ≤ Xi S 904 106 ∧ Xi S 904 106 ≤ 9 := hH.c _ _
    have w8 : 0 ≤ Xi S 904 108 ∧ Xi S 904 108 ≤ 2600 := hH.c _ _
    have w9 : 0 ≤ Xi S 904 69 ∧ Xi S 904 69 ≤ 2600 := hH.c _ _
    refine l_callV rfl rfl rfl (t_mo_meansRun__2 hH n (Xi S 904 74) 4 ⟨by omega, by omega⟩ ⟨by omega, by omega⟩ (by first | assumption | exact (TK_FR hF rfl (by assumption : TK S _))) (by first | assumption | exact (RNV_FR hF rfl (by assumption : RNV S _))) (by first | assumption | omega) (by first | assumption | exact (LXM_FR hF rfl (by assumption : LXM S))) _) ?_
    rintro _ _ ⟨rfl, z12, rfl, w12, w10, w11⟩
    show Rl _ _ _ _ _ [iv z12] _ _
    have x14 : z12 ≠ -1 → z12 < Xi S 904 19 := fun q => by have t := (by assumption : z12 ≠ -1 → z12 < cM S 4) q; rw [cM4] at t; exact t
    have r14 : z12 = rnR S (Xi S 904 74) 4 := (by assumption : z12 = rnR S _ _).trans (rnR_FR hF rfl rfl)
    refine l_istore_n rfl rfl rfl ?_
    refine l_aload_n rfl rfl ?_
    refine l_iload_n rfl rfl ?_
    refine l_iconst rfl ?_
    refine l_icmp_eq rfl rfl (by unfold rg; omega) (by unfold rg; omega) (fun w13 => ?_) (fun w14 => ?_)
    · refine l_iconst rfl ?_
      refine l_iconst rfl ?_
      refine l_aload_n rfl rfl ?_
      refine l_gfr rfl rfl rfl rfl rfl (hH.r 904 67 950 rfl) ?_
      refine l_aload_n rfl rfl ?_
      refine l_gfi rfl rfl rfl rfl rfl ?_
      refine l_iaload (n := 2600) rfl rfl (by omega) (by omega) (by unfold rg; omega) ?_
      have w15 : 0 ≤ (Xi S 950 (((Xi S 904 74)).toNat)) ∧ (Xi S 950 (((Xi S 904 74)).toNat)) ≤ 5010 := hH.c _ _
      have w16 : 0 ≤ Xi S 904 106 ∧ Xi S 904 106 ≤ 9 := hH.c _ _
      have w17 : 0 ≤ Xi S 904 108 ∧ Xi S 904 108 ≤ 2600 := hH.c _ _
      have w18 : 0 ≤ Xi S 904 69 ∧ Xi S 904 69 ≤ 2600 := hH.c _ _
      refine l_callV rfl rfl rfl (t_mo_need hH 0 4 (Xi S 950 (((Xi S 904 74)).toNat)) ⟨by omega, by omega⟩ ⟨by omega, by omega⟩ ⟨by omega, by omega⟩ _) ?_
      rintro _ T1 ⟨hHT1, w22, rfl, w19, w20⟩
      have hFT1 : FR md_mo_askPlace S T1 := FR.tr hF w22 rfl
      show Rl _ _ _ _ _ [] _ _
      refine l_return rfl rfl ?_
      have w23 : 0 ≤ Xi T1 904 106 ∧ Xi T1 904 106 ≤ 9 := hHT1.c _ _
      have w24 : Xi T1 904 108 = Xi S 904 108 := (show Xi T1 904 108 = Xi S 904 108 from w22.x _ _ rfl)
      have w25 : 0 ≤ Xi S 904 108 ∧ Xi S 904 108 ≤ 2600 := hH.c _ _
      have w26 : Xi T1 904 69 = Xi S 904 69 := (show Xi T1 904 69 = Xi S 904 69 from w22.x _ _ rfl)
      have w27 : 0 ≤ Xi S 904 69 ∧ Xi S 904 69 ≤ 2600 := hH.c _ _
      exact ⟨hHT1, hFT1, rfl, (by first | assumption | omega), (by first | assumption | omega)⟩
    · refine l_aload_n rfl rfl ?_
      refine l_aload_n rfl rfl ?_
      refine l_gfi rfl rfl rfl rfl rfl ?_
      refine l_aload_n rfl rfl ?_
      refine l_gfr rfl rfl rfl rfl rfl (hH.r 904 20 918 rfl) ?_
      refine l_iload_n rfl rfl ?_
      refine l_iaload (n := 24) rfl rfl (by omega) (by omega) (by unfold rg; omega) ?_
      have w28 : 0 ≤ (Xi S 918 ((z12).toNat)) ∧ (Xi S 918 ((z12).toNat)) ≤ 15 := hH.c _ _
      have w29 : 0 ≤ Xi S 904 106 ∧ Xi S 904 106 ≤ 9 := hH.c _ _
      have w30 : 0 ≤ Xi S 904 108 ∧ Xi S 904 108 ≤ 2600 := hH.c _ _
      have w31 : 0 ≤ Xi S 904 69 ∧ Xi S 904 69 ≤ 2600 := hH.c _ _
      refine l_callV rfl rfl rfl (t_mo_mayHold hH (Xi S 904 73) (Xi S 918 ((z12).toNat)) ⟨by omega, by omega⟩ ⟨by omega, by omega⟩ (by first | assumption | exact (ABV_FR hF rfl (by assumption : ABV S))) _) ?_
      rintro _ _ ⟨rfl, z32, rfl, w32⟩
      show Rl _ _ _ _ _ [iv z32, .ref 904] _ _
      refine l_if_eq rfl rfl (by unfold rg; omega) (fun w33 => ?_) (fun w34 => ?_)
      · refine l_iconst rfl ?_
        refine l_iconst rfl ?_
        refine l_aload_n rfl rfl ?_
        refine l_gfr rfl rfl rfl rfl rfl (hH.r 904 67 950 rfl) ?_
        refine l_aload_n rfl rfl ?_
        refine l_gfi rfl rfl rfl rfl rfl ?_
        refine l_iaload (n := 2600) rfl rfl (by omega) (by omega) (by unfold rg; omega) ?_
        have w35 : 0 ≤ (Xi S 950 (((Xi S 904 74)).toNat)) ∧ (Xi S 950 (((Xi S 904 74)).toNat)) ≤ 5010 := hH.c _ _
        have w36 : 0 ≤ Xi S 904 106 ∧ Xi S 904 106 ≤ 9 := hH.c _ _
        have w37 : 0 ≤ Xi S 904 108 ∧ Xi S 904 108 ≤ 2600 := hH.c _ _
        have w38 : 0 ≤ Xi S 904 69 ∧ Xi S 904 69 ≤ 2600 := hH.c _ _
        refine l_callV rfl rfl rfl (t_mo_need hH 0 4 (Xi S 950 (((Xi S 904 74)).toNat)) ⟨by omega, by omega⟩ ⟨by omega, by omega⟩ ⟨by omega, by omega⟩ _) ?_
        rintro _ T2 ⟨hHT2, w42, rfl, w39, w40⟩
        have hFT2 : FR md_mo_askPlace S T2 := FR.tr hF w42 rfl
        show Rl _ _ _ _ _ [] _ _
        refine l_return rfl rfl ?_
        have w43 : 0 ≤ Xi T2 904 106 ∧ Xi T2 904 106 ≤ 9 := hHT2.c _ _
        have w44 : Xi T2 904 108 = Xi S 904 108 := (show Xi T2 904 108 = Xi S 904 108 from w42.x _ _ rfl)
        have w45 : 0 ≤ Xi S 904 108 ∧ Xi S 904 108 ≤ 2600 := hH.c _ _
        have w46 : Xi T2 904 69 = Xi S 904 69 := (show Xi T2 904 69 = Xi S 904 69 from w42.x _ _ rfl)
        have w47 : 0 ≤ Xi S 904 69 ∧ Xi S 904 69 ≤ 2600 := hH.c _ _
        exact ⟨hHT2, hFT2, rfl, (by first | assumption | omega), (by first | assumption | omega)⟩
      · refine l_iconst rfl ?_
        refine l_goto rfl rfl ?_
        refine l_iconst rfl ?_
        refine l_aload_n rfl rfl ?_
        refine l_gfr rfl rfl rfl rfl rfl (hH.r 904 67 950 rfl) ?_
        refine l_aload_n rfl rfl ?_
        refine l_gfi rfl rfl rfl rfl rfl ?_
        refine l_iaload (n := 2600) rfl rfl (by omega) (by omega) (by unfold rg; omega) ?_
        have w48 : 0 ≤ (Xi S 950 (((Xi S 904 74)).toNat)) ∧ (Xi S 950 (((Xi S 904 74)).toNat)) ≤ 5010 := hH.c _ _
        have w49 : 0 ≤ Xi S 904 106 ∧ Xi S 904 106 ≤ 9 := hH.c _ _
        have w50 : 0 ≤ Xi S 904 108 ∧ Xi S 904 108 ≤ 2600 := hH.c _ _
        have w51 : 0 ≤ Xi S 904 69 ∧ Xi S 904 69 ≤ 2600 := hH.c _ _
        refine l_callV rfl rfl rfl (t_mo_need hH 1 4 (Xi S 950 (((Xi S 904 74)).toNat)) ⟨by omega, by omega⟩ ⟨by omega, by omega⟩ ⟨by omega, by omega⟩ _) ?_
        rintro _ T3 ⟨hHT3, w55, rfl, w52, w53⟩
        have hFT3 : FR md_mo_askPlace S T3 := FR.tr hF w55 rfl
        show Rl _ _ _ _ _ [] _ _
        refine l_return rfl rfl ?_
        have w56 : 0 ≤ Xi T3 904 106 ∧ Xi T3 904 106 ≤ 9 := hHT3.c _ _
        have w57 : Xi T3 904 108 = Xi S 904 108 := (show Xi T3 904 108 = Xi S 904 108 from w55.x _ _ rfl)
        have w58 : 0 ≤ Xi S 904 108 ∧ Xi S 904 108 ≤ 2600 := hH.c _ _
        have w59 : Xi T3 904 69 = Xi S 904 69 := (show Xi T3 904 69 = Xi S 904 69 from w55.x _ _ rfl)
        have w60 : 0 ≤ Xi S 904 69 ∧ Xi S 904 69 ≤ 2600 := hH.c _ _
        exact ⟨hHT3, hFT3, rfl, (by first | assumption | omega), (by first | assumption | omega)⟩
  · refine l_return rfl rfl ?_
    have w61 : 0 ≤ Xi S 904 106 ∧ Xi S 904 106 ≤ 9 := hH.c _ _
    have w62 : 0 ≤ Xi S 904 108 ∧ Xi S 904 108 ≤ 2600 := hH.c _ _
    have w63 : 0 ≤ Xi S 904 69 ∧ Xi S 904 69 ≤ 2600 := hH.c _ _
    exact ⟨hH, hF, rfl, (by first | assumption | omega), (by first | assumption | omega)⟩
