/-! SAFETY of methods: printed by wip/safe (vc.py, decl.py) -/
/-! SAFETY of the reference: kinds, texts -/
def ABV (S : sS) : Prop := ∀ k : Nat, k < 16 → Xi S 917 k < k
theorem ABV_FR {l : List rec} {S T : sS} (h : FR l S T) (e : kdis l [(917, 918)] = true) (hB : ABV S) : ABV T := fun k hk => by rw [(h.smk e).x 917 rfl]; exact hB k hk
def OKT (v n : Int) : Prop := n = 0 ∨ (0 < n ∧ 0 ≤ v ∧ v + n ≤ 5000)
theorem okt_2 {a b c d : Int} (h : OKT a b) (e1 : c = a) (e2 : d = b) : OKT c d := by rw [e1, e2]; exact h
def mD (l : List rec) (js : List Nat) : Bool := js.all (fun j => !(mdf l 904 j))
theorem mD_x {l : List rec} {js : List Nat} {S T : sS} (h : FR l S T) (e : mD l js = true) (j : Nat) (hj : j ∈ js) : Xi T 904 j = Xi S 904 j := h.x 904 j (by
  have t := List.all_eq_true.mp e j hj
  simpa using t)
/-- kinds of objects, and what was told of texts -/
def TXM (S : sS) : Prop := (∀ o : Int, 0 ≤ o → o < Xi S 904 19 → Xi S 918 o.toNat < Xi S 904 16) ∧
  (∀ o p : Int, 0 ≤ o → o < Xi S 904 19 → 0 ≤ p → p < 12 → Xi S 930 (12 * o + p).toNat ≠ 0 → p < Xi S 904 32 ∧ (Xi S 928 p.toNat = 1 → OKT (Xi S 931 (12 * o + p).toNat) (Xi S 932 (12 * o + p).toNat))) ∧
  ∀ o p : Int, 0 ≤ o → o < Xi S 904 16 → 0 ≤ p → p < 12 → Xi S 933 (12 * o + p).toNat ≠ 0 → p < Xi S 904 32 ∧ (Xi S 928 p.toNat = 1 → OKT (Xi S 934 (12 * o + p).toNat) (Xi S 935 (12 * o + p).toNat))
theorem TXM_FR {l : List rec} {S T : sS} (h : FR l S T) (e : (kdis l [(930, 936), (928, 929), (918, 919)] && mD l [16, 19, 32]) = true) (hX : TXM S) : TXM T := by
  rw [Bool.and_eq_true] at e
  have k := h.smk e.1
  unfold TXM
  simp only [k.x 930 rfl, k.x 931 rfl, k.x 932 rfl, k.x 933 rfl, k.x 934 rfl, k.x 935 rfl, k.x 928 rfl, k.x 918 rfl, mD_x h e.2 16 (by decide), mD_x h e.2 19 (by decide), mD_x h e.2 32 (by decide)]
  exact hX
def bp (k : Nat) : Prop := k = 905 ∨ k = 906
theorem bp_sv {k : Nat} (h : bp k) : Nat.ble SV k = false := by rcases h with rfl | rfl <;> rfl
theorem lay_bp {k : Nat} (h : bp k) : lay0 k = (3, 5000) := by rcases h with rfl | rfl <;> rfl
theorem bpc {S : sS} {t j : Nat} (h : HI S) (ht : bp t) : -128 ≤ Xi S t j ∧ Xi S t j ≤ 127 := by
  rcases ht with rfl | rfl
  · exact h.c 905 j
  · exact h.c 906 j
def sml (c : Int) : Int := if 65 ≤ c ∧ c ≤ 90 then c + 32 else c
def ltr (c : Int) : Int := if 97 ≤ sml c ∧ sml c ≤ 122 then 1 else 0
theorem ltr_of {z x : Int} (h0 : 0 ≤ z ∧ z ≤ 1) (h : (z = 1 → 97 ≤ x ∧ x ≤ 122) ∧ (z = 0 → x < 97 ∨ 122 < x)) : z = if 97 ≤ x ∧ x ≤ 122 then 1 else 0 := by
  split <;> omega
theorem div9 {a b c : Int} (hb : 0 < b) (h0 : 0 ≤ a → c = a / b) (hn : a < 0 → a ≤ c ∧ c ≤ 0) (q : 9 < c) : b * 10 ≤ a := by
  rcases Int.lt_or_le a 0 with h | h
  · have := hn h; omega
  · have e := h0 h
    have t : 10 ≤ a / b := by omega
    have u := (Int.le_ediv_iff_mul_le hb).mp t
    rw [Int.mul_comm]; exact u
abbrev Q_mo_in (S : sS) (v : Int) (lo : Int) (hi : Int) : pst := fun r S1 => S = S1 ∧ (∃ z : Int, r = some (iv z) ∧ (0 ≤ z ∧ z ≤ 1) ∧ ((z = 1 → lo ≤ v ∧ v ≤ hi) ∧ (z = 0 → v < lo ∨ hi < v)))
set_option maxRecDepth 100000 in
theorem t_mo_in {S : sS} (hH : HI S) (v : Int) (lo : Int) (hi : Int) (hv : -2147483648 ≤ v ∧ v ≤ 2147483647) (hlo : -2147483648 ≤ lo ∧ lo ≤ 2147483647) (hhi : -2147483648 ≤ hi ∧ hi ≤ 2147483647) (d : Nat) : Mt lay0 (d + 1) m_mo_in [iv v, iv lo, iv hi] S (Q_mo_in S v lo hi) := by
  refine Mt_R rfl rfl ?_
  refine l_iload_n rfl rfl ?_
  refine l_iload_n rfl rfl ?_
  refine l_icmp_lt rfl rfl (by unfold rg; omega) (by unfold rg; omega) (fun w1 => ?_) (fun w2 => ?_)
  · refine l_iconst rfl ?_
    refine l_ireturn rfl rfl ?_
    exact ⟨rfl, _, rfl, ⟨by omega, by omega⟩, (by first | assumption | omega)⟩
  · refine l_iload_n rfl rfl ?_
    refine l_iload_n rfl rfl ?_
    refine l_icmp_gt rfl rfl (by unfold rg; omega) (by unfold rg; omega) (fun w3 => ?_) (fun w4 => ?_)
    · refine l_iconst rfl ?_
      refine l_ireturn rfl rfl ?_
      exact ⟨rfl, _, rfl, ⟨by omega, by omega⟩, (by first | assumption | omega)⟩
    · refine l_iconst rfl ?_
      refine l_goto rfl rfl ?_
      refine l_ireturn rfl rfl ?_
      exact ⟨rfl, _, rfl, ⟨by omega, by omega⟩, (by first | assumption | omega)⟩
abbrev Q_mo_isBelow (S : sS) (kind : Int) (of_ : Int) : pst := fun r S1 => S = S1 ∧ (∃ z : Int, r = some (iv z) ∧ (0 ≤ z ∧ z ≤ 1) ∧ (z = 1 → 0 ≤ kind ∧ 0 ≤ of_))
set_option maxRecDepth 100000 in
theorem t_mo_isBelow {S : sS} (hH : HI S) (kind : Int) (of_ : Int) (hkind : -1 ≤ kind ∧ kind ≤ 15) (hof_ : -2147483648 ≤ of_ ∧ of_ ≤ 2147483647) (hB : ABV S) (d : Nat) : Mt lay0 (d + 1) m_mo_isBelow [.ref 904, iv kind, iv of_] S (Q_mo_isBelow S kind of_) := by
  refine Mt_R rfl rfl ?_
  have C2 : ∀ (n2 : Nat) (v3 : Int), (-1 ≤ v3 ∧ v3 ≤ 15) → (v3 ≤ kind) → n2 = (v3 + 1).toNat → Rl lay0 (d + 0) m_mo_isBelow 2 [(0, .ref 904), (2, iv of_), (3, iv v3)] [] S (Q_mo_isBelow S kind of_) := by
    intro n2
    induction n2 using Nat.strongRecOn with
    | ind n2 ih2 =>
      intro v3 w1 w2 hm2
      have C21 : ∀  (v3 : Int), (-1 ≤ v3 ∧ v3 ≤ 15) → (v3 ≤ kind) → Rl lay0 (d + 0) m_mo_isBelow 21 [(2, iv of_), (3, iv v3)] [] S (Q_mo_isBelow S kind of_) := by
        intro v3 w3 w4
        refine l_iload_n rfl rfl ?_
        refine l_iload_n rfl rfl ?_
        refine l_icmp_ne rfl rfl (by unfold rg; omega) (by unfold rg; omega) (fun w5 => ?_) (fun w6 => ?_)
        · refine l_iconst rfl ?_
          refine l_ireturn rfl rfl ?_
          exact ⟨rfl, _, rfl, ⟨by omega, by omega⟩, (by first | assumption | omega)⟩
        · refine l_iload_n rfl rfl ?_
          refine l_if_lt rfl rfl (by unfold rg; omega) (fun w7 => ?_) (fun w8 => ?_)
          · refine l_iconst rfl ?_
            refine l_ireturn rfl rfl ?_
            exact ⟨rfl, _, rfl, ⟨by omega, by omega⟩, (by first | assumption | omega)⟩
          · refine l_iconst rfl ?_
            refine l_goto rfl rfl ?_
            refine l_ireturn rfl rfl ?_
            exact ⟨rfl, _, rfl, ⟨by omega, by omega⟩, (by first | assumption | omega)⟩
      refine l_iload_n rfl rfl ?_
      refine l_if_lt rfl rfl (by unfold rg; omega) (fun w9 => ?_) (fun w10 => ?_)
      · exact Rl_weak (C21 (v3) (by omega) (by omega)) (And.intro rfl (And.intro rfl (True.intro)))
      · refine l_iload_n rfl rfl ?_
        refine l_iload_n rfl rfl ?_
        refine l_icmp_eq rfl rfl (by unfold rg; omega) (by unfold rg; omega) (fun w11 => ?_) (fun w12 => ?_)
        · exact Rl_weak (C21 (v3) (by omega) (by omega)) (And.intro rfl (And.intro rfl (True.intro)))
        · refine l_aload_n rfl rfl ?_
          refine l_gfr rfl rfl rfl rfl rfl (hH.r 904 17 917 rfl) ?_
          refine l_iload_n rfl rfl ?_
          refine l_iaload (n := 16) rfl rfl (by omega) (by omega) (by unfold rg; omega) ?_
          have w13 : -1 ≤ (Xi S 917 ((v3).toNat)) ∧ (Xi S 917 ((v3).toNat)) ≤ 15 := hH.c _ _
          have b16 : (Xi S 917 ((v3).toNat)) < v3 := by have t := hB (v3).toNat (by omega); omega
          refine l_istore_n rfl rfl rfl ?_
          refine l_goto rfl rfl ?_
          exact Rl_weak (ih2 _ (by omega) ((Xi S 917 ((v3).toNat))) (by omega) (by omega) rfl) (And.intro rfl (And.intro rfl (And.intro rfl (True.intro))))
  refine l_iload_n rfl rfl ?_
  refine l_istore_n rfl rfl rfl ?_
  exact Rl_weak (C2 _ (kind) (by omega) (by omega) rfl) (And.intro rfl (And.intro rfl (And.intro rfl (True.intro))))
abbrev Q_mo_thingIs (S : sS) (thing : Int) (it : Int) (noun : Int) : pst := fun r S1 => S = S1 ∧ (∃ z : Int, r = some (iv z) ∧ (-2147483648 ≤ z ∧ z ≤ 2147483647) ∧ ((thing = -1 → z = it) ∧ (thing = -2 → z = noun) ∧ (thing ≠ -1 → thing ≠ -2 → z = thing)))
set_option maxRecDepth 100000 in
theorem t_mo_thingIs {S : sS} (hH : HI S) (thing : Int) (it : Int) (noun : Int) (hthing : -2147483648 ≤ thing ∧ thing ≤ 2147483647) (hit : -2147483648 ≤ it ∧ it ≤ 2147483647) (hnoun : -2147483648 ≤ noun ∧ noun ≤ 2147483647) (d : Nat) : Mt lay0 (d + 1) m_mo_thingIs [iv thing, iv it, iv noun] S (Q_mo_thingIs S thing it noun) := by
  refine Mt_R rfl rfl ?_
  refine l_iload_n rfl rfl ?_
  refine l_iconst rfl ?_
  refine l_icmp_ne rfl rfl (by unfold rg; omega) (by unfold rg; omega) (fun w1 => ?_) (fun w2 => ?_)
  · refine l_iload_n rfl rfl ?_
    refine l_bipush rfl rfl ?_
    refine l_icmp_ne rfl rfl (by unfold rg; omega) (by unfold rg; omega) (fun w3 => ?_) (fun w4 => ?_)
    · refine l_iload_n rfl rfl ?_
      refine l_ireturn rfl rfl ?_
      exact ⟨rfl, _, rfl, ⟨by omega, by omega⟩, (by first | assumption | omega)⟩
    · refine l_iload_n rfl rfl ?_
      refine l_goto rfl rfl ?_
      refine l_ireturn rfl rfl ?_
      exact ⟨rfl, _, rfl, ⟨by omega, by omega⟩, (by first | assumption | omega)⟩
  · refine l_iload_n rfl rfl ?_
    refine l_goto rfl rfl ?_
    refine l_ireturn rfl rfl ?_
    exact ⟨rfl, _, rfl, ⟨by omega, by omega⟩, (by first | assumption | omega)⟩
abbrev Q_mo_small (S : sS) (c : Int) : pst := fun r S1 => S = S1 ∧ (∃ z : Int, r = some (iv z) ∧ (-2147483648 ≤ z ∧ z ≤ 2147483647) ∧ (z = sml c) ∧ (-128 ≤ c → c ≤ 127 → -128 ≤ z ∧ z ≤ 127))
set_option maxRecDepth 100000 in
theorem t_mo_small {S : sS} (hH : HI S) (c : Int) (hc : -2147483648 ≤ c ∧ c ≤ 2147483600) (d : Nat) : Mt lay0 (d + 2) m_mo_small [iv c] S (Q_mo_small S c) := by
  refine Mt_R rfl rfl ?_
  refine l_iload_n rfl rfl ?_
  refine l_bipush rfl rfl ?_
  refine l_bipush rfl rfl ?_
  refine l_callS rfl rfl (by decide) rfl (t_mo_in hH c 65 90 ⟨by omega, by omega⟩ ⟨by omega, by omega⟩ ⟨by omega, by omega⟩ _) ?_
  rintro _ _ ⟨rfl, z2, rfl, w2, w1⟩
  show Rl _ _ _ _ _ [iv z2] _ _
  refine l_if_eq rfl rfl (by unfold rg; omega) (fun w3 => ?_) (fun w4 => ?_)
  · refine l_iload_n rfl rfl ?_
    refine l_ireturn rfl rfl ?_
    exact ⟨rfl, _, rfl, ⟨by omega, by omega⟩, (by unfold sml; first | exact (if_pos (by omega)).symm | exact (if_neg (by omega)).symm), (by omega)⟩
  · refine l_iload_n rfl rfl ?_
    refine l_bipush rfl rfl ?_
    refine l_iadd rfl ?_
    refine l_goto rfl rfl ?_
    refine l_ireturn rfl rfl ?_
    exact ⟨rfl, _, rfl, ⟨by omega, by omega⟩, (by unfold sml; first | exact (if_pos (by omega)).symm | exact (if_neg (by omega)).symm), (by omega)⟩
abbrev Q_mo_isLetter (S : sS) (c : Int) : pst := fun r S1 => S = S1 ∧ (∃ z : Int, r = some (iv z) ∧ (0 ≤ z ∧ z ≤ 1) ∧ (z = ltr c))
set_option maxRecDepth 100000 in
theorem t_mo_isLetter {S : sS} (hH : HI S) (c : Int) (hc : -2147483648 ≤ c ∧ c ≤ 2147483600) (d : Nat) : Mt lay0 (d + 3) m_mo_isLetter [iv c] S (Q_mo_isLetter S c) := by
  refine Mt_R rfl rfl ?_
  refine l_iload_n rfl rfl ?_
  refine l_callS rfl rfl (by decide) rfl (t_mo_small hH c ⟨by omega, by omega⟩ _) ?_
  rintro _ _ ⟨rfl, z3, rfl, w3, w1, w2⟩
  show Rl _ _ _ _ _ [iv z3] _ _
  have e1 : z3 = sml c := by assumption
  refine l_bipush rfl rfl ?_
  refine l_bipush rfl rfl ?_
  refine l_callS rfl rfl (by decide) rfl (t_mo_in hH z3 97 122 ⟨by omega, by omega⟩ ⟨by omega, by omega⟩ ⟨by omega, by omega⟩ _) ?_
  rintro _ _ ⟨rfl, z5, rfl, w5, w4⟩
  show Rl _ _ _ _ _ [iv z5] _ _
  refine l_ireturn rfl (retI_z (by omega)) ?_
  exact ⟨rfl, _, rfl, ⟨by omega, by omega⟩, (by unfold ltr; rw [← e1]; exact ltr_of (by omega) (by assumption))⟩
abbrev Q_mo_wordOf (S : sS) (t : Nat) (from_ : Int) (n : Int) : pst := fun r S1 => S = S1 ∧ (∃ z : Int, r = some (jw z))
set_option maxRecDepth 100000 in
theorem t_mo_wordOf {S : sS} (hH : HI S) (t : Nat) (from_ : Int) (n : Int) (ht : bp t) (hfrom_ : 0 ≤ from_ ∧ from_ ≤ 5000) (hn : 0 ≤ n ∧ n ≤ 5000) (hn : from_ + n ≤ 5000) (d : Nat) : Mt lay0 (d + 3) m_mo_wordOf [.ref t, iv from_, iv n] S (Q_mo_wordOf S t from_ n) := by
  refine Mt_R rfl rfl ?_
  have C5 : ∀ (n5 : Nat) (v3 : Int) (v5 : Int), (0 ≤ v5 ∧ v5 ≤ 5000) → n5 = (5001 - v5).toNat → Rl lay0 (d + 2) m_mo_wordOf 5 [(0, .ref t), (1, iv from_), (2, iv n), (3, jw v3), (5, iv v5)] [] S (Q_mo_wordOf S t from_ n) := by
    intro n5
    induction n5 using Nat.strongRecOn with
    | ind n5 ih5 =>
      intro v3 v5 w1 hm5
      refine l_iload rfl rfl ?_
      refine l_iload_n rfl rfl ?_
      refine l_icmp_ge rfl rfl (by unfold rg; omega) (by unfold rg; omega) (fun w2 => ?_) (fun w3 => ?_)
      · refine l_lload_n rfl rfl ?_
        refine l_lreturn rfl rfl ?_
        exact ⟨rfl, _, rfl⟩
      · refine l_lload_n rfl rfl ?_
        refine l_iconst rfl ?_
        refine l_lshlF rfl ?_
        have w4 : rgL (lshlF v3 5) := lshlF_rg
        refine l_aload_n rfl rfl ?_
        refine l_iload_n rfl rfl ?_
        refine l_iload rfl rfl ?_
        refine l_iadd rfl ?_
        refine l_baload (n := 5000) rfl (bp_sv (by assumption)) (lay_bp (by assumption)) (by decide) (by omega) (by omega) (by unfold rg; omega) ?_
        have w5 : -128 ≤ (Xi S t (((from_ + v5)).toNat)) ∧ (Xi S t (((from_ + v5)).toNat)) ≤ 127 := bpc hH (by assumption)
        refine l_callS rfl rfl (by decide) rfl (t_mo_small hH (Xi S t (((from_ + v5)).toNat)) ⟨by omega, by omega⟩ _) ?_
        rintro _ _ ⟨rfl, z8, rfl, w8, w6, w7⟩
        show Rl _ _ _ _ _ [iv z8, jw (lshlF v3 5)] _ _
        refine l_bipush rfl rfl ?_
        refine l_isub rfl ?_
        refine l_i2l rfl (by unfold rg; omega) ?_
        refine l_lorF rfl ?_
        have w9 : rgL (lorF (lshlF v3 5) (z8 - 96)) := lorF_rg
        refine l_lstore_n rfl rfl rfl rfl ?_
        refine l_iinc rfl rfl rfl rfl ?_
        refine l_goto rfl rfl ?_
        exact Rl_weak (ih5 _ (by omega) ((lorF (lshlF v3 5) (z8 - 96))) ((v5 + 1)) (by omega) rfl) (And.intro rfl (And.intro rfl (And.intro rfl (And.intro rfl (And.intro rfl (True.intro))))))
  refine l_lconst (z := 0) rfl rfl ?_
  refine l_lstore_n rfl rfl rfl rfl ?_
  refine l_iconst rfl ?_
  refine l_istore rfl rfl rfl ?_
  exact Rl_weak (C5 _ (0) (0) (by omega) rfl) (And.intro rfl (And.intro rfl (And.intro rfl (And.intro rfl (And.intro rfl (True.intro))))))
abbrev Q_mo_keyOf (S : sS) (w : Int) : pst := fun r S1 => S = S1 ∧ (∃ z : Int, r = some (iv z) ∧ (0 ≤ z ∧ z ≤ 154))
set_option maxRecDepth 100000 in
theorem t_mo_keyOf {S : sS} (hH : HI S) (w : Int) (d : Nat) : Mt lay0 (d + 1) m_mo_keyOf [.ref 904, jw w] S (Q_mo_keyOf S w) := by
  refine Mt_R rfl rfl ?_
  have C2 : ∀ (n2 : Nat) (v3 : Int), (0 ≤ v3 ∧ v3 ≤ 55) → n2 = (56 - v3).toNat → Rl lay0 (d + 0) m_mo_keyOf 2 [(0, .ref 904), (1, jw w), (3, iv v3)] [] S (Q_mo_keyOf S w) := by
    intro n2
    induction n2 using Nat.strongRecOn with
    | ind n2 ih2 =>
      intro v3 w1 hm2
      refine l_iload_n rfl rfl ?_
      refine l_bipush rfl rfl ?_
      refine l_icmp_ge rfl rfl (by unfold rg; omega) (by unfold rg; omega) (fun w2 => ?_) (fun w3 => ?_)
      · refine l_iconst rfl ?_
        refine l_ireturn rfl rfl ?_
        exact ⟨rfl, _, rfl, ⟨by omega, by omega⟩⟩
      · refine l_aload_n rfl rfl ?_
        refine l_gfr rfl rfl rfl rfl rfl (hH.r 904 9 911 rfl) ?_
        refine l_iload_n rfl rfl ?_
        refine l_laload (n := 55) rfl rfl (by omega) (by omega) (by unfold rg; omega) ?_
        have w4 : -9223372036854775808 ≤ (Xj S 911 ((v3).toNat)) ∧ (Xj S 911 ((v3).toNat)) < 9223372036854775808 := Xj_rg
        refine l_lload_n rfl rfl ?_
        refine l_lcmpA rfl (fun c5 w5 => ?_)
        refine l_if_ne rfl rfl (by unfold rg; omega) (fun w6 => ?_) (fun w7 => ?_)
        · refine l_iinc rfl rfl rfl rfl ?_
          refine l_goto rfl rfl ?_
          exact Rl_weak (ih2 _ (by omega) ((v3 + 1)) (by omega) rfl) (And.intro rfl (And.intro rfl (And.intro rfl (True.intro))))
        · refine l_bipush rfl rfl ?_
          refine l_iload_n rfl rfl ?_
          refine l_iadd rfl ?_
          refine l_ireturn rfl rfl ?_
          exact ⟨rfl, _, rfl, ⟨by omega, by omega⟩⟩
  refine l_iconst rfl ?_
  refine l_istore_n rfl rfl rfl ?_
  exact Rl_weak (C2 _ (0) (by omega) rfl) (And.intro rfl (And.intro rfl (And.intro rfl (True.intro))))
abbrev Q_mo_isArt (S : sS) (k : Int) : pst := fun r S1 => S = S1 ∧ (∃ z : Int, r = some (iv z) ∧ (0 ≤ z ∧ z ≤ 1) ∧ (z = 1 → 100 ≤ k ∧ k ≤ 103))
set_option maxRecDepth 100000 in
theorem t_mo_isArt {S : sS} (hH : HI S) (k : Int) (hk : -2147483648 ≤ k ∧ k ≤ 2147483647) (d : Nat) : Mt lay0 (d + 1) m_mo_isArt [iv k] S (Q_mo_isArt S k) := by
  refine Mt_R rfl rfl ?_
  refine l_iload_n rfl rfl ?_
  refine l_bipush rfl rfl ?_
  refine l_icmp_lt rfl rfl (by unfold rg; omega) (by unfold rg; omega) (fun w1 => ?_) (fun w2 => ?_)
  · refine l_iconst rfl ?_
    refine l_ireturn rfl rfl ?_
    exact ⟨rfl, _, rfl, ⟨by omega, by omega⟩, (by first | assumption | omega)⟩
  · refine l_iload_n rfl rfl ?_
    refine l_bipush rfl rfl ?_
    refine l_icmp_gt rfl rfl (by unfold rg; omega) (by unfold rg; omega) (fun w3 => ?_) (fun w4 => ?_)
    · refine l_iconst rfl ?_
      refine l_ireturn rfl rfl ?_
      exact ⟨rfl, _, rfl, ⟨by omega, by omega⟩, (by first | assumption | omega)⟩
    · refine l_iconst rfl ?_
      refine l_goto rfl rfl ?_
      refine l_ireturn rfl rfl ?_
      exact ⟨rfl, _, rfl, ⟨by omega, by omega⟩, (by first | assumption | omega)⟩
abbrev Q_mo_find (S : sS) (a : Int) (b : Int) (c : Int) (n : Int) : pst := fun r S1 => S = S1 ∧ (∃ z : Int, r = some (iv z) ∧ (-1 ≤ z ∧ z ≤ 299) ∧ (z ≠ -1 → z < Xi S 904 15))
set_option maxRecDepth 100000 in
theorem t_mo_find {S : sS} (hH : HI S) (a : Int) (b : Int) (c : Int) (n : Int) (hn : -2147483648 ≤ n ∧ n ≤ 2147483647) (d : Nat) : Mt lay0 (d + 1) m_mo_find [.ref 904, jw a, jw b, jw c, iv n] S (Q_mo_find S a b c n) := by
  refine Mt_R rfl rfl ?_
  have w1 : 0 ≤ Xi S 904 15 ∧ Xi S 904 15 ≤ 300 := hH.c _ _
  have C3 : ∀ (n3 : Nat) (v8 : Int), (0 ≤ v8 ∧ v8 ≤ 300) → n3 = (301 - v8).toNat → Rl lay0 (d + 0) m_mo_find 3 [(0, .ref 904), (1, jw a), (3, jw b), (5, jw c), (7, iv n), (8, iv v8)] [] S (Q_mo_find S a b c n) := by
    intro n3
    induction n3 using Nat.strongRecOn with
    | ind n3 ih3 =>
      intro v8 w2 hm3
      have C60 : ∀  (v8 : Int), (0 ≤ v8 ∧ v8 ≤ 299) → (v8 < Xi S 904 15) → ((301 - v8).toNat ≤ n3) → Rl lay0 (d + 0) m_mo_find 60 [(0, .ref 904), (1, jw a), (3, jw b), (5, jw c), (7, iv n), (8, iv v8)] [] S (Q_mo_find S a b c n) := by
        intro v8 w3 w4 w5
        have C83 : ∀  (v8 : Int), (0 ≤ v8 ∧ v8 ≤ 299) → (v8 < Xi S 904 15) → ((301 - v8).toNat ≤ n3) → Rl lay0 (d + 0) m_mo_find 83 [(0, .ref 904), (1, jw a), (3, jw b), (5, jw c), (7, iv n), (8, iv v8)] [] S (Q_mo_find S a b c n) := by
          intro v8 w6 w7 w8
          refine l_aload_n rfl rfl ?_
          refine l_gfr rfl rfl rfl rfl rfl (hH.r 904 14 916 rfl) ?_
          refine l_iload rfl rfl ?_
          refine l_baload (n := 300) rfl rfl rfl (by decide) (by omega) (by omega) (by unfold rg; omega) ?_
          have w9 : 0 ≤ (Xi S 916 ((v8).toNat)) ∧ (Xi S 916 ((v8).toNat)) ≤ 1 := hH.c _ _
          refine l_if_ne rfl rfl (by unfold rg; omega) (fun w10 => ?_) (fun w11 => ?_)
          · refine l_iinc rfl rfl rfl rfl ?_
            refine l_goto rfl rfl ?_
            exact Rl_weak (ih3 _ (by omega) ((v8 + 1)) (by omega) rfl) (And.intro rfl (And.intro rfl (And.intro rfl (And.intro rfl (And.intro rfl (And.intro rfl (True.intro)))))))
          · refine l_aload_n rfl rfl ?_
            refine l_gfr rfl rfl rfl rfl rfl (hH.r 904 12 914 rfl) ?_
            refine l_iload rfl rfl ?_
            refine l_iaload (n := 300) rfl rfl (by omega) (by omega) (by unfold rg; omega) ?_
            have w12 : 0 ≤ (Xi S 914 ((v8).toNat)) ∧ (Xi S 914 ((v8).toNat)) ≤ 12 := hH.c _ _
            refine l_iconst rfl ?_
            refine l_icmp_eq rfl rfl (by unfold rg; omega) (by unfold rg; omega) (fun w13 => ?_) (fun w14 => ?_)
            · refine l_iinc rfl rfl rfl rfl ?_
              refine l_goto rfl rfl ?_
              exact Rl_weak (ih3 _ (by omega) ((v8 + 1)) (by omega) rfl) (And.intro rfl (And.intro rfl (And.intro rfl (And.intro rfl (And.intro rfl (And.intro rfl (True.intro)))))))
            · refine l_iload rfl rfl ?_
              refine l_ireturn rfl rfl ?_
              exact ⟨rfl, _, rfl, ⟨by omega, by omega⟩, (by first | assumption | omega)⟩
        refine l_iload rfl rfl ?_
        refine l_iconst rfl ?_
        refine l_icmp_lt rfl rfl (by unfold rg; omega) (by unfold rg; omega) (fun w15 => ?_) (fun w16 => ?_)
        · exact Rl_weak (C83 (v8) (by omega) (by omega) (by omega)) (And.intro rfl (And.intro rfl (And.intro rfl (And.intro rfl (And.intro rfl (And.intro rfl (True.intro)))))))
        · refine l_aload_n rfl rfl ?_
          refine l_gfr rfl rfl rfl rfl rfl (hH.r 904 11 913 rfl) ?_
          refine l_iconst rfl ?_
          refine l_iload rfl rfl ?_
          refine l_imul rfl ?_
          refine l_iconst rfl ?_
          refine l_iadd rfl ?_
          refine l_laload (n := 900) rfl rfl (by omega) (by omega) (by unfold rg; omega) ?_
          have w17 : -9223372036854775808 ≤ (Xj S 913 ((((3 * v8) + 2)).toNat)) ∧ (Xj S 913 ((((3 * v8) + 2)).toNat)) < 9223372036854775808 := Xj_rg
          refine l_lload rfl rfl ?_
          refine l_lcmpA rfl (fun c18 w18 => ?_)
          refine l_if_ne rfl rfl (by unfold rg; omega) (fun w19 => ?_) (fun w20 => ?_)
          · refine l_iinc rfl rfl rfl rfl ?_
            refine l_goto rfl rfl ?_
            exact Rl_weak (ih3 _ (by omega) ((v8 + 1)) (by omega) rfl) (And.intro rfl (And.intro rfl (And.intro rfl (And.intro rfl (And.intro rfl (And.intro rfl (True.intro)))))))
          · exact Rl_weak (C83 (v8) (by omega) (by omega) (by omega)) (And.intro rfl (And.intro rfl (And.intro rfl (And.intro rfl (And.intro rfl (And.intro rfl (True.intro)))))))
      refine l_iload rfl rfl ?_
      refine l_aload_n rfl rfl ?_
      refine l_gfi rfl rfl rfl rfl rfl ?_
      refine l_icmp_ge rfl rfl (by unfold rg; omega) (by unfold rg; omega) (fun w21 => ?_) (fun w22 => ?_)
      · refine l_iconst rfl ?_
        refine l_ireturn rfl rfl ?_
        exact ⟨rfl, _, rfl, ⟨by omega, by omega⟩, (by first | assumption | omega)⟩
      · refine l_aload_n rfl rfl ?_
        refine l_gfr rfl rfl rfl rfl rfl (hH.r 904 10 912 rfl) ?_
        refine l_iload rfl rfl ?_
        refine l_iaload (n := 300) rfl rfl (by omega) (by omega) (by unfold rg; omega) ?_
        have w23 : 0 ≤ (Xi S 912 ((v8).toNat)) ∧ (Xi S 912 ((v8).toNat)) ≤ 3 := hH.c _ _
        refine l_iload rfl rfl ?_
        refine l_icmp_ne rfl rfl (by unfold rg; omega) (by unfold rg; omega) (fun w24 => ?_) (fun w25 => ?_)
        · refine l_iinc rfl rfl rfl rfl ?_
          refine l_goto rfl rfl ?_
          exact Rl_weak (ih3 _ (by omega) ((v8 + 1)) (by omega) rfl) (And.intro rfl (And.intro rfl (And.intro rfl (And.intro rfl (And.intro rfl (And.intro rfl (True.intro)))))))
        · refine l_aload_n rfl rfl ?_
          refine l_gfr rfl rfl rfl rfl rfl (hH.r 904 11 913 rfl) ?_
          refine l_iconst rfl ?_
          refine l_iload rfl rfl ?_
          refine l_imul rfl ?_
          refine l_laload (n := 900) rfl rfl (by omega) (by omega) (by unfold rg; omega) ?_
          have w26 : -9223372036854775808 ≤ (Xj S 913 (((3 * v8)).toNat)) ∧ (Xj S 913 (((3 * v8)).toNat)) < 9223372036854775808 := Xj_rg
          refine l_lload_n rfl rfl ?_
          refine l_lcmpA rfl (fun c27 w27 => ?_)
          refine l_if_ne rfl rfl (by unfold rg; omega) (fun w28 => ?_) (fun w29 => ?_)
          · refine l_iinc rfl rfl rfl rfl ?_
            refine l_goto rfl rfl ?_
            exact Rl_weak (ih3 _ (by omega) ((v8 + 1)) (by omega) rfl) (And.intro rfl (And.intro rfl (And.intro rfl (And.intro rfl (And.intro rfl (And.intro rfl (True.intro)))))))
          · refine l_iload rfl rfl ?_
            refine l_iconst rfl ?_
            refine l_icmp_lt rfl rfl (by unfold rg; omega) (by unfold rg; omega) (fun w30 => ?_) (fun w31 => ?_)
            · exact Rl_weak (C60 (v8) (by omega) (by omega) (by omega)) (And.intro rfl (And.intro rfl (And.intro rfl (And.intro rfl (And.intro rfl (And.intro rfl (True.intro)))))))
            · refine l_aload_n rfl rfl ?_
              refine l_gfr rfl rfl rfl rfl rfl (hH.r 904 11 913 rfl) ?_
              refine l_iconst rfl ?_
              refine l_iload rfl rfl ?_
              refine l_imul rfl ?_
              refine l_iconst rfl ?_
              refine l_iadd rfl ?_
              refine l_laload (n := 900) rfl rfl (by omega) (by omega) (by unfold rg; omega) ?_
              have w32 : -9223372036854775808 ≤ (Xj S 913 ((((3 * v8) + 1)).toNat)) ∧ (Xj S 913 ((((3 * v8) + 1)).toNat)) < 9223372036854775808 := Xj_rg
              refine l_lload_n rfl rfl ?_
              refine l_lcmpA rfl (fun c33 w33 => ?_)
              refine l_if_ne rfl rfl (by unfold rg; omega) (fun w34 => ?_) (fun w35 => ?_)
              · refine l_iinc rfl rfl rfl rfl ?_
                refine l_goto rfl rfl ?_
                exact Rl_weak (ih3 _ (by omega) ((v8 + 1)) (by omega) rfl) (And.intro rfl (And.intro rfl (And.intro rfl (And.intro rfl (And.intro rfl (And.intro rfl (True.intro)))))))
              · exact Rl_weak (C60 (v8) (by omega) (by omega) (by omega)) (And.intro rfl (And.intro rfl (And.intro rfl (And.intro rfl (And.intro rfl (And.intro rfl (True.intro)))))))
  refine l_iconst rfl ?_
  refine l_istore rfl rfl rfl ?_
  exact Rl_weak (C3 _ (0) (by omega) rfl) (And.intro rfl (And.intro rfl (And.intro rfl (And.intro rfl (And.intro rfl (And.intro rfl (True.intro)))))))
abbrev Q_mo_lexOf (S : sS) (sort : Int) (ix : Int) : pst := fun r S1 => S = S1 ∧ (∃ z : Int, r = some (iv z) ∧ (-1 ≤ z ∧ z ≤ 299) ∧ (z ≠ -1 → z < Xi S 904 15))
set_option maxRecDepth 100000 in
theorem t_mo_lexOf {S : sS} (hH : HI S) (sort : Int) (ix : Int) (hsort : -2147483648 ≤ sort ∧ sort ≤ 2147483647) (hix : -2147483648 ≤ ix ∧ ix ≤ 2147483647) (d : Nat) : Mt lay0 (d + 1) m_mo_lexOf [.ref 904, iv sort, iv ix] S (Q_mo_lexOf S sort ix) := by
  refine Mt_R rfl rfl ?_
  have w1 : 0 ≤ Xi S 904 15 ∧ Xi S 904 15 ≤ 300 := hH.c _ _
  have C2 : ∀ (n2 : Nat) (v3 : Int), (0 ≤ v3 ∧ v3 ≤ 300) → n2 = (301 - v3).toNat → Rl lay0 (d + 0) m_mo_lexOf 2 [(0, .ref 904), (1, iv sort), (2, iv ix), (3, iv v3)] [] S (Q_mo_lexOf S sort ix) := by
    intro n2
    induction n2 using Nat.strongRecOn with
    | ind n2 ih2 =>
      intro v3 w2 hm2
      refine l_iload_n rfl rfl ?_
      refine l_aload_n rfl rfl ?_
      refine l_gfi rfl rfl rfl rfl rfl ?_
      refine l_icmp_ge rfl rfl (by unfold rg; omega) (by unfold rg; omega) (fun w3 => ?_) (fun w4 => ?_)
      · refine l_iconst rfl ?_
        refine l_ireturn rfl rfl ?_
        exact ⟨rfl, _, rfl, ⟨by omega, by omega⟩, (by first | assumption | omega)⟩
      · refine l_aload_n rfl rfl ?_
        refine l_gfr rfl rfl rfl rfl rfl (hH.r 904 12 914 rfl) ?_
        refine l_iload_n rfl rfl ?_
        refine l_iaload (n := 300) rfl rfl (by omega) (by omega) (by unfold rg; omega) ?_
        have w5 : 0 ≤ (Xi S 914 ((v3).toNat)) ∧ (Xi S 914 ((v3).toNat)) ≤ 12 := hH.c _ _
        refine l_iload_n rfl rfl ?_
        refine l_icmp_ne rfl rfl (by unfold rg; omega) (by unfold rg; omega) (fun w6 => ?_) (fun w7 => ?_)
        · refine l_iinc rfl rfl rfl rfl ?_
          refine l_goto rfl rfl ?_
          exact Rl_weak (ih2 _ (by omega) ((v3 + 1)) (by omega) rfl) (And.intro rfl (And.intro rfl (And.intro rfl (And.intro rfl (True.intro)))))
        · refine l_aload_n rfl rfl ?_
          refine l_gfr rfl rfl rfl rfl rfl (hH.r 904 13 915 rfl) ?_
          refine l_iload_n rfl rfl ?_
          refine l_iaload (n := 300) rfl rfl (by omega) (by omega) (by unfold rg; omega) ?_
          have w8 : 0 ≤ (Xi S 915 ((v3).toNat)) ∧ (Xi S 915 ((v3).toNat)) ≤ 63 := hH.c _ _
          refine l_iload_n rfl rfl ?_
          refine l_icmp_ne rfl rfl (by unfold rg; omega) (by unfold rg; omega) (fun w9 => ?_) (fun w10 => ?_)
          · refine l_iinc rfl rfl rfl rfl ?_
            refine l_goto rfl rfl ?_
            exact Rl_weak (ih2 _ (by omega) ((v3 + 1)) (by omega) rfl) (And.intro rfl (And.intro rfl (And.intro rfl (And.intro rfl (True.intro)))))
          · refine l_iload_n rfl rfl ?_
            refine l_ireturn rfl rfl ?_
            exact ⟨rfl, _, rfl, ⟨by omega, by omega⟩, (by first | assumption | omega)⟩
  refine l_iconst rfl ?_
  refine l_istore_n rfl rfl rfl ?_
  exact Rl_weak (C2 _ (0) (by omega) rfl) (And.intro rfl (And.intro rfl (And.intro rfl (And.intro rfl (True.intro)))))
abbrev Q_mo_letterOf (S : sS) (w : Int) (k : Int) : pst := fun r S1 => S = S1 ∧ (∃ z : Int, r = some (iv z) ∧ (-2147483648 ≤ z ∧ z ≤ 2147483647) ∧ (z ≠ -1 → k < 12))
set_option maxRecDepth 100000 in
theorem t_mo_letterOf {S : sS} (hH : HI S) (w : Int) (k : Int) (hk : 0 ≤ k ∧ k ≤ 2147483647) (d : Nat) : Mt lay0 (d + 1) m_mo_letterOf [jw w, iv k] S (Q_mo_letterOf S w k) := by
  refine Mt_R rfl rfl ?_
  have C2 : ∀ (n2 : Nat) (v3 : Int), (0 ≤ v3 ∧ v3 ≤ 12) → n2 = (13 - v3).toNat → Rl lay0 (d + 0) m_mo_letterOf 2 [(0, jw w), (2, iv k), (3, iv v3)] [] S (Q_mo_letterOf S w k) := by
    intro n2
    induction n2 using Nat.strongRecOn with
    | ind n2 ih2 =>
      intro v3 w1 hm2
      have C24 : ∀  (v3 : Int), (0 ≤ v3 ∧ v3 ≤ 12) → Rl lay0 (d + 0) m_mo_letterOf 24 [(0, jw w), (2, iv k), (3, iv v3)] [] S (Q_mo_letterOf S w k) := by
        intro v3 w2
        refine l_iload_n rfl rfl ?_
        refine l_iload_n rfl rfl ?_
        refine l_icmp_ge rfl rfl (by unfold rg; omega) (by unfold rg; omega) (fun w3 => ?_) (fun w4 => ?_)
        · refine l_iconst rfl ?_
          refine l_ireturn rfl rfl ?_
          exact ⟨rfl, _, rfl, ⟨by omega, by omega⟩, (by first | assumption | omega)⟩
        · refine l_lload_n rfl rfl ?_
          refine l_iconst rfl ?_
          refine l_iload_n rfl rfl ?_
          refine l_iconst rfl ?_
          refine l_isub rfl ?_
          refine l_iload_n rfl rfl ?_
          refine l_isub rfl ?_
          refine l_imul rfl ?_
          refine l_lshrF rfl ?_
          have w5 : rgL (lshrF w (5 * ((v3 - 1) - k))) := lshrF_rg
          refine l_ldc2 (z := 31) rfl rfl ?_
          refine l_landF rfl ?_
          have w6 : rgL (landF (lshrF w (5 * ((v3 - 1) - k))) 31) := landF_rg
          refine l_l2iA rfl (fun c7 w7 => ?_)
          refine l_bipush rfl rfl ?_
          refine l_iaddW rfl (fun c8 w8 => ?_)
          refine l_goto rfl rfl ?_
          refine l_ireturn rfl rfl ?_
          exact ⟨rfl, _, rfl, ⟨by omega, by omega⟩, (by first | assumption | omega)⟩
      refine l_iload_n rfl rfl ?_
      refine l_bipush rfl rfl ?_
      refine l_icmp_ge rfl rfl (by unfold rg; omega) (by unfold rg; omega) (fun w9 => ?_) (fun w10 => ?_)
      · exact Rl_weak (C24 (v3) (by omega)) (And.intro rfl (And.intro rfl (And.intro rfl (True.intro))))
      · refine l_lload_n rfl rfl ?_
        refine l_iconst rfl ?_
        refine l_iload_n rfl rfl ?_
        refine l_imul rfl ?_
        refine l_lshrF rfl ?_
        have w11 : rgL (lshrF w (5 * v3)) := lshrF_rg
        refine l_lconst (z := 0) rfl rfl ?_
        refine l_lcmpA rfl (fun c12 w12 => ?_)
        refine l_if_eq rfl rfl (by unfold rg; omega) (fun w13 => ?_) (fun w14 => ?_)
        · exact Rl_weak (C24 (v3) (by omega)) (And.intro rfl (And.intro rfl (And.intro rfl (True.intro))))
        · refine l_iinc rfl rfl rfl rfl ?_
          refine l_goto rfl rfl ?_
          exact Rl_weak (ih2 _ (by omega) ((v3 + 1)) (by omega) rfl) (And.intro rfl (And.intro rfl (And.intro rfl (True.intro))))
  refine l_iconst rfl ?_
  refine l_istore_n rfl rfl rfl ?_
  exact Rl_weak (C2 _ (0) (by omega) rfl) (And.intro rfl (And.intro rfl (And.intro rfl (True.intro))))
abbrev Q_mo_byteOf (S : sS) (lex : Int) (k : Int) : pst := fun r S1 => S = S1 ∧ (∃ z : Int, r = some (iv z) ∧ (-2147483648 ≤ z ∧ z ≤ 2147483647) ∧ (z ≠ -1 → k ≤ 40))
set_option maxRecDepth 100000 in
theorem t_mo_byteOf {S : sS} (hH : HI S) (lex : Int) (k : Int) (hlex : 0 ≤ lex ∧ lex ≤ 299) (hk : 0 ≤ k ∧ k ≤ 2147483647) (d : Nat) : Mt lay0 (d + 2) m_mo_byteOf [.ref 904, iv lex, iv k] S (Q_mo_byteOf S lex k) := by
  refine Mt_R rfl rfl ?_
  have C5 : ∀ (n5 : Nat) (v3 : Int) (v4 : Int), (0 ≤ v3 ∧ v3 ≤ 2147483647) → (0 ≤ v4 ∧ v4 ≤ 3) → (0 ≤ v3) → (k ≤ v3 + 13 * v4) → n5 = (4 - v4).toNat → Rl lay0 (d + 1) m_mo_byteOf 5 [(0, .ref 904), (1, iv lex), (3, iv v3), (4, iv v4)] [] S (Q_mo_byteOf S lex k) := by
    intro n5
    induction n5 using Nat.strongRecOn with
    | ind n5 ih5 =>
      intro v3 v4 w1 w2 w3 w4 hm5
      have C19 : ∀ (n19 : Nat) (v3 : Int) (v4 : Int) (v5 : Int), (0 ≤ v3 ∧ v3 ≤ 2147483647) → (0 ≤ v4 ∧ v4 ≤ 2) → (0 ≤ v5 ∧ v5 ≤ 12) → (0 ≤ v3) → (k ≤ v3 + 13 * v4) → (v4 < 3) → ((4 - v4).toNat ≤ n5) → n19 = (13 - v5).toNat → Rl lay0 (d + 1) m_mo_byteOf 19 [(0, .ref 904), (1, iv lex), (3, iv v3), (4, iv v4), (5, iv v5)] [] S (Q_mo_byteOf S lex k) := by
        intro n19
        induction n19 using Nat.strongRecOn with
        | ind n19 ih19 =>
          intro v3 v4 v5 w5 w6 w7 w8 w9 w10 w11 hm19
          refine l_aload_n rfl rfl ?_
          refine l_gfr rfl rfl rfl rfl rfl (hH.r 904 11 913 rfl) ?_
          refine l_iconst rfl ?_
          refine l_iload_n rfl rfl ?_
          refine l_imul rfl ?_
          refine l_iload rfl rfl ?_
          refine l_iadd rfl ?_
          refine l_laload (n := 900) rfl rfl (by omega) (by omega) (by unfold rg; omega) ?_
          have w12 : -9223372036854775808 ≤ (Xj S 913 ((((3 * lex) + v4)).toNat)) ∧ (Xj S 913 ((((3 * lex) + v4)).toNat)) < 9223372036854775808 := Xj_rg
          refine l_iload rfl rfl ?_
          refine l_callS rfl rfl (by decide) rfl (t_mo_letterOf hH (Xj S 913 ((((3 * lex) + v4)).toNat)) v5 ⟨by omega, by omega⟩ _) ?_
          rintro _ _ ⟨rfl, z14, rfl, w14, w13⟩
          show Rl _ _ _ _ _ [iv z14] _ _
          refine l_iconst rfl ?_
          refine l_icmp_eq rfl rfl (by unfold rg; omega) (by unfold rg; omega) (fun w15 => ?_) (fun w16 => ?_)
          · refine l_iload_n rfl rfl ?_
            refine l_iload rfl rfl ?_
            refine l_icmp_ge rfl rfl (by unfold rg; omega) (by unfold rg; omega) (fun w17 => ?_) (fun w18 => ?_)
            · refine l_iload_n rfl rfl ?_
              refine l_iload rfl rfl ?_
              refine l_isub rfl ?_
              refine l_istore_n rfl rfl rfl ?_
              refine l_iload rfl rfl ?_
              refine l_iconst rfl ?_
              refine l_iadd rfl ?_
              refine l_aload_n rfl rfl ?_
              refine l_gfr rfl rfl rfl rfl rfl (hH.r 904 10 912 rfl) ?_
              refine l_iload_n rfl rfl ?_
              refine l_iaload (n := 300) rfl rfl (by omega) (by omega) (by unfold rg; omega) ?_
              have w19 : 0 ≤ (Xi S 912 ((lex).toNat)) ∧ (Xi S 912 ((lex).toNat)) ≤ 3 := hH.c _ _
              refine l_icmp_ne rfl rfl (by unfold rg; omega) (by unfold rg; omega) (fun w20 => ?_) (fun w21 => ?_)
              · refine l_iconst rfl ?_
                refine l_istore rfl rfl rfl ?_
                refine l_iload_n rfl rfl ?_
                refine l_if_ne rfl rfl (by unfold rg; omega) (fun w22 => ?_) (fun w23 => ?_)
                · refine l_iinc rfl rfl rfl rfl ?_
                  refine l_iinc rfl rfl rfl rfl ?_
                  refine l_goto rfl rfl ?_
                  exact Rl_weak (ih5 _ (by omega) (((v3 - v5) + (-1))) ((v4 + 1)) (by omega) (by omega) (by omega) (by omega) rfl) (And.intro rfl (And.intro rfl (And.intro rfl (And.intro rfl (True.intro)))))
                · refine l_iload rfl rfl ?_
                  refine l_if_ne rfl rfl (by unfold rg; omega) (fun w24 => absurd w24 (by omega)) (fun w25 => ?_)
                  · refine l_bipush rfl rfl ?_
                    refine l_goto rfl rfl ?_
                    refine l_ireturn rfl rfl ?_
                    exact ⟨rfl, _, rfl, ⟨by omega, by omega⟩, (by first | assumption | omega)⟩
              · refine l_iconst rfl ?_
                refine l_goto rfl rfl ?_
                refine l_istore rfl rfl rfl ?_
                refine l_iload_n rfl rfl ?_
                refine l_if_ne rfl rfl (by unfold rg; omega) (fun w26 => ?_) (fun w27 => ?_)
                · refine l_iinc rfl rfl rfl rfl ?_
                  refine l_iinc rfl rfl rfl rfl ?_
                  refine l_goto rfl rfl ?_
                  exact Rl_weak (ih5 _ (by omega) (((v3 - v5) + (-1))) ((v4 + 1)) (by omega) (by omega) (by omega) (by omega) rfl) (And.intro rfl (And.intro rfl (And.intro rfl (And.intro rfl (True.intro)))))
                · refine l_iload rfl rfl ?_
                  refine l_if_ne rfl rfl (by unfold rg; omega) (fun w28 => ?_) (fun w29 => absurd w29 (by omega))
                  · refine l_aload_n rfl rfl ?_
                    refine l_gfr rfl rfl rfl rfl rfl (hH.r 904 14 916 rfl) ?_
                    refine l_iload_n rfl rfl ?_
                    refine l_baload (n := 300) rfl rfl rfl (by decide) (by omega) (by omega) (by unfold rg; omega) ?_
                    have w30 : 0 ≤ (Xi S 916 ((lex).toNat)) ∧ (Xi S 916 ((lex).toNat)) ≤ 1 := hH.c _ _
                    refine l_if_eq rfl rfl (by unfold rg; omega) (fun w31 => ?_) (fun w32 => ?_)
                    · refine l_iconst rfl ?_
                      refine l_ireturn rfl rfl ?_
                      exact ⟨rfl, _, rfl, ⟨by omega, by omega⟩, (by first | assumption | omega)⟩
                    · refine l_bipush rfl rfl ?_
                      refine l_goto rfl rfl ?_
                      refine l_ireturn rfl rfl ?_
                      exact ⟨rfl, _, rfl, ⟨by omega, by omega⟩, (by first | assumption | omega)⟩
            · refine l_aload_n rfl rfl ?_
              refine l_gfr rfl rfl rfl rfl rfl (hH.r 904 11 913 rfl) ?_
              refine l_iconst rfl ?_
              refine l_iload_n rfl rfl ?_
              refine l_imul rfl ?_
              refine l_iload rfl rfl ?_
              refine l_iadd rfl ?_
              refine l_laload (n := 900) rfl rfl (by omega) (by omega) (by unfold rg; omega) ?_
              have w33 : -9223372036854775808 ≤ (Xj S 913 ((((3 * lex) + v4)).toNat)) ∧ (Xj S 913 ((((3 * lex) + v4)).toNat)) < 9223372036854775808 := Xj_rg
              refine l_iload_n rfl rfl ?_
              refine l_callS rfl rfl (by decide) rfl (t_mo_letterOf hH (Xj S 913 ((((3 * lex) + v4)).toNat)) v3 ⟨by omega, by omega⟩ _) ?_
              rintro _ _ ⟨rfl, z35, rfl, w35, w34⟩
              show Rl _ _ _ _ _ [iv z35] _ _
              refine l_ireturn rfl rfl ?_
              exact ⟨rfl, _, rfl, ⟨by omega, by omega⟩, (by first | assumption | omega)⟩
          · refine l_iinc rfl rfl rfl rfl ?_
            refine l_goto rfl rfl ?_
            exact Rl_weak (ih19 _ (by omega) (v3) (v4) ((v5 + 1)) (by omega) (by omega) (by omega) (by omega) (by omega) (by omega) (by omega) rfl) (And.intro rfl (And.intro rfl (And.intro rfl (And.intro rfl (And.intro rfl (True.intro))))))
      refine l_iload rfl rfl ?_
      refine l_aload_n rfl rfl ?_
      refine l_gfr rfl rfl rfl rfl rfl (hH.r 904 10 912 rfl) ?_
      refine l_iload_n rfl rfl ?_
      refine l_iaload (n := 300) rfl rfl (by omega) (by omega) (by unfold rg; omega) ?_
      have w36 : 0 ≤ (Xi S 912 ((lex).toNat)) ∧ (Xi S 912 ((lex).toNat)) ≤ 3 := hH.c _ _
      refine l_icmp_ge rfl rfl (by unfold rg; omega) (by unfold rg; omega) (fun w37 => ?_) (fun w38 => ?_)
      · refine l_iconst rfl ?_
        refine l_ireturn rfl rfl ?_
        exact ⟨rfl, _, rfl, ⟨by omega, by omega⟩, (by first | assumption | omega)⟩
      · refine l_iconst rfl ?_
        refine l_istore rfl rfl rfl ?_
        exact Rl_weak (C19 _ (v3) (v4) (0) (by omega) (by omega) (by omega) (by omega) (by omega) (by omega) (by omega) rfl) (And.intro rfl (And.intro rfl (And.intro rfl (And.intro rfl (And.intro rfl (True.intro))))))
  refine l_iload_n rfl rfl ?_
  refine l_istore_n rfl rfl rfl ?_
  refine l_iconst rfl ?_
  refine l_istore rfl rfl rfl ?_
  exact Rl_weak (C5 _ (k) (0) (by omega) (by omega) (by omega) (by omega) rfl) (And.intro rfl (And.intro rfl (And.intro rfl (And.intro rfl (True.intro)))))
def md_mo_put : List rec := [(904, 905, 156, 157), (993, 994, 0, 100000)]
abbrev Q_mo_put (S : sS) (c : Int) : pst := fun r S1 => HI S1 ∧ FR md_mo_put S S1 ∧ (r = none)
set_option maxRecDepth 100000 in
theorem t_mo_put {S : sS} (hH : HI S) (c : Int) (hc : -2147483648 ≤ c ∧ c ≤ 2147483647) (d : Nat) : Mt lay0 (d + 1) m_mo_put [.ref 904, iv c] S (Q_mo_put S c) := by
  refine Mt_R rfl rfl ?_
  have hF : FR md_mo_put S S := FR.rf
  refine l_aload_n rfl rfl ?_
  refine l_gfi rfl rfl rfl rfl rfl ?_
  have w1 : 0 ≤ (Xi S 904 156) ∧ (Xi S 904 156) ≤ 2000 := hH.c _ _
  refine l_sipush rfl rfl ?_
  refine l_icmp_ge rfl rfl (by unfold rg; omega) (by unfold rg; omega) (fun w2 => ?_) (fun w3 => ?_)
  · refine l_return rfl rfl ?_
    exact ⟨hH, hF, rfl⟩
  · refine l_aload_n rfl rfl ?_
    refine l_gfi rfl rfl rfl rfl rfl ?_
    have w4 : 0 ≤ (Xi S 904 157) ∧ (Xi S 904 157) ≤ 1 := hH.c _ _
    refine l_if_ne rfl rfl (by unfold rg; omega) (fun w5 => ?_) (fun w6 => ?_)
    · refine l_return rfl rfl ?_
      exact ⟨hH, hF, rfl⟩
    · refine l_aload_n rfl rfl ?_
      refine l_gfr rfl rfl rfl rfl rfl (hH.r 904 155 993 rfl) ?_
      refine l_aload_n rfl rfl ?_
      refine l_gfi rfl rfl rfl rfl rfl ?_
      refine l_iload_n rfl rfl ?_
      refine l_i2b rfl (fun c7 w7 => ?_)
      refine l_bastoreB1 (n := 2000) rfl rfl (by omega) (by omega) (by unfold rg; omega) ⟨by omega, by omega⟩ ?_
      obtain ⟨U1, eU1⟩ : ∃ T : sS, T = uI S 993 (((Xi S 904 156)).toNat) (Int32.ofInt c7) := ⟨_, rfl⟩
      rw [← eU1]
      have hHU1 : HI U1 := by rw [eU1]; exact HI_w hH (show -128 ≤ c7 by omega) (show c7 ≤ 127 by omega)
      have hFU1 : FR md_mo_put S U1 := by rw [eU1]; exact FR.wI hF (mdf_i (r := (993, 994, 0, 100000)) (List.mem_of_getElem? (i := 1) rfl) (inR_i (by omega) (by omega) (by omega) (by omega)))
      have w8 : Xi U1 993 (((Xi S 904 156)).toNat) = c7 := by rw [eU1]; exact Xi_same (by unfold rg; omega)
      refine l_aload_n rfl rfl ?_
      refine l_dup rfl rfl ?_
      refine l_gfi rfl rfl rfl rfl rfl ?_
      have w9 : (Xi U1 904 156) = (Xi S 904 156) := (show Xi U1 904 156 = Xi S 904 156 from by rw [eU1]; exact Xi_ne (by omega))
      rw [w9]
      refine l_iconst rfl ?_
      refine l_iadd rfl ?_
      refine l_pfi rfl rfl rfl rfl ?_
      obtain ⟨U2, eU2⟩ : ∃ T : sS, T = uI U1 904 156 (Int32.ofInt ((Xi S 904 156) + 1)) := ⟨_, rfl⟩
      rw [← eU2]
      have hHU2 : HI U2 := by rw [eU2]; exact HI_w hHU1 (show 0 ≤ ((Xi S 904 156) + 1) by omega) (show ((Xi S 904 156) + 1) ≤ 2000 by omega)
      have hFU2 : FR md_mo_put S U2 := by rw [eU2]; exact FR.wI hFU1 (mdf_i (r := (904, 905, 156, 157)) (List.mem_of_getElem? (i := 0) rfl) (inR_i (by omega) (by omega) (by omega) (by omega)))
      have w10 : Xi U2 904 156 = ((Xi S 904 156) + 1) := by rw [eU2]; exact Xi_same (by unfold rg; omega)
      refine l_return rfl rfl ?_
      exact ⟨hHU2, hFU2, rfl⟩
def md_mo_putNumber : List rec := [(904, 905, 156, 157), (993, 994, 0, 100000)]
abbrev Q_mo_putNumber (S : sS) (x : Int) : pst := fun r S1 => HI S1 ∧ FR md_mo_putNumber S S1 ∧ (r = none)
set_option maxRecDepth 100000 in
theorem t_mo_putNumber {S : sS} (hH : HI S) (x : Int) (hx : -2147483648 ≤ x ∧ x ≤ 2147483647) (d : Nat) : Mt lay0 (d + 2) m_mo_putNumber [.ref 904, iv x] S (Q_mo_putNumber S x) := by
  refine Mt_R rfl rfl ?_
  have hF : FR md_mo_putNumber S S := FR.rf
  have C10 : ∀  (T1 : sS) (_ : HI T1) (_ : FR md_mo_putNumber S T1), Rl lay0 (d + 1) m_mo_putNumber 10 [(0, .ref 904), (1, iv x)] [] T1 (Q_mo_putNumber S x) := by
    intro T1 hHT1 hFT1
    have C17 : ∀ (n17 : Nat) (v2 : Int) (v3 : Int), (-2147483648 ≤ v2 ∧ v2 ≤ 2147483647) → (0 ≤ v3 ∧ v3 ≤ 2147483647) → (1 ≤ v3) → n17 = (2147483648 - v3).toNat → Rl lay0 (d + 1) m_mo_putNumber 17 [(0, .ref 904), (2, iv v2), (3, iv v3)] [] T1 (Q_mo_putNumber S x) := by
      intro n17
      induction n17 using Nat.strongRecOn with
      | ind n17 ih17 =>
        intro v2 v3 w1 w2 w3 hm17
        have C33 : ∀ (n33 : Nat) (T2 : sS) (_ : HI T2) (_ : FR md_mo_putNumber S T2) (v2 : Int) (v3 : Int), (-2147483648 ≤ v2 ∧ v2 ≤ 2147483647) → (0 ≤ v3 ∧ v3 ≤ 2147483647) → (0 ≤ v3) → n33 = (v3).toNat → Rl lay0 (d + 1) m_mo_putNumber 33 [(0, .ref 904), (2, iv v2), (3, iv v3)] [] T2 (Q_mo_putNumber S x) := by
          intro n33
          induction n33 using Nat.strongRecOn with
          | ind n33 ih33 =>
            intro T2 hHT2 hFT2 v2 v3 w4 w5 w6 hm33
            refine l_iload_n rfl rfl ?_
            refine l_if_le rfl rfl (by unfold rg; omega) (fun w7 => ?_) (fun w8 => ?_)
            · refine l_return rfl rfl ?_
              exact ⟨hHT2, hFT2, rfl⟩
            · refine l_aload_n rfl rfl ?_
              refine l_bipush rfl rfl ?_
              refine l_iload_n rfl rfl ?_
              refine l_iload_n rfl rfl ?_
              refine l_idivA rfl (by omega) (by unfold rg; omega) (by unfold rg; omega) (fun c9 w9 w9b w9c => ?_)
              refine l_bipush rfl rfl ?_
              refine l_iremA rfl (by omega) (by unfold rg; omega) (by unfold rg; omega) (fun c10 w10 w10b w10c => ?_)
              refine l_iaddW rfl (fun c11 w11 => ?_)
              refine l_callV rfl rfl rfl (t_mo_put hHT2 c11 ⟨by omega, by omega⟩ _) ?_
              rintro _ T3 ⟨hHT3, w13, rfl⟩
              have hFT3 : FR md_mo_putNumber S T3 := FR.tr hFT2 w13 rfl
              show Rl _ _ _ _ _ [] _ _
              refine l_iload_n rfl rfl ?_
              refine l_bipush rfl rfl ?_
              refine l_idivA rfl (by omega) (by unfold rg; omega) (by unfold rg; omega) (fun c14 w14 w14b w14c => ?_)
              refine l_istore_n rfl rfl rfl ?_
              refine l_goto rfl rfl ?_
              exact Rl_weak (ih33 _ (by omega) T3 hHT3 hFT3 (v2) (c14) (by omega) (by omega) (by omega) rfl) (And.intro rfl (And.intro rfl (And.intro rfl (True.intro))))
        refine l_iload_n rfl rfl ?_
        refine l_iload_n rfl rfl ?_
        refine l_idivA rfl (by omega) (by unfold rg; omega) (by unfold rg; omega) (fun c15 w15 w15b w15c => ?_)
        have d19 : 9 < c15 → v3 * 10 ≤ v2 := fun q => div9 (by omega) (by assumption : 0 ≤ v2 → c15 = v2 / v3) (by assumption : v2 < 0 → v2 ≤ c15 ∧ c15 ≤ 0) q
        refine l_bipush rfl rfl ?_
        refine l_icmp_le rfl rfl (by unfold rg; omega) (by unfold rg; omega) (fun w16 => ?_) (fun w17 => ?_)
        · exact Rl_weak (C33 _ T1 hHT1 hFT1 (v2) (v3) (by omega) (by omega) (by omega) rfl) (And.intro rfl (And.intro rfl (And.intro rfl (True.intro))))
        · refine l_iload_n rfl rfl ?_
          refine l_bipush rfl rfl ?_
          refine l_imul rfl ?_
          refine l_istore_n rfl rfl rfl ?_
          refine l_goto rfl rfl ?_
          exact Rl_weak (ih17 _ (by omega) (v2) ((v3 * 10)) (by omega) (by omega) (by omega) rfl) (And.intro rfl (And.intro rfl (And.intro rfl (True.intro))))
    refine l_iload_n rfl rfl ?_
    refine l_abs rfl rfl rfl (by unfold rg; omega) (fun c18 w18 w18b w18c => ?_)
    refine l_istore_n rfl rfl rfl ?_
    refine l_iconst rfl ?_
    refine l_istore_n rfl rfl rfl ?_
    exact Rl_weak (C17 _ (c18) (1) (by omega) (by omega) (by omega) rfl) (And.intro rfl (And.intro rfl (And.intro rfl (True.intro))))
  refine l_iload_n rfl rfl ?_
  refine l_if_ge rfl rfl (by unfold rg; omega) (fun w19 => ?_) (fun w20 => ?_)
  · exact Rl_weak (C10 S hH hF  ) (And.intro rfl (And.intro rfl (True.intro)))
  · refine l_aload_n rfl rfl ?_
    refine l_bipush rfl rfl ?_
    refine l_callV rfl rfl rfl (t_mo_put hH 45 ⟨by omega, by omega⟩ _) ?_
    rintro _ T4 ⟨hHT4, w22, rfl⟩
    have hFT4 : FR md_mo_putNumber S T4 := FR.tr hF w22 rfl
    show Rl _ _ _ _ _ [] _ _
    exact Rl_weak (C10 T4 hHT4 hFT4  ) (And.intro rfl (And.intro rfl (True.intro)))
def md_mo_putLex : List rec := [(904, 905, 156, 157), (993, 994, 0, 100000)]
abbrev Q_mo_putLex (S : sS) (lex : Int) : pst := fun r S1 => HI S1 ∧ FR md_mo_putLex S S1 ∧ (r = none)
set_option maxRecDepth 100000 in
theorem t_mo_putLex {S : sS} (hH : HI S) (lex : Int) (hlex : -1 ≤ lex ∧ lex ≤ 299) (d : Nat) : Mt lay0 (d + 3) m_mo_putLex [.ref 904, iv lex] S (Q_mo_putLex S lex) := by
  refine Mt_R rfl rfl ?_
  have hF : FR md_mo_putLex S S := FR.rf
  have C2 : ∀ (n2 : Nat) (T1 : sS) (_ : HI T1) (_ : FR md_mo_putLex S T1) (v2 : Int), (0 ≤ v2 ∧ v2 ≤ 41) → n2 = (42 - v2).toNat → Rl lay0 (d + 2) m_mo_putLex 2 [(0, .ref 904), (1, iv lex), (2, iv v2)] [] T1 (Q_mo_putLex S lex) := by
    intro n2
    induction n2 using Nat.strongRecOn with
    | ind n2 ih2 =>
      intro T1 hHT1 hFT1 v2 w1 hm2
      refine l_iload_n rfl rfl ?_
      refine l_iconst rfl ?_
      refine l_icmp_eq rfl rfl (by unfold rg; omega) (by unfold rg; omega) (fun w2 => ?_) (fun w3 => ?_)
      · refine l_return rfl rfl ?_
        exact ⟨hHT1, hFT1, rfl⟩
      · refine l_aload_n rfl rfl ?_
        refine l_iload_n rfl rfl ?_
        refine l_iload_n rfl rfl ?_
        refine l_callV rfl rfl rfl (t_mo_byteOf hHT1 lex v2 ⟨by omega, by omega⟩ ⟨by omega, by omega⟩ _) ?_
        rintro _ _ ⟨rfl, z5, rfl, w5, w4⟩
        show Rl _ _ _ _ _ [iv z5] _ _
        refine l_iconst rfl ?_
        refine l_icmp_eq rfl rfl (by unfold rg; omega) (by unfold rg; omega) (fun w6 => ?_) (fun w7 => ?_)
        · refine l_return rfl rfl ?_
          exact ⟨hHT1, hFT1, rfl⟩
        · refine l_aload_n rfl rfl ?_
          refine l_aload_n rfl rfl ?_
          refine l_iload_n rfl rfl ?_
          refine l_iload_n rfl rfl ?_
          refine l_callV rfl rfl rfl (t_mo_byteOf hHT1 lex v2 ⟨by omega, by omega⟩ ⟨by omega, by omega⟩ _) ?_
          rintro _ _ ⟨rfl, z9, rfl, w9, w8⟩
          show Rl _ _ _ _ _ [iv z9, .ref 904] _ _
          refine l_callV rfl rfl rfl (t_mo_put hHT1 z9 ⟨by omega, by omega⟩ _) ?_
          rintro _ T2 ⟨hHT2, w11, rfl⟩
          have hFT2 : FR md_mo_putLex S T2 := FR.tr hFT1 w11 rfl
          show Rl _ _ _ _ _ [] _ _
          refine l_iinc rfl rfl rfl rfl ?_
          refine l_goto rfl rfl ?_
          exact Rl_weak (ih2 _ (by omega) T2 hHT2 hFT2 ((v2 + 1)) (by omega) rfl) (And.intro rfl (And.intro rfl (And.intro rfl (True.intro))))
  refine l_iconst rfl ?_
  refine l_istore_n rfl rfl rfl ?_
  exact Rl_weak (C2 _ S hH hF (0) (by omega) rfl) (And.intro rfl (And.intro rfl (And.intro rfl (True.intro))))
abbrev Q_mo_has (S : sS) (kind : Int) (p : Int) : pst := fun r S1 => S = S1 ∧ (∃ z : Int, r = some (iv z) ∧ (0 ≤ z ∧ z ≤ 1) ∧ (z = 1 → 0 ≤ kind))
set_option maxRecDepth 100000 in
theorem t_mo_has {S : sS} (hH : HI S) (kind : Int) (p : Int) (hkind : -1 ≤ kind ∧ kind ≤ 15) (hp : 0 ≤ p ∧ p ≤ 11) (hB : ABV S) (d : Nat) : Mt lay0 (d + 1) m_mo_has [.ref 904, iv kind, iv p] S (Q_mo_has S kind p) := by
  refine Mt_R rfl rfl ?_
  have C2 : ∀ (n2 : Nat) (v3 : Int), (-1 ≤ v3 ∧ v3 ≤ 15) → (v3 ≤ kind) → n2 = (v3 + 1).toNat → Rl lay0 (d + 0) m_mo_has 2 [(0, .ref 904), (2, iv p), (3, iv v3)] [] S (Q_mo_has S kind p) := by
    intro n2
    induction n2 using Nat.strongRecOn with
    | ind n2 ih2 =>
      intro v3 w1 w2 hm2
      refine l_iload_n rfl rfl ?_
      refine l_if_lt rfl rfl (by unfold rg; omega) (fun w3 => ?_) (fun w4 => ?_)
      · refine l_iconst rfl ?_
        refine l_ireturn rfl rfl ?_
        exact ⟨rfl, _, rfl, ⟨by omega, by omega⟩, (by first | assumption | omega)⟩
      · refine l_aload_n rfl rfl ?_
        refine l_gfr rfl rfl rfl rfl rfl (hH.r 904 34 929 rfl) ?_
        refine l_bipush rfl rfl ?_
        refine l_iload_n rfl rfl ?_
        refine l_imul rfl ?_
        refine l_iload_n rfl rfl ?_
        refine l_iadd rfl ?_
        refine l_baload (n := 192) rfl rfl rfl (by decide) (by omega) (by omega) (by unfold rg; omega) ?_
        have w5 : 0 ≤ (Xi S 929 ((((12 * v3) + p)).toNat)) ∧ (Xi S 929 ((((12 * v3) + p)).toNat)) ≤ 1 := hH.c _ _
        refine l_if_eq rfl rfl (by unfold rg; omega) (fun w6 => ?_) (fun w7 => ?_)
        · refine l_aload_n rfl rfl ?_
          refine l_gfr rfl rfl rfl rfl rfl (hH.r 904 17 917 rfl) ?_
          refine l_iload_n rfl rfl ?_
          refine l_iaload (n := 16) rfl rfl (by omega) (by omega) (by unfold rg; omega) ?_
          have w8 : -1 ≤ (Xi S 917 ((v3).toNat)) ∧ (Xi S 917 ((v3).toNat)) ≤ 15 := hH.c _ _
          have b27 : (Xi S 917 ((v3).toNat)) < v3 := by have t := hB (v3).toNat (by omega); omega
          refine l_istore_n rfl rfl rfl ?_
          refine l_goto rfl rfl ?_
          exact Rl_weak (ih2 _ (by omega) ((Xi S 917 ((v3).toNat))) (by omega) (by omega) rfl) (And.intro rfl (And.intro rfl (And.intro rfl (True.intro))))
        · refine l_iconst rfl ?_
          refine l_ireturn rfl rfl ?_
          exact ⟨rfl, _, rfl, ⟨by omega, by omega⟩, (by first | assumption | omega)⟩
  refine l_iload_n rfl rfl ?_
  refine l_istore_n rfl rfl rfl ?_
  exact Rl_weak (C2 _ (kind) (by omega) (by omega) rfl) (And.intro rfl (And.intro rfl (And.intro rfl (True.intro))))
abbrev Q_mo_kindOfWay (S : sS) (m : Int) : pst := fun r S1 => S = S1 ∧ (∃ z : Int, r = some (iv z) ∧ (0 ≤ z ∧ z ≤ 4))
set_option maxRecDepth 100000 in
theorem t_mo_kindOfWay {S : sS} (hH : HI S) (m : Int) (hm : -2147483648 ≤ m ∧ m ≤ 2147483647) (d : Nat) : Mt lay0 (d + 1) m_mo_kindOfWay [iv m] S (Q_mo_kindOfWay S m) := by
  refine Mt_R rfl rfl ?_
  refine l_iload_n rfl rfl ?_
  refine l_iconst rfl ?_
  refine l_icmp_ne rfl rfl (by unfold rg; omega) (by unfold rg; omega) (fun w1 => ?_) (fun w2 => ?_)
  · refine l_iload_n rfl rfl ?_
    refine l_iconst rfl ?_
    refine l_icmp_ne rfl rfl (by unfold rg; omega) (by unfold rg; omega) (fun w3 => ?_) (fun w4 => ?_)
    · refine l_iconst rfl ?_
      refine l_ireturn rfl rfl ?_
      exact ⟨rfl, _, rfl, ⟨by omega, by omega⟩⟩
    · refine l_iconst rfl ?_
      refine l_goto rfl rfl ?_
      refine l_ireturn rfl rfl ?_
      exact ⟨rfl, _, rfl, ⟨by omega, by omega⟩⟩
  · refine l_iconst rfl ?_
    refine l_goto rfl rfl ?_
    refine l_ireturn rfl rfl ?_
    exact ⟨rfl, _, rfl, ⟨by omega, by omega⟩⟩
abbrev Q_mo_mayHold (S : sS) (m : Int) (kind : Int) : pst := fun r S1 => S = S1 ∧ (∃ z : Int, r = some (iv z) ∧ (0 ≤ z ∧ z ≤ 1))
set_option maxRecDepth 100000 in
theorem t_mo_mayHold {S : sS} (hH : HI S) (m : Int) (kind : Int) (hm : -2147483648 ≤ m ∧ m ≤ 2147483647) (hkind : -1 ≤ kind ∧ kind ≤ 15) (hB : ABV S) (d : Nat) : Mt lay0 (d + 2) m_mo_mayHold [.ref 904, iv m, iv kind] S (Q_mo_mayHold S m kind) := by
  refine Mt_R rfl rfl ?_
  refine l_iload_n rfl rfl ?_
  refine l_iconst rfl ?_
  refine l_icmp_ne rfl rfl (by unfold rg; omega) (by unfold rg; omega) (fun w1 => ?_) (fun w2 => ?_)
  · refine l_aload_n rfl rfl ?_
    refine l_iload_n rfl rfl ?_
    refine l_iload_n rfl rfl ?_
    refine l_callS rfl rfl (by decide) rfl (t_mo_kindOfWay hH m ⟨by omega, by omega⟩ _) ?_
    rintro _ _ ⟨rfl, z3, rfl, w3⟩
    show Rl _ _ _ _ _ [iv z3, iv kind, .ref 904] _ _
    refine l_callV rfl rfl rfl (t_mo_isBelow hH kind z3 ⟨by omega, by omega⟩ ⟨by omega, by omega⟩ (by first | assumption | exact (by assumption : ABV S)) _) ?_
    rintro _ _ ⟨rfl, z5, rfl, w5, w4⟩
    show Rl _ _ _ _ _ [iv z5] _ _
    refine l_ireturn rfl (retI_z (by omega)) ?_
    exact ⟨rfl, _, rfl, ⟨by omega, by omega⟩⟩
  · refine l_aload_n rfl rfl ?_
    refine l_iload_n rfl rfl ?_
    refine l_iconst rfl ?_
    refine l_callV rfl rfl rfl (t_mo_isBelow hH kind 1 ⟨by omega, by omega⟩ ⟨by omega, by omega⟩ (by first | assumption | exact (by assumption : ABV S)) _) ?_
    rintro _ _ ⟨rfl, z7, rfl, w7, w6⟩
    show Rl _ _ _ _ _ [iv z7] _ _
    refine l_if_ne rfl rfl (by unfold rg; omega) (fun w8 => ?_) (fun w9 => ?_)
    · refine l_iconst rfl ?_
      refine l_goto rfl rfl ?_
      refine l_ireturn rfl rfl ?_
      exact ⟨rfl, _, rfl, ⟨by omega, by omega⟩⟩
    · refine l_aload_n rfl rfl ?_
      refine l_iload_n rfl rfl ?_
      refine l_iconst rfl ?_
      refine l_callV rfl rfl rfl (t_mo_isBelow hH kind 2 ⟨by omega, by omega⟩ ⟨by omega, by omega⟩ (by first | assumption | exact (by assumption : ABV S)) _) ?_
      rintro _ _ ⟨rfl, z11, rfl, w11, w10⟩
      show Rl _ _ _ _ _ [iv z11] _ _
      refine l_if_eq rfl rfl (by unfold rg; omega) (fun w12 => ?_) (fun w13 => ?_)
      · refine l_iconst rfl ?_
        refine l_goto rfl rfl ?_
        refine l_ireturn rfl rfl ?_
        exact ⟨rfl, _, rfl, ⟨by omega, by omega⟩⟩
      · refine l_iconst rfl ?_
        refine l_goto rfl rfl ?_
        refine l_ireturn rfl rfl ?_
        exact ⟨rfl, _, rfl, ⟨by omega, by omega⟩⟩
abbrev Q_mo_isWithin (S : sS) (o : Int) (h : Int) : pst := fun r S1 => S = S1 ∧ (∃ z : Int, r = some (iv z) ∧ (0 ≤ z ∧ z ≤ 1))
set_option maxRecDepth 100000 in
theorem t_mo_isWithin {S : sS} (hH : HI S) (o : Int) (h : Int) (ho : -1 ≤ o ∧ o ≤ 23) (hh : -2147483648 ≤ h ∧ h ≤ 2147483647) (d : Nat) : Mt lay0 (d + 1) m_mo_isWithin [.ref 904, iv o, iv h] S (Q_mo_isWithin S o h) := by
  refine Mt_R rfl rfl ?_
  have C5 : ∀ (n5 : Nat) (v3 : Int) (v4 : Int), (-1 ≤ v3 ∧ v3 ≤ 23) → (0 ≤ v4 ∧ v4 ≤ 25) → n5 = (26 - v4).toNat → Rl lay0 (d + 0) m_mo_isWithin 5 [(0, .ref 904), (2, iv h), (3, iv v3), (4, iv v4)] [] S (Q_mo_isWithin S o h) := by
    intro n5
    induction n5 using Nat.strongRecOn with
    | ind n5 ih5 =>
      intro v3 v4 w1 w2 hm5
      refine l_iload rfl rfl ?_
      refine l_bipush rfl rfl ?_
      refine l_icmp_gt rfl rfl (by unfold rg; omega) (by unfold rg; omega) (fun w3 => ?_) (fun w4 => ?_)
      · refine l_iconst rfl ?_
        refine l_ireturn rfl rfl ?_
        exact ⟨rfl, _, rfl, ⟨by omega, by omega⟩⟩
      · refine l_iload_n rfl rfl ?_
        refine l_iconst rfl ?_
        refine l_icmp_eq rfl rfl (by unfold rg; omega) (by unfold rg; omega) (fun w5 => ?_) (fun w6 => ?_)
        · refine l_iconst rfl ?_
          refine l_ireturn rfl rfl ?_
          exact ⟨rfl, _, rfl, ⟨by omega, by omega⟩⟩
        · refine l_iload_n rfl rfl ?_
          refine l_iload_n rfl rfl ?_
          refine l_icmp_ne rfl rfl (by unfold rg; omega) (by unfold rg; omega) (fun w7 => ?_) (fun w8 => ?_)
          · refine l_aload_n rfl rfl ?_
            refine l_gfr rfl rfl rfl rfl rfl (hH.r 904 21 919 rfl) ?_
            refine l_iload_n rfl rfl ?_
            refine l_iaload (n := 24) rfl rfl (by omega) (by omega) (by unfold rg; omega) ?_
            have w9 : 0 ≤ (Xi S 919 ((v3).toNat)) ∧ (Xi S 919 ((v3).toNat)) ≤ 5 := hH.c _ _
            refine l_if_ne rfl rfl (by unfold rg; omega) (fun w10 => ?_) (fun w11 => ?_)
            · refine l_aload_n rfl rfl ?_
              refine l_gfr rfl rfl rfl rfl rfl (hH.r 904 22 920 rfl) ?_
              refine l_iload_n rfl rfl ?_
              refine l_iaload (n := 24) rfl rfl (by omega) (by omega) (by unfold rg; omega) ?_
              have w12 : -1 ≤ (Xi S 920 ((v3).toNat)) ∧ (Xi S 920 ((v3).toNat)) ≤ 23 := hH.c _ _
              refine l_istore_n rfl rfl rfl ?_
              refine l_iinc rfl rfl rfl rfl ?_
              refine l_goto rfl rfl ?_
              exact Rl_weak (ih5 _ (by omega) ((Xi S 920 ((v3).toNat))) ((v4 + 1)) (by omega) (by omega) rfl) (And.intro rfl (And.intro rfl (And.intro rfl (And.intro rfl (True.intro)))))
            · refine l_iconst rfl ?_
              refine l_goto rfl rfl ?_
              refine l_istore_n rfl rfl rfl ?_
              refine l_iinc rfl rfl rfl rfl ?_
              refine l_goto rfl rfl ?_
              exact Rl_weak (ih5 _ (by omega) ((-1)) ((v4 + 1)) (by omega) (by omega) rfl) (And.intro rfl (And.intro rfl (And.intro rfl (And.intro rfl (True.intro)))))
          · refine l_iconst rfl ?_
            refine l_ireturn rfl rfl ?_
            exact ⟨rfl, _, rfl, ⟨by omega, by omega⟩⟩
  refine l_iload_n rfl rfl ?_
  refine l_istore_n rfl rfl rfl ?_
  refine l_iconst rfl ?_
  refine l_istore rfl rfl rfl ?_
  exact Rl_weak (C5 _ (o) (0) (by omega) (by omega) rfl) (And.intro rfl (And.intro rfl (And.intro rfl (And.intro rfl (True.intro)))))
abbrev Q_mo_rank (S : sS) (f : Int) : pst := fun r S1 => S = S1 ∧ (∃ z : Int, r = some (iv z) ∧ (0 ≤ z ∧ z ≤ 4))
set_option maxRecDepth 100000 in
theorem t_mo_rank {S : sS} (hH : HI S) (f : Int) (hf : -2147483648 ≤ f ∧ f ≤ 2147483647) (d : Nat) : Mt lay0 (d + 1) m_mo_rank [iv f] S (Q_mo_rank S f) := by
  refine Mt_R rfl rfl ?_
  refine l_iload_n rfl rfl ?_
  refine l_bipush rfl rfl ?_
  refine l_icmp_ne rfl rfl (by unfold rg; omega) (by unfold rg; omega) (fun w1 => ?_) (fun w2 => ?_)
  · refine l_iload_n rfl rfl ?_
    refine l_iconst rfl ?_
    refine l_icmp_ne rfl rfl (by unfold rg; omega) (by unfold rg; omega) (fun w3 => ?_) (fun w4 => ?_)
    · refine l_iload_n rfl rfl ?_
      refine l_iconst rfl ?_
      refine l_icmp_ne rfl rfl (by unfold rg; omega) (by unfold rg; omega) (fun w5 => ?_) (fun w6 => ?_)
      · refine l_iload_n rfl rfl ?_
        refine l_bipush rfl rfl ?_
        refine l_icmp_ne rfl rfl (by unfold rg; omega) (by unfold rg; omega) (fun w7 => ?_) (fun w8 => ?_)
        · refine l_iconst rfl ?_
          refine l_ireturn rfl rfl ?_
          exact ⟨rfl, _, rfl, ⟨by omega, by omega⟩⟩
        · refine l_iconst rfl ?_
          refine l_goto rfl rfl ?_
          refine l_ireturn rfl rfl ?_
          exact ⟨rfl, _, rfl, ⟨by omega, by omega⟩⟩
      · refine l_iconst rfl ?_
        refine l_goto rfl rfl ?_
        refine l_ireturn rfl rfl ?_
        exact ⟨rfl, _, rfl, ⟨by omega, by omega⟩⟩
    · refine l_iconst rfl ?_
      refine l_goto rfl rfl ?_
      refine l_ireturn rfl rfl ?_
      exact ⟨rfl, _, rfl, ⟨by omega, by omega⟩⟩
  · refine l_iconst rfl ?_
    refine l_goto rfl rfl ?_
    refine l_ireturn rfl rfl ?_
    exact ⟨rfl, _, rfl, ⟨by omega, by omega⟩⟩
abbrev Q_mo_endsTest (S : sS) (k : Int) (nw : Int) : pst := fun r S1 => S = S1 ∧ (∃ z : Int, r = some (iv z) ∧ (0 ≤ z ∧ z ≤ 1) ∧ (z = 0 → k ≠ 1 ∧ k ≠ 46))
set_option maxRecDepth 100000 in
theorem t_mo_endsTest {S : sS} (hH : HI S) (k : Int) (nw : Int) (hk : -2147483648 ≤ k ∧ k ≤ 2147483647) (hnw : 0 ≤ nw ∧ nw ≤ 1) (d : Nat) : Mt lay0 (d + 1) m_mo_endsTest [.ref 904, iv k, iv nw] S (Q_mo_endsTest S k nw) := by
  refine Mt_R rfl rfl ?_
  refine l_iload_n rfl rfl ?_
  refine l_bipush rfl rfl ?_
  refine l_icmp_eq rfl rfl (by unfold rg; omega) (by unfold rg; omega) (fun w1 => ?_) (fun w2 => ?_)
  · refine l_iconst rfl ?_
    refine l_goto rfl rfl ?_
    refine l_ireturn rfl rfl ?_
    exact ⟨rfl, _, rfl, ⟨by omega, by omega⟩, (by first | assumption | omega)⟩
  · refine l_iload_n rfl rfl ?_
    refine l_bipush rfl rfl ?_
    refine l_icmp_eq rfl rfl (by unfold rg; omega) (by unfold rg; omega) (fun w3 => ?_) (fun w4 => ?_)
    · refine l_iconst rfl ?_
      refine l_goto rfl rfl ?_
      refine l_ireturn rfl rfl ?_
      exact ⟨rfl, _, rfl, ⟨by omega, by omega⟩, (by first | assumption | omega)⟩
    · refine l_iload_n rfl rfl ?_
      refine l_iconst rfl ?_
      refine l_icmp_eq rfl rfl (by unfold rg; omega) (by unfold rg; omega) (fun w5 => ?_) (fun w6 => ?_)
      · refine l_iconst rfl ?_
        refine l_goto rfl rfl ?_
        refine l_ireturn rfl rfl ?_
        exact ⟨rfl, _, rfl, ⟨by omega, by omega⟩, (by first | assumption | omega)⟩
      · refine l_iload_n rfl rfl ?_
        refine l_if_ne rfl rfl (by unfold rg; omega) (fun w7 => ?_) (fun w8 => ?_)
        · refine l_iconst rfl ?_
          refine l_ireturn rfl rfl ?_
          exact ⟨rfl, _, rfl, ⟨by omega, by omega⟩, (by first | assumption | omega)⟩
        · refine l_iload_n rfl rfl ?_
          refine l_bipush rfl rfl ?_
          refine l_icmp_eq rfl rfl (by unfold rg; omega) (by unfold rg; omega) (fun w9 => ?_) (fun w10 => ?_)
          · refine l_iconst rfl ?_
            refine l_goto rfl rfl ?_
            refine l_ireturn rfl rfl ?_
            exact ⟨rfl, _, rfl, ⟨by omega, by omega⟩, (by first | assumption | omega)⟩
          · refine l_iload_n rfl rfl ?_
            refine l_bipush rfl rfl ?_
            refine l_icmp_ne rfl rfl (by unfold rg; omega) (by unfold rg; omega) (fun w11 => ?_) (fun w12 => ?_)
            · refine l_iconst rfl ?_
              refine l_ireturn rfl rfl ?_
              exact ⟨rfl, _, rfl, ⟨by omega, by omega⟩, (by first | assumption | omega)⟩
            · refine l_iconst rfl ?_
              refine l_goto rfl rfl ?_
              refine l_ireturn rfl rfl ?_
              exact ⟨rfl, _, rfl, ⟨by omega, by omega⟩, (by first | assumption | omega)⟩
def md_mo_clear : List rec := [(904, 905, 156, 157)]
abbrev Q_mo_clear (S : sS) : pst := fun r S1 => HI S1 ∧ FR md_mo_clear S S1 ∧ (∃ z : Int, r = some (iv z) ∧ (0 ≤ z ∧ z ≤ 2000) ∧ (z = Xi S 904 156 ∧ Xi S1 904 156 = 0))
set_option maxRecDepth 100000 in
theorem t_mo_clear {S : sS} (hH : HI S) (d : Nat) : Mt lay0 (d + 1) m_mo_clear [.ref 904] S (Q_mo_clear S) := by
  refine Mt_R rfl rfl ?_
  have hF : FR md_mo_clear S S := FR.rf
  have w1 : 0 ≤ Xi S 904 156 ∧ Xi S 904 156 ≤ 2000 := hH.c _ _
  refine l_aload_n rfl rfl ?_
  refine l_gfi rfl rfl rfl rfl rfl ?_
  refine l_istore_n rfl rfl rfl ?_
  refine l_aload_n rfl rfl ?_
  refine l_iconst rfl ?_
  refine l_pfi rfl rfl rfl rfl ?_
  obtain ⟨U1, eU1⟩ : ∃ T : sS, T = uI S 904 156 (Int32.ofInt 0) := ⟨_, rfl⟩
  rw [← eU1]
  have hHU1 : HI U1 := by rw [eU1]; exact HI_w hH (show 0 ≤ 0 by omega) (show 0 ≤ 2000 by omega)
  have hFU1 : FR md_mo_clear S U1 := by rw [eU1]; exact FR.wI hF (mdf_i (r := (904, 905, 156, 157)) (List.mem_of_getElem? (i := 0) rfl) (inR_i (by omega) (by omega) (by omega) (by omega)))
  have w2 : Xi U1 904 156 = 0 := by rw [eU1]; exact Xi_same (by unfold rg; omega)
  refine l_iload_n rfl rfl ?_
  refine l_ireturn rfl rfl ?_
  have w3 : 0 ≤ Xi U1 904 156 ∧ Xi U1 904 156 ≤ 2000 := hHU1.c _ _
  exact ⟨hHU1, hFU1, _, rfl, ⟨by omega, by omega⟩, (by first | assumption | omega)⟩
def md_mo_wipe : List rec := [(904, 905, 1, 2)]
abbrev Q_mo_wipe (S : sS) : pst := fun r S1 => HI S1 ∧ FR md_mo_wipe S S1 ∧ (∃ z : Int, r = some (iv z) ∧ (0 ≤ z ∧ z ≤ 5000) ∧ (z = Xi S 904 1 ∧ Xi S1 904 1 = 0))
set_option maxRecDepth 100000 in
theorem t_mo_wipe {S : sS} (hH : HI S) (d : Nat) : Mt lay0 (d + 1) m_mo_wipe [.ref 904] S (Q_mo_wipe S) := by
  refine Mt_R rfl rfl ?_
  have hF : FR md_mo_wipe S S := FR.rf
  have w1 : 0 ≤ Xi S 904 1 ∧ Xi S 904 1 ≤ 5000 := hH.c _ _
  refine l_aload_n rfl rfl ?_
  refine l_gfi rfl rfl rfl rfl rfl ?_
  refine l_istore_n rfl rfl rfl ?_
  refine l_aload_n rfl rfl ?_
  refine l_iconst rfl ?_
  refine l_pfi rfl rfl rfl rfl ?_
  obtain ⟨U1, eU1⟩ : ∃ T : sS, T = uI S 904 1 (Int32.ofInt 0) := ⟨_, rfl⟩
  rw [← eU1]
  have hHU1 : HI U1 := by rw [eU1]; exact HI_w hH (show 0 ≤ 0 by omega) (show 0 ≤ 5000 by omega)
  have hFU1 : FR md_mo_wipe S U1 := by rw [eU1]; exact FR.wI hF (mdf_i (r := (904, 905, 1, 2)) (List.mem_of_getElem? (i := 0) rfl) (inR_i (by omega) (by omega) (by omega) (by omega)))
  have w2 : Xi U1 904 1 = 0 := by rw [eU1]; exact Xi_same (by unfold rg; omega)
  refine l_iload_n rfl rfl ?_
  refine l_ireturn rfl rfl ?_
  have w3 : 0 ≤ Xi U1 904 1 ∧ Xi U1 904 1 ≤ 5000 := hHU1.c _ _
  exact ⟨hHU1, hFU1, _, rfl, ⟨by omega, by omega⟩, (by first | assumption | omega)⟩
def md_mo_numberOf : List rec := [(904, 905, 154, 155)]
abbrev Q_mo_numberOf (S : sS) (o : Int) (p : Int) : pst := fun r S1 => HI S1 ∧ FR md_mo_numberOf S S1 ∧ (∃ z : Int, r = some (iv z) ∧ (-2147483648 ≤ z ∧ z ≤ 2147483647) ∧ (Xi S 928 p.toNat = 1 → OKT z (Xi S1 904 154)))
set_option maxRecDepth 100000 in
theorem t_mo_numberOf {S : sS} (hH : HI S) (o : Int) (p : Int) (ho : 0 ≤ o ∧ o ≤ 23) (hp : 0 ≤ p ∧ p ≤ 11) (hB : ABV S) (hX : TXM S) (ho : o < Xi S 904 19) (d : Nat) : Mt lay0 (d + 1) m_mo_numberOf [.ref 904, iv o, iv p] S (Q_mo_numberOf S o p) := by
  refine Mt_R rfl rfl ?_
  have hF : FR md_mo_numberOf S S := FR.rf
  have w1 : -2147483648 ≤ Xi S 904 154 ∧ Xi S 904 154 ≤ 2147483647 := Xi_rgI
  have w2 : 0 ≤ Xi S 904 16 ∧ Xi S 904 16 ≤ 16 := hH.c _ _
  have w3 : 0 ≤ Xi S 904 19 ∧ Xi S 904 19 ≤ 24 := hH.c _ _
  have hk0 : Xi S 918 o.toNat < Xi S 904 16 := hX.1 o (by omega) ho
  have C53 : ∀ (n53 : Nat) (T1 : sS) (_ : HI T1) (_ : FR md_mo_numberOf S T1) (v3 : Int), (-1 ≤ v3 ∧ v3 ≤ 15) → (Xi T1 904 154 = 0) → (v3 < Xi S 904 16) → n53 = (v3 + 1).toNat → Rl lay0 (d + 0) m_mo_numberOf 53 [(0, .ref 904), (2, iv p), (3, iv v3)] [] T1 (Q_mo_numberOf S o p) := by
    intro n53
    induction n53 using Nat.strongRecOn with
    | ind n53 ih53 =>
      intro T1 hHT1 hFT1 v3 w4 w5 w6 hm53
      have w7 : Xi T1 904 16 = Xi S 904 16 := hFT1.x _ _ rfl
      have w8 : Xi T1 904 19 = Xi S 904 19 := hFT1.x _ _ rfl
      have w9 : -2147483648 ≤ Xi T1 904 154 ∧ Xi T1 904 154 ≤ 2147483647 := Xi_rgI
      have C110 : ∀ (n110 : Nat) (v3 : Int), (0 ≤ v3 ∧ v3 ≤ 64) → (Xi T1 904 154 = 0) → n110 = (65 - v3).toNat → Rl lay0 (d + 0) m_mo_numberOf 110 [(0, .ref 904), (2, iv p), (3, iv v3)] [] T1 (Q_mo_numberOf S o p) := by
        intro n110
        induction n110 using Nat.strongRecOn with
        | ind n110 ih110 =>
          intro v3 w10 w11 hm110
          have C151 : (Xi T1 904 154 = 0) → Rl lay0 (d + 0) m_mo_numberOf 151 [(0, .ref 904), (2, iv p)] [] T1 (Q_mo_numberOf S o p) := by
            intro w12
            refine l_aload_n rfl rfl ?_
            refine l_gfr rfl rfl rfl rfl rfl (hHT1.r 904 33 928 rfl) ?_
            refine l_iload_n rfl rfl ?_
            refine l_iaload (n := 12) rfl rfl (by omega) (by omega) (by unfold rg; omega) ?_
            have w13 : 0 ≤ (Xi T1 928 ((p).toNat)) ∧ (Xi T1 928 ((p).toNat)) ≤ 7 := hHT1.c _ _
            refine l_iconst rfl ?_
            refine l_icmp_le rfl rfl (by unfold rg; omega) (by unfold rg; omega) (fun w14 => ?_) (fun w15 => ?_)
            · refine l_iconst rfl ?_
              refine l_ireturn rfl rfl ?_
              exact ⟨hHT1, hFT1, _, rfl, ⟨by omega, by omega⟩, (by first | exact z44 | exact z96 | exact fun _ => Or.inl (by omega))⟩
            · refine l_iconst rfl ?_
              refine l_goto rfl rfl ?_
              refine l_ireturn rfl rfl ?_
              exact ⟨hHT1, hFT1, _, rfl, ⟨by omega, by omega⟩, (by first | exact z44 | exact z96 | exact fun _ => Or.inl (by omega))⟩
          refine l_iload_n rfl rfl ?_
          refine l_aload_n rfl rfl ?_
          refine l_gfi rfl rfl rfl rfl rfl ?_
          have w16 : 0 ≤ (Xi T1 904 30) ∧ (Xi T1 904 30) ≤ 64 := hHT1.c _ _
          refine l_icmp_ge rfl rfl (by unfold rg; omega) (by unfold rg; omega) (fun w17 => ?_) (fun w18 => ?_)
          · exact Rl_weak (C151  (by omega)) (And.intro rfl (And.intro rfl (True.intro)))
          · refine l_aload_n rfl rfl ?_
            refine l_gfr rfl rfl rfl rfl rfl (hHT1.r 904 33 928 rfl) ?_
            refine l_iload_n rfl rfl ?_
            refine l_iaload (n := 12) rfl rfl (by omega) (by omega) (by unfold rg; omega) ?_
            have w19 : 0 ≤ (Xi T1 928 ((p).toNat)) ∧ (Xi T1 928 ((p).toNat)) ≤ 7 := hHT1.c _ _
            refine l_iconst rfl ?_
            refine l_icmp_le rfl rfl (by unfold rg; omega) (by unfold rg; omega) (fun w20 => ?_) (fun w21 => ?_)
            · exact Rl_weak (C151  (by omega)) (And.intro rfl (And.intro rfl (True.intro)))
            · refine l_aload_n rfl rfl ?_
              refine l_gfr rfl rfl rfl rfl rfl (hHT1.r 904 31 927 rfl) ?_
              refine l_iload_n rfl rfl ?_
              refine l_iaload (n := 64) rfl rfl (by omega) (by omega) (by unfold rg; omega) ?_
              have w22 : 0 ≤ (Xi T1 927 ((v3).toNat)) ∧ (Xi T1 927 ((v3).toNat)) ≤ 7 := hHT1.c _ _
              refine l_aload_n rfl rfl ?_
              refine l_gfr rfl rfl rfl rfl rfl (hHT1.r 904 33 928 rfl) ?_
              refine l_iload_n rfl rfl ?_
              refine l_iaload (n := 12) rfl rfl (by omega) (by omega) (by unfold rg; omega) ?_
              refine l_icmp_ne rfl rfl (by unfold rg; omega) (by unfold rg; omega) (fun w23 => ?_) (fun w24 => ?_)
              · refine l_iinc rfl rfl rfl rfl ?_
                refine l_goto rfl rfl ?_
                exact Rl_weak (ih110 _ (by omega) ((v3 + 1)) (by omega) (by omega) rfl) (And.intro rfl (And.intro rfl (And.intro rfl (True.intro))))
              · refine l_iload_n rfl rfl ?_
                refine l_ireturn rfl rfl ?_
                exact ⟨hHT1, hFT1, _, rfl, ⟨by omega, by omega⟩, (by first | exact z44 | exact z96 | exact fun _ => Or.inl (by omega))⟩
      refine l_iload_n rfl rfl ?_
      refine l_if_lt rfl rfl (by unfold rg; omega) (fun w25 => ?_) (fun w26 => ?_)
      · refine l_iconst rfl ?_
        refine l_istore_n rfl rfl rfl ?_
        exact Rl_weak (C110 _ (0) (by omega) (by omega) rfl) (And.intro rfl (And.intro rfl (And.intro rfl (True.intro))))
      · refine l_aload_n rfl rfl ?_
        refine l_gfr rfl rfl rfl rfl rfl (hHT1.r 904 38 933 rfl) ?_
        refine l_bipush rfl rfl ?_
        refine l_iload_n rfl rfl ?_
        refine l_imul rfl ?_
        refine l_iload_n rfl rfl ?_
        refine l_iadd rfl ?_
        refine l_baload (n := 192) rfl rfl rfl (by decide) (by omega) (by omega) (by unfold rg; omega) ?_
        have w27 : 0 ≤ (Xi T1 933 ((((12 * v3) + p)).toNat)) ∧ (Xi T1 933 ((((12 * v3) + p)).toNat)) ≤ 1 := hHT1.c _ _
        have a67 : (Xi T1 933 ((((12 * v3) + p)).toNat)) = Xi S 933 (12 * v3 + p).toNat := (hFT1.cx 933 rfl _).1
        refine l_if_eq rfl rfl (by unfold rg; omega) (fun w28 => ?_) (fun w29 => ?_)
        · refine l_aload_n rfl rfl ?_
          refine l_gfr rfl rfl rfl rfl rfl (hHT1.r 904 17 917 rfl) ?_
          refine l_iload_n rfl rfl ?_
          refine l_iaload (n := 16) rfl rfl (by omega) (by omega) (by unfold rg; omega) ?_
          have w30 : -1 ≤ (Xi T1 917 ((v3).toNat)) ∧ (Xi T1 917 ((v3).toNat)) ≤ 15 := hHT1.c _ _
          have b103 : (Xi T1 917 ((v3).toNat)) < v3 := by have t := hB (v3).toNat (by omega); rw [(hFT1.cx 917 rfl _).1]; omega
          refine l_istore_n rfl rfl rfl ?_
          refine l_goto rfl rfl ?_
          exact Rl_weak (ih53 _ (by omega) T1 hHT1 hFT1 ((Xi T1 917 ((v3).toNat))) (by omega) (by omega) (by omega) rfl) (And.intro rfl (And.intro rfl (And.intro rfl (True.intro))))
        · refine l_aload_n rfl rfl ?_
          refine l_aload_n rfl rfl ?_
          refine l_gfr rfl rfl rfl rfl rfl (hHT1.r 904 40 935 rfl) ?_
          refine l_bipush rfl rfl ?_
          refine l_iload_n rfl rfl ?_
          refine l_imul rfl ?_
          refine l_iload_n rfl rfl ?_
          refine l_iadd rfl ?_
          refine l_iaload (n := 192) rfl rfl (by omega) (by omega) (by unfold rg; omega) ?_
          have w31 : -2147483648 ≤ (Xi T1 935 ((((12 * v3) + p)).toNat)) ∧ (Xi T1 935 ((((12 * v3) + p)).toNat)) ≤ 2147483647 := Xi_rgI
          have a82 : (Xi T1 935 ((((12 * v3) + p)).toNat)) = Xi S 935 (12 * v3 + p).toNat := (hFT1.cx 935 rfl _).1
          refine l_pfi rfl rfl rfl rfl ?_
          obtain ⟨U2, eU2⟩ : ∃ T : sS, T = uI T1 904 154 (Int32.ofInt (Xi T1 935 ((((12 * v3) + p)).toNat))) := ⟨_, rfl⟩
          rw [← eU2]
          have hHU2 : HI U2 := by rw [eU2]; exact HI_any hHT1 (rfl)
          have hFU2 : FR md_mo_numberOf S U2 := by rw [eU2]; exact FR.wI hFT1 (mdf_i (r := (904, 905, 154, 155)) (List.mem_of_getElem? (i := 0) rfl) (inR_i (by omega) (by omega) (by omega) (by omega)))
          have w32 : Xi U2 904 154 = (Xi T1 935 ((((12 * v3) + p)).toNat)) := by rw [eU2]; exact Xi_same (by unfold rg; omega)
          refine l_aload_n rfl rfl ?_
          refine l_gfr rfl rfl rfl rfl rfl (hHU2.r 904 39 934 rfl) ?_
          refine l_bipush rfl rfl ?_
          refine l_iload_n rfl rfl ?_
          refine l_imul rfl ?_
          refine l_iload_n rfl rfl ?_
          refine l_iadd rfl ?_
          refine l_iaload (n := 192) rfl rfl (by omega) (by omega) (by unfold rg; omega) ?_
          have w33 : -2147483648 ≤ (Xi U2 934 ((((12 * v3) + p)).toNat)) ∧ (Xi U2 934 ((((12 * v3) + p)).toNat)) ≤ 2147483647 := Xi_rgI
          have a96 : (Xi U2 934 ((((12 * v3) + p)).toNat)) = Xi S 934 (12 * v3 + p).toNat := (hFU2.cx 934 rfl _).1
          have z96 : Xi S 928 p.toNat = 1 → OKT (Xi U2 934 ((((12 * v3) + p)).toNat)) (Xi U2 904 154) := fun q => okt_2 ((hX.2.2 v3 p (by omega) (by omega) (by omega) (by omega) (by omega)).2 q) a96 (by omega)
          refine l_ireturn rfl rfl ?_
          exact ⟨hHU2, hFU2, _, rfl, ⟨by omega, by omega⟩, (by first | exact z44 | exact z96 | exact fun _ => Or.inl (by omega))⟩
  refine l_aload_n rfl rfl ?_
  refine l_iconst rfl ?_
  refine l_pfi rfl rfl rfl rfl ?_
  obtain ⟨U3, eU3⟩ : ∃ T : sS, T = uI S 904 154 (Int32.ofInt 0) := ⟨_, rfl⟩
  rw [← eU3]
  have hHU3 : HI U3 := by rw [eU3]; exact HI_any hH (rfl)
  have hFU3 : FR md_mo_numberOf S U3 := by rw [eU3]; exact FR.wI hF (mdf_i (r := (904, 905, 154, 155)) (List.mem_of_getElem? (i := 0) rfl) (inR_i (by omega) (by omega) (by omega) (by omega)))
  have w34 : Xi U3 904 154 = 0 := by rw [eU3]; exact Xi_same (by unfold rg; omega)
  refine l_aload_n rfl rfl ?_
  refine l_gfr rfl rfl rfl rfl rfl (hHU3.r 904 35 930 rfl) ?_
  refine l_bipush rfl rfl ?_
  refine l_iload_n rfl rfl ?_
  refine l_imul rfl ?_
  refine l_iload_n rfl rfl ?_
  refine l_iadd rfl ?_
  refine l_baload (n := 288) rfl rfl rfl (by decide) (by omega) (by omega) (by unfold rg; omega) ?_
  have w35 : 0 ≤ (Xi U3 930 ((((12 * o) + p)).toNat)) ∧ (Xi U3 930 ((((12 * o) + p)).toNat)) ≤ 1 := hHU3.c _ _
  have a15 : (Xi U3 930 ((((12 * o) + p)).toNat)) = Xi S 930 (12 * o + p).toNat := (hFU3.cx 930 rfl _).1
  refine l_if_eq rfl rfl (by unfold rg; omega) (fun w36 => ?_) (fun w37 => ?_)
  · refine l_aload_n rfl rfl ?_
    refine l_gfr rfl rfl rfl rfl rfl (hHU3.r 904 20 918 rfl) ?_
    refine l_iload_n rfl rfl ?_
    refine l_iaload (n := 24) rfl rfl (by omega) (by omega) (by unfold rg; omega) ?_
    have w38 : 0 ≤ (Xi U3 918 ((o).toNat)) ∧ (Xi U3 918 ((o).toNat)) ≤ 15 := hHU3.c _ _
    have a51 : (Xi U3 918 ((o).toNat)) = Xi S 918 o.toNat := (hFU3.cx 918 rfl _).1
    refine l_istore_n rfl rfl rfl ?_
    exact Rl_weak (C53 _ U3 hHU3 hFU3 ((Xi U3 918 ((o).toNat))) (by omega) (by omega) (by omega) rfl) (And.intro rfl (And.intro rfl (And.intro rfl (True.intro))))
  · refine l_aload_n rfl rfl ?_
    refine l_aload_n rfl rfl ?_
    refine l_gfr rfl rfl rfl rfl rfl (hHU3.r 904 37 932 rfl) ?_
    refine l_bipush rfl rfl ?_
    refine l_iload_n rfl rfl ?_
    refine l_imul rfl ?_
    refine l_iload_n rfl rfl ?_
    refine l_iadd rfl ?_
    refine l_iaload (n := 288) rfl rfl (by omega) (by omega) (by unfold rg; omega) ?_
    have w39 : -2147483648 ≤ (Xi U3 932 ((((12 * o) + p)).toNat)) ∧ (Xi U3 932 ((((12 * o) + p)).toNat)) ≤ 2147483647 := Xi_rgI
    have a30 : (Xi U3 932 ((((12 * o) + p)).toNat)) = Xi S 932 (12 * o + p).toNat := (hFU3.cx 932 rfl _).1
    refine l_pfi rfl rfl rfl rfl ?_
    obtain ⟨U4, eU4⟩ : ∃ T : sS, T = uI U3 904 154 (Int32.ofInt (Xi U3 932 ((((12 * o) + p)).toNat))) := ⟨_, rfl⟩
    rw [← eU4]
    have hHU4 : HI U4 := by rw [eU4]; exact HI_any hHU3 (rfl)
    have hFU4 : FR md_mo_numberOf S U4 := by rw [eU4]; exact FR.wI hFU3 (mdf_i (r := (904, 905, 154, 155)) (List.mem_of_getElem? (i := 0) rfl) (inR_i (by omega) (by omega) (by omega) (by omega)))
    have w40 : Xi U4 904 154 = (Xi U3 932 ((((12 * o) + p)).toNat)) := by rw [eU4]; exact Xi_same (by unfold rg; omega)
    refine l_aload_n rfl rfl ?_
    refine l_gfr rfl rfl rfl rfl rfl (hHU4.r 904 36 931 rfl) ?_
    refine l_bipush rfl rfl ?_
    refine l_iload_n rfl rfl ?_
    refine l_imul rfl ?_
    refine l_iload_n rfl rfl ?_
    refine l_iadd rfl ?_
    refine l_iaload (n := 288) rfl rfl (by omega) (by omega) (by unfold rg; omega) ?_
    have w41 : -2147483648 ≤ (Xi U4 931 ((((12 * o) + p)).toNat)) ∧ (Xi U4 931 ((((12 * o) + p)).toNat)) ≤ 2147483647 := Xi_rgI
    have a44 : (Xi U4 931 ((((12 * o) + p)).toNat)) = Xi S 931 (12 * o + p).toNat := (hFU4.cx 931 rfl _).1
    have z44 : Xi S 928 p.toNat = 1 → OKT (Xi U4 931 ((((12 * o) + p)).toNat)) (Xi U4 904 154) := fun q => okt_2 ((hX.2.1 o p (by omega) ho (by omega) (by omega) (by omega)).2 q) a44 (by omega)
    refine l_ireturn rfl rfl ?_
    exact ⟨hHU4, hFU4, _, rfl, ⟨by omega, by omega⟩, (by first | exact z44 | exact z96 | exact fun _ => Or.inl (by omega))⟩
def md_mo_property_2 : List rec := [(904, 905, 154, 155)]
abbrev Q_mo_property_2 (S : sS) (o : Int) (p : Int) : pst := fun r S1 => HI S1 ∧ FR md_mo_property_2 S S1 ∧ (∃ z : Int, r = some (iv z) ∧ (-2147483648 ≤ z ∧ z ≤ 2147483647))
def md_mo_letter : List rec := [(904, 905, 154, 155)]
abbrev Q_mo_letter (S : sS) (o : Int) (p : Int) (k : Int) : pst := fun r S1 => HI S1 ∧ FR md_mo_letter S S1 ∧ (∃ z : Int, r = some (iv z) ∧ (-1 ≤ z ∧ z ≤ 255))
