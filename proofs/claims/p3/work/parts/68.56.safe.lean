/-! SAFETY of methods: printed by wip/safe (vc.py, decl.py) -/
/-! SAFETY of the reference: words, tests, rules as turns want them -/
def cM (S : sS) (s : Int) : Int := if s = 0 ∨ s = 1 then Xi S 904 16 else if s = 2 ∨ s = 3 then Xi S 904 18 else if s = 4 then Xi S 904 19 else if s = 5 then Xi S 904 23 else if s = 6 then Xi S 904 30 else if s = 7 then Xi S 904 32 else if s = 8 then Xi S 904 41 else if s = 9 ∨ s = 10 then Xi S 904 47 else if s = 11 then Xi S 904 49 else 6
def LXM (S : sS) : Prop := ∀ k : Nat, (k : Int) < Xi S 904 15 → Xi S 915 k < cM S (Xi S 914 k)
theorem lxm {S : sS} {k s : Int} (h : LXM S) (h0 : 0 ≤ k) (hk : k < Xi S 904 15) (hs : Xi S 914 k.toNat = s) : Xi S 915 k.toNat < cM S s := by
  have t := h k.toNat (by omega)
  rw [hs] at t
  exact t
theorem cM0 {S : sS} : cM S 0 = Xi S 904 16 := rfl
theorem cM1 {S : sS} : cM S 1 = Xi S 904 16 := rfl
theorem cM2 {S : sS} : cM S 2 = Xi S 904 18 := rfl
theorem cM3 {S : sS} : cM S 3 = Xi S 904 18 := rfl
theorem cM4 {S : sS} : cM S 4 = Xi S 904 19 := rfl
theorem cM5 {S : sS} : cM S 5 = Xi S 904 23 := rfl
theorem cM6 {S : sS} : cM S 6 = Xi S 904 30 := rfl
theorem cM7 {S : sS} : cM S 7 = Xi S 904 32 := rfl
theorem cM8 {S : sS} : cM S 8 = Xi S 904 41 := rfl
theorem cM9 {S : sS} : cM S 9 = Xi S 904 47 := rfl
theorem cM10 {S : sS} : cM S 10 = Xi S 904 47 := rfl
theorem cM11 {S : sS} : cM S 11 = Xi S 904 49 := rfl
theorem cM12 {S : sS} : cM S 12 = 6 := rfl
def jLX : List Nat := [15, 16, 18, 19, 23, 30, 32, 41, 47, 49]
theorem LXM_FR {l : List rec} {S T : sS} (h : FR l S T) (e : (kdis l [(914, 916)] && mD l jLX) = true) (hL : LXM S) : LXM T := by
  rw [Bool.and_eq_true] at e
  have k := h.smk e.1
  intro i hi
  have c : ∀ s, cM T s = cM S s := fun s => by
    unfold cM
    rw [mD_x h e.2 16 (by decide), mD_x h e.2 18 (by decide), mD_x h e.2 19 (by decide), mD_x h e.2 23 (by decide), mD_x h e.2 30 (by decide), mD_x h e.2 32 (by decide), mD_x h e.2 41 (by decide), mD_x h e.2 47 (by decide), mD_x h e.2 49 (by decide)]
  rw [mD_x h e.2 15 (by decide)] at hi
  rw [c, k.x 914 rfl, k.x 915 rfl]
  exact hL i hi
def thK (S : sS) (b c : Prop) (x : Int) : Prop := (0 ≤ x ∧ x < Xi S 904 19) ∨ (x = -1 ∧ b) ∨ (x = -2 ∧ c)
def ADM (S : sS) (a : Int) : Prop := (0 ≤ a ∧ a < Xi S 904 23) ∨ (100 ≤ a ∧ a % 100 < Xi S 904 32 ∧ a ≤ 6411)
def TQ (S : sS) (b c : Prop) (q : Nat) : Prop := thK S b c (Xi S 971 q) ∧ (Xi S 969 q = 5 → thK S b c (Xi S 975 q) ∧ 0 ≤ Xi S 972 q ∧ Xi S 972 q ≤ 5) ∧ (Xi S 969 q = 3 → ADM S (Xi S 973 q)) ∧ (Xi S 969 q ≤ 2 → 0 ≤ Xi S 972 q ∧ Xi S 972 q < Xi S 904 32) ∧ (Xi S 969 q = 0 → OKT (Xi S 973 q) (Xi S 974 q))
def DEFM (S : sS) : Prop := ∀ a : Nat, (a : Int) < Xi S 904 23 → 0 < Xi S 924 a → Xi S 923 a + Xi S 924 a ≤ 2400 ∧ ∀ k : Nat, (k : Int) < Xi S 924 a → TQ S True False ((Xi S 923 a).toNat + k)
def kQ : List (Nat × Nat) := [(969, 976), (923, 925)]
theorem TQ_FR {l : List rec} {S T : sS} {b c : Prop} {q : Nat} (h : FR l S T) (e : (kdis l kQ && mD l [19, 23, 32]) = true) (ht : TQ S b c q) : TQ T b c q := by
  rw [Bool.and_eq_true] at e
  have k := h.smk e.1
  unfold TQ ADM thK
  rw [mD_x h e.2 23 (by decide), mD_x h e.2 19 (by decide), mD_x h e.2 32 (by decide), k.x 969 rfl, k.x 971 rfl, k.x 972 rfl, k.x 973 rfl, k.x 974 rfl, k.x 975 rfl]
  exact ht
theorem DEFM_FR {l : List rec} {S T : sS} (h : FR l S T) (e : (kdis l kQ && mD l [19, 23, 32]) = true) (hD : DEFM S) : DEFM T := by
  have e0 := e
  rw [Bool.and_eq_true] at e
  have k := h.smk e.1
  intro a ha hp
  rw [mD_x h e.2 23 (by decide)] at ha
  rw [k.x 924 rfl] at hp
  rw [k.x 923 rfl, k.x 924 rfl]
  obtain ⟨x, y⟩ := hD a ha hp
  exact ⟨x, fun i hi => TQ_FR h e0 (y i hi)⟩
theorem thk_i {S : sS} {b c : Prop} {x it noun z : Int} (h : thK S b c x) (hb : b → 0 ≤ it) (hc : c → 0 ≤ noun) (h1 : it < Xi S 904 19) (h2 : noun < Xi S 904 19) (hz : (x = -1 → z = it) ∧ (x = -2 → z = noun) ∧ (x ≠ -1 → x ≠ -2 → z = x)) : 0 ≤ z ∧ z < Xi S 904 19 := by
  rcases h with h | ⟨h, e⟩ | ⟨h, e⟩
  · omega
  · have := hb e; omega
  · have := hc e; omega
theorem TQ.mono {S : sS} {b c b2 c2 : Prop} {q : Nat} (hb : b → b2) (hc : c → c2) (h : TQ S b c q) : TQ S b2 c2 q := by
  have m : ∀ {x : Int}, thK S b c x → thK S b2 c2 x := fun t => t.elim Or.inl (fun u => u.elim (fun v => Or.inr (Or.inl ⟨v.1, hb v.2⟩)) (fun v => Or.inr (Or.inr ⟨v.1, hc v.2⟩)))
  exact ⟨m h.1, fun e => ⟨m (h.2.1 e).1, (h.2.1 e).2⟩, h.2.2⟩
theorem tq_at {S : sS} {c : Prop} {b : Prop} {a i q : Int} (h : DEFM S) (h0 : 0 ≤ a) (ha : a < Xi S 904 23) (hp : 0 < Xi S 924 a.toNat) (hi : 0 ≤ i) (hi2 : i < Xi S 924 a.toNat) (hf : 0 ≤ Xi S 923 a.toNat) (hq : q = Xi S 923 a.toNat + i) (hb : b) : TQ S b c q.toNat := by
  have t := (h a.toNat (by omega) hp).2 i.toNat (by omega)
  rw [show (Xi S 923 a.toNat).toNat + i.toNat = q.toNat by omega] at t
  exact t.mono (fun _ => hb) (fun f => f.elim)
abbrev Q_mo_isSameText (S : sS) (a : Int) (n : Int) (b : Int) (m : Int) : pst := fun r S1 => S = S1 ∧ (∃ z : Int, r = some (iv z) ∧ (0 ≤ z ∧ z ≤ 1))
set_option maxRecDepth 100000 in
theorem t_mo_isSameText {S : sS} (hH : HI S) (a : Int) (n : Int) (b : Int) (m : Int) (ha : -2147483648 ≤ a ∧ a ≤ 2147483647) (hn : -2147483648 ≤ n ∧ n ≤ 2147483647) (hb : -2147483648 ≤ b ∧ b ≤ 2147483647) (hm : -2147483648 ≤ m ∧ m ≤ 2147483647) (hA : OKT a n) (hB2 : OKT b m) (d : Nat) : Mt lay0 (d + 1) m_mo_isSameText [.ref 904, iv a, iv n, iv b, iv m] S (Q_mo_isSameText S a n b m) := by
  refine Mt_R rfl rfl ?_
  have ha5 : n = 0 ∨ (0 < n ∧ 0 ≤ a ∧ a + n ≤ 5000) := hA
  have hb5 : m = 0 ∨ (0 < m ∧ 0 ≤ b ∧ b + m ≤ 5000) := hB2
  have C16 : ∀ (n16 : Nat) (v5 : Int) (v6 : Int), (0 ≤ v5 ∧ v5 ≤ 1) → (0 ≤ v6 ∧ v6 ≤ 5000) → (v5 ≠ 0 → n = m) → n16 = (5001 - v6).toNat → Rl lay0 (d + 0) m_mo_isSameText 16 [(0, .ref 904), (1, iv a), (2, iv n), (3, iv b), (5, iv v5), (6, iv v6)] [] S (Q_mo_isSameText S a n b m) := by
    intro n16
    induction n16 using Nat.strongRecOn with
    | ind n16 ih16 =>
      intro v5 v6 w1 w2 w3 hm16
      refine l_iload rfl rfl ?_
      refine l_iload_n rfl rfl ?_
      refine l_icmp_ge rfl rfl (by unfold rg; omega) (by unfold rg; omega) (fun w4 => ?_) (fun w5 => ?_)
      · refine l_iload rfl rfl ?_
        refine l_ireturn rfl (retI_z (by omega)) ?_
        exact ⟨rfl, _, rfl, ⟨by omega, by omega⟩⟩
      · refine l_iload rfl rfl ?_
        refine l_if_eq rfl rfl (by unfold rg; omega) (fun w6 => ?_) (fun w7 => ?_)
        · refine l_iload rfl rfl ?_
          refine l_ireturn rfl (retI_z (by omega)) ?_
          exact ⟨rfl, _, rfl, ⟨by omega, by omega⟩⟩
        · refine l_aload_n rfl rfl ?_
          refine l_gfr rfl rfl rfl rfl rfl (hH.r 904 2 906 rfl) ?_
          refine l_iload_n rfl rfl ?_
          refine l_iload rfl rfl ?_
          refine l_iadd rfl ?_
          refine l_baload (n := 5000) rfl rfl rfl (by decide) (by omega) (by omega) (by unfold rg; omega) ?_
          have w8 : -128 ≤ (Xi S 906 (((a + v6)).toNat)) ∧ (Xi S 906 (((a + v6)).toNat)) ≤ 127 := hH.c _ _
          refine l_aload_n rfl rfl ?_
          refine l_gfr rfl rfl rfl rfl rfl (hH.r 904 2 906 rfl) ?_
          refine l_iload_n rfl rfl ?_
          refine l_iload rfl rfl ?_
          refine l_iadd rfl ?_
          refine l_baload (n := 5000) rfl rfl rfl (by decide) (by omega) (by omega) (by unfold rg; omega) ?_
          have w9 : -128 ≤ (Xi S 906 (((b + v6)).toNat)) ∧ (Xi S 906 (((b + v6)).toNat)) ≤ 127 := hH.c _ _
          refine l_icmp_ne rfl rfl (by unfold rg; omega) (by unfold rg; omega) (fun w10 => ?_) (fun w11 => ?_)
          · refine l_iconst rfl ?_
            refine l_istore rfl rfl rfl ?_
            refine l_iinc rfl rfl rfl rfl ?_
            refine l_goto rfl rfl ?_
            exact Rl_weak (ih16 _ (by omega) (0) ((v6 + 1)) (by omega) (by omega) (by omega) rfl) (And.intro rfl (And.intro rfl (And.intro rfl (And.intro rfl (And.intro rfl (And.intro rfl (True.intro)))))))
          · refine l_iconst rfl ?_
            refine l_goto rfl rfl ?_
            refine l_istore rfl rfl rfl ?_
            refine l_iinc rfl rfl rfl rfl ?_
            refine l_goto rfl rfl ?_
            exact Rl_weak (ih16 _ (by omega) (1) ((v6 + 1)) (by omega) (by omega) (by omega) rfl) (And.intro rfl (And.intro rfl (And.intro rfl (And.intro rfl (And.intro rfl (And.intro rfl (True.intro)))))))
  refine l_iload_n rfl rfl ?_
  refine l_iload rfl rfl ?_
  refine l_icmp_ne rfl rfl (by unfold rg; omega) (by unfold rg; omega) (fun w12 => ?_) (fun w13 => ?_)
  · refine l_iconst rfl ?_
    refine l_istore rfl rfl rfl ?_
    refine l_iconst rfl ?_
    refine l_istore rfl rfl rfl ?_
    exact Rl_weak (C16 _ (0) (0) (by omega) (by omega) (by omega) rfl) (And.intro rfl (And.intro rfl (And.intro rfl (And.intro rfl (And.intro rfl (And.intro rfl (True.intro)))))))
  · refine l_iconst rfl ?_
    refine l_goto rfl rfl ?_
    refine l_istore rfl rfl rfl ?_
    refine l_iconst rfl ?_
    refine l_istore rfl rfl rfl ?_
    exact Rl_weak (C16 _ (1) (0) (by omega) (by omega) (by omega) rfl) (And.intro rfl (And.intro rfl (And.intro rfl (And.intro rfl (And.intro rfl (And.intro rfl (True.intro)))))))
abbrev Q_mo_kindOfThing (S : sS) (th : Int) : pst := fun r S1 => S = S1 ∧ (∃ z : Int, r = some (iv z) ∧ (-1 ≤ z ∧ z ≤ 15))
set_option maxRecDepth 100000 in
theorem t_mo_kindOfThing {S : sS} (hH : HI S) (th : Int) (hth : -9 ≤ th ∧ th ≤ 23) (ht : th ≠ -9 → -2 ≤ th) (d : Nat) : Mt lay0 (d + 1) m_mo_kindOfThing [.ref 904, iv th] S (Q_mo_kindOfThing S th) := by
  refine Mt_R rfl rfl ?_
  refine l_iload_n rfl rfl ?_
  refine l_iconst rfl ?_
  refine l_icmp_ne rfl rfl (by unfold rg; omega) (by unfold rg; omega) (fun w1 => ?_) (fun w2 => ?_)
  · refine l_iload_n rfl rfl ?_
    refine l_bipush rfl rfl ?_
    refine l_icmp_ne rfl rfl (by unfold rg; omega) (by unfold rg; omega) (fun w3 => ?_) (fun w4 => ?_)
    · refine l_iload_n rfl rfl ?_
      refine l_bipush rfl rfl ?_
      refine l_icmp_ne rfl rfl (by unfold rg; omega) (by unfold rg; omega) (fun w5 => ?_) (fun w6 => ?_)
      · refine l_aload_n rfl rfl ?_
        refine l_gfr rfl rfl rfl rfl rfl (hH.r 904 20 918 rfl) ?_
        refine l_iload_n rfl rfl ?_
        refine l_iaload (n := 24) rfl rfl (by omega) (by omega) (by unfold rg; omega) ?_
        have w7 : 0 ≤ (Xi S 918 ((th).toNat)) ∧ (Xi S 918 ((th).toNat)) ≤ 15 := hH.c _ _
        refine l_ireturn rfl rfl ?_
        exact ⟨rfl, _, rfl, ⟨by omega, by omega⟩⟩
      · refine l_iconst rfl ?_
        refine l_goto rfl rfl ?_
        refine l_ireturn rfl rfl ?_
        exact ⟨rfl, _, rfl, ⟨by omega, by omega⟩⟩
    · refine l_aload_n rfl rfl ?_
      refine l_gfi rfl rfl rfl rfl rfl ?_
      have w8 : -1 ≤ (Xi S 904 116) ∧ (Xi S 904 116) ≤ 15 := hH.c _ _
      refine l_goto rfl rfl ?_
      refine l_ireturn rfl rfl ?_
      exact ⟨rfl, _, rfl, ⟨by omega, by omega⟩⟩
  · refine l_aload_n rfl rfl ?_
    refine l_gfi rfl rfl rfl rfl rfl ?_
    have w9 : -1 ≤ (Xi S 904 115) ∧ (Xi S 904 115) ≤ 15 := hH.c _ _
    refine l_goto rfl rfl ?_
    refine l_ireturn rfl rfl ?_
    exact ⟨rfl, _, rfl, ⟨by omega, by omega⟩⟩
abbrev Q_mo_foundIn (S : sS) (from_ : Int) (n : Int) : pst := fun r S1 => S = S1 ∧ (∃ z : Int, r = some (iv z) ∧ (-1 ≤ z ∧ z ≤ 299) ∧ (z ≠ -1 → z < Xi S 904 15))
set_option maxRecDepth 100000 in
theorem t_mo_foundIn {S : sS} (hH : HI S) (from_ : Int) (n : Int) (hfrom_ : 0 ≤ from_ ∧ from_ ≤ 64) (hn : -64 ≤ n ∧ n ≤ 64) (hn : from_ + n ≤ 64) (d : Nat) : Mt lay0 (d + 2) m_mo_foundIn [.ref 904, iv from_, iv n] S (Q_mo_foundIn S from_ n) := by
  refine Mt_R rfl rfl ?_
  have w1 : 0 ≤ Xi S 904 15 ∧ Xi S 904 15 ≤ 300 := hH.c _ _
  have C2 : ∀ (n2 : Nat) (v3 : Int), (0 ≤ v3 ∧ v3 ≤ 64) → n2 = (65 - v3).toNat → Rl lay0 (d + 1) m_mo_foundIn 2 [(0, .ref 904), (1, iv from_), (2, iv n), (3, iv v3)] [] S (Q_mo_foundIn S from_ n) := by
    intro n2
    induction n2 using Nat.strongRecOn with
    | ind n2 ih2 =>
      intro v3 w2 hm2
      refine l_iload_n rfl rfl ?_
      refine l_iload_n rfl rfl ?_
      refine l_icmp_ge rfl rfl (by unfold rg; omega) (by unfold rg; omega) (fun w3 => ?_) (fun w4 => ?_)
      · refine l_iload_n rfl rfl ?_
        refine l_iconst rfl ?_
        refine l_icmp_lt rfl rfl (by unfold rg; omega) (by unfold rg; omega) (fun w5 => ?_) (fun w6 => ?_)
        · refine l_iconst rfl ?_
          refine l_goto rfl rfl ?_
          refine l_ireturn rfl rfl ?_
          exact ⟨rfl, _, rfl, ⟨by omega, by omega⟩, (by first | assumption | omega)⟩
        · refine l_iload_n rfl rfl ?_
          refine l_iconst rfl ?_
          refine l_icmp_le rfl rfl (by unfold rg; omega) (by unfold rg; omega) (fun w7 => ?_) (fun w8 => ?_)
          · refine l_aload_n rfl rfl ?_
            refine l_aload_n rfl rfl ?_
            refine l_gfr rfl rfl rfl rfl rfl (hH.r 904 159 994 rfl) ?_
            refine l_iload_n rfl rfl ?_
            refine l_laload (n := 64) rfl rfl (by omega) (by omega) (by unfold rg; omega) ?_
            have w9 : -9223372036854775808 ≤ (Xj S 994 ((from_).toNat)) ∧ (Xj S 994 ((from_).toNat)) < 9223372036854775808 := Xj_rg
            refine l_iload_n rfl rfl ?_
            refine l_iconst rfl ?_
            refine l_icmp_le rfl rfl (by unfold rg; omega) (by unfold rg; omega) (fun w10 => ?_) (fun w11 => ?_)
            · refine l_lconst (z := 0) rfl rfl ?_
              refine l_iload_n rfl rfl ?_
              refine l_iconst rfl ?_
              refine l_icmp_le rfl rfl (by unfold rg; omega) (by unfold rg; omega) (fun w12 => ?_) (fun w13 => ?_)
              · refine l_lconst (z := 0) rfl rfl ?_
                refine l_iload_n rfl rfl ?_
                have w14 : 0 ≤ Xi S 904 15 ∧ Xi S 904 15 ≤ 300 := hH.c _ _
                refine l_callV rfl rfl rfl (t_mo_find hH (Xj S 994 ((from_).toNat)) 0 0 n ⟨by omega, by omega⟩ _) ?_
                rintro _ _ ⟨rfl, z16, rfl, w16, w15⟩
                show Rl _ _ _ _ _ [iv z16] _ _
                refine l_ireturn rfl rfl ?_
                exact ⟨rfl, _, rfl, ⟨by omega, by omega⟩, (by first | assumption | omega)⟩
              · refine l_aload_n rfl rfl ?_
                refine l_gfr rfl rfl rfl rfl rfl (hH.r 904 159 994 rfl) ?_
                refine l_iload_n rfl rfl ?_
                refine l_iconst rfl ?_
                refine l_iadd rfl ?_
                refine l_laload (n := 64) rfl rfl (by omega) (by omega) (by unfold rg; omega) ?_
                have w17 : -9223372036854775808 ≤ (Xj S 994 (((from_ + 2)).toNat)) ∧ (Xj S 994 (((from_ + 2)).toNat)) < 9223372036854775808 := Xj_rg
                refine l_goto rfl rfl ?_
                refine l_iload_n rfl rfl ?_
                have w18 : 0 ≤ Xi S 904 15 ∧ Xi S 904 15 ≤ 300 := hH.c _ _
                refine l_callV rfl rfl rfl (t_mo_find hH (Xj S 994 ((from_).toNat)) 0 (Xj S 994 (((from_ + 2)).toNat)) n ⟨by omega, by omega⟩ _) ?_
                rintro _ _ ⟨rfl, z20, rfl, w20, w19⟩
                show Rl _ _ _ _ _ [iv z20] _ _
                refine l_ireturn rfl rfl ?_
                exact ⟨rfl, _, rfl, ⟨by omega, by omega⟩, (by first | assumption | omega)⟩
            · refine l_aload_n rfl rfl ?_
              refine l_gfr rfl rfl rfl rfl rfl (hH.r 904 159 994 rfl) ?_
              refine l_iload_n rfl rfl ?_
              refine l_iconst rfl ?_
              refine l_iadd rfl ?_
              refine l_laload (n := 64) rfl rfl (by omega) (by omega) (by unfold rg; omega) ?_
              have w21 : -9223372036854775808 ≤ (Xj S 994 (((from_ + 1)).toNat)) ∧ (Xj S 994 (((from_ + 1)).toNat)) < 9223372036854775808 := Xj_rg
              refine l_goto rfl rfl ?_
              refine l_iload_n rfl rfl ?_
              refine l_iconst rfl ?_
              refine l_icmp_le rfl rfl (by unfold rg; omega) (by unfold rg; omega) (fun w22 => ?_) (fun w23 => ?_)
              · refine l_lconst (z := 0) rfl rfl ?_
                refine l_iload_n rfl rfl ?_
                have w24 : 0 ≤ Xi S 904 15 ∧ Xi S 904 15 ≤ 300 := hH.c _ _
                refine l_callV rfl rfl rfl (t_mo_find hH (Xj S 994 ((from_).toNat)) (Xj S 994 (((from_ + 1)).toNat)) 0 n ⟨by omega, by omega⟩ _) ?_
                rintro _ _ ⟨rfl, z26, rfl, w26, w25⟩
                show Rl _ _ _ _ _ [iv z26] _ _
                refine l_ireturn rfl rfl ?_
                exact ⟨rfl, _, rfl, ⟨by omega, by omega⟩, (by first | assumption | omega)⟩
              · refine l_aload_n rfl rfl ?_
                refine l_gfr rfl rfl rfl rfl rfl (hH.r 904 159 994 rfl) ?_
                refine l_iload_n rfl rfl ?_
                refine l_iconst rfl ?_
                refine l_iadd rfl ?_
                refine l_laload (n := 64) rfl rfl (by omega) (by omega) (by unfold rg; omega) ?_
                have w27 : -9223372036854775808 ≤ (Xj S 994 (((from_ + 2)).toNat)) ∧ (Xj S 994 (((from_ + 2)).toNat)) < 9223372036854775808 := Xj_rg
                refine l_goto rfl rfl ?_
                refine l_iload_n rfl rfl ?_
                have w28 : 0 ≤ Xi S 904 15 ∧ Xi S 904 15 ≤ 300 := hH.c _ _
                refine l_callV rfl rfl rfl (t_mo_find hH (Xj S 994 ((from_).toNat)) (Xj S 994 (((from_ + 1)).toNat)) (Xj S 994 (((from_ + 2)).toNat)) n ⟨by omega, by omega⟩ _) ?_
                rintro _ _ ⟨rfl, z30, rfl, w30, w29⟩
                show Rl _ _ _ _ _ [iv z30] _ _
                refine l_ireturn rfl rfl ?_
                exact ⟨rfl, _, rfl, ⟨by omega, by omega⟩, (by first | assumption | omega)⟩
          · refine l_iconst rfl ?_
            refine l_goto rfl rfl ?_
            refine l_ireturn rfl rfl ?_
            exact ⟨rfl, _, rfl, ⟨by omega, by omega⟩, (by first | assumption | omega)⟩
      · refine l_aload_n rfl rfl ?_
        refine l_aload_n rfl rfl ?_
        refine l_gfr rfl rfl rfl rfl rfl (hH.r 904 159 994 rfl) ?_
        refine l_iload_n rfl rfl ?_
        refine l_iload_n rfl rfl ?_
        refine l_iadd rfl ?_
        refine l_laload (n := 64) rfl rfl (by omega) (by omega) (by unfold rg; omega) ?_
        have w31 : -9223372036854775808 ≤ (Xj S 994 (((from_ + v3)).toNat)) ∧ (Xj S 994 (((from_ + v3)).toNat)) < 9223372036854775808 := Xj_rg
        refine l_callV rfl rfl rfl (t_mo_keyOf hH (Xj S 994 (((from_ + v3)).toNat)) _) ?_
        rintro _ _ ⟨rfl, z32, rfl, w32⟩
        show Rl _ _ _ _ _ [iv z32] _ _
        refine l_iconst rfl ?_
        refine l_icmp_eq rfl rfl (by unfold rg; omega) (by unfold rg; omega) (fun w33 => ?_) (fun w34 => ?_)
        · refine l_iinc rfl rfl rfl rfl ?_
          refine l_goto rfl rfl ?_
          exact Rl_weak (ih2 _ (by omega) ((v3 + 1)) (by omega) rfl) (And.intro rfl (And.intro rfl (And.intro rfl (And.intro rfl (True.intro)))))
        · refine l_iconst rfl ?_
          refine l_ireturn rfl rfl ?_
          exact ⟨rfl, _, rfl, ⟨by omega, by omega⟩, (by first | assumption | omega)⟩
  refine l_iconst rfl ?_
  refine l_istore_n rfl rfl rfl ?_
  exact Rl_weak (C2 _ (0) (by omega) rfl) (And.intro rfl (And.intro rfl (And.intro rfl (And.intro rfl (True.intro)))))
abbrev Q_mo_insideThing (S : sS) (from_ : Int) : pst := fun r S1 => S = S1 ∧ (∃ z : Int, r = some (iv z) ∧ (-9 ≤ z ∧ z ≤ 23) ∧ (z ≠ -9 → z ≠ -2 → 0 ≤ z ∧ z < Xi S 904 19) ∧ (z = -2 → Xi S 904 157 = 0 → Xi S 904 158 ≠ -1))
set_option maxRecDepth 100000 in
theorem t_mo_insideThing {S : sS} (hH : HI S) (from_ : Int) (hfrom_ : 0 ≤ from_ ∧ from_ ≤ 64) (hM : LXM S) (d : Nat) : Mt lay0 (d + 3) m_mo_insideThing [.ref 904, iv from_] S (Q_mo_insideThing S from_) := by
  refine Mt_R rfl rfl ?_
  have w1 : 0 ≤ Xi S 904 157 ∧ Xi S 904 157 ≤ 1 := hH.c _ _
  have w2 : -1 ≤ Xi S 904 158 ∧ Xi S 904 158 ≤ 23 := hH.c _ _
  have w3 : 0 ≤ Xi S 904 19 ∧ Xi S 904 19 ≤ 24 := hH.c _ _
  have hc19 : 0 ≤ Xi S 904 19 ∧ Xi S 904 19 ≤ 24 := hH.c _ _
  refine l_aload_n rfl rfl ?_
  refine l_gfi rfl rfl rfl rfl rfl ?_
  have w4 : 0 ≤ (Xi S 904 160) ∧ (Xi S 904 160) ≤ 64 := hH.c _ _
  refine l_iload_n rfl rfl ?_
  refine l_isub rfl ?_
  refine l_istore_n rfl rfl rfl ?_
  refine l_iload_n rfl rfl ?_
  refine l_if_le rfl rfl (by unfold rg; omega) (fun w5 => ?_) (fun w6 => ?_)
  · refine l_iload_n rfl rfl ?_
    refine l_if_le rfl rfl (by unfold rg; omega) (fun w7 => ?_) (fun w8 => ?_)
    · refine l_iload_n rfl rfl ?_
      refine l_istore_n rfl rfl rfl ?_
      refine l_aload_n rfl rfl ?_
      refine l_iload_n rfl rfl ?_
      refine l_aload_n rfl rfl ?_
      refine l_gfi rfl rfl rfl rfl rfl ?_
      refine l_iload_n rfl rfl ?_
      refine l_isub rfl ?_
      have w9 : 0 ≤ Xi S 904 15 ∧ Xi S 904 15 ≤ 300 := hH.c _ _
      refine l_callV rfl rfl rfl (t_mo_foundIn hH from_ ((Xi S 904 160) - from_) ⟨by omega, by omega⟩ ⟨by omega, by omega⟩ (by first | assumption | omega) _) ?_
      rintro _ _ ⟨rfl, z11, rfl, w11, w10⟩
      show Rl _ _ _ _ _ [iv z11] _ _
      refine l_istore rfl rfl rfl ?_
      refine l_iload rfl rfl ?_
      refine l_iconst rfl ?_
      refine l_icmp_eq rfl rfl (by unfold rg; omega) (by unfold rg; omega) (fun w12 => ?_) (fun w13 => ?_)
      · refine l_bipush rfl rfl ?_
        refine l_ireturn rfl rfl ?_
        exact ⟨rfl, _, rfl, ⟨by omega, by omega⟩, (by first | assumption | omega), (by first | assumption | omega)⟩
      · refine l_aload_n rfl rfl ?_
        refine l_gfr rfl rfl rfl rfl rfl (hH.r 904 12 914 rfl) ?_
        refine l_iload rfl rfl ?_
        refine l_iaload (n := 300) rfl rfl (by omega) (by omega) (by unfold rg; omega) ?_
        have w14 : 0 ≤ (Xi S 914 ((z11).toNat)) ∧ (Xi S 914 ((z11).toNat)) ≤ 12 := hH.c _ _
        refine l_iconst rfl ?_
        refine l_icmp_ne rfl rfl (by unfold rg; omega) (by unfold rg; omega) (fun w15 => ?_) (fun w16 => ?_)
        · refine l_bipush rfl rfl ?_
          refine l_ireturn rfl rfl ?_
          exact ⟨rfl, _, rfl, ⟨by omega, by omega⟩, (by first | assumption | omega), (by first | assumption | omega)⟩
        · refine l_aload_n rfl rfl ?_
          refine l_gfr rfl rfl rfl rfl rfl (hH.r 904 13 915 rfl) ?_
          refine l_iload rfl rfl ?_
          refine l_iaload (n := 300) rfl rfl (by omega) (by omega) (by unfold rg; omega) ?_
          have w17 : 0 ≤ (Xi S 915 ((z11).toNat)) ∧ (Xi S 915 ((z11).toNat)) ≤ 63 := hH.c _ _
          have x165 : (Xi S 915 ((z11).toNat)) < Xi S 904 19 := by have t := lxm (s := 4) hM (k := z11) (by omega) (by omega) (by omega); rw [cM4] at t; exact t
          refine l_goto rfl rfl ?_
          refine l_ireturn rfl rfl ?_
          exact ⟨rfl, _, rfl, ⟨by omega, by omega⟩, (by first | assumption | omega), (by first | assumption | omega)⟩
    · refine l_aload_n rfl rfl ?_
      refine l_aload_n rfl rfl ?_
      refine l_gfr rfl rfl rfl rfl rfl (hH.r 904 159 994 rfl) ?_
      refine l_iload_n rfl rfl ?_
      refine l_laload (n := 64) rfl rfl (by omega) (by omega) (by unfold rg; omega) ?_
      have w18 : -9223372036854775808 ≤ (Xj S 994 ((from_).toNat)) ∧ (Xj S 994 ((from_).toNat)) < 9223372036854775808 := Xj_rg
      refine l_callV rfl rfl rfl (t_mo_keyOf hH (Xj S 994 ((from_).toNat)) _) ?_
      rintro _ _ ⟨rfl, z19, rfl, w19⟩
      show Rl _ _ _ _ _ [iv z19] _ _
      refine l_callS rfl rfl (by decide) rfl (t_mo_isArt hH z19 ⟨by omega, by omega⟩ _) ?_
      rintro _ _ ⟨rfl, z21, rfl, w21, w20⟩
      show Rl _ _ _ _ _ [iv z21] _ _
      refine l_if_eq rfl rfl (by unfold rg; omega) (fun w22 => ?_) (fun w23 => ?_)
      · refine l_iload_n rfl rfl ?_
        refine l_istore_n rfl rfl rfl ?_
        refine l_aload_n rfl rfl ?_
        refine l_iload_n rfl rfl ?_
        refine l_aload_n rfl rfl ?_
        refine l_gfi rfl rfl rfl rfl rfl ?_
        refine l_iload_n rfl rfl ?_
        refine l_isub rfl ?_
        have w24 : 0 ≤ Xi S 904 15 ∧ Xi S 904 15 ≤ 300 := hH.c _ _
        refine l_callV rfl rfl rfl (t_mo_foundIn hH from_ ((Xi S 904 160) - from_) ⟨by omega, by omega⟩ ⟨by omega, by omega⟩ (by first | assumption | omega) _) ?_
        rintro _ _ ⟨rfl, z26, rfl, w26, w25⟩
        show Rl _ _ _ _ _ [iv z26] _ _
        refine l_istore rfl rfl rfl ?_
        refine l_iload rfl rfl ?_
        refine l_iconst rfl ?_
        refine l_icmp_eq rfl rfl (by unfold rg; omega) (by unfold rg; omega) (fun w27 => ?_) (fun w28 => ?_)
        · refine l_bipush rfl rfl ?_
          refine l_ireturn rfl rfl ?_
          exact ⟨rfl, _, rfl, ⟨by omega, by omega⟩, (by first | assumption | omega), (by first | assumption | omega)⟩
        · refine l_aload_n rfl rfl ?_
          refine l_gfr rfl rfl rfl rfl rfl (hH.r 904 12 914 rfl) ?_
          refine l_iload rfl rfl ?_
          refine l_iaload (n := 300) rfl rfl (by omega) (by omega) (by unfold rg; omega) ?_
          have w29 : 0 ≤ (Xi S 914 ((z26).toNat)) ∧ (Xi S 914 ((z26).toNat)) ≤ 12 := hH.c _ _
          refine l_iconst rfl ?_
          refine l_icmp_ne rfl rfl (by unfold rg; omega) (by unfold rg; omega) (fun w30 => ?_) (fun w31 => ?_)
          · refine l_bipush rfl rfl ?_
            refine l_ireturn rfl rfl ?_
            exact ⟨rfl, _, rfl, ⟨by omega, by omega⟩, (by first | assumption | omega), (by first | assumption | omega)⟩
          · refine l_aload_n rfl rfl ?_
            refine l_gfr rfl rfl rfl rfl rfl (hH.r 904 13 915 rfl) ?_
            refine l_iload rfl rfl ?_
            refine l_iaload (n := 300) rfl rfl (by omega) (by omega) (by unfold rg; omega) ?_
            have w32 : 0 ≤ (Xi S 915 ((z26).toNat)) ∧ (Xi S 915 ((z26).toNat)) ≤ 63 := hH.c _ _
            have x165 : (Xi S 915 ((z26).toNat)) < Xi S 904 19 := by have t := lxm (s := 4) hM (k := z26) (by omega) (by omega) (by omega); rw [cM4] at t; exact t
            refine l_goto rfl rfl ?_
            refine l_ireturn rfl rfl ?_
            exact ⟨rfl, _, rfl, ⟨by omega, by omega⟩, (by first | assumption | omega), (by first | assumption | omega)⟩
      · refine l_iload_n rfl rfl ?_
        refine l_iconst rfl ?_
        refine l_iadd rfl ?_
        refine l_goto rfl rfl ?_
        refine l_istore_n rfl rfl rfl ?_
        refine l_aload_n rfl rfl ?_
        refine l_iload_n rfl rfl ?_
        refine l_aload_n rfl rfl ?_
        refine l_gfi rfl rfl rfl rfl rfl ?_
        refine l_iload_n rfl rfl ?_
        refine l_isub rfl ?_
        have w33 : 0 ≤ Xi S 904 15 ∧ Xi S 904 15 ≤ 300 := hH.c _ _
        refine l_callV rfl rfl rfl (t_mo_foundIn hH (from_ + 1) ((Xi S 904 160) - (from_ + 1)) ⟨by omega, by omega⟩ ⟨by omega, by omega⟩ (by first | assumption | omega) _) ?_
        rintro _ _ ⟨rfl, z35, rfl, w35, w34⟩
        show Rl _ _ _ _ _ [iv z35] _ _
        refine l_istore rfl rfl rfl ?_
        refine l_iload rfl rfl ?_
        refine l_iconst rfl ?_
        refine l_icmp_eq rfl rfl (by unfold rg; omega) (by unfold rg; omega) (fun w36 => ?_) (fun w37 => ?_)
        · refine l_bipush rfl rfl ?_
          refine l_ireturn rfl rfl ?_
          exact ⟨rfl, _, rfl, ⟨by omega, by omega⟩, (by first | assumption | omega), (by first | assumption | omega)⟩
        · refine l_aload_n rfl rfl ?_
          refine l_gfr rfl rfl rfl rfl rfl (hH.r 904 12 914 rfl) ?_
          refine l_iload rfl rfl ?_
          refine l_iaload (n := 300) rfl rfl (by omega) (by omega) (by unfold rg; omega) ?_
          have w38 : 0 ≤ (Xi S 914 ((z35).toNat)) ∧ (Xi S 914 ((z35).toNat)) ≤ 12 := hH.c _ _
          refine l_iconst rfl ?_
          refine l_icmp_ne rfl rfl (by unfold rg; omega) (by unfold rg; omega) (fun w39 => ?_) (fun w40 => ?_)
          · refine l_bipush rfl rfl ?_
            refine l_ireturn rfl rfl ?_
            exact ⟨rfl, _, rfl, ⟨by omega, by omega⟩, (by first | assumption | omega), (by first | assumption | omega)⟩
          · refine l_aload_n rfl rfl ?_
            refine l_gfr rfl rfl rfl rfl rfl (hH.r 904 13 915 rfl) ?_
            refine l_iload rfl rfl ?_
            refine l_iaload (n := 300) rfl rfl (by omega) (by omega) (by unfold rg; omega) ?_
            have w41 : 0 ≤ (Xi S 915 ((z35).toNat)) ∧ (Xi S 915 ((z35).toNat)) ≤ 63 := hH.c _ _
            have x165 : (Xi S 915 ((z35).toNat)) < Xi S 904 19 := by have t := lxm (s := 4) hM (k := z35) (by omega) (by omega) (by omega); rw [cM4] at t; exact t
            refine l_goto rfl rfl ?_
            refine l_ireturn rfl rfl ?_
            exact ⟨rfl, _, rfl, ⟨by omega, by omega⟩, (by first | assumption | omega), (by first | assumption | omega)⟩
  · refine l_aload_n rfl rfl ?_
    refine l_aload_n rfl rfl ?_
    refine l_gfr rfl rfl rfl rfl rfl (hH.r 904 159 994 rfl) ?_
    refine l_aload_n rfl rfl ?_
    refine l_gfi rfl rfl rfl rfl rfl ?_
    refine l_iconst rfl ?_
    refine l_isub rfl ?_
    refine l_laload (n := 64) rfl rfl (by omega) (by omega) (by unfold rg; omega) ?_
    have w42 : -9223372036854775808 ≤ (Xj S 994 ((((Xi S 904 160) - 1)).toNat)) ∧ (Xj S 994 ((((Xi S 904 160) - 1)).toNat)) < 9223372036854775808 := Xj_rg
    refine l_callV rfl rfl rfl (t_mo_keyOf hH (Xj S 994 ((((Xi S 904 160) - 1)).toNat)) _) ?_
    rintro _ _ ⟨rfl, z43, rfl, w43⟩
    show Rl _ _ _ _ _ [iv z43] _ _
    refine l_sipush rfl rfl ?_
    refine l_icmp_ne rfl rfl (by unfold rg; omega) (by unfold rg; omega) (fun w44 => ?_) (fun w45 => ?_)
    · refine l_iload_n rfl rfl ?_
      refine l_if_le rfl rfl (by unfold rg; omega) (fun w46 => ?_) (fun w47 => ?_)
      · refine l_iload_n rfl rfl ?_
        refine l_istore_n rfl rfl rfl ?_
        refine l_aload_n rfl rfl ?_
        refine l_iload_n rfl rfl ?_
        refine l_aload_n rfl rfl ?_
        refine l_gfi rfl rfl rfl rfl rfl ?_
        refine l_iload_n rfl rfl ?_
        refine l_isub rfl ?_
        have w48 : 0 ≤ Xi S 904 15 ∧ Xi S 904 15 ≤ 300 := hH.c _ _
        refine l_callV rfl rfl rfl (t_mo_foundIn hH from_ ((Xi S 904 160) - from_) ⟨by omega, by omega⟩ ⟨by omega, by omega⟩ (by first | assumption | omega) _) ?_
        rintro _ _ ⟨rfl, z50, rfl, w50, w49⟩
        show Rl _ _ _ _ _ [iv z50] _ _
        refine l_istore rfl rfl rfl ?_
        refine l_iload rfl rfl ?_
        refine l_iconst rfl ?_
        refine l_icmp_eq rfl rfl (by unfold rg; omega) (by unfold rg; omega) (fun w51 => ?_) (fun w52 => ?_)
        · refine l_bipush rfl rfl ?_
          refine l_ireturn rfl rfl ?_
          exact ⟨rfl, _, rfl, ⟨by omega, by omega⟩, (by first | assumption | omega), (by first | assumption | omega)⟩
        · refine l_aload_n rfl rfl ?_
          refine l_gfr rfl rfl rfl rfl rfl (hH.r 904 12 914 rfl) ?_
          refine l_iload rfl rfl ?_
          refine l_iaload (n := 300) rfl rfl (by omega) (by omega) (by unfold rg; omega) ?_
          have w53 : 0 ≤ (Xi S 914 ((z50).toNat)) ∧ (Xi S 914 ((z50).toNat)) ≤ 12 := hH.c _ _
          refine l_iconst rfl ?_
          refine l_icmp_ne rfl rfl (by unfold rg; omega) (by unfold rg; omega) (fun w54 => ?_) (fun w55 => ?_)
          · refine l_bipush rfl rfl ?_
            refine l_ireturn rfl rfl ?_
            exact ⟨rfl, _, rfl, ⟨by omega, by omega⟩, (by first | assumption | omega), (by first | assumption | omega)⟩
          · refine l_aload_n rfl rfl ?_
            refine l_gfr rfl rfl rfl rfl rfl (hH.r 904 13 915 rfl) ?_
            refine l_iload rfl rfl ?_
            refine l_iaload (n := 300) rfl rfl (by omega) (by omega) (by unfold rg; omega) ?_
            have w56 : 0 ≤ (Xi S 915 ((z50).toNat)) ∧ (Xi S 915 ((z50).toNat)) ≤ 63 := hH.c _ _
            have x165 : (Xi S 915 ((z50).toNat)) < Xi S 904 19 := by have t := lxm (s := 4) hM (k := z50) (by omega) (by omega) (by omega); rw [cM4] at t; exact t
            refine l_goto rfl rfl ?_
            refine l_ireturn rfl rfl ?_
            exact ⟨rfl, _, rfl, ⟨by omega, by omega⟩, (by first | assumption | omega), (by first | assumption | omega)⟩
      · refine l_aload_n rfl rfl ?_
        refine l_aload_n rfl rfl ?_
        refine l_gfr rfl rfl rfl rfl rfl (hH.r 904 159 994 rfl) ?_
        refine l_iload_n rfl rfl ?_
        refine l_laload (n := 64) rfl rfl (by omega) (by omega) (by unfold rg; omega) ?_
        have w57 : -9223372036854775808 ≤ (Xj S 994 ((from_).toNat)) ∧ (Xj S 994 ((from_).toNat)) < 9223372036854775808 := Xj_rg
        refine l_callV rfl rfl rfl (t_mo_keyOf hH (Xj S 994 ((from_).toNat)) _) ?_
        rintro _ _ ⟨rfl, z58, rfl, w58⟩
        show Rl _ _ _ _ _ [iv z58] _ _
        refine l_callS rfl rfl (by decide) rfl (t_mo_isArt hH z58 ⟨by omega, by omega⟩ _) ?_
        rintro _ _ ⟨rfl, z60, rfl, w60, w59⟩
        show Rl _ _ _ _ _ [iv z60] _ _
        refine l_if_eq rfl rfl (by unfold rg; omega) (fun w61 => ?_) (fun w62 => ?_)
        · refine l_iload_n rfl rfl ?_
          refine l_istore_n rfl rfl rfl ?_
          refine l_aload_n rfl rfl ?_
          refine l_iload_n rfl rfl ?_
          refine l_aload_n rfl rfl ?_
          refine l_gfi rfl rfl rfl rfl rfl ?_
          refine l_iload_n rfl rfl ?_
          refine l_isub rfl ?_
          have w63 : 0 ≤ Xi S 904 15 ∧ Xi S 904 15 ≤ 300 := hH.c _ _
          refine l_callV rfl rfl rfl (t_mo_foundIn hH from_ ((Xi S 904 160) - from_) ⟨by omega, by omega⟩ ⟨by omega, by omega⟩ (by first | assumption | omega) _) ?_
          rintro _ _ ⟨rfl, z65, rfl, w65, w64⟩
          show Rl _ _ _ _ _ [iv z65] _ _
          refine l_istore rfl rfl rfl ?_
          refine l_iload rfl rfl ?_
          refine l_iconst rfl ?_
          refine l_icmp_eq rfl rfl (by unfold rg; omega) (by unfold rg; omega) (fun w66 => ?_) (fun w67 => ?_)
          · refine l_bipush rfl rfl ?_
            refine l_ireturn rfl rfl ?_
            exact ⟨rfl, _, rfl, ⟨by omega, by omega⟩, (by first | assumption | omega), (by first | assumption | omega)⟩
          · refine l_aload_n rfl rfl ?_
            refine l_gfr rfl rfl rfl rfl rfl (hH.r 904 12 914 rfl) ?_
            refine l_iload rfl rfl ?_
            refine l_iaload (n := 300) rfl rfl (by omega) (by omega) (by unfold rg; omega) ?_
            have w68 : 0 ≤ (Xi S 914 ((z65).toNat)) ∧ (Xi S 914 ((z65).toNat)) ≤ 12 := hH.c _ _
            refine l_iconst rfl ?_
            refine l_icmp_ne rfl rfl (by unfold rg; omega) (by unfold rg; omega) (fun w69 => ?_) (fun w70 => ?_)
            · refine l_bipush rfl rfl ?_
              refine l_ireturn rfl rfl ?_
              exact ⟨rfl, _, rfl, ⟨by omega, by omega⟩, (by first | assumption | omega), (by first | assumption | omega)⟩
            · refine l_aload_n rfl rfl ?_
              refine l_gfr rfl rfl rfl rfl rfl (hH.r 904 13 915 rfl) ?_
              refine l_iload rfl rfl ?_
              refine l_iaload (n := 300) rfl rfl (by omega) (by omega) (by unfold rg; omega) ?_
              have w71 : 0 ≤ (Xi S 915 ((z65).toNat)) ∧ (Xi S 915 ((z65).toNat)) ≤ 63 := hH.c _ _
              have x165 : (Xi S 915 ((z65).toNat)) < Xi S 904 19 := by have t := lxm (s := 4) hM (k := z65) (by omega) (by omega) (by omega); rw [cM4] at t; exact t
              refine l_goto rfl rfl ?_
              refine l_ireturn rfl rfl ?_
              exact ⟨rfl, _, rfl, ⟨by omega, by omega⟩, (by first | assumption | omega), (by first | assumption | omega)⟩
        · refine l_iload_n rfl rfl ?_
          refine l_iconst rfl ?_
          refine l_iadd rfl ?_
          refine l_goto rfl rfl ?_
          refine l_istore_n rfl rfl rfl ?_
          refine l_aload_n rfl rfl ?_
          refine l_iload_n rfl rfl ?_
          refine l_aload_n rfl rfl ?_
          refine l_gfi rfl rfl rfl rfl rfl ?_
          refine l_iload_n rfl rfl ?_
          refine l_isub rfl ?_
          have w72 : 0 ≤ Xi S 904 15 ∧ Xi S 904 15 ≤ 300 := hH.c _ _
          refine l_callV rfl rfl rfl (t_mo_foundIn hH (from_ + 1) ((Xi S 904 160) - (from_ + 1)) ⟨by omega, by omega⟩ ⟨by omega, by omega⟩ (by first | assumption | omega) _) ?_
          rintro _ _ ⟨rfl, z74, rfl, w74, w73⟩
          show Rl _ _ _ _ _ [iv z74] _ _
          refine l_istore rfl rfl rfl ?_
          refine l_iload rfl rfl ?_
          refine l_iconst rfl ?_
          refine l_icmp_eq rfl rfl (by unfold rg; omega) (by unfold rg; omega) (fun w75 => ?_) (fun w76 => ?_)
          · refine l_bipush rfl rfl ?_
            refine l_ireturn rfl rfl ?_
            exact ⟨rfl, _, rfl, ⟨by omega, by omega⟩, (by first | assumption | omega), (by first | assumption | omega)⟩
          · refine l_aload_n rfl rfl ?_
            refine l_gfr rfl rfl rfl rfl rfl (hH.r 904 12 914 rfl) ?_
            refine l_iload rfl rfl ?_
            refine l_iaload (n := 300) rfl rfl (by omega) (by omega) (by unfold rg; omega) ?_
            have w77 : 0 ≤ (Xi S 914 ((z74).toNat)) ∧ (Xi S 914 ((z74).toNat)) ≤ 12 := hH.c _ _
            refine l_iconst rfl ?_
            refine l_icmp_ne rfl rfl (by unfold rg; omega) (by unfold rg; omega) (fun w78 => ?_) (fun w79 => ?_)
            · refine l_bipush rfl rfl ?_
              refine l_ireturn rfl rfl ?_
              exact ⟨rfl, _, rfl, ⟨by omega, by omega⟩, (by first | assumption | omega), (by first | assumption | omega)⟩
            · refine l_aload_n rfl rfl ?_
              refine l_gfr rfl rfl rfl rfl rfl (hH.r 904 13 915 rfl) ?_
              refine l_iload rfl rfl ?_
              refine l_iaload (n := 300) rfl rfl (by omega) (by omega) (by unfold rg; omega) ?_
              have w80 : 0 ≤ (Xi S 915 ((z74).toNat)) ∧ (Xi S 915 ((z74).toNat)) ≤ 63 := hH.c _ _
              have x165 : (Xi S 915 ((z74).toNat)) < Xi S 904 19 := by have t := lxm (s := 4) hM (k := z74) (by omega) (by omega) (by omega); rw [cM4] at t; exact t
              refine l_goto rfl rfl ?_
              refine l_ireturn rfl rfl ?_
              exact ⟨rfl, _, rfl, ⟨by omega, by omega⟩, (by first | assumption | omega), (by first | assumption | omega)⟩
    · refine l_iload_n rfl rfl ?_
      refine l_iconst rfl ?_
      refine l_icmp_eq rfl rfl (by unfold rg; omega) (by unfold rg; omega) (fun w81 => ?_) (fun w82 => ?_)
      · refine l_iconst rfl ?_
        refine l_goto rfl rfl ?_
        refine l_istore_n rfl rfl rfl ?_
        refine l_iload_n rfl rfl ?_
        refine l_if_eq rfl rfl (by unfold rg; omega) (fun w83 => absurd w83 (by omega)) (fun w84 => ?_)
        · refine l_aload_n rfl rfl ?_
          refine l_gfi rfl rfl rfl rfl rfl ?_
          refine l_if_eq rfl rfl (by unfold rg; omega) (fun w85 => ?_) (fun w86 => ?_)
          · refine l_aload_n rfl rfl ?_
            refine l_gfi rfl rfl rfl rfl rfl ?_
            refine l_iconst rfl ?_
            refine l_icmp_eq rfl rfl (by unfold rg; omega) (by unfold rg; omega) (fun w87 => ?_) (fun w88 => ?_)
            · refine l_bipush rfl rfl ?_
              refine l_ireturn rfl rfl ?_
              exact ⟨rfl, _, rfl, ⟨by omega, by omega⟩, (by first | assumption | omega), (by first | assumption | omega)⟩
            · refine l_bipush rfl rfl ?_
              refine l_goto rfl rfl ?_
              refine l_ireturn rfl rfl ?_
              exact ⟨rfl, _, rfl, ⟨by omega, by omega⟩, (by first | assumption | omega), (by first | assumption | omega)⟩
          · refine l_aload_n rfl rfl ?_
            refine l_gfi rfl rfl rfl rfl rfl ?_
            have w89 : -1 ≤ (Xi S 904 116) ∧ (Xi S 904 116) ≤ 15 := hH.c _ _
            refine l_iconst rfl ?_
            refine l_icmp_eq rfl rfl (by unfold rg; omega) (by unfold rg; omega) (fun w90 => ?_) (fun w91 => ?_)
            · refine l_bipush rfl rfl ?_
              refine l_ireturn rfl rfl ?_
              exact ⟨rfl, _, rfl, ⟨by omega, by omega⟩, (by first | assumption | omega), (by first | assumption | omega)⟩
            · refine l_goto rfl rfl ?_
              refine l_bipush rfl rfl ?_
              refine l_goto rfl rfl ?_
              refine l_ireturn rfl rfl ?_
              exact ⟨rfl, _, rfl, ⟨by omega, by omega⟩, (by first | assumption | omega), (by first | assumption | omega)⟩
      · refine l_iload_n rfl rfl ?_
        refine l_iconst rfl ?_
        refine l_icmp_ne rfl rfl (by unfold rg; omega) (by unfold rg; omega) (fun w92 => ?_) (fun w93 => ?_)
        · refine l_iconst rfl ?_
          refine l_istore_n rfl rfl rfl ?_
          refine l_iload_n rfl rfl ?_
          refine l_if_eq rfl rfl (by unfold rg; omega) (fun w94 => ?_) (fun w95 => absurd w95 (by omega))
          · refine l_bipush rfl rfl ?_
            refine l_ireturn rfl rfl ?_
            exact ⟨rfl, _, rfl, ⟨by omega, by omega⟩, (by first | assumption | omega), (by first | assumption | omega)⟩
        · refine l_aload_n rfl rfl ?_
          refine l_aload_n rfl rfl ?_
          refine l_gfr rfl rfl rfl rfl rfl (hH.r 904 159 994 rfl) ?_
          refine l_iload_n rfl rfl ?_
          refine l_laload (n := 64) rfl rfl (by omega) (by omega) (by unfold rg; omega) ?_
          have w96 : -9223372036854775808 ≤ (Xj S 994 ((from_).toNat)) ∧ (Xj S 994 ((from_).toNat)) < 9223372036854775808 := Xj_rg
          refine l_callV rfl rfl rfl (t_mo_keyOf hH (Xj S 994 ((from_).toNat)) _) ?_
          rintro _ _ ⟨rfl, z97, rfl, w97⟩
          show Rl _ _ _ _ _ [iv z97] _ _
          refine l_bipush rfl rfl ?_
          refine l_icmp_ne rfl rfl (by unfold rg; omega) (by unfold rg; omega) (fun w98 => ?_) (fun w99 => ?_)
          · refine l_iconst rfl ?_
            refine l_istore_n rfl rfl rfl ?_
            refine l_iload_n rfl rfl ?_
            refine l_if_eq rfl rfl (by unfold rg; omega) (fun w100 => ?_) (fun w101 => absurd w101 (by omega))
            · refine l_bipush rfl rfl ?_
              refine l_ireturn rfl rfl ?_
              exact ⟨rfl, _, rfl, ⟨by omega, by omega⟩, (by first | assumption | omega), (by first | assumption | omega)⟩
          · refine l_iconst rfl ?_
            refine l_goto rfl rfl ?_
            refine l_istore_n rfl rfl rfl ?_
            refine l_iload_n rfl rfl ?_
            refine l_if_eq rfl rfl (by unfold rg; omega) (fun w102 => absurd w102 (by omega)) (fun w103 => ?_)
            · refine l_aload_n rfl rfl ?_
              refine l_gfi rfl rfl rfl rfl rfl ?_
              refine l_if_eq rfl rfl (by unfold rg; omega) (fun w104 => ?_) (fun w105 => ?_)
              · refine l_aload_n rfl rfl ?_
                refine l_gfi rfl rfl rfl rfl rfl ?_
                refine l_iconst rfl ?_
                refine l_icmp_eq rfl rfl (by unfold rg; omega) (by unfold rg; omega) (fun w106 => ?_) (fun w107 => ?_)
                · refine l_bipush rfl rfl ?_
                  refine l_ireturn rfl rfl ?_
                  exact ⟨rfl, _, rfl, ⟨by omega, by omega⟩, (by first | assumption | omega), (by first | assumption | omega)⟩
                · refine l_bipush rfl rfl ?_
                  refine l_goto rfl rfl ?_
                  refine l_ireturn rfl rfl ?_
                  exact ⟨rfl, _, rfl, ⟨by omega, by omega⟩, (by first | assumption | omega), (by first | assumption | omega)⟩
              · refine l_aload_n rfl rfl ?_
                refine l_gfi rfl rfl rfl rfl rfl ?_
                have w108 : -1 ≤ (Xi S 904 116) ∧ (Xi S 904 116) ≤ 15 := hH.c _ _
                refine l_iconst rfl ?_
                refine l_icmp_eq rfl rfl (by unfold rg; omega) (by unfold rg; omega) (fun w109 => ?_) (fun w110 => ?_)
                · refine l_bipush rfl rfl ?_
                  refine l_ireturn rfl rfl ?_
                  exact ⟨rfl, _, rfl, ⟨by omega, by omega⟩, (by first | assumption | omega), (by first | assumption | omega)⟩
                · refine l_goto rfl rfl ?_
                  refine l_bipush rfl rfl ?_
                  refine l_goto rfl rfl ?_
                  refine l_ireturn rfl rfl ?_
                  exact ⟨rfl, _, rfl, ⟨by omega, by omega⟩, (by first | assumption | omega), (by first | assumption | omega)⟩
def md_mo_putProperty : List rec := [(904, 905, 154, 155), (904, 905, 156, 157), (993, 994, 0, 100000)]
abbrev Q_mo_putProperty (S : sS) (o : Int) (p : Int) : pst := fun r S1 => HI S1 ∧ FR md_mo_putProperty S S1 ∧ (r = none)
set_option maxRecDepth 100000 in
theorem t_mo_putProperty {S : sS} (hH : HI S) (o : Int) (p : Int) (ho : 0 ≤ o ∧ o ≤ 23) (hp : 0 ≤ p ∧ p ≤ 11) (hB : ABV S) (hX : TXM S) (ho : o < Xi S 904 19) (d : Nat) : Mt lay0 (d + 4) m_mo_putProperty [.ref 904, iv o, iv p] S (Q_mo_putProperty S o p) := by
  refine Mt_R rfl rfl ?_
  have hF : FR md_mo_putProperty S S := FR.rf
  have w1 : 0 ≤ Xi S 904 19 ∧ Xi S 904 19 ≤ 24 := hH.c _ _
  have C43 : ∀ (n43 : Nat) (T1 : sS) (_ : HI T1) (_ : FR md_mo_putProperty S T1) (v3 : Int) (v4 : Int) (v5 : Int), (-2147483648 ≤ v3 ∧ v3 ≤ 2147483647) → (-2147483648 ≤ v4 ∧ v4 ≤ 2147483647) → (0 ≤ v5 ∧ v5 ≤ 5000) → (v4 = 0 ∨ (0 < v4 ∧ 0 ≤ v3 ∧ v3 + v4 ≤ 5000)) → n43 = (5001 - v5).toNat → Rl lay0 (d + 3) m_mo_putProperty 43 [(0, .ref 904), (3, iv v3), (4, iv v4), (5, iv v5)] [] T1 (Q_mo_putProperty S o p) := by
    intro n43
    induction n43 using Nat.strongRecOn with
    | ind n43 ih43 =>
      intro T1 hHT1 hFT1 v3 v4 v5 w2 w3 w4 w5 hm43
      have w6 : Xi T1 904 15 = Xi S 904 15 := hFT1.x _ _ rfl
      have w7 : Xi T1 904 19 = Xi S 904 19 := hFT1.x _ _ rfl
      refine l_iload rfl rfl ?_
      refine l_iload rfl rfl ?_
      refine l_icmp_ge rfl rfl (by unfold rg; omega) (by unfold rg; omega) (fun w8 => ?_) (fun w9 => ?_)
      · refine l_goto rfl rfl ?_
        refine l_return rfl rfl ?_
        exact ⟨hHT1, hFT1, rfl⟩
      · refine l_aload_n rfl rfl ?_
        refine l_aload_n rfl rfl ?_
        refine l_gfr rfl rfl rfl rfl rfl (hHT1.r 904 2 906 rfl) ?_
        refine l_iload_n rfl rfl ?_
        refine l_iload rfl rfl ?_
        refine l_iadd rfl ?_
        refine l_baload (n := 5000) rfl rfl rfl (by decide) (by omega) (by omega) (by unfold rg; omega) ?_
        have w10 : -128 ≤ (Xi T1 906 (((v3 + v5)).toNat)) ∧ (Xi T1 906 (((v3 + v5)).toNat)) ≤ 127 := hHT1.c _ _
        refine l_callV rfl rfl rfl (t_mo_put hHT1 (Xi T1 906 (((v3 + v5)).toNat)) ⟨by omega, by omega⟩ _) ?_
        rintro _ T2 ⟨hHT2, w12, rfl⟩
        have hFT2 : FR md_mo_putProperty S T2 := FR.tr hFT1 w12 rfl
        show Rl _ _ _ _ _ [] _ _
        refine l_iinc rfl rfl rfl rfl ?_
        refine l_goto rfl rfl ?_
        exact Rl_weak (ih43 _ (by omega) T2 hHT2 hFT2 (v3) (v4) ((v5 + 1)) (by omega) (by omega) (by omega) (by omega) rfl) (And.intro rfl (And.intro rfl (And.intro rfl (And.intro rfl (True.intro)))))
  refine l_aload_n rfl rfl ?_
  refine l_iload_n rfl rfl ?_
  refine l_iload_n rfl rfl ?_
  have w13 : 0 ≤ Xi S 904 19 ∧ Xi S 904 19 ≤ 24 := hH.c _ _
  refine l_callV rfl rfl rfl (t_mo_numberOf hH o p ⟨by omega, by omega⟩ ⟨by omega, by omega⟩ (by first | assumption | exact (ABV_FR hF rfl (by assumption : ABV S))) (by first | assumption | exact (TXM_FR hF rfl (by assumption : TXM S))) (by first | assumption | omega) _) ?_
  rintro _ T3 ⟨hHT3, w16, z15, rfl, w15, w14⟩
  have hFT3 : FR md_mo_putProperty S T3 := FR.tr hF w16 rfl
  show Rl _ _ _ _ _ [iv z15] _ _
  have t3 : Xi S 928 p.toNat = 1 → Xi T3 904 154 = 0 ∨ (0 < Xi T3 904 154 ∧ 0 ≤ z15 ∧ z15 + Xi T3 904 154 ≤ 5000) := by assumption
  refine l_istore_n rfl rfl rfl ?_
  refine l_aload_n rfl rfl ?_
  refine l_gfi rfl rfl rfl rfl rfl ?_
  have w17 : -2147483648 ≤ (Xi T3 904 154) ∧ (Xi T3 904 154) ≤ 2147483647 := Xi_rgI
  refine l_istore rfl rfl rfl ?_
  refine l_aload_n rfl rfl ?_
  refine l_gfr rfl rfl rfl rfl rfl (hHT3.r 904 33 928 rfl) ?_
  refine l_iload_n rfl rfl ?_
  refine l_iaload (n := 12) rfl rfl (by omega) (by omega) (by unfold rg; omega) ?_
  have w18 : 0 ≤ (Xi T3 928 ((p).toNat)) ∧ (Xi T3 928 ((p).toNat)) ≤ 7 := hHT3.c _ _
  have e18 : (Xi T3 928 ((p).toNat)) = Xi S 928 p.toNat := by first | rfl | exact (hFT3.cx 928 rfl _).1
  refine l_if_ne rfl rfl (by unfold rg; omega) (fun w19 => ?_) (fun w20 => ?_)
  · refine l_aload_n rfl rfl ?_
    refine l_gfr rfl rfl rfl rfl rfl (hHT3.r 904 33 928 rfl) ?_
    refine l_iload_n rfl rfl ?_
    refine l_iaload (n := 12) rfl rfl (by omega) (by omega) (by unfold rg; omega) ?_
    have e35 : (Xi T3 928 ((p).toNat)) = Xi S 928 p.toNat := by first | rfl | exact (hFT3.cx 928 rfl _).1
    refine l_iconst rfl ?_
    refine l_icmp_ne rfl rfl (by unfold rg; omega) (by unfold rg; omega) (fun w21 => ?_) (fun w22 => ?_)
    · refine l_iload_n rfl rfl ?_
      refine l_iconst rfl ?_
      refine l_icmp_eq rfl rfl (by unfold rg; omega) (by unfold rg; omega) (fun w23 => ?_) (fun w24 => ?_)
      · refine l_return rfl rfl ?_
        exact ⟨hHT3, hFT3, rfl⟩
      · refine l_aload_n rfl rfl ?_
        refine l_aload_n rfl rfl ?_
        refine l_bipush rfl rfl ?_
        refine l_iload_n rfl rfl ?_
        have w25 : Xi T3 904 15 = Xi S 904 15 := (show Xi T3 904 15 = Xi S 904 15 from w16.x _ _ rfl)
        have w26 : 0 ≤ Xi S 904 15 ∧ Xi S 904 15 ≤ 300 := hH.c _ _
        refine l_callV rfl rfl rfl (t_mo_lexOf hHT3 6 z15 ⟨by omega, by omega⟩ ⟨by omega, by omega⟩ _) ?_
        rintro _ _ ⟨rfl, z28, rfl, w28, w27⟩
        show Rl _ _ _ _ _ [iv z28, .ref 904] _ _
        refine l_callV rfl rfl rfl (t_mo_putLex hHT3 z28 ⟨by omega, by omega⟩ _) ?_
        rintro _ T4 ⟨hHT4, w30, rfl⟩
        have hFT4 : FR md_mo_putProperty S T4 := FR.tr hFT3 w30 rfl
        show Rl _ _ _ _ _ [] _ _
        refine l_return rfl rfl ?_
        exact ⟨hHT4, hFT4, rfl⟩
    · refine l_iconst rfl ?_
      refine l_istore rfl rfl rfl ?_
      exact Rl_weak (C43 _ T3 hHT3 hFT3 (z15) ((Xi T3 904 154)) (0) (by omega) (by omega) (by omega) (by omega) rfl) (And.intro rfl (And.intro rfl (And.intro rfl (And.intro rfl (True.intro)))))
  · refine l_aload_n rfl rfl ?_
    refine l_iload_n rfl rfl ?_
    refine l_callV rfl rfl rfl (t_mo_putNumber hHT3 z15 ⟨by omega, by omega⟩ _) ?_
    rintro _ T5 ⟨hHT5, w32, rfl⟩
    have hFT5 : FR md_mo_putProperty S T5 := FR.tr hFT3 w32 rfl
    show Rl _ _ _ _ _ [] _ _
    refine l_goto rfl rfl ?_
    refine l_return rfl rfl ?_
    exact ⟨hHT5, hFT5, rfl⟩
def md_mo_saysInside : List rec := [(904, 905, 154, 155), (904, 905, 156, 157), (993, 994, 0, 100000)]
abbrev Q_mo_saysInside (S : sS) : pst := fun r S1 => HI S1 ∧ FR md_mo_saysInside S S1 ∧ (∃ z : Int, r = some (iv z) ∧ (0 ≤ z ∧ z ≤ 1))
set_option maxRecDepth 100000 in
theorem t_mo_saysInside {S : sS} (hH : HI S) (hM : LXM S) (hB : ABV S) (hX : TXM S) (hno : Xi S 904 158 < Xi S 904 19) (d : Nat) : Mt lay0 (d + 5) m_mo_saysInside [.ref 904] S (Q_mo_saysInside S) := by
  refine Mt_R rfl rfl ?_
  have hF : FR md_mo_saysInside S S := FR.rf
  have w1 : -1 ≤ Xi S 904 158 ∧ Xi S 904 158 ≤ 23 := hH.c _ _
  have w2 : 0 ≤ Xi S 904 19 ∧ Xi S 904 19 ≤ 24 := hH.c _ _
  have hc19 : 0 ≤ Xi S 904 19 ∧ Xi S 904 19 ≤ 24 := hH.c _ _
  have hc32 : 0 ≤ Xi S 904 32 ∧ Xi S 904 32 ≤ 12 := hH.c _ _
  have C2 : ∀ (n2 : Nat) (v1 : Int), (1 ≤ v1 ∧ v1 ≤ 64) → n2 = (65 - v1).toNat → Rl lay0 (d + 4) m_mo_saysInside 2 [(0, .ref 904), (1, iv v1)] [] S (Q_mo_saysInside S) := by
    intro n2
    induction n2 using Nat.strongRecOn with
    | ind n2 ih2 =>
      intro v1 w3 hm2
      have C30 : ∀  (v1 : Int), (1 ≤ v1 ∧ v1 ≤ 64) → Rl lay0 (d + 4) m_mo_saysInside 30 [(0, .ref 904), (1, iv v1)] [] S (Q_mo_saysInside S) := by
        intro v1 w4
        refine l_aload_n rfl rfl ?_
        refine l_gfi rfl rfl rfl rfl rfl ?_
        have w5 : 0 ≤ (Xi S 904 160) ∧ (Xi S 904 160) ≤ 64 := hH.c _ _
        refine l_if_le rfl rfl (by unfold rg; omega) (fun w6 => ?_) (fun w7 => ?_)
        · refine l_iconst rfl ?_
          refine l_istore_n rfl rfl rfl ?_
          refine l_aload_n rfl rfl ?_
          refine l_iload_n rfl rfl ?_
          refine l_if_eq rfl rfl (by unfold rg; omega) (fun w8 => ?_) (fun w9 => absurd w9 (by omega))
          · refine l_iconst rfl ?_
            have w10 : 0 ≤ Xi S 904 157 ∧ Xi S 904 157 ≤ 1 := hH.c _ _
            have w11 : -1 ≤ Xi S 904 158 ∧ Xi S 904 158 ≤ 23 := hH.c _ _
            have w12 : 0 ≤ Xi S 904 19 ∧ Xi S 904 19 ≤ 24 := hH.c _ _
            refine l_callV rfl rfl rfl (t_mo_insideThing hH 0 ⟨by omega, by omega⟩ (by first | assumption | exact (LXM_FR hF rfl (by assumption : LXM S))) _) ?_
            rintro _ _ ⟨rfl, z15, rfl, w15, w13, w14⟩
            show Rl _ _ _ _ _ [iv z15] _ _
            refine l_istore_n rfl rfl rfl ?_
            refine l_iload_n rfl rfl ?_
            refine l_bipush rfl rfl ?_
            refine l_icmp_ne rfl rfl (by unfold rg; omega) (by unfold rg; omega) (fun w16 => ?_) (fun w17 => ?_)
            · refine l_iload_n rfl rfl ?_
              refine l_bipush rfl rfl ?_
              refine l_icmp_ne rfl rfl (by unfold rg; omega) (by unfold rg; omega) (fun w18 => ?_) (fun w19 => ?_)
              · refine l_iload_n rfl rfl ?_
                refine l_istore rfl rfl rfl ?_
                refine l_iload_n rfl rfl ?_
                refine l_if_ne rfl rfl (by unfold rg; omega) (fun w20 => absurd w20 (by omega)) (fun w21 => ?_)
                · refine l_aload_n rfl rfl ?_
                  refine l_gfi rfl rfl rfl rfl rfl ?_
                  have w22 : 0 ≤ (Xi S 904 157) ∧ (Xi S 904 157) ≤ 1 := hH.c _ _
                  refine l_if_ne rfl rfl (by unfold rg; omega) (fun w23 => ?_) (fun w24 => ?_)
                  · refine l_iconst rfl ?_
                    refine l_ireturn rfl rfl ?_
                    exact ⟨hH, hF, _, rfl, ⟨by omega, by omega⟩⟩
                  · refine l_aload_n rfl rfl ?_
                    refine l_aload_n rfl rfl ?_
                    refine l_iconst rfl ?_
                    refine l_iload rfl rfl ?_
                    have w25 : 0 ≤ Xi S 904 15 ∧ Xi S 904 15 ≤ 300 := hH.c _ _
                    refine l_callV rfl rfl rfl (t_mo_lexOf hH 4 z15 ⟨by omega, by omega⟩ ⟨by omega, by omega⟩ _) ?_
                    rintro _ _ ⟨rfl, z27, rfl, w27, w26⟩
                    show Rl _ _ _ _ _ [iv z27, .ref 904] _ _
                    refine l_callV rfl rfl rfl (t_mo_putLex hH z27 ⟨by omega, by omega⟩ _) ?_
                    rintro _ T1 ⟨hHT1, w29, rfl⟩
                    have hFT1 : FR md_mo_saysInside S T1 := FR.tr hF w29 rfl
                    show Rl _ _ _ _ _ [] _ _
                    refine l_iconst rfl ?_
                    refine l_ireturn rfl rfl ?_
                    exact ⟨hHT1, hFT1, _, rfl, ⟨by omega, by omega⟩⟩
              · refine l_aload_n rfl rfl ?_
                refine l_gfi rfl rfl rfl rfl rfl ?_
                refine l_goto rfl rfl ?_
                refine l_istore rfl rfl rfl ?_
                refine l_iload_n rfl rfl ?_
                refine l_if_ne rfl rfl (by unfold rg; omega) (fun w30 => absurd w30 (by omega)) (fun w31 => ?_)
                · refine l_aload_n rfl rfl ?_
                  refine l_gfi rfl rfl rfl rfl rfl ?_
                  have w32 : 0 ≤ (Xi S 904 157) ∧ (Xi S 904 157) ≤ 1 := hH.c _ _
                  refine l_if_ne rfl rfl (by unfold rg; omega) (fun w33 => ?_) (fun w34 => ?_)
                  · refine l_iconst rfl ?_
                    refine l_ireturn rfl rfl ?_
                    exact ⟨hH, hF, _, rfl, ⟨by omega, by omega⟩⟩
                  · refine l_aload_n rfl rfl ?_
                    refine l_aload_n rfl rfl ?_
                    refine l_iconst rfl ?_
                    refine l_iload rfl rfl ?_
                    have w35 : 0 ≤ Xi S 904 15 ∧ Xi S 904 15 ≤ 300 := hH.c _ _
                    refine l_callV rfl rfl rfl (t_mo_lexOf hH 4 (Xi S 904 158) ⟨by omega, by omega⟩ ⟨by omega, by omega⟩ _) ?_
                    rintro _ _ ⟨rfl, z37, rfl, w37, w36⟩
                    show Rl _ _ _ _ _ [iv z37, .ref 904] _ _
                    refine l_callV rfl rfl rfl (t_mo_putLex hH z37 ⟨by omega, by omega⟩ _) ?_
                    rintro _ T2 ⟨hHT2, w39, rfl⟩
                    have hFT2 : FR md_mo_saysInside S T2 := FR.tr hF w39 rfl
                    show Rl _ _ _ _ _ [] _ _
                    refine l_iconst rfl ?_
                    refine l_ireturn rfl rfl ?_
                    exact ⟨hHT2, hFT2, _, rfl, ⟨by omega, by omega⟩⟩
            · refine l_iconst rfl ?_
              refine l_ireturn rfl rfl ?_
              exact ⟨hH, hF, _, rfl, ⟨by omega, by omega⟩⟩
        · refine l_aload_n rfl rfl ?_
          refine l_aload_n rfl rfl ?_
          refine l_gfr rfl rfl rfl rfl rfl (hH.r 904 159 994 rfl) ?_
          refine l_iconst rfl ?_
          refine l_laload (n := 64) rfl rfl (by omega) (by omega) (by unfold rg; omega) ?_
          have w40 : -9223372036854775808 ≤ (Xj S 994 ((0 : Int).toNat)) ∧ (Xj S 994 ((0 : Int).toNat)) < 9223372036854775808 := Xj_rg
          refine l_callV rfl rfl rfl (t_mo_keyOf hH (Xj S 994 ((0 : Int).toNat)) _) ?_
          rintro _ _ ⟨rfl, z41, rfl, w41⟩
          show Rl _ _ _ _ _ [iv z41] _ _
          refine l_bipush rfl rfl ?_
          refine l_icmp_ne rfl rfl (by unfold rg; omega) (by unfold rg; omega) (fun w42 => ?_) (fun w43 => ?_)
          · refine l_iconst rfl ?_
            refine l_istore_n rfl rfl rfl ?_
            refine l_aload_n rfl rfl ?_
            refine l_iload_n rfl rfl ?_
            refine l_if_eq rfl rfl (by unfold rg; omega) (fun w44 => ?_) (fun w45 => absurd w45 (by omega))
            · refine l_iconst rfl ?_
              have w46 : 0 ≤ Xi S 904 157 ∧ Xi S 904 157 ≤ 1 := hH.c _ _
              have w47 : -1 ≤ Xi S 904 158 ∧ Xi S 904 158 ≤ 23 := hH.c _ _
              have w48 : 0 ≤ Xi S 904 19 ∧ Xi S 904 19 ≤ 24 := hH.c _ _
              refine l_callV rfl rfl rfl (t_mo_insideThing hH 0 ⟨by omega, by omega⟩ (by first | assumption | exact (LXM_FR hF rfl (by assumption : LXM S))) _) ?_
              rintro _ _ ⟨rfl, z51, rfl, w51, w49, w50⟩
              show Rl _ _ _ _ _ [iv z51] _ _
              refine l_istore_n rfl rfl rfl ?_
              refine l_iload_n rfl rfl ?_
              refine l_bipush rfl rfl ?_
              refine l_icmp_ne rfl rfl (by unfold rg; omega) (by unfold rg; omega) (fun w52 => ?_) (fun w53 => ?_)
              · refine l_iload_n rfl rfl ?_
                refine l_bipush rfl rfl ?_
                refine l_icmp_ne rfl rfl (by unfold rg; omega) (by unfold rg; omega) (fun w54 => ?_) (fun w55 => ?_)
                · refine l_iload_n rfl rfl ?_
                  refine l_istore rfl rfl rfl ?_
                  refine l_iload_n rfl rfl ?_
                  refine l_if_ne rfl rfl (by unfold rg; omega) (fun w56 => absurd w56 (by omega)) (fun w57 => ?_)
                  · refine l_aload_n rfl rfl ?_
                    refine l_gfi rfl rfl rfl rfl rfl ?_
                    have w58 : 0 ≤ (Xi S 904 157) ∧ (Xi S 904 157) ≤ 1 := hH.c _ _
                    refine l_if_ne rfl rfl (by unfold rg; omega) (fun w59 => ?_) (fun w60 => ?_)
                    · refine l_iconst rfl ?_
                      refine l_ireturn rfl rfl ?_
                      exact ⟨hH, hF, _, rfl, ⟨by omega, by omega⟩⟩
                    · refine l_aload_n rfl rfl ?_
                      refine l_aload_n rfl rfl ?_
                      refine l_iconst rfl ?_
                      refine l_iload rfl rfl ?_
                      have w61 : 0 ≤ Xi S 904 15 ∧ Xi S 904 15 ≤ 300 := hH.c _ _
                      refine l_callV rfl rfl rfl (t_mo_lexOf hH 4 z51 ⟨by omega, by omega⟩ ⟨by omega, by omega⟩ _) ?_
                      rintro _ _ ⟨rfl, z63, rfl, w63, w62⟩
                      show Rl _ _ _ _ _ [iv z63, .ref 904] _ _
                      refine l_callV rfl rfl rfl (t_mo_putLex hH z63 ⟨by omega, by omega⟩ _) ?_
                      rintro _ T3 ⟨hHT3, w65, rfl⟩
                      have hFT3 : FR md_mo_saysInside S T3 := FR.tr hF w65 rfl
                      show Rl _ _ _ _ _ [] _ _
                      refine l_iconst rfl ?_
                      refine l_ireturn rfl rfl ?_
                      exact ⟨hHT3, hFT3, _, rfl, ⟨by omega, by omega⟩⟩
                · refine l_aload_n rfl rfl ?_
                  refine l_gfi rfl rfl rfl rfl rfl ?_
                  refine l_goto rfl rfl ?_
                  refine l_istore rfl rfl rfl ?_
                  refine l_iload_n rfl rfl ?_
                  refine l_if_ne rfl rfl (by unfold rg; omega) (fun w66 => absurd w66 (by omega)) (fun w67 => ?_)
                  · refine l_aload_n rfl rfl ?_
                    refine l_gfi rfl rfl rfl rfl rfl ?_
                    have w68 : 0 ≤ (Xi S 904 157) ∧ (Xi S 904 157) ≤ 1 := hH.c _ _
                    refine l_if_ne rfl rfl (by unfold rg; omega) (fun w69 => ?_) (fun w70 => ?_)
                    · refine l_iconst rfl ?_
                      refine l_ireturn rfl rfl ?_
                      exact ⟨hH, hF, _, rfl, ⟨by omega, by omega⟩⟩
                    · refine l_aload_n rfl rfl ?_
                      refine l_aload_n rfl rfl ?_
                      refine l_iconst rfl ?_
                      refine l_iload rfl rfl ?_
                      have w71 : 0 ≤ Xi S 904 15 ∧ Xi S 904 15 ≤ 300 := hH.c _ _
                      refine l_callV rfl rfl rfl (t_mo_lexOf hH 4 (Xi S 904 158) ⟨by omega, by omega⟩ ⟨by omega, by omega⟩ _) ?_
                      rintro _ _ ⟨rfl, z73, rfl, w73, w72⟩
                      show Rl _ _ _ _ _ [iv z73, .ref 904] _ _
                      refine l_callV rfl rfl rfl (t_mo_putLex hH z73 ⟨by omega, by omega⟩ _) ?_
                      rintro _ T4 ⟨hHT4, w75, rfl⟩
                      have hFT4 : FR md_mo_saysInside S T4 := FR.tr hF w75 rfl
                      show Rl _ _ _ _ _ [] _ _
                      refine l_iconst rfl ?_
                      refine l_ireturn rfl rfl ?_
                      exact ⟨hHT4, hFT4, _, rfl, ⟨by omega, by omega⟩⟩
              · refine l_iconst rfl ?_
                refine l_ireturn rfl rfl ?_
                exact ⟨hH, hF, _, rfl, ⟨by omega, by omega⟩⟩
          · refine l_iload_n rfl rfl ?_
            refine l_iconst rfl ?_
            refine l_icmp_le rfl rfl (by unfold rg; omega) (by unfold rg; omega) (fun w76 => ?_) (fun w77 => ?_)
            · refine l_iconst rfl ?_
              refine l_istore_n rfl rfl rfl ?_
              refine l_aload_n rfl rfl ?_
              refine l_iload_n rfl rfl ?_
              refine l_if_eq rfl rfl (by unfold rg; omega) (fun w78 => ?_) (fun w79 => absurd w79 (by omega))
              · refine l_iconst rfl ?_
                have w80 : 0 ≤ Xi S 904 157 ∧ Xi S 904 157 ≤ 1 := hH.c _ _
                have w81 : -1 ≤ Xi S 904 158 ∧ Xi S 904 158 ≤ 23 := hH.c _ _
                have w82 : 0 ≤ Xi S 904 19 ∧ Xi S 904 19 ≤ 24 := hH.c _ _
                refine l_callV rfl rfl rfl (t_mo_insideThing hH 0 ⟨by omega, by omega⟩ (by first | assumption | exact (LXM_FR hF rfl (by assumption : LXM S))) _) ?_
                rintro _ _ ⟨rfl, z85, rfl, w85, w83, w84⟩
                show Rl _ _ _ _ _ [iv z85] _ _
                refine l_istore_n rfl rfl rfl ?_
                refine l_iload_n rfl rfl ?_
                refine l_bipush rfl rfl ?_
                refine l_icmp_ne rfl rfl (by unfold rg; omega) (by unfold rg; omega) (fun w86 => ?_) (fun w87 => ?_)
                · refine l_iload_n rfl rfl ?_
                  refine l_bipush rfl rfl ?_
                  refine l_icmp_ne rfl rfl (by unfold rg; omega) (by unfold rg; omega) (fun w88 => ?_) (fun w89 => ?_)
                  · refine l_iload_n rfl rfl ?_
                    refine l_istore rfl rfl rfl ?_
                    refine l_iload_n rfl rfl ?_
                    refine l_if_ne rfl rfl (by unfold rg; omega) (fun w90 => absurd w90 (by omega)) (fun w91 => ?_)
                    · refine l_aload_n rfl rfl ?_
                      refine l_gfi rfl rfl rfl rfl rfl ?_
                      have w92 : 0 ≤ (Xi S 904 157) ∧ (Xi S 904 157) ≤ 1 := hH.c _ _
                      refine l_if_ne rfl rfl (by unfold rg; omega) (fun w93 => ?_) (fun w94 => ?_)
                      · refine l_iconst rfl ?_
                        refine l_ireturn rfl rfl ?_
                        exact ⟨hH, hF, _, rfl, ⟨by omega, by omega⟩⟩
                      · refine l_aload_n rfl rfl ?_
                        refine l_aload_n rfl rfl ?_
                        refine l_iconst rfl ?_
                        refine l_iload rfl rfl ?_
                        have w95 : 0 ≤ Xi S 904 15 ∧ Xi S 904 15 ≤ 300 := hH.c _ _
                        refine l_callV rfl rfl rfl (t_mo_lexOf hH 4 z85 ⟨by omega, by omega⟩ ⟨by omega, by omega⟩ _) ?_
                        rintro _ _ ⟨rfl, z97, rfl, w97, w96⟩
                        show Rl _ _ _ _ _ [iv z97, .ref 904] _ _
                        refine l_callV rfl rfl rfl (t_mo_putLex hH z97 ⟨by omega, by omega⟩ _) ?_
                        rintro _ T5 ⟨hHT5, w99, rfl⟩
                        have hFT5 : FR md_mo_saysInside S T5 := FR.tr hF w99 rfl
                        show Rl _ _ _ _ _ [] _ _
                        refine l_iconst rfl ?_
                        refine l_ireturn rfl rfl ?_
                        exact ⟨hHT5, hFT5, _, rfl, ⟨by omega, by omega⟩⟩
                  · refine l_aload_n rfl rfl ?_
                    refine l_gfi rfl rfl rfl rfl rfl ?_
                    refine l_goto rfl rfl ?_
                    refine l_istore rfl rfl rfl ?_
                    refine l_iload_n rfl rfl ?_
                    refine l_if_ne rfl rfl (by unfold rg; omega) (fun w100 => absurd w100 (by omega)) (fun w101 => ?_)
                    · refine l_aload_n rfl rfl ?_
                      refine l_gfi rfl rfl rfl rfl rfl ?_
                      have w102 : 0 ≤ (Xi S 904 157) ∧ (Xi S 904 157) ≤ 1 := hH.c _ _
                      refine l_if_ne rfl rfl (by unfold rg; omega) (fun w103 => ?_) (fun w104 => ?_)
                      · refine l_iconst rfl ?_
                        refine l_ireturn rfl rfl ?_
                        exact ⟨hH, hF, _, rfl, ⟨by omega, by omega⟩⟩
                      · refine l_aload_n rfl rfl ?_
                        refine l_aload_n rfl rfl ?_
                        refine l_iconst rfl ?_
                        refine l_iload rfl rfl ?_
                        have w105 : 0 ≤ Xi S 904 15 ∧ Xi S 904 15 ≤ 300 := hH.c _ _
                        refine l_callV rfl rfl rfl (t_mo_lexOf hH 4 (Xi S 904 158) ⟨by omega, by omega⟩ ⟨by omega, by omega⟩ _) ?_
                        rintro _ _ ⟨rfl, z107, rfl, w107, w106⟩
                        show Rl _ _ _ _ _ [iv z107, .ref 904] _ _
                        refine l_callV rfl rfl rfl (t_mo_putLex hH z107 ⟨by omega, by omega⟩ _) ?_
                        rintro _ T6 ⟨hHT6, w109, rfl⟩
                        have hFT6 : FR md_mo_saysInside S T6 := FR.tr hF w109 rfl
                        show Rl _ _ _ _ _ [] _ _
                        refine l_iconst rfl ?_
                        refine l_ireturn rfl rfl ?_
                        exact ⟨hHT6, hFT6, _, rfl, ⟨by omega, by omega⟩⟩
                · refine l_iconst rfl ?_
                  refine l_ireturn rfl rfl ?_
                  exact ⟨hH, hF, _, rfl, ⟨by omega, by omega⟩⟩
            · refine l_iload_n rfl rfl ?_
              refine l_aload_n rfl rfl ?_
              refine l_gfi rfl rfl rfl rfl rfl ?_
              refine l_icmp_ge rfl rfl (by unfold rg; omega) (by unfold rg; omega) (fun w110 => ?_) (fun w111 => ?_)
              · refine l_iconst rfl ?_
                refine l_istore_n rfl rfl rfl ?_
                refine l_aload_n rfl rfl ?_
                refine l_iload_n rfl rfl ?_
                refine l_if_eq rfl rfl (by unfold rg; omega) (fun w112 => ?_) (fun w113 => absurd w113 (by omega))
                · refine l_iconst rfl ?_
                  have w114 : 0 ≤ Xi S 904 157 ∧ Xi S 904 157 ≤ 1 := hH.c _ _
                  have w115 : -1 ≤ Xi S 904 158 ∧ Xi S 904 158 ≤ 23 := hH.c _ _
                  have w116 : 0 ≤ Xi S 904 19 ∧ Xi S 904 19 ≤ 24 := hH.c _ _
                  refine l_callV rfl rfl rfl (t_mo_insideThing hH 0 ⟨by omega, by omega⟩ (by first | assumption | exact (LXM_FR hF rfl (by assumption : LXM S))) _) ?_
                  rintro _ _ ⟨rfl, z119, rfl, w119, w117, w118⟩
                  show Rl _ _ _ _ _ [iv z119] _ _
                  refine l_istore_n rfl rfl rfl ?_
                  refine l_iload_n rfl rfl ?_
                  refine l_bipush rfl rfl ?_
                  refine l_icmp_ne rfl rfl (by unfold rg; omega) (by unfold rg; omega) (fun w120 => ?_) (fun w121 => ?_)
                  · refine l_iload_n rfl rfl ?_
                    refine l_bipush rfl rfl ?_
                    refine l_icmp_ne rfl rfl (by unfold rg; omega) (by unfold rg; omega) (fun w122 => ?_) (fun w123 => ?_)
                    · refine l_iload_n rfl rfl ?_
                      refine l_istore rfl rfl rfl ?_
                      refine l_iload_n rfl rfl ?_
                      refine l_if_ne rfl rfl (by unfold rg; omega) (fun w124 => absurd w124 (by omega)) (fun w125 => ?_)
                      · refine l_aload_n rfl rfl ?_
                        refine l_gfi rfl rfl rfl rfl rfl ?_
                        have w126 : 0 ≤ (Xi S 904 157) ∧ (Xi S 904 157) ≤ 1 := hH.c _ _
                        refine l_if_ne rfl rfl (by unfold rg; omega) (fun w127 => ?_) (fun w128 => ?_)
                        · refine l_iconst rfl ?_
                          refine l_ireturn rfl rfl ?_
                          exact ⟨hH, hF, _, rfl, ⟨by omega, by omega⟩⟩
                        · refine l_aload_n rfl rfl ?_
                          refine l_aload_n rfl rfl ?_
                          refine l_iconst rfl ?_
                          refine l_iload rfl rfl ?_
                          have w129 : 0 ≤ Xi S 904 15 ∧ Xi S 904 15 ≤ 300 := hH.c _ _
                          refine l_callV rfl rfl rfl (t_mo_lexOf hH 4 z119 ⟨by omega, by omega⟩ ⟨by omega, by omega⟩ _) ?_
                          rintro _ _ ⟨rfl, z131, rfl, w131, w130⟩
                          show Rl _ _ _ _ _ [iv z131, .ref 904] _ _
                          refine l_callV rfl rfl rfl (t_mo_putLex hH z131 ⟨by omega, by omega⟩ _) ?_
                          rintro _ T7 ⟨hHT7, w133, rfl⟩
                          have hFT7 : FR md_mo_saysInside S T7 := FR.tr hF w133 rfl
                          show Rl _ _ _ _ _ [] _ _
                          refine l_iconst rfl ?_
                          refine l_ireturn rfl rfl ?_
                          exact ⟨hHT7, hFT7, _, rfl, ⟨by omega, by omega⟩⟩
                    · refine l_aload_n rfl rfl ?_
                      refine l_gfi rfl rfl rfl rfl rfl ?_
                      refine l_goto rfl rfl ?_
                      refine l_istore rfl rfl rfl ?_
                      refine l_iload_n rfl rfl ?_
                      refine l_if_ne rfl rfl (by unfold rg; omega) (fun w134 => absurd w134 (by omega)) (fun w135 => ?_)
                      · refine l_aload_n rfl rfl ?_
                        refine l_gfi rfl rfl rfl rfl rfl ?_
                        have w136 : 0 ≤ (Xi S 904 157) ∧ (Xi S 904 157) ≤ 1 := hH.c _ _
                        refine l_if_ne rfl rfl (by unfold rg; omega) (fun w137 => ?_) (fun w138 => ?_)
                        · refine l_iconst rfl ?_
                          refine l_ireturn rfl rfl ?_
                          exact ⟨hH, hF, _, rfl, ⟨by omega, by omega⟩⟩
                        · refine l_aload_n rfl rfl ?_
                          refine l_aload_n rfl rfl ?_
                          refine l_iconst rfl ?_
                          refine l_iload rfl rfl ?_
                          have w139 : 0 ≤ Xi S 904 15 ∧ Xi S 904 15 ≤ 300 := hH.c _ _
                          refine l_callV rfl rfl rfl (t_mo_lexOf hH 4 (Xi S 904 158) ⟨by omega, by omega⟩ ⟨by omega, by omega⟩ _) ?_
                          rintro _ _ ⟨rfl, z141, rfl, w141, w140⟩
                          show Rl _ _ _ _ _ [iv z141, .ref 904] _ _
                          refine l_callV rfl rfl rfl (t_mo_putLex hH z141 ⟨by omega, by omega⟩ _) ?_
                          rintro _ T8 ⟨hHT8, w143, rfl⟩
                          have hFT8 : FR md_mo_saysInside S T8 := FR.tr hF w143 rfl
                          show Rl _ _ _ _ _ [] _ _
                          refine l_iconst rfl ?_
                          refine l_ireturn rfl rfl ?_
                          exact ⟨hHT8, hFT8, _, rfl, ⟨by omega, by omega⟩⟩
                  · refine l_iconst rfl ?_
                    refine l_ireturn rfl rfl ?_
                    exact ⟨hH, hF, _, rfl, ⟨by omega, by omega⟩⟩
              · refine l_aload_n rfl rfl ?_
                refine l_aload_n rfl rfl ?_
                refine l_gfr rfl rfl rfl rfl rfl (hH.r 904 159 994 rfl) ?_
                refine l_iload_n rfl rfl ?_
                refine l_laload (n := 64) rfl rfl (by omega) (by omega) (by unfold rg; omega) ?_
                have w144 : -9223372036854775808 ≤ (Xj S 994 ((v1).toNat)) ∧ (Xj S 994 ((v1).toNat)) < 9223372036854775808 := Xj_rg
                refine l_callV rfl rfl rfl (t_mo_keyOf hH (Xj S 994 ((v1).toNat)) _) ?_
                rintro _ _ ⟨rfl, z145, rfl, w145⟩
                show Rl _ _ _ _ _ [iv z145] _ _
                refine l_bipush rfl rfl ?_
                refine l_icmp_ne rfl rfl (by unfold rg; omega) (by unfold rg; omega) (fun w146 => ?_) (fun w147 => ?_)
                · refine l_iconst rfl ?_
                  refine l_istore_n rfl rfl rfl ?_
                  refine l_aload_n rfl rfl ?_
                  refine l_iload_n rfl rfl ?_
                  refine l_if_eq rfl rfl (by unfold rg; omega) (fun w148 => ?_) (fun w149 => absurd w149 (by omega))
                  · refine l_iconst rfl ?_
                    have w150 : 0 ≤ Xi S 904 157 ∧ Xi S 904 157 ≤ 1 := hH.c _ _
                    have w151 : -1 ≤ Xi S 904 158 ∧ Xi S 904 158 ≤ 23 := hH.c _ _
                    have w152 : 0 ≤ Xi S 904 19 ∧ Xi S 904 19 ≤ 24 := hH.c _ _
                    refine l_callV rfl rfl rfl (t_mo_insideThing hH 0 ⟨by omega, by omega⟩ (by first | assumption | exact (LXM_FR hF rfl (by assumption : LXM S))) _) ?_
                    rintro _ _ ⟨rfl, z155, rfl, w155, w153, w154⟩
                    show Rl _ _ _ _ _ [iv z155] _ _
                    refine l_istore_n rfl rfl rfl ?_
                    refine l_iload_n rfl rfl ?_
                    refine l_bipush rfl rfl ?_
                    refine l_icmp_ne rfl rfl (by unfold rg; omega) (by unfold rg; omega) (fun w156 => ?_) (fun w157 => ?_)
                    · refine l_iload_n rfl rfl ?_
                      refine l_bipush rfl rfl ?_
                      refine l_icmp_ne rfl rfl (by unfold rg; omega) (by unfold rg; omega) (fun w158 => ?_) (fun w159 => ?_)
                      · refine l_iload_n rfl rfl ?_
                        refine l_istore rfl rfl rfl ?_
                        refine l_iload_n rfl rfl ?_
                        refine l_if_ne rfl rfl (by unfold rg; omega) (fun w160 => absurd w160 (by omega)) (fun w161 => ?_)
                        · refine l_aload_n rfl rfl ?_
                          refine l_gfi rfl rfl rfl rfl rfl ?_
                          have w162 : 0 ≤ (Xi S 904 157) ∧ (Xi S 904 157) ≤ 1 := hH.c _ _
                          refine l_if_ne rfl rfl (by unfold rg; omega) (fun w163 => ?_) (fun w164 => ?_)
                          · refine l_iconst rfl ?_
                            refine l_ireturn rfl rfl ?_
                            exact ⟨hH, hF, _, rfl, ⟨by omega, by omega⟩⟩
                          · refine l_aload_n rfl rfl ?_
                            refine l_aload_n rfl rfl ?_
                            refine l_iconst rfl ?_
                            refine l_iload rfl rfl ?_
                            have w165 : 0 ≤ Xi S 904 15 ∧ Xi S 904 15 ≤ 300 := hH.c _ _
                            refine l_callV rfl rfl rfl (t_mo_lexOf hH 4 z155 ⟨by omega, by omega⟩ ⟨by omega, by omega⟩ _) ?_
                            rintro _ _ ⟨rfl, z167, rfl, w167, w166⟩
                            show Rl _ _ _ _ _ [iv z167, .ref 904] _ _
                            refine l_callV rfl rfl rfl (t_mo_putLex hH z167 ⟨by omega, by omega⟩ _) ?_
                            rintro _ T9 ⟨hHT9, w169, rfl⟩
                            have hFT9 : FR md_mo_saysInside S T9 := FR.tr hF w169 rfl
                            show Rl _ _ _ _ _ [] _ _
                            refine l_iconst rfl ?_
                            refine l_ireturn rfl rfl ?_
                            exact ⟨hHT9, hFT9, _, rfl, ⟨by omega, by omega⟩⟩
                      · refine l_aload_n rfl rfl ?_
                        refine l_gfi rfl rfl rfl rfl rfl ?_
                        refine l_goto rfl rfl ?_
                        refine l_istore rfl rfl rfl ?_
                        refine l_iload_n rfl rfl ?_
                        refine l_if_ne rfl rfl (by unfold rg; omega) (fun w170 => absurd w170 (by omega)) (fun w171 => ?_)
                        · refine l_aload_n rfl rfl ?_
                          refine l_gfi rfl rfl rfl rfl rfl ?_
                          have w172 : 0 ≤ (Xi S 904 157) ∧ (Xi S 904 157) ≤ 1 := hH.c _ _
                          refine l_if_ne rfl rfl (by unfold rg; omega) (fun w173 => ?_) (fun w174 => ?_)
                          · refine l_iconst rfl ?_
                            refine l_ireturn rfl rfl ?_
                            exact ⟨hH, hF, _, rfl, ⟨by omega, by omega⟩⟩
                          · refine l_aload_n rfl rfl ?_
                            refine l_aload_n rfl rfl ?_
                            refine l_iconst rfl ?_
                            refine l_iload rfl rfl ?_
                            have w175 : 0 ≤ Xi S 904 15 ∧ Xi S 904 15 ≤ 300 := hH.c _ _
                            refine l_callV rfl rfl rfl (t_mo_lexOf hH 4 (Xi S 904 158) ⟨by omega, by omega⟩ ⟨by omega, by omega⟩ _) ?_
                            rintro _ _ ⟨rfl, z177, rfl, w177, w176⟩
                            show Rl _ _ _ _ _ [iv z177, .ref 904] _ _
                            refine l_callV rfl rfl rfl (t_mo_putLex hH z177 ⟨by omega, by omega⟩ _) ?_
                            rintro _ T10 ⟨hHT10, w179, rfl⟩
                            have hFT10 : FR md_mo_saysInside S T10 := FR.tr hF w179 rfl
                            show Rl _ _ _ _ _ [] _ _
                            refine l_iconst rfl ?_
                            refine l_ireturn rfl rfl ?_
                            exact ⟨hHT10, hFT10, _, rfl, ⟨by omega, by omega⟩⟩
                    · refine l_iconst rfl ?_
                      refine l_ireturn rfl rfl ?_
                      exact ⟨hH, hF, _, rfl, ⟨by omega, by omega⟩⟩
                · refine l_iconst rfl ?_
                  refine l_goto rfl rfl ?_
                  refine l_istore_n rfl rfl rfl ?_
                  refine l_aload_n rfl rfl ?_
                  refine l_iload_n rfl rfl ?_
                  refine l_if_eq rfl rfl (by unfold rg; omega) (fun w180 => absurd w180 (by omega)) (fun w181 => ?_)
                  · refine l_iload_n rfl rfl ?_
                    refine l_iconst rfl ?_
                    refine l_iadd rfl ?_
                    refine l_goto rfl rfl ?_
                    have w182 : 0 ≤ Xi S 904 157 ∧ Xi S 904 157 ≤ 1 := hH.c _ _
                    have w183 : -1 ≤ Xi S 904 158 ∧ Xi S 904 158 ≤ 23 := hH.c _ _
                    have w184 : 0 ≤ Xi S 904 19 ∧ Xi S 904 19 ≤ 24 := hH.c _ _
                    refine l_callV rfl rfl rfl (t_mo_insideThing hH (v1 + 1) ⟨by omega, by omega⟩ (by first | assumption | exact (LXM_FR hF rfl (by assumption : LXM S))) _) ?_
                    rintro _ _ ⟨rfl, z187, rfl, w187, w185, w186⟩
                    show Rl _ _ _ _ _ [iv z187] _ _
                    refine l_istore_n rfl rfl rfl ?_
                    refine l_iload_n rfl rfl ?_
                    refine l_bipush rfl rfl ?_
                    refine l_icmp_ne rfl rfl (by unfold rg; omega) (by unfold rg; omega) (fun w188 => ?_) (fun w189 => ?_)
                    · refine l_iload_n rfl rfl ?_
                      refine l_bipush rfl rfl ?_
                      refine l_icmp_ne rfl rfl (by unfold rg; omega) (by unfold rg; omega) (fun w190 => ?_) (fun w191 => ?_)
                      · refine l_iload_n rfl rfl ?_
                        refine l_istore rfl rfl rfl ?_
                        refine l_iload_n rfl rfl ?_
                        refine l_if_ne rfl rfl (by unfold rg; omega) (fun w192 => ?_) (fun w193 => absurd w193 (by omega))
                        · refine l_aload_n rfl rfl ?_
                          refine l_iconst rfl ?_
                          refine l_iload_n rfl rfl ?_
                          refine l_iconst rfl ?_
                          refine l_isub rfl ?_
                          have w194 : 0 ≤ Xi S 904 15 ∧ Xi S 904 15 ≤ 300 := hH.c _ _
                          refine l_callV rfl rfl rfl (t_mo_foundIn hH 1 (v1 - 1) ⟨by omega, by omega⟩ ⟨by omega, by omega⟩ (by first | assumption | omega) _) ?_
                          rintro _ _ ⟨rfl, z196, rfl, w196, w195⟩
                          show Rl _ _ _ _ _ [iv z196] _ _
                          refine l_istore rfl rfl rfl ?_
                          refine l_iload rfl rfl ?_
                          refine l_iconst rfl ?_
                          refine l_icmp_eq rfl rfl (by unfold rg; omega) (by unfold rg; omega) (fun w197 => ?_) (fun w198 => ?_)
                          · refine l_iconst rfl ?_
                            refine l_istore rfl rfl rfl ?_
                            refine l_aload_n rfl rfl ?_
                            refine l_gfi rfl rfl rfl rfl rfl ?_
                            have w199 : 0 ≤ (Xi S 904 157) ∧ (Xi S 904 157) ≤ 1 := hH.c _ _
                            refine l_if_eq rfl rfl (by unfold rg; omega) (fun w200 => ?_) (fun w201 => ?_)
                            · refine l_aload_n rfl rfl ?_
                              refine l_gfr rfl rfl rfl rfl rfl (hH.r 904 20 918 rfl) ?_
                              refine l_iload rfl rfl ?_
                              refine l_iaload (n := 24) rfl rfl (by omega) (by omega) (by unfold rg; omega) ?_
                              have w202 : 0 ≤ (Xi S 918 ((z187).toNat)) ∧ (Xi S 918 ((z187).toNat)) ≤ 15 := hH.c _ _
                              refine l_istore rfl rfl rfl ?_
                              refine l_iload rfl rfl ?_
                              refine l_iconst rfl ?_
                              refine l_icmp_eq rfl rfl (by unfold rg; omega) (by unfold rg; omega) (fun w203 => ?_) (fun w204 => absurd w204 (by omega))
                              · refine l_iconst rfl ?_
                                refine l_ireturn rfl rfl ?_
                                exact ⟨hH, hF, _, rfl, ⟨by omega, by omega⟩⟩
                            · refine l_aload_n rfl rfl ?_
                              refine l_iload_n rfl rfl ?_
                              refine l_callV rfl rfl rfl (t_mo_kindOfThing hH z187 ⟨by omega, by omega⟩ (by first | assumption | omega) _) ?_
                              rintro _ _ ⟨rfl, z205, rfl, w205⟩
                              show Rl _ _ _ _ _ [iv z205] _ _
                              refine l_goto rfl rfl ?_
                              refine l_istore rfl rfl rfl ?_
                              refine l_iload rfl rfl ?_
                              refine l_iconst rfl ?_
                              refine l_icmp_eq rfl rfl (by unfold rg; omega) (by unfold rg; omega) (fun w206 => ?_) (fun w207 => absurd w207 (by omega))
                              · refine l_iconst rfl ?_
                                refine l_ireturn rfl rfl ?_
                                exact ⟨hH, hF, _, rfl, ⟨by omega, by omega⟩⟩
                          · refine l_aload_n rfl rfl ?_
                            refine l_gfr rfl rfl rfl rfl rfl (hH.r 904 12 914 rfl) ?_
                            refine l_iload rfl rfl ?_
                            refine l_iaload (n := 300) rfl rfl (by omega) (by omega) (by unfold rg; omega) ?_
                            have w208 : 0 ≤ (Xi S 914 ((z196).toNat)) ∧ (Xi S 914 ((z196).toNat)) ≤ 12 := hH.c _ _
                            refine l_bipush rfl rfl ?_
                            refine l_icmp_ne rfl rfl (by unfold rg; omega) (by unfold rg; omega) (fun w209 => ?_) (fun w210 => ?_)
                            · refine l_iconst rfl ?_
                              refine l_istore rfl rfl rfl ?_
                              refine l_aload_n rfl rfl ?_
                              refine l_gfi rfl rfl rfl rfl rfl ?_
                              have w211 : 0 ≤ (Xi S 904 157) ∧ (Xi S 904 157) ≤ 1 := hH.c _ _
                              refine l_if_eq rfl rfl (by unfold rg; omega) (fun w212 => ?_) (fun w213 => ?_)
                              · refine l_aload_n rfl rfl ?_
                                refine l_gfr rfl rfl rfl rfl rfl (hH.r 904 20 918 rfl) ?_
                                refine l_iload rfl rfl ?_
                                refine l_iaload (n := 24) rfl rfl (by omega) (by omega) (by unfold rg; omega) ?_
                                have w214 : 0 ≤ (Xi S 918 ((z187).toNat)) ∧ (Xi S 918 ((z187).toNat)) ≤ 15 := hH.c _ _
                                refine l_istore rfl rfl rfl ?_
                                refine l_iload rfl rfl ?_
                                refine l_iconst rfl ?_
                                refine l_icmp_eq rfl rfl (by unfold rg; omega) (by unfold rg; omega) (fun w215 => ?_) (fun w216 => absurd w216 (by omega))
                                · refine l_iconst rfl ?_
                                  refine l_ireturn rfl rfl ?_
                                  exact ⟨hH, hF, _, rfl, ⟨by omega, by omega⟩⟩
                              · refine l_aload_n rfl rfl ?_
                                refine l_iload_n rfl rfl ?_
                                refine l_callV rfl rfl rfl (t_mo_kindOfThing hH z187 ⟨by omega, by omega⟩ (by first | assumption | omega) _) ?_
                                rintro _ _ ⟨rfl, z217, rfl, w217⟩
                                show Rl _ _ _ _ _ [iv z217] _ _
                                refine l_goto rfl rfl ?_
                                refine l_istore rfl rfl rfl ?_
                                refine l_iload rfl rfl ?_
                                refine l_iconst rfl ?_
                                refine l_icmp_eq rfl rfl (by unfold rg; omega) (by unfold rg; omega) (fun w218 => ?_) (fun w219 => absurd w219 (by omega))
                                · refine l_iconst rfl ?_
                                  refine l_ireturn rfl rfl ?_
                                  exact ⟨hH, hF, _, rfl, ⟨by omega, by omega⟩⟩
                            · refine l_aload_n rfl rfl ?_
                              refine l_gfr rfl rfl rfl rfl rfl (hH.r 904 13 915 rfl) ?_
                              refine l_iload rfl rfl ?_
                              refine l_iaload (n := 300) rfl rfl (by omega) (by omega) (by unfold rg; omega) ?_
                              have w220 : 0 ≤ (Xi S 915 ((z196).toNat)) ∧ (Xi S 915 ((z196).toNat)) ≤ 63 := hH.c _ _
                              have x184 : (Xi S 915 ((z196).toNat)) < Xi S 904 32 := by have t := lxm (s := 7) hM (k := z196) (by omega) (by omega) (by omega); rw [cM7] at t; exact t
                              refine l_goto rfl rfl ?_
                              refine l_istore rfl rfl rfl ?_
                              refine l_aload_n rfl rfl ?_
                              refine l_gfi rfl rfl rfl rfl rfl ?_
                              have w221 : 0 ≤ (Xi S 904 157) ∧ (Xi S 904 157) ≤ 1 := hH.c _ _
                              refine l_if_eq rfl rfl (by unfold rg; omega) (fun w222 => ?_) (fun w223 => ?_)
                              · refine l_aload_n rfl rfl ?_
                                refine l_gfr rfl rfl rfl rfl rfl (hH.r 904 20 918 rfl) ?_
                                refine l_iload rfl rfl ?_
                                refine l_iaload (n := 24) rfl rfl (by omega) (by omega) (by unfold rg; omega) ?_
                                have w224 : 0 ≤ (Xi S 918 ((z187).toNat)) ∧ (Xi S 918 ((z187).toNat)) ≤ 15 := hH.c _ _
                                refine l_istore rfl rfl rfl ?_
                                refine l_iload rfl rfl ?_
                                refine l_iconst rfl ?_
                                refine l_icmp_eq rfl rfl (by unfold rg; omega) (by unfold rg; omega) (fun w225 => ?_) (fun w226 => ?_)
                                · refine l_iconst rfl ?_
                                  refine l_ireturn rfl rfl ?_
                                  exact ⟨hH, hF, _, rfl, ⟨by omega, by omega⟩⟩
                                · refine l_aload_n rfl rfl ?_
                                  refine l_iload rfl rfl ?_
                                  refine l_iload rfl rfl ?_
                                  refine l_callV rfl rfl rfl (t_mo_has hH (Xi S 918 ((z187).toNat)) (Xi S 915 ((z196).toNat)) ⟨by omega, by omega⟩ ⟨by omega, by omega⟩ (by first | assumption | exact (ABV_FR hF rfl (by assumption : ABV S))) _) ?_
                                  rintro _ _ ⟨rfl, z228, rfl, w228, w227⟩
                                  show Rl _ _ _ _ _ [iv z228] _ _
                                  refine l_if_ne rfl rfl (by unfold rg; omega) (fun w229 => ?_) (fun w230 => ?_)
                                  · refine l_aload_n rfl rfl ?_
                                    refine l_gfi rfl rfl rfl rfl rfl ?_
                                    refine l_if_ne rfl rfl (by unfold rg; omega) (fun w231 => ?_) (fun w232 => ?_)
                                    · refine l_iconst rfl ?_
                                      refine l_ireturn rfl rfl ?_
                                      exact ⟨hH, hF, _, rfl, ⟨by omega, by omega⟩⟩
                                    · refine l_aload_n rfl rfl ?_
                                      refine l_iload rfl rfl ?_
                                      refine l_iload rfl rfl ?_
                                      have w233 : 0 ≤ Xi S 904 19 ∧ Xi S 904 19 ≤ 24 := hH.c _ _
                                      refine l_callV rfl rfl rfl (t_mo_putProperty hH z187 (Xi S 915 ((z196).toNat)) ⟨by omega, by omega⟩ ⟨by omega, by omega⟩ (by first | assumption | exact (ABV_FR hF rfl (by assumption : ABV S))) (by first | assumption | exact (TXM_FR hF rfl (by assumption : TXM S))) (by first | assumption | omega) _) ?_
                                      rintro _ T11 ⟨hHT11, w235, rfl⟩
                                      have hFT11 : FR md_mo_saysInside S T11 := FR.tr hF w235 rfl
                                      show Rl _ _ _ _ _ [] _ _
                                      refine l_iconst rfl ?_
                                      refine l_ireturn rfl rfl ?_
                                      exact ⟨hHT11, hFT11, _, rfl, ⟨by omega, by omega⟩⟩
                                  · refine l_iconst rfl ?_
                                    refine l_ireturn rfl rfl ?_
                                    exact ⟨hH, hF, _, rfl, ⟨by omega, by omega⟩⟩
                              · refine l_aload_n rfl rfl ?_
                                refine l_iload_n rfl rfl ?_
                                refine l_callV rfl rfl rfl (t_mo_kindOfThing hH z187 ⟨by omega, by omega⟩ (by first | assumption | omega) _) ?_
                                rintro _ _ ⟨rfl, z236, rfl, w236⟩
                                show Rl _ _ _ _ _ [iv z236] _ _
                                refine l_goto rfl rfl ?_
                                refine l_istore rfl rfl rfl ?_
                                refine l_iload rfl rfl ?_
                                refine l_iconst rfl ?_
                                refine l_icmp_eq rfl rfl (by unfold rg; omega) (by unfold rg; omega) (fun w237 => ?_) (fun w238 => ?_)
                                · refine l_iconst rfl ?_
                                  refine l_ireturn rfl rfl ?_
                                  exact ⟨hH, hF, _, rfl, ⟨by omega, by omega⟩⟩
                                · refine l_aload_n rfl rfl ?_
                                  refine l_iload rfl rfl ?_
                                  refine l_iload rfl rfl ?_
                                  refine l_callV rfl rfl rfl (t_mo_has hH z236 (Xi S 915 ((z196).toNat)) ⟨by omega, by omega⟩ ⟨by omega, by omega⟩ (by first | assumption | exact (ABV_FR hF rfl (by assumption : ABV S))) _) ?_
                                  rintro _ _ ⟨rfl, z240, rfl, w240, w239⟩
                                  show Rl _ _ _ _ _ [iv z240] _ _
                                  refine l_if_ne rfl rfl (by unfold rg; omega) (fun w241 => ?_) (fun w242 => ?_)
                                  · refine l_aload_n rfl rfl ?_
                                    refine l_gfi rfl rfl rfl rfl rfl ?_
                                    refine l_if_ne rfl rfl (by unfold rg; omega) (fun w243 => ?_) (fun w244 => ?_)
                                    · refine l_iconst rfl ?_
                                      refine l_ireturn rfl rfl ?_
                                      exact ⟨hH, hF, _, rfl, ⟨by omega, by omega⟩⟩
                                    · refine l_aload_n rfl rfl ?_
                                      refine l_iload rfl rfl ?_
                                      refine l_iload rfl rfl ?_
                                      have w245 : 0 ≤ Xi S 904 19 ∧ Xi S 904 19 ≤ 24 := hH.c _ _
                                      refine l_callV rfl rfl rfl (t_mo_putProperty hH z187 (Xi S 915 ((z196).toNat)) ⟨by omega, by omega⟩ ⟨by omega, by omega⟩ (by first | assumption | exact (ABV_FR hF rfl (by assumption : ABV S))) (by first | assumption | exact (TXM_FR hF rfl (by assumption : TXM S))) (by first | assumption | omega) _) ?_
                                      rintro _ T12 ⟨hHT12, w247, rfl⟩
                                      have hFT12 : FR md_mo_saysInside S T12 := FR.tr hF w247 rfl
                                      show Rl _ _ _ _ _ [] _ _
                                      refine l_iconst rfl ?_
                                      refine l_ireturn rfl rfl ?_
                                      exact ⟨hHT12, hFT12, _, rfl, ⟨by omega, by omega⟩⟩
                                  · refine l_iconst rfl ?_
                                    refine l_ireturn rfl rfl ?_
                                    exact ⟨hH, hF, _, rfl, ⟨by omega, by omega⟩⟩
                      · refine l_aload_n rfl rfl ?_
                        refine l_gfi rfl rfl rfl rfl rfl ?_
                        refine l_goto rfl rfl ?_
                        refine l_istore rfl rfl rfl ?_
                        refine l_iload_n rfl rfl ?_
                        refine l_if_ne rfl rfl (by unfold rg; omega) (fun w248 => ?_) (fun w249 => absurd w249 (by omega))
                        · refine l_aload_n rfl rfl ?_
                          refine l_iconst rfl ?_
                          refine l_iload_n rfl rfl ?_
                          refine l_iconst rfl ?_
                          refine l_isub rfl ?_
                          have w250 : 0 ≤ Xi S 904 15 ∧ Xi S 904 15 ≤ 300 := hH.c _ _
                          refine l_callV rfl rfl rfl (t_mo_foundIn hH 1 (v1 - 1) ⟨by omega, by omega⟩ ⟨by omega, by omega⟩ (by first | assumption | omega) _) ?_
                          rintro _ _ ⟨rfl, z252, rfl, w252, w251⟩
                          show Rl _ _ _ _ _ [iv z252] _ _
                          refine l_istore rfl rfl rfl ?_
                          refine l_iload rfl rfl ?_
                          refine l_iconst rfl ?_
                          refine l_icmp_eq rfl rfl (by unfold rg; omega) (by unfold rg; omega) (fun w253 => ?_) (fun w254 => ?_)
                          · refine l_iconst rfl ?_
                            refine l_istore rfl rfl rfl ?_
                            refine l_aload_n rfl rfl ?_
                            refine l_gfi rfl rfl rfl rfl rfl ?_
                            have w255 : 0 ≤ (Xi S 904 157) ∧ (Xi S 904 157) ≤ 1 := hH.c _ _
                            refine l_if_eq rfl rfl (by unfold rg; omega) (fun w256 => ?_) (fun w257 => ?_)
                            · refine l_aload_n rfl rfl ?_
                              refine l_gfr rfl rfl rfl rfl rfl (hH.r 904 20 918 rfl) ?_
                              refine l_iload rfl rfl ?_
                              refine l_iaload (n := 24) rfl rfl (by omega) (by omega) (by unfold rg; omega) ?_
                              have w258 : 0 ≤ (Xi S 918 (((Xi S 904 158)).toNat)) ∧ (Xi S 918 (((Xi S 904 158)).toNat)) ≤ 15 := hH.c _ _
                              refine l_istore rfl rfl rfl ?_
                              refine l_iload rfl rfl ?_
                              refine l_iconst rfl ?_
                              refine l_icmp_eq rfl rfl (by unfold rg; omega) (by unfold rg; omega) (fun w259 => ?_) (fun w260 => absurd w260 (by omega))
                              · refine l_iconst rfl ?_
                                refine l_ireturn rfl rfl ?_
                                exact ⟨hH, hF, _, rfl, ⟨by omega, by omega⟩⟩
                            · refine l_aload_n rfl rfl ?_
                              refine l_iload_n rfl rfl ?_
                              refine l_callV rfl rfl rfl (t_mo_kindOfThing hH z187 ⟨by omega, by omega⟩ (by first | assumption | omega) _) ?_
                              rintro _ _ ⟨rfl, z261, rfl, w261⟩
                              show Rl _ _ _ _ _ [iv z261] _ _
                              refine l_goto rfl rfl ?_
                              refine l_istore rfl rfl rfl ?_
                              refine l_iload rfl rfl ?_
                              refine l_iconst rfl ?_
                              refine l_icmp_eq rfl rfl (by unfold rg; omega) (by unfold rg; omega) (fun w262 => ?_) (fun w263 => absurd w263 (by omega))
                              · refine l_iconst rfl ?_
                                refine l_ireturn rfl rfl ?_
                                exact ⟨hH, hF, _, rfl, ⟨by omega, by omega⟩⟩
                          · refine l_aload_n rfl rfl ?_
                            refine l_gfr rfl rfl rfl rfl rfl (hH.r 904 12 914 rfl) ?_
                            refine l_iload rfl rfl ?_
                            refine l_iaload (n := 300) rfl rfl (by omega) (by omega) (by unfold rg; omega) ?_
                            have w264 : 0 ≤ (Xi S 914 ((z252).toNat)) ∧ (Xi S 914 ((z252).toNat)) ≤ 12 := hH.c _ _
                            refine l_bipush rfl rfl ?_
                            refine l_icmp_ne rfl rfl (by unfold rg; omega) (by unfold rg; omega) (fun w265 => ?_) (fun w266 => ?_)
                            · refine l_iconst rfl ?_
                              refine l_istore rfl rfl rfl ?_
                              refine l_aload_n rfl rfl ?_
                              refine l_gfi rfl rfl rfl rfl rfl ?_
                              have w267 : 0 ≤ (Xi S 904 157) ∧ (Xi S 904 157) ≤ 1 := hH.c _ _
                              refine l_if_eq rfl rfl (by unfold rg; omega) (fun w268 => ?_) (fun w269 => ?_)
                              · refine l_aload_n rfl rfl ?_
                                refine l_gfr rfl rfl rfl rfl rfl (hH.r 904 20 918 rfl) ?_
                                refine l_iload rfl rfl ?_
                                refine l_iaload (n := 24) rfl rfl (by omega) (by omega) (by unfold rg; omega) ?_
                                have w270 : 0 ≤ (Xi S 918 (((Xi S 904 158)).toNat)) ∧ (Xi S 918 (((Xi S 904 158)).toNat)) ≤ 15 := hH.c _ _
                                refine l_istore rfl rfl rfl ?_
                                refine l_iload rfl rfl ?_
                                refine l_iconst rfl ?_
                                refine l_icmp_eq rfl rfl (by unfold rg; omega) (by unfold rg; omega) (fun w271 => ?_) (fun w272 => absurd w272 (by omega))
                                · refine l_iconst rfl ?_
                                  refine l_ireturn rfl rfl ?_
                                  exact ⟨hH, hF, _, rfl, ⟨by omega, by omega⟩⟩
                              · refine l_aload_n rfl rfl ?_
                                refine l_iload_n rfl rfl ?_
                                refine l_callV rfl rfl rfl (t_mo_kindOfThing hH z187 ⟨by omega, by omega⟩ (by first | assumption | omega) _) ?_
                                rintro _ _ ⟨rfl, z273, rfl, w273⟩
                                show Rl _ _ _ _ _ [iv z273] _ _
                                refine l_goto rfl rfl ?_
                                refine l_istore rfl rfl rfl ?_
                                refine l_iload rfl rfl ?_
                                refine l_iconst rfl ?_
                                refine l_icmp_eq rfl rfl (by unfold rg; omega) (by unfold rg; omega) (fun w274 => ?_) (fun w275 => absurd w275 (by omega))
                                · refine l_iconst rfl ?_
                                  refine l_ireturn rfl rfl ?_
                                  exact ⟨hH, hF, _, rfl, ⟨by omega, by omega⟩⟩
                            · refine l_aload_n rfl rfl ?_
                              refine l_gfr rfl rfl rfl rfl rfl (hH.r 904 13 915 rfl) ?_
                              refine l_iload rfl rfl ?_
                              refine l_iaload (n := 300) rfl rfl (by omega) (by omega) (by unfold rg; omega) ?_
                              have w276 : 0 ≤ (Xi S 915 ((z252).toNat)) ∧ (Xi S 915 ((z252).toNat)) ≤ 63 := hH.c _ _
                              have x184 : (Xi S 915 ((z252).toNat)) < Xi S 904 32 := by have t := lxm (s := 7) hM (k := z252) (by omega) (by omega) (by omega); rw [cM7] at t; exact t
                              refine l_goto rfl rfl ?_
                              refine l_istore rfl rfl rfl ?_
                              refine l_aload_n rfl rfl ?_
                              refine l_gfi rfl rfl rfl rfl rfl ?_
                              have w277 : 0 ≤ (Xi S 904 157) ∧ (Xi S 904 157) ≤ 1 := hH.c _ _
                              refine l_if_eq rfl rfl (by unfold rg; omega) (fun w278 => ?_) (fun w279 => ?_)
                              · refine l_aload_n rfl rfl ?_
                                refine l_gfr rfl rfl rfl rfl rfl (hH.r 904 20 918 rfl) ?_
                                refine l_iload rfl rfl ?_
                                refine l_iaload (n := 24) rfl rfl (by omega) (by omega) (by unfold rg; omega) ?_
                                have w280 : 0 ≤ (Xi S 918 (((Xi S 904 158)).toNat)) ∧ (Xi S 918 (((Xi S 904 158)).toNat)) ≤ 15 := hH.c _ _
                                refine l_istore rfl rfl rfl ?_
                                refine l_iload rfl rfl ?_
                                refine l_iconst rfl ?_
                                refine l_icmp_eq rfl rfl (by unfold rg; omega) (by unfold rg; omega) (fun w281 => ?_) (fun w282 => ?_)
                                · refine l_iconst rfl ?_
                                  refine l_ireturn rfl rfl ?_
                                  exact ⟨hH, hF, _, rfl, ⟨by omega, by omega⟩⟩
                                · refine l_aload_n rfl rfl ?_
                                  refine l_iload rfl rfl ?_
                                  refine l_iload rfl rfl ?_
                                  refine l_callV rfl rfl rfl (t_mo_has hH (Xi S 918 (((Xi S 904 158)).toNat)) (Xi S 915 ((z252).toNat)) ⟨by omega, by omega⟩ ⟨by omega, by omega⟩ (by first | assumption | exact (ABV_FR hF rfl (by assumption : ABV S))) _) ?_
                                  rintro _ _ ⟨rfl, z284, rfl, w284, w283⟩
                                  show Rl _ _ _ _ _ [iv z284] _ _
                                  refine l_if_ne rfl rfl (by unfold rg; omega) (fun w285 => ?_) (fun w286 => ?_)
                                  · refine l_aload_n rfl rfl ?_
                                    refine l_gfi rfl rfl rfl rfl rfl ?_
                                    refine l_if_ne rfl rfl (by unfold rg; omega) (fun w287 => ?_) (fun w288 => ?_)
                                    · refine l_iconst rfl ?_
                                      refine l_ireturn rfl rfl ?_
                                      exact ⟨hH, hF, _, rfl, ⟨by omega, by omega⟩⟩
                                    · refine l_aload_n rfl rfl ?_
                                      refine l_iload rfl rfl ?_
                                      refine l_iload rfl rfl ?_
                                      have w289 : 0 ≤ Xi S 904 19 ∧ Xi S 904 19 ≤ 24 := hH.c _ _
                                      refine l_callV rfl rfl rfl (t_mo_putProperty hH (Xi S 904 158) (Xi S 915 ((z252).toNat)) ⟨by omega, by omega⟩ ⟨by omega, by omega⟩ (by first | assumption | exact (ABV_FR hF rfl (by assumption : ABV S))) (by first | assumption | exact (TXM_FR hF rfl (by assumption : TXM S))) (by first | assumption | omega) _) ?_
                                      rintro _ T13 ⟨hHT13, w291, rfl⟩
                                      have hFT13 : FR md_mo_saysInside S T13 := FR.tr hF w291 rfl
                                      show Rl _ _ _ _ _ [] _ _
                                      refine l_iconst rfl ?_
                                      refine l_ireturn rfl rfl ?_
                                      exact ⟨hHT13, hFT13, _, rfl, ⟨by omega, by omega⟩⟩
                                  · refine l_iconst rfl ?_
                                    refine l_ireturn rfl rfl ?_
                                    exact ⟨hH, hF, _, rfl, ⟨by omega, by omega⟩⟩
                              · refine l_aload_n rfl rfl ?_
                                refine l_iload_n rfl rfl ?_
                                refine l_callV rfl rfl rfl (t_mo_kindOfThing hH z187 ⟨by omega, by omega⟩ (by first | assumption | omega) _) ?_
                                rintro _ _ ⟨rfl, z292, rfl, w292⟩
                                show Rl _ _ _ _ _ [iv z292] _ _
                                refine l_goto rfl rfl ?_
                                refine l_istore rfl rfl rfl ?_
                                refine l_iload rfl rfl ?_
                                refine l_iconst rfl ?_
                                refine l_icmp_eq rfl rfl (by unfold rg; omega) (by unfold rg; omega) (fun w293 => ?_) (fun w294 => ?_)
                                · refine l_iconst rfl ?_
                                  refine l_ireturn rfl rfl ?_
                                  exact ⟨hH, hF, _, rfl, ⟨by omega, by omega⟩⟩
                                · refine l_aload_n rfl rfl ?_
                                  refine l_iload rfl rfl ?_
                                  refine l_iload rfl rfl ?_
                                  refine l_callV rfl rfl rfl (t_mo_has hH z292 (Xi S 915 ((z252).toNat)) ⟨by omega, by omega⟩ ⟨by omega, by omega⟩ (by first | assumption | exact (ABV_FR hF rfl (by assumption : ABV S))) _) ?_
                                  rintro _ _ ⟨rfl, z296, rfl, w296, w295⟩
                                  show Rl _ _ _ _ _ [iv z296] _ _
                                  refine l_if_ne rfl rfl (by unfold rg; omega) (fun w297 => ?_) (fun w298 => ?_)
                                  · refine l_aload_n rfl rfl ?_
                                    refine l_gfi rfl rfl rfl rfl rfl ?_
                                    refine l_if_ne rfl rfl (by unfold rg; omega) (fun w299 => ?_) (fun w300 => ?_)
                                    · refine l_iconst rfl ?_
                                      refine l_ireturn rfl rfl ?_
                                      exact ⟨hH, hF, _, rfl, ⟨by omega, by omega⟩⟩
                                    · refine l_aload_n rfl rfl ?_
                                      refine l_iload rfl rfl ?_
                                      refine l_iload rfl rfl ?_
                                      have w301 : 0 ≤ Xi S 904 19 ∧ Xi S 904 19 ≤ 24 := hH.c _ _
                                      refine l_callV rfl rfl rfl (t_mo_putProperty hH (Xi S 904 158) (Xi S 915 ((z252).toNat)) ⟨by omega, by omega⟩ ⟨by omega, by omega⟩ (by first | assumption | exact (ABV_FR hF rfl (by assumption : ABV S))) (by first | assumption | exact (TXM_FR hF rfl (by assumption : TXM S))) (by first | assumption | omega) _) ?_
                                      rintro _ T14 ⟨hHT14, w303, rfl⟩
                                      have hFT14 : FR md_mo_saysInside S T14 := FR.tr hF w303 rfl
                                      show Rl _ _ _ _ _ [] _ _
                                      refine l_iconst rfl ?_
                                      refine l_ireturn rfl rfl ?_
                                      exact ⟨hHT14, hFT14, _, rfl, ⟨by omega, by omega⟩⟩
                                  · refine l_iconst rfl ?_
                                    refine l_ireturn rfl rfl ?_
                                    exact ⟨hH, hF, _, rfl, ⟨by omega, by omega⟩⟩
                    · refine l_iconst rfl ?_
                      refine l_ireturn rfl rfl ?_
                      exact ⟨hH, hF, _, rfl, ⟨by omega, by omega⟩⟩
      refine l_iload_n rfl rfl ?_
      refine l_aload_n rfl rfl ?_
      refine l_gfi rfl rfl rfl rfl rfl ?_
      have w304 : 0 ≤ (Xi S 904 160) ∧ (Xi S 904 160) ≤ 64 := hH.c _ _
      refine l_icmp_ge rfl rfl (by unfold rg; omega) (by unfold rg; omega) (fun w305 => ?_) (fun w306 => ?_)
      · exact Rl_weak (C30 (v1) (by omega)) (And.intro rfl (And.intro rfl (True.intro)))
      · refine l_aload_n rfl rfl ?_
        refine l_aload_n rfl rfl ?_
        refine l_gfr rfl rfl rfl rfl rfl (hH.r 904 159 994 rfl) ?_
        refine l_iload_n rfl rfl ?_
        refine l_laload (n := 64) rfl rfl (by omega) (by omega) (by unfold rg; omega) ?_
        have w307 : -9223372036854775808 ≤ (Xj S 994 ((v1).toNat)) ∧ (Xj S 994 ((v1).toNat)) < 9223372036854775808 := Xj_rg
        refine l_callV rfl rfl rfl (t_mo_keyOf hH (Xj S 994 ((v1).toNat)) _) ?_
        rintro _ _ ⟨rfl, z308, rfl, w308⟩
        show Rl _ _ _ _ _ [iv z308] _ _
        refine l_iconst rfl ?_
        refine l_icmp_ne rfl rfl (by unfold rg; omega) (by unfold rg; omega) (fun w309 => ?_) (fun w310 => ?_)
        · exact Rl_weak (C30 (v1) (by omega)) (And.intro rfl (And.intro rfl (True.intro)))
        · refine l_iinc rfl rfl rfl rfl ?_
          refine l_goto rfl rfl ?_
          exact Rl_weak (ih2 _ (by omega) ((v1 + 1)) (by omega) rfl) (And.intro rfl (And.intro rfl (True.intro)))
  refine l_iconst rfl ?_
  refine l_istore_n rfl rfl rfl ?_
  exact Rl_weak (C2 _ (1) (by omega) rfl) (And.intro rfl (And.intro rfl (True.intro)))

