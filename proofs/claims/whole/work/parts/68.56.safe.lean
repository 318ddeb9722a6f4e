/-! SAFETY of methods: printed by wip/safe (vc.py, decl.py) -/
/-! SAFETY of the reference: words, tests, rules as turns want them -/
def cM (S : sS) (s : Int) : Int := if s = 0 ∨ s = 1 then Xi S 904 16 else if s = 2 ∨ s = 3 then Xi S 904 18 else if s = 4 then Xi S 904 19 else if s = 5 then Xi S 904 23 else if s = 6 then Xi S 904 30 else if s = 7 then Xi S 904 32 else if s = 8 then Xi S 904 41 else if s = 9 ∨ s = 10 then Xi S 904 47 else if s = 11 then Xi S 904 49 else 6
def LXM (S : sS) : Prop := ∀ k : Nat, (k : Int) < Xi S 904 15 → Xi S 915 k < cM S (Xi S 914 k)
theorem lxm {S : sS} {k s : Int} (h : LXM S) (h0 : 0 ≤ k) (hk : k < Xi S 904 15) (hs : Xi S 914 k.toNat = s) : Xi S 915 k.toNat < cM S s := by
  have t := h k.toNat (by omega)
  rw [hs] at t
  exact t
theorem cM0 {S : sS} : cM S 0 = Xi S 904 16 := rfl
theorem cM1 {S : sS} : cM S 1 = Xi S 904 16 := rfl
theorem cM2 {S : sS} : cM S 2 = Xi S 904 18 := rfl
theorem cM3 {S : sS} : cM S 3 = Xi S 904 18 := rfl
theorem cM4 {S : sS} : cM S 4 = Xi S 904 19 := rfl
theorem cM5 {S : sS} : cM S 5 = Xi S 904 23 := rfl
theorem cM6 {S : sS} : cM S 6 = Xi S 904 30 := rfl
theorem cM7 {S : sS} : cM S 7 = Xi S 904 32 := rfl
theorem cM8 {S : sS} : cM S 8 = Xi S 904 41 := rfl
theorem cM9 {S : sS} : cM S 9 = Xi S 904 47 := rfl
theorem cM10 {S : sS} : cM S 10 = Xi S 904 47 := rfl
theorem cM11 {S : sS} : cM S 11 = Xi S 904 49 := rfl
theorem cM12 {S : sS} : cM S 12 = 6 := rfl
def jLX : List Nat := [15, 16, 18, 19, 23, 30, 32, 41, 47, 49]
theorem LXM_FR {l : List rec} {S T : sS} (h : FR l S T) (e : (kdis l [(914, 916)] && mD l jLX) = true) (hL : LXM S) : LXM T := by
  rw [Bool.and_eq_true] at e
  have k := h.smk e.1
  intro i hi
  have c : ∀ s, cM T s = cM S s := fun s => by
    unfold cM
    rw [mD_x h e.2 16 (by decide), mD_x h e.2 18 (by decide), mD_x h e.2 19 (by decide), mD_x h e.2 23 (by decide), mD_x h e.2 30 (by decide), mD_x h e.2 32 (by decide), mD_x h e.2 41 (by decide), mD_x h e.2 47 (by decide), mD_x h e.2 49 (by decide)]
  rw [mD_x h e.2 15 (by decide)] at hi
  rw [c, k.x 914 rfl, k.x 915 rfl]
  exact hL i hi
def thK (S : sS) (b c : Prop) (x : Int) : Prop := (0 ≤ x ∧ x < Xi S 904 19) ∨ (x = -1 ∧ b) ∨ (x = -2 ∧ c)
def ADM (S : sS) (a : Int) : Prop := (0 ≤ a ∧ a < Xi S 904 23) ∨ (100 ≤ a ∧ a % 100 < Xi S 904 32 ∧ a ≤ 6411)
def TQ (S : sS) (b c : Prop) (q : Nat) : Prop := thK S b c (Xi S 971 q) ∧ (Xi S 969 q = 5 → thK S b c (Xi S 975 q) ∧ 0 ≤ Xi S 972 q ∧ Xi S 972 q ≤ 5) ∧ (Xi S 969 q = 3 → ADM S (Xi S 973 q)) ∧ (Xi S 969 q ≤ 2 → 0 ≤ Xi S 972 q ∧ Xi S 972 q < Xi S 904 32) ∧ (Xi S 969 q = 0 → OKT (Xi S 973 q) (Xi S 974 q))
def DEFM (S : sS) : Prop := ∀ a : Nat, (a : Int) < Xi S 904 23 → 0 < Xi S 924 a → Xi S 923 a + Xi S 924 a ≤ 2400 ∧ ∀ k : Nat, (k : Int) < Xi S 924 a → TQ S True False ((Xi S 923 a).toNat + k)
def kQ : List (Nat × Nat) := [(969, 976), (923, 925)]
theorem TQ_FR {l : List rec} {S T : sS} {b c : Prop} {q : Nat} (h : FR l S T) (e : (kdis l kQ && mD l [19, 23, 32]) = true) (ht : TQ S b c q) : TQ T b c q := by
  rw [Bool.and_eq_true] at e
  have k := h.smk e.1
  unfold TQ ADM thK
  rw [mD_x h e.2 23 (by decide), mD_x h e.2 19 (by decide), mD_x h e.2 32 (by decide), k.x 969 rfl, k.x 971 rfl, k.x 972 rfl, k.x 973 rfl, k.x 974 rfl, k.x 975 rfl]
  exact ht
theorem DEFM_FR {l : List rec} {S T : sS} (h : FR l S T) (e : (kdis l kQ && mD l [19, 23, 32]) = true) (hD : DEFM S) : DEFM T := by
  have e0 := e
  rw [Bool.and_eq_true] at e
  have k := h.smk e.1
  intro a ha hp
  rw [mD_x h e.2 23 (by decide)] at ha
  rw [k.x 924 rfl] at hp
  rw [k.x 923 rfl, k.x 924 rfl]
  obtain ⟨x, y⟩ := hD a ha hp
  exact ⟨x, fun i hi => TQ_FR h e0 (y i hi)⟩
theorem thk_i {S : sS} {b c : Prop} {x it noun z : Int} (h : thK S b c x) (hb : b → 0 ≤ it) (hc : c → 0 ≤ noun) (h1 : it < Xi S 904 19) (h2 : noun < Xi S 904 19) (hz : (x = -1 → z = it) ∧ (x = -2 → z = noun) ∧ (x ≠ -1 → x ≠ -2 → z = x)) : 0 ≤ z ∧ z < Xi S 904 19 := by
  rcases h with h | ⟨h, e⟩ | ⟨h, e⟩
  · omega
  · have := hb e; omega
  · have := hc e; omega
theorem TQ.mono {S : sS} {b c b2 c2 : Prop} {q : Nat} (hb : b → b2) (hc : c → c2) (h : TQ S b c q) : TQ S b2 c2 q := by
  have m : ∀ {x : Int}, thK S b c x → thK S b2 c2 x := fun t => t.elim Or.inl (fun u => u.elim (fun v => Or.inr (Or.inl ⟨v.1, hb v.2⟩)) (fun v => Or.inr (Or.inr ⟨v.1, hc v.2⟩)))
  exact ⟨m h.1, fun e => ⟨m (h.2.1 e).1, (h.2.1 e).2⟩, h.2.2⟩
theorem tq_at {S : sS} {c : Prop} {b : Prop} {a i q : Int} (h : DEFM S) (h0 : 0 ≤ a) (ha : a < Xi S 904 23) (hp : 0 < Xi S 924 a.toNat) (hi : 0 ≤ i) (hi2 : i < Xi S 924 a.toNat) (hf : 0 ≤ Xi S 923 a.toNat) (hq : q = Xi S 923 a.toNat + i) (hb : b) : TQ S b c q.toNat := by
  have t := (h a.toNat (by omega) hp).2 i.toNat (by omega)
  rw [show (Xi S 923 a.toNat).toNat + i.toNat = q.toNat by omega] at t
  exact t.mono (fun _ => hb) (fun f => f.elim)
abbrev Q_mo_isSameText (S : sS) (a : Int) (n : Int) (b : Int) (m : Int) : pst := fun r S1 => S = S1 ∧ (∃ z : Int, r = some (iv z) ∧ (0 ≤ z ∧ z ≤ 1))
set_option maxRecDepth 100000 in
theorem t_mo_isSameText {S : sS} (hH : HI S) (a : Int) (n : Int) (b : Int) (m : Int) (ha : -2147483648 ≤ a ∧ a ≤ 2147483647) (hn : -2147483648 ≤ n ∧ n ≤ 2147483647) (hb : -2147483648 ≤ b ∧ b ≤ 2147483647) (hm : -2147483648 ≤ m ∧ m ≤ 2147483647) (hA : OKT a n) (hB2 : OKT b m) (d : Nat) : Mt lay0 (d + 1) m_mo_isSameText [.ref 904, iv a, iv n, iv b, iv m] S (Q_mo_isSameText S a n b m) := by
  refine Mt_R rfl rfl ?_
  have ha5 : n = 0 ∨ (0 < n ∧ 0 ≤ a ∧ a + n ≤ 5000) := hA
  have hb5 : m = 0 ∨ (0 < m ∧ 0 ≤ b ∧ b + m ≤ 5000) := hB2
  have C16 : ∀ (n16 : Nat) (v5 : Int) (v6 : Int), (0 ≤ v5 ∧ v5 ≤ 1) → (0 ≤ v6 ∧ v6 ≤ 5000) → (v5 ≠ 0 → n = m) → n16 = (5001 - v6).toNat → Rl lay0 (d + 0) m_mo_isSameText 16 [(0, .ref 904), (1, iv a), (2, iv n), (3, iv b), (5, iv v5), (6, iv v6)] [] S (Q_mo_isSameText S a n b m) := by
    intro n16
    induction n16 using Nat.strongRecOn with
    | ind n16 ih16 =>
      intro v5 v6 w1 w2 w3 hm16
      refine l_iload rfl rfl ?_
      refine l_iload_n rfl rfl ?_
      refine l_icmp_ge rfl rfl (by unfold rg; omega) (by unfold rg; omega) (fun w4 => ?_) (fun w5 => ?_)
      · refine l_iload rfl rfl ?_
        refine l_ireturn rfl (retI_z (by omega)) ?_
        exact ⟨rfl, _, rfl, ⟨by omega, by omega⟩⟩
      · refine l_iload rfl rfl ?_
        refine l_if_eq rfl rfl (by unfold rg; omega) (fun w6 => ?_) (fun w7 => ?_)
        · refine l_iload rfl rfl ?_
          refine l_ireturn rfl (retI_z (by omega)) ?_
          exact ⟨rfl, _, rfl, ⟨by omega, by omega⟩⟩
        · refine l_aload_n rfl rfl ?_
          refine l_gfr rfl rfl rfl rfl rfl (hH.r 904 2 906 rfl) ?_
          refine l_iload_n rfl rfl ?_
          refine l_iload rfl rfl ?_
          refine l_iadd rfl ?_
          refine l_baload (n := 5000) rfl rfl rfl (by decide) (by omega) (by omega) (by unfold rg; omega) ?_
          have w8 : -128 ≤ (Xi S 906 (((a + v6)).toNat)) ∧ (Xi S 906 (((a + v6)).toNat)) ≤ 127 := hH.c _ _
          refine l_aload_n rfl rfl ?_
          refine l_gfr rfl rfl rfl rfl rfl (hH.r 904 2 906 rfl) ?_
          refine l_iload_n rfl rfl ?_
          refine l_iload rfl rfl ?_
          refine l_iadd rfl ?_
          refine l_baload (n := 5000) rfl rfl rfl (by decide) (by omega) (by omega) (by unfold rg; omega) ?_
          have w9 : -128 ≤ (Xi S 906 (((b + v6)).toNat)) ∧ (Xi S 906 (((b + v6)).toNat)) ≤ 127 := hH.c _ _
          refine l_icmp_ne rfl rfl (by unfold rg; omega) (by unfold rg; omega) (fun w10 => ?_) (fun w11 => ?_)
          · refine l_iconst rfl ?_
            refine l_istore rfl rfl rfl ?_
            refine l_iinc rfl rfl rfl rfl ?_
            refine l_goto rfl rfl ?_
            exact Rl_weak (ih16 _ (by omega) (0) ((v6 + 1)) (by omega) (by omega) (by omega) rfl) (And.intro rfl (And.intro rfl (And.intro rfl (And.intro rfl (And.intro rfl (And.intro rfl (True.intro)))))))
          · refine l_iconst rfl ?_
            refine l_goto rfl rfl ?_
            refine l_istore rfl rfl rfl ?_
            refine l_iinc rfl rfl rfl rfl ?_
            refine l_goto rfl rfl ?_
            exact Rl_weak (ih16 _ (by omega) (1) ((v6 + 1)) (by omega) (by omega) (by omega) rfl) (And.intro rfl (And.intro rfl (And.intro rfl (And.intro rfl (And.intro rfl (And.intro rfl (True.intro)))))))
  refine l_iload_n rfl rfl ?_
  refine l_iload rfl rfl ?_
  refine l_icmp_ne rfl rfl (by unfold rg; omega) (by unfold rg; omega) (fun w12 => ?_) (fun w13 => ?_)
  · refine l_iconst rfl ?_
    refine l_istore rfl rfl rfl ?_
    refine l_iconst rfl ?_
    refine l_istore rfl rfl rfl ?_
    exact Rl_weak (C16 _ (0) (0) (by omega) (by omega) (by omega) rfl) (And.intro rfl (And.intro rfl (And.intro rfl (And.intro rfl (And.intro rfl (And.intro rfl (True.intro)))))))
  · refine l_iconst rfl ?_
    refine l_goto rfl rfl ?_
    refine l_istore rfl rfl rfl ?_
    refine l_iconst rfl ?_
    refine l_istore rfl rfl rfl ?_
    exact Rl_weak (C16 _ (1) (0) (by omega) (by omega) (by omega) rfl) (And.intro rfl (And.intro rfl (And.intro rfl (And.intro rfl (And.intro rfl (And.intro rfl (True.intro)))))))
abbrev Q_mo_kindOfThing (S : sS) (th : Int) : pst := fun r S1 => S = S1 ∧ (∃ z : Int, r = some (iv z) ∧ (-1 ≤ z ∧ z ≤ 15))
set_option maxRecDepth 100000 in
theorem t_mo_kindOfThing {S : sS} (hH : HI S) (th : Int) (hth : -9 ≤ th ∧ th ≤ 23) (ht : th ≠ -9 → -2 ≤ th) (d : Nat) : Mt lay0 (d + 1) m_mo_kindOfThing [.ref 904, iv th] S (Q_mo_kindOfThing S th) := by
  refine Mt_R rfl rfl ?_
  refine l_iload_n rfl rfl ?_
  refine l_iconst rfl ?_
  refine l_icmp_ne rfl rfl (by unfold rg; omega) (by unfold rg; omega) (fun w1 => ?_) (fun w2 => ?_)
  · refine l_iload_n rfl rfl ?_
    refine l_bipush rfl rfl ?_
    refine l_icmp_ne rfl rfl (by unfold rg; omega) (by unfold rg; omega) (fun w3 => ?_) (fun w4 => ?_)
    · refine l_iload_n rfl rfl ?_
      refine l_bipush rfl rfl ?_
      refine l_icmp_ne rfl rfl (by unfold rg; omega) (by unfold rg; omega) (fun w5 => ?_) (fun w6 => ?_)
      · refine l_aload_n rfl rfl ?_
        refine l_gfr rfl rfl rfl rfl rfl (hH.r 904 20 918 rfl) ?_
        refine l_iload_n rfl rfl ?_
        refine l_iaload (n := 24) rfl rfl (by omega) (by omega) (by unfold rg; omega) ?_
        have w7 : 0 ≤ (Xi S 918 ((th).toNat)) ∧ (Xi S 918 ((th).toNat)) ≤ 15 := hH.c _ _
        refine l_ireturn rfl rfl ?_
        exact ⟨rfl, _, rfl, ⟨by omega, by omega⟩⟩
      · refine l_iconst rfl ?_
        refine l_goto rfl rfl ?_
        refine l_ireturn rfl rfl ?_
        exact ⟨rfl, _, rfl, ⟨by omega, by omega⟩⟩
    · refine l_aload_n rfl rfl ?_
      refine l_gfi rfl rfl rfl rfl rfl ?_
      have w8 : -1 ≤ (Xi S 904 116) ∧ (Xi S 904 116) ≤ 15 := hH.c _ _
      refine l_goto rfl rfl ?_
      refine l_ireturn rfl rfl ?_
      exact ⟨rfl, _, rfl, ⟨by omega, by omega⟩⟩
  · refine l_aload_n rfl rfl ?_
    refine l_gfi rfl rfl rfl rfl rfl ?_
    have w9 : -1 ≤ (Xi S 904 115) ∧ (Xi S 904 115) ≤ 15 := hH.c _ _
    refine l_goto rfl rfl ?_
    refine l_ireturn rfl rfl ?_
    exact ⟨rfl, _, rfl, ⟨by omega, by omega⟩⟩
abbrev Q_mo_foundIn (S : sS) (from_ : Int) (n : Int) : pst := fun r S1 => S = S1 ∧ (∃ z : Int, r = some (iv z) ∧ (-1 ≤ z ∧ z ≤ 299) ∧ (z ≠ -1 → z < Xi S 904 15))
set_option maxRecDepth 100000 in
theorem t_mo_foundIn {S : sS} (hH : HI S) (from_ : Int) (n : Int) (hfrom_ : 0 ≤ from_ ∧ from_ ≤ 64) (hn : -64 ≤ n ∧ n ≤ 64) (hn : from_ + n ≤ 64) (d : Nat) : Mt lay0 (d + 2) m_mo_foundIn [.ref 904, iv from_, iv n] S (Q_mo_foundIn S from_ n) := by
  refine Mt_R rfl rfl ?_
  have w1 : 0 ≤ Xi S 904 15 ∧ Xi S 904 15 ≤ 300 := hH.c _ _
  have C2 : ∀ (n2 : Nat) (v3 : Int), (0 ≤ v3 ∧ v3 ≤ 64) → n2 = (65 - v3).toNat → Rl lay0 (d + 1) m_mo_foundIn 2 [(0, .ref 904), (1, iv from_), (2, iv n), (3, iv v3)] [] S (Q_mo_foundIn S from_ n) := by
    intro n2
    induction n2 using Nat.strongRecOn with
    | ind n2 ih2 =>
      intro v3 w2 hm2
      refine l_iload_n rfl rfl ?_
      refine l_iload_n rfl rfl ?_
      refine l_icmp_ge rfl rfl (by unfold rg; omega) (by unfold rg; omega) (fun w3 => ?_) (fun w4 => ?_)
      · refine l_iload_n rfl rfl ?_
        refine l_iconst rfl ?_
        refine l_icmp_lt rfl rfl (by unfold rg; omega) (by unfold rg; omega) (fun w5 => ?_) (fun w6 => ?_)
        · refine l_iconst rfl ?_
          refine l_goto rfl rfl ?_
          refine l_ireturn rfl rfl ?_
          exact ⟨rfl, _, rfl, ⟨by omega, by omega⟩, (by first | assumption | omega)⟩
        · refine l_iload_n rfl rfl ?_
          refine l_iconst rfl ?_
          refine l_icmp_le rfl rfl (by unfold rg; omega) (by unfold rg; omega) (fun w7 => ?_) (fun w8 => ?_)
          · refine l_aload_n rfl rfl ?_
            refine l_aload_n rfl rfl ?_
            refine l_gfr rfl rfl rfl rfl rfl (hH.r 904 159 994 rfl) ?_
            refine l_iload_n rfl rfl ?_
            refine l_laload (n := 64) rfl rfl (by omega) (by omega) (by unfold rg; omega) ?_
            have w9 : -9223372036854775808 ≤ (Xj S 994 ((from_).toNat)) ∧ (Xj S 994 ((from_).toNat)) < 9223372036854775808 := Xj_rg
            refine l_iload_n rfl rfl ?_
            refine l_iconst rfl ?_
            refine l_icmp_le rfl rfl (by unfold rg; omega) (by unfold rg; omega) (fun w10 => ?_) (fun w11 => ?_)
            · refine l_lconst (z := 0) rfl rfl ?_
              refine l_iload_n rfl rfl ?_
              refine l_iconst rfl ?_
              refine l_icmp_le rfl rfl (by unfold rg; omega) (by unfold rg; omega) (fun w12 => ?_) (fun w13 => ?_)
              · refine l_lconst (z := 0) rfl rfl ?_
                refine l_iload_n rfl rfl ?_
                refine l_callV rfl rfl rfl (t_mo_find hH (Xj S 994 ((from_).toNat)) 0 0 n ⟨by omega, by omega⟩ _) ?_
                rintro _ _ ⟨rfl, z16, rfl, w16, w15⟩
                show Rl _ _ _ _ _ [iv z16] _ _
                refine l_ireturn rfl rfl ?_
                exact ⟨rfl, _, rfl, ⟨by omega, by omega⟩, (by first | assumption | omega)⟩
              · refine l_aload_n rfl rfl ?_
                refine l_gfr rfl rfl rfl rfl rfl (hH.r 904 159 994 rfl) ?_
                refine l_iload_n rfl rfl ?_
                refine l_iconst rfl ?_
                refine l_iadd rfl ?_
                refine l_laload (n := 64) rfl rfl (by omega) (by omega) (by unfold rg; omega) ?_
                have w17 : -9223372036854775808 ≤ (Xj S 994 (((from_ + 2)).toNat)) ∧ (Xj S 994 (((from_ + 2)).toNat)) < 9223372036854775808 := Xj_rg
                refine l_goto rfl rfl ?_
                refine l_iload_n rfl rfl ?_
                refine l_callV rfl rfl rfl (t_mo_find hH (Xj S 994 ((from_).toNat)) 0 (Xj S 994 (((from_ + 2)).toNat)) n ⟨by omega, by omega⟩ _) ?_
                rintro _ _ ⟨rfl, z20, rfl, w20, w19⟩
                show Rl _ _ _ _ _ [iv z20] _ _
                refine l_ireturn rfl rfl ?_
                exact ⟨rfl, _, rfl, ⟨by omega, by omega⟩, (by first | assumption | omega)⟩
            · refine l_aload_n rfl rfl ?_
              refine l_gfr rfl rfl rfl rfl rfl (hH.r 904 159 994 rfl) ?_
              refine l_iload_n rfl rfl ?_
              refine l_iconst rfl ?_
              refine l_iadd rfl ?_
              refine l_laload (n := 64) rfl rfl (by omega) (by omega) (by unfold rg; omega) ?_
              have w21 : -9223372036854775808 ≤ (Xj S 994 (((from_ + 1)).toNat)) ∧ (Xj S 994 (((from_ + 1)).toNat)) < 9223372036854775808 := Xj_rg
              refine l_goto rfl rfl ?_
              refine l_iload_n rfl rfl ?_
              refine l_iconst rfl ?_
              refine l_icmp_le rfl rfl (by unfold rg; omega) (by unfold rg; omega) (fun w22 => ?_) (fun w23 => ?_)
              · refine l_lconst (z := 0) rfl rfl ?_
                refine l_iload_n rfl rfl ?_
                refine l_callV rfl rfl rfl (t_mo_find hH (Xj S 994 ((from_).toNat)) (Xj S 994 (((from_ + 1)).toNat)) 0 n ⟨by omega, by omega⟩ _) ?_
                rintro _ _ ⟨rfl, z26, rfl, w26, w25⟩
                show Rl _ _ _ _ _ [iv z26] _ _
                refine l_ireturn rfl rfl ?_
                exact ⟨rfl, _, rfl, ⟨by omega, by omega⟩, (by first | assumption | omega)⟩
              · refine l_aload_n rfl rfl ?_
                refine l_gfr rfl rfl rfl rfl rfl (hH.r 904 159 994 rfl) ?_
                refine l_iload_n rfl rfl ?_
                refine l_iconst rfl ?_
                refine l_iadd rfl ?_
                refine l_laload (n := 64) rfl rfl (by omega) (by omega) (by unfold rg; omega) ?_
                have w27 : -9223372036854775808 ≤ (Xj S 994 (((from_ + 2)).toNat)) ∧ (Xj S 994 (((from_ + 2)).toNat)) < 9223372036854775808 := Xj_rg
                refine l_goto rfl rfl ?_
                refine l_iload_n rfl rfl ?_
                refine l_callV rfl rfl rfl (t_mo_find hH (Xj S 994 ((from_).toNat)) (Xj S 994 (((from_ + 1)).toNat)) (Xj S 994 (((from_ + 2)).toNat)) n ⟨by omega, by omega⟩ _) ?_
                rintro _ _ ⟨rfl, z30, rfl, w30, w29⟩
                show Rl _ _ _ _ _ [iv z30] _ _
                refine l_ireturn rfl rfl ?_
                exact ⟨rfl, _, rfl, ⟨by omega, by omega⟩, (by first | assumption | omega)⟩
          · refine l_iconst rfl ?_
            refine l_goto rfl rfl ?_
            refine l_ireturn rfl rfl ?_
            exact ⟨rfl, _, rfl, ⟨by omega, by omega⟩, (by first | assumption | omega)⟩
      · refine l_aload_n rfl rfl ?_
        refine l_aload_n rfl rfl ?_
        refine l_gfr rfl rfl rfl rfl rfl (hH.r 904 159 994 rfl) ?_
        refine l_iload_n rfl rfl ?_
        refine l_iload_n rfl rfl ?_
        refine l_iadd rfl ?_
        refine l_laload (n := 64) rfl rfl (by omega) (by omega) (by unfold rg; omega) ?_
        have w31 : -9223372036854775808 ≤ (Xj S 994 (((from_ + v3)).toNat)) ∧ (Xj S 994 (((from_ + v3)).toNat)) < 9223372036854775808 := Xj_rg
        refine l_callV rfl rfl rfl (t_mo_keyOf hH (Xj S 994 (((from_ + v3)).toNat)) _) ?_
        rintro _ _ ⟨rfl, z32, rfl, w32⟩
        show Rl _ _ _ _ _ [iv z32] _ _
        refine l_iconst rfl ?_
        refine l_icmp_eq rfl rfl (by unfold rg; omega) (by unfold rg; omega) (fun w33 => ?_) (fun w34 => ?_)
        · refine l_iinc rfl rfl rfl rfl ?_
          refine l_goto rfl rfl ?_
          exact Rl_weak (ih2 _ (by omega) ((v3 + 1)) (by omega) rfl) (And.intro rfl (And.intro rfl (And.intro rfl (And.intro rfl (True.intro)))))
        · refine l_iconst rfl ?_
          refine l_ireturn rfl rfl ?_
          exact ⟨rfl, _, rfl, ⟨by omega, by omega⟩, (by first | assumption | omega)⟩
  refine l_iconst rfl ?_
  refine l_istore_n rfl rfl rfl ?_
  exact Rl_weak (C2 _ (0) (by omega) rfl) (And.intro rfl (And.intro rfl (And.intro rfl (And.intro rfl (True.intro)))))
abbrev Q_mo_insideThing (S : sS) (from_ : Int) : pst := fun r S1 => S = S1 ∧ (∃ z : Int, r = some (iv z) ∧ (-9 ≤ z ∧ z ≤ 23) ∧ (z ≠ -9 → z ≠ -2 → 0 ≤ z ∧ z < Xi S 904 19) ∧ (z = -2 → Xi S 904 157 = 0 → Xi S 904 158 ≠ -1))
set_option maxRecDepth 100000 in
theorem t_mo_insideThing {S : sS} (hH : HI S) (from_ : Int) (hfrom_ : 0 ≤ from_ ∧ from_ ≤ 64) (hM : LXM S) (d : Nat) : Mt lay0 (d + 3) m_mo_insideThing [.ref 904, iv from_] S (Q_mo_insideThing S from_) := by
  refine Mt_R rfl rfl ?_
  have w1 : 0 ≤ Xi S 904 157 ∧ Xi S 904 157 ≤ 1 := hH.c _ _
  have w2 : -1 ≤ Xi S 904 158 ∧ Xi S 904 158 ≤ 23 := hH.c _ _
  have w3 : 0 ≤ Xi S 904 19 ∧ Xi S 904 19 ≤ 24 := hH.c _ _
  have hc19 : 0 ≤ Xi S 904 19 ∧ Xi S 904 19 ≤ 24 := hH.c _ _
  refine l_aload_n rfl rfl ?_
  refine l_gfi rfl rfl rfl rfl rfl ?_
  have w4 : 0 ≤ (Xi S 904 160) ∧ (Xi S 904 160) ≤ 64 := hH.c _ _
  refine l_iload_n rfl rfl ?_
  refine l_isub rfl ?_
  refine l_istore_n rfl rfl rfl ?_
  refine l_iload_n rfl rfl ?_
  refine l_if_le rfl rfl (by unfold rg; omega) (fun w5 => ?_) (fun w6 => ?_)
  · refine l_iload_n rfl rfl ?_
    refine l_if_le rfl rfl (by unfold rg; omega) (fun w7 => ?_) (fun w8 => ?_)
    · refine l_iload_n rfl rfl ?_
      refine l_istore_n rfl rfl rfl ?_
      refine l_aload_n rfl rfl ?_
      refine l_iload_n rfl rfl ?_
      refine l_aload_n rfl rfl ?_
      refine l_gfi rfl rfl rfl rfl rfl ?_
      refine l_iload_n rfl rfl ?_
      refine l_isub rfl ?_
      have w9 : 0 ≤ Xi S 904 15 ∧ Xi S 904 15 ≤ 300 := hH.c _ _
      refine l_callV rfl rfl rfl (t_mo_foundIn hH from_ ((Xi S 904 160) - from_) ⟨by omega, by omega⟩ ⟨by omega, by omega⟩ (by first | assumption | omega) _) ?_
      rintro _ _ ⟨rfl, z11, rfl, w11, w10⟩
      show Rl _ _ _ _ _ [iv z11] _ _
      refine l_istore rfl rfl rfl ?_
      refine l_iload rfl rfl ?_
      refine l_iconst rfl ?_
      refine l_icmp_eq rfl rfl (by unfold rg; omega) (by unfold rg; omega) (fun w12 => ?_) (fun w13 => ?_)
      · refine l_bipush rfl rfl ?_
        refine l_ireturn rfl rfl ?_
        exact ⟨rfl, _, rfl, ⟨by omega, by omega⟩, (by first | assumption | omega), (by first | assumption | omega)⟩
      · refine l_aload_n rfl rfl ?_
        refine l_gfr rfl rfl rfl rfl rfl (hH.r 904 12 914 rfl) ?_
        refine l_iload rfl rfl ?_
        refine l_iaload (n := 300) rfl rfl (by omega) (by omega) (by unfold rg; omega) ?_
        have w14 : 0 ≤ (Xi S 914 ((z11).toNat)) ∧ (Xi S 914 ((z11).toNat)) ≤ 12 := hH.c _ _
        refine l_iconst rfl ?_
        refine l_icmp_ne rfl rfl (by unfold rg; omega) (by unfold rg; omega) (fun w15 => ?_) (fun w16 => ?_)
        · refine l_bipush rfl rfl ?_
          refine l_ireturn rfl rfl ?_
          exact ⟨rfl, _, rfl, ⟨by omega, by omega⟩, (by first | assumption | omega), (by first | assumption | omega)⟩
        · refine l_aload_n rfl rfl ?_
          refine l_gfr rfl rfl rfl rfl rfl (hH.r 904 13 915 rfl) ?_
          refine l_iload rfl rfl ?_
          refine l_iaload (n := 300) rfl rfl (by omega) (by omega) (by unfold rg; omega) ?_
          have w17 : 0 ≤ (Xi S 915 ((z11).toNat)) ∧ (Xi S 915 ((z11).toNat)) ≤ 63 := hH.c _ _
          have x165 : (Xi S 915 ((z11).toNat)) < Xi S 904 19 := by have t := lxm (s := 4) hM (k := z11) (by omega) (by omega) (by omega); rw [cM4] at t; exact t
          refine l_goto rfl rfl ?_
          refine l_ireturn rfl rfl ?_
          exact ⟨rfl, _, rfl, ⟨by omega, by omega⟩, (by first | assumption | omega), (by first | assumption | omega)⟩
    · refine l_aload_n rfl rfl ?_
      refine l_aload_n rfl rfl ?_
      refine l_gfr rfl rfl rfl rfl rfl (hH.r 904 159 994 rfl) ?_
      refine l_iload_n rfl rfl ?_
      refine l_laload (n := 64) rfl rfl (by omega) (by omega) (by unfold rg; omega) ?_
      have w18 : -9223372036854775808 ≤ (Xj S 994 ((from_).toNat)) ∧ (Xj S 994 ((from_).toNat)) < 9223372036854775808 := Xj_rg
      refine l_callV rfl rfl rfl (t_mo_keyOf hH (Xj S 994 ((from_).toNat)) _) ?_
      rintro _ _ ⟨rfl, z19, rfl, w19⟩
      show Rl _ _ _ _ _ [iv z19] _ _
      refine l_callS rfl rfl (by decide) rfl (t_mo_isArt hH z19 ⟨by omega, by omega⟩ _) ?_
      rintro _ _ ⟨rfl, z21, rfl, w21, w20⟩
      show Rl _ _ _ _ _ [iv z21] _ _
      refine l_if_eq rfl rfl (by unfold rg; omega) (fun w22 => ?_) (fun w23 => ?_)
      · refine l_iload_n rfl rfl ?_
        refine l_istore_n rfl rfl rfl ?_
        refine l_aload_n rfl rfl ?_
        refine l_iload_n rfl rfl ?_
        refine l_aload_n rfl rfl ?_
        refine l_gfi rfl rfl rfl rfl rfl ?_
        refine l_iload_n rfl rfl ?_
        refine l_isub rfl ?_
        have w24 : 0 ≤ Xi S 904 15 ∧ Xi S 904 15 ≤ 300 := hH.c _ _
        refine l_callV rfl rfl rfl (t_mo_foundIn hH from_ ((Xi S 904 160) - from_) ⟨by omega, by omega⟩ ⟨by omega, by omega⟩ (by first | assumption | omega) _) ?_
        rintro _ _ ⟨rfl, z26, rfl, w26, w25⟩
        show Rl _ _ _ _ _ [iv z26] _ _
        refine l_istore rfl rfl rfl ?_
        refine l_iload rfl rfl ?_
        refine l_iconst rfl ?_
        refine l_icmp_eq rfl rfl (by unfold rg; omega) (by unfold rg; omega) (fun w27 => ?_) (fun w28 => ?_)
        · refine l_bipush rfl rfl ?_
          refine l_ireturn rfl rfl ?_
          exact ⟨rfl, _, rfl, ⟨by omega, by omega⟩, (by first | assumption | omega), (by first | assumption | omega)⟩
        · refine l_aload_n rfl rfl ?_
          refine l_gfr rfl rfl rfl rfl rfl (hH.r 904 12 914 rfl) ?_
          refine l_iload rfl rfl ?_
          refine l_iaload (n := 300) rfl rfl (by omega) (by omega) (by unfold rg; omega) ?_
          have w29 : 0 ≤ (Xi S 914 ((z26).toNat)) ∧ (Xi S 914 ((z26).toNat)) ≤ 12 := hH.c _ _
          refine l_iconst rfl ?_
          refine l_icmp_ne rfl rfl (by unfold rg; omega) (by unfold rg; omega) (fun w30 => ?_) (fun w31 => ?_)
          · refine l_bipush rfl rfl ?_
            refine l_ireturn rfl rfl ?_
            exact ⟨rfl, _, rfl, ⟨by omega, by omega⟩, (by first | assumption | omega), (by first | assumption | omega)⟩
          · refine l_aload_n rfl rfl ?_
            refine l_gfr rfl rfl rfl rfl rfl (hH.r 904 13 915 rfl) ?_
            refine l_iload rfl rfl ?_
            refine l_iaload (n := 300) rfl rfl (by omega) (by omega) (by unfold rg; omega) ?_
            have w32 : 0 ≤ (Xi S 915 ((z26).toNat)) ∧ (Xi S 915 ((z26).toNat)) ≤ 63 := hH.c _ _
            have x165 : (Xi S 915 ((z26).toNat)) < Xi S 904 19 := by have t := lxm (s := 4) hM (k := z26) (by omega) (by omega) (by omega); rw [cM4] at t; exact t
            refine l_goto rfl rfl ?_
            refine l_ireturn rfl rfl ?_
            exact ⟨rfl, _, rfl, ⟨by omega, by omega⟩, (by first | assumption | omega), (by first | assumption | omega)⟩
      · refine l_iload_n rfl rfl ?_
        refine l_iconst rfl ?_
        refine l_iadd rfl ?_
        refine l_goto rfl rfl ?_
        refine l_istore_n rfl rfl rfl ?_
        refine l_aload_n rfl rfl ?_
        refine l_iload_n rfl rfl ?_
        refine l_aload_n rfl rfl ?_
        refine l_gfi rfl rfl rfl rfl rfl ?_
        refine l_iload_n rfl rfl ?_
        refine l_isub rfl ?_
        have w33 : 0 ≤ Xi S 904 15 ∧ Xi S 904 15 ≤ 300 := hH.c _ _
        refine l_callV rfl rfl rfl (t_mo_foundIn hH (from_ + 1) ((Xi S 904 160) - (from_ + 1)) ⟨by omega, by omega⟩ ⟨by omega, by omega⟩ (by first | assumption | omega) _) ?_
        rintro _ _ ⟨rfl, z35, rfl, w35, w34⟩
        show Rl _ _ _ _ _ [iv z35] _ _
        refine l_istore rfl rfl rfl ?_
        refine l_iload rfl rfl ?_
        refine l_iconst rfl ?_
        refine l_icmp_eq rfl rfl (by unfold rg; omega) (by unfold rg; omega) (fun w36 => ?_) (fun w37 => ?_)
        · refine l_bipush rfl rfl ?_
          refine l_ireturn rfl rfl ?_
          exact ⟨rfl, _, rfl, ⟨by omega, by omega⟩, (by first | assumption | omega), (by first | assumption | omega)⟩
        · refine l_aload_n rfl rfl ?_
          refine l_gfr rfl rfl rfl rfl rfl (hH.r 904 12 914 rfl) ?_
          refine l_iload rfl rfl ?_
          refine l_iaload (n := 300) rfl rfl (by omega) (by omega) (by unfold rg; omega) ?_
          have w38 : 0 ≤ (Xi S 914 ((z35).toNat)) ∧ (Xi S 914 ((z35).toNat)) ≤ 12 := hH.c _ _
          refine l_iconst rfl ?_
          refine l_icmp_ne rfl rfl (by unfold rg; omega) (by unfold rg; omega) (fun w39 => ?_) (fun w40 => ?_)
          · refine l_bipush rfl rfl ?_
            refine l_ireturn rfl rfl ?_
            exact ⟨rfl, _, rfl, ⟨by omega, by omega⟩, (by first | assumption | omega), (by first | assumption | omega)⟩
          · refine l_aload_n rfl rfl ?_
            refine l_gfr rfl rfl rfl rfl rfl (hH.r 904 13 915 rfl) ?_
            refine l_iload rfl rfl ?_
            refine l_iaload (n := 300) rfl rfl (by omega) (by omega) (by unfold rg; omega) ?_
            have w41 : 0 ≤ (Xi S 915 ((z35).toNat)) ∧ (Xi S 915 ((z35).toNat)) ≤ 63 := hH.c _ _
            have x165 : (Xi S 915 ((z35).toNat)) < Xi S 904 19 := by have t := lxm (s := 4) hM (k := z35) (by omega) (by omega) (by omega); rw [cM4] at t; exact t
            refine l_goto rfl rfl ?_
            refine l_ireturn rfl rfl ?_
            exact ⟨rfl, _, rfl, ⟨by omega, by omega⟩, (by first | assumption | omega), (by first | assumption | omega)⟩
  · refine l_aload_n rfl rfl ?_
    refine l_aload_n rfl rfl ?_
    refine l_gfr rfl rfl rfl rfl rfl (hH.r 904 159 994 rfl) ?_
    refine l_aload_n rfl rfl ?_
    refine l_gfi rfl rfl rfl rfl rfl ?_
    refine l_iconst rfl ?_
    refine l_isub rfl ?_
    refine l_laload (n := 64) rfl rfl (by omega) (by omega) (by unfold rg; omega) ?_
    have w42 : -9223372036854775808 ≤ (Xj S 994 ((((Xi S 904 160) - 1)).toNat)) ∧ (Xj S 994 ((((Xi S 904 160) - 1)).toNat)) < 9223372036854775808 := Xj_rg
    refine l_callV rfl rfl rfl (t_mo_keyOf hH (Xj S 994 ((((Xi S 904 160) - 1)).toNat)) _) ?_
    rintro _ _ ⟨rfl, z43, rfl, w43⟩
    show Rl _ _ _ _ _ [iv z43] _ _
    refine l_sipush rfl rfl ?_
    refine l_icmp_ne rfl rfl (by unfold rg; omega) (by unfold rg; omega) (fun w44 => ?_) (fun w45 => ?_)
    · refine l_iload_n rfl rfl ?_
      refine l_if_le rfl rfl (by unfold rg; omega) (fun w46 => ?_) (fun w47 => ?_)
      · refine l_iload_n rfl rfl ?_
        refine l_istore_n rfl rfl rfl ?_
        refine l_aload_n rfl rfl ?_
        refine l_iload_n rfl rfl ?_
        refine l_aload_n rfl rfl ?_
        refine l_gfi rfl rfl rfl rfl rfl ?_
        refine l_iload_n rfl rfl ?_
        refine l_isub rfl ?_
        have w48 : 0 ≤ Xi S 904 15 ∧ Xi S 904 15 ≤ 300 := hH.c _ _
        refine l_callV rfl rfl rfl (t_mo_foundIn hH from_ ((Xi S 904 160) - from_) ⟨by omega, by omega⟩ ⟨by omega, by omega⟩ (by first | assumption | omega) _) ?_
        rintro _ _ ⟨rfl, z50, rfl, w50, w49⟩
        show Rl _ _ _ _ _ [iv z50] _ _
        refine l_istore rfl rfl rfl ?_
        refine l_iload rfl rfl ?_
        refine l_iconst rfl ?_
        refine l_icmp_eq rfl rfl (by unfold rg; omega) (by unfold rg; omega) (fun w51 => ?_) (fun w52 => ?_)
        · refine l_bipush rfl rfl ?_
          refine l_ireturn rfl rfl ?_
          exact ⟨rfl, _, rfl, ⟨by omega, by omega⟩, (by first | assumption | omega), (by first | assumption | omega)⟩
        · refine l_aload_n rfl rfl ?_
          refine l_gfr rfl rfl rfl rfl rfl (hH.r 904 12 914 rfl) ?_
          refine l_iload rfl rfl ?_
          refine l_iaload (n := 300) rfl rfl (by omega) (by omega) (by unfold rg; omega) ?_
          have w53 : 0 ≤ (Xi S 914 ((z50).toNat)) ∧ (Xi S 914 ((z50).toNat)) ≤ 12 := hH.c _ _
          refine l_iconst rfl ?_
          refine l_icmp_ne rfl rfl (by unfold rg; omega) (by unfold rg; omega) (fun w54 => ?_) (fun w55 => ?_)
          · refine l_bipush rfl rfl ?_
            refine l_ireturn rfl rfl ?_
            exact ⟨rfl, _, rfl, ⟨by omega, by omega⟩, (by first | assumption | omega), (by first | assumption | omega)⟩
          · refine l_aload_n rfl rfl ?_
            refine l_gfr rfl rfl rfl rfl rfl (hH.r 904 13 915 rfl) ?_
            refine l_iload rfl rfl ?_
            refine l_iaload (n := 300) rfl rfl (by omega) (by omega) (by unfold rg; omega) ?_
            have w56 : 0 ≤ (Xi S 915 ((z50).toNat)) ∧ (Xi S 915 ((z50).toNat)) ≤ 63 := hH.c _ _
            have x165 : (Xi S 915 ((z50).toNat)) < Xi S 904 19 := by have t := lxm (s := 4) hM (k := z50) (by omega) (by omega) (by omega); rw [cM4] at t; exact t
            refine l_goto rfl rfl ?_
            refine l_ireturn rfl rfl ?_
            exact ⟨rfl, _, rfl, ⟨by omega, by omega⟩, (by first | assumption | omega), (by first | assumption | omega)⟩
      · refine l_aload_n rfl rfl ?_
        refine l_aload_n rfl rfl ?_
        refine l_gfr rfl rfl rfl rfl rfl (hH.r 904 159 994 rfl) ?_
        refine l_iload_n rfl rfl ?_
        refine l_laload (n := 64) rfl rfl (by omega) (by omega) (by unfold rg; omega) ?_
        have w57 : -9223372036854775808 ≤ (Xj S 994 ((from_).toNat)) ∧ (Xj S 994 ((from_).toNat)) < 9223372036854775808 := Xj_rg
        refine l_callV rfl rfl rfl (t_mo_keyOf hH (Xj S 994 ((from_).toNat)) _) ?_
        rintro _ _ ⟨rfl, z58, rfl, w58⟩
        show Rl _ _ _ _ _ [iv z58] _ _
        refine l_callS rfl rfl (by decide) rfl (t_mo_isArt hH z58 ⟨by omega, by omega⟩ _) ?_
        rintro _ _ ⟨rfl, z60, rfl, w60, w59⟩
        show Rl _ _ _ _ _ [iv z60] _ _
        refine l_if_eq rfl rfl (by unfold rg; omega) (fun w61 => ?_) (fun w62 => ?_)
        · refine l_iload_n rfl rfl ?_
          refine l_istore_n rfl rfl rfl ?_
          refine l_aload_n rfl rfl ?_
          refine l_iload_n rfl rfl ?_
          refine l_aload_n rfl rfl ?_
          refine l_gfi rfl rfl rfl rfl rfl ?_
          refine l_iload_n rfl rfl ?_
          refine l_isub rfl ?_
          have w63 : 0 ≤ Xi S 904 15 ∧ Xi S 904 15 ≤ 300 := hH.c _ _
          refine l_callV rfl rfl rfl (t_mo_foundIn hH from_ ((Xi S 904 160) - from_) ⟨by omega, by omega⟩ ⟨by omega, by omega⟩ (by first | assumption | omega) _) ?_
          rintro _ _ ⟨rfl, z65, rfl, w65, w64⟩
          show Rl _ _ _ _ _ [iv z65] _ _
          refine l_istore rfl rfl rfl ?_
          refine l_iload rfl rfl ?_
          refine l_iconst rfl ?_
          refine l_icmp_eq rfl rfl (by unfold rg; omega) (by unfold rg; omega) (fun w66 => ?_) (fun w67 => ?_)
          · refine l_bipush rfl rfl ?_
            refine l_ireturn rfl rfl ?_
            exact ⟨rfl, _, rfl, ⟨by omega, by omega⟩, (by first | assumption | omega), (by first | assumption | omega)⟩
          · refine l_aload_n rfl rfl ?_
            refine l_gfr rfl rfl rfl rfl rfl (hH.r 904 12 914 rfl) ?_
            refine l_iload rfl rfl ?_
            refine l_iaload (n := 300) rfl rfl (by omega) (by omega) (by unfold rg; omega) ?_
            have w68 : 0 ≤ (Xi S 914 ((z65).toNat)) ∧ (Xi S 914 ((z65).toNat)) ≤ 12 := hH.c _ _
            refine l_iconst rfl ?_
            refine l_icmp_ne rfl rfl (by unfold rg; omega) (by unfold rg; omega) (fun w69 => ?_) (fun w70 => ?_)
            · refine l_bipush rfl rfl ?_
              refine l_ireturn rfl rfl ?_
              exact ⟨rfl, _, rfl, ⟨by omega, by omega⟩, (by first | assumption | omega), (by first | assumption | omega)⟩
            · refine l_aload_n rfl rfl ?_
              refine l_gfr rfl rfl rfl rfl rfl (hH.r 904 13 915 rfl) ?_
              refine l_iload rfl rfl ?_
              refine l_iaload (n := 300) rfl rfl (by omega) (by omega) (by unfold rg; omega) ?_
              have w71 : 0 ≤ (Xi S 915 ((z65).toNat)) ∧ (Xi S 915 ((z65).toNat)) ≤ 63 := hH.c _ _
              have x165 : (Xi S 915 ((z65).toNat)) < Xi S 904 19 := by have t := lxm (s := 4) hM (k := z65) (by omega) (by omega) (by omega); rw [cM4] at t; exact t
              refine l_goto rfl rfl ?_
              refine l_ireturn rfl rfl ?_
              exact ⟨rfl, _, rfl, ⟨by omega, by omega⟩, (by first | assumption | omega), (by first | assumption | omega)⟩
        · refine l_iload_n rfl rfl ?_
          refine l_iconst rfl ?_
          refine l_iadd rfl ?_
          refine l_goto rfl rfl ?_
          refine l_istore_n rfl rfl rfl ?_
          refine l_aload_n rfl rfl ?_
          refine l_iload_n rfl rfl ?_
          refine l_aload_n rfl rfl ?_
          refine l_gfi rfl rfl rfl rfl rfl ?_
          refine l_iload_n rfl rfl ?_
          refine l_isub rfl ?_
          have w72 : 0 ≤ Xi S 904 15 ∧ Xi S 904 15 ≤ 300 := hH.c _ _
          refine l_callV rfl rfl rfl (t_mo_foundIn hH (from_ + 1) ((Xi S 904 160) - (from_ + 1)) ⟨by omega, by omega⟩ ⟨by omega, by omega⟩ (by first | assumption | omega) _) ?_
          rintro _ _ ⟨rfl, z74, rfl, w74, w73⟩
          show Rl _ _ _ _ _ [iv z74] _ _
          refine l_istore rfl rfl rfl ?_
          refine l_iload rfl rfl ?_
          refine l_iconst rfl ?_
          refine l_icmp_eq rfl rfl (by unfold rg; omega) (by unfold rg; omega) (fun w75 => ?_) (fun w76 => ?_)
          · refine l_bipush rfl rfl ?_
            refine l_ireturn rfl rfl ?_
            exact ⟨rfl, _, rfl, ⟨by omega, by omega⟩, (by first | assumption | omega), (by first | assumption | omega)⟩
          · refine l_aload_n rfl rfl ?_
            refine l_gfr rfl rfl rfl rfl rfl (hH.r 904 12 914 rfl) ?_
            refine l_iload rfl rfl ?_
            refine l_iaload (n := 300) rfl rfl (by omega) (by omega) (by unfold rg; omega) ?_
            have w77 : 0 ≤ (Xi S 914 ((z74).toNat)) ∧ (Xi S 914 ((z74).toNat)) ≤ 12 := hH.c _ _
            refine l_iconst rfl ?_
            refine l_icmp_ne rfl rfl (by unfold rg; omega) (by unfold rg; omega) (fun w78 => ?_) (fun w79 => ?_)
            · refine l_bipush rfl rfl ?_
              refine l_ireturn rfl rfl ?_
              exact ⟨rfl, _, rfl, ⟨by omega, by omega⟩, (by first | assumption | omega), (by first | assumption | omega)⟩
            · refine l_aload_n rfl rfl ?_
              refine l_gfr rfl rfl rfl rfl rfl (hH.r 904 13 915 rfl) ?_
              refine l_iload rfl rfl ?_
              refine l_iaload (n := 300) rfl rfl (by omega) (by omega) (by unfold rg; omega) ?_
              have w80 : 0 ≤ (Xi S 915 ((z74).toNat)) ∧ (Xi S 915 ((z74).toNat)) ≤ 63 := hH.c _ _
              have x165 : (Xi S 915 ((z74).toNat)) < Xi S 904 19 := by have t := lxm (s := 4) hM (k := z74) (by omega) (by omega) (by omega); rw [cM4] at t; exact t
              refine l_goto rfl rfl ?_
              refine l_ireturn rfl rfl ?_
              exact ⟨rfl, _, rfl, ⟨by omega, by omega⟩, (by first | assumption | omega), (by first | assumption | omega)⟩
    · refine l_iload_n rfl rfl ?_
      refine l_iconst rfl ?_
      refine l_icmp_eq rfl rfl (by unfold rg; omega) (by unfold rg; omega) (fun w81 => ?_) (fun w82 => ?_)
      · refine l_iconst rfl ?_
        refine l_goto rfl rfl ?_
        refine l_istore_n rfl rfl rfl ?_
        refine l_iload_n rfl rfl ?_
        refine l_if_eq rfl rfl (by unfold rg; omega) (fun w83 => absurd w83 (by omega)) (fun w84 => ?_)
        · refine l_aload_n rfl rfl ?_
          refine l_gfi rfl rfl rfl rfl rfl ?_
          refine l_if_eq rfl rfl (by unfold rg; omega) (fun w85 => ?_) (fun w86 => ?_)
          · refine l_aload_n rfl rfl ?_
            refine l_gfi rfl rfl rfl rfl rfl ?_
            refine l_iconst rfl ?_
            refine l_icmp_eq rfl rfl (by unfold rg; omega) (by unfold rg; omega) (fun w87 => ?_) (fun w88 => ?_)
            · refine l_bipush rfl rfl ?_
              refine l_ireturn rfl rfl ?_
              exact ⟨rfl, _, rfl, ⟨by omega, by omega⟩, (by first | assumption | omega), (by first | assumption | omega)⟩
            · refine l_bipush rfl rfl ?_
              refine l_goto rfl rfl ?_
              refine l_ireturn rfl rfl ?_
              exact ⟨rfl, _, rfl, ⟨by omega, by omega⟩, (by first | assumption | omega), (by first | assumption | omega)⟩
          · refine l_aload_n rfl rfl ?_
            refine l_gfi rfl rfl rfl rfl rfl ?_
            have w89 : -1 ≤ (Xi S 904 116) ∧ (Xi S 904 116) ≤ 15 := hH.c _ _
            refine l_iconst rfl ?_
            refine l_icmp_eq rfl rfl (by unfold rg; omega) (by unfold rg; omega) (fun w90 => ?_) (fun w91 => ?_)
            · refine l_bipush rfl rfl ?_
              refine l_ireturn rfl rfl ?_
              exact ⟨rfl, _, rfl, ⟨by omega, by omega⟩, (by first | assumption | omega), (by first | assumption | omega)⟩
            · refine l_goto rfl rfl ?_
              refine l_bipush rfl rfl ?_
              refine l_goto rfl rfl ?_
              refine l_ireturn rfl rfl ?_
              exact ⟨rfl, _, rfl, ⟨by omega, by omega⟩, (by first | assumption | omega), (by first | assumption | omega)⟩
      · refine l_iload_n rfl rfl ?_
        refine l_iconst rfl ?_
        refine l_icmp_ne rfl rfl (by unfold rg; omega) (by unfold rg; omega) (fun w92 => ?_) (fun w93 => ?_)
        · refine l_iconst rfl ?_
          refine l_istore_n rfl rfl rfl ?_
          refine l_iload_n rfl rfl ?_
          refine l_if_eq rfl rfl (by unfold rg; omega) (fun w94 => ?_) (fun w95 => absurd w95 (by omega))
          · refine l_bipush rfl rfl ?_
            refine l_ireturn rfl rfl ?_
            exact ⟨rfl, _, rfl, ⟨by omega, by omega⟩, (by first | assumption | omega), (by first | assumption | omega)⟩
        · refine l_aload_n rfl rfl ?_
          refine l_aload_n rfl rfl ?_
          refine l_gfr rfl rfl rfl rfl rfl (hH.r 904 159 994 rfl) ?_
          refine l_iload_n rfl rfl ?_
          refine l_laload (n := 64) rfl rfl (by omega) (by omega) (by unfold rg; omega) ?_
          have w96 : -9223372036854775808 ≤ (Xj S 994 ((from_).toNat)) ∧ (Xj S 994 ((from_).toNat)) < 9223372036854775808 := Xj_rg
          refine l_callV rfl rfl rfl (t_mo_keyOf hH (Xj S 994 ((from_).toNat)) _) ?_
          rintro _ _ ⟨rfl, z97, rfl, w97⟩
          show Rl _ _ _ _ _ [iv z97] _ _
          refine l_bipush rfl rfl ?_
          refine l_icmp_ne rfl rfl (by unfold rg; omega) (by unfold rg; omega) (fun w98 => ?_) (fun w99 => ?_)
          · refine l_iconst rfl ?_
            refine l_istore_n rfl rfl rfl ?_
            refine l_iload_n rfl rfl ?_
            refine l_if_eq rfl rfl (by unfold rg; omega) (fun w100 => ?_) (fun w101 => absurd w101 (by omega))
            · refine l_bipush rfl rfl ?_
              refine l_ireturn rfl rfl ?_
              exact ⟨rfl, _, rfl, ⟨by omega, by omega⟩, (by first | assumption | omega), (by first | assumption | omega)⟩
          · refine l_iconst rfl ?_
            refine l_goto rfl rfl ?_
            refine l_istore_n rfl rfl rfl ?_
            refine l_iload_n rfl rfl ?_
            refine l_if_eq rfl rfl (by unfold rg; omega) (fun w102 => absurd w102 (by omega)) (fun w103 => ?_)
            · refine l_aload_n rfl rfl ?_
              refine l_gfi rfl rfl rfl rfl rfl ?_
              refine l_if_eq rfl rfl (by unfold rg; omega) (fun w104 => ?_) (fun w105 => ?_)
              · refine l_aload_n rfl rfl ?_
                refine l_gfi rfl rfl rfl rfl rfl ?_
                refine l_iconst rfl ?_
                refine l_icmp_eq rfl rfl (by unfold rg; omega) (by unfold rg; omega) (fun w106 => ?_) (fun w107 => ?_)
                · refine l_bipush rfl rfl ?_
                  refine l_ireturn rfl rfl ?_
                  exact ⟨rfl, _, rfl, ⟨by omega, by omega⟩, (by first | assumption | omega), (by first | assumption | omega)⟩
                · refine l_bipush rfl rfl ?_
                  refine l_goto rfl rfl ?_
                  refine l_ireturn rfl rfl ?_
                  exact ⟨rfl, _, rfl, ⟨by omega, by omega⟩, (by first | assumption | omega), (by first | assumption | omega)⟩
              · refine l_aload_n rfl rfl ?_
                refine l_gfi rfl rfl rfl rfl rfl ?_
                have w108 : -1 ≤ (Xi S 904 116) ∧ (Xi S 904 116) ≤ 15 := hH.c _ _
                refine l_iconst rfl ?_
                refine l_icmp_eq rfl rfl (by unfold rg; omega) (by unfold rg; omega) (fun w109 => ?_) (fun w110 => ?_)
                · refine l_bipush rfl rfl ?_
                  refine l_ireturn rfl rfl ?_
                  exact ⟨rfl, _, rfl, ⟨by omega, by omega⟩, (by first | assumption | omega), (by first | assumption | omega)⟩
                · refine l_goto rfl rfl ?_
                  refine l_bipush rfl rfl ?_
                  refine l_goto rfl rfl ?_
                  refine l_ireturn rfl rfl ?_
                  exact ⟨rfl, _, rfl, ⟨by omega, by omega⟩, (by first | assumption | omega), (by first | assumption | omega)⟩
def md_mo_putProperty : List rec := [(904, 905, 154, 155), (904, 905, 156, 157), (993, 994, 0, 100000)]
abbrev Q_mo_putProperty (S : sS) (o : Int) (p : Int) : pst := fun r S1 => HI S1 ∧ FR md_mo_putProperty S S1 ∧ (r = none)
set_option maxRecDepth 100000 in
theorem t_mo_putProperty {S : sS} (hH : HI S) (o : Int) (p : Int) (ho : 0 ≤ o ∧ o ≤ 23) (hp : 0 ≤ p ∧ p ≤ 11) (hB : ABV S) (hX : TXM S) (ho : o < Xi S 904 19) (d : Nat) : Mt lay0 (d + 4) m_mo_putProperty [.ref 904, iv o, iv p] S (Q_mo_putProperty S o p) := by
  refine Mt_R rfl rfl ?_
  have hF : FR md_mo_putProperty S S := FR.rf
  have w1 : 0 ≤ Xi S 904 19 ∧ Xi S 904 19 ≤ 24 := hH.c _ _
  have C43 : ∀ (n43 : Nat) (T1 : sS) (_ : HI T1) (_ : FR md_mo_putProperty S T1) (v3 : Int) (v4 : Int) (v5 : Int), (-2147483648 ≤ v3 ∧ v3 ≤ 2147483647) → (-2147483648 ≤ v4 ∧ v4 ≤ 2147483647) → (0 ≤ v5 ∧ v5 ≤ 5000) → (v4 = 0 ∨ (0 < v4 ∧ 0 ≤ v3 ∧ v3 + v4 ≤ 5000)) → n43 = (5001 - v5).toNat → Rl lay0 (d + 3) m_mo_putProperty 43 [(0, .ref 904), (3, iv v3), (4, iv v4), (5, iv v5)] [] T1 (Q_mo_putProperty S o p) := by
    intro n43
    induction n43 using Nat.strongRecOn with
    | ind n43 ih43 =>
      intro T1 hHT1 hFT1 v3 v4 v5 w2 w3 w4 w5 hm43
      have w6 : Xi T1 904 15 = Xi S 904 15 := hFT1.x _ _ rfl
      have w7 : Xi T1 904 19 = Xi S 904 19 := hFT1.x _ _ rfl
      refine l_iload rfl rfl ?_
      refine l_iload rfl rfl ?_
      refine l_icmp_ge rfl rfl (by unfold rg; omega) (by unfold rg; omega) (fun w8 => ?_) (fun w9 => ?_)
      · refine l_goto rfl rfl ?_
        refine l_return rfl rfl ?_
        exact ⟨hHT1, hFT1, rfl⟩
      · refine l_aload_n rfl rfl ?_
        refine l_aload_n rfl rfl ?_
        refine l_gfr rfl rfl rfl rfl rfl (hHT1.r 904 2 906 rfl) ?_
        refine l_iload_n rfl rfl ?_
        refine l_iload rfl rfl ?_
        refine l_iadd rfl ?_
        refine l_baload (n := 5000) rfl rfl rfl (by decide) (by omega) (by omega) (by unfold rg; omega) ?_
        have w10 : -128 ≤ (Xi T1 906 (((v3 + v5)).toNat)) ∧ (Xi T1 906 (((v3 + v5)).toNat)) ≤ 127 := hHT1.c _ _
        refine l_callV rfl rfl rfl (t_mo_put hHT1 (Xi T1 906 (((v3 + v5)).toNat)) ⟨by omega, by omega⟩ _) ?_
        rintro _ T2 ⟨hHT2, w12, rfl⟩
        have hFT2 : FR md_mo_putProperty S T2 := FR.tr hFT1 w12 rfl
        show Rl _ _ _ _ _ [] _ _
        refine l_iinc rfl rfl rfl rfl ?_
        refine l_goto rfl rfl ?_
        exact Rl_weak (ih43 _ (by omega) T2 hHT2 hFT2 (v3) (v4) ((v5 + 1)) (by omega) (by omega) (by omega) (by omega) rfl) (And.intro rfl (And.intro rfl (And.intro rfl (And.intro rfl (True.intro)))))
  refine l_aload_n rfl rfl ?_
  refine l_iload_n rfl rfl ?_
  refine l_iload_n rfl rfl ?_
  refine l_callV rfl rfl rfl (t_mo_numberOf hH o p ⟨by omega, by omega⟩ ⟨by omega, by omega⟩ (by first | assumption | exact (ABV_FR hF rfl (by assumption : ABV S))) (by first | assumption | exact (TXM_FR hF rfl (by assumption : TXM S))) (by first | assumption | omega) _) ?_
  rintro _ T3 ⟨hHT3, w16, z15, rfl, w15, w14⟩
  have hFT3 : FR md_mo_putProperty S T3 := FR.tr hF w16 rfl
  show Rl _ _ _ _ _ [iv z15] _ _
  have t3 : Xi S 928 p.toNat = 1 → Xi T3 904 154 = 0 ∨ (0 < Xi T3 904 154 ∧ 0 ≤ z15 ∧ z15 + Xi T3 904 154 ≤ 5000) := by assumption
  refine l_istore_n rfl rfl rfl ?_
  refine l_aload_n rfl rfl ?_
  refine l_gfi rfl rfl rfl rfl rfl ?_
  have w17 : -2147483648 ≤ (Xi T3 904 154) ∧ (Xi T3 904 154) ≤ 2147483647 := Xi_rgI
  refine l_istore rfl rfl rfl ?_
  refine l_aload_n rfl rfl ?_
  refine l_gfr rfl rfl rfl rfl rfl (hHT3.r 904 33 928 rfl) ?_
  refine l_iload_n rfl rfl ?_
  refine l_iaload (n := 12) rfl rfl (by omega) (by omega) (by unfold rg; omega) ?_
  have w18 : 0 ≤ (Xi T3 928 ((p).toNat)) ∧ (Xi T3 928 ((p).toNat)) ≤ 7 := hHT3.c _ _
  have e18 : (Xi T3 928 ((p).toNat)) = Xi S 928 p.toNat := by first | rfl | exact (hFT3.cx 928 rfl _).1
  refine l_if_ne rfl rfl (by unfold rg; omega) (fun w19 => ?_) (fun w20 => ?_)
  · refine l_aload_n rfl rfl ?_
    refine l_gfr rfl rfl rfl rfl rfl (hHT3.r 904 33 928 rfl) ?_
    refine l_iload_n rfl rfl ?_
    refine l_iaload (n := 12) rfl rfl (by omega) (by omega) (by unfold rg; omega) ?_
    have e35 : (Xi T3 928 ((p).toNat)) = Xi S 928 p.toNat := by first | rfl | exact (hFT3.cx 928 rfl _).1
    refine l_iconst rfl ?_
    refine l_icmp_ne rfl rfl (by unfold rg; omega) (by unfold rg; omega) (fun w21 => ?_) (fun w22 => ?_)
    · refine l_iload_n rfl rfl ?_
      refine l_iconst rfl ?_
      refine l_icmp_eq rfl rfl (by unfold rg; omega) (by unfold rg; omega) (fun w23 => ?_) (fun w24 => ?_)
      · refine l_return rfl rfl ?_
        exact ⟨hHT3, hFT3, rfl⟩
      · refine l_aload_n rfl rfl ?_
        refine l_aload_n rfl rfl ?_
        refine l_bipush rfl rfl ?_
        refine l_iload_n rfl rfl ?_
        have w25 : Xi T3 904 15 = Xi S 904 15 := (show Xi T3 904 15 = Xi S 904 15 from w16.x _ _ rfl)
        have w26 : 0 ≤ Xi S 904 15 ∧ Xi S 904 15 ≤ 300 := hH.c _ _
        refine l_callV rfl rfl rfl (t_mo_lexOf hHT3 6 z15 ⟨by omega, by omega⟩ ⟨by omega, by omega⟩ _) ?_
        rintro _ _ ⟨rfl, z28, rfl, w28, w27⟩
        show Rl _ _ _ _ _ [iv z28, .ref 904] _ _
        refine l_callV rfl rfl rfl (t_mo_putLex hHT3 z28 ⟨by omega, by omega⟩ _) ?_
        rintro _ T4 ⟨hHT4, w30, rfl⟩
        have hFT4 : FR md_mo_putProperty S T4 := FR.tr hFT3 w30 rfl
        show Rl _ _ _ _ _ [] _ _
        refine l_return rfl rfl ?_
        exact ⟨hHT4, hFT4, rfl⟩
    · refine l_iconst rfl ?_
      refine l_istore rfl rfl rfl ?_
      exact Rl_weak (C43 _ T3 hHT3 hFT3 (z15) ((Xi T3 904 154)) (0) (by omega) (by omega) (by omega) (by omega) rfl) (And.intro rfl (And.intro rfl (And.intro rfl (And.intro rfl (True.intro)))))
  · refine l_aload_n rfl rfl ?_
    refine l_iload_n rfl rfl ?_
    refine l_callV rfl rfl rfl (t_mo_putNumber hHT3 z15 ⟨by omega, by omega⟩ _) ?_
    rintro _ T5 ⟨hHT5, w32, rfl⟩
    have hFT5 : FR md_mo_putProperty S T5 := FR.tr hFT3 w32 rfl
    show Rl _ _ _ _ _ [] _ _
    refine l_goto rfl rfl ?_
    refine l_return rfl rfl ?_
    exact ⟨hHT5, hFT5, rfl⟩
def md_mo_saysInside : List rec := [(904, 905, 154, 155), (904, 905, 156, 157), (993, 994, 0, 100000)]
abbrev Q_mo_saysInside (S : sS) : pst := fun r S1 => HI S1 ∧ FR md_mo_saysInside S S1 ∧ (∃ z : Int, r = some (iv z) ∧ (0 ≤ z ∧ z ≤ 1))
set_option maxRecDepth 100000 in
theorem c30_mo_saysInside {S : sS} (hH : HI S) (hM : LXM S) (hB : ABV S) (hX : TXM S) (hno : Xi S 904 158 < Xi S 904 19) (d : Nat) : ∀  (v1 : Int), (1 ≤ v1 ∧ v1 ≤ 64) → Rl lay0 (d + 4) m_mo_saysInside 30 [(0, .ref 904), (1, iv v1)] [] S (Q_mo_saysInside S) := by
  have hF : FR md_mo_saysInside S S := FR.rf
  have w1 : -1 ≤ Xi S 904 158 ∧ Xi S 904 158 ≤ 23 := hH.c _ _
  have w2 : 0 ≤ Xi S 904 19 ∧ Xi S 904 19 ≤ 24 := hH.c _ _
  have hc19 : 0 ≤ Xi S 904 19 ∧ Xi S 904 19 ≤ 24 := hH.c _ _
  have hc32 : 0 ≤ Xi S 904 32 ∧ Xi S 904 32 ≤ 12 := hH.c _ _
  intro v1 w3
  refine l_aload_n rfl rfl ?_
  refine l_gfi rfl rfl rfl rfl rfl ?_
  have w4 : 0 ≤ (Xi S 904 160) ∧ (Xi S 904 160) ≤ 64 := hH.c _ _
  refine l_if_le rfl rfl (by unfold rg; omega) (fun w5 => ?_) (fun w6 => ?_)
  · refine l_iconst rfl ?_
    refine l_istore_n rfl rfl rfl ?_
    refine l_aload_n rfl rfl ?_
    refine l_iload_n rfl rfl ?_
    refine l_if_eq rfl rfl (by unfold rg; omega) (fun w7 => ?_) (fun w8 => absurd w8 (by omega))
    · refine l_iconst rfl ?_
      have w9 : 0 ≤ Xi S 904 157 ∧ Xi S 904 157 ≤ 1 := hH.c _ _
      refine l_callV rfl rfl rfl (t_mo_insideThing hH 0 ⟨by omega, by omega⟩ (by first | assumption | exact (LXM_FR hF rfl (by assumption : LXM S))) _) ?_
      rintro _ _ ⟨rfl, z14, rfl, w14, w12, w13⟩
      show Rl _ _ _ _ _ [iv z14] _ _
      refine l_istore_n rfl rfl rfl ?_
      refine l_iload_n rfl rfl ?_
      refine l_bipush rfl rfl ?_
      refine l_icmp_ne rfl rfl (by unfold rg; omega) (by unfold rg; omega) (fun w15 => ?_) (fun w16 => ?_)
      · refine l_iload_n rfl rfl ?_
        refine l_bipush rfl rfl ?_
        refine l_icmp_ne rfl rfl (by unfold rg; omega) (by unfold rg; omega) (fun w17 => ?_) (fun w18 => ?_)
        · refine l_iload_n rfl rfl ?_
          refine l_istore rfl rfl rfl ?_
          refine l_iload_n rfl rfl ?_
          refine l_if_ne rfl rfl (by unfold rg; omega) (fun w19 => absurd w19 (by omega)) (fun w20 => ?_)
          · refine l_aload_n rfl rfl ?_
            refine l_gfi rfl rfl rfl rfl rfl ?_
            have w21 : 0 ≤ (Xi S 904 157) ∧ (Xi S 904 157) ≤ 1 := hH.c _ _
            refine l_if_ne rfl rfl (by unfold rg; omega) (fun w22 => ?_) (fun w23 => ?_)
            · refine l_iconst rfl ?_
              refine l_ireturn rfl rfl ?_
              exact ⟨hH, hF, _, rfl, ⟨by omega, by omega⟩⟩
            · refine l_aload_n rfl rfl ?_
              refine l_aload_n rfl rfl ?_
              refine l_iconst rfl ?_
              refine l_iload rfl rfl ?_
              have w24 : 0 ≤ Xi S 904 15 ∧ Xi S 904 15 ≤ 300 := hH.c _ _
              refine l_callV rfl rfl rfl (t_mo_lexOf hH 4 z14 ⟨by omega, by omega⟩ ⟨by omega, by omega⟩ _) ?_
              rintro _ _ ⟨rfl, z26, rfl, w26, w25⟩
              show Rl _ _ _ _ _ [iv z26, .ref 904] _ _
              refine l_callV rfl rfl rfl (t_mo_putLex hH z26 ⟨by omega, by omega⟩ _) ?_
              rintro _ T1 ⟨hHT1, w28, rfl⟩
              have hFT1 : FR md_mo_saysInside S T1 := FR.tr hF w28 rfl
              show Rl _ _ _ _ _ [] _ _
              refine l_iconst rfl ?_
              refine l_ireturn rfl rfl ?_
              exact ⟨hHT1, hFT1, _, rfl, ⟨by omega, by omega⟩⟩
        · refine l_aload_n rfl rfl ?_
          refine l_gfi rfl rfl rfl rfl rfl ?_
          refine l_goto rfl rfl ?_
          refine l_istore rfl rfl rfl ?_
          refine l_iload_n rfl rfl ?_
          refine l_if_ne rfl rfl (by unfold rg; omega) (fun w29 => absurd w29 (by omega)) (fun w30 => ?_)
          · refine l_aload_n rfl rfl ?_
            refine l_gfi rfl rfl rfl rfl rfl ?_
            have w31 : 0 ≤ (Xi S 904 157) ∧ (Xi S 904 157) ≤ 1 := hH.c _ _
            refine l_if_ne rfl rfl (by unfold rg; omega) (fun w32 => ?_) (fun w33 => ?_)
            · refine l_iconst rfl ?_
              refine l_ireturn rfl rfl ?_
              exact ⟨hH, hF, _, rfl, ⟨by omega, by omega⟩⟩
            · refine l_aload_n rfl rfl ?_
              refine l_aload_n rfl rfl ?_
              refine l_iconst rfl ?_
              refine l_iload rfl rfl ?_
              have w34 : 0 ≤ Xi S 904 15 ∧ Xi S 904 15 ≤ 300 := hH.c _ _
              refine l_callV rfl rfl rfl (t_mo_lexOf hH 4 (Xi S 904 158) ⟨by omega, by omega⟩ ⟨by omega, by omega⟩ _) ?_
              rintro _ _ ⟨rfl, z36, rfl, w36, w35⟩
              show Rl _ _ _ _ _ [iv z36, .ref 904] _ _
              refine l_callV rfl rfl rfl (t_mo_putLex hH z36 ⟨by omega, by omega⟩ _) ?_
              rintro _ T2 ⟨hHT2, w38, rfl⟩
              have hFT2 : FR md_mo_saysInside S T2 := FR.tr hF w38 rfl
              show Rl _ _ _ _ _ [] _ _
              refine l_iconst rfl ?_
              refine l_ireturn rfl rfl ?_
              exact ⟨hHT2, hFT2, _, rfl, ⟨by omega, by omega⟩⟩
      · refine l_iconst rfl ?_
        refine l_ireturn rfl rfl ?_
        exact ⟨hH, hF, _, rfl, ⟨by omega, by omega⟩⟩
  · refine l_aload_n rfl rfl ?_
    refine l_aload_n rfl rfl ?_
    refine l_gfr rfl rfl rfl rfl rfl (hH.r 904 159 994 rfl) ?_
    refine l_iconst rfl ?_
    refine l_laload (n := 64) rfl rfl (by omega) (by omega) (by unfold rg; omega) ?_
    have w39 : -9223372036854775808 ≤ (Xj S 994 ((0 : Int).toNat)) ∧ (Xj S 994 ((0 : Int).toNat)) < 9223372036854775808 := Xj_rg
    refine l_callV rfl rfl rfl (t_mo_keyOf hH (Xj S 994 ((0 : Int).toNat)) _) ?_
    rintro _ _ ⟨rfl, z40, rfl, w40⟩
    show Rl _ _ _ _ _ [iv z40] _ _
    refine l_bipush rfl rfl ?_
    refine l_icmp_ne rfl rfl (by unfold rg; omega) (by unfold rg; omega) (fun w41 => ?_) (fun w42 => ?_)
    · refine l_iconst rfl ?_
      refine l_istore_n rfl rfl rfl ?_
      refine l_aload_n rfl rfl ?_
      refine l_iload_n rfl rfl ?_
      refine l_if_eq rfl rfl (by unfold rg; omega) (fun w43 => ?_) (fun w44 => absurd w44 (by omega))
      · refine l_iconst rfl ?_
        have w45 : 0 ≤ Xi S 904 157 ∧ Xi S 904 157 ≤ 1 := hH.c _ _
        refine l_callV rfl rfl rfl (t_mo_insideThing hH 0 ⟨by omega, by omega⟩ (by first | assumption | exact (LXM_FR hF rfl (by assumption : LXM S))) _) ?_
        rintro _ _ ⟨rfl, z50, rfl, w50, w48, w49⟩
        show Rl _ _ _ _ _ [iv z50] _ _
        refine l_istore_n rfl rfl rfl ?_
        refine l_iload_n rfl rfl ?_
        refine l_bipush rfl rfl ?_
        refine l_icmp_ne rfl rfl (by unfold rg; omega) (by unfold rg; omega) (fun w51 => ?_) (fun w52 => ?_)
        · refine l_iload_n rfl rfl ?_
          refine l_bipush rfl rfl ?_
          refine l_icmp_ne rfl rfl (by unfold rg; omega) (by unfold rg; omega) (fun w53 => ?_) (fun w54 => ?_)
          · refine l_iload_n rfl rfl ?_
            refine l_istore rfl rfl rfl ?_
            refine l_iload_n rfl rfl ?_
            refine l_if_ne rfl rfl (by unfold rg; omega) (fun w55 => absurd w55 (by omega)) (fun w56 => ?_)
            · refine l_aload_n rfl rfl ?_
              refine l_gfi rfl rfl rfl rfl rfl ?_
              have w57 : 0 ≤ (Xi S 904 157) ∧ (Xi S 904 157) ≤ 1 := hH.c _ _
              refine l_if_ne rfl rfl (by unfold rg; omega) (fun w58 => ?_) (fun w59 => ?_)
              · refine l_iconst rfl ?_
                refine l_ireturn rfl rfl ?_
                exact ⟨hH, hF, _, rfl, ⟨by omega, by omega⟩⟩
              · refine l_aload_n rfl rfl ?_
                refine l_aload_n rfl rfl ?_
                refine l_iconst rfl ?_
                refine l_iload rfl rfl ?_
                have w60 : 0 ≤ Xi S 904 15 ∧ Xi S 904 15 ≤ 300 := hH.c _ _
                refine l_callV rfl rfl rfl (t_mo_lexOf hH 4 z50 ⟨by omega, by omega⟩ ⟨by omega, by omega⟩ _) ?_
                rintro _ _ ⟨rfl, z62, rfl, w62, w61⟩
                show Rl _ _ _ _ _ [iv z62, .ref 904] _ _
                refine l_callV rfl rfl rfl (t_mo_putLex hH z62 ⟨by omega, by omega⟩ _) ?_
                rintro _ T3 ⟨hHT3, w64, rfl⟩
                have hFT3 : FR md_mo_saysInside S T3 := FR.tr hF w64 rfl
                show Rl _ _ _ _ _ [] _ _
                refine l_iconst rfl ?_
                refine l_ireturn rfl rfl ?_
                exact ⟨hHT3, hFT3, _, rfl, ⟨by omega, by omega⟩⟩
          · refine l_aload_n rfl rfl ?_
            refine l_gfi rfl rfl rfl rfl rfl ?_
            refine l_goto rfl rfl ?_
            refine l_istore rfl rfl rfl ?_
            refine l_iload_n rfl rfl ?_
            refine l_if_ne rfl rfl (by unfold rg; omega) (fun w65 => absurd w65 (by omega)) (fun w66 => ?_)
            · refine l_aload_n rfl rfl ?_
              refine l_gfi rfl rfl rfl rfl rfl ?_
              have w67 : 0 ≤ (Xi S 904 157) ∧ (Xi S 904 157) ≤ 1 := hH.c _ _
              refine l_if_ne rfl rfl (by unfold rg; omega) (fun w68 => ?_) (fun w69 => ?_)
              · refine l_iconst rfl ?_
                refine l_ireturn rfl rfl ?_
                exact ⟨hH, hF, _, rfl, ⟨by omega, by omega⟩⟩
              · refine l_aload_n rfl rfl ?_
                refine l_aload_n rfl rfl ?_
                refine l_iconst rfl ?_
                refine l_iload rfl rfl ?_
                have w70 : 0 ≤ Xi S 904 15 ∧ Xi S 904 15 ≤ 300 := hH.c _ _
                refine l_callV rfl rfl rfl (t_mo_lexOf hH 4 (Xi S 904 158) ⟨by omega, by omega⟩ ⟨by omega, by omega⟩ _) ?_
                rintro _ _ ⟨rfl, z72, rfl, w72, w71⟩
                show Rl _ _ _ _ _ [iv z72, .ref 904] _ _
                refine l_callV rfl rfl rfl (t_mo_putLex hH z72 ⟨by omega, by omega⟩ _) ?_
                rintro _ T4 ⟨hHT4, w74, rfl⟩
                have hFT4 : FR md_mo_saysInside S T4 := FR.tr hF w74 rfl
                show Rl _ _ _ _ _ [] _ _
                refine l_iconst rfl ?_
                refine l_ireturn rfl rfl ?_
                exact ⟨hHT4, hFT4, _, rfl, ⟨by omega, by omega⟩⟩
        · refine l_iconst rfl ?_
          refine l_ireturn rfl rfl ?_
          exact ⟨hH, hF, _, rfl, ⟨by omega, by omega⟩⟩
    · refine l_iload_n rfl rfl ?_
      refine l_iconst rfl ?_
      refine l_icmp_le rfl rfl (by unfold rg; omega) (by unfold rg; omega) (fun w75 => ?_) (fun w76 => ?_)
      · refine l_iconst rfl ?_
        refine l_istore_n rfl rfl rfl ?_
        refine l_aload_n rfl rfl ?_
        refine l_iload_n rfl rfl ?_
        refine l_if_eq rfl rfl (by unfold rg; omega) (fun w77 => ?_) (fun w78 => absurd w78 (by omega))
        · refine l_iconst rfl ?_
          have w79 : 0 ≤ Xi S 904 157 ∧ Xi S 904 157 ≤ 1 := hH.c _ _
          refine l_callV rfl rfl rfl (t_mo_insideThing hH 0 ⟨by omega, by omega⟩ (by first | assumption | exact (LXM_FR hF rfl (by assumption : LXM S))) _) ?_
          rintro _ _ ⟨rfl, z84, rfl, w84, w82, w83⟩
          show Rl _ _ _ _ _ [iv z84] _ _
          refine l_istore_n rfl rfl rfl ?_
          refine l_iload_n rfl rfl ?_
          refine l_bipush rfl rfl ?_
          refine l_icmp_ne rfl rfl (by unfold rg; omega) (by unfold rg; omega) (fun w85 => ?_) (fun w86 => ?_)
          · refine l_iload_n rfl rfl ?_
            refine l_bipush rfl rfl ?_
            refine l_icmp_ne rfl rfl (by unfold rg; omega) (by unfold rg; omega) (fun w87 => ?_) (fun w88 => ?_)
            · refine l_iload_n rfl rfl ?_
              refine l_istore rfl rfl rfl ?_
              refine l_iload_n rfl rfl ?_
              refine l_if_ne rfl rfl (by unfold rg; omega) (fun w89 => absurd w89 (by omega)) (fun w90 => ?_)
              · refine l_aload_n rfl rfl ?_
                refine l_gfi rfl rfl rfl rfl rfl ?_
                have w91 : 0 ≤ (Xi S 904 157) ∧ (Xi S 904 157) ≤ 1 := hH.c _ _
                refine l_if_ne rfl rfl (by unfold rg; omega) (fun w92 => ?_) (fun w93 => ?_)
                · refine l_iconst rfl ?_
                  refine l_ireturn rfl rfl ?_
                  exact ⟨hH, hF, _, rfl, ⟨by omega, by omega⟩⟩
                · refine l_aload_n rfl rfl ?_
                  refine l_aload_n rfl rfl ?_
                  refine l_iconst rfl ?_
                  refine l_iload rfl rfl ?_
                  have w94 : 0 ≤ Xi S 904 15 ∧ Xi S 904 15 ≤ 300 := hH.c _ _
                  refine l_callV rfl rfl rfl (t_mo_lexOf hH 4 z84 ⟨by omega, by omega⟩ ⟨by omega, by omega⟩ _) ?_
                  rintro _ _ ⟨rfl, z96, rfl, w96, w95⟩
                  show Rl _ _ _ _ _ [iv z96, .ref 904] _ _
                  refine l_callV rfl rfl rfl (t_mo_putLex hH z96 ⟨by omega, by omega⟩ _) ?_
                  rintro _ T5 ⟨hHT5, w98, rfl⟩
                  have hFT5 : FR md_mo_saysInside S T5 := FR.tr hF w98 rfl
                  show Rl _ _ _ _ _ [] _ _
                  refine l_iconst rfl ?_
                  refine l_ireturn rfl rfl ?_
                  exact ⟨hHT5, hFT5, _, rfl, ⟨by omega, by omega⟩⟩
            · refine l_aload_n rfl rfl ?_
              refine l_gfi rfl rfl rfl rfl rfl ?_
              refine l_goto rfl rfl ?_
              refine l_istore rfl rfl rfl ?_
              refine l_iload_n rfl rfl ?_
              refine l_if_ne rfl rfl (by unfold rg; omega) (fun w99 => absurd w99 (by omega)) (fun w100 => ?_)
              · refine l_aload_n rfl rfl ?_
                refine l_gfi rfl rfl rfl rfl rfl ?_
                have w101 : 0 ≤ (Xi S 904 157) ∧ (Xi S 904 157) ≤ 1 := hH.c _ _
                refine l_if_ne rfl rfl (by unfold rg; omega) (fun w102 => ?_) (fun w103 => ?_)
                · refine l_iconst rfl ?_
                  refine l_ireturn rfl rfl ?_
                  exact ⟨hH, hF, _, rfl, ⟨by omega, by omega⟩⟩
                · refine l_aload_n rfl rfl ?_
                  refine l_aload_n rfl rfl ?_
                  refine l_iconst rfl ?_
                  refine l_iload rfl rfl ?_
                  have w104 : 0 ≤ Xi S 904 15 ∧ Xi S 904 15 ≤ 300 := hH.c _ _
                  refine l_callV rfl rfl rfl (t_mo_lexOf hH 4 (Xi S 904 158) ⟨by omega, by omega⟩ ⟨by omega, by omega⟩ _) ?_
                  rintro _ _ ⟨rfl, z106, rfl, w106, w105⟩
                  show Rl _ _ _ _ _ [iv z106, .ref 904] _ _
                  refine l_callV rfl rfl rfl (t_mo_putLex hH z106 ⟨by omega, by omega⟩ _) ?_
                  rintro _ T6 ⟨hHT6, w108, rfl⟩
                  have hFT6 : FR md_mo_saysInside S T6 := FR.tr hF w108 rfl
                  show Rl _ _ _ _ _ [] _ _
                  refine l_iconst rfl ?_
                  refine l_ireturn rfl rfl ?_
                  exact ⟨hHT6, hFT6, _, rfl, ⟨by omega, by omega⟩⟩
          · refine l_iconst rfl ?_
            refine l_ireturn rfl rfl ?_
            exact ⟨hH, hF, _, rfl, ⟨by omega, by omega⟩⟩
      · refine l_iload_n rfl rfl ?_
        refine l_aload_n rfl rfl ?_
        refine l_gfi rfl rfl rfl rfl rfl ?_
        refine l_icmp_ge rfl rfl (by unfold rg; omega) (by unfold rg; omega) (fun w109 => ?_) (fun w110 => ?_)
        · refine l_iconst rfl ?_
          refine l_istore_n rfl rfl rfl ?_
          refine l_aload_n rfl rfl ?_
          refine l_iload_n rfl rfl ?_
          refine l_if_eq rfl rfl (by unfold rg; omega) (fun w111 => ?_) (fun w112 => absurd w112 (by omega))
          · refine l_iconst rfl ?_
            have w113 : 0 ≤ Xi S 904 157 ∧ Xi S 904 157 ≤ 1 := hH.c _ _
            refine l_callV rfl rfl rfl (t_mo_insideThing hH 0 ⟨by omega, by omega⟩ (by first | assumption | exact (LXM_FR hF rfl (by assumption : LXM S))) _) ?_
            rintro _ _ ⟨rfl, z118, rfl, w118, w116, w117⟩
            show Rl _ _ _ _ _ [iv z118] _ _
            refine l_istore_n rfl rfl rfl ?_
            refine l_iload_n rfl rfl ?_
            refine l_bipush rfl rfl ?_
            refine l_icmp_ne rfl rfl (by unfold rg; omega) (by unfold rg; omega) (fun w119 => ?_) (fun w120 => ?_)
            · refine l_iload_n rfl rfl ?_
              refine l_bipush rfl rfl ?_
              refine l_icmp_ne rfl rfl (by unfold rg; omega) (by unfold rg; omega) (fun w121 => ?_) (fun w122 => ?_)
              · refine l_iload_n rfl rfl ?_
                refine l_istore rfl rfl rfl ?_
                refine l_iload_n rfl rfl ?_
                refine l_if_ne rfl rfl (by unfold rg; omega) (fun w123 => absurd w123 (by omega)) (fun w124 => ?_)
                · refine l_aload_n rfl rfl ?_
                  refine l_gfi rfl rfl rfl rfl rfl ?_
                  have w125 : 0 ≤ (Xi S 904 157) ∧ (Xi S 904 157) ≤ 1 := hH.c _ _
                  refine l_if_ne rfl rfl (by unfold rg; omega) (fun w126 => ?_) (fun w127 => ?_)
                  · refine l_iconst rfl ?_
                    refine l_ireturn rfl rfl ?_
                    exact ⟨hH, hF, _, rfl, ⟨by omega, by omega⟩⟩
                  · refine l_aload_n rfl rfl ?_
                    refine l_aload_n rfl rfl ?_
                    refine l_iconst rfl ?_
                    refine l_iload rfl rfl ?_
                    have w128 : 0 ≤ Xi S 904 15 ∧ Xi S 904 15 ≤ 300 := hH.c _ _
                    refine l_callV rfl rfl rfl (t_mo_lexOf hH 4 z118 ⟨by omega, by omega⟩ ⟨by omega, by omega⟩ _) ?_
                    rintro _ _ ⟨rfl, z130, rfl, w130, w129⟩
                    show Rl _ _ _ _ _ [iv z130, .ref 904] _ _
                    refine l_callV rfl rfl rfl (t_mo_putLex hH z130 ⟨by omega, by omega⟩ _) ?_
                    rintro _ T7 ⟨hHT7, w132, rfl⟩
                    have hFT7 : FR md_mo_saysInside S T7 := FR.tr hF w132 rfl
                    show Rl _ _ _ _ _ [] _ _
                    refine l_iconst rfl ?_
                    refine l_ireturn rfl rfl ?_
                    exact ⟨hHT7, hFT7, _, rfl, ⟨by omega, by omega⟩⟩
              · refine l_aload_n rfl rfl ?_
                refine l_gfi rfl rfl rfl rfl rfl ?_
                refine l_goto rfl rfl ?_
                refine l_istore rfl rfl rfl ?_
                refine l_iload_n rfl rfl ?_
                refine l_if_ne rfl rfl (by unfold rg; omega) (fun w133 => absurd w133 (by omega)) (fun w134 => ?_)
                · refine l_aload_n rfl rfl ?_
                  refine l_gfi rfl rfl rfl rfl rfl ?_
                  have w135 : 0 ≤ (Xi S 904 157) ∧ (Xi S 904 157) ≤ 1 := hH.c _ _
                  refine l_if_ne rfl rfl (by unfold rg; omega) (fun w136 => ?_) (fun w137 => ?_)
                  · refine l_iconst rfl ?_
                    refine l_ireturn rfl rfl ?_
                    exact ⟨hH, hF, _, rfl, ⟨by omega, by omega⟩⟩
                  · refine l_aload_n rfl rfl ?_
                    refine l_aload_n rfl rfl ?_
                    refine l_iconst rfl ?_
                    refine l_iload rfl rfl ?_
                    have w138 : 0 ≤ Xi S 904 15 ∧ Xi S 904 15 ≤ 300 := hH.c _ _
                    refine l_callV rfl rfl rfl (t_mo_lexOf hH 4 (Xi S 904 158) ⟨by omega, by omega⟩ ⟨by omega, by omega⟩ _) ?_
                    rintro _ _ ⟨rfl, z140, rfl, w140, w139⟩
                    show Rl _ _ _ _ _ [iv z140, .ref 904] _ _
                    refine l_callV rfl rfl rfl (t_mo_putLex hH z140 ⟨by omega, by omega⟩ _) ?_
                    rintro _ T8 ⟨hHT8, w142, rfl⟩
                    have hFT8 : FR md_mo_saysInside S T8 := FR.tr hF w142 rfl
                    show Rl _ _ _ _ _ [] _ _
                    refine l_iconst rfl ?_
                    refine l_ireturn rfl rfl ?_
                    exact ⟨hHT8, hFT8, _, rfl, ⟨by omega, by omega⟩⟩
            · refine l_iconst rfl ?_
              refine l_ireturn rfl rfl ?_
              exact ⟨hH, hF, _, rfl, ⟨by omega, by omega⟩⟩
        · refine l_aload_n rfl rfl ?_
          refine l_aload_n rfl rfl ?_
          refine l_gfr rfl rfl rfl rfl rfl (hH.r 904 159 994 rfl) ?_
          refine l_iload_n rfl rfl ?_
          refine l_laload (n := 64) rfl rfl (by omega) (by omega) (by unfold rg; omega) ?_
          have w143 : -9223372036854775808 ≤ (Xj S 994 ((v1).toNat)) ∧ (Xj S 994 ((v1).toNat)) < 9223372036854775808 := Xj_rg
          refine l_callV rfl rfl rfl (t_mo_keyOf hH (Xj S 994 ((v1).toNat)) _) ?_
          rintro _ _ ⟨rfl, z144, rfl, w144⟩
          show Rl _ _ _ _ _ [iv z144] _ _
          refine l_bipush rfl rfl ?_
          refine l_icmp_ne rfl rfl (by unfold rg; omega) (by unfold rg; omega) (fun w145 => ?_) (fun w146 => ?_)
          · refine l_iconst rfl ?_
            refine l_istore_n rfl rfl rfl ?_
            refine l_aload_n rfl rfl ?_
            refine l_iload_n rfl rfl ?_
            refine l_if_eq rfl rfl (by unfold rg; omega) (fun w147 => ?_) (fun w148 => absurd w148 (by omega))
            · refine l_iconst rfl ?_
              have w149 : 0 ≤ Xi S 904 157 ∧ Xi S 904 157 ≤ 1 := hH.c _ _
              refine l_callV rfl rfl rfl (t_mo_insideThing hH 0 ⟨by omega, by omega⟩ (by first | assumption | exact (LXM_FR hF rfl (by assumption : LXM S))) _) ?_
              rintro _ _ ⟨rfl, z154, rfl, w154, w152, w153⟩
              show Rl _ _ _ _ _ [iv z154] _ _
              refine l_istore_n rfl rfl rfl ?_
              refine l_iload_n rfl rfl ?_
              refine l_bipush rfl rfl ?_
              refine l_icmp_ne rfl rfl (by unfold rg; omega) (by unfold rg; omega) (fun w155 => ?_) (fun w156 => ?_)
              · refine l_iload_n rfl rfl ?_
                refine l_bipush rfl rfl ?_
                refine l_icmp_ne rfl rfl (by unfold rg; omega) (by unfold rg; omega) (fun w157 => ?_) (fun w158 => ?_)
                · refine l_iload_n rfl rfl ?_
                  refine l_istore rfl rfl rfl ?_
                  refine l_iload_n rfl rfl ?_
                  refine l_if_ne rfl rfl (by unfold rg; omega) (fun w159 => absurd w159 (by omega)) (fun w160 => ?_)
                  · refine l_aload_n rfl rfl ?_
                    refine l_gfi rfl rfl rfl rfl rfl ?_
                    have w161 : 0 ≤ (Xi S 904 157) ∧ (Xi S 904 157) ≤ 1 := hH.c _ _
                    refine l_if_ne rfl rfl (by unfold rg; omega) (fun w162 => ?_) (fun w163 => ?_)
                    · refine l_iconst rfl ?_
                      refine l_ireturn rfl rfl ?_
                      exact ⟨hH, hF, _, rfl, ⟨by omega, by omega⟩⟩
                    · refine l_aload_n rfl rfl ?_
                      refine l_aload_n rfl rfl ?_
                      refine l_iconst rfl ?_
                      refine l_iload rfl rfl ?_
                      have w164 : 0 ≤ Xi S 904 15 ∧ Xi S 904 15 ≤ 300 := hH.c _ _
                      refine l_callV rfl rfl rfl (t_mo_lexOf hH 4 z154 ⟨by omega, by omega⟩ ⟨by omega, by omega⟩ _) ?_
                      rintro _ _ ⟨rfl, z166, rfl, w166, w165⟩
                      show Rl _ _ _ _ _ [iv z166, .ref 904] _ _
                      refine l_callV rfl rfl rfl (t_mo_putLex hH z166 ⟨by omega, by omega⟩ _) ?_
                      rintro _ T9 ⟨hHT9, w168, rfl⟩
                      have hFT9 : FR md_mo_saysInside S T9 := FR.tr hF w168 rfl
                      show Rl _ _ _ _ _ [] _ _
                      refine l_iconst rfl ?_
                      refine l_ireturn rfl rfl ?_
                      exact ⟨hHT9, hFT9, _, rfl, ⟨by omega, by omega⟩⟩
                · refine l_aload_n rfl rfl ?_
                  refine l_gfi rfl rfl rfl rfl rfl ?_
                  refine l_goto rfl rfl ?_
                  refine l_istore rfl rfl rfl ?_
                  refine l_iload_n rfl rfl ?_
                  refine l_if_ne rfl rfl (by unfold rg; omega) (fun w169 => absurd w169 (by omega)) (fun w170 => ?_)
                  · refine l_aload_n rfl rfl ?_
                    refine l_gfi rfl rfl rfl rfl rfl ?_
                    have w171 : 0 ≤ (Xi S 904 157) ∧ (Xi S 904 157) ≤ 1 := hH.c _ _
                    refine l_if_ne rfl rfl (by unfold rg; omega) (fun w172 => ?_) (fun w173 => ?_)
                    · refine l_iconst rfl ?_
                      refine l_ireturn rfl rfl ?_
                      exact ⟨hH, hF, _, rfl, ⟨by omega, by omega⟩⟩
                    · refine l_aload_n rfl rfl ?_
                      refine l_aload_n rfl rfl ?_
                      refine l_iconst rfl ?_
                      refine l_iload rfl rfl ?_
                      have w174 : 0 ≤ Xi S 904 15 ∧ Xi S 904 15 ≤ 300 := hH.c _ _
                      refine l_callV rfl rfl rfl (t_mo_lexOf hH 4 (Xi S 904 158) ⟨by omega, by omega⟩ ⟨by omega, by omega⟩ _) ?_
                      rintro _ _ ⟨rfl, z176, rfl, w176, w175⟩
                      show Rl _ _ _ _ _ [iv z176, .ref 904] _ _
                      refine l_callV rfl rfl rfl (t_mo_putLex hH z176 ⟨by omega, by omega⟩ _) ?_
                      rintro _ T10 ⟨hHT10, w178, rfl⟩
                      have hFT10 : FR md_mo_saysInside S T10 := FR.tr hF w178 rfl
                      show Rl _ _ _ _ _ [] _ _
                      refine l_iconst rfl ?_
                      refine l_ireturn rfl rfl ?_
                      exact ⟨hHT10, hFT10, _, rfl, ⟨by omega, by omega⟩⟩
              · refine l_iconst rfl ?_
                refine l_ireturn rfl rfl ?_
                exact ⟨hH, hF, _, rfl, ⟨by omega, by omega⟩⟩
          · refine l_iconst rfl ?_
            refine l_goto rfl rfl ?_
            refine l_istore_n rfl rfl rfl ?_
            refine l_aload_n rfl rfl ?_
            refine l_iload_n rfl rfl ?_
            refine l_if_eq rfl rfl (by unfold rg; omega) (fun w179 => absurd w179 (by omega)) (fun w180 => ?_)
            · refine l_iload_n rfl rfl ?_
              refine l_iconst rfl ?_
              refine l_iadd rfl ?_
              refine l_goto rfl rfl ?_
              have w181 : 0 ≤ Xi S 904 157 ∧ Xi S 904 157 ≤ 1 := hH.c _ _
              refine l_callV rfl rfl rfl (t_mo_insideThing hH (v1 + 1) ⟨by omega, by omega⟩ (by first | assumption | exact (LXM_FR hF rfl (by assumption : LXM S))) _) ?_
              rintro _ _ ⟨rfl, z186, rfl, w186, w184, w185⟩
              show Rl _ _ _ _ _ [iv z186] _ _
              refine l_istore_n rfl rfl rfl ?_
              refine l_iload_n rfl rfl ?_
              refine l_bipush rfl rfl ?_
              refine l_icmp_ne rfl rfl (by unfold rg; omega) (by unfold rg; omega) (fun w187 => ?_) (fun w188 => ?_)
              · refine l_iload_n rfl rfl ?_
                refine l_bipush rfl rfl ?_
                refine l_icmp_ne rfl rfl (by unfold rg; omega) (by unfold rg; omega) (fun w189 => ?_) (fun w190 => ?_)
                · refine l_iload_n rfl rfl ?_
                  refine l_istore rfl rfl rfl ?_
                  refine l_iload_n rfl rfl ?_
                  refine l_if_ne rfl rfl (by unfold rg; omega) (fun w191 => ?_) (fun w192 => absurd w192 (by omega))
                  · refine l_aload_n rfl rfl ?_
                    refine l_iconst rfl ?_
                    refine l_iload_n rfl rfl ?_
                    refine l_iconst rfl ?_
                    refine l_isub rfl ?_
                    have w193 : 0 ≤ Xi S 904 15 ∧ Xi S 904 15 ≤ 300 := hH.c _ _
                    refine l_callV rfl rfl rfl (t_mo_foundIn hH 1 (v1 - 1) ⟨by omega, by omega⟩ ⟨by omega, by omega⟩ (by first | assumption | omega) _) ?_
                    rintro _ _ ⟨rfl, z195, rfl, w195, w194⟩
                    show Rl _ _ _ _ _ [iv z195] _ _
                    refine l_istore rfl rfl rfl ?_
                    refine l_iload rfl rfl ?_
                    refine l_iconst rfl ?_
                    refine l_icmp_eq rfl rfl (by unfold rg; omega) (by unfold rg; omega) (fun w196 => ?_) (fun w197 => ?_)
                    · refine l_iconst rfl ?_
                      refine l_istore rfl rfl rfl ?_
                      refine l_aload_n rfl rfl ?_
                      refine l_gfi rfl rfl rfl rfl rfl ?_
                      have w198 : 0 ≤ (Xi S 904 157) ∧ (Xi S 904 157) ≤ 1 := hH.c _ _
                      refine l_if_eq rfl rfl (by unfold rg; omega) (fun w199 => ?_) (fun w200 => ?_)
                      · refine l_aload_n rfl rfl ?_
                        refine l_gfr rfl rfl rfl rfl rfl (hH.r 904 20 918 rfl) ?_
                        refine l_iload rfl rfl ?_
                        refine l_iaload (n := 24) rfl rfl (by omega) (by omega) (by unfold rg; omega) ?_
                        have w201 : 0 ≤ (Xi S 918 ((z186).toNat)) ∧ (Xi S 918 ((z186).toNat)) ≤ 15 := hH.c _ _
                        refine l_istore rfl rfl rfl ?_
                        refine l_iload rfl rfl ?_
                        refine l_iconst rfl ?_
                        refine l_icmp_eq rfl rfl (by unfold rg; omega) (by unfold rg; omega) (fun w202 => ?_) (fun w203 => absurd w203 (by omega))
                        · refine l_iconst rfl ?_
                          refine l_ireturn rfl rfl ?_
                          exact ⟨hH, hF, _, rfl, ⟨by omega, by omega⟩⟩
                      · refine l_aload_n rfl rfl ?_
                        refine l_iload_n rfl rfl ?_
                        refine l_callV rfl rfl rfl (t_mo_kindOfThing hH z186 ⟨by omega, by omega⟩ (by first | assumption | omega) _) ?_
                        rintro _ _ ⟨rfl, z204, rfl, w204⟩
                        show Rl _ _ _ _ _ [iv z204] _ _
                        refine l_goto rfl rfl ?_
                        refine l_istore rfl rfl rfl ?_
                        refine l_iload rfl rfl ?_
                        refine l_iconst rfl ?_
                        refine l_icmp_eq rfl rfl (by unfold rg; omega) (by unfold rg; omega) (fun w205 => ?_) (fun w206 => absurd w206 (by omega))
                        · refine l_iconst rfl ?_
                          refine l_ireturn rfl rfl ?_
                          exact ⟨hH, hF, _, rfl, ⟨by omega, by omega⟩⟩
                    · refine l_aload_n rfl rfl ?_
                      refine l_gfr rfl rfl rfl rfl rfl (hH.r 904 12 914 rfl) ?_
                      refine l_iload rfl rfl ?_
                      refine l_iaload (n := 300) rfl rfl (by omega) (by omega) (by unfold rg; omega) ?_
                      have w207 : 0 ≤ (Xi S 914 ((z195).toNat)) ∧ (Xi S 914 ((z195).toNat)) ≤ 12 := hH.c _ _
                      refine l_bipush rfl rfl ?_
                      refine l_icmp_ne rfl rfl (by unfold rg; omega) (by unfold rg; omega) (fun w208 => ?_) (fun w209 => ?_)
                      · refine l_iconst rfl ?_
                        refine l_istore rfl rfl rfl ?_
                        refine l_aload_n rfl rfl ?_
                        refine l_gfi rfl rfl rfl rfl rfl ?_
                        have w210 : 0 ≤ (Xi S 904 157) ∧ (Xi S 904 157) ≤ 1 := hH.c _ _
                        refine l_if_eq rfl rfl (by unfold rg; omega) (fun w211 => ?_) (fun w212 => ?_)
                        · refine l_aload_n rfl rfl ?_
                          refine l_gfr rfl rfl rfl rfl rfl (hH.r 904 20 918 rfl) ?_
                          refine l_iload rfl rfl ?_
                          refine l_iaload (n := 24) rfl rfl (by omega) (by omega) (by unfold rg; omega) ?_
                          have w213 : 0 ≤ (Xi S 918 ((z186).toNat)) ∧ (Xi S 918 ((z186).toNat)) ≤ 15 := hH.c _ _
                          refine l_istore rfl rfl rfl ?_
                          refine l_iload rfl rfl ?_
                          refine l_iconst rfl ?_
                          refine l_icmp_eq rfl rfl (by unfold rg; omega) (by unfold rg; omega) (fun w214 => ?_) (fun w215 => absurd w215 (by omega))
                          · refine l_iconst rfl ?_
                            refine l_ireturn rfl rfl ?_
                            exact ⟨hH, hF, _, rfl, ⟨by omega, by omega⟩⟩
                        · refine l_aload_n rfl rfl ?_
                          refine l_iload_n rfl rfl ?_
                          refine l_callV rfl rfl rfl (t_mo_kindOfThing hH z186 ⟨by omega, by omega⟩ (by first | assumption | omega) _) ?_
                          rintro _ _ ⟨rfl, z216, rfl, w216⟩
                          show Rl _ _ _ _ _ [iv z216] _ _
                          refine l_goto rfl rfl ?_
                          refine l_istore rfl rfl rfl ?_
                          refine l_iload rfl rfl ?_
                          refine l_iconst rfl ?_
                          refine l_icmp_eq rfl rfl (by unfold rg; omega) (by unfold rg; omega) (fun w217 => ?_) (fun w218 => absurd w218 (by omega))
                          · refine l_iconst rfl ?_
                            refine l_ireturn rfl rfl ?_
                            exact ⟨hH, hF, _, rfl, ⟨by omega, by omega⟩⟩
                      · refine l_aload_n rfl rfl ?_
                        refine l_gfr rfl rfl rfl rfl rfl (hH.r 904 13 915 rfl) ?_
                        refine l_iload rfl rfl ?_
                        refine l_iaload (n := 300) rfl rfl (by omega) (by omega) (by unfold rg; omega) ?_
                        have w219 : 0 ≤ (Xi S 915 ((z195).toNat)) ∧ (Xi S 915 ((z195).toNat)) ≤ 63 := hH.c _ _
                        have x184 : (Xi S 915 ((z195).toNat)) < Xi S 904 32 := by have t := lxm (s := 7) hM (k := z195) (by omega) (by omega) (by omega); rw [cM7] at t; exact t
                        refine l_goto rfl rfl ?_
                        refine l_istore rfl rfl rfl ?_
                        refine l_aload_n rfl rfl ?_
                        refine l_gfi rfl rfl rfl rfl rfl ?_
                        have w220 : 0 ≤ (Xi S 904 157) ∧ (Xi S 904 157) ≤ 1 := hH.c _ _
                        refine l_if_eq rfl rfl (by unfold rg; omega) (fun w221 => ?_) (fun w222 => ?_)
                        · refine l_aload_n rfl rfl ?_
                          refine l_gfr rfl rfl rfl rfl rfl (hH.r 904 20 918 rfl) ?_
                          refine l_iload rfl rfl ?_
                          refine l_iaload (n := 24) rfl rfl (by omega) (by omega) (by unfold rg; omega) ?_
                          have w223 : 0 ≤ (Xi S 918 ((z186).toNat)) ∧ (Xi S 918 ((z186).toNat)) ≤ 15 := hH.c _ _
                          refine l_istore rfl rfl rfl ?_
                          refine l_iload rfl rfl ?_
                          refine l_iconst rfl ?_
                          refine l_icmp_eq rfl rfl (by unfold rg; omega) (by unfold rg; omega) (fun w224 => ?_) (fun w225 => ?_)
                          · refine l_iconst rfl ?_
                            refine l_ireturn rfl rfl ?_
                            exact ⟨hH, hF, _, rfl, ⟨by omega, by omega⟩⟩
                          · refine l_aload_n rfl rfl ?_
                            refine l_iload rfl rfl ?_
                            refine l_iload rfl rfl ?_
                            refine l_callV rfl rfl rfl (t_mo_has hH (Xi S 918 ((z186).toNat)) (Xi S 915 ((z195).toNat)) ⟨by omega, by omega⟩ ⟨by omega, by omega⟩ (by first | assumption | exact (ABV_FR hF rfl (by assumption : ABV S))) _) ?_
                            rintro _ _ ⟨rfl, z227, rfl, w227, w226⟩
                            show Rl _ _ _ _ _ [iv z227] _ _
                            refine l_if_ne rfl rfl (by unfold rg; omega) (fun w228 => ?_) (fun w229 => ?_)
                            · refine l_aload_n rfl rfl ?_
                              refine l_gfi rfl rfl rfl rfl rfl ?_
                              refine l_if_ne rfl rfl (by unfold rg; omega) (fun w230 => ?_) (fun w231 => ?_)
                              · refine l_iconst rfl ?_
                                refine l_ireturn rfl rfl ?_
                                exact ⟨hH, hF, _, rfl, ⟨by omega, by omega⟩⟩
                              · refine l_aload_n rfl rfl ?_
                                refine l_iload rfl rfl ?_
                                refine l_iload rfl rfl ?_
                                refine l_callV rfl rfl rfl (t_mo_putProperty hH z186 (Xi S 915 ((z195).toNat)) ⟨by omega, by omega⟩ ⟨by omega, by omega⟩ (by first | assumption | exact (ABV_FR hF rfl (by assumption : ABV S))) (by first | assumption | exact (TXM_FR hF rfl (by assumption : TXM S))) (by first | assumption | omega) _) ?_
                                rintro _ T11 ⟨hHT11, w234, rfl⟩
                                have hFT11 : FR md_mo_saysInside S T11 := FR.tr hF w234 rfl
                                show Rl _ _ _ _ _ [] _ _
                                refine l_iconst rfl ?_
                                refine l_ireturn rfl rfl ?_
                                exact ⟨hHT11, hFT11, _, rfl, ⟨by omega, by omega⟩⟩
                            · refine l_iconst rfl ?_
                              refine l_ireturn rfl rfl ?_
                              exact ⟨hH, hF, _, rfl, ⟨by omega, by omega⟩⟩
                        · refine l_aload_n rfl rfl ?_
                          refine l_iload_n rfl rfl ?_
                          refine l_callV rfl rfl rfl (t_mo_kindOfThing hH z186 ⟨by omega, by omega⟩ (by first | assumption | omega) _) ?_
                          rintro _ _ ⟨rfl, z235, rfl, w235⟩
                          show Rl _ _ _ _ _ [iv z235] _ _
                          refine l_goto rfl rfl ?_
                          refine l_istore rfl rfl rfl ?_
                          refine l_iload rfl rfl ?_
                          refine l_iconst rfl ?_
                          refine l_icmp_eq rfl rfl (by unfold rg; omega) (by unfold rg; omega) (fun w236 => ?_) (fun w237 => ?_)
                          · refine l_iconst rfl ?_
                            refine l_ireturn rfl rfl ?_
                            exact ⟨hH, hF, _, rfl, ⟨by omega, by omega⟩⟩
                          · refine l_aload_n rfl rfl ?_
                            refine l_iload rfl rfl ?_
                            refine l_iload rfl rfl ?_
                            refine l_callV rfl rfl rfl (t_mo_has hH z235 (Xi S 915 ((z195).toNat)) ⟨by omega, by omega⟩ ⟨by omega, by omega⟩ (by first | assumption | exact (ABV_FR hF rfl (by assumption : ABV S))) _) ?_
                            rintro _ _ ⟨rfl, z239, rfl, w239, w238⟩
                            show Rl _ _ _ _ _ [iv z239] _ _
                            refine l_if_ne rfl rfl (by unfold rg; omega) (fun w240 => ?_) (fun w241 => ?_)
                            · refine l_aload_n rfl rfl ?_
                              refine l_gfi rfl rfl rfl rfl rfl ?_
                              refine l_if_ne rfl rfl (by unfold rg; omega) (fun w242 => ?_) (fun w243 => ?_)
                              · refine l_iconst rfl ?_
                                refine l_ireturn rfl rfl ?_
                                exact ⟨hH, hF, _, rfl, ⟨by omega, by omega⟩⟩
                              · refine l_aload_n rfl rfl ?_
                                refine l_iload rfl rfl ?_
                                refine l_iload rfl rfl ?_
                                refine l_callV rfl rfl rfl (t_mo_putProperty hH z186 (Xi S 915 ((z195).toNat)) ⟨by omega, by omega⟩ ⟨by omega, by omega⟩ (by first | assumption | exact (ABV_FR hF rfl (by assumption : ABV S))) (by first | assumption | exact (TXM_FR hF rfl (by assumption : TXM S))) (by first | assumption | omega) _) ?_
                                rintro _ T12 ⟨hHT12, w246, rfl⟩
                                have hFT12 : FR md_mo_saysInside S T12 := FR.tr hF w246 rfl
                                show Rl _ _ _ _ _ [] _ _
                                refine l_iconst rfl ?_
                                refine l_ireturn rfl rfl ?_
                                exact ⟨hHT12, hFT12, _, rfl, ⟨by omega, by omega⟩⟩
                            · refine l_iconst rfl ?_
                              refine l_ireturn rfl rfl ?_
                              exact ⟨hH, hF, _, rfl, ⟨by omega, by omega⟩⟩
                · refine l_aload_n rfl rfl ?_
                  refine l_gfi rfl rfl rfl rfl rfl ?_
                  refine l_goto rfl rfl ?_
                  refine l_istore rfl rfl rfl ?_
                  refine l_iload_n rfl rfl ?_
                  refine l_if_ne rfl rfl (by unfold rg; omega) (fun w247 => ?_) (fun w248 => absurd w248 (by omega))
                  · refine l_aload_n rfl rfl ?_
                    refine l_iconst rfl ?_
                    refine l_iload_n rfl rfl ?_
                    refine l_iconst rfl ?_
                    refine l_isub rfl ?_
                    have w249 : 0 ≤ Xi S 904 15 ∧ Xi S 904 15 ≤ 300 := hH.c _ _
                    refine l_callV rfl rfl rfl (t_mo_foundIn hH 1 (v1 - 1) ⟨by omega, by omega⟩ ⟨by omega, by omega⟩ (by first | assumption | omega) _) ?_
                    rintro _ _ ⟨rfl, z251, rfl, w251, w250⟩
                    show Rl _ _ _ _ _ [iv z251] _ _
                    refine l_istore rfl rfl rfl ?_
                    refine l_iload rfl rfl ?_
                    refine l_iconst rfl ?_
                    refine l_icmp_eq rfl rfl (by unfold rg; omega) (by unfold rg; omega) (fun w252 => ?_) (fun w253 => ?_)
                    · refine l_iconst rfl ?_
                      refine l_istore rfl rfl rfl ?_
                      refine l_aload_n rfl rfl ?_
                      refine l_gfi rfl rfl rfl rfl rfl ?_
                      have w254 : 0 ≤ (Xi S 904 157) ∧ (Xi S 904 157) ≤ 1 := hH.c _ _
                      refine l_if_eq rfl rfl (by unfold rg; omega) (fun w255 => ?_) (fun w256 => ?_)
                      · refine l_aload_n rfl rfl ?_
                        refine l_gfr rfl rfl rfl rfl rfl (hH.r 904 20 918 rfl) ?_
                        refine l_iload rfl rfl ?_
                        refine l_iaload (n := 24) rfl rfl (by omega) (by omega) (by unfold rg; omega) ?_
                        have w257 : 0 ≤ (Xi S 918 (((Xi S 904 158)).toNat)) ∧ (Xi S 918 (((Xi S 904 158)).toNat)) ≤ 15 := hH.c _ _
                        refine l_istore rfl rfl rfl ?_
                        refine l_iload rfl rfl ?_
                        refine l_iconst rfl ?_
                        refine l_icmp_eq rfl rfl (by unfold rg; omega) (by unfold rg; omega) (fun w258 => ?_) (fun w259 => absurd w259 (by omega))
                        · refine l_iconst rfl ?_
                          refine l_ireturn rfl rfl ?_
                          exact ⟨hH, hF, _, rfl, ⟨by omega, by omega⟩⟩
                      · refine l_aload_n rfl rfl ?_
                        refine l_iload_n rfl rfl ?_
                        refine l_callV rfl rfl rfl (t_mo_kindOfThing hH z186 ⟨by omega, by omega⟩ (by first | assumption | omega) _) ?_
                        rintro _ _ ⟨rfl, z260, rfl, w260⟩
                        show Rl _ _ _ _ _ [iv z260] _ _
                        refine l_goto rfl rfl ?_
                        refine l_istore rfl rfl rfl ?_
                        refine l_iload rfl rfl ?_
                        refine l_iconst rfl ?_
                        refine l_icmp_eq rfl rfl (by unfold rg; omega) (by unfold rg; omega) (fun w261 => ?_) (fun w262 => absurd w262 (by omega))
                        · refine l_iconst rfl ?_
                          refine l_ireturn rfl rfl ?_
                          exact ⟨hH, hF, _, rfl, ⟨by omega, by omega⟩⟩
                    · refine l_aload_n rfl rfl ?_
                      refine l_gfr rfl rfl rfl rfl rfl (hH.r 904 12 914 rfl) ?_
                      refine l_iload rfl rfl ?_
                      refine l_iaload (n := 300) rfl rfl (by omega) (by omega) (by unfold rg; omega) ?_
                      have w263 : 0 ≤ (Xi S 914 ((z251).toNat)) ∧ (Xi S 914 ((z251).toNat)) ≤ 12 := hH.c _ _
                      refine l_bipush rfl rfl ?_
                      refine l_icmp_ne rfl rfl (by unfold rg; omega) (by unfold rg; omega) (fun w264 => ?_) (fun w265 => ?_)
                      · refine l_iconst rfl ?_
                        refine l_istore rfl rfl rfl ?_
                        refine l_aload_n rfl rfl ?_
                        refine l_gfi rfl rfl rfl rfl rfl ?_
                        have w266 : 0 ≤ (Xi S 904 157) ∧ (Xi S 904 157) ≤ 1 := hH.c _ _
                        refine l_if_eq rfl rfl (by unfold rg; omega) (fun w267 => ?_) (fun w268 => ?_)
                        · refine l_aload_n rfl rfl ?_
                          refine l_gfr rfl rfl rfl rfl rfl (hH.r 904 20 918 rfl) ?_
                          refine l_iload rfl rfl ?_
                          refine l_iaload (n := 24) rfl rfl (by omega) (by omega) (by unfold rg; omega) ?_
                          have w269 : 0 ≤ (Xi S 918 (((Xi S 904 158)).toNat)) ∧ (Xi S 918 (((Xi S 904 158)).toNat)) ≤ 15 := hH.c _ _
                          refine l_istore rfl rfl rfl ?_
                          refine l_iload rfl rfl ?_
                          refine l_iconst rfl ?_
                          refine l_icmp_eq rfl rfl (by unfold rg; omega) (by unfold rg; omega) (fun w270 => ?_) (fun w271 => absurd w271 (by omega))
                          · refine l_iconst rfl ?_
                            refine l_ireturn rfl rfl ?_
                            exact ⟨hH, hF, _, rfl, ⟨by omega, by omega⟩⟩
                        · refine l_aload_n rfl rfl ?_
                          refine l_iload_n rfl rfl ?_
                          refine l_callV rfl rfl rfl (t_mo_kindOfThing hH z186 ⟨by omega, by omega⟩ (by first | assumption | omega) _) ?_
                          rintro _ _ ⟨rfl, z272, rfl, w272⟩
                          show Rl _ _ _ _ _ [iv z272] _ _
                          refine l_goto rfl rfl ?_
                          refine l_istore rfl rfl rfl ?_
                          refine l_iload rfl rfl ?_
                          refine l_iconst rfl ?_
                          refine l_icmp_eq rfl rfl (by unfold rg; omega) (by unfold rg; omega) (fun w273 => ?_) (fun w274 => absurd w274 (by omega))
                          · refine l_iconst rfl ?_
                            refine l_ireturn rfl rfl ?_
                            exact ⟨hH, hF, _, rfl, ⟨by omega, by omega⟩⟩
                      · refine l_aload_n rfl rfl ?_
                        refine l_gfr rfl rfl rfl rfl rfl (hH.r 904 13 915 rfl) ?_
                        refine l_iload rfl rfl ?_
                        refine l_iaload (n := 300) rfl rfl (by omega) (by omega) (by unfold rg; omega) ?_
                        have w275 : 0 ≤ (Xi S 915 ((z251).toNat)) ∧ (Xi S 915 ((z251).toNat)) ≤ 63 := hH.c _ _
                        have x184 : (Xi S 915 ((z251).toNat)) < Xi S 904 32 := by have t := lxm (s := 7) hM (k := z251) (by omega) (by omega) (by omega); rw [cM7] at t; exact t
                        refine l_goto rfl rfl ?_
                        refine l_istore rfl rfl rfl ?_
                        refine l_aload_n rfl rfl ?_
                        refine l_gfi rfl rfl rfl rfl rfl ?_
                        have w276 : 0 ≤ (Xi S 904 157) ∧ (Xi S 904 157) ≤ 1 := hH.c _ _
                        refine l_if_eq rfl rfl (by unfold rg; omega) (fun w277 => ?_) (fun w278 => ?_)
                        · refine l_aload_n rfl rfl ?_
                          refine l_gfr rfl rfl rfl rfl rfl (hH.r 904 20 918 rfl) ?_
                          refine l_iload rfl rfl ?_
                          refine l_iaload (n := 24) rfl rfl (by omega) (by omega) (by unfold rg; omega) ?_
                          have w279 : 0 ≤ (Xi S 918 (((Xi S 904 158)).toNat)) ∧ (Xi S 918 (((Xi S 904 158)).toNat)) ≤ 15 := hH.c _ _
                          refine l_istore rfl rfl rfl ?_
                          refine l_iload rfl rfl ?_
                          refine l_iconst rfl ?_
                          refine l_icmp_eq rfl rfl (by unfold rg; omega) (by unfold rg; omega) (fun w280 => ?_) (fun w281 => ?_)
                          · refine l_iconst rfl ?_
                            refine l_ireturn rfl rfl ?_
                            exact ⟨hH, hF, _, rfl, ⟨by omega, by omega⟩⟩
                          · refine l_aload_n rfl rfl ?_
                            refine l_iload rfl rfl ?_
                            refine l_iload rfl rfl ?_
                            refine l_callV rfl rfl rfl (t_mo_has hH (Xi S 918 (((Xi S 904 158)).toNat)) (Xi S 915 ((z251).toNat)) ⟨by omega, by omega⟩ ⟨by omega, by omega⟩ (by first | assumption | exact (ABV_FR hF rfl (by assumption : ABV S))) _) ?_
                            rintro _ _ ⟨rfl, z283, rfl, w283, w282⟩
                            show Rl _ _ _ _ _ [iv z283] _ _
                            refine l_if_ne rfl rfl (by unfold rg; omega) (fun w284 => ?_) (fun w285 => ?_)
                            · refine l_aload_n rfl rfl ?_
                              refine l_gfi rfl rfl rfl rfl rfl ?_
                              refine l_if_ne rfl rfl (by unfold rg; omega) (fun w286 => ?_) (fun w287 => ?_)
                              · refine l_iconst rfl ?_
                                refine l_ireturn rfl rfl ?_
                                exact ⟨hH, hF, _, rfl, ⟨by omega, by omega⟩⟩
                              · refine l_aload_n rfl rfl ?_
                                refine l_iload rfl rfl ?_
                                refine l_iload rfl rfl ?_
                                refine l_callV rfl rfl rfl (t_mo_putProperty hH (Xi S 904 158) (Xi S 915 ((z251).toNat)) ⟨by omega, by omega⟩ ⟨by omega, by omega⟩ (by first | assumption | exact (ABV_FR hF rfl (by assumption : ABV S))) (by first | assumption | exact (TXM_FR hF rfl (by assumption : TXM S))) (by first | assumption | omega) _) ?_
                                rintro _ T13 ⟨hHT13, w290, rfl⟩
                                have hFT13 : FR md_mo_saysInside S T13 := FR.tr hF w290 rfl
                                show Rl _ _ _ _ _ [] _ _
                                refine l_iconst rfl ?_
                                refine l_ireturn rfl rfl ?_
                                exact ⟨hHT13, hFT13, _, rfl, ⟨by omega, by omega⟩⟩
                            · refine l_iconst rfl ?_
                              refine l_ireturn rfl rfl ?_
                              exact ⟨hH, hF, _, rfl, ⟨by omega, by omega⟩⟩
                        · refine l_aload_n rfl rfl ?_
                          refine l_iload_n rfl rfl ?_
                          refine l_callV rfl rfl rfl (t_mo_kindOfThing hH z186 ⟨by omega, by omega⟩ (by first | assumption | omega) _) ?_
                          rintro _ _ ⟨rfl, z291, rfl, w291⟩
                          show Rl _ _ _ _ _ [iv z291] _ _
                          refine l_goto rfl rfl ?_
                          refine l_istore rfl rfl rfl ?_
                          refine l_iload rfl rfl ?_
                          refine l_iconst rfl ?_
                          refine l_icmp_eq rfl rfl (by unfold rg; omega) (by unfold rg; omega) (fun w292 => ?_) (fun w293 => ?_)
                          · refine l_iconst rfl ?_
                            refine l_ireturn rfl rfl ?_
                            exact ⟨hH, hF, _, rfl, ⟨by omega, by omega⟩⟩
                          · refine l_aload_n rfl rfl ?_
                            refine l_iload rfl rfl ?_
                            refine l_iload rfl rfl ?_
                            refine l_callV rfl rfl rfl (t_mo_has hH z291 (Xi S 915 ((z251).toNat)) ⟨by omega, by omega⟩ ⟨by omega, by omega⟩ (by first | assumption | exact (ABV_FR hF rfl (by assumption : ABV S))) _) ?_
                            rintro _ _ ⟨rfl, z295, rfl, w295, w294⟩
                            show Rl _ _ _ _ _ [iv z295] _ _
                            refine l_if_ne rfl rfl (by unfold rg; omega) (fun w296 => ?_) (fun w297 => ?_)
                            · refine l_aload_n rfl rfl ?_
                              refine l_gfi rfl rfl rfl rfl rfl ?_
                              refine l_if_ne rfl rfl (by unfold rg; omega) (fun w298 => ?_) (fun w299 => ?_)
                              · refine l_iconst rfl ?_
                                refine l_ireturn rfl rfl ?_
                                exact ⟨hH, hF, _, rfl, ⟨by omega, by omega⟩⟩
                              · refine l_aload_n rfl rfl ?_
                                refine l_iload rfl rfl ?_
                                refine l_iload rfl rfl ?_
                                refine l_callV rfl rfl rfl (t_mo_putProperty hH (Xi S 904 158) (Xi S 915 ((z251).toNat)) ⟨by omega, by omega⟩ ⟨by omega, by omega⟩ (by first | assumption | exact (ABV_FR hF rfl (by assumption : ABV S))) (by first | assumption | exact (TXM_FR hF rfl (by assumption : TXM S))) (by first | assumption | omega) _) ?_
                                rintro _ T14 ⟨hHT14, w302, rfl⟩
                                have hFT14 : FR md_mo_saysInside S T14 := FR.tr hF w302 rfl
                                show Rl _ _ _ _ _ [] _ _
                                refine l_iconst rfl ?_
                                refine l_ireturn rfl rfl ?_
                                exact ⟨hHT14, hFT14, _, rfl, ⟨by omega, by omega⟩⟩
                            · refine l_iconst rfl ?_
                              refine l_ireturn rfl rfl ?_
                              exact ⟨hH, hF, _, rfl, ⟨by omega, by omega⟩⟩
              · refine l_iconst rfl ?_
                refine l_ireturn rfl rfl ?_
                exact ⟨hH, hF, _, rfl, ⟨by omega, by omega⟩⟩
set_option maxRecDepth 100000 in
theorem c2_mo_saysInside {S : sS} (hH : HI S) (hM : LXM S) (hB : ABV S) (hX : TXM S) (hno : Xi S 904 158 < Xi S 904 19) (d : Nat) : ∀ (n2 : Nat) (v1 : Int), (1 ≤ v1 ∧ v1 ≤ 64) → n2 = (65 - v1).toNat → Rl lay0 (d + 4) m_mo_saysInside 2 [(0, .ref 904), (1, iv v1)] [] S (Q_mo_saysInside S) := by
  have C30 := c30_mo_saysInside hH hM hB hX hno d 
  have hF : FR md_mo_saysInside S S := FR.rf
  have w1 : -1 ≤ Xi S 904 158 ∧ Xi S 904 158 ≤ 23 := hH.c _ _
  have w2 : 0 ≤ Xi S 904 19 ∧ Xi S 904 19 ≤ 24 := hH.c _ _
  have hc19 : 0 ≤ Xi S 904 19 ∧ Xi S 904 19 ≤ 24 := hH.c _ _
  have hc32 : 0 ≤ Xi S 904 32 ∧ Xi S 904 32 ≤ 12 := hH.c _ _
  intro n2
  induction n2 using Nat.strongRecOn with
  | ind n2 ih2 =>
    intro v1 w303 hm2
    refine l_iload_n rfl rfl ?_
    refine l_aload_n rfl rfl ?_
    refine l_gfi rfl rfl rfl rfl rfl ?_
    have w304 : 0 ≤ (Xi S 904 160) ∧ (Xi S 904 160) ≤ 64 := hH.c _ _
    refine l_icmp_ge rfl rfl (by unfold rg; omega) (by unfold rg; omega) (fun w305 => ?_) (fun w306 => ?_)
    · exact Rl_weak (C30 (v1) (by omega)) (And.intro rfl (And.intro rfl (True.intro)))
    · refine l_aload_n rfl rfl ?_
      refine l_aload_n rfl rfl ?_
      refine l_gfr rfl rfl rfl rfl rfl (hH.r 904 159 994 rfl) ?_
      refine l_iload_n rfl rfl ?_
      refine l_laload (n := 64) rfl rfl (by omega) (by omega) (by unfold rg; omega) ?_
      have w307 : -9223372036854775808 ≤ (Xj S 994 ((v1).toNat)) ∧ (Xj S 994 ((v1).toNat)) < 9223372036854775808 := Xj_rg
      refine l_callV rfl rfl rfl (t_mo_keyOf hH (Xj S 994 ((v1).toNat)) _) ?_
      rintro _ _ ⟨rfl, z308, rfl, w308⟩
      show Rl _ _ _ _ _ [iv z308] _ _
      refine l_iconst rfl ?_
      refine l_icmp_ne rfl rfl (by unfold rg; omega) (by unfold rg; omega) (fun w309 => ?_) (fun w310 => ?_)
      · exact Rl_weak (C30 (v1) (by omega)) (And.intro rfl (And.intro rfl (True.intro)))
      · refine l_iinc rfl rfl rfl rfl ?_
        refine l_goto rfl rfl ?_
        exact Rl_weak (ih2 _ (by omega) ((v1 + 1)) (by omega) rfl) (And.intro rfl (And.intro rfl (True.intro)))
set_option maxRecDepth 100000 in
theorem t_mo_saysInside {S : sS} (hH : HI S) (hM : LXM S) (hB : ABV S) (hX : TXM S) (hno : Xi S 904 158 < Xi S 904 19) (d : Nat) : Mt lay0 (d + 5) m_mo_saysInside [.ref 904] S (Q_mo_saysInside S) := by
  refine Mt_R rfl rfl ?_
  have C30 := c30_mo_saysInside hH hM hB hX hno d 
  have C2 := c2_mo_saysInside hH hM hB hX hno d 
  have hF : FR md_mo_saysInside S S := FR.rf
  have w1 : -1 ≤ Xi S 904 158 ∧ Xi S 904 158 ≤ 23 := hH.c _ _
  have w2 : 0 ≤ Xi S 904 19 ∧ Xi S 904 19 ≤ 24 := hH.c _ _
  have hc19 : 0 ≤ Xi S 904 19 ∧ Xi S 904 19 ≤ 24 := hH.c _ _
  have hc32 : 0 ≤ Xi S 904 32 ∧ Xi S 904 32 ≤ 12 := hH.c _ _
  refine l_iconst rfl ?_
  refine l_istore_n rfl rfl rfl ?_
  exact Rl_weak (C2 _ (1) (by omega) rfl) (And.intro rfl (And.intro rfl (True.intro)))
