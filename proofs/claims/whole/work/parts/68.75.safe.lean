/-! SAFETY of methods: printed by wip/safe (vc.py, decl.py) -/
def md_mo_testedWhat : List rec := [(904, 905, 8, 9), (904, 905, 65, 66), (904, 905, 66, 67), (904, 905, 69, 70), (904, 905, 78, 79), (950, 951, 0, 100000), (951, 952, 0, 100000), (952, 953, 0, 100000), (953, 954, 0, 100000), (957, 958, 0, 100000), (960, 961, 0, 100000)]
/-! SAFETY of the reference: what a sentence without anything odd leaves -/
def SNQ (S : sS) (n : Nat) : Prop := (Xi S 904 70 ≤ 1 → Xi S 904 81 ≤ n ∧ Xi S 907 (Xi S 904 81).toNat = 5) ∧ (Xi S 904 70 = 1 → 1 ≤ Xi S 904 69) ∧ (Xi S 904 70 = 2 ∨ Xi S 904 70 = 7 ∨ Xi S 904 70 = 8 ∨ Xi S 904 70 = 9 → 2 ≤ Xi S 904 69) ∧ (3 ≤ Xi S 904 70 ∧ Xi S 904 70 ≤ 5 → Xi S 904 102 < Xi S 904 69 ∧ Xi S 904 103 < Xi S 904 69) ∧
  (Xi S 904 70 = 9 → 0 ≤ Xi S 904 78 ∧ Xi S 904 78 ≤ n ∧ (Xi S 907 (Xi S 904 78).toNat ≠ 4 → Xi S 907 (Xi S 904 78).toNat ≠ 5 → 3 ≤ Xi S 904 69)) ∧ (10 ≤ Xi S 904 70 ∧ Xi S 904 70 ≤ 16 → Xi S 904 71 + Xi S 904 72 ≤ Xi S 904 69 ∧ 1 ≤ Xi S 904 72) ∧
  ((10 ≤ Xi S 904 70 ∧ Xi S 904 70 ≤ 12) ∨ (14 ≤ Xi S 904 70 ∧ Xi S 904 70 ≤ 16) → Xi S 904 78 < Xi S 904 69) ∧ (Xi S 904 70 = 12 ∨ (14 ≤ Xi S 904 70 ∧ Xi S 904 70 ≤ 16) → 0 ≤ Xi S 904 78) ∧ (Xi S 904 70 = 13 ∨ Xi S 904 70 = 14 ∨ (Xi S 904 70 = 12 ∧ Xi S 904 73 ≠ 0) → Xi S 904 74 < Xi S 904 69) ∧ (17 ≤ Xi S 904 70 ∧ Xi S 904 70 ≤ 19 → 3 ≤ Xi S 904 69)
theorem SNQ_FR {l : List rec} {S T : sS} {n : Nat} (h : FR l S T) (e : (kdis l [(907, 908)] && mD l [69, 70, 71, 72, 73, 74, 78, 81, 102, 103]) = true) (hq : SNQ S n) : SNQ T n := by
  rw [Bool.and_eq_true] at e
  have k := h.smk e.1
  unfold SNQ
  rw [mD_x h e.2 69 (by decide), mD_x h e.2 70 (by decide), mD_x h e.2 71 (by decide), mD_x h e.2 72 (by decide), mD_x h e.2 73 (by decide), mD_x h e.2 74 (by decide), mD_x h e.2 78 (by decide), mD_x h e.2 81 (by decide), mD_x h e.2 102 (by decide), mD_x h e.2 103 (by decide), k.x 907 rfl, k.x 907 rfl]
  exact hq
theorem TVA_FR {l : List rec} {S T : sS} {n : Nat} {m : Int} (h : FR l S T) (e : (kdis l [(907, 908), (952, 963)] && mD l [69]) = true) (hq : TVA S n m) : TVA T n m := by
  rw [Bool.and_eq_true] at e
  have k := h.smk e.1
  refine hq.mv (fun i _ k2 a b => ?_) (by rw [mD_x h e.2 69 (by decide)]; exact Int.le_refl _) (fun j => k.x 907 rfl j)
  rcases (by omega : k2 = 952 ∨ k2 = 953 ∨ k2 = 954 ∨ k2 = 955 ∨ k2 = 956 ∨ k2 = 957 ∨ k2 = 958 ∨ k2 = 959 ∨ k2 = 960 ∨ k2 = 961 ∨ k2 = 962) with h | h | h | h | h | h | h | h | h | h | h <;> subst h <;> exact k.x _ rfl i
theorem PVA_FR {l : List rec} {S T : sS} {n : Nat} {m : Int} (hH : HI S) (h : FR l S T) (e : (kdis l [(907, 908), (952, 966)] && mD l [69, 93]) = true) (hq : PVA S n m) : PVA T n m := by
  rw [Bool.and_eq_true] at e
  have k := h.smk e.1
  refine hq.mv hH (fun i _ k2 a b => ?_) (fun i _ => ⟨k.x 963 rfl i, k.x 964 rfl i, k.x 965 rfl i⟩) (by rw [mD_x h e.2 69 (by decide)]; exact Int.le_refl _) (by rw [mD_x h e.2 93 (by decide)]; exact Int.le_refl _) (fun j => k.x 907 rfl j)
  rcases (by omega : k2 = 952 ∨ k2 = 953 ∨ k2 = 954 ∨ k2 = 955 ∨ k2 = 956 ∨ k2 = 957 ∨ k2 = 958 ∨ k2 = 959 ∨ k2 = 960 ∨ k2 = 961 ∨ k2 = 962) with h | h | h | h | h | h | h | h | h | h | h <;> subst h <;> exact k.x _ rfl i
theorem at_0 {S : sS} {n : Nat} (hH : HI S) (h8 : Xi S 904 8 ≤ n) (h69 : Xi S 904 69 = 0) (h93 : Xi S 904 93 = 0) : AT S n 0 := fun _ => by
  have a : 0 ≤ Xi S 904 8 ∧ Xi S 904 8 ≤ 5010 := hH.c _ _
  have b : 0 ≤ Xi S 908 (Xi S 904 8).toNat ∧ Xi S 908 (Xi S 904 8).toNat ≤ 5000 := hH.c 908 _
  refine ⟨h8, by omega, fun _ => by omega, by omega⟩
/-! SAFETY of the reference: what words mean, as functions -/
abbrev lxE (S : sS) (a b c n k : Int) : Prop := Xi S 912 k.toNat = n ∧ Xj S 913 (3 * k).toNat = a ∧ (n < 2 ∨ Xj S 913 (3 * k + 1).toNat = b) ∧ (n < 3 ∨ Xj S 913 (3 * k + 2).toNat = c) ∧ Xi S 916 k.toNat = 0
noncomputable def fdR (S : sS) (a b c n : Int) : Nat → Int
  | 0 => -1
  | m + 1 => if fdR S a b c n m ≠ -1 then fdR S a b c n m else if lxE S a b c n (m : Int) then (m : Int) else -1
theorem fdR_up {S : sS} {a b c n v : Int} {m : Nat} (h : fdR S a b c n m = v) (hv : v ≠ -1) : ∀ k, fdR S a b c n (m + k) = v
  | 0 => h
  | k + 1 => by
    have t := fdR_up h hv k
    show (if fdR S a b c n (m + k) ≠ -1 then fdR S a b c n (m + k) else _) = v
    rw [t, if_pos hv]
theorem fdR_no {S : sS} {a b c n v : Int} (h0 : 0 ≤ v) (h : fdR S a b c n v.toNat = -1) (hn : ¬ lxE S a b c n v) : fdR S a b c n (v + 1).toNat = -1 := by
  rw [show (v + 1).toNat = v.toNat + 1 by omega]
  show (if fdR S a b c n v.toNat ≠ -1 then _ else if lxE S a b c n (v.toNat : Int) then _ else -1) = -1
  rw [if_neg (fun q => q h), show ((v.toNat : Nat) : Int) = v by omega, if_neg hn]
theorem fdR_hit {S : sS} {a b c n v L : Int} (h0 : 0 ≤ v) (h : fdR S a b c n v.toNat = -1) (hy : lxE S a b c n v) (hl : v < L) : v = fdR S a b c n L.toNat := by
  have t : fdR S a b c n (v.toNat + 1) = v := by
    show (if fdR S a b c n v.toNat ≠ -1 then _ else if lxE S a b c n (v.toNat : Int) then (v.toNat : Int) else -1) = v
    rw [if_neg (fun q => q h), show ((v.toNat : Nat) : Int) = v by omega, if_pos hy]
  have u := fdR_up t (by omega) (L.toNat - (v.toNat + 1))
  rw [show v.toNat + 1 + (L.toNat - (v.toNat + 1)) = L.toNat by omega] at u
  exact u.symm
theorem fdR_rg {S : sS} {a b c n : Int} : ∀ m : Nat, fdR S a b c n m = -1 ∨ (0 ≤ fdR S a b c n m ∧ fdR S a b c n m < m)
  | 0 => Or.inl rfl
  | m + 1 => by
    have t := fdR_rg (S := S) (a := a) (b := b) (c := c) (n := n) m
    show (if fdR S a b c n m ≠ -1 then fdR S a b c n m else if lxE S a b c n (m : Int) then (m : Int) else -1) = -1 ∨ (0 ≤ (if fdR S a b c n m ≠ -1 then fdR S a b c n m else if lxE S a b c n (m : Int) then (m : Int) else -1) ∧ (if fdR S a b c n m ≠ -1 then fdR S a b c n m else if lxE S a b c n (m : Int) then (m : Int) else -1) < ((m + 1 : Nat) : Int))
    split
    · omega
    · split <;> omega
/-- what stays of the words before m -/
def LXK (T S : sS) (m : Int) : Prop := ∀ k : Int, 0 ≤ k → k < m → Xi T 912 k.toNat = Xi S 912 k.toNat ∧ Xj T 913 (3 * k).toNat = Xj S 913 (3 * k).toNat ∧ Xj T 913 (3 * k + 1).toNat = Xj S 913 (3 * k + 1).toNat ∧ Xj T 913 (3 * k + 2).toNat = Xj S 913 (3 * k + 2).toNat ∧ Xi T 916 k.toNat = Xi S 916 k.toNat ∧ Xi T 914 k.toNat = Xi S 914 k.toNat ∧ Xi T 915 k.toNat = Xi S 915 k.toNat
theorem fdR_k {S T : sS} {a b c n : Int} : ∀ m : Nat, LXK T S m → fdR T a b c n m = fdR S a b c n m
  | 0, _ => rfl
  | m + 1, h => by
    have t := fdR_k (S := S) (T := T) (a := a) (b := b) (c := c) (n := n) m (fun k h0 h1 => h k h0 (by omega))
    obtain ⟨e1, e2, e3, e4, e5, _⟩ := h (m : Int) (by omega) (by omega)
    show (if fdR T a b c n m ≠ -1 then fdR T a b c n m else if lxE T a b c n (m : Int) then (m : Int) else -1) = (if fdR S a b c n m ≠ -1 then fdR S a b c n m else if lxE S a b c n (m : Int) then (m : Int) else -1)
    rw [t]
    have e : lxE T a b c n (m : Int) ↔ lxE S a b c n (m : Int) := by
      unfold lxE
      rw [e1, e2, e3, e4, e5]
    simp only [e]
noncomputable def nmR (S : sS) (t n : Int) : Int := if n < 1 ∨ 3 < n then -1 else fdR S (Xj S 910 t.toNat) (if 1 < n then Xj S 910 (t + 1).toNat else 0) (if 2 < n then Xj S 910 (t + 2).toNat else 0) n (Xi S 904 15).toNat
noncomputable def msR (S : sS) (t n s : Int) : Int := if nmR S t n ≠ -1 ∧ Xi S 914 (nmR S t n).toNat = s then Xi S 915 (nmR S t n).toNat else -1
/-- what a run means -/
noncomputable def rnR (S : sS) (r s : Int) : Int := msR S (Xi S 950 r.toNat) (Xi S 951 r.toNat) s
noncomputable def rmR (S : sS) (r : Int) : Int := nmR S (Xi S 950 r.toNat) (Xi S 951 r.toNat)
noncomputable def r2R (S : sS) (r s u : Int) : Int := if rnR S r s ≠ -1 then rnR S r s else rnR S r u
theorem nmR_rg {S : sS} {t n : Int} (h0 : 0 ≤ Xi S 904 15) : nmR S t n = -1 ∨ (0 ≤ nmR S t n ∧ nmR S t n < Xi S 904 15) := by
  unfold nmR
  split
  · exact Or.inl rfl
  · have u := fdR_rg (S := S) (a := Xj S 910 t.toNat) (b := if 1 < n then Xj S 910 (t + 1).toNat else 0) (c := if 2 < n then Xj S 910 (t + 2).toNat else 0) (n := n) (Xi S 904 15).toNat
    omega
theorem SMK.xj {ks : List (Nat × Nat)} {S S1 : sS} (h : SMK ks S S1) (k : Nat) (e : inK ks k = true) (j : Nat) : Xj S1 k j = Xj S k j := by unfold Xj; rw [(h k j e).2.1]
def kLX : List (Nat × Nat) := [(910, 911), (912, 917)]
theorem LXK_FR {l : List rec} {S T : sS} {m : Int} (h : FR l S T) (e : kdis l [(912, 917)] = true) : LXK T S m := fun k _ _ => by
  have q := h.smk e
  exact ⟨q.x 912 rfl _, q.xj 913 rfl _, q.xj 913 rfl _, q.xj 913 rfl _, q.x 916 rfl _, q.x 914 rfl _, q.x 915 rfl _⟩
theorem nmR_FR {l : List rec} {S T : sS} {t n : Int} (h : FR l S T) (e : (kdis l kLX && mD l [15]) = true) : nmR T t n = nmR S t n := by
  rw [Bool.and_eq_true] at e
  have q := h.smk e.1
  unfold nmR
  rw [mD_x h e.2 15 (by decide), q.xj 910 rfl, q.xj 910 rfl, q.xj 910 rfl]
  have k : LXK T S (Xi S 904 15).toNat := fun k _ _ => ⟨q.x 912 rfl _, q.xj 913 rfl _, q.xj 913 rfl _, q.xj 913 rfl _, q.x 916 rfl _, q.x 914 rfl _, q.x 915 rfl _⟩
  rw [fdR_k _ k]
theorem msR_FR {l : List rec} {S T : sS} {t n s : Int} (h : FR l S T) (e : (kdis l kLX && mD l [15]) = true) : msR T t n s = msR S t n s := by
  unfold msR
  rw [nmR_FR h e]
  rw [Bool.and_eq_true] at e
  have q := h.smk e.1
  rw [q.x 914 rfl, q.x 915 rfl]
theorem rnR_FR {l : List rec} {S T : sS} {r s : Int} (h : FR l S T) (e : (kdis l kLX && mD l [15]) = true) (e2 : kdis l [(950, 952)] = true) : rnR T r s = rnR S r s := by
  have q := h.smk e2
  unfold rnR
  rw [msR_FR h e, q.x 950 rfl, q.x 951 rfl]
theorem rmR_FR {l : List rec} {S T : sS} {r : Int} (h : FR l S T) (e : (kdis l kLX && mD l [15]) = true) (e2 : kdis l [(950, 952)] = true) : rmR T r = rmR S r := by
  have q := h.smk e2
  unfold rmR
  rw [nmR_FR h e, q.x 950 rfl, q.x 951 rfl]
/-- runs told as new -/
def NWV (S : sS) : Prop := ∀ k : Nat, (k : Int) < Xi S 904 108 → Xi S 966 k < Xi S 904 69
theorem NWV_FR {l : List rec} {S T : sS} (h : FR l S T) (e : (kdis l [(966, 967)] && mD l [69, 108]) = true) (hv : NWV S) : NWV T := by
  rw [Bool.and_eq_true] at e
  have k := h.smk e.1
  unfold NWV
  rw [mD_x h e.2 69 (by decide), mD_x h e.2 108 (by decide)]
  simp only [k.x 966 rfl]
  exact hv
abbrev Q_mo_find__2 (S : sS) (a : Int) (b : Int) (c : Int) (n : Int) : pst := fun r S1 => S = S1 ∧ (∃ z : Int, r = some (iv z) ∧ (-1 ≤ z ∧ z ≤ 299) ∧ (z ≠ -1 → z < Xi S 904 15) ∧ (z = fdR S a b c n (Xi S 904 15).toNat))
set_option maxRecDepth 100000 in
theorem t_mo_find__2 {S : sS} (hH : HI S) (a : Int) (b : Int) (c : Int) (n : Int) (hn : -2147483648 ≤ n ∧ n ≤ 2147483647) (ra : rgL a) (rb : rgL b) (rc : rgL c) (d : Nat) : Mt lay0 (d + 1) m_mo_find [.ref 904, jw a, jw b, jw c, iv n] S (Q_mo_find__2 S a b c n) := by
  refine Mt_R rfl rfl ?_
  have w1 : 0 ≤ Xi S 904 15 ∧ Xi S 904 15 ≤ 300 := hH.c _ _
  have ra2 : -9223372036854775808 ≤ a ∧ a < 9223372036854775808 := ra
  have rb2 : -9223372036854775808 ≤ b ∧ b < 9223372036854775808 := rb
  have rc2 : -9223372036854775808 ≤ c ∧ c < 9223372036854775808 := rc
  have C3 : ∀ (n3 : Nat) (v8 : Int), (0 ≤ v8 ∧ v8 ≤ 300) → (v8 ≤ Xi S 904 15) → (fdR S a b c n (v8).toNat = -1) → n3 = (301 - v8).toNat → Rl lay0 (d + 0) m_mo_find 3 [(0, .ref 904), (1, jw a), (3, jw b), (5, jw c), (7, iv n), (8, iv v8)] [] S (Q_mo_find__2 S a b c n) := by
    intro n3
    induction n3 using Nat.strongRecOn with
    | ind n3 ih3 =>
      intro v8 w2 w3 h3 hm3
      refine l_iload rfl rfl ?_
      refine l_aload_n rfl rfl ?_
      refine l_gfi rfl rfl rfl rfl rfl ?_
      refine l_icmp_ge rfl rfl (by unfold rg; omega) (by unfold rg; omega) (fun w4 => ?_) (fun w5 => ?_)
      · refine l_iconst rfl ?_
        refine l_ireturn rfl rfl ?_
        exact ⟨rfl, _, rfl, ⟨by omega, by omega⟩, (by omega), (by first | (exact fdR_hit (by omega) h3 ⟨by omega, by omega, by omega, by omega, by omega⟩ (by omega)) | (rw [show Xi S 904 15 = v8 by omega]; exact h3.symm))⟩
      · refine l_aload_n rfl rfl ?_
        refine l_gfr rfl rfl rfl rfl rfl (hH.r 904 10 912 rfl) ?_
        refine l_iload rfl rfl ?_
        refine l_iaload (n := 300) rfl rfl (by omega) (by omega) (by unfold rg; omega) ?_
        have w6 : 0 ≤ (Xi S 912 ((v8).toNat)) ∧ (Xi S 912 ((v8).toNat)) ≤ 3 := hH.c _ _
        refine l_iload rfl rfl ?_
        refine l_icmp_ne rfl rfl (by unfold rg; omega) (by unfold rg; omega) (fun w7 => ?_) (fun w8 => ?_)
        · refine l_iinc rfl rfl rfl rfl ?_
          refine l_goto rfl rfl ?_
          exact Rl_weak (ih3 _ (by omega) ((v8 + 1)) (by omega) (by omega) (by first | rfl | exact fdR_no (by omega) h3 (fun q => by obtain ⟨q1, q2, q3, q4, q5⟩ := q; omega)) rfl) (And.intro rfl (And.intro rfl (And.intro rfl (And.intro rfl (And.intro rfl (And.intro rfl (True.intro)))))))
        · refine l_aload_n rfl rfl ?_
          refine l_gfr rfl rfl rfl rfl rfl (hH.r 904 11 913 rfl) ?_
          refine l_iconst rfl ?_
          refine l_iload rfl rfl ?_
          refine l_imul rfl ?_
          refine l_laload (n := 900) rfl rfl (by omega) (by omega) (by unfold rg; omega) ?_
          have w9 : -9223372036854775808 ≤ (Xj S 913 (((3 * v8)).toNat)) ∧ (Xj S 913 (((3 * v8)).toNat)) < 9223372036854775808 := Xj_rg
          refine l_lload_n rfl rfl ?_
          refine l_lcmp rfl (by unfold rgL; omega) (by unfold rgL; omega) (fun c10 w10 w10a w10b w10c => ?_)
          refine l_if_ne rfl rfl (by unfold rg; omega) (fun w11 => ?_) (fun w12 => ?_)
          · refine l_iinc rfl rfl rfl rfl ?_
            refine l_goto rfl rfl ?_
            exact Rl_weak (ih3 _ (by omega) ((v8 + 1)) (by omega) (by omega) (by first | rfl | exact fdR_no (by omega) h3 (fun q => by obtain ⟨q1, q2, q3, q4, q5⟩ := q; omega)) rfl) (And.intro rfl (And.intro rfl (And.intro rfl (And.intro rfl (And.intro rfl (And.intro rfl (True.intro)))))))
          · refine l_iload rfl rfl ?_
            refine l_iconst rfl ?_
            refine l_icmp_lt rfl rfl (by unfold rg; omega) (by unfold rg; omega) (fun w13 => ?_) (fun w14 => ?_)
            · refine l_iload rfl rfl ?_
              refine l_iconst rfl ?_
              refine l_icmp_lt rfl rfl (by unfold rg; omega) (by unfold rg; omega) (fun w15 => ?_) (fun w16 => ?_)
              · refine l_aload_n rfl rfl ?_
                refine l_gfr rfl rfl rfl rfl rfl (hH.r 904 14 916 rfl) ?_
                refine l_iload rfl rfl ?_
                refine l_baload (n := 300) rfl rfl rfl (by decide) (by omega) (by omega) (by unfold rg; omega) ?_
                have w17 : 0 ≤ (Xi S 916 ((v8).toNat)) ∧ (Xi S 916 ((v8).toNat)) ≤ 1 := hH.c _ _
                refine l_if_ne rfl rfl (by unfold rg; omega) (fun w18 => ?_) (fun w19 => ?_)
                · refine l_iinc rfl rfl rfl rfl ?_
                  refine l_goto rfl rfl ?_
                  exact Rl_weak (ih3 _ (by omega) ((v8 + 1)) (by omega) (by omega) (by first | rfl | exact fdR_no (by omega) h3 (fun q => by obtain ⟨q1, q2, q3, q4, q5⟩ := q; omega)) rfl) (And.intro rfl (And.intro rfl (And.intro rfl (And.intro rfl (And.intro rfl (And.intro rfl (True.intro)))))))
                · refine l_aload_n rfl rfl ?_
                  refine l_gfr rfl rfl rfl rfl rfl (hH.r 904 12 914 rfl) ?_
                  refine l_iload rfl rfl ?_
                  refine l_iaload (n := 300) rfl rfl (by omega) (by omega) (by unfold rg; omega) ?_
                  have w20 : 0 ≤ (Xi S 914 ((v8).toNat)) ∧ (Xi S 914 ((v8).toNat)) ≤ 12 := hH.c _ _
                  refine l_iconst rfl ?_
                  refine l_icmp_eq rfl rfl (by unfold rg; omega) (by unfold rg; omega) (fun w21 => ?_) (fun w22 => ?_)
                  · refine l_iinc rfl rfl rfl rfl ?_
                    refine l_goto rfl rfl ?_
                    exact Rl_weak (ih3 _ (by omega) ((v8 + 1)) (by omega) (by omega) (by first | rfl | exact fdR_no (by omega) h3 (fun q => by obtain ⟨q1, q2, q3, q4, q5⟩ := q; omega)) rfl) (And.intro rfl (And.intro rfl (And.intro rfl (And.intro rfl (And.intro rfl (And.intro rfl (True.intro)))))))
                  · refine l_iload rfl rfl ?_
                    refine l_ireturn rfl rfl ?_
                    exact ⟨rfl, _, rfl, ⟨by omega, by omega⟩, (by omega), (by first | (exact fdR_hit (by omega) h3 ⟨by omega, by omega, by omega, by omega, by omega⟩ (by omega)) | (rw [show Xi S 904 15 = v8 by omega]; exact h3.symm))⟩
              · refine l_aload_n rfl rfl ?_
                refine l_gfr rfl rfl rfl rfl rfl (hH.r 904 11 913 rfl) ?_
                refine l_iconst rfl ?_
                refine l_iload rfl rfl ?_
                refine l_imul rfl ?_
                refine l_iconst rfl ?_
                refine l_iadd rfl ?_
                refine l_laload (n := 900) rfl rfl (by omega) (by omega) (by unfold rg; omega) ?_
                have w23 : -9223372036854775808 ≤ (Xj S 913 ((((3 * v8) + 2)).toNat)) ∧ (Xj S 913 ((((3 * v8) + 2)).toNat)) < 9223372036854775808 := Xj_rg
                refine l_lload rfl rfl ?_
                refine l_lcmp rfl (by unfold rgL; omega) (by unfold rgL; omega) (fun c24 w24 w24a w24b w24c => ?_)
                refine l_if_ne rfl rfl (by unfold rg; omega) (fun w25 => ?_) (fun w26 => ?_)
                · refine l_iinc rfl rfl rfl rfl ?_
                  refine l_goto rfl rfl ?_
                  exact Rl_weak (ih3 _ (by omega) ((v8 + 1)) (by omega) (by omega) (by first | rfl | exact fdR_no (by omega) h3 (fun q => by obtain ⟨q1, q2, q3, q4, q5⟩ := q; omega)) rfl) (And.intro rfl (And.intro rfl (And.intro rfl (And.intro rfl (And.intro rfl (And.intro rfl (True.intro)))))))
                · refine l_aload_n rfl rfl ?_
                  refine l_gfr rfl rfl rfl rfl rfl (hH.r 904 14 916 rfl) ?_
                  refine l_iload rfl rfl ?_
                  refine l_baload (n := 300) rfl rfl rfl (by decide) (by omega) (by omega) (by unfold rg; omega) ?_
                  have w27 : 0 ≤ (Xi S 916 ((v8).toNat)) ∧ (Xi S 916 ((v8).toNat)) ≤ 1 := hH.c _ _
                  refine l_if_ne rfl rfl (by unfold rg; omega) (fun w28 => ?_) (fun w29 => ?_)
                  · refine l_iinc rfl rfl rfl rfl ?_
                    refine l_goto rfl rfl ?_
                    exact Rl_weak (ih3 _ (by omega) ((v8 + 1)) (by omega) (by omega) (by first | rfl | exact fdR_no (by omega) h3 (fun q => by obtain ⟨q1, q2, q3, q4, q5⟩ := q; omega)) rfl) (And.intro rfl (And.intro rfl (And.intro rfl (And.intro rfl (And.intro rfl (And.intro rfl (True.intro)))))))
                  · refine l_aload_n rfl rfl ?_
                    refine l_gfr rfl rfl rfl rfl rfl (hH.r 904 12 914 rfl) ?_
                    refine l_iload rfl rfl ?_
                    refine l_iaload (n := 300) rfl rfl (by omega) (by omega) (by unfold rg; omega) ?_
                    have w30 : 0 ≤ (Xi S 914 ((v8).toNat)) ∧ (Xi S 914 ((v8).toNat)) ≤ 12 := hH.c _ _
                    refine l_iconst rfl ?_
                    refine l_icmp_eq rfl rfl (by unfold rg; omega) (by unfold rg; omega) (fun w31 => ?_) (fun w32 => ?_)
                    · refine l_iinc rfl rfl rfl rfl ?_
                      refine l_goto rfl rfl ?_
                      exact Rl_weak (ih3 _ (by omega) ((v8 + 1)) (by omega) (by omega) (by first | rfl | exact fdR_no (by omega) h3 (fun q => by obtain ⟨q1, q2, q3, q4, q5⟩ := q; omega)) rfl) (And.intro rfl (And.intro rfl (And.intro rfl (And.intro rfl (And.intro rfl (And.intro rfl (True.intro)))))))
                    · refine l_iload rfl rfl ?_
                      refine l_ireturn rfl rfl ?_
                      exact ⟨rfl, _, rfl, ⟨by omega, by omega⟩, (by omega), (by first | (exact fdR_hit (by omega) h3 ⟨by omega, by omega, by omega, by omega, by omega⟩ (by omega)) | (rw [show Xi S 904 15 = v8 by omega]; exact h3.symm))⟩
            · refine l_aload_n rfl rfl ?_
              refine l_gfr rfl rfl rfl rfl rfl (hH.r 904 11 913 rfl) ?_
              refine l_iconst rfl ?_
              refine l_iload rfl rfl ?_
              refine l_imul rfl ?_
              refine l_iconst rfl ?_
              refine l_iadd rfl ?_
              refine l_laload (n := 900) rfl rfl (by omega) (by omega) (by unfold rg; omega) ?_
              have w33 : -9223372036854775808 ≤ (Xj S 913 ((((3 * v8) + 1)).toNat)) ∧ (Xj S 913 ((((3 * v8) + 1)).toNat)) < 9223372036854775808 := Xj_rg
              refine l_lload_n rfl rfl ?_
              refine l_lcmp rfl (by unfold rgL; omega) (by unfold rgL; omega) (fun c34 w34 w34a w34b w34c => ?_)
              refine l_if_ne rfl rfl (by unfold rg; omega) (fun w35 => ?_) (fun w36 => ?_)
              · refine l_iinc rfl rfl rfl rfl ?_
                refine l_goto rfl rfl ?_
                exact Rl_weak (ih3 _ (by omega) ((v8 + 1)) (by omega) (by omega) (by first | rfl | exact fdR_no (by omega) h3 (fun q => by obtain ⟨q1, q2, q3, q4, q5⟩ := q; omega)) rfl) (And.intro rfl (And.intro rfl (And.intro rfl (And.intro rfl (And.intro rfl (And.intro rfl (True.intro)))))))
              · refine l_iload rfl rfl ?_
                refine l_iconst rfl ?_
                refine l_icmp_lt rfl rfl (by unfold rg; omega) (by unfold rg; omega) (fun w37 => ?_) (fun w38 => ?_)
                · refine l_aload_n rfl rfl ?_
                  refine l_gfr rfl rfl rfl rfl rfl (hH.r 904 14 916 rfl) ?_
                  refine l_iload rfl rfl ?_
                  refine l_baload (n := 300) rfl rfl rfl (by decide) (by omega) (by omega) (by unfold rg; omega) ?_
                  have w39 : 0 ≤ (Xi S 916 ((v8).toNat)) ∧ (Xi S 916 ((v8).toNat)) ≤ 1 := hH.c _ _
                  refine l_if_ne rfl rfl (by unfold rg; omega) (fun w40 => ?_) (fun w41 => ?_)
                  · refine l_iinc rfl rfl rfl rfl ?_
                    refine l_goto rfl rfl ?_
                    exact Rl_weak (ih3 _ (by omega) ((v8 + 1)) (by omega) (by omega) (by first | rfl | exact fdR_no (by omega) h3 (fun q => by obtain ⟨q1, q2, q3, q4, q5⟩ := q; omega)) rfl) (And.intro rfl (And.intro rfl (And.intro rfl (And.intro rfl (And.intro rfl (And.intro rfl (True.intro)))))))
                  · refine l_aload_n rfl rfl ?_
                    refine l_gfr rfl rfl rfl rfl rfl (hH.r 904 12 914 rfl) ?_
                    refine l_iload rfl rfl ?_
                    refine l_iaload (n := 300) rfl rfl (by omega) (by omega) (by unfold rg; omega) ?_
                    have w42 : 0 ≤ (Xi S 914 ((v8).toNat)) ∧ (Xi S 914 ((v8).toNat)) ≤ 12 := hH.c _ _
                    refine l_iconst rfl ?_
                    refine l_icmp_eq rfl rfl (by unfold rg; omega) (by unfold rg; omega) (fun w43 => ?_) (fun w44 => ?_)
                    · refine l_iinc rfl rfl rfl rfl ?_
                      refine l_goto rfl rfl ?_
                      exact Rl_weak (ih3 _ (by omega) ((v8 + 1)) (by omega) (by omega) (by first | rfl | exact fdR_no (by omega) h3 (fun q => by obtain ⟨q1, q2, q3, q4, q5⟩ := q; omega)) rfl) (And.intro rfl (And.intro rfl (And.intro rfl (And.intro rfl (And.intro rfl (And.intro rfl (True.intro)))))))
                    · refine l_iload rfl rfl ?_
                      refine l_ireturn rfl rfl ?_
                      exact ⟨rfl, _, rfl, ⟨by omega, by omega⟩, (by omega), (by first | (exact fdR_hit (by omega) h3 ⟨by omega, by omega, by omega, by omega, by omega⟩ (by omega)) | (rw [show Xi S 904 15 = v8 by omega]; exact h3.symm))⟩
                · refine l_aload_n rfl rfl ?_
                  refine l_gfr rfl rfl rfl rfl rfl (hH.r 904 11 913 rfl) ?_
                  refine l_iconst rfl ?_
                  refine l_iload rfl rfl ?_
                  refine l_imul rfl ?_
                  refine l_iconst rfl ?_
                  refine l_iadd rfl ?_
                  refine l_laload (n := 900) rfl rfl (by omega) (by omega) (by unfold rg; omega) ?_
                  have w45 : -9223372036854775808 ≤ (Xj S 913 ((((3 * v8) + 2)).toNat)) ∧ (Xj S 913 ((((3 * v8) + 2)).toNat)) < 9223372036854775808 := Xj_rg
                  refine l_lload rfl rfl ?_
                  refine l_lcmp rfl (by unfold rgL; omega) (by unfold rgL; omega) (fun c46 w46 w46a w46b w46c => ?_)
                  refine l_if_ne rfl rfl (by unfold rg; omega) (fun w47 => ?_) (fun w48 => ?_)
                  · refine l_iinc rfl rfl rfl rfl ?_
                    refine l_goto rfl rfl ?_
                    exact Rl_weak (ih3 _ (by omega) ((v8 + 1)) (by omega) (by omega) (by first | rfl | exact fdR_no (by omega) h3 (fun q => by obtain ⟨q1, q2, q3, q4, q5⟩ := q; omega)) rfl) (And.intro rfl (And.intro rfl (And.intro rfl (And.intro rfl (And.intro rfl (And.intro rfl (True.intro)))))))
                  · refine l_aload_n rfl rfl ?_
                    refine l_gfr rfl rfl rfl rfl rfl (hH.r 904 14 916 rfl) ?_
                    refine l_iload rfl rfl ?_
                    refine l_baload (n := 300) rfl rfl rfl (by decide) (by omega) (by omega) (by unfold rg; omega) ?_
                    have w49 : 0 ≤ (Xi S 916 ((v8).toNat)) ∧ (Xi S 916 ((v8).toNat)) ≤ 1 := hH.c _ _
                    refine l_if_ne rfl rfl (by unfold rg; omega) (fun w50 => ?_) (fun w51 => ?_)
                    · refine l_iinc rfl rfl rfl rfl ?_
                      refine l_goto rfl rfl ?_
                      exact Rl_weak (ih3 _ (by omega) ((v8 + 1)) (by omega) (by omega) (by first | rfl | exact fdR_no (by omega) h3 (fun q => by obtain ⟨q1, q2, q3, q4, q5⟩ := q; omega)) rfl) (And.intro rfl (And.intro rfl (And.intro rfl (And.intro rfl (And.intro rfl (And.intro rfl (True.intro)))))))
                    · refine l_aload_n rfl rfl ?_
                      refine l_gfr rfl rfl rfl rfl rfl (hH.r 904 12 914 rfl) ?_
                      refine l_iload rfl rfl ?_
                      refine l_iaload (n := 300) rfl rfl (by omega) (by omega) (by unfold rg; omega) ?_
                      have w52 : 0 ≤ (Xi S 914 ((v8).toNat)) ∧ (Xi S 914 ((v8).toNat)) ≤ 12 := hH.c _ _
                      refine l_iconst rfl ?_
                      refine l_icmp_eq rfl rfl (by unfold rg; omega) (by unfold rg; omega) (fun w53 => ?_) (fun w54 => ?_)
                      · refine l_iinc rfl rfl rfl rfl ?_
                        refine l_goto rfl rfl ?_
                        exact Rl_weak (ih3 _ (by omega) ((v8 + 1)) (by omega) (by omega) (by first | rfl | exact fdR_no (by omega) h3 (fun q => by obtain ⟨q1, q2, q3, q4, q5⟩ := q; omega)) rfl) (And.intro rfl (And.intro rfl (And.intro rfl (And.intro rfl (And.intro rfl (And.intro rfl (True.intro)))))))
                      · refine l_iload rfl rfl ?_
                        refine l_ireturn rfl rfl ?_
                        exact ⟨rfl, _, rfl, ⟨by omega, by omega⟩, (by omega), (by first | (exact fdR_hit (by omega) h3 ⟨by omega, by omega, by omega, by omega, by omega⟩ (by omega)) | (rw [show Xi S 904 15 = v8 by omega]; exact h3.symm))⟩
  refine l_iconst rfl ?_
  refine l_istore rfl rfl rfl ?_
  exact Rl_weak (C3 _ (0) (by omega) (by omega) (by first | rfl | exact fdR_no (by omega) h3 (fun q => by obtain ⟨q1, q2, q3, q4, q5⟩ := q; omega)) rfl) (And.intro rfl (And.intro rfl (And.intro rfl (And.intro rfl (And.intro rfl (And.intro rfl (True.intro)))))))
abbrev Q_mo_mean__2 (S : sS) (t : Int) (m : Int) : pst := fun r S1 => S = S1 ∧ (∃ z : Int, r = some (iv z) ∧ (-1 ≤ z ∧ z ≤ 299) ∧ (z ≠ -1 → z < Xi S 904 15) ∧ (z = nmR S t m))
set_option maxRecDepth 100000 in
theorem t_mo_mean__2 {S : sS} (hH : HI S) (t : Int) (m : Int) (ht : 0 ≤ t ∧ t ≤ 5001) (hm : -2147483648 ≤ m ∧ m ≤ 2147483647) (hn : m ≤ 3 → t + m ≤ 5002) (d : Nat) : Mt lay0 (d + 2) m_mo_mean [.ref 904, iv t, iv m] S (Q_mo_mean__2 S t m) := by
  refine Mt_R rfl rfl ?_
  have w1 : 0 ≤ Xi S 904 15 ∧ Xi S 904 15 ≤ 300 := hH.c _ _
  refine l_iload_n rfl rfl ?_
  refine l_iconst rfl ?_
  refine l_icmp_lt rfl rfl (by unfold rg; omega) (by unfold rg; omega) (fun w2 => ?_) (fun w3 => ?_)
  · refine l_iconst rfl ?_
    refine l_goto rfl rfl ?_
    refine l_ireturn rfl rfl ?_
    exact ⟨rfl, _, rfl, ⟨by omega, by omega⟩, (by omega), (by first | (exfalso; omega) | (unfold nmR; rw [if_pos (by omega)]) | (unfold nmR; rw [if_neg (by omega), if_neg (by omega), if_neg (by omega)]; assumption) | (unfold nmR; rw [if_neg (by omega), if_pos (by omega), if_neg (by omega)]; assumption) | (unfold nmR; rw [if_neg (by omega), if_pos (by omega), if_pos (by omega)]; assumption))⟩
  · refine l_iload_n rfl rfl ?_
    refine l_iconst rfl ?_
    refine l_icmp_le rfl rfl (by unfold rg; omega) (by unfold rg; omega) (fun w4 => ?_) (fun w5 => ?_)
    · refine l_aload_n rfl rfl ?_
      refine l_aload_n rfl rfl ?_
      refine l_gfr rfl rfl rfl rfl rfl (hH.r 904 7 910 rfl) ?_
      refine l_iload_n rfl rfl ?_
      refine l_laload (n := 5002) rfl rfl (by omega) (by omega) (by unfold rg; omega) ?_
      have w6 : -9223372036854775808 ≤ (Xj S 910 ((t).toNat)) ∧ (Xj S 910 ((t).toNat)) < 9223372036854775808 := Xj_rg
      refine l_iload_n rfl rfl ?_
      refine l_iconst rfl ?_
      refine l_icmp_le rfl rfl (by unfold rg; omega) (by unfold rg; omega) (fun w7 => ?_) (fun w8 => ?_)
      · refine l_lconst (z := 0) rfl rfl ?_
        refine l_iload_n rfl rfl ?_
        refine l_iconst rfl ?_
        refine l_icmp_le rfl rfl (by unfold rg; omega) (by unfold rg; omega) (fun w9 => ?_) (fun w10 => ?_)
        · refine l_lconst (z := 0) rfl rfl ?_
          refine l_iload_n rfl rfl ?_
          refine l_callV rfl rfl rfl (t_mo_find__2 hH (Xj S 910 ((t).toNat)) 0 0 m ⟨by omega, by omega⟩ (by first | exact Xj_rg | (unfold rgL; omega)) (by first | exact Xj_rg | (unfold rgL; omega)) (by first | exact Xj_rg | (unfold rgL; omega)) _) ?_
          rintro _ _ ⟨rfl, z14, rfl, w14, w12, w13⟩
          show Rl _ _ _ _ _ [iv z14] _ _
          refine l_ireturn rfl rfl ?_
          exact ⟨rfl, _, rfl, ⟨by omega, by omega⟩, (by omega), (by first | (exfalso; omega) | (unfold nmR; rw [if_pos (by omega)]) | (unfold nmR; rw [if_neg (by omega), if_neg (by omega), if_neg (by omega)]; assumption) | (unfold nmR; rw [if_neg (by omega), if_pos (by omega), if_neg (by omega)]; assumption) | (unfold nmR; rw [if_neg (by omega), if_pos (by omega), if_pos (by omega)]; assumption))⟩
        · refine l_aload_n rfl rfl ?_
          refine l_gfr rfl rfl rfl rfl rfl (hH.r 904 7 910 rfl) ?_
          refine l_iload_n rfl rfl ?_
          refine l_iconst rfl ?_
          refine l_iadd rfl ?_
          refine l_laload (n := 5002) rfl rfl (by omega) (by omega) (by unfold rg; omega) ?_
          have w15 : -9223372036854775808 ≤ (Xj S 910 (((t + 2)).toNat)) ∧ (Xj S 910 (((t + 2)).toNat)) < 9223372036854775808 := Xj_rg
          refine l_goto rfl rfl ?_
          refine l_iload_n rfl rfl ?_
          refine l_callV rfl rfl rfl (t_mo_find__2 hH (Xj S 910 ((t).toNat)) 0 (Xj S 910 (((t + 2)).toNat)) m ⟨by omega, by omega⟩ (by first | exact Xj_rg | (unfold rgL; omega)) (by first | exact Xj_rg | (unfold rgL; omega)) (by first | exact Xj_rg | (unfold rgL; omega)) _) ?_
          rintro _ _ ⟨rfl, z19, rfl, w19, w17, w18⟩
          show Rl _ _ _ _ _ [iv z19] _ _
          refine l_ireturn rfl rfl ?_
          exact ⟨rfl, _, rfl, ⟨by omega, by omega⟩, (by omega), (by first | (exfalso; omega) | (unfold nmR; rw [if_pos (by omega)]) | (unfold nmR; rw [if_neg (by omega), if_neg (by omega), if_neg (by omega)]; assumption) | (unfold nmR; rw [if_neg (by omega), if_pos (by omega), if_neg (by omega)]; assumption) | (unfold nmR; rw [if_neg (by omega), if_pos (by omega), if_pos (by omega)]; assumption))⟩
      · refine l_aload_n rfl rfl ?_
        refine l_gfr rfl rfl rfl rfl rfl (hH.r 904 7 910 rfl) ?_
        refine l_iload_n rfl rfl ?_
        refine l_iconst rfl ?_
        refine l_iadd rfl ?_
        refine l_laload (n := 5002) rfl rfl (by omega) (by omega) (by unfold rg; omega) ?_
        have w20 : -9223372036854775808 ≤ (Xj S 910 (((t + 1)).toNat)) ∧ (Xj S 910 (((t + 1)).toNat)) < 9223372036854775808 := Xj_rg
        refine l_goto rfl rfl ?_
        refine l_iload_n rfl rfl ?_
        refine l_iconst rfl ?_
        refine l_icmp_le rfl rfl (by unfold rg; omega) (by unfold rg; omega) (fun w21 => ?_) (fun w22 => ?_)
        · refine l_lconst (z := 0) rfl rfl ?_
          refine l_iload_n rfl rfl ?_
          refine l_callV rfl rfl rfl (t_mo_find__2 hH (Xj S 910 ((t).toNat)) (Xj S 910 (((t + 1)).toNat)) 0 m ⟨by omega, by omega⟩ (by first | exact Xj_rg | (unfold rgL; omega)) (by first | exact Xj_rg | (unfold rgL; omega)) (by first | exact Xj_rg | (unfold rgL; omega)) _) ?_
          rintro _ _ ⟨rfl, z26, rfl, w26, w24, w25⟩
          show Rl _ _ _ _ _ [iv z26] _ _
          refine l_ireturn rfl rfl ?_
          exact ⟨rfl, _, rfl, ⟨by omega, by omega⟩, (by omega), (by first | (exfalso; omega) | (unfold nmR; rw [if_pos (by omega)]) | (unfold nmR; rw [if_neg (by omega), if_neg (by omega), if_neg (by omega)]; assumption) | (unfold nmR; rw [if_neg (by omega), if_pos (by omega), if_neg (by omega)]; assumption) | (unfold nmR; rw [if_neg (by omega), if_pos (by omega), if_pos (by omega)]; assumption))⟩
        · refine l_aload_n rfl rfl ?_
          refine l_gfr rfl rfl rfl rfl rfl (hH.r 904 7 910 rfl) ?_
          refine l_iload_n rfl rfl ?_
          refine l_iconst rfl ?_
          refine l_iadd rfl ?_
          refine l_laload (n := 5002) rfl rfl (by omega) (by omega) (by unfold rg; omega) ?_
          have w27 : -9223372036854775808 ≤ (Xj S 910 (((t + 2)).toNat)) ∧ (Xj S 910 (((t + 2)).toNat)) < 9223372036854775808 := Xj_rg
          refine l_goto rfl rfl ?_
          refine l_iload_n rfl rfl ?_
          refine l_callV rfl rfl rfl (t_mo_find__2 hH (Xj S 910 ((t).toNat)) (Xj S 910 (((t + 1)).toNat)) (Xj S 910 (((t + 2)).toNat)) m ⟨by omega, by omega⟩ (by first | exact Xj_rg | (unfold rgL; omega)) (by first | exact Xj_rg | (unfold rgL; omega)) (by first | exact Xj_rg | (unfold rgL; omega)) _) ?_
          rintro _ _ ⟨rfl, z31, rfl, w31, w29, w30⟩
          show Rl _ _ _ _ _ [iv z31] _ _
          refine l_ireturn rfl rfl ?_
          exact ⟨rfl, _, rfl, ⟨by omega, by omega⟩, (by omega), (by first | (exfalso; omega) | (unfold nmR; rw [if_pos (by omega)]) | (unfold nmR; rw [if_neg (by omega), if_neg (by omega), if_neg (by omega)]; assumption) | (unfold nmR; rw [if_neg (by omega), if_pos (by omega), if_neg (by omega)]; assumption) | (unfold nmR; rw [if_neg (by omega), if_pos (by omega), if_pos (by omega)]; assumption))⟩
    · refine l_iconst rfl ?_
      refine l_goto rfl rfl ?_
      refine l_ireturn rfl rfl ?_
      exact ⟨rfl, _, rfl, ⟨by omega, by omega⟩, (by omega), (by first | (exfalso; omega) | (unfold nmR; rw [if_pos (by omega)]) | (unfold nmR; rw [if_neg (by omega), if_neg (by omega), if_neg (by omega)]; assumption) | (unfold nmR; rw [if_neg (by omega), if_pos (by omega), if_neg (by omega)]; assumption) | (unfold nmR; rw [if_neg (by omega), if_pos (by omega), if_pos (by omega)]; assumption))⟩
abbrev Q_mo_means__2 (S : sS) (t : Int) (m : Int) (so : Int) : pst := fun r S1 => S = S1 ∧ (∃ z : Int, r = some (iv z) ∧ (-1 ≤ z ∧ z ≤ 63) ∧ (z ≠ -1 → z < cM S so) ∧ (z = msR S t m so))
set_option maxRecDepth 100000 in
theorem t_mo_means__2 {S : sS} (hH : HI S) (t : Int) (m : Int) (so : Int) (ht : 0 ≤ t ∧ t ≤ 5001) (hm : -2147483648 ≤ m ∧ m ≤ 2147483647) (hso : 0 ≤ so ∧ so ≤ 12) (hn : m ≤ 3 → t + m ≤ 5002) (hM : LXM S) (d : Nat) : Mt lay0 (d + 3) m_mo_means [.ref 904, iv t, iv m, iv so] S (Q_mo_means__2 S t m so) := by
  refine Mt_R rfl rfl ?_
  refine l_aload_n rfl rfl ?_
  refine l_iload_n rfl rfl ?_
  refine l_iload_n rfl rfl ?_
  have w1 : 0 ≤ Xi S 904 15 ∧ Xi S 904 15 ≤ 300 := hH.c _ _
  refine l_callV rfl rfl rfl (t_mo_mean__2 hH t m ⟨by omega, by omega⟩ ⟨by omega, by omega⟩ (by first | assumption | omega) _) ?_
  rintro _ _ ⟨rfl, z4, rfl, w4, w2, w3⟩
  show Rl _ _ _ _ _ [iv z4] _ _
  refine l_istore rfl rfl rfl ?_
  refine l_iload rfl rfl ?_
  refine l_iconst rfl ?_
  refine l_icmp_eq rfl rfl (by unfold rg; omega) (by unfold rg; omega) (fun w5 => ?_) (fun w6 => ?_)
  · refine l_iconst rfl ?_
    refine l_ireturn rfl rfl ?_
    exact ⟨rfl, _, rfl, ⟨by omega, by omega⟩, (by first | omega | (intro _; exact x31)), (by unfold msR; rw [← (by assumption : _ = nmR S t m)]; first | rw [if_pos ⟨by omega, by omega⟩] | rw [if_neg (fun q => by omega)])⟩
  · refine l_aload_n rfl rfl ?_
    refine l_gfr rfl rfl rfl rfl rfl (hH.r 904 12 914 rfl) ?_
    refine l_iload rfl rfl ?_
    refine l_iaload (n := 300) rfl rfl (by omega) (by omega) (by unfold rg; omega) ?_
    have w7 : 0 ≤ (Xi S 914 ((z4).toNat)) ∧ (Xi S 914 ((z4).toNat)) ≤ 12 := hH.c _ _
    refine l_iload_n rfl rfl ?_
    refine l_icmp_ne rfl rfl (by unfold rg; omega) (by unfold rg; omega) (fun w8 => ?_) (fun w9 => ?_)
    · refine l_iconst rfl ?_
      refine l_ireturn rfl rfl ?_
      exact ⟨rfl, _, rfl, ⟨by omega, by omega⟩, (by first | omega | (intro _; exact x31)), (by unfold msR; rw [← (by assumption : _ = nmR S t m)]; first | rw [if_pos ⟨by omega, by omega⟩] | rw [if_neg (fun q => by omega)])⟩
    · refine l_aload_n rfl rfl ?_
      refine l_gfr rfl rfl rfl rfl rfl (hH.r 904 13 915 rfl) ?_
      refine l_iload rfl rfl ?_
      refine l_iaload (n := 300) rfl rfl (by omega) (by omega) (by unfold rg; omega) ?_
      have w10 : 0 ≤ (Xi S 915 ((z4).toNat)) ∧ (Xi S 915 ((z4).toNat)) ≤ 63 := hH.c _ _
      have x31 : (Xi S 915 ((z4).toNat)) < cM S so := lxm (s := so) hM (k := z4) (by omega) (by omega) (by omega)
      refine l_goto rfl rfl ?_
      refine l_ireturn rfl rfl ?_
      exact ⟨rfl, _, rfl, ⟨by omega, by omega⟩, (by first | omega | (intro _; exact x31)), (by unfold msR; rw [← (by assumption : _ = nmR S t m)]; first | rw [if_pos ⟨by omega, by omega⟩] | rw [if_neg (fun q => by omega)])⟩
abbrev Q_mo_meansRun__2 (S : sS) (n : Nat) (rn : Int) (so : Int) : pst := fun r S1 => S = S1 ∧ (∃ z : Int, r = some (iv z) ∧ (-1 ≤ z ∧ z ≤ 63) ∧ (z ≠ -1 → z < cM S so) ∧ (z = rnR S rn so))
set_option maxRecDepth 100000 in
theorem t_mo_meansRun__2 {S : sS} (hH : HI S) (n : Nat) (rn : Int) (so : Int) (hrn : 0 ≤ rn ∧ rn ≤ 2599) (hso : 0 ≤ so ∧ so ≤ 12) (hT : TK S n) (hv : RNV S n) (hrr : rn < Xi S 904 69) (hM : LXM S) (d : Nat) : Mt lay0 (d + 4) m_mo_meansRun [.ref 904, iv rn, iv so] S (Q_mo_meansRun__2 S n rn so) := by
  refine Mt_R rfl rfl ?_
  have w1 : 0 ≤ Xi S 904 69 ∧ Xi S 904 69 ≤ 2600 := hH.c _ _
  have hn5 := hT.1
  have hq := hv rn.toNat (by omega)
  have hq0 : 0 ≤ Xi S 950 rn.toNat ∧ Xi S 950 rn.toNat ≤ 5010 := hH.c 950 rn.toNat
  have hc69 : 0 ≤ Xi S 904 69 ∧ Xi S 904 69 ≤ 2600 := hH.c _ _
  refine l_aload_n rfl rfl ?_
  refine l_aload_n rfl rfl ?_
  refine l_gfr rfl rfl rfl rfl rfl (hH.r 904 67 950 rfl) ?_
  refine l_iload_n rfl rfl ?_
  refine l_iaload (n := 2600) rfl rfl (by omega) (by omega) (by unfold rg; omega) ?_
  have w2 : 0 ≤ (Xi S 950 ((rn).toNat)) ∧ (Xi S 950 ((rn).toNat)) ≤ 5010 := hH.c _ _
  refine l_aload_n rfl rfl ?_
  refine l_gfr rfl rfl rfl rfl rfl (hH.r 904 68 951 rfl) ?_
  refine l_iload_n rfl rfl ?_
  refine l_iaload (n := 2600) rfl rfl (by omega) (by omega) (by unfold rg; omega) ?_
  have w3 : 0 ≤ (Xi S 951 ((rn).toNat)) ∧ (Xi S 951 ((rn).toNat)) ≤ 5010 := hH.c _ _
  refine l_iload_n rfl rfl ?_
  refine l_callV rfl rfl rfl (t_mo_means__2 hH (Xi S 950 ((rn).toNat)) (Xi S 951 ((rn).toNat)) so ⟨by omega, by omega⟩ ⟨by omega, by omega⟩ ⟨by omega, by omega⟩ (by first | assumption | omega) (by first | assumption | exact (by assumption : LXM S)) _) ?_
  rintro _ _ ⟨rfl, z6, rfl, w6, w4, w5⟩
  show Rl _ _ _ _ _ [iv z6] _ _
  refine l_ireturn rfl rfl ?_
  exact ⟨rfl, _, rfl, ⟨by omega, by omega⟩, (by assumption), (by assumption)⟩
abbrev Q_mo_meansNothing__2 (S : sS) (n : Nat) (rn : Int) : pst := fun r S1 => S = S1 ∧ (∃ z : Int, r = some (iv z) ∧ (0 ≤ z ∧ z ≤ 1) ∧ ((z = 1 → rmR S rn = -1) ∧ (z = 0 → rmR S rn ≠ -1)))
set_option maxRecDepth 100000 in
theorem t_mo_meansNothing__2 {S : sS} (hH : HI S) (n : Nat) (rn : Int) (hrn : 0 ≤ rn ∧ rn ≤ 2599) (hT : TK S n) (hv : RNV S n) (hrr : rn < Xi S 904 69) (d : Nat) : Mt lay0 (d + 3) m_mo_meansNothing [.ref 904, iv rn] S (Q_mo_meansNothing__2 S n rn) := by
  refine Mt_R rfl rfl ?_
  have w1 : 0 ≤ Xi S 904 69 ∧ Xi S 904 69 ≤ 2600 := hH.c _ _
  have hn5 := hT.1
  have hq := hv rn.toNat (by omega)
  have hq0 : 0 ≤ Xi S 950 rn.toNat ∧ Xi S 950 rn.toNat ≤ 5010 := hH.c 950 rn.toNat
  have hc69 : 0 ≤ Xi S 904 69 ∧ Xi S 904 69 ≤ 2600 := hH.c _ _
  refine l_aload_n rfl rfl ?_
  refine l_aload_n rfl rfl ?_
  refine l_gfr rfl rfl rfl rfl rfl (hH.r 904 67 950 rfl) ?_
  refine l_iload_n rfl rfl ?_
  refine l_iaload (n := 2600) rfl rfl (by omega) (by omega) (by unfold rg; omega) ?_
  have w2 : 0 ≤ (Xi S 950 ((rn).toNat)) ∧ (Xi S 950 ((rn).toNat)) ≤ 5010 := hH.c _ _
  refine l_aload_n rfl rfl ?_
  refine l_gfr rfl rfl rfl rfl rfl (hH.r 904 68 951 rfl) ?_
  refine l_iload_n rfl rfl ?_
  refine l_iaload (n := 2600) rfl rfl (by omega) (by omega) (by unfold rg; omega) ?_
  have w3 : 0 ≤ (Xi S 951 ((rn).toNat)) ∧ (Xi S 951 ((rn).toNat)) ≤ 5010 := hH.c _ _
  have w4 : 0 ≤ Xi S 904 15 ∧ Xi S 904 15 ≤ 300 := hH.c _ _
  refine l_callV rfl rfl rfl (t_mo_mean__2 hH (Xi S 950 ((rn).toNat)) (Xi S 951 ((rn).toNat)) ⟨by omega, by omega⟩ ⟨by omega, by omega⟩ (by first | assumption | omega) _) ?_
  rintro _ _ ⟨rfl, z7, rfl, w7, w5, w6⟩
  show Rl _ _ _ _ _ [iv z7] _ _
  refine l_iconst rfl ?_
  refine l_icmp_ne rfl rfl (by unfold rg; omega) (by unfold rg; omega) (fun w8 => ?_) (fun w9 => ?_)
  · refine l_iconst rfl ?_
    refine l_ireturn rfl rfl ?_
    exact ⟨rfl, _, rfl, ⟨by omega, by omega⟩, (by unfold rmR; rw [← (by assumption : _ = nmR S _ _)]; omega)⟩
  · refine l_iconst rfl ?_
    refine l_goto rfl rfl ?_
    refine l_ireturn rfl rfl ?_
    exact ⟨rfl, _, rfl, ⟨by omega, by omega⟩, (by unfold rmR; rw [← (by assumption : _ = nmR S _ _)]; omega)⟩
def md_mo_kindOfRun__2 : List rec := [(904, 905, 104, 105), (904, 905, 105, 106), (904, 905, 106, 107)]
abbrev Q_mo_kindOfRun__2 (S : sS) (n : Nat) (rn : Int) : pst := fun r S1 => HI S1 ∧ FR md_mo_kindOfRun__2 S S1 ∧ (∃ z : Int, r = some (iv z) ∧ (-1 ≤ z ∧ z ≤ 15) ∧ (z ≠ -1 → z < Xi S 904 16) ∧ (z = -1 → Xi S1 904 106 ≠ 0) ∧ (Xi S 904 106 ≠ 0 → Xi S1 904 106 ≠ 0) ∧ (z = rnR S rn 0))
set_option maxRecDepth 100000 in
theorem t_mo_kindOfRun__2 {S : sS} (hH : HI S) (n : Nat) (rn : Int) (hrn : 0 ≤ rn ∧ rn ≤ 2599) (hT : TK S n) (hv : RNV S n) (hrr : rn < Xi S 904 69) (hM : LXM S) (d : Nat) : Mt lay0 (d + 5) m_mo_kindOfRun [.ref 904, iv rn] S (Q_mo_kindOfRun__2 S n rn) := by
  refine Mt_R rfl rfl ?_
  have hF : FR md_mo_kindOfRun__2 S S := FR.rf
  have w1 : 0 ≤ Xi S 904 106 ∧ Xi S 904 106 ≤ 9 := hH.c _ _
  have w2 : 0 ≤ Xi S 904 16 ∧ Xi S 904 16 ≤ 16 := hH.c _ _
  have w3 : 0 ≤ Xi S 904 69 ∧ Xi S 904 69 ≤ 2600 := hH.c _ _
  have hn5 := hT.1
  have hq := hv rn.toNat (by omega)
  have hq0 : 0 ≤ Xi S 950 rn.toNat ∧ Xi S 950 rn.toNat ≤ 5010 := hH.c 950 rn.toNat
  have hc69 : 0 ≤ Xi S 904 69 ∧ Xi S 904 69 ≤ 2600 := hH.c _ _
  have hc16 : 0 ≤ Xi S 904 16 ∧ Xi S 904 16 ≤ 16 := hH.c _ _
  have hc18 : 0 ≤ Xi S 904 18 ∧ Xi S 904 18 ≤ 8 := hH.c _ _
  refine l_aload_n rfl rfl ?_
  refine l_iload_n rfl rfl ?_
  refine l_iconst rfl ?_
  refine l_callV rfl rfl rfl (t_mo_meansRun__2 hH n rn 0 ⟨by omega, by omega⟩ ⟨by omega, by omega⟩ (by first | assumption | exact (TK_FR hF rfl (by assumption : TK S _))) (by first | assumption | exact (RNV_FR hF rfl (by assumption : RNV S _))) (by first | assumption | omega) (by first | assumption | exact (LXM_FR hF rfl (by assumption : LXM S))) _) ?_
  rintro _ _ ⟨rfl, z7, rfl, w7, w5, w6⟩
  show Rl _ _ _ _ _ [iv z7] _ _
  have x3 : z7 ≠ -1 → z7 < Xi S 904 16 := fun q => by have t := (by assumption : z7 ≠ -1 → z7 < cM S 0) q; rw [cM0] at t; exact t
  refine l_istore_n rfl rfl rfl ?_
  refine l_aload_n rfl rfl ?_
  refine l_iload_n rfl rfl ?_
  refine l_iconst rfl ?_
  refine l_icmp_eq rfl rfl (by unfold rg; omega) (by unfold rg; omega) (fun w8 => ?_) (fun w9 => ?_)
  · refine l_iconst rfl ?_
    refine l_iconst rfl ?_
    refine l_aload_n rfl rfl ?_
    refine l_gfr rfl rfl rfl rfl rfl (hH.r 904 67 950 rfl) ?_
    refine l_iload_n rfl rfl ?_
    refine l_iaload (n := 2600) rfl rfl (by omega) (by omega) (by unfold rg; omega) ?_
    have w10 : 0 ≤ (Xi S 950 ((rn).toNat)) ∧ (Xi S 950 ((rn).toNat)) ≤ 5010 := hH.c _ _
    refine l_callV rfl rfl rfl (t_mo_need hH 0 4 (Xi S 950 ((rn).toNat)) ⟨by omega, by omega⟩ ⟨by omega, by omega⟩ ⟨by omega, by omega⟩ _) ?_
    rintro _ T1 ⟨hHT1, w15, rfl, w12, w13⟩
    have hFT1 : FR md_mo_kindOfRun__2 S T1 := FR.tr hF w15 rfl
    show Rl _ _ _ _ _ [] _ _
    refine l_iload_n rfl rfl ?_
    refine l_ireturn rfl rfl ?_
    have w16 : 0 ≤ Xi T1 904 106 ∧ Xi T1 904 106 ≤ 9 := hHT1.c _ _
    exact ⟨hHT1, hFT1, _, rfl, ⟨by omega, by omega⟩, (by first | assumption | omega), (by first | assumption | omega), (by first | assumption | omega), (by assumption)⟩
  · refine l_iconst rfl ?_
    refine l_goto rfl rfl ?_
    refine l_iconst rfl ?_
    refine l_aload_n rfl rfl ?_
    refine l_gfr rfl rfl rfl rfl rfl (hH.r 904 67 950 rfl) ?_
    refine l_iload_n rfl rfl ?_
    refine l_iaload (n := 2600) rfl rfl (by omega) (by omega) (by unfold rg; omega) ?_
    have w17 : 0 ≤ (Xi S 950 ((rn).toNat)) ∧ (Xi S 950 ((rn).toNat)) ≤ 5010 := hH.c _ _
    refine l_callV rfl rfl rfl (t_mo_need hH 1 4 (Xi S 950 ((rn).toNat)) ⟨by omega, by omega⟩ ⟨by omega, by omega⟩ ⟨by omega, by omega⟩ _) ?_
    rintro _ T2 ⟨hHT2, w22, rfl, w19, w20⟩
    have hFT2 : FR md_mo_kindOfRun__2 S T2 := FR.tr hF w22 rfl
    show Rl _ _ _ _ _ [] _ _
    refine l_iload_n rfl rfl ?_
    refine l_ireturn rfl rfl ?_
    have w23 : 0 ≤ Xi T2 904 106 ∧ Xi T2 904 106 ≤ 9 := hHT2.c _ _
    exact ⟨hHT2, hFT2, _, rfl, ⟨by omega, by omega⟩, (by first | assumption | omega), (by first | assumption | omega), (by first | assumption | omega), (by assumption)⟩
abbrev Q_mo_kindOrPlural__2 (S : sS) (n : Nat) (rn : Int) : pst := fun r S1 => S = S1 ∧ (∃ z : Int, r = some (iv z) ∧ (-1 ≤ z ∧ z ≤ 15) ∧ (z ≠ -1 → z < Xi S 904 16) ∧ (z = r2R S rn 0 1))
set_option maxRecDepth 100000 in
theorem t_mo_kindOrPlural__2 {S : sS} (hH : HI S) (n : Nat) (rn : Int) (hrn : 0 ≤ rn ∧ rn ≤ 2599) (hT : TK S n) (hv : RNV S n) (hrr : rn < Xi S 904 69) (hM : LXM S) (d : Nat) : Mt lay0 (d + 5) m_mo_kindOrPlural [.ref 904, iv rn] S (Q_mo_kindOrPlural__2 S n rn) := by
  refine Mt_R rfl rfl ?_
  have w1 : 0 ≤ Xi S 904 16 ∧ Xi S 904 16 ≤ 16 := hH.c _ _
  have w2 : 0 ≤ Xi S 904 69 ∧ Xi S 904 69 ≤ 2600 := hH.c _ _
  have hn5 := hT.1
  have hq := hv rn.toNat (by omega)
  have hq0 : 0 ≤ Xi S 950 rn.toNat ∧ Xi S 950 rn.toNat ≤ 5010 := hH.c 950 rn.toNat
  have hc69 : 0 ≤ Xi S 904 69 ∧ Xi S 904 69 ≤ 2600 := hH.c _ _
  have hc16 : 0 ≤ Xi S 904 16 ∧ Xi S 904 16 ≤ 16 := hH.c _ _
  have hc18 : 0 ≤ Xi S 904 18 ∧ Xi S 904 18 ≤ 8 := hH.c _ _
  refine l_aload_n rfl rfl ?_
  refine l_iload_n rfl rfl ?_
  refine l_iconst rfl ?_
  refine l_callV rfl rfl rfl (t_mo_meansRun__2 hH n rn 0 ⟨by omega, by omega⟩ ⟨by omega, by omega⟩ (by first | assumption | exact (by assumption : TK S _)) (by first | assumption | exact (by assumption : RNV S _)) (by first | assumption | omega) (by first | assumption | exact (by assumption : LXM S)) _) ?_
  rintro _ _ ⟨rfl, z6, rfl, w6, w4, w5⟩
  show Rl _ _ _ _ _ [iv z6] _ _
  have x3 : z6 ≠ -1 → z6 < Xi S 904 16 := fun q => by have t := (by assumption : z6 ≠ -1 → z6 < cM S 0) q; rw [cM0] at t; exact t
  refine l_istore_n rfl rfl rfl ?_
  refine l_iload_n rfl rfl ?_
  refine l_iconst rfl ?_
  refine l_icmp_eq rfl rfl (by unfold rg; omega) (by unfold rg; omega) (fun w7 => ?_) (fun w8 => ?_)
  · refine l_aload_n rfl rfl ?_
    refine l_iload_n rfl rfl ?_
    refine l_iconst rfl ?_
    refine l_callV rfl rfl rfl (t_mo_meansRun__2 hH n rn 1 ⟨by omega, by omega⟩ ⟨by omega, by omega⟩ (by first | assumption | exact (by assumption : TK S _)) (by first | assumption | exact (by assumption : RNV S _)) (by first | assumption | omega) (by first | assumption | exact (by assumption : LXM S)) _) ?_
    rintro _ _ ⟨rfl, z12, rfl, w12, w10, w11⟩
    show Rl _ _ _ _ _ [iv z12] _ _
    have x19 : z12 ≠ -1 → z12 < Xi S 904 16 := fun q => by have t := (by assumption : z12 ≠ -1 → z12 < cM S 1) q; rw [cM1] at t; exact t
    refine l_ireturn rfl rfl ?_
    exact ⟨rfl, _, rfl, ⟨by omega, by omega⟩, (by first | assumption | omega), (by unfold r2R; first | (rw [← (by assumption : _ = rnR S rn 0), if_pos (by omega)]) | (rw [← (by assumption : _ = rnR S rn 0), if_neg (by omega)]; assumption))⟩
  · refine l_iload_n rfl rfl ?_
    refine l_goto rfl rfl ?_
    refine l_ireturn rfl rfl ?_
    exact ⟨rfl, _, rfl, ⟨by omega, by omega⟩, (by first | assumption | omega), (by unfold r2R; first | (rw [← (by assumption : _ = rnR S rn 0), if_pos (by omega)]) | (rw [← (by assumption : _ = rnR S rn 0), if_neg (by omega)]; assumption))⟩
abbrev Q_mo_typeOrPlural__2 (S : sS) (n : Nat) (rn : Int) : pst := fun r S1 => S = S1 ∧ (∃ z : Int, r = some (iv z) ∧ (-1 ≤ z ∧ z ≤ 7) ∧ (z = r2R S rn 2 3))
set_option maxRecDepth 100000 in
theorem t_mo_typeOrPlural__2 {S : sS} (hH : HI S) (n : Nat) (rn : Int) (hrn : 0 ≤ rn ∧ rn ≤ 2599) (hT : TK S n) (hv : RNV S n) (hrr : rn < Xi S 904 69) (hM : LXM S) (d : Nat) : Mt lay0 (d + 5) m_mo_typeOrPlural [.ref 904, iv rn] S (Q_mo_typeOrPlural__2 S n rn) := by
  refine Mt_R rfl rfl ?_
  have w1 : 0 ≤ Xi S 904 69 ∧ Xi S 904 69 ≤ 2600 := hH.c _ _
  have hn5 := hT.1
  have hq := hv rn.toNat (by omega)
  have hq0 : 0 ≤ Xi S 950 rn.toNat ∧ Xi S 950 rn.toNat ≤ 5010 := hH.c 950 rn.toNat
  have hc69 : 0 ≤ Xi S 904 69 ∧ Xi S 904 69 ≤ 2600 := hH.c _ _
  have hc16 : 0 ≤ Xi S 904 16 ∧ Xi S 904 16 ≤ 16 := hH.c _ _
  have hc18 : 0 ≤ Xi S 904 18 ∧ Xi S 904 18 ≤ 8 := hH.c _ _
  refine l_aload_n rfl rfl ?_
  refine l_iload_n rfl rfl ?_
  refine l_iconst rfl ?_
  refine l_callV rfl rfl rfl (t_mo_meansRun__2 hH n rn 2 ⟨by omega, by omega⟩ ⟨by omega, by omega⟩ (by first | assumption | exact (by assumption : TK S _)) (by first | assumption | exact (by assumption : RNV S _)) (by first | assumption | omega) (by first | assumption | exact (by assumption : LXM S)) _) ?_
  rintro _ _ ⟨rfl, z5, rfl, w5, w3, w4⟩
  show Rl _ _ _ _ _ [iv z5] _ _
  have x3 : z5 ≠ -1 → z5 < Xi S 904 18 := fun q => by have t := (by assumption : z5 ≠ -1 → z5 < cM S 2) q; rw [cM2] at t; exact t
  refine l_istore_n rfl rfl rfl ?_
  refine l_iload_n rfl rfl ?_
  refine l_iconst rfl ?_
  refine l_icmp_eq rfl rfl (by unfold rg; omega) (by unfold rg; omega) (fun w6 => ?_) (fun w7 => ?_)
  · refine l_aload_n rfl rfl ?_
    refine l_iload_n rfl rfl ?_
    refine l_iconst rfl ?_
    refine l_callV rfl rfl rfl (t_mo_meansRun__2 hH n rn 3 ⟨by omega, by omega⟩ ⟨by omega, by omega⟩ (by first | assumption | exact (by assumption : TK S _)) (by first | assumption | exact (by assumption : RNV S _)) (by first | assumption | omega) (by first | assumption | exact (by assumption : LXM S)) _) ?_
    rintro _ _ ⟨rfl, z11, rfl, w11, w9, w10⟩
    show Rl _ _ _ _ _ [iv z11] _ _
    have x19 : z11 ≠ -1 → z11 < Xi S 904 18 := fun q => by have t := (by assumption : z11 ≠ -1 → z11 < cM S 3) q; rw [cM3] at t; exact t
    refine l_ireturn rfl rfl ?_
    exact ⟨rfl, _, rfl, ⟨by omega, by omega⟩, (by unfold r2R; first | (rw [← (by assumption : _ = rnR S rn 2), if_pos (by omega)]) | (rw [← (by assumption : _ = rnR S rn 2), if_neg (by omega)]; assumption))⟩
  · refine l_iload_n rfl rfl ?_
    refine l_goto rfl rfl ?_
    refine l_ireturn rfl rfl ?_
    exact ⟨rfl, _, rfl, ⟨by omega, by omega⟩, (by unfold r2R; first | (rw [← (by assumption : _ = rnR S rn 2), if_pos (by omega)]) | (rw [← (by assumption : _ = rnR S rn 2), if_neg (by omega)]; assumption))⟩
/-! SAFETY of the reference: new names -/
def alK (S : sS) (r s : Int) (m : Nat) : Prop := ∀ k : Int, 0 ≤ k → k < m → Xj S 910 (Xi S 950 r.toNat + k).toNat = Xj S 910 (Xi S 950 s.toNat + k).toNat
def alR (S : sS) (r s : Int) : Prop := Xi S 951 r.toNat = Xi S 951 s.toNat ∧ ∀ k : Int, 0 ≤ k → k < Xi S 951 r.toNat → Xj S 910 (Xi S 950 r.toNat + k).toNat = Xj S 910 (Xi S 950 s.toNat + k).toNat
theorem alK_0 {S : sS} {r s : Int} : alK S r s (0 : Int).toNat := fun k a b => absurd b (by omega)
theorem alK_s {S : sS} {r s v : Int} (h : alK S r s v.toNat) (h0 : 0 ≤ v) (e : Xj S 910 (Xi S 950 r.toNat + v).toNat = Xj S 910 (Xi S 950 s.toNat + v).toNat) : alK S r s (v + 1).toNat := fun k a b => by
  rcases (by omega : k < v ∨ k = v) with q | q
  · exact h k a (by omega)
  · rw [q]; exact e
def nwR (S : sS) (r : Int) : Prop := Xi S 951 r.toNat ≤ 3 ∧ rmR S r = -1 ∧ ∀ k : Nat, (k : Int) < Xi S 904 108 → ¬ alR S r (Xi S 966 k)
/-- how many of the first runs of the list mean nothing of that sort -/
noncomputable def cnR (S : sS) (f s : Int) : Nat → Int
  | 0 => 0
  | m + 1 => cnR S f s m + (if rnR S (f + m) s = -1 then 1 else 0)
theorem cnR_s {S : sS} {f s v : Int} (h0 : 0 ≤ v) : cnR S f s (v + 1).toNat = cnR S f s v.toNat + (if rnR S (f + v) s = -1 then 1 else 0) := by
  rw [show (v + 1).toNat = v.toNat + 1 by omega]
  show cnR S f s v.toNat + (if rnR S (f + (v.toNat : Int)) s = -1 then 1 else 0) = _
  rw [show ((v.toNat : Nat) : Int) = v by omega]
/-- the new objects of the list find room -/
def ON (S : sS) (a v : Int) : Prop := a = Xi S 904 19 + cnR S (Xi S 904 71) 4 v.toNat ∧ ∀ i : Int, 0 ≤ i → i < v → rnR S (Xi S 904 71 + i) 4 = -1 → Xi S 951 (Xi S 904 71 + i).toNat ≤ 3 ∧ Xi S 904 19 + cnR S (Xi S 904 71) 4 i.toNat < 24
def ONA (S : sS) : Prop := ∃ a, ON S a (Xi S 904 72)
theorem on_0 {S : sS} : ON S (Xi S 904 19) 0 := ⟨(Int.add_zero _).symm, fun i a b => absurd b (by omega)⟩
theorem on_skip {S : sS} {a v : Int} (h : ON S a v) (h0 : 0 ≤ v) (hn : rnR S (Xi S 904 71 + v) 4 ≠ -1) : ON S a (v + 1) := by
  refine ⟨?_, fun i x y z => ?_⟩
  · rw [cnR_s h0, if_neg hn]; have := h.1; omega
  · rcases (by omega : i < v ∨ i = v) with q | q
    · exact h.2 i x q z
    · rw [q] at z; exact absurd z hn
theorem on_new {S : sS} {a v : Int} (h : ON S a v) (h0 : 0 ≤ v) (hn : rnR S (Xi S 904 71 + v) 4 = -1) (h3 : Xi S 951 (Xi S 904 71 + v).toNat ≤ 3) (hl : a < 24) : ON S (a + 1) (v + 1) := by
  refine ⟨?_, fun i x y z => ?_⟩
  · rw [cnR_s h0, if_pos hn]; have := h.1; omega
  · rcases (by omega : i < v ∨ i = v) with q | q
    · exact h.2 i x q z
    · rw [q]; exact ⟨h3, by have := h.1; omega⟩
abbrev Q_mo_isAlike__2 (S : sS) (n : Nat) (r1 : Int) (s1 : Int) : pst := fun r S1 => S = S1 ∧ (∃ z : Int, r = some (iv z) ∧ (0 ≤ z ∧ z ≤ 1) ∧ ((z = 1 → alR S r1 s1) ∧ (z = 0 → ¬ alR S r1 s1)))
set_option maxRecDepth 100000 in
theorem t_mo_isAlike__2 {S : sS} (hH : HI S) (n : Nat) (r1 : Int) (s1 : Int) (hr1 : 0 ≤ r1 ∧ r1 ≤ 2599) (hs1 : 0 ≤ s1 ∧ s1 ≤ 2599) (hT : TK S n) (hv : RNV S n) (hr : r1 < Xi S 904 69) (hs : s1 < Xi S 904 69) (d : Nat) : Mt lay0 (d + 1) m_mo_isAlike [.ref 904, iv r1, iv s1] S (Q_mo_isAlike__2 S n r1 s1) := by
  refine Mt_R rfl rfl ?_
  have w1 : 0 ≤ Xi S 904 69 ∧ Xi S 904 69 ≤ 2600 := hH.c _ _
  have hn5 := hT.1
  have hq1 := hv r1.toNat (by omega)
  have hq2 := hv s1.toNat (by omega)
  have h1 : 0 ≤ Xi S 950 r1.toNat ∧ Xi S 950 r1.toNat ≤ 5010 := hH.c 950 r1.toNat
  have h2 : 0 ≤ Xi S 950 s1.toNat ∧ Xi S 950 s1.toNat ≤ 5010 := hH.c 950 s1.toNat
  have C24 : ∀ (n24 : Nat) (v3 : Int) (v4 : Int), (0 ≤ v3 ∧ v3 ≤ 1) → (0 ≤ v4 ∧ v4 ≤ 5010) → (v3 ≠ 0 → Xi S 951 r1.toNat = Xi S 951 s1.toNat) → (v4 ≤ Xi S 951 r1.toNat) → (v3 ≠ 0 → alK S r1 s1 (v4).toNat) → (v3 = 0 → ¬ alR S r1 s1) → n24 = (5012 - v4).toNat → Rl lay0 (d + 0) m_mo_isAlike 24 [(0, .ref 904), (1, iv r1), (2, iv s1), (3, iv v3), (4, iv v4)] [] S (Q_mo_isAlike__2 S n r1 s1) := by
    intro n24
    induction n24 using Nat.strongRecOn with
    | ind n24 ih24 =>
      intro v3 v4 w2 w3 w4 w5 E24 F24 hm24
      have C83 : ∀  (v3 : Int), (0 ≤ v3 ∧ v3 ≤ 1) → (v3 = 1 → alR S r1 s1) → (v3 = 0 → ¬ alR S r1 s1) → Rl lay0 (d + 0) m_mo_isAlike 83 [(3, iv v3)] [] S (Q_mo_isAlike__2 S n r1 s1) := by
        intro v3 w6 E83 F83
        refine l_iload_n rfl rfl ?_
        refine l_ireturn rfl (retI_z (by omega)) ?_
        exact ⟨rfl, _, rfl, ⟨by omega, by omega⟩, (⟨E83, F83⟩)⟩
      refine l_iload rfl rfl ?_
      refine l_aload_n rfl rfl ?_
      refine l_gfr rfl rfl rfl rfl rfl (hH.r 904 68 951 rfl) ?_
      refine l_iload_n rfl rfl ?_
      refine l_iaload (n := 2600) rfl rfl (by omega) (by omega) (by unfold rg; omega) ?_
      have w7 : 0 ≤ (Xi S 951 ((r1).toNat)) ∧ (Xi S 951 ((r1).toNat)) ≤ 5010 := hH.c _ _
      refine l_icmp_ge rfl rfl (by unfold rg; omega) (by unfold rg; omega) (fun w8 => ?_) (fun w9 => ?_)
      · exact Rl_weak (C83 (v3) (by omega) (by first | exact fun q => absurd q (by omega) | exact fun q => ⟨by omega, fun k a b => E24 (by omega) k a (by omega)⟩) (F24)) (And.intro rfl (True.intro))
      · refine l_iload_n rfl rfl ?_
        refine l_if_eq rfl rfl (by unfold rg; omega) (fun w10 => ?_) (fun w11 => ?_)
        · exact Rl_weak (C83 (v3) (by omega) (by first | exact fun q => absurd q (by omega) | exact fun q => ⟨by omega, fun k a b => E24 (by omega) k a (by omega)⟩) (F24)) (And.intro rfl (True.intro))
        · refine l_aload_n rfl rfl ?_
          refine l_gfr rfl rfl rfl rfl rfl (hH.r 904 7 910 rfl) ?_
          refine l_aload_n rfl rfl ?_
          refine l_gfr rfl rfl rfl rfl rfl (hH.r 904 67 950 rfl) ?_
          refine l_iload_n rfl rfl ?_
          refine l_iaload (n := 2600) rfl rfl (by omega) (by omega) (by unfold rg; omega) ?_
          have w12 : 0 ≤ (Xi S 950 ((r1).toNat)) ∧ (Xi S 950 ((r1).toNat)) ≤ 5010 := hH.c _ _
          refine l_iload rfl rfl ?_
          refine l_iadd rfl ?_
          refine l_laload (n := 5002) rfl rfl (by omega) (by omega) (by unfold rg; omega) ?_
          have w13 : -9223372036854775808 ≤ (Xj S 910 ((((Xi S 950 ((r1).toNat)) + v4)).toNat)) ∧ (Xj S 910 ((((Xi S 950 ((r1).toNat)) + v4)).toNat)) < 9223372036854775808 := Xj_rg
          refine l_aload_n rfl rfl ?_
          refine l_gfr rfl rfl rfl rfl rfl (hH.r 904 7 910 rfl) ?_
          refine l_aload_n rfl rfl ?_
          refine l_gfr rfl rfl rfl rfl rfl (hH.r 904 67 950 rfl) ?_
          refine l_iload_n rfl rfl ?_
          refine l_iaload (n := 2600) rfl rfl (by omega) (by omega) (by unfold rg; omega) ?_
          have w14 : 0 ≤ (Xi S 950 ((s1).toNat)) ∧ (Xi S 950 ((s1).toNat)) ≤ 5010 := hH.c _ _
          refine l_iload rfl rfl ?_
          refine l_iadd rfl ?_
          refine l_laload (n := 5002) rfl rfl (by omega) (by omega) (by unfold rg; omega) ?_
          have w15 : -9223372036854775808 ≤ (Xj S 910 ((((Xi S 950 ((s1).toNat)) + v4)).toNat)) ∧ (Xj S 910 ((((Xi S 950 ((s1).toNat)) + v4)).toNat)) < 9223372036854775808 := Xj_rg
          refine l_lcmp rfl (by unfold rgL; omega) (by unfold rgL; omega) (fun c16 w16 w16a w16b w16c => ?_)
          refine l_if_ne rfl rfl (by unfold rg; omega) (fun w17 => ?_) (fun w18 => ?_)
          · refine l_iconst rfl ?_
            refine l_istore_n rfl rfl rfl ?_
            refine l_iinc rfl rfl rfl rfl ?_
            refine l_goto rfl rfl ?_
            exact Rl_weak (ih24 _ (by omega) (0) ((v4 + 1)) (by omega) (by omega) (by omega) (by omega) (by first | exact fun _ => alK_0 | exact fun q => alK_s (E24 (by omega)) (by omega) (by omega) | exact fun q => absurd q (by omega)) (by first | exact fun q => absurd q (by omega) | exact fun q h => absurd h.1 (by omega) | exact fun q h => absurd (h.2 (v4) (by omega) (by omega)) (by omega)) rfl) (And.intro rfl (And.intro rfl (And.intro rfl (And.intro rfl (And.intro rfl (True.intro))))))
          · refine l_iconst rfl ?_
            refine l_goto rfl rfl ?_
            refine l_istore_n rfl rfl rfl ?_
            refine l_iinc rfl rfl rfl rfl ?_
            refine l_goto rfl rfl ?_
            exact Rl_weak (ih24 _ (by omega) (1) ((v4 + 1)) (by omega) (by omega) (by omega) (by omega) (by first | exact fun _ => alK_0 | exact fun q => alK_s (E24 (by omega)) (by omega) (by omega) | exact fun q => absurd q (by omega)) (by first | exact fun q => absurd q (by omega) | exact fun q h => absurd h.1 (by omega) | exact fun q h => absurd (h.2 (v4) (by omega) (by omega)) (by omega)) rfl) (And.intro rfl (And.intro rfl (And.intro rfl (And.intro rfl (And.intro rfl (True.intro))))))
  refine l_aload_n rfl rfl ?_
  refine l_gfr rfl rfl rfl rfl rfl (hH.r 904 68 951 rfl) ?_
  refine l_iload_n rfl rfl ?_
  refine l_iaload (n := 2600) rfl rfl (by omega) (by omega) (by unfold rg; omega) ?_
  have w19 : 0 ≤ (Xi S 951 ((r1).toNat)) ∧ (Xi S 951 ((r1).toNat)) ≤ 5010 := hH.c _ _
  refine l_aload_n rfl rfl ?_
  refine l_gfr rfl rfl rfl rfl rfl (hH.r 904 68 951 rfl) ?_
  refine l_iload_n rfl rfl ?_
  refine l_iaload (n := 2600) rfl rfl (by omega) (by omega) (by unfold rg; omega) ?_
  have w20 : 0 ≤ (Xi S 951 ((s1).toNat)) ∧ (Xi S 951 ((s1).toNat)) ≤ 5010 := hH.c _ _
  refine l_icmp_ne rfl rfl (by unfold rg; omega) (by unfold rg; omega) (fun w21 => ?_) (fun w22 => ?_)
  · refine l_iconst rfl ?_
    refine l_istore_n rfl rfl rfl ?_
    refine l_iconst rfl ?_
    refine l_istore rfl rfl rfl ?_
    exact Rl_weak (C24 _ (0) (0) (by omega) (by omega) (by omega) (by omega) (by first | exact fun _ => alK_0 | exact fun q => alK_s (E24 (by omega)) (by omega) (by omega) | exact fun q => absurd q (by omega)) (by first | exact fun q => absurd q (by omega) | exact fun q h => absurd h.1 (by omega) | exact fun q h => absurd (h.2 (v4) (by omega) (by omega)) (by omega)) rfl) (And.intro rfl (And.intro rfl (And.intro rfl (And.intro rfl (And.intro rfl (True.intro))))))
  · refine l_iconst rfl ?_
    refine l_goto rfl rfl ?_
    refine l_istore_n rfl rfl rfl ?_
    refine l_iconst rfl ?_
    refine l_istore rfl rfl rfl ?_
    exact Rl_weak (C24 _ (1) (0) (by omega) (by omega) (by omega) (by omega) (by first | exact fun _ => alK_0 | exact fun q => alK_s (E24 (by omega)) (by omega) (by omega) | exact fun q => absurd q (by omega)) (by first | exact fun q => absurd q (by omega) | exact fun q h => absurd h.1 (by omega) | exact fun q h => absurd (h.2 (v4) (by omega) (by omega)) (by omega)) rfl) (And.intro rfl (And.intro rfl (And.intro rfl (And.intro rfl (And.intro rfl (True.intro))))))
abbrev Q_mo_isNew (S : sS) (n : Nat) (rn : Int) : pst := fun r S1 => S = S1 ∧ (∃ z : Int, r = some (iv z) ∧ (0 ≤ z ∧ z ≤ 1) ∧ ((z = 1 → nwR S rn) ∧ (z = 0 → ¬ nwR S rn)))
set_option maxRecDepth 100000 in
theorem t_mo_isNew {S : sS} (hH : HI S) (n : Nat) (rn : Int) (hrn : 0 ≤ rn ∧ rn ≤ 2599) (hT : TK S n) (hv : RNV S n) (hrr : rn < Xi S 904 69) (hN : NWV S) (d : Nat) : Mt lay0 (d + 3) m_mo_isNew [.ref 904, iv rn] S (Q_mo_isNew S n rn) := by
  refine Mt_R rfl rfl ?_
  have w1 : 0 ≤ Xi S 904 69 ∧ Xi S 904 69 ≤ 2600 := hH.c _ _
  have hn5 := hT.1
  have hq := hv rn.toNat (by omega)
  have hq0 : 0 ≤ Xi S 950 rn.toNat ∧ Xi S 950 rn.toNat ≤ 5010 := hH.c 950 rn.toNat
  have hc69 : 0 ≤ Xi S 904 69 ∧ Xi S 904 69 ≤ 2600 := hH.c _ _
  have C38 : ∀ (n38 : Nat) (v2 : Int) (v3 : Int), (0 ≤ v2 ∧ v2 ≤ 1) → (0 ≤ v3 ∧ v3 ≤ 2600) → (v2 = 1 → (Xi S 951 rn.toNat ≤ 3 ∧ rmR S rn = -1) ∧ ∀ k : Nat, (k : Int) < v3 → ¬ alR S rn (Xi S 966 k)) → (v2 = 0 → ¬ nwR S rn) → n38 = (2601 - v3).toNat → Rl lay0 (d + 2) m_mo_isNew 38 [(0, .ref 904), (1, iv rn), (2, iv v2), (3, iv v3)] [] S (Q_mo_isNew S n rn) := by
    intro n38
    induction n38 using Nat.strongRecOn with
    | ind n38 ih38 =>
      intro v2 v3 w2 w3 E38 F38 hm38
      have C76 : ∀  (v2 : Int), (0 ≤ v2 ∧ v2 ≤ 1) → (v2 = 1 → nwR S rn) → (v2 = 0 → ¬ nwR S rn) → Rl lay0 (d + 2) m_mo_isNew 76 [(2, iv v2)] [] S (Q_mo_isNew S n rn) := by
        intro v2 w4 E76 F76
        refine l_iload_n rfl rfl ?_
        refine l_ireturn rfl (retI_z (by omega)) ?_
        exact ⟨rfl, _, rfl, ⟨by omega, by omega⟩, (⟨E76, F76⟩)⟩
      refine l_iload_n rfl rfl ?_
      refine l_aload_n rfl rfl ?_
      refine l_gfi rfl rfl rfl rfl rfl ?_
      have w5 : 0 ≤ (Xi S 904 108) ∧ (Xi S 904 108) ≤ 2600 := hH.c _ _
      refine l_icmp_ge rfl rfl (by unfold rg; omega) (by unfold rg; omega) (fun w6 => ?_) (fun w7 => ?_)
      · exact Rl_weak (C76 (v2) (by omega) (fun q => ⟨(E38 q).1.1, (E38 q).1.2, fun k hk => (E38 q).2 k (by omega)⟩) (F38)) (And.intro rfl (True.intro))
      · refine l_iload_n rfl rfl ?_
        refine l_if_eq rfl rfl (by unfold rg; omega) (fun w8 => ?_) (fun w9 => ?_)
        · exact Rl_weak (C76 (v2) (by omega) (fun q => ⟨(E38 q).1.1, (E38 q).1.2, fun k hk => (E38 q).2 k (by omega)⟩) (F38)) (And.intro rfl (True.intro))
        · refine l_aload_n rfl rfl ?_
          refine l_iload_n rfl rfl ?_
          refine l_aload_n rfl rfl ?_
          refine l_gfr rfl rfl rfl rfl rfl (hH.r 904 107 966 rfl) ?_
          refine l_iload_n rfl rfl ?_
          refine l_iaload (n := 2600) rfl rfl (by omega) (by omega) (by unfold rg; omega) ?_
          have w10 : 0 ≤ (Xi S 966 ((v3).toNat)) ∧ (Xi S 966 ((v3).toNat)) ≤ 2600 := hH.c _ _
          have q57 : (Xi S 966 ((v3).toNat)) < Xi S 904 69 := hN (v3).toNat (by omega)
          refine l_callV rfl rfl rfl (t_mo_isAlike__2 hH n rn (Xi S 966 ((v3).toNat)) ⟨by omega, by omega⟩ ⟨by omega, by omega⟩ (by first | assumption | exact (by assumption : TK S _)) (by first | assumption | exact (by assumption : RNV S _)) (by first | assumption | omega) (by first | assumption | omega) _) ?_
          rintro _ _ ⟨rfl, z13, rfl, w13, w12⟩
          show Rl _ _ _ _ _ [iv z13] _ _
          have f58 : (z13 = 1 → alR S rn (Xi S 966 (v3).toNat)) ∧ (z13 = 0 → ¬ alR S rn (Xi S 966 (v3).toNat)) := by assumption
          refine l_if_ne rfl rfl (by unfold rg; omega) (fun w14 => ?_) (fun w15 => ?_)
          · refine l_iconst rfl ?_
            refine l_istore_n rfl rfl rfl ?_
            refine l_iinc rfl rfl rfl rfl ?_
            refine l_goto rfl rfl ?_
            exact Rl_weak (ih38 _ (by omega) (0) ((v3 + 1)) (by omega) (by omega) (by first | exact fun q => absurd q (by omega) | exact fun q => ⟨⟨by omega, by omega⟩, fun k hk => absurd hk (by omega)⟩ | exact fun q => ⟨(E38 (by omega)).1, fun k hk => (Int.lt_or_le (k : Int) v3).elim (fun h => (E38 (by omega)).2 k h) (fun h => by rw [show k = (v3).toNat by omega]; exact f58.2 (by omega))⟩) (by first | exact fun q => absurd q (by omega) | exact fun q h => h.2.2 (v3).toNat (by omega) (f58.1 (by omega)) | exact fun q h => absurd h.1 (by omega) | exact fun q h => absurd h.2.1 (by omega)) rfl) (And.intro rfl (And.intro rfl (And.intro rfl (And.intro rfl (True.intro)))))
          · refine l_iconst rfl ?_
            refine l_goto rfl rfl ?_
            refine l_istore_n rfl rfl rfl ?_
            refine l_iinc rfl rfl rfl rfl ?_
            refine l_goto rfl rfl ?_
            exact Rl_weak (ih38 _ (by omega) (1) ((v3 + 1)) (by omega) (by omega) (by first | exact fun q => absurd q (by omega) | exact fun q => ⟨⟨by omega, by omega⟩, fun k hk => absurd hk (by omega)⟩ | exact fun q => ⟨(E38 (by omega)).1, fun k hk => (Int.lt_or_le (k : Int) v3).elim (fun h => (E38 (by omega)).2 k h) (fun h => by rw [show k = (v3).toNat by omega]; exact f58.2 (by omega))⟩) (by first | exact fun q => absurd q (by omega) | exact fun q h => h.2.2 (v3).toNat (by omega) (f58.1 (by omega)) | exact fun q h => absurd h.1 (by omega) | exact fun q h => absurd h.2.1 (by omega)) rfl) (And.intro rfl (And.intro rfl (And.intro rfl (And.intro rfl (True.intro)))))
  refine l_aload_n rfl rfl ?_
  refine l_gfr rfl rfl rfl rfl rfl (hH.r 904 68 951 rfl) ?_
  refine l_iload_n rfl rfl ?_
  refine l_iaload (n := 2600) rfl rfl (by omega) (by omega) (by unfold rg; omega) ?_
  have w16 : 0 ≤ (Xi S 951 ((rn).toNat)) ∧ (Xi S 951 ((rn).toNat)) ≤ 5010 := hH.c _ _
  refine l_iconst rfl ?_
  refine l_icmp_gt rfl rfl (by unfold rg; omega) (by unfold rg; omega) (fun w17 => ?_) (fun w18 => ?_)
  · refine l_iconst rfl ?_
    refine l_istore_n rfl rfl rfl ?_
    refine l_iconst rfl ?_
    refine l_istore_n rfl rfl rfl ?_
    exact Rl_weak (C38 _ (0) (0) (by omega) (by omega) (by first | exact fun q => absurd q (by omega) | exact fun q => ⟨⟨by omega, by omega⟩, fun k hk => absurd hk (by omega)⟩ | exact fun q => ⟨(E38 (by omega)).1, fun k hk => (Int.lt_or_le (k : Int) v3).elim (fun h => (E38 (by omega)).2 k h) (fun h => by rw [show k = (v3).toNat by omega]; exact f58.2 (by omega))⟩) (by first | exact fun q => absurd q (by omega) | exact fun q h => h.2.2 (v3).toNat (by omega) (f58.1 (by omega)) | exact fun q h => absurd h.1 (by omega) | exact fun q h => absurd h.2.1 (by omega)) rfl) (And.intro rfl (And.intro rfl (And.intro rfl (And.intro rfl (True.intro)))))
  · refine l_aload_n rfl rfl ?_
    refine l_aload_n rfl rfl ?_
    refine l_gfr rfl rfl rfl rfl rfl (hH.r 904 67 950 rfl) ?_
    refine l_iload_n rfl rfl ?_
    refine l_iaload (n := 2600) rfl rfl (by omega) (by omega) (by unfold rg; omega) ?_
    have w19 : 0 ≤ (Xi S 950 ((rn).toNat)) ∧ (Xi S 950 ((rn).toNat)) ≤ 5010 := hH.c _ _
    refine l_aload_n rfl rfl ?_
    refine l_gfr rfl rfl rfl rfl rfl (hH.r 904 68 951 rfl) ?_
    refine l_iload_n rfl rfl ?_
    refine l_iaload (n := 2600) rfl rfl (by omega) (by omega) (by unfold rg; omega) ?_
    have w20 : 0 ≤ Xi S 904 15 ∧ Xi S 904 15 ≤ 300 := hH.c _ _
    refine l_callV rfl rfl rfl (t_mo_mean__2 hH (Xi S 950 ((rn).toNat)) (Xi S 951 ((rn).toNat)) ⟨by omega, by omega⟩ ⟨by omega, by omega⟩ (by first | assumption | omega) _) ?_
    rintro _ _ ⟨rfl, z23, rfl, w23, w21, w22⟩
    show Rl _ _ _ _ _ [iv z23] _ _
    have m23 : z23 = rmR S rn := by assumption
    refine l_iconst rfl ?_
    refine l_icmp_ne rfl rfl (by unfold rg; omega) (by unfold rg; omega) (fun w24 => ?_) (fun w25 => ?_)
    · refine l_iconst rfl ?_
      refine l_istore_n rfl rfl rfl ?_
      refine l_iconst rfl ?_
      refine l_istore_n rfl rfl rfl ?_
      exact Rl_weak (C38 _ (0) (0) (by omega) (by omega) (by first | exact fun q => absurd q (by omega) | exact fun q => ⟨⟨by omega, by omega⟩, fun k hk => absurd hk (by omega)⟩ | exact fun q => ⟨(E38 (by omega)).1, fun k hk => (Int.lt_or_le (k : Int) v3).elim (fun h => (E38 (by omega)).2 k h) (fun h => by rw [show k = (v3).toNat by omega]; exact f58.2 (by omega))⟩) (by first | exact fun q => absurd q (by omega) | exact fun q h => h.2.2 (v3).toNat (by omega) (f58.1 (by omega)) | exact fun q h => absurd h.1 (by omega) | exact fun q h => absurd h.2.1 (by omega)) rfl) (And.intro rfl (And.intro rfl (And.intro rfl (And.intro rfl (True.intro)))))
    · refine l_iconst rfl ?_
      refine l_goto rfl rfl ?_
      refine l_istore_n rfl rfl rfl ?_
      refine l_iconst rfl ?_
      refine l_istore_n rfl rfl rfl ?_
      exact Rl_weak (C38 _ (1) (0) (by omega) (by omega) (by first | exact fun q => absurd q (by omega) | exact fun q => ⟨⟨by omega, by omega⟩, fun k hk => absurd hk (by omega)⟩ | exact fun q => ⟨(E38 (by omega)).1, fun k hk => (Int.lt_or_le (k : Int) v3).elim (fun h => (E38 (by omega)).2 k h) (fun h => by rw [show k = (v3).toNat by omega]; exact f58.2 (by omega))⟩) (by first | exact fun q => absurd q (by omega) | exact fun q h => h.2.2 (v3).toNat (by omega) (f58.1 (by omega)) | exact fun q h => absurd h.1 (by omega) | exact fun q h => absurd h.2.1 (by omega)) rfl) (And.intro rfl (And.intro rfl (And.intro rfl (And.intro rfl (True.intro)))))
theorem nwv_add {P U1 U2 : sS} {m r y : Int} {j : Nat} (k : ∀ i : Nat, (i : Int) < m → Xi U1 966 i < r) (e1 : U1 = uI P 966 j (Int32.ofInt y)) (e2 : U2 = uI U1 904 108 (Int32.ofInt (m + 1))) (hj : (j : Int) = m) (hy : 0 ≤ y ∧ y ≤ 2600) (hr : y < r) (hU : Xi U2 904 69 = r) (hm : m ≤ 2600) (h0 : 0 ≤ m) : NWV U2 := fun i hi => by
  have x : Xi U2 904 108 = m + 1 := by rw [e2]; exact Xi_same ⟨by omega, by omega⟩
  rw [x] at hi
  rw [hU]
  have y1 : Xi U2 966 i = Xi U1 966 i := by rw [e2, Xi_ne (by omega)]
  rw [y1]
  rcases (by omega : (i : Int) < m ∨ i = j) with q | q
  · exact k i q
  · rw [q, e1, Xi_same ⟨by omega, by omega⟩]; exact hr
def md_mo_mustBeNew : List rec := [(904, 905, 104, 105), (904, 905, 105, 106), (904, 905, 106, 107), (904, 905, 108, 109), (966, 967, 0, 100000)]
abbrev Q_mo_mustBeNew (S : sS) (n : Nat) (rn : Int) (there : Int) (most : Int) : pst := fun r S1 => HI S1 ∧ FR md_mo_mustBeNew S S1 ∧ (r = none ∧ (Xi S 904 106 ≠ 0 → Xi S1 904 106 ≠ 0) ∧ (Xi S1 904 106 = 0 → there < most ∧ nwR S rn) ∧ (NWV S1) ∧ (Xi S 904 108 ≤ Xi S1 904 108 ∧ Xi S1 904 108 ≤ Xi S 904 108 + 1))
set_option maxRecDepth 100000 in
theorem t_mo_mustBeNew {S : sS} (hH : HI S) (n : Nat) (rn : Int) (there : Int) (most : Int) (hrn : 0 ≤ rn ∧ rn ≤ 2599) (hthere : -2147483648 ≤ there ∧ there ≤ 2147483647) (hmost : -2147483648 ≤ most ∧ most ≤ 2147483647) (hT : TK S n) (hv : RNV S n) (hrr : rn < Xi S 904 69) (hN : NWV S) (h9 : Xi S 904 108 ≤ 2599) (d : Nat) : Mt lay0 (d + 4) m_mo_mustBeNew [.ref 904, iv rn, iv there, iv most] S (Q_mo_mustBeNew S n rn there most) := by
  refine Mt_R rfl rfl ?_
  have hF : FR md_mo_mustBeNew S S := FR.rf
  have w1 : 0 ≤ Xi S 904 106 ∧ Xi S 904 106 ≤ 9 := hH.c _ _
  have w2 : 0 ≤ Xi S 904 108 ∧ Xi S 904 108 ≤ 2600 := hH.c _ _
  have w3 : 0 ≤ Xi S 904 69 ∧ Xi S 904 69 ≤ 2600 := hH.c _ _
  have hn5 := hT.1
  have hq := hv rn.toNat (by omega)
  have hq0 : 0 ≤ Xi S 950 rn.toNat ∧ Xi S 950 rn.toNat ≤ 5010 := hH.c 950 rn.toNat
  have hc69 : 0 ≤ Xi S 904 69 ∧ Xi S 904 69 ≤ 2600 := hH.c _ _
  refine l_aload_n rfl rfl ?_
  refine l_iload_n rfl rfl ?_
  refine l_callV rfl rfl rfl (t_mo_isNew hH n rn ⟨by omega, by omega⟩ (by first | assumption | exact (TK_FR hF rfl (by assumption : TK S _))) (by first | assumption | exact (RNV_FR hF rfl (by assumption : RNV S _))) (by first | assumption | omega) (by first | assumption | exact (by assumption : NWV S)) _) ?_
  rintro _ _ ⟨rfl, z7, rfl, w7, f2⟩
  show Rl _ _ _ _ _ [iv z7] _ _
  refine l_if_eq rfl rfl (by unfold rg; omega) (fun w8 => ?_) (fun w9 => ?_)
  · refine l_aload_n rfl rfl ?_
    refine l_iconst rfl ?_
    refine l_aload_n rfl rfl ?_
    refine l_gfr rfl rfl rfl rfl rfl (hH.r 904 67 950 rfl) ?_
    refine l_iload_n rfl rfl ?_
    refine l_iaload (n := 2600) rfl rfl (by omega) (by omega) (by unfold rg; omega) ?_
    have w10 : 0 ≤ (Xi S 950 ((rn).toNat)) ∧ (Xi S 950 ((rn).toNat)) ≤ 5010 := hH.c _ _
    refine l_callV rfl rfl rfl (t_mo_note hH 3 (Xi S 950 ((rn).toNat)) ⟨by omega, by omega⟩ ⟨by omega, by omega⟩ _) ?_
    rintro _ T1 ⟨hHT1, w16, rfl, w14⟩
    have hFT1 : FR md_mo_mustBeNew S T1 := FR.tr hF w16 rfl
    show Rl _ _ _ _ _ [] _ _
    refine l_return rfl rfl ?_
    have w17 : 0 ≤ Xi T1 904 106 ∧ Xi T1 904 106 ≤ 9 := hHT1.c _ _
    have w18 : Xi T1 904 108 = Xi S 904 108 := (show Xi T1 904 108 = Xi S 904 108 from w16.x _ _ rfl)
    have w20 : Xi T1 904 69 = Xi S 904 69 := (show Xi T1 904 69 = Xi S 904 69 from w16.x _ _ rfl)
    exact ⟨hHT1, hFT1, rfl, (by omega), (fun q => by first | exact ⟨by omega, f2.1 (by omega)⟩ | (exfalso; omega)), (by first | exact N47 | exact NWV_FR (by assumption : FR md_mo_note S T1) rfl hN), (by omega)⟩
  · refine l_aload_n rfl rfl ?_
    refine l_iload_n rfl rfl ?_
    refine l_iload_n rfl rfl ?_
    refine l_icmp_ge rfl rfl (by unfold rg; omega) (by unfold rg; omega) (fun w22 => ?_) (fun w23 => ?_)
    · refine l_iconst rfl ?_
      refine l_bipush rfl rfl ?_
      refine l_aload_n rfl rfl ?_
      refine l_gfr rfl rfl rfl rfl rfl (hH.r 904 67 950 rfl) ?_
      refine l_iload_n rfl rfl ?_
      refine l_iaload (n := 2600) rfl rfl (by omega) (by omega) (by unfold rg; omega) ?_
      have w24 : 0 ≤ (Xi S 950 ((rn).toNat)) ∧ (Xi S 950 ((rn).toNat)) ≤ 5010 := hH.c _ _
      refine l_callV rfl rfl rfl (t_mo_need hH 0 9 (Xi S 950 ((rn).toNat)) ⟨by omega, by omega⟩ ⟨by omega, by omega⟩ ⟨by omega, by omega⟩ _) ?_
      rintro _ T2 ⟨hHT2, w31, rfl, w28, w29⟩
      have hFT2 : FR md_mo_mustBeNew S T2 := FR.tr hF w31 rfl
      show Rl _ _ _ _ _ [] _ _
      refine l_aload_n rfl rfl ?_
      refine l_gfr rfl rfl rfl rfl rfl (hHT2.r 904 107 966 rfl) ?_
      refine l_aload_n rfl rfl ?_
      refine l_gfi rfl rfl rfl rfl rfl ?_
      have w32 : (Xi T2 904 108) = (Xi S 904 108) := (show Xi T2 904 108 = Xi S 904 108 from w31.x _ _ rfl)
      rw [w32]
      refine l_iload_n rfl rfl ?_
      refine l_iastore (n := 2600) rfl rfl (by omega) (by omega) (by unfold rg; omega) ?_
      obtain ⟨U3, eU3⟩ : ∃ T : sS, T = uI T2 966 (((Xi S 904 108)).toNat) (Int32.ofInt rn) := ⟨_, rfl⟩
      rw [← eU3]
      have hHU3 : HI U3 := by rw [eU3]; exact HI_w hHT2 (show 0 ≤ rn by omega) (show rn ≤ 2600 by omega)
      have hFU3 : FR md_mo_mustBeNew S U3 := by rw [eU3]; exact FR.wI hFT2 (mdf_i (r := (966, 967, 0, 100000)) (List.mem_of_getElem? (i := 4) rfl) (inR_i (by omega) (by omega) (by omega) (by omega)))
      have w33 : Xi U3 966 (((Xi S 904 108)).toNat) = rn := by rw [eU3]; exact Xi_same (by unfold rg; omega)
      have n39 : ∀ k : Nat, (k : Int) < Xi S 904 108 → Xi U3 966 k < Xi S 904 69 := fun k hk => by rw [eU3, Xi_ne (by omega), ((by assumption : FR md_mo_need S T2).cx 966 rfl _).1]; exact hN k hk
      refine l_aload_n rfl rfl ?_
      refine l_dup rfl rfl ?_
      refine l_gfi rfl rfl rfl rfl rfl ?_
      have w34 : (Xi U3 904 108) = (Xi S 904 108) := (show Xi U3 904 108 = Xi T2 904 108 from by rw [eU3]; exact Xi_ne (by omega)).trans ((show Xi T2 904 108 = Xi S 904 108 from w31.x _ _ rfl))
      rw [w34]
      refine l_iconst rfl ?_
      refine l_iadd rfl ?_
      refine l_pfi rfl rfl rfl rfl ?_
      obtain ⟨U4, eU4⟩ : ∃ T : sS, T = uI U3 904 108 (Int32.ofInt ((Xi S 904 108) + 1)) := ⟨_, rfl⟩
      rw [← eU4]
      have hHU4 : HI U4 := by rw [eU4]; exact HI_w hHU3 (show 0 ≤ ((Xi S 904 108) + 1) by omega) (show ((Xi S 904 108) + 1) ≤ 2600 by omega)
      have hFU4 : FR md_mo_mustBeNew S U4 := by rw [eU4]; exact FR.wI hFU3 (mdf_i (r := (904, 905, 108, 109)) (List.mem_of_getElem? (i := 3) rfl) (inR_i (by omega) (by omega) (by omega) (by omega)))
      have w35 : Xi U4 904 108 = ((Xi S 904 108) + 1) := by rw [eU4]; exact Xi_same (by unfold rg; omega)
      have N47 : NWV U4 := nwv_add n39 eU3 eU4 (by omega) (by omega) (by omega) (hFU4.x 904 69 rfl) (by omega) (by omega)
      refine l_goto rfl rfl ?_
      refine l_return rfl rfl ?_
      have w36 : Xi U4 904 106 = Xi T2 904 106 := (show Xi U4 904 106 = Xi U3 904 106 from by rw [eU4]; exact Xi_ne (by omega)).trans ((show Xi U3 904 106 = Xi T2 904 106 from by rw [eU3]; exact Xi_ne (by omega)))
      have w37 : 0 ≤ Xi T2 904 106 ∧ Xi T2 904 106 ≤ 9 := hHT2.c _ _
      have w38 : 0 ≤ Xi U4 904 108 ∧ Xi U4 904 108 ≤ 2600 := hHU4.c _ _
      have w39 : Xi U4 904 69 = Xi S 904 69 := (show Xi U4 904 69 = Xi U3 904 69 from by rw [eU4]; exact Xi_ne (by omega)).trans ( (show Xi U3 904 69 = Xi T2 904 69 from by rw [eU3]; exact Xi_ne (by omega)).trans ((show Xi T2 904 69 = Xi S 904 69 from w31.x _ _ rfl)))
      exact ⟨hHU4, hFU4, rfl, (by omega), (fun q => by first | exact ⟨by omega, f2.1 (by omega)⟩ | (exfalso; omega)), (by first | exact N47 | exact NWV_FR (by assumption : FR md_mo_note U3 U4) rfl hN), (by omega)⟩
    · refine l_iconst rfl ?_
      refine l_goto rfl rfl ?_
      refine l_bipush rfl rfl ?_
      refine l_aload_n rfl rfl ?_
      refine l_gfr rfl rfl rfl rfl rfl (hH.r 904 67 950 rfl) ?_
      refine l_iload_n rfl rfl ?_
      refine l_iaload (n := 2600) rfl rfl (by omega) (by omega) (by unfold rg; omega) ?_
      have w41 : 0 ≤ (Xi S 950 ((rn).toNat)) ∧ (Xi S 950 ((rn).toNat)) ≤ 5010 := hH.c _ _
      refine l_callV rfl rfl rfl (t_mo_need hH 1 9 (Xi S 950 ((rn).toNat)) ⟨by omega, by omega⟩ ⟨by omega, by omega⟩ ⟨by omega, by omega⟩ _) ?_
      rintro _ T5 ⟨hHT5, w48, rfl, w45, w46⟩
      have hFT5 : FR md_mo_mustBeNew S T5 := FR.tr hF w48 rfl
      show Rl _ _ _ _ _ [] _ _
      refine l_aload_n rfl rfl ?_
      refine l_gfr rfl rfl rfl rfl rfl (hHT5.r 904 107 966 rfl) ?_
      refine l_aload_n rfl rfl ?_
      refine l_gfi rfl rfl rfl rfl rfl ?_
      have w49 : (Xi T5 904 108) = (Xi S 904 108) := (show Xi T5 904 108 = Xi S 904 108 from w48.x _ _ rfl)
      rw [w49]
      refine l_iload_n rfl rfl ?_
      refine l_iastore (n := 2600) rfl rfl (by omega) (by omega) (by unfold rg; omega) ?_
      obtain ⟨U6, eU6⟩ : ∃ T : sS, T = uI T5 966 (((Xi S 904 108)).toNat) (Int32.ofInt rn) := ⟨_, rfl⟩
      rw [← eU6]
      have hHU6 : HI U6 := by rw [eU6]; exact HI_w hHT5 (show 0 ≤ rn by omega) (show rn ≤ 2600 by omega)
      have hFU6 : FR md_mo_mustBeNew S U6 := by rw [eU6]; exact FR.wI hFT5 (mdf_i (r := (966, 967, 0, 100000)) (List.mem_of_getElem? (i := 4) rfl) (inR_i (by omega) (by omega) (by omega) (by omega)))
      have w50 : Xi U6 966 (((Xi S 904 108)).toNat) = rn := by rw [eU6]; exact Xi_same (by unfold rg; omega)
      have n39 : ∀ k : Nat, (k : Int) < Xi S 904 108 → Xi U6 966 k < Xi S 904 69 := fun k hk => by rw [eU6, Xi_ne (by omega), ((by assumption : FR md_mo_need S T5).cx 966 rfl _).1]; exact hN k hk
      refine l_aload_n rfl rfl ?_
      refine l_dup rfl rfl ?_
      refine l_gfi rfl rfl rfl rfl rfl ?_
      have w51 : (Xi U6 904 108) = (Xi S 904 108) := (show Xi U6 904 108 = Xi T5 904 108 from by rw [eU6]; exact Xi_ne (by omega)).trans ((show Xi T5 904 108 = Xi S 904 108 from w48.x _ _ rfl))
      rw [w51]
      refine l_iconst rfl ?_
      refine l_iadd rfl ?_
      refine l_pfi rfl rfl rfl rfl ?_
      obtain ⟨U7, eU7⟩ : ∃ T : sS, T = uI U6 904 108 (Int32.ofInt ((Xi S 904 108) + 1)) := ⟨_, rfl⟩
      rw [← eU7]
      have hHU7 : HI U7 := by rw [eU7]; exact HI_w hHU6 (show 0 ≤ ((Xi S 904 108) + 1) by omega) (show ((Xi S 904 108) + 1) ≤ 2600 by omega)
      have hFU7 : FR md_mo_mustBeNew S U7 := by rw [eU7]; exact FR.wI hFU6 (mdf_i (r := (904, 905, 108, 109)) (List.mem_of_getElem? (i := 3) rfl) (inR_i (by omega) (by omega) (by omega) (by omega)))
      have w52 : Xi U7 904 108 = ((Xi S 904 108) + 1) := by rw [eU7]; exact Xi_same (by unfold rg; omega)
      have N47 : NWV U7 := nwv_add n39 eU6 eU7 (by omega) (by omega) (by omega) (hFU7.x 904 69 rfl) (by omega) (by omega)
      refine l_goto rfl rfl ?_
      refine l_return rfl rfl ?_
      have w53 : Xi U7 904 106 = Xi T5 904 106 := (show Xi U7 904 106 = Xi U6 904 106 from by rw [eU7]; exact Xi_ne (by omega)).trans ((show Xi U6 904 106 = Xi T5 904 106 from by rw [eU6]; exact Xi_ne (by omega)))
      have w54 : 0 ≤ Xi T5 904 106 ∧ Xi T5 904 106 ≤ 9 := hHT5.c _ _
      have w55 : 0 ≤ Xi U7 904 108 ∧ Xi U7 904 108 ≤ 2600 := hHU7.c _ _
      have w56 : Xi U7 904 69 = Xi S 904 69 := (show Xi U7 904 69 = Xi U6 904 69 from by rw [eU7]; exact Xi_ne (by omega)).trans ( (show Xi U6 904 69 = Xi T5 904 69 from by rw [eU6]; exact Xi_ne (by omega)).trans ((show Xi T5 904 69 = Xi S 904 69 from w48.x _ _ rfl)))
      exact ⟨hHU7, hFU7, rfl, (by omega), (fun q => by first | exact ⟨by omega, f2.1 (by omega)⟩ | (exfalso; omega)), (by first | exact N47 | exact NWV_FR (by assumption : FR md_mo_note U6 U7) rfl hN), (by omega)⟩
/-! SAFETY of methods: printed by wip/safe (vc.py, decl.py) -/
def md_mo_test : List rec := [(904, 905, 8, 9), (904, 905, 65, 66), (904, 905, 66, 67), (904, 905, 69, 70), (904, 905, 78, 79), (904, 905, 93, 94), (904, 905, 99, 100), (904, 905, 100, 101), (904, 905, 101, 102), (950, 951, 0, 100000), (951, 952, 0, 100000), (952, 953, 0, 100000), (953, 954, 0, 100000), (954, 955, 0, 100000), (955, 956, 0, 100000), (956, 957, 0, 100000), (957, 958, 0, 100000), (958, 959, 0, 100000), (959, 960, 0, 100000), (960, 961, 0, 100000), (961, 962, 0, 100000), (962, 963, 0, 100000)]

