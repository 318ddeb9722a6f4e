section
/-! the grammar never goes past the dot -/
/-- the sentence ends at N -/
def EN7 (T : Int → Int) (N : Int) : Prop := (T N = 103 ∨ T N = 107) ∧ ∀ i, N < i → T i = 107
def UB (N : Int) (g : Int → Int × Int) : Prop := ∀ a, a ≤ N → (g a).2 ≤ N
theorem en_lt {T : Int → Int} {N a : Int} (h : EN7 T N) (ha : a ≤ N) (t : T a ≠ 103) (u : T a ≠ 107) : a + 1 ≤ N := by
  by_cases q : a = N
  · rw [q] at t u
    rcases h.1 with w | w
    · exact absurd w t
    · exact absurd w u
  · omega
theorem ub_T {T : Int → Int} {N k : Int} (h : EN7 T N) (h1 : k ≠ 103) (h2 : k ≠ 107) : UB N (gT T k) := fun a ha => by
  unfold gT
  by_cases q : T a = k
  · rw [if_pos q]; exact en_lt h ha (by omega) (by omega)
  · rw [if_neg q]; exact ha
theorem ub_A {T : Int → Int} {N : Int} (h : EN7 T N) : UB N (gA T) := fun a ha => by
  unfold gA
  by_cases q : art7 (T a)
  · rw [if_pos q]; unfold art7 at q; exact en_lt h ha (by omega) (by omega)
  · rw [if_neg q]; exact ha
theorem ub_re {T : Int → Int} {N a : Int} (h : EN7 T N) (ha : a ≤ N) : re7 T a ≤ N := by
  by_cases q : re7 T a ≤ N
  · exact q
  · have t := re_in (T := T) (a := a) (j := N) ha (by omega)
    have := h.1; omega
theorem ub_R {T : Int → Int} {N : Int} (h : EN7 T N) : UB N (gR T) := fun a ha => ub_re h ha
theorem ub_bA {T : Int → Int} {N a : Int} (h : EN7 T N) (ha : a ≤ N) : bA T a ≤ N := by
  rcases bA_c (T := T) (a := a) with ⟨e, _⟩ | ⟨e, q⟩
  · omega
  · unfold art7 at q
    have := en_lt h ha (by omega) (by omega)
    omega
theorem ub_N {T : Int → Int} {N : Int} (h : EN7 T N) : UB N (gN T) := fun a ha => ub_re h (ub_bA h ha)
theorem ub_sq {N : Int} {x : Int × Int} {f : Int → Int × Int} (h : x.2 ≤ N) (k : UB N f) : (gSq x f).2 ≤ N := by
  unfold gSq
  split
  · exact h
  · exact k _ h
theorem ub_or {N : Int} {x : Int × Int} {f : Int → Int × Int} (h : x.2 ≤ N) (k : UB N f) : (gOr x f).2 ≤ N := by
  unfold gOr
  split
  · exact k _ h
  · exact h
theorem ub_Be {T : Int → Int} {N : Int} (h : EN7 T N) : UB N (gBe T) := fun a ha => ub_or (ub_T h (by decide) (by decide) a ha) (ub_T h (by decide) (by decide))
theorem ub_How {T : Int → Int} {N : Int} (h : EN7 T N) : UB N (gHow T) := fun a ha => ub_or (ub_T h (by decide) (by decide) a ha) (ub_T h (by decide) (by decide))
theorem ub_Bt {T : Int → Int} {N : Int} (h : EN7 T N) : UB N (gBt T) := fun a ha => by
  have t := ub_T (k := 104) h (by decide) (by decide) a ha
  have u := ub_T (k := 16) h (by decide) (by decide) _ t
  unfold gBt
  split
  · exact u
  · exact u
theorem ub_Ln {T : Int → Int} {N : Int} (h : EN7 T N) : ∀ n, UB N (gLn T n)
  | 0, a, ha => ha
  | n + 1, a, ha => by
    have t := ub_Bt h a ha
    have u := ub_N h _ t
    unfold gLn
    split
    · exact t
    · split
      · exact u
      · exact ub_Ln h n _ u
theorem ub_Ls {T : Int → Int} {N : Int} (h : EN7 T N) : UB N (gLs T) := fun a ha => by
  have u := ub_N h _ ha
  unfold gLs
  split
  · exact u
  · exact ub_Ln h _ _ u
theorem ub_Rn {T : Int → Int} {N : Int} (h : EN7 T N) : ∀ n, UB N (gRn T n)
  | 0, a, ha => ha
  | n + 1, a, ha => by
    have t := ub_Bt h a ha
    have u := ub_R h _ t
    unfold gRn
    split
    · exact t
    · split
      · exact u
      · exact ub_Rn h n _ u
theorem ub_Th {T : Int → Int} {N : Int} (h : EN7 T N) : UB N (gTh T) := fun a ha => by
  refine ub_or (ub_or (ub_T h (by decide) (by decide) a ha) (ub_T h (by decide) (by decide))) (fun b hb => ?_)
  show (if T b = 2 then gOr (gT T 53 (bA T b)) (gR T) else gN T b).2 ≤ N
  split
  · exact ub_or (ub_T h (by decide) (by decide) _ (ub_bA h hb)) (ub_R h)
  · exact ub_N h b hb
theorem ub_Pl {T : Int → Int} {N any a : Int} (h : EN7 T N) (ha : a ≤ N) (p : pl7 (T a)) : (gPl T any a).2 ≤ N := by
  unfold pl7 at p
  have a1 := en_lt h ha (by omega) (by omega)
  unfold gPl
  refine ub_sq ?_ (fun b hb => ?_)
  · split
    · exact ub_T h (by decide) (by decide) _ a1
    · split
      · exact ub_T h (by decide) (by decide) _ a1
      · exact a1
  · show (if any = 0 then gN T b else gTh T b).2 ≤ N
    split
    · exact ub_N h b hb
    · exact ub_Th h b hb
theorem ub_Wh {T : Int → Int} {N : Int} (h : EN7 T N) : UB N (gWh T) := fun a ha => ub_or (ub_or (ub_T h (by decide) (by decide) a ha) (ub_T h (by decide) (by decide))) (ub_R h)
theorem ub_LoF {T : Int → Int} {N x y : Int} (h : EN7 T N) (hx : x ≠ 103 ∧ x ≠ 107) (hy : y ≠ 103 ∧ y ≠ 107) : ∀ (n : Nat) (a : Int), a ≤ N → gLoF T x y n a ≤ N
  | 0, a, ha => ha
  | n + 1, a, ha => by
    unfold gLoF
    split
    · next q => exact ub_LoF h hx hy n (a + 1) (by unfold art7 at q; exact en_lt h ha (by omega) (by omega))
    · exact ha
theorem ub_Lo {T : Int → Int} {N x y : Int} (h : EN7 T N) (hx : x ≠ 103 ∧ x ≠ 107) (hy : y ≠ 103 ∧ y ≠ 107) : UB N (gLo T x y) := fun a ha => ub_LoF h hx hy 5000 a ha
theorem ub_Pt {T : Int → Int} {N now a : Int} (h : EN7 T N) (ha : a ≤ N) (b : bp7 T a) : (gPt T now a).2 ≤ N := by
  obtain ⟨b1, b2, b3⟩ := b
  have a1 := en_lt h ha (by omega) (by omega)
  have r1 := ub_re (a := a + 1) h a1
  have r2 := en_lt h r1 (by omega) (by omega)
  unfold gPt
  refine ub_sq (ub_sq (ub_Th h _ r2) (ub_T h (by decide) (by decide))) (fun c hc => ?_)
  show (if now ≠ 0 then gWh T c else if (gOr (gT T 51 c) (gT T 52)).1 = 0 then gWh T (gT T 6 (gOr (gT T 51 c) (gT T 52)).2).2 else gSq (gT T 50 (gOr (gT T 51 c) (gT T 52)).2) (gT T 101)).2 ≤ N
  have o := ub_or (ub_T (k := 51) h (by decide) (by decide) c hc) (ub_T (k := 52) h (by decide) (by decide))
  split
  · exact ub_Wh h c hc
  · split
    · exact ub_Wh h _ (ub_T h (by decide) (by decide) _ o)
    · exact ub_sq (ub_T h (by decide) (by decide) _ o) (ub_T h (by decide) (by decide))
theorem ub_Tt {T : Int → Int} {N now : Int} (h : EN7 T N) : UB N (gTt T now) := fun a ha => by
  unfold gTt
  split
  · exact ub_Lo h (by decide) (by decide) a ha
  · split
    · next q => exact ub_Pt h ha q
    · refine ub_sq (ub_sq (ub_Th h a ha) (ub_T h (by decide) (by decide))) (fun b hb => ?_)
      have t := ub_T (k := 6) h (by decide) (by decide) b hb
      show (if now = 0 ∧ pl7 (T (gT T 6 b).2) then gPl T 1 (gT T 6 b).2 else gR T (gT T 6 b).2).2 ≤ N
      split
      · next q => exact ub_Pl h t q.2
      · exact ub_R h _ t
theorem ub_Tsn {T : Int → Int} {N : Int} (h : EN7 T N) : ∀ n, UB N (gTsn T n)
  | 0, a, ha => ha
  | n + 1, a, ha => by
    have t := ub_T (k := 16) h (by decide) (by decide) a ha
    have u := ub_Tt (now := 0) h _ t
    unfold gTsn
    split
    · exact t
    · split
      · exact u
      · exact ub_Tsn h n _ u
theorem ub_Ts {T : Int → Int} {N : Int} (h : EN7 T N) : UB N (gTs T) := fun a ha => by
  have u := ub_Tt (now := 0) h _ ha
  unfold gTs
  split
  · exact u
  · exact ub_Tsn h _ _ u
theorem ub_Ac {T : Int → Int} {N : Int} (h : EN7 T N) : UB N (gAc T) := fun a ha => by
  unfold gAc
  refine ub_sq (ub_R h a ha) (fun b hb => ?_)
  have t := ub_A h b hb
  show (if (gA T b).1 = 0 then (1, (gA T b).2) else gR T (gA T b).2).2 ≤ N
  split
  · exact t
  · exact ub_R h _ t
theorem ub_Ph {T : Int → Int} {N : Int} (h : EN7 T N) : UB N (gPh T) := fun a ha => by
  have t1 := ub_T (k := 43) h (by decide) (by decide) a ha
  have t2 := ub_T (k := 45) h (by decide) (by decide) _ t1
  have t3 := ub_or (ub_T (k := 46) h (by decide) (by decide) _ t2) (ub_T (k := 47) h (by decide) (by decide))
  have t4 := ub_T (k := 49) h (by decide) (by decide) _ t3
  unfold gPh
  split
  · exact ub_T h (by decide) (by decide) _ t1
  · split
    · exact ub_sq (ub_sq (ub_Th h _ t2) (ub_T h (by decide) (by decide))) (ub_Th h)
    · split
      · exact ub_sq (ub_sq (ub_sq (ub_sq (ub_sq (ub_T h (by decide) (by decide) _ t3) (ub_R h)) (ub_T h (by decide) (by decide))) (ub_Th h)) (ub_T h (by decide) (by decide))) (ub_T h (by decide) (by decide))
      · split
        · refine ub_sq (ub_R h _ t4) (fun b hb => ?_)
          show (if th7 (T b) then gTh T b else (1, b)).2 ≤ N
          split
          · exact ub_Th h b hb
          · exact hb
        · exact ub_T h (by decide) (by decide) _ t4
theorem ub_P1 {T : Int → Int} {N : Int} (h : EN7 T N) : UB N (gP1 T) := fun a ha => by
  have t1 := ub_T (k := 44) h (by decide) (by decide) a ha
  unfold gP1
  split
  · exact ub_Ph h _ t1
  · exact ub_Tt h _ t1
theorem ub_Psn {T : Int → Int} {N : Int} (h : EN7 T N) : ∀ n, UB N (gPsn T n)
  | 0, a, ha => ha
  | n + 1, a, ha => by
    have t := ub_T (k := 105) h (by decide) (by decide) a ha
    have u := ub_P1 h _ t
    unfold gPsn
    split
    · exact t
    · split
      · exact u
      · exact ub_Psn h n _ u
theorem ub_Ps {T : Int → Int} {N : Int} (h : EN7 T N) : UB N (gPs T) := fun a ha => by
  have u := ub_P1 h _ ha
  unfold gPs
  split
  · exact u
  · exact ub_Psn h _ _ u
/-- a fault of the grammar lies in the sentence -/
theorem ub_e {T : Int → Int} {N b : Int} {x : Int × Int} (h : x.2 ≤ N) (e : gSq x (gT T 103) = (0, b)) : b ≤ N := by
  unfold gSq at e
  by_cases q : x.1 = 0
  · rw [if_pos q] at e; rw [e] at h; exact h
  · rw [if_neg q] at e
    unfold gT at e
    by_cases w : T x.2 = 103
    · rw [if_pos w] at e; cases e
    · rw [if_neg w] at e; cases e; exact h
theorem ub_s0 {N b : Int} {x : Int × Int} {f : Int → Int × Int} (h : x.2 ≤ N) (e : gSq x f = (0, b)) (k : ∀ a, a ≤ N → f a = (0, b) → b ≤ N) : b ≤ N := by
  unfold gSq at e
  by_cases q : x.1 = 0
  · rw [if_pos q] at e; rw [e] at h; exact h
  · rw [if_neg q] at e; exact k _ h e
theorem ub_t0 {T : Int → Int} {N b c : Int} (h : c ≤ N) (e : gT T 103 c = (0, b)) : b ≤ N := by
  unfold gT at e
  by_cases w : T c = 103
  · rw [if_pos w] at e; cases e
  · rw [if_neg w] at e; cases e; exact h
theorem ub_ckT {T : Int → Int} {N a b : Int} (h : EN7 T N) (ha : a ≤ N) (e : ckT T a = (0, b)) : b ≤ N := by
  unfold ckT at e
  have st : T a ≠ 103 → T a ≠ 107 → a + 1 ≤ N := en_lt h ha
  split at e
  · next q =>
    have a1 := st (by omega) (by omega)
    have a2 := en_lt h a1 (by omega) (by omega)
    have t := ub_T (k := 7) h (by decide) (by decide) (a + 2) (by omega)
    refine ub_e ?_ e
    split
    · exact t
    · exact ub_or (ub_T h (by decide) (by decide) _ t) (ub_N h)
  · split at e
    · next q =>
      have a1 := st (by omega) (by omega)
      have a2 := en_lt h a1 (by omega) (by omega)
      have t := ub_T (k := 28) h (by decide) (by decide) (a + 2) (by omega)
      refine ub_e ?_ e
      split
      · exact t
      · exact ub_sq (ub_sq (ub_T h (by decide) (by decide) _ t) (ub_T h (by decide) (by decide))) (ub_R h)
    · split at e
      · next q =>
        unfold art7 at q
        have a1 := st (by omega) (by omega)
        refine ub_e (ub_sq (ub_R h _ a1) (fun c hc => ?_)) e
        show (if pl7 (T c) then gPl T 0 c else (1, c)).2 ≤ N
        split
        · next p => exact ub_Pl h hc p
        · exact hc
      · split at e
        · next p => exact ub_e (ub_Pl h ha p) e
        · have o := ub_or (ub_T (k := 6) h (by decide) (by decide) a ha) (ub_T (k := 32) h (by decide) (by decide))
          unfold ckR at e
          refine ub_s0 (ub_R h _ o) e (fun c hc e => ?_)
          have e : (if (gOr (gT T 6 a) (gT T 32)).1 ≠ 0 then gT T 103 c else if (gT T 7 c).1 ≠ 0 then gSq (gN T (gT T 7 c).2) (gT T 103) else gSq (gRn T 5000 (gT T 7 c).2) (gT T 103)) = (0, b) := e
          have t7 := ub_T (k := 7) h (by decide) (by decide) c hc
          split at e
          · exact ub_t0 hc e
          · split at e
            · exact ub_e (ub_N h _ t7) e
            · exact ub_e (ub_Rn h _ _ t7) e
theorem ub_chk {T : Int → Int} {N b : Int} (h : EN7 T N) (h0 : 0 ≤ N) (e : chk T = (0, b)) : b ≤ N := by
  have n0 : T 0 ≠ 103 → T 0 ≠ 107 → 1 ≤ N := fun a b => by have := en_lt h h0 a b; omega
  have rl : ∀ x : Int × Int, x.2 ≤ N → rul7 T x = (0, b) → b ≤ N := fun x hx e => by
    unfold rul7 at e
    refine ub_e (ub_sq (ub_sq (ub_sq hx (fun c hc => ?_)) (ub_T h (by decide) (by decide))) (ub_Ps h)) e
    have t := ub_T (k := 37) h (by decide) (by decide) c hc
    show (if (gT T 37 c).1 = 0 then (1, (gT T 37 c).2) else gTs T (gT T 37 c).2).2 ≤ N
    split
    · exact t
    · exact ub_Ts h _ t
  unfold chk at e
  split at e
  · cases e
  · split at e
    · next q => exact ub_e (ub_sq (ub_sq (ub_T h (by decide) (by decide) _ (n0 (by omega) (by omega))) (ub_T h (by decide) (by decide))) (ub_R h)) e
    · split at e
      · next q => exact ub_e (ub_sq (ub_sq (ub_sq (ub_sq (ub_sq (ub_sq (ub_T h (by decide) (by decide) _ (n0 (by omega) (by omega))) (ub_A h)) (ub_R h)) (ub_T h (by decide) (by decide))) (ub_R h)) (ub_T h (by decide) (by decide))) (ub_Ts h)) e
      · split at e
        · next q => exact rl _ (ub_Ac h _ (n0 (by omega) (by omega))) e
        · split at e
          · next q => exact rl _ (ub_sq (ub_T h (by decide) (by decide) _ (n0 (by omega) (by omega))) (ub_Ac h)) e
          · split at e
            · next q => exact rl _ (ub_T h (by decide) (by decide) _ (n0 (by omega) (by omega))) e
            · unfold ckO at e
              split at e
              · next q =>
                have m1 := n0 (by omega) (by omega)
                have m2 := en_lt h m1 (by omega) (by omega)
                exact ub_e (ub_sq (ub_sq (ub_sq (ub_sq (ub_sq (ub_T h (by decide) (by decide) 2 (by omega)) (ub_R h)) (ub_T h (by decide) (by decide))) (ub_T h (by decide) (by decide))) (ub_R h)) (ub_T h (by decide) (by decide))) e
              · split at e
                · next q =>
                  have m1 := n0 (by omega) (by omega)
                  have m2 := en_lt h m1 (by omega) (by omega)
                  exact ub_e (ub_sq (ub_sq (ub_sq (ub_T h (by decide) (by decide) 2 (by omega)) (ub_N h)) (ub_Be h)) (ub_R h)) e
                · split at e
                  · by_cases bp : bp7 T 0
                    · unfold ckB at e
                      rw [if_pos bp] at e
                      obtain ⟨b1, b2, b3⟩ := bp
                      have b1 : T 0 = 2 := b1
                      have b2 : T 1 = 100 := b2
                      have b3 : T (re7 T 1) = 7 := b3
                      have m1 := n0 (by omega) (by omega)
                      have r1 := ub_re (a := 1) h m1
                      have r2 := en_lt h r1 (by omega) (by omega)
                      exact ub_e (ub_sq (ub_sq (ub_N h _ r2) (ub_Be h)) (ub_Wh h)) e
                    · rw [ckB_e bp] at e
                      exact ub_s0 (ub_sq (ub_Ls h 0 h0) (ub_Be h)) e (fun c hc e => ub_ckT h hc e)
                  · split at e
                    · exact ub_e (ub_sq (ub_sq (ub_sq (ub_sq (ub_sq (ub_N h 0 h0) (ub_T h (by decide) (by decide))) (ub_A h)) (ub_R h)) (ub_T h (by decide) (by decide))) (ub_R h)) e
                    · split at e
                      · exact ub_e (ub_sq (ub_sq (ub_sq (ub_sq (ub_sq (ub_N h 0 h0) (ub_T h (by decide) (by decide))) (ub_T h (by decide) (by decide))) (ub_R h)) (ub_T h (by decide) (by decide))) (ub_R h)) e
                      · split at e
                        · exact ub_e (ub_sq (ub_sq (ub_sq (ub_sq (ub_sq (ub_sq (ub_N h 0 h0) (ub_T h (by decide) (by decide))) (ub_How h)) (ub_R h)) (ub_T h (by decide) (by decide))) (ub_How h)) (ub_R h)) e
                        · exact ub_e (ub_Lo h (by decide) (by decide) 0 h0) e
end
section
/-! a sentence that both read: tokens, kinds of tokens, places -/
theorem tk_mono {X : sS} {n : Nat} (tk : TK X n) : ∀ j i : Nat, i < j → j ≤ n → Xi X 908 i < Xi X 908 j
  | 0, i, h, _ => absurd h (Nat.not_lt_zero i)
  | j + 1, i, h, hj => by
    have s := (tk.2.2.2 j (by omega)).1
    by_cases q : i = j
    · rw [q]; exact s
    · have t := tk_mono tk j i (by omega) (by omega)
      omega
theorem snk_g {V X : sS} {ts f n : Nat} {e z : Int} (x : TXB V X ts n e) (h : SNK V X ts f n e z) (r1 : 1 ≤ Xi V 876 7) : SCX V X f ∧ NVL V ∧ Xi V 876 7 ≤ 5001 ∧ (∀ i j : Int, 0 ≤ i → i < j → j < Xi V 876 7 → pc7 V i < pc7 V j) ∧ (f : Int) + Xi V 876 7 ≤ n + 1 := by
  have n5 := x.2.2.2.2.2.1
  have l := (h.1 (Xi V 876 7 - 1).toNat (by omega)).1
  refine ⟨⟨fun r hr => (h.1 r hr).2.1, by omega⟩, fun j hj q => ?_, by omega, fun i j i0 i1 i2 => ?_, by omega⟩
  · have t := (h.1 j hj).2.2 q
    omega
  · have a := (h.1 i.toNat (by omega)).2.1.1
    have b := (h.1 j.toNat (by omega)).2.1.1
    have c := (h.1 j.toNat (by omega)).1
    have e1 : pc7 V i = Xi V 878 i.toNat := if_pos ⟨by omega, by omega⟩
    have e2 : pc7 V j = Xi V 878 j.toNat := if_pos ⟨by omega, by omega⟩
    rw [e1, e2, ← a, ← b]
    exact tk_mono x.2.2.2.2.2 _ _ (by omega) c
theorem un_t8 {t : Int} (h : 0 ≤ t ∧ t ≤ 108) : un7 (tr7 t) = t := by
  have u := un_tr ⟨t.toNat, by omega⟩
  have e : ((t.toNat : Nat) : Int) = t := by omega
  have u : un7 (tr7 ((t.toNat : Nat) : Int)) = ((t.toNat : Nat) : Int) := u
  rw [e] at u
  exact u
theorem snk_v {V X : sS} {ts f n : Nat} {e z : Int} (x : TXB V X ts n e) (h : SNK V X ts f n e z) (r1 : 1 ≤ Xi V 876 7) (hf : f < n) (l8 : Xi V 877 (Xi V 876 7 - 1).toNat ≠ 108) (t0 : Xi V 877 0 ≠ 102) : VLR X f (Xi V 876 7 - 1).toNat ∧ tR X f (Xi V 876 7 - 1).toNat = ty7 V ∧ LST V ∧ NFR V ∧ EN7 (ty7 V) (Xi V 876 7 - 1) ∧ (Xi V 877 (Xi V 876 7 - 1).toNat = 103 ∨ Xi V 877 (Xi V 876 7 - 1).toNat = 107) := by
  have n5 := x.2.2.2.2.2.1
  have hH := x.1
  have la : Xi V 877 (Xi V 876 7 - 1).toNat = 103 ∨ Xi V 877 (Xi V 876 7 - 1).toNat = 107 := by
    rcases h.2.2 with q | ⟨q, _⟩ | ⟨q | q, _⟩
    · exact absurd q l8
    · exact Or.inr q
    · exact Or.inl q
    · exact absurd q.2.1 t0
  have l := (h.1 (Xi V 876 7 - 1).toNat (by omega)).1
  have tl := (h.1 (Xi V 876 7 - 1).toNat (by omega)).2.1.2.1
  have lst : LST V := fun r hr => ⟨(h.2.1 r hr).1, (h.2.1 r hr).2.1⟩
  refine ⟨⟨fun i hi => ⟨Xi V 877 i, r877 hH i, (h.1 i (by omega)).2.1.2.1⟩, ?_, fun i hi => ?_, by omega⟩, ?_, lst, fun r hr q => ?_, ⟨?_, fun i hi => ty7_o (by omega)⟩, la⟩
  · rw [tl]
    rcases la with q | q <;> rw [q]
    · exact Or.inl rfl
    · exact Or.inr rfl
  · have t := (h.1 i (by omega)).2.1.2.1
    obtain ⟨a, b, _⟩ := h.2.1 i (by omega)
    rw [t]
    have u := tr_46 (r877 hH i)
    exact ⟨fun w => a (u.1.1 w), fun w => b (u.2.1.1 w)⟩
  · funext i
    unfold tR
    by_cases q : 0 ≤ i ∧ i ≤ ((Xi V 876 7 - 1).toNat : Int)
    · rw [if_pos q, ty7_i q.1 (by omega)]
      have t := (h.1 i.toNat (by omega)).2.1.2.1
      rw [show ((f : Int) + i).toNat = f + i.toNat by omega, t]
      exact un_t8 (r877 hH _)
    · rw [if_neg q, ty7_o (by omega)]
  · by_cases u : (r : Int) + 1 < Xi V 876 7
    · have := (h.2.1 r u).2.2.2.1; omega
    · rw [show r = (Xi V 876 7 - 1).toNat by omega] at q
      omega
  · rw [ty7_i (by omega) (by omega)]
    exact la
/-- where the reference looks for what is no token -/
theorem odd_r {V X : sS} {ts f n : Nat} {e z od : Int} (x : TXB V X ts n e) (h : SNK V X ts f n e z) (r1 : 1 ≤ Xi V 876 7) (hf : f < n) (o : ODD7 X f od) : (Xi V 877 (Xi V 876 7 - 1).toNat = 108 → od = f + (Xi V 876 7 - 1)) ∧ (Xi V 877 (Xi V 876 7 - 1).toNat ≠ 108 → od = -1) := by
  have hH := x.1
  have tk0 : Xi X 907 f = tr7 (Xi V 877 0) := (h.1 0 (by omega)).2.1.2.1
  have e0 : ((f : Int)).toNat = f := by omega
  have h5 : Xi X 907 f = 5 ↔ Xi V 877 0 = 102 := by rw [tk0]; exact (tr_46 (r877 hH 0)).2.2.2
  have tl := (h.1 (Xi V 876 7 - 1).toNat (by omega)).2.1.2.1
  have ul := tr_46 (r877 hH (Xi V 876 7 - 1).toNat)
  have no : Xi V 877 0 = 102 → Xi V 877 (Xi V 876 7 - 1).toNat ≠ 108 := fun w => by
    by_cases q : Xi V 876 7 = 1
    · rw [show (Xi V 876 7 - 1).toNat = 0 by omega]; omega
    · obtain ⟨a, b⟩ := (h.2.1 0 (by omega)).2.2.2.2 rfl w
      rw [show (Xi V 876 7 - 1).toNat = 1 by omega]; omega
  rcases o with ⟨o1, o2⟩ | ⟨o1, k, k0, k1, k2, k3, k4⟩
  · rw [e0] at o1
    exact ⟨fun w => absurd w (no (h5.1 o1)), fun _ => o2⟩
  · rw [e0] at o1
    have t0 : Xi V 877 0 ≠ 102 := fun w => o1 (h5.2 w)
    -- the first dot, end or what is no token is the last row
    have la : Xi V 877 (Xi V 876 7 - 1).toNat = 103 ∨ Xi V 877 (Xi V 876 7 - 1).toNat = 107 ∨ Xi V 877 (Xi V 876 7 - 1).toNat = 108 := by
      rcases h.2.2 with q | ⟨q, _⟩ | ⟨q | q, _⟩
      · exact Or.inr (Or.inr q)
      · exact Or.inr (Or.inl q)
      · exact Or.inl q
      · exact absurd q.2.1 t0
    have ek : k = f + (Xi V 876 7 - 1) := by
      rcases (by omega : k < f + (Xi V 876 7 - 1) ∨ k = f + (Xi V 876 7 - 1) ∨ (f : Int) + (Xi V 876 7 - 1) < k) with q | q | q
      · exfalso
        have t := (h.1 (k - f).toNat (by omega)).2.1.2.1
        obtain ⟨a, b, c, _⟩ := h.2.1 (k - f).toNat (by omega)
        have u := tr_46 (r877 hH (k - f).toNat)
        rw [show f + (k - f).toNat = k.toNat by omega] at t
        rw [t] at k2
        rcases k2 with w | w | w
        · exact a (u.1.1 w)
        · exact b (u.2.1.1 w)
        · exact c (u.2.2.1.1 w)
      · exact q
      · exfalso
        have t := k1 (f + (Xi V 876 7 - 1)) (by omega) q
        rw [show ((f : Int) + (Xi V 876 7 - 1)).toNat = f + (Xi V 876 7 - 1).toNat by omega, tl] at t
        rcases la with w | w | w
        · exact t.1 (ul.1.2 w)
        · exact t.2.1 (ul.2.1.2 w)
        · exact t.2.2 (ul.2.2.1.2 w)
    have kl : Xi X 907 k.toNat = tr7 (Xi V 877 (Xi V 876 7 - 1).toNat) := by rw [← tl, show k.toNat = f + (Xi V 876 7 - 1).toNat by omega]
    refine ⟨fun w => ?_, fun w => ?_⟩
    · rw [← ek]; exact k3 (by rw [kl]; exact ul.2.2.1.2 w)
    · exact k4 (fun y => w (ul.2.2.1.1 (by rw [← kl]; exact y)))
/-- all that was told stays while nothing is told -/
def cAU : List (Nat × Nat) := [(2, 20), (21, 24), (25, 65), (66, 106), (107, 147), (148, 188), (189, 195), (196, 220), (221, 876), (883, 888), (902, 904)]
def cAv : List (Nat × Nat) := [(1, 3), (20, 1), (20, 12), (891, 10), (882, 3)]
def cAS : List (Nat × Nat) := [(906, 907), (912, 950), (969, 988)]
def cAw : List (Nat × Nat) := [(904, 15), (904, 16), (904, 18), (904, 19), (904, 23), (904, 30), (904, 32), (904, 41), (904, 47), (904, 49), (904, 51), (904, 60), (904, 55), (904, 117), (904, 125), (904, 130)]
theorem rla_k {U U1 S S1 : sS} (a : RLA U S) (k : KEP cAU cAv U U1) (q : KEP cAS cAw S S1) : RLA U1 S1 := by
  obtain ⟨h, t3, cm, bk, df, ru⟩ := a
  have h1 : RLW U1 S1 := h.k t3 (k.le rfl (by decide)) (q.le rfl (by decide))
  have g : GR S1 S := gr_k (q.le rfl (by decide))
  have q3 : ∀ k j : Nat, k = 973 ∨ k = 974 → (j : Int) < Xi S 904 117 → Xi S1 k j = Xi S k j := fun c j e _ => by
    rcases e with e | e <;> rw [e]
    · exact q.x 973 rfl j
    · exact q.x 974 rfl j
  obtain ⟨x1, x2, x3⟩ := grow_r h h1 t3 g (k.le rfl (by decide)) (q.le rfl (by decide)) q3 (na_0 h (q.f 904 23 (by decide)) h1) bk df ru
  refine ⟨h1, ?_, grow_c h h1 g (k.le rfl (by decide)) (q.le rfl (by decide)) (fun _ _ _ => isKn_s7 (k.x 6 rfl)) cm, x1, x2, x3⟩
  unfold TX3
  rw [txr_k k (by decide)]
  exact t3
end
section
/-! what the class's rows want, of sentences of 9 to 20 -/
def CEV (V X : sS) (ts f : Nat) : Prop := RLA V X ∧ (HI V ∧ WI V) ∧ (TOK V ∧ SRX V ∧ txr V = ts ∧ NVL V) ∧ SCX V X f ∧ (1 ≤ Xi V 876 7 ∧ Xi V 876 7 ≤ 5001 ∧ Xi V 876 6 = Xi V 876 7) ∧ (Xi V 876 8 = 0 ∧ Xi V 891 9 = 0)
theorem cev_13 {V X : sS} {ts f : Nat} (c : CEV V X ts f) : (0 ≤ Xi V 1 3 ∧ Xi V 1 3 ≤ 200) ∧ Xi V 1 3 < 199 ∧ Xi V 1 3 ≤ 196 := by
  have e := ent_b c.1.1
  exact ⟨by omega, by omega, e.2⟩
theorem cev_nb {V X : sS} {ts f : Nat} (c : CEV V X ts f) : NRB V := fun i hi => by
  have := c.2.2.2.2.2.2
  omega
theorem cev_pl {V X : sS} {ts f : Nat} (c : CEV V X ts f) : ∀ j : Nat, 0 ≤ Xi V 878 j := fun j => (c.2.1.1.c 878 j).1
theorem cev_5 {V X : sS} {ts f : Nat} (c : CEV V X ts f) : Xi V 876 5 ≤ 5000 := (c.2.1.1.c 876 5).2
theorem cev_mk {V X : sS} {ts f : Nat} (c : CEV V X ts f) : MK15 V := fun a b q => by
  have h := c.1.1
  have ct := h.2.2.1.1
  have e : fnd V 0 a b = mnV V a b % 256 := by unfold fnd; rw [if_pos q]
  have m := Int.emod_nonneg (mnV V a b) (show (256 : Int) ≠ 0 by decide)
  have w := fnd_wc (U := V) (s := 0) (a := a) (b := b) (by decide) h.1.2.2.1 h.2.1 (by rw [e]; omega)
  have w2 : fnd V 0 a b < Xi V 5 0 := w.2
  omega
theorem cev_w2 {V X : sS} {ts f : Nat} (c : CEV V X ts f) : WH2 V := fun j hj q => by
  have w := c.1.1.2.1 j hj
  rw [q] at w
  exact w
theorem cev_wd {V X : sS} {ts f : Nat} (c : CEV V X ts f) : WRB V := fun j q => by
  obtain ⟨h0, h1, h2⟩ := ty_row q
  have t := (c.2.2.2.1.1 j.toNat (by omega)).2.2.1 h2
  have u := t.1
  unfold wdC at u
  omega
theorem fn1_i {V : sS} (h : ty7 V (bA (ty7 V) 0) = 100) : FN1 V := by
  rcases bA_c (T := ty7 V) (a := 0) with ⟨e, _⟩ | ⟨e, q⟩
  · rw [e] at h
    unfold FN1
    rw [e]
    exact ⟨⟨h, Or.inl rfl⟩, rfl, by decide⟩
  · rw [e] at h
    unfold FN1
    rw [e]
    have n : ty7 V 0 ≠ 100 := by unfold art7 at q; omega
    refine ⟨⟨h, Or.inr n⟩, ?_, by decide⟩
    show cR (ty7 V) 0 + (if bg7 (ty7 V) ((0 : Nat) : Int) then 1 else 0) = 0
    rw [if_neg (fun w => n w.1)]
    rfl
theorem lok_cm {c M : Int} {V : sS} {n : Nat} (l : LOK V c M n) (h : c ≤ M) : c + n ≤ M := by
  by_cases q : n = 0
  · omega
  · have t := (l (n - 1) (by omega)).2
    omega
theorem loko_cm {o : Nat} {c M : Int} {V : sS} {n : Nat} (l : LOKo o V c M n) (h : c ≤ M) : c + n ≤ M := by
  by_cases q : n = 0
  · omega
  · have t := (l (n - 1) (by omega)).2
    omega
/-- a TYPE that words mean -/
theorem tmc_lt {V X : sS} {a e : Int} (h : RLW V X) (q : 1 < tmC V a e) : tmC V a e < Xi V 5 1 := by
  unfold tmC at q ⊢
  split
  · next w =>
    rcases w with w | w
    · have z : fnd V 1 a e = mnV V a e % 256 := by unfold fnd; rw [if_pos w]
      have u := fnd_wc (U := V) (s := 1) (a := a) (b := e) (by decide) h.1.2.2.1 h.2.1 (by rw [z]; have := Int.emod_nonneg (mnV V a e) (show (256 : Int) ≠ 0 by decide); omega)
      rw [← z]; exact u.2
    · have z : fnd V 12 a e = mnV V a e % 256 := by unfold fnd; rw [if_pos w]
      have u := fnd_wc (U := V) (s := 12) (a := a) (b := e) (by decide) h.1.2.2.1 h.2.1 (by rw [z]; have := Int.emod_nonneg (mnV V a e) (show (256 : Int) ≠ 0 by decide); omega)
      rw [← z]; exact u.2
  · next w => rw [if_neg w] at q; omega
section
variable {V X : sS} {ts f : Nat}
theorem pr_9 (c : CEV V X ts f) (ht : 0 ≤ Xi V 890 3 ∧ Xi V 890 3 ≤ 5125) : P_re_tellProperty V := ⟨(cev_13 c).1, c.1.1.1.2.2.1, c.2.2.1.1, c.2.2.1.2.1, c.2.2.1.2.2.2, by have := c.2.2.2.2.1; omega, ht, c.2.2.2.2.2.1, c.2.1.2.2.1, cev_pl c, cev_5 c, cev_mk c⟩
theorem pr_10 (c : CEV V X ts f) (ht : 0 ≤ Xi V 890 3 ∧ Xi V 890 3 ≤ 5125) : P_re_tellKinds V := by
  have e := ent_le c.1.1
  have ct := c.1.1.2.2.1
  have tb := tyb_rg (S := V)
  unfold RCT at ct
  have cc : c10 V = if tyB V = 0 then Xi V 5 0 else Xi V 5 1 := by
    unfold c10
    rcases (by omega : tyB V = 0 ∨ tyB V = 1) with q | q
    · rw [if_pos q, q]; rfl
    · rw [if_neg (by omega), q]; rfl
  have cb : 0 ≤ c10 V ∧ c10 V ≤ 16 - 8 * tyB V := by
    rw [cc]
    split <;> omega
  refine ⟨(cev_13 c).1, c.1.1.1.2.2.1, cev_nb c, c.2.2.2.2.2.1, by have := c.2.2.2.2.1; omega, ht, c.2.2.2.2.2.2, (cev_13 c).2.1, cb, cev_wd c, fun l => ?_⟩
  have t := lok_cm l cb.2
  rw [cc] at t
  split at t <;> omega
theorem pr_11 (c : CEV V X ts f) (ht : 0 ≤ Xi V 890 3 ∧ Xi V 890 3 ≤ 5125) : P_re_tellActions V := by
  have e := ent_le c.1.1
  have ct := c.1.1.2.2.1
  unfold RCT at ct
  refine ⟨(cev_13 c).1, c.1.1.1.2.2.1, cev_nb c, c.2.2.2.2.2.1, by have := c.2.2.2.2.1; omega, ht, c.2.2.2.2.2.2, (cev_13 c).2.1, by omega, fun l => ?_⟩
  have t := lok_cm l (by omega)
  omega
theorem pr_12 (c : CEV V X ts f) (ht : 0 ≤ Xi V 890 3 ∧ Xi V 890 3 ≤ 5125) (w : Xi V 891 11 = 0) : P_re_tellObjects V := by
  have e := ent_le c.1.1
  have ct := c.1.1.2.2.1
  unfold RCT at ct
  exact ⟨(cev_13 c).1, c.1.1.1.2.2.1, cev_nb c, c.2.2.2.2.2.1, by have := c.2.2.2.2.1; omega, ht, c.2.2.2.2.2.2, (cev_13 c).2.1, c.2.1.2.2.1, cev_w2 c, by omega, by omega, w, by have t : 0 ≤ Xi V 895 14 ∧ Xi V 895 14 ≤ 5 := c.2.1.1.c _ _; omega, fun i _ => c.2.1.1.c 897 i⟩
theorem pr_14 (c : CEV V X ts f) (ht : 0 ≤ Xi V 890 3 ∧ Xi V 890 3 ≤ 5125) (fn : FN1 V) (ho : o14 V < Xi V 876 7) : P_re_tellWay V := by
  have ct := c.1.1.2.2.1
  have wy := c.1.1.2.2.2.2.2.2.2.2.2.2.2.2.2.1.1
  unfold RCT at ct
  refine ⟨(cev_13 c).1, c.1.1.1.2.2.1, cev_nb c, c.2.2.2.2.2.1, by have := c.2.2.2.2.1; omega, ht, c.2.2.2.2.2.2, (cev_13 c).2.1, fn, by omega, by omega, ?_, ho⟩
  show fnd V 2 (l14 V) (re7 (ty7 V) (l14 V)) ≤ 23
  by_cases q : fnd V 2 (l14 V) (re7 (ty7 V) (l14 V)) = -1
  · omega
  · have w := fnd_wc (U := V) (s := 2) (by decide) c.1.1.1.2.2.1 c.1.1.2.1 q
    have w2 : fnd V 2 (l14 V) (re7 (ty7 V) (l14 V)) < Xi V 5 2 := w.2
    omega
theorem pr_v (c : CEV V X ts f) (ht : 0 ≤ Xi V 890 3 ∧ Xi V 890 3 ≤ 5125) (fn : FN1 V) (hr : Xi V 890 3 + 1 < Xi V 876 7) : P_re_tellValues V := by
  have e := ent_le c.1.1
  have ct := c.1.1.2.2.1
  have ty := c.1.1.2.2.2.2.1
  unfold RCT at ct
  have vc : ∀ t : Int, cvC V t (Xi V 5 4).toNat ≤ 8 := fun t => by
    have u := ty.2.2.2 t
    unfold vals at u
    rw [vals_c] at u
    exact u
  have c8 : cV5 V ≤ 8 := vc _
  refine ⟨(cev_13 c).1, c.1.1.1.2.2.1, cev_nb c, c.2.2.2.2.2.1, by have := c.2.2.2.2.1; omega, ht, c.2.2.2.2.2.2, (cev_13 c).2.1, fn, by omega, fun l => ?_, fun t2 l => ?_, hr⟩
  · have cb := cvC_b (S := V) (tp := tV5 V) (Xi V 5 4).toNat
    have cd : cV5 V = cvC V (tV5 V) (Xi V 5 4).toNat := rfl
    have t := loko_cm l c8
    omega
  · have t := loko_cm l c8
    have sm := cvC_sum (U := V) (Xi V 5 4).toNat (fun i hi => by
      obtain ⟨_, a, b⟩ := ty.1 i (by omega)
      omega)
    have cd : cV5 V = cvC V (tV5 V) (Xi V 5 4).toNat := rfl
    have t7 : tV5 V ≤ 7 := by
      have u : tV5 V < Xi V 5 1 := by
        unfold tV5 tv5 at t2 ⊢
        split
        · next q => exact tmc_lt c.1.1 q
        · omega
      omega
    have v2 := vc 2
    have v3 := vc 3
    have v4 := vc 4
    have v5 := vc 5
    have v6 := vc 6
    have v7 := vc 7
    have h48 : Xi V 5 4 + nV5 V ≤ 48 := by
      rcases (by omega : tV5 V = 2 ∨ tV5 V = 3 ∨ tV5 V = 4 ∨ tV5 V = 5 ∨ tV5 V = 6 ∨ tV5 V = 7) with q | q | q | q | q | q <;> (rw [q] at cd; omega)
    omega
theorem pr_17 (c : CEV V X ts f) (ht : 0 ≤ Xi V 890 3 ∧ Xi V 890 3 ≤ 5125) (ho : re7 (ty7 V) (Xi V 890 3 + 2) < Xi V 876 7) : P_re_tellHas V := by
  have ct := c.1.1.2.2.1
  unfold RCT at ct
  exact ⟨(cev_13 c).1, c.1.1.1.2.2.1, cev_nb c, c.2.2.2.2.2.1, by have := c.2.2.2.2.1; omega, ht, c.2.2.2.2.2.2, (cev_13 c).2.1, ho, by omega⟩
theorem pr_18 (c : CEV V X ts f) (ht : 0 ≤ Xi V 890 3 ∧ Xi V 890 3 ≤ 5125) (ho : re7 (ty7 V) (Xi V 890 3 + 2) < Xi V 876 7) : P_re_tellCan V := by
  have ct := c.1.1.2.2.1
  unfold RCT at ct
  exact ⟨(cev_13 c).1, c.1.1.1.2.2.1, cev_nb c, c.2.2.2.2.2.1, by have := c.2.2.2.2.1; omega, ht, c.2.2.2.2.2.2, (cev_13 c).2.1, ho, by omega⟩
theorem pr_19 (c : CEV V X ts f) (ht : 0 ≤ Xi V 890 3 ∧ Xi V 890 3 ≤ 5125) (ho : re7 (ty7 V) (Xi V 890 3 + 2) + 2 ≤ Xi V 876 7) : P_re_tellRelation V := by
  have ct := c.1.1.2.2.1
  unfold RCT at ct
  exact ⟨(cev_13 c).1, c.1.1.1.2.2.1, cev_nb c, c.2.2.2.2.2.1, by have := c.2.2.2.2.1; omega, ht, c.2.2.2.2.2.2, (cev_13 c).2.1, ho, by omega⟩
theorem pr_20 (c : CEV V X ts f) : P_re_tellLoose V := by
  have ct := c.1.1.2.2.1
  have va := c.1.1.2.2.2.2.2.2.2.2.1.1
  unfold RCT at ct
  refine ⟨(cev_13 c).1, c.1.1.1.2.2.1, c.2.2.2.2.2.1, by have := c.2.2.2.2.1; omega, cev_w2 c, by omega, by have := c.2.2.2.2.1; omega, fun n q => ?_⟩
  unfold vbL at q ⊢
  by_cases w : ty7 V n = 100
  · rw [if_pos w] at q ⊢
    have b : 0 ≤ fnd V (if fl7 (ty7 V) (n + 1) ≠ 0 then 7 else 13) n (n + 1) ∧ fnd V (if fl7 (ty7 V) (n + 1) ≠ 0 then 7 else 13) n (n + 1) < Xi V 5 7 := by
      by_cases u : fl7 (ty7 V) (n + 1) ≠ 0
      · rw [if_pos u] at q ⊢
        exact fnd_wc (U := V) (s := 7) (by decide) c.1.1.1.2.2.1 c.1.1.2.1 q
      · rw [if_neg u] at q ⊢
        exact fnd_wc (U := V) (s := 13) (by decide) c.1.1.1.2.2.1 c.1.1.2.1 q
    have t := va (fnd V (if fl7 (ty7 V) (n + 1) ≠ 0 then 7 else 13) n (n + 1)).toNat (by omega)
    omega
  · rw [if_neg w] at q; exact absurd rfl q
theorem pr_15u (c : CEV V X ts f) (ht : 0 ≤ Xi V 890 3 ∧ Xi V 890 3 ≤ 5125) (fn : FN1 V) : P_re_tellUsually V := ⟨(cev_13 c).1, c.1.1.1.2.2.1, c.2.2.2.2.2.1, by have := c.2.2.2.2.1; omega, ht, c.2.1.2.2.1, fn, cev_mk c⟩
theorem pr_15p (c : CEV V X ts f) (ht : 0 ≤ Xi V 890 3 ∧ Xi V 890 3 ≤ 5125) : P_re_tellPlain V := by
  have e := ent_le c.1.1
  have ct := c.1.1.2.2.1
  unfold RCT at ct
  exact ⟨(cev_13 c).1, c.1.1.1.2.2.1, cev_nb c, c.2.2.2.2.2.1, by have := c.2.2.2.2.1; omega, ht, c.2.2.2.2.2.2, (cev_13 c).2.1, c.2.1.2.2.1, cev_w2 c, by omega, by omega⟩
theorem pr_15s (c : CEV V X ts f) (ht : 0 ≤ Xi V 890 3 ∧ Xi V 890 3 ≤ 5125) (fn : FN1 V) : P_re_tellsValues V := ⟨(cev_13 c).1, c.1.1.1.2.2.1, by have := c.2.2.2.2.1; omega, ht, fn⟩
end

/-! the bundles of premises and posts, case by case -/
theorem akp_0 {S : sS} {dd : Nat} {first : Int} (c : Xi S 904 70 = 0) (p : PX_mo_asked_0 S first) : AKP S dd first := ⟨⟨by omega, by omega⟩, fun _ => p, fun q => absurd q (by omega), fun q => absurd q (by omega), fun q => absurd q (by omega), fun q => absurd q (by omega), fun q => absurd q (by omega), fun q => absurd q (by omega), fun q => absurd q (by omega), fun q => absurd q (by omega), fun q => absurd q (by omega), fun q => absurd q (by omega), fun q => absurd q (by omega), fun q => absurd q (by omega), fun q => absurd q (by omega), fun q => absurd q (by omega), fun q => absurd q (by omega), fun q => absurd q (by omega), fun q => absurd q (by omega), fun q => absurd q (by omega), fun q => absurd q (by omega)⟩
theorem akq_0 {S S1 : sS} {dd : Nat} {first : Int} (h : AKQ S S1 dd first) (c : Xi S 904 70 = 0) : QX_mo_asked_0 S S1 first := h.1 c
theorem akp_1 {S : sS} {dd : Nat} {first : Int} (c : Xi S 904 70 = 1) (p : PX_mo_asked_1 S first) : AKP S dd first := ⟨⟨by omega, by omega⟩, fun q => absurd q (by omega), fun _ => p, fun q => absurd q (by omega), fun q => absurd q (by omega), fun q => absurd q (by omega), fun q => absurd q (by omega), fun q => absurd q (by omega), fun q => absurd q (by omega), fun q => absurd q (by omega), fun q => absurd q (by omega), fun q => absurd q (by omega), fun q => absurd q (by omega), fun q => absurd q (by omega), fun q => absurd q (by omega), fun q => absurd q (by omega), fun q => absurd q (by omega), fun q => absurd q (by omega), fun q => absurd q (by omega), fun q => absurd q (by omega), fun q => absurd q (by omega)⟩
theorem akq_1 {S S1 : sS} {dd : Nat} {first : Int} (h : AKQ S S1 dd first) (c : Xi S 904 70 = 1) : QX_mo_asked_1 S S1 first := h.2.1 c
theorem akp_2 {S : sS} {dd : Nat} {first : Int} (c : Xi S 904 70 = 2) (p : PX_mo_asked_2 S first) : AKP S dd first := ⟨⟨by omega, by omega⟩, fun q => absurd q (by omega), fun q => absurd q (by omega), fun _ => p, fun q => absurd q (by omega), fun q => absurd q (by omega), fun q => absurd q (by omega), fun q => absurd q (by omega), fun q => absurd q (by omega), fun q => absurd q (by omega), fun q => absurd q (by omega), fun q => absurd q (by omega), fun q => absurd q (by omega), fun q => absurd q (by omega), fun q => absurd q (by omega), fun q => absurd q (by omega), fun q => absurd q (by omega), fun q => absurd q (by omega), fun q => absurd q (by omega), fun q => absurd q (by omega), fun q => absurd q (by omega)⟩
theorem akq_2 {S S1 : sS} {dd : Nat} {first : Int} (h : AKQ S S1 dd first) (c : Xi S 904 70 = 2) : QX_mo_asked_2 S S1 first := h.2.2.1 c
theorem akp_3 {S : sS} {dd : Nat} {first : Int} (c : 3 ≤ Xi S 904 70 ∧ Xi S 904 70 ≤ 6) (p : PX_mo_asked_3 S first) : AKP S dd first := ⟨⟨by omega, by omega⟩, fun q => absurd q (by omega), fun q => absurd q (by omega), fun q => absurd q (by omega), fun _ => p, fun q => absurd q (by omega), fun q => absurd q (by omega), fun q => absurd q (by omega), fun q => absurd q (by omega), fun q => absurd q (by omega), fun q => absurd q (by omega), fun q => absurd q (by omega), fun q => absurd q (by omega), fun q => absurd q (by omega), fun q => absurd q (by omega), fun q => absurd q (by omega), fun q => absurd q (by omega), fun q => absurd q (by omega), fun q => absurd q (by omega), fun q => absurd q (by omega), fun q => absurd q (by omega)⟩
theorem akq_3 {S S1 : sS} {dd : Nat} {first : Int} (h : AKQ S S1 dd first) (c : 3 ≤ Xi S 904 70 ∧ Xi S 904 70 ≤ 6) : QX_mo_asked_3 S S1 first := h.2.2.2.1 c
theorem akp_7 {S : sS} {dd : Nat} {first : Int} (c : Xi S 904 70 = 7) (p : PX_mo_asked_7 S first) : AKP S dd first := ⟨⟨by omega, by omega⟩, fun q => absurd q (by omega), fun q => absurd q (by omega), fun q => absurd q (by omega), fun q => absurd q (by omega), fun _ => p, fun q => absurd q (by omega), fun q => absurd q (by omega), fun q => absurd q (by omega), fun q => absurd q (by omega), fun q => absurd q (by omega), fun q => absurd q (by omega), fun q => absurd q (by omega), fun q => absurd q (by omega), fun q => absurd q (by omega), fun q => absurd q (by omega), fun q => absurd q (by omega), fun q => absurd q (by omega), fun q => absurd q (by omega), fun q => absurd q (by omega), fun q => absurd q (by omega)⟩
theorem akq_7 {S S1 : sS} {dd : Nat} {first : Int} (h : AKQ S S1 dd first) (c : Xi S 904 70 = 7) : QX_mo_asked_7 S S1 first := h.2.2.2.2.1 c
theorem akp_8 {S : sS} {dd : Nat} {first : Int} (c : Xi S 904 70 = 8) (p : PX_mo_asked_8 S first) : AKP S dd first := ⟨⟨by omega, by omega⟩, fun q => absurd q (by omega), fun q => absurd q (by omega), fun q => absurd q (by omega), fun q => absurd q (by omega), fun q => absurd q (by omega), fun _ => p, fun q => absurd q (by omega), fun q => absurd q (by omega), fun q => absurd q (by omega), fun q => absurd q (by omega), fun q => absurd q (by omega), fun q => absurd q (by omega), fun q => absurd q (by omega), fun q => absurd q (by omega), fun q => absurd q (by omega), fun q => absurd q (by omega), fun q => absurd q (by omega), fun q => absurd q (by omega), fun q => absurd q (by omega), fun q => absurd q (by omega)⟩
theorem akq_8 {S S1 : sS} {dd : Nat} {first : Int} (h : AKQ S S1 dd first) (c : Xi S 904 70 = 8) : QX_mo_asked_8 S S1 first := h.2.2.2.2.2.1 c
theorem akp_9 {S : sS} {dd : Nat} {first : Int} (c : Xi S 904 70 = 9) (p : PX_mo_asked_9 S first) : AKP S dd first := ⟨⟨by omega, by omega⟩, fun q => absurd q (by omega), fun q => absurd q (by omega), fun q => absurd q (by omega), fun q => absurd q (by omega), fun q => absurd q (by omega), fun q => absurd q (by omega), fun _ => p, fun q => absurd q (by omega), fun q => absurd q (by omega), fun q => absurd q (by omega), fun q => absurd q (by omega), fun q => absurd q (by omega), fun q => absurd q (by omega), fun q => absurd q (by omega), fun q => absurd q (by omega), fun q => absurd q (by omega), fun q => absurd q (by omega), fun q => absurd q (by omega), fun q => absurd q (by omega), fun q => absurd q (by omega)⟩
theorem akq_9 {S S1 : sS} {dd : Nat} {first : Int} (h : AKQ S S1 dd first) (c : Xi S 904 70 = 9) : QX_mo_asked_9 S S1 first := h.2.2.2.2.2.2.1 c
theorem akp_10 {S : sS} {dd : Nat} {first : Int} (c : Xi S 904 70 = 10) (p : PX_mo_asked_10 S first) : AKP S dd first := ⟨⟨by omega, by omega⟩, fun q => absurd q (by omega), fun q => absurd q (by omega), fun q => absurd q (by omega), fun q => absurd q (by omega), fun q => absurd q (by omega), fun q => absurd q (by omega), fun q => absurd q (by omega), fun _ => p, fun q => absurd q (by omega), fun q => absurd q (by omega), fun q => absurd q (by omega), fun q => absurd q (by omega), fun q => absurd q (by omega), fun q => absurd q (by omega), fun q => absurd q (by omega), fun q => absurd q (by omega), fun q => absurd q (by omega), fun q => absurd q (by omega), fun q => absurd q (by omega), fun q => absurd q (by omega)⟩
theorem akq_10 {S S1 : sS} {dd : Nat} {first : Int} (h : AKQ S S1 dd first) (c : Xi S 904 70 = 10) : QX_mo_asked_10 S S1 first := h.2.2.2.2.2.2.2.1 c
theorem akp_11 {S : sS} {dd : Nat} {first : Int} (c : Xi S 904 70 = 11) (p : PX_mo_asked_11 S first) : AKP S dd first := ⟨⟨by omega, by omega⟩, fun q => absurd q (by omega), fun q => absurd q (by omega), fun q => absurd q (by omega), fun q => absurd q (by omega), fun q => absurd q (by omega), fun q => absurd q (by omega), fun q => absurd q (by omega), fun q => absurd q (by omega), fun _ => p, fun q => absurd q (by omega), fun q => absurd q (by omega), fun q => absurd q (by omega), fun q => absurd q (by omega), fun q => absurd q (by omega), fun q => absurd q (by omega), fun q => absurd q (by omega), fun q => absurd q (by omega), fun q => absurd q (by omega), fun q => absurd q (by omega), fun q => absurd q (by omega)⟩
theorem akq_11 {S S1 : sS} {dd : Nat} {first : Int} (h : AKQ S S1 dd first) (c : Xi S 904 70 = 11) : QX_mo_asked_11 S S1 first := h.2.2.2.2.2.2.2.2.1 c
theorem akp_12 {S : sS} {dd : Nat} {first : Int} (c : Xi S 904 70 = 12) (p : PX_mo_asked_12 S first) : AKP S dd first := ⟨⟨by omega, by omega⟩, fun q => absurd q (by omega), fun q => absurd q (by omega), fun q => absurd q (by omega), fun q => absurd q (by omega), fun q => absurd q (by omega), fun q => absurd q (by omega), fun q => absurd q (by omega), fun q => absurd q (by omega), fun q => absurd q (by omega), fun _ => p, fun q => absurd q (by omega), fun q => absurd q (by omega), fun q => absurd q (by omega), fun q => absurd q (by omega), fun q => absurd q (by omega), fun q => absurd q (by omega), fun q => absurd q (by omega), fun q => absurd q (by omega), fun q => absurd q (by omega), fun q => absurd q (by omega)⟩
theorem akq_12 {S S1 : sS} {dd : Nat} {first : Int} (h : AKQ S S1 dd first) (c : Xi S 904 70 = 12) : QX_mo_asked_12 S S1 first := h.2.2.2.2.2.2.2.2.2.1 c
theorem akp_13 {S : sS} {dd : Nat} {first : Int} (c : Xi S 904 70 = 13) (p : PX_mo_asked_13 S first) : AKP S dd first := ⟨⟨by omega, by omega⟩, fun q => absurd q (by omega), fun q => absurd q (by omega), fun q => absurd q (by omega), fun q => absurd q (by omega), fun q => absurd q (by omega), fun q => absurd q (by omega), fun q => absurd q (by omega), fun q => absurd q (by omega), fun q => absurd q (by omega), fun q => absurd q (by omega), fun _ => p, fun q => absurd q (by omega), fun q => absurd q (by omega), fun q => absurd q (by omega), fun q => absurd q (by omega), fun q => absurd q (by omega), fun q => absurd q (by omega), fun q => absurd q (by omega), fun q => absurd q (by omega), fun q => absurd q (by omega)⟩
theorem akq_13 {S S1 : sS} {dd : Nat} {first : Int} (h : AKQ S S1 dd first) (c : Xi S 904 70 = 13) : QX_mo_asked_13 S S1 first := h.2.2.2.2.2.2.2.2.2.2.1 c
theorem akp_14 {S : sS} {dd : Nat} {first : Int} (c : Xi S 904 70 = 14) (p : PX_mo_asked_14 S first) : AKP S dd first := ⟨⟨by omega, by omega⟩, fun q => absurd q (by omega), fun q => absurd q (by omega), fun q => absurd q (by omega), fun q => absurd q (by omega), fun q => absurd q (by omega), fun q => absurd q (by omega), fun q => absurd q (by omega), fun q => absurd q (by omega), fun q => absurd q (by omega), fun q => absurd q (by omega), fun q => absurd q (by omega), fun _ => p, fun q => absurd q (by omega), fun q => absurd q (by omega), fun q => absurd q (by omega), fun q => absurd q (by omega), fun q => absurd q (by omega), fun q => absurd q (by omega), fun q => absurd q (by omega), fun q => absurd q (by omega)⟩
theorem akq_14 {S S1 : sS} {dd : Nat} {first : Int} (h : AKQ S S1 dd first) (c : Xi S 904 70 = 14) : QX_mo_asked_14 S S1 first := h.2.2.2.2.2.2.2.2.2.2.2.1 c
theorem akp_15a {S : sS} {dd : Nat} {first : Int} (c : Xi S 904 70 = 15 ∧ Xi S 904 76 ≠ 0) (p : PX_mo_asked_15a S first) : AKP S dd first := ⟨⟨by omega, by omega⟩, fun q => absurd q (by omega), fun q => absurd q (by omega), fun q => absurd q (by omega), fun q => absurd q (by omega), fun q => absurd q (by omega), fun q => absurd q (by omega), fun q => absurd q (by omega), fun q => absurd q (by omega), fun q => absurd q (by omega), fun q => absurd q (by omega), fun q => absurd q (by omega), fun q => absurd q (by omega), fun _ => p, fun q => absurd q (by omega), fun q => absurd q (by omega), fun q => absurd q (by omega), fun q => absurd q (by omega), fun q => absurd q (by omega), fun q => absurd q (by omega), fun q => absurd q (by omega)⟩
theorem akq_15a {S S1 : sS} {dd : Nat} {first : Int} (h : AKQ S S1 dd first) (c : Xi S 904 70 = 15 ∧ Xi S 904 76 ≠ 0) : QX_mo_asked_15a S S1 first := h.2.2.2.2.2.2.2.2.2.2.2.2.1 c
theorem akp_15b {S : sS} {dd : Nat} {first : Int} (c : Xi S 904 70 = 15 ∧ Xi S 904 76 = 0 ∧ (Xi S 904 72 = 1 ∧ 1 < r2R S (Xi S 904 71) 2 3 ∧ Xi S 904 75 = 0)) (p : PX_mo_asked_15b S first) : AKP S dd first := ⟨⟨by omega, by omega⟩, fun q => absurd q (by omega), fun q => absurd q (by omega), fun q => absurd q (by omega), fun q => absurd q (by omega), fun q => absurd q (by omega), fun q => absurd q (by omega), fun q => absurd q (by omega), fun q => absurd q (by omega), fun q => absurd q (by omega), fun q => absurd q (by omega), fun q => absurd q (by omega), fun q => absurd q (by omega), fun q => absurd q (by omega), fun _ => p, fun q => absurd q (by omega), fun q => absurd q (by omega), fun q => absurd q (by omega), fun q => absurd q (by omega), fun q => absurd q (by omega), fun q => absurd q (by omega)⟩
theorem akq_15b {S S1 : sS} {dd : Nat} {first : Int} (h : AKQ S S1 dd first) (c : Xi S 904 70 = 15 ∧ Xi S 904 76 = 0 ∧ (Xi S 904 72 = 1 ∧ 1 < r2R S (Xi S 904 71) 2 3 ∧ Xi S 904 75 = 0)) : QX_mo_asked_15b S S1 first := h.2.2.2.2.2.2.2.2.2.2.2.2.2.1 c
theorem akp_15c {S : sS} {dd : Nat} {first : Int} (c : Xi S 904 70 = 15 ∧ Xi S 904 76 = 0 ∧ ¬ (Xi S 904 72 = 1 ∧ 1 < r2R S (Xi S 904 71) 2 3 ∧ Xi S 904 75 = 0)) (p : PX_mo_asked_15c S first) : AKP S dd first := ⟨⟨by omega, by omega⟩, fun q => absurd q (by omega), fun q => absurd q (by omega), fun q => absurd q (by omega), fun q => absurd q (by omega), fun q => absurd q (by omega), fun q => absurd q (by omega), fun q => absurd q (by omega), fun q => absurd q (by omega), fun q => absurd q (by omega), fun q => absurd q (by omega), fun q => absurd q (by omega), fun q => absurd q (by omega), fun q => absurd q (by omega), fun q => absurd q (by omega), fun _ => p, fun q => absurd q (by omega), fun q => absurd q (by omega), fun q => absurd q (by omega), fun q => absurd q (by omega), fun q => absurd q (by omega)⟩
theorem akq_15c {S S1 : sS} {dd : Nat} {first : Int} (h : AKQ S S1 dd first) (c : Xi S 904 70 = 15 ∧ Xi S 904 76 = 0 ∧ ¬ (Xi S 904 72 = 1 ∧ 1 < r2R S (Xi S 904 71) 2 3 ∧ Xi S 904 75 = 0)) : QX_mo_asked_15c S S1 first := h.2.2.2.2.2.2.2.2.2.2.2.2.2.2.1 c
theorem akp_16 {S : sS} {dd : Nat} {first : Int} (c : Xi S 904 70 = 16) (p : PX_mo_asked_16 S first) : AKP S dd first := ⟨⟨by omega, by omega⟩, fun q => absurd q (by omega), fun q => absurd q (by omega), fun q => absurd q (by omega), fun q => absurd q (by omega), fun q => absurd q (by omega), fun q => absurd q (by omega), fun q => absurd q (by omega), fun q => absurd q (by omega), fun q => absurd q (by omega), fun q => absurd q (by omega), fun q => absurd q (by omega), fun q => absurd q (by omega), fun q => absurd q (by omega), fun q => absurd q (by omega), fun q => absurd q (by omega), fun _ => p, fun q => absurd q (by omega), fun q => absurd q (by omega), fun q => absurd q (by omega), fun q => absurd q (by omega)⟩
theorem akq_16 {S S1 : sS} {dd : Nat} {first : Int} (h : AKQ S S1 dd first) (c : Xi S 904 70 = 16) : QX_mo_asked_16 S S1 first := h.2.2.2.2.2.2.2.2.2.2.2.2.2.2.2.1 c
theorem akp_17 {S : sS} {dd : Nat} {first : Int} (c : Xi S 904 70 = 17) (p : PX_mo_asked_17 S first) : AKP S dd first := ⟨⟨by omega, by omega⟩, fun q => absurd q (by omega), fun q => absurd q (by omega), fun q => absurd q (by omega), fun q => absurd q (by omega), fun q => absurd q (by omega), fun q => absurd q (by omega), fun q => absurd q (by omega), fun q => absurd q (by omega), fun q => absurd q (by omega), fun q => absurd q (by omega), fun q => absurd q (by omega), fun q => absurd q (by omega), fun q => absurd q (by omega), fun q => absurd q (by omega), fun q => absurd q (by omega), fun q => absurd q (by omega), fun _ => p, fun q => absurd q (by omega), fun q => absurd q (by omega), fun q => absurd q (by omega)⟩
theorem akq_17 {S S1 : sS} {dd : Nat} {first : Int} (h : AKQ S S1 dd first) (c : Xi S 904 70 = 17) : QX_mo_asked_17 S S1 first := h.2.2.2.2.2.2.2.2.2.2.2.2.2.2.2.2.1 c
theorem akp_18 {S : sS} {dd : Nat} {first : Int} (c : Xi S 904 70 = 18) (p : PX_mo_asked_18 S first) : AKP S dd first := ⟨⟨by omega, by omega⟩, fun q => absurd q (by omega), fun q => absurd q (by omega), fun q => absurd q (by omega), fun q => absurd q (by omega), fun q => absurd q (by omega), fun q => absurd q (by omega), fun q => absurd q (by omega), fun q => absurd q (by omega), fun q => absurd q (by omega), fun q => absurd q (by omega), fun q => absurd q (by omega), fun q => absurd q (by omega), fun q => absurd q (by omega), fun q => absurd q (by omega), fun q => absurd q (by omega), fun q => absurd q (by omega), fun q => absurd q (by omega), fun _ => p, fun q => absurd q (by omega), fun q => absurd q (by omega)⟩
theorem akq_18 {S S1 : sS} {dd : Nat} {first : Int} (h : AKQ S S1 dd first) (c : Xi S 904 70 = 18) : QX_mo_asked_18 S S1 first := h.2.2.2.2.2.2.2.2.2.2.2.2.2.2.2.2.2.1 c
theorem akp_19 {S : sS} {dd : Nat} {first : Int} (c : Xi S 904 70 = 19) (p : PX_mo_asked_19 S first) : AKP S dd first := ⟨⟨by omega, by omega⟩, fun q => absurd q (by omega), fun q => absurd q (by omega), fun q => absurd q (by omega), fun q => absurd q (by omega), fun q => absurd q (by omega), fun q => absurd q (by omega), fun q => absurd q (by omega), fun q => absurd q (by omega), fun q => absurd q (by omega), fun q => absurd q (by omega), fun q => absurd q (by omega), fun q => absurd q (by omega), fun q => absurd q (by omega), fun q => absurd q (by omega), fun q => absurd q (by omega), fun q => absurd q (by omega), fun q => absurd q (by omega), fun q => absurd q (by omega), fun _ => p, fun q => absurd q (by omega)⟩
theorem akq_19 {S S1 : sS} {dd : Nat} {first : Int} (h : AKQ S S1 dd first) (c : Xi S 904 70 = 19) : QX_mo_asked_19 S S1 first := h.2.2.2.2.2.2.2.2.2.2.2.2.2.2.2.2.2.2.1 c
theorem akp_20 {S : sS} {dd : Nat} {first : Int} (c : Xi S 904 70 = 20) (p : PX_mo_asked_20 S dd first) : AKP S dd first := ⟨⟨by omega, by omega⟩, fun q => absurd q (by omega), fun q => absurd q (by omega), fun q => absurd q (by omega), fun q => absurd q (by omega), fun q => absurd q (by omega), fun q => absurd q (by omega), fun q => absurd q (by omega), fun q => absurd q (by omega), fun q => absurd q (by omega), fun q => absurd q (by omega), fun q => absurd q (by omega), fun q => absurd q (by omega), fun q => absurd q (by omega), fun q => absurd q (by omega), fun q => absurd q (by omega), fun q => absurd q (by omega), fun q => absurd q (by omega), fun q => absurd q (by omega), fun q => absurd q (by omega), fun _ => p⟩
theorem akq_20 {S S1 : sS} {dd : Nat} {first : Int} (h : AKQ S S1 dd first) (c : Xi S 904 70 = 20) : QX_mo_asked_20 S S1 dd first := h.2.2.2.2.2.2.2.2.2.2.2.2.2.2.2.2.2.2.2 c
theorem dkp_0 {S : sS} {first : Int} (c : Xi S 904 70 = 0) (p : PX_mo_does_0 S first) : DKP S first := ⟨⟨⟨by omega, by omega⟩, fun _ _ => by omega⟩, fun _ => p, fun q => absurd q (by omega), fun q => absurd q (by omega), fun q => absurd q (by omega), fun q => absurd q (by omega), fun q => absurd q (by omega), fun q => absurd q (by omega), fun q => absurd q (by omega), fun q => absurd q (by omega), fun q => absurd q (by omega), fun q => absurd q (by omega), fun q => absurd q (by omega), fun q => absurd q (by omega), fun q => absurd q (by omega), fun q => absurd q (by omega), fun q => absurd q (by omega), fun q => absurd q (by omega), fun q => absurd q (by omega), fun q => absurd q (by omega), fun q => absurd q (by omega)⟩
theorem dkq_0 {S S1 : sS} {first : Int} (h : DKQ S S1 first) (c : Xi S 904 70 = 0) : QX_mo_does_0 S S1 first := h.1 c
theorem dkp_1 {S : sS} {first : Int} (c : Xi S 904 70 = 1) (p : PX_mo_does_1 S first) : DKP S first := ⟨⟨⟨by omega, by omega⟩, fun _ _ => by omega⟩, fun q => absurd q (by omega), fun _ => p, fun q => absurd q (by omega), fun q => absurd q (by omega), fun q => absurd q (by omega), fun q => absurd q (by omega), fun q => absurd q (by omega), fun q => absurd q (by omega), fun q => absurd q (by omega), fun q => absurd q (by omega), fun q => absurd q (by omega), fun q => absurd q (by omega), fun q => absurd q (by omega), fun q => absurd q (by omega), fun q => absurd q (by omega), fun q => absurd q (by omega), fun q => absurd q (by omega), fun q => absurd q (by omega), fun q => absurd q (by omega), fun q => absurd q (by omega)⟩
theorem dkq_1 {S S1 : sS} {first : Int} (h : DKQ S S1 first) (c : Xi S 904 70 = 1) : QX_mo_does_1 S S1 first := h.2.1 c
theorem dkp_2 {S : sS} {first : Int} (c : Xi S 904 70 = 2) (p : PX_mo_does_2 S first) : DKP S first := ⟨⟨⟨by omega, by omega⟩, fun _ _ => by omega⟩, fun q => absurd q (by omega), fun q => absurd q (by omega), fun _ => p, fun q => absurd q (by omega), fun q => absurd q (by omega), fun q => absurd q (by omega), fun q => absurd q (by omega), fun q => absurd q (by omega), fun q => absurd q (by omega), fun q => absurd q (by omega), fun q => absurd q (by omega), fun q => absurd q (by omega), fun q => absurd q (by omega), fun q => absurd q (by omega), fun q => absurd q (by omega), fun q => absurd q (by omega), fun q => absurd q (by omega), fun q => absurd q (by omega), fun q => absurd q (by omega), fun q => absurd q (by omega)⟩
theorem dkq_2 {S S1 : sS} {first : Int} (h : DKQ S S1 first) (c : Xi S 904 70 = 2) : QX_mo_does_2 S S1 first := h.2.2.1 c
theorem dkp_3 {S : sS} {first : Int} (c : 3 ≤ Xi S 904 70 ∧ Xi S 904 70 ≤ 6) (p : PX_mo_does_3 S first) : DKP S first := ⟨⟨⟨by omega, by omega⟩, fun _ _ => by omega⟩, fun q => absurd q (by omega), fun q => absurd q (by omega), fun q => absurd q (by omega), fun _ => p, fun q => absurd q (by omega), fun q => absurd q (by omega), fun q => absurd q (by omega), fun q => absurd q (by omega), fun q => absurd q (by omega), fun q => absurd q (by omega), fun q => absurd q (by omega), fun q => absurd q (by omega), fun q => absurd q (by omega), fun q => absurd q (by omega), fun q => absurd q (by omega), fun q => absurd q (by omega), fun q => absurd q (by omega), fun q => absurd q (by omega), fun q => absurd q (by omega), fun q => absurd q (by omega)⟩
theorem dkq_3 {S S1 : sS} {first : Int} (h : DKQ S S1 first) (c : 3 ≤ Xi S 904 70 ∧ Xi S 904 70 ≤ 6) : QX_mo_does_3 S S1 first := h.2.2.2.1 c
theorem dkp_7 {S : sS} {first : Int} (c : Xi S 904 70 = 7) (p : PX_mo_does_7 S first) : DKP S first := ⟨⟨⟨by omega, by omega⟩, fun _ _ => by omega⟩, fun q => absurd q (by omega), fun q => absurd q (by omega), fun q => absurd q (by omega), fun q => absurd q (by omega), fun _ => p, fun q => absurd q (by omega), fun q => absurd q (by omega), fun q => absurd q (by omega), fun q => absurd q (by omega), fun q => absurd q (by omega), fun q => absurd q (by omega), fun q => absurd q (by omega), fun q => absurd q (by omega), fun q => absurd q (by omega), fun q => absurd q (by omega), fun q => absurd q (by omega), fun q => absurd q (by omega), fun q => absurd q (by omega), fun q => absurd q (by omega), fun q => absurd q (by omega)⟩
theorem dkq_7 {S S1 : sS} {first : Int} (h : DKQ S S1 first) (c : Xi S 904 70 = 7) : QX_mo_does_7 S S1 first := h.2.2.2.2.1 c
theorem dkp_8 {S : sS} {first : Int} (c : Xi S 904 70 = 8) (p : PX_mo_does_8 S first) : DKP S first := ⟨⟨⟨by omega, by omega⟩, fun _ _ => by omega⟩, fun q => absurd q (by omega), fun q => absurd q (by omega), fun q => absurd q (by omega), fun q => absurd q (by omega), fun q => absurd q (by omega), fun _ => p, fun q => absurd q (by omega), fun q => absurd q (by omega), fun q => absurd q (by omega), fun q => absurd q (by omega), fun q => absurd q (by omega), fun q => absurd q (by omega), fun q => absurd q (by omega), fun q => absurd q (by omega), fun q => absurd q (by omega), fun q => absurd q (by omega), fun q => absurd q (by omega), fun q => absurd q (by omega), fun q => absurd q (by omega), fun q => absurd q (by omega)⟩
theorem dkq_8 {S S1 : sS} {first : Int} (h : DKQ S S1 first) (c : Xi S 904 70 = 8) : QX_mo_does_8 S S1 first := h.2.2.2.2.2.1 c
theorem dkp_9 {S : sS} {first : Int} (c : Xi S 904 70 = 9) (p : PX_mo_does_9 S first) : DKP S first := ⟨⟨⟨by omega, by omega⟩, fun _ _ => by omega⟩, fun q => absurd q (by omega), fun q => absurd q (by omega), fun q => absurd q (by omega), fun q => absurd q (by omega), fun q => absurd q (by omega), fun q => absurd q (by omega), fun _ => p, fun q => absurd q (by omega), fun q => absurd q (by omega), fun q => absurd q (by omega), fun q => absurd q (by omega), fun q => absurd q (by omega), fun q => absurd q (by omega), fun q => absurd q (by omega), fun q => absurd q (by omega), fun q => absurd q (by omega), fun q => absurd q (by omega), fun q => absurd q (by omega), fun q => absurd q (by omega), fun q => absurd q (by omega)⟩
theorem dkq_9 {S S1 : sS} {first : Int} (h : DKQ S S1 first) (c : Xi S 904 70 = 9) : QX_mo_does_9 S S1 first := h.2.2.2.2.2.2.1 c
theorem dkp_10 {S : sS} {first : Int} (c : Xi S 904 70 = 10) (p : PX_mo_does_10 S first) : DKP S first := ⟨⟨⟨by omega, by omega⟩, fun _ _ => by omega⟩, fun q => absurd q (by omega), fun q => absurd q (by omega), fun q => absurd q (by omega), fun q => absurd q (by omega), fun q => absurd q (by omega), fun q => absurd q (by omega), fun q => absurd q (by omega), fun _ => p, fun q => absurd q (by omega), fun q => absurd q (by omega), fun q => absurd q (by omega), fun q => absurd q (by omega), fun q => absurd q (by omega), fun q => absurd q (by omega), fun q => absurd q (by omega), fun q => absurd q (by omega), fun q => absurd q (by omega), fun q => absurd q (by omega), fun q => absurd q (by omega), fun q => absurd q (by omega)⟩
theorem dkq_10 {S S1 : sS} {first : Int} (h : DKQ S S1 first) (c : Xi S 904 70 = 10) : QX_mo_does_10 S S1 first := h.2.2.2.2.2.2.2.1 c
theorem dkp_11 {S : sS} {first : Int} (c : Xi S 904 70 = 11) (p : PX_mo_does_11 S first) : DKP S first := ⟨⟨⟨by omega, by omega⟩, fun _ _ => by omega⟩, fun q => absurd q (by omega), fun q => absurd q (by omega), fun q => absurd q (by omega), fun q => absurd q (by omega), fun q => absurd q (by omega), fun q => absurd q (by omega), fun q => absurd q (by omega), fun q => absurd q (by omega), fun _ => p, fun q => absurd q (by omega), fun q => absurd q (by omega), fun q => absurd q (by omega), fun q => absurd q (by omega), fun q => absurd q (by omega), fun q => absurd q (by omega), fun q => absurd q (by omega), fun q => absurd q (by omega), fun q => absurd q (by omega), fun q => absurd q (by omega), fun q => absurd q (by omega)⟩
theorem dkq_11 {S S1 : sS} {first : Int} (h : DKQ S S1 first) (c : Xi S 904 70 = 11) : QX_mo_does_11 S S1 first := h.2.2.2.2.2.2.2.2.1 c
theorem dkp_12 {S : sS} {first : Int} (c : Xi S 904 70 = 12) (p : PX_mo_does_12 S first) : DKP S first := ⟨⟨⟨by omega, by omega⟩, fun _ _ => by omega⟩, fun q => absurd q (by omega), fun q => absurd q (by omega), fun q => absurd q (by omega), fun q => absurd q (by omega), fun q => absurd q (by omega), fun q => absurd q (by omega), fun q => absurd q (by omega), fun q => absurd q (by omega), fun q => absurd q (by omega), fun _ => p, fun q => absurd q (by omega), fun q => absurd q (by omega), fun q => absurd q (by omega), fun q => absurd q (by omega), fun q => absurd q (by omega), fun q => absurd q (by omega), fun q => absurd q (by omega), fun q => absurd q (by omega), fun q => absurd q (by omega), fun q => absurd q (by omega)⟩
theorem dkq_12 {S S1 : sS} {first : Int} (h : DKQ S S1 first) (c : Xi S 904 70 = 12) : QX_mo_does_12 S S1 first := h.2.2.2.2.2.2.2.2.2.1 c
theorem dkp_13 {S : sS} {first : Int} (c : Xi S 904 70 = 13) (p : PX_mo_does_13 S first) : DKP S first := ⟨⟨⟨by omega, by omega⟩, fun _ _ => by omega⟩, fun q => absurd q (by omega), fun q => absurd q (by omega), fun q => absurd q (by omega), fun q => absurd q (by omega), fun q => absurd q (by omega), fun q => absurd q (by omega), fun q => absurd q (by omega), fun q => absurd q (by omega), fun q => absurd q (by omega), fun q => absurd q (by omega), fun _ => p, fun q => absurd q (by omega), fun q => absurd q (by omega), fun q => absurd q (by omega), fun q => absurd q (by omega), fun q => absurd q (by omega), fun q => absurd q (by omega), fun q => absurd q (by omega), fun q => absurd q (by omega), fun q => absurd q (by omega)⟩
theorem dkq_13 {S S1 : sS} {first : Int} (h : DKQ S S1 first) (c : Xi S 904 70 = 13) : QX_mo_does_13 S S1 first := h.2.2.2.2.2.2.2.2.2.2.1 c
theorem dkp_14 {S : sS} {first : Int} (c : Xi S 904 70 = 14) (p : PX_mo_does_14 S first) : DKP S first := ⟨⟨⟨by omega, by omega⟩, fun _ _ => by omega⟩, fun q => absurd q (by omega), fun q => absurd q (by omega), fun q => absurd q (by omega), fun q => absurd q (by omega), fun q => absurd q (by omega), fun q => absurd q (by omega), fun q => absurd q (by omega), fun q => absurd q (by omega), fun q => absurd q (by omega), fun q => absurd q (by omega), fun q => absurd q (by omega), fun _ => p, fun q => absurd q (by omega), fun q => absurd q (by omega), fun q => absurd q (by omega), fun q => absurd q (by omega), fun q => absurd q (by omega), fun q => absurd q (by omega), fun q => absurd q (by omega), fun q => absurd q (by omega)⟩
theorem dkq_14 {S S1 : sS} {first : Int} (h : DKQ S S1 first) (c : Xi S 904 70 = 14) : QX_mo_does_14 S S1 first := h.2.2.2.2.2.2.2.2.2.2.2.1 c
theorem dkp_15a {S : sS} {first : Int} (c : (Xi S 904 70 = 15 ∨ Xi S 904 70 = 16) ∧ Xi S 904 142 = 1) (p : PX_mo_does_15a S first) : DKP S first := ⟨⟨⟨by omega, by omega⟩, fun _ _ => by omega⟩, fun q => absurd q (by omega), fun q => absurd q (by omega), fun q => absurd q (by omega), fun q => absurd q (by omega), fun q => absurd q (by omega), fun q => absurd q (by omega), fun q => absurd q (by omega), fun q => absurd q (by omega), fun q => absurd q (by omega), fun q => absurd q (by omega), fun q => absurd q (by omega), fun q => absurd q (by omega), fun _ => p, fun q => absurd q (by omega), fun q => absurd q (by omega), fun q => absurd q (by omega), fun q => absurd q (by omega), fun q => absurd q (by omega), fun q => absurd q (by omega), fun q => absurd q (by omega)⟩
theorem dkq_15a {S S1 : sS} {first : Int} (h : DKQ S S1 first) (c : (Xi S 904 70 = 15 ∨ Xi S 904 70 = 16) ∧ Xi S 904 142 = 1) : QX_mo_does_15a S S1 first := h.2.2.2.2.2.2.2.2.2.2.2.2.1 c
theorem dkp_15b {S : sS} {first : Int} (c : (Xi S 904 70 = 15 ∨ Xi S 904 70 = 16) ∧ Xi S 904 142 = 2) (p : PX_mo_does_15b S first) : DKP S first := ⟨⟨⟨by omega, by omega⟩, fun _ _ => by omega⟩, fun q => absurd q (by omega), fun q => absurd q (by omega), fun q => absurd q (by omega), fun q => absurd q (by omega), fun q => absurd q (by omega), fun q => absurd q (by omega), fun q => absurd q (by omega), fun q => absurd q (by omega), fun q => absurd q (by omega), fun q => absurd q (by omega), fun q => absurd q (by omega), fun q => absurd q (by omega), fun q => absurd q (by omega), fun _ => p, fun q => absurd q (by omega), fun q => absurd q (by omega), fun q => absurd q (by omega), fun q => absurd q (by omega), fun q => absurd q (by omega), fun q => absurd q (by omega)⟩
theorem dkq_15b {S S1 : sS} {first : Int} (h : DKQ S S1 first) (c : (Xi S 904 70 = 15 ∨ Xi S 904 70 = 16) ∧ Xi S 904 142 = 2) : QX_mo_does_15b S S1 first := h.2.2.2.2.2.2.2.2.2.2.2.2.2.1 c
theorem dkp_15c {S : sS} {first : Int} (c : (Xi S 904 70 = 15 ∨ Xi S 904 70 = 16) ∧ Xi S 904 142 = 3) (p : PX_mo_does_15c S first) : DKP S first := ⟨⟨⟨by omega, by omega⟩, fun _ _ => by omega⟩, fun q => absurd q (by omega), fun q => absurd q (by omega), fun q => absurd q (by omega), fun q => absurd q (by omega), fun q => absurd q (by omega), fun q => absurd q (by omega), fun q => absurd q (by omega), fun q => absurd q (by omega), fun q => absurd q (by omega), fun q => absurd q (by omega), fun q => absurd q (by omega), fun q => absurd q (by omega), fun q => absurd q (by omega), fun q => absurd q (by omega), fun _ => p, fun q => absurd q (by omega), fun q => absurd q (by omega), fun q => absurd q (by omega), fun q => absurd q (by omega), fun q => absurd q (by omega)⟩
theorem dkq_15c {S S1 : sS} {first : Int} (h : DKQ S S1 first) (c : (Xi S 904 70 = 15 ∨ Xi S 904 70 = 16) ∧ Xi S 904 142 = 3) : QX_mo_does_15c S S1 first := h.2.2.2.2.2.2.2.2.2.2.2.2.2.2.1 c
theorem dkp_15d {S : sS} {first : Int} (c : (Xi S 904 70 = 15 ∨ Xi S 904 70 = 16) ∧ Xi S 904 142 = 4) (p : PX_mo_does_15d S first) : DKP S first := ⟨⟨⟨by omega, by omega⟩, fun _ _ => by omega⟩, fun q => absurd q (by omega), fun q => absurd q (by omega), fun q => absurd q (by omega), fun q => absurd q (by omega), fun q => absurd q (by omega), fun q => absurd q (by omega), fun q => absurd q (by omega), fun q => absurd q (by omega), fun q => absurd q (by omega), fun q => absurd q (by omega), fun q => absurd q (by omega), fun q => absurd q (by omega), fun q => absurd q (by omega), fun q => absurd q (by omega), fun q => absurd q (by omega), fun _ => p, fun q => absurd q (by omega), fun q => absurd q (by omega), fun q => absurd q (by omega), fun q => absurd q (by omega)⟩
theorem dkq_15d {S S1 : sS} {first : Int} (h : DKQ S S1 first) (c : (Xi S 904 70 = 15 ∨ Xi S 904 70 = 16) ∧ Xi S 904 142 = 4) : QX_mo_does_15d S S1 first := h.2.2.2.2.2.2.2.2.2.2.2.2.2.2.2.1 c
theorem dkp_17 {S : sS} {first : Int} (c : Xi S 904 70 = 17) (p : PX_mo_does_17 S first) : DKP S first := ⟨⟨⟨by omega, by omega⟩, fun _ _ => by omega⟩, fun q => absurd q (by omega), fun q => absurd q (by omega), fun q => absurd q (by omega), fun q => absurd q (by omega), fun q => absurd q (by omega), fun q => absurd q (by omega), fun q => absurd q (by omega), fun q => absurd q (by omega), fun q => absurd q (by omega), fun q => absurd q (by omega), fun q => absurd q (by omega), fun q => absurd q (by omega), fun q => absurd q (by omega), fun q => absurd q (by omega), fun q => absurd q (by omega), fun q => absurd q (by omega), fun _ => p, fun q => absurd q (by omega), fun q => absurd q (by omega), fun q => absurd q (by omega)⟩
theorem dkq_17 {S S1 : sS} {first : Int} (h : DKQ S S1 first) (c : Xi S 904 70 = 17) : QX_mo_does_17 S S1 first := h.2.2.2.2.2.2.2.2.2.2.2.2.2.2.2.2.1 c
theorem dkp_18 {S : sS} {first : Int} (c : Xi S 904 70 = 18) (p : PX_mo_does_18 S first) : DKP S first := ⟨⟨⟨by omega, by omega⟩, fun _ _ => by omega⟩, fun q => absurd q (by omega), fun q => absurd q (by omega), fun q => absurd q (by omega), fun q => absurd q (by omega), fun q => absurd q (by omega), fun q => absurd q (by omega), fun q => absurd q (by omega), fun q => absurd q (by omega), fun q => absurd q (by omega), fun q => absurd q (by omega), fun q => absurd q (by omega), fun q => absurd q (by omega), fun q => absurd q (by omega), fun q => absurd q (by omega), fun q => absurd q (by omega), fun q => absurd q (by omega), fun q => absurd q (by omega), fun _ => p, fun q => absurd q (by omega), fun q => absurd q (by omega)⟩
theorem dkq_18 {S S1 : sS} {first : Int} (h : DKQ S S1 first) (c : Xi S 904 70 = 18) : QX_mo_does_18 S S1 first := h.2.2.2.2.2.2.2.2.2.2.2.2.2.2.2.2.2.1 c
theorem dkp_19 {S : sS} {first : Int} (c : Xi S 904 70 = 19) (p : PX_mo_does_19 S first) : DKP S first := ⟨⟨⟨by omega, by omega⟩, fun _ _ => by omega⟩, fun q => absurd q (by omega), fun q => absurd q (by omega), fun q => absurd q (by omega), fun q => absurd q (by omega), fun q => absurd q (by omega), fun q => absurd q (by omega), fun q => absurd q (by omega), fun q => absurd q (by omega), fun q => absurd q (by omega), fun q => absurd q (by omega), fun q => absurd q (by omega), fun q => absurd q (by omega), fun q => absurd q (by omega), fun q => absurd q (by omega), fun q => absurd q (by omega), fun q => absurd q (by omega), fun q => absurd q (by omega), fun q => absurd q (by omega), fun _ => p, fun q => absurd q (by omega)⟩
theorem dkq_19 {S S1 : sS} {first : Int} (h : DKQ S S1 first) (c : Xi S 904 70 = 19) : QX_mo_does_19 S S1 first := h.2.2.2.2.2.2.2.2.2.2.2.2.2.2.2.2.2.2.1 c
theorem dkp_20 {S : sS} {first : Int} (c : Xi S 904 70 = 20) (p : PX_mo_does_20 S first) : DKP S first := ⟨⟨⟨by omega, by omega⟩, fun _ _ => by omega⟩, fun q => absurd q (by omega), fun q => absurd q (by omega), fun q => absurd q (by omega), fun q => absurd q (by omega), fun q => absurd q (by omega), fun q => absurd q (by omega), fun q => absurd q (by omega), fun q => absurd q (by omega), fun q => absurd q (by omega), fun q => absurd q (by omega), fun q => absurd q (by omega), fun q => absurd q (by omega), fun q => absurd q (by omega), fun q => absurd q (by omega), fun q => absurd q (by omega), fun q => absurd q (by omega), fun q => absurd q (by omega), fun q => absurd q (by omega), fun q => absurd q (by omega), fun _ => p⟩
theorem dkq_20 {S S1 : sS} {first : Int} (h : DKQ S S1 first) (c : Xi S 904 70 = 20) : QX_mo_does_20 S S1 first := h.2.2.2.2.2.2.2.2.2.2.2.2.2.2.2.2.2.2.2 c
theorem tsp_9 {V : sS} (c : Xi V 890 2 = 9) (p : P_re_tellProperty V) : TSP V := ⟨⟨by omega, by omega⟩, fun _ => p, fun q => absurd q (by omega), fun q => absurd q (by omega), fun q => absurd q (by omega), fun q => absurd q (by omega), fun q => absurd q (by omega), fun q => absurd q (by omega), fun q => absurd q (by omega), fun q => absurd q (by omega), fun q => absurd q (by omega), fun q => absurd q (by omega)⟩
theorem tsp_10 {V : sS} (c : Xi V 890 2 = 10) (p : P_re_tellKinds V) : TSP V := ⟨⟨by omega, by omega⟩, fun q => absurd q (by omega), fun _ => p, fun q => absurd q (by omega), fun q => absurd q (by omega), fun q => absurd q (by omega), fun q => absurd q (by omega), fun q => absurd q (by omega), fun q => absurd q (by omega), fun q => absurd q (by omega), fun q => absurd q (by omega), fun q => absurd q (by omega)⟩
theorem tsp_11 {V : sS} (c : Xi V 890 2 = 11) (p : P_re_tellActions V) : TSP V := ⟨⟨by omega, by omega⟩, fun q => absurd q (by omega), fun q => absurd q (by omega), fun _ => p, fun q => absurd q (by omega), fun q => absurd q (by omega), fun q => absurd q (by omega), fun q => absurd q (by omega), fun q => absurd q (by omega), fun q => absurd q (by omega), fun q => absurd q (by omega), fun q => absurd q (by omega)⟩
theorem tsp_12 {V : sS} (c : Xi V 890 2 = 12 ∨ Xi V 890 2 = 13) (p : P_re_tellObjects V) : TSP V := ⟨⟨by omega, by omega⟩, fun q => absurd q (by omega), fun q => absurd q (by omega), fun q => absurd q (by omega), fun _ => p, fun q => absurd q (by omega), fun q => absurd q (by omega), fun q => absurd q (by omega), fun q => absurd q (by omega), fun q => absurd q (by omega), fun q => absurd q (by omega), fun q => absurd q (by omega)⟩
theorem tsp_14 {V : sS} (c : Xi V 890 2 = 14) (p : P_re_tellWay V) : TSP V := ⟨⟨by omega, by omega⟩, fun q => absurd q (by omega), fun q => absurd q (by omega), fun q => absurd q (by omega), fun q => absurd q (by omega), fun _ => p, fun q => absurd q (by omega), fun q => absurd q (by omega), fun q => absurd q (by omega), fun q => absurd q (by omega), fun q => absurd q (by omega), fun q => absurd q (by omega)⟩
theorem tsp_16 {V : sS} (c : Xi V 890 2 = 16) (p : P_re_tellValues V) : TSP V := ⟨⟨by omega, by omega⟩, fun q => absurd q (by omega), fun q => absurd q (by omega), fun q => absurd q (by omega), fun q => absurd q (by omega), fun q => absurd q (by omega), fun q => absurd q (by omega), fun _ => p, fun q => absurd q (by omega), fun q => absurd q (by omega), fun q => absurd q (by omega), fun q => absurd q (by omega)⟩
theorem tsp_17 {V : sS} (c : Xi V 890 2 = 17) (p : P_re_tellHas V) : TSP V := ⟨⟨by omega, by omega⟩, fun q => absurd q (by omega), fun q => absurd q (by omega), fun q => absurd q (by omega), fun q => absurd q (by omega), fun q => absurd q (by omega), fun q => absurd q (by omega), fun q => absurd q (by omega), fun _ => p, fun q => absurd q (by omega), fun q => absurd q (by omega), fun q => absurd q (by omega)⟩
theorem tsp_18 {V : sS} (c : Xi V 890 2 = 18) (p : P_re_tellCan V) : TSP V := ⟨⟨by omega, by omega⟩, fun q => absurd q (by omega), fun q => absurd q (by omega), fun q => absurd q (by omega), fun q => absurd q (by omega), fun q => absurd q (by omega), fun q => absurd q (by omega), fun q => absurd q (by omega), fun q => absurd q (by omega), fun _ => p, fun q => absurd q (by omega), fun q => absurd q (by omega)⟩
theorem tsp_19 {V : sS} (c : Xi V 890 2 = 19) (p : P_re_tellRelation V) : TSP V := ⟨⟨by omega, by omega⟩, fun q => absurd q (by omega), fun q => absurd q (by omega), fun q => absurd q (by omega), fun q => absurd q (by omega), fun q => absurd q (by omega), fun q => absurd q (by omega), fun q => absurd q (by omega), fun q => absurd q (by omega), fun q => absurd q (by omega), fun _ => p, fun q => absurd q (by omega)⟩
theorem tsp_20 {V : sS} (c : Xi V 890 2 = 20) (p : P_re_tellLoose V) : TSP V := ⟨⟨by omega, by omega⟩, fun q => absurd q (by omega), fun q => absurd q (by omega), fun q => absurd q (by omega), fun q => absurd q (by omega), fun q => absurd q (by omega), fun q => absurd q (by omega), fun q => absurd q (by omega), fun q => absurd q (by omega), fun q => absurd q (by omega), fun q => absurd q (by omega), fun _ => p⟩
theorem tsp_15 {V : sS} (c : Xi V 890 2 = 15) (ht : P_re_tellsUsually V) (pu : ty7 V (Xi V 890 3 + 1) = 32 → P_re_tellUsually V) (ps : P_re_tellsValues V) (pv : (ty7 V (Xi V 890 3 + 1) ≠ 6 ∧ sn2 V = -1 ∧ tv5 V (bA (ty7 V) 0) (re7 (ty7 V) (bA (ty7 V) 0)) ≠ -1) → P_re_tellValues V) (pp : ¬ (ty7 V (Xi V 890 3 + 1) ≠ 6 ∧ sn2 V = -1 ∧ tv5 V (bA (ty7 V) 0) (re7 (ty7 V) (bA (ty7 V) 0)) ≠ -1) → P_re_tellPlain V) : TSP V := ⟨⟨by omega, by omega⟩, fun q => absurd q (by omega), fun q => absurd q (by omega), fun q => absurd q (by omega), fun q => absurd q (by omega), fun q => absurd q (by omega), fun _ => ⟨ht, pu, fun _ => ⟨ps, pv, pp⟩⟩, fun q => absurd q (by omega), fun q => absurd q (by omega), fun q => absurd q (by omega), fun q => absurd q (by omega), fun q => absurd q (by omega)⟩
end
section
/-! what the class's rows want, of sentences that are told by how they begin -/
section
variable {V X : sS} {ts f : Nat}
theorem cev_by (c : CEV V X ts f) : BYT V ts := fun j => by
  have s := c.2.2.1.2.1.2
  rw [c.2.2.1.2.2.1] at s
  rcases s with e | e
  · rw [e]; exact c.2.1.1.c 902 j
  · rw [e]; exact c.2.1.1.c 903 j
theorem ty_102 {V : sS} {i : Int} (h : ty7 V i = 102) : 0 ≤ i ∧ i < Xi V 876 7 ∧ Xi V 877 i.toNat = 102 := by
  have t := ty_in (U := V) (i := i) (by omega)
  refine ⟨t.1, t.2, ?_⟩
  unfold ty7 at h
  rw [if_pos t] at h
  exact h
theorem pr_0 (c : CEV V X ts f) (t0 : ty7 V 0 = 102) : P_re_describe V := by
  have t := ty_102 t0
  refine ⟨(cev_13 c).1, c.1.1.1.2.2.1, c.2.2.1.1, c.2.2.1.2.1, by have := c.2.2.2.2.1; omega, c.2.2.2.2.2.1, c.2.1.2.2.1, cev_pl c, cev_5 c, ?_, t.2.2, t.2.1⟩
  have u : -1 ≤ Xi V 891 10 ∧ Xi V 891 10 ≤ 23 := c.2.1.1.c 891 10
  exact u
/-- where a TEXT lies -/
theorem tok_px (c : CEV V X ts f) {i : Int} (h : ty7 V i = 102) : 0 ≤ pc7 V i ∧ 0 ≤ Xj V 879 i.toNat ∧ pc7 V i + 1 + Xj V 879 i.toNat < 5000 := by
  obtain ⟨h0, h1, h2⟩ := ty_102 h
  have t := c.2.2.1.1 i.toNat (by omega) h2
  have p := cev_pl c i.toNat
  have e := cev_5 c
  have q : pc7 V i = Xi V 878 i.toNat := by unfold pc7; rw [if_pos ⟨h0, h1⟩]
  rw [q]
  omega
theorem pr_1 (c : CEV V X ts f) {x : Int} (k : chk (ty7 V) = (1, x)) (t0 : ty7 V 0 = 33) : P_re_understand V ts := by
  have t := inv_1 k t0
  have t1 := ty_102 t.1
  refine ⟨(cev_13 c).1, c.1.1.1.2.2.1, c.2.2.2.2.2.1, by have := c.2.2.2.2.1; omega, cev_by c, ?_, t1.2.1, tok_px c t.1⟩
  have u : 0 ≤ Xi V 882 3 ∧ Xi V 882 3 ≤ 20 := c.2.1.1.c 882 3
  exact u
theorem pr_7 (c : CEV V X ts f) {x : Int} (k : chk (ty7 V) = (1, x)) (t0 : ty7 V 0 = 2) (t1 : ty7 V 1 = 25) : P_re_tellVerb V := by
  have t := inv_7 k t0 t1
  have r := (ty_row t.2.2.2.2.1).2.1
  have w := cev_wd c 3 t.2.1
  have ct := c.1.1.2.2.1
  unfold RCT at ct
  exact ⟨(cev_13 c).1, c.1.1.1.2.2.1, cev_nb c, c.2.2.2.2.2.1, by have := c.2.2.2.2.1; omega, c.2.2.2.2.2.2, (cev_13 c).2.1, by omega, w, by omega⟩
theorem pr_8 (c : CEV V X ts f) {x : Int} (k : chk (ty7 V) = (1, x)) (t0 : ty7 V 0 = 2) (t1 : ty7 V 1 = 19) : P_re_tellPlural V := by
  have t := inv_8 k t0 t1
  have r := (ty_in (U := V) (i := re7 (ty7 V) (bA (ty7 V) 3)) (by omega)).2
  exact ⟨(cev_13 c).1, c.1.1.1.2.2.1, cev_nb c, c.2.2.2.2.2.1, by have := c.2.2.2.2.1; omega, c.2.2.2.2.2.2, (cev_13 c).2.1, r⟩
theorem bgp_0 (s : Xi V 890 2 = 0) (p : P_re_describe V) : BGP V ts := ⟨⟨by omega, by omega⟩, fun _ => p, fun q => absurd q (by omega), fun q => absurd q (by omega), fun q => absurd q (by omega), fun q => absurd q (by omega), fun q => absurd q (by omega)⟩
theorem bgp_1 (s : Xi V 890 2 = 1) (p : P_re_understand V ts) : BGP V ts := ⟨⟨by omega, by omega⟩, fun q => absurd q (by omega), fun _ => p, fun q => absurd q (by omega), fun q => absurd q (by omega), fun q => absurd q (by omega), fun q => absurd q (by omega)⟩
theorem bgp_2 (s : Xi V 890 2 = 2) (p : BP2 V) : BGP V ts := ⟨⟨by omega, by omega⟩, fun q => absurd q (by omega), fun q => absurd q (by omega), fun _ => p, fun q => absurd q (by omega), fun q => absurd q (by omega), fun q => absurd q (by omega)⟩
theorem bgp_7 (s : Xi V 890 2 = 7) (p : P_re_tellVerb V) : BGP V ts := ⟨⟨by omega, by omega⟩, fun q => absurd q (by omega), fun q => absurd q (by omega), fun q => absurd q (by omega), fun _ => p, fun q => absurd q (by omega), fun _ q => absurd q (by omega)⟩
theorem bgp_8 (s : Xi V 890 2 = 8) (p : P_re_tellPlural V) : BGP V ts := ⟨⟨by omega, by omega⟩, fun q => absurd q (by omega), fun q => absurd q (by omega), fun q => absurd q (by omega), fun q => absurd q (by omega), fun _ => p, fun _ q => absurd q (by omega)⟩
theorem bgp_3 (s : 3 ≤ Xi V 890 2 ∧ Xi V 890 2 ≤ 6) (p : BP3 V ts) : BGP V ts := ⟨⟨by omega, by omega⟩, fun q => absurd q (by omega), fun q => absurd q (by omega), fun q => absurd q (by omega), fun q => absurd q (by omega), fun q => absurd q (by omega), fun _ _ => p⟩
/-- 17, 18, 19: the sentence goes on behind the second run -/
theorem pr_17c (c : CEV V X ts f) {x : Int} (k : chk (ty7 V) = (1, x)) (g : NBG (ty7 V)) (kt : kt7 (ty7 V) = 12) (tel : Xi V 890 3 = re7 (ty7 V) (bA (ty7 V) 0)) : P_re_tellHas V := by
  obtain ⟨q1, q2, q3, q4, q5, q6, q7, _⟩ := inv_17 k g.1 g.2.1 g.2.2 kt
  have r2 := ty_in (U := V) (i := re7 (ty7 V) (bA (ty7 V) 0)) (by omega)
  have r5 := ty_in (U := V) (i := re7 (ty7 V) (re7 (ty7 V) (bA (ty7 V) 0) + 2)) (by omega)
  have b := c.2.2.2.2.1
  refine pr_17 c (by omega) ?_
  rw [tel]
  exact r5.2
theorem pr_18c (c : CEV V X ts f) {x : Int} (k : chk (ty7 V) = (1, x)) (g : NBG (ty7 V)) (kt : kt7 (ty7 V) = 13) (tel : Xi V 890 3 = re7 (ty7 V) (bA (ty7 V) 0)) : P_re_tellCan V := by
  obtain ⟨q1, q2, q3, q4, q5, q6, q7, _⟩ := inv_18 k g.1 g.2.1 g.2.2 kt
  have r2 := ty_in (U := V) (i := re7 (ty7 V) (bA (ty7 V) 0)) (by omega)
  have r5 := ty_in (U := V) (i := re7 (ty7 V) (re7 (ty7 V) (bA (ty7 V) 0) + 2)) (by omega)
  have b := c.2.2.2.2.1
  refine pr_18 c (by omega) ?_
  rw [tel]
  exact r5.2
end
end
section
/-! what the class's rows want, of sentences with is or are -/
section
variable {V X : sS} {ts f : Nat}
theorem tsp_v15 (c : CEV V X ts f) (ht : 0 ≤ Xi V 890 3 ∧ Xi V 890 3 ≤ 5125) (fn : FN1 V) (s : Xi V 890 2 = 15) (hu : P_re_tellsUsually V) (hr : ty7 V (Xi V 890 3 + 1) ≠ 107) : TSP V :=
  tsp_15 s hu (fun _ => pr_15u c ht fn) (pr_15s c ht fn) (fun _ => pr_v c ht fn (ty_in hr).2) (fun _ => pr_15p c ht)
/-- the sentence's list ends at is or are -/
theorem tel_B (c : CEV V X ts f) {x : Int} (k : chk (ty7 V) = (1, x)) (g : NBG (ty7 V)) (kt : kt7 (ty7 V) = 4 ∨ kt7 (ty7 V) = 5) (nb : ¬ bp7 (ty7 V) 0) (tel : Xi V 890 3 = tk7 (ty7 V)) (be : BES V (ty7 V)) : FN1 V ∧ (0 ≤ Xi V 890 3 ∧ Xi V 890 3 ≤ 5125) ∧ gOK (ckT (ty7 V) (Xi V 890 3 + 1)) x ∧ Xi V 890 2 = bes (ty7 V) (Xi V 890 3 + 1) := by
  obtain ⟨e, h, t, y⟩ := inv_B k g.1 g.2.1 g.2.2 kt nb
  obtain ⟨q1, q2, q3⟩ := ok_Ls h
  have h7 := c.2.2.2.2.1
  have te := ty_in (U := V) (i := e) (by omega)
  have tk : tk7 (ty7 V) = e := tk_to ⟨by omega, by omega⟩ (fun i i0 i1 => by have z := q3 i i0 i1; unfold fr7 art7 at z; unfold tl7; omega) (by unfold tl7; omega)
  obtain ⟨a, b1, b2⟩ := be.2 nb
  have ea : a = e + 1 := by
    obtain ⟨e', h', z⟩ := ok_sq (ok_1 b1)
    have u := ok_u h h'
    have v := (ok_Be z).2
    omega
  rw [tel, tk]
  rw [ea] at b2
  exact ⟨fn1_i q1, ⟨by omega, by omega⟩, y, b2⟩
theorem tsp_b (c : CEV V X ts f) {x : Int} (k : chk (ty7 V) = (1, x)) (g : NBG (ty7 V)) (kt : kt7 (ty7 V) = 4 ∨ kt7 (ty7 V) = 5) (nb : ¬ bp7 (ty7 V) 0) (tel : Xi V 890 3 = tk7 (ty7 V)) (be : BES V (ty7 V)) (w : Xi V 891 11 = 0) (hu : (0 ≤ Xi V 890 3 ∧ Xi V 890 3 ≤ 5125) → P_re_tellsUsually V) : TSP V := by
  obtain ⟨fn, ht, y, b⟩ := tel_B c k g kt nb tel be
  obtain ⟨v10, v11, v12, v13, v15, v14⟩ := bes_v (T := ty7 V) (a := Xi V 890 3 + 1)
  by_cases A : ty7 V (Xi V 890 3 + 1) = 0 ∧ ty7 V (Xi V 890 3 + 1 + 1) = 18
  · exact tsp_10 (by rw [b]; exact v10 A) (pr_10 c ht)
  by_cases B : ty7 V (Xi V 890 3 + 1) = 1 ∧ ty7 V (Xi V 890 3 + 1 + 1) = 27
  · exact tsp_11 (by rw [b]; exact v11 B) (pr_11 c ht)
  by_cases C : art7 (ty7 V (Xi V 890 3 + 1))
  · exact tsp_12 (Or.inl (by rw [b]; exact v12 A B C)) (pr_12 c ht w)
  by_cases D : pl7 (ty7 V (Xi V 890 3 + 1))
  · exact tsp_12 (Or.inr (by rw [b]; exact v13 C D)) (pr_12 c ht w)
  have R := ckT_R C D y
  by_cases E : ty7 V (Xi V 890 3 + 1) = 6 ∨ ty7 V (Xi V 890 3 + 1) = 32
  · exact tsp_v15 c ht fn (by rw [b]; exact v15 E) (hu ht) (by omega)
  have h100 := (R.2 (by omega) (by omega)).1
  obtain ⟨w14, w16, w15⟩ := v14 h100
  by_cases F : ty7 V (re7 (ty7 V) (Xi V 890 3 + 1)) = 7
  · exact tsp_14 (by rw [b]; exact w14 F) (pr_14 c ht fn (ty_in (U := V) (i := re7 (ty7 V) (Xi V 890 3 + 1)) (by omega)).2)
  by_cases G : ty7 V (re7 (ty7 V) (Xi V 890 3 + 1)) = 16 ∨ ty7 V (re7 (ty7 V) (Xi V 890 3 + 1)) = 104
  · exact tsp_16 (by rw [b]; exact w16 G) (pr_v c ht fn (ty_in (U := V) (i := Xi V 890 3 + 1) (by omega)).2)
  · exact tsp_v15 c ht fn (by rw [b]; exact w15 F (by omega) (by omega)) (hu ht) (by omega)
theorem pr_19c (c : CEV V X ts f) {x : Int} (k : chk (ty7 V) = (1, x)) (g : NBG (ty7 V)) (kt : kt7 (ty7 V) = 21) (tel : Xi V 890 3 = re7 (ty7 V) (bA (ty7 V) 0)) : P_re_tellRelation V := by
  obtain ⟨q1, q2, q3, q4, q5, q6, q7, _⟩ := inv_19 k g.1 g.2.1 g.2.2 kt
  have r2 := ty_in (U := V) (i := re7 (ty7 V) (bA (ty7 V) 0)) (by omega)
  have r5 := ty_in (U := V) (i := re7 (ty7 V) (re7 (ty7 V) (bA (ty7 V) 0) + 2) + 2) (by omega)
  have b := c.2.2.2.2.1
  refine pr_19 c (by omega) ?_
  rw [tel]
  omega
end
end
section
/-! what the class's rows want, of every sentence of 9 to 20; how the others begin -/
section
variable {V X : sS} {ts f : Nat}
theorem cks_9 {T : Int → Int} (so : CKS V T) (s : 9 ≤ Xi V 890 2) : NBG T ∧ OTS V T := by
  obtain ⟨a0, a1, a2, a3, a4, a5, a6, a7⟩ := so
  have n0 : T 0 ≠ 102 ∧ T 0 ≠ 33 ∧ T 0 ≠ 35 ∧ T 0 ≠ 38 ∧ T 0 ≠ 40 ∧ T 0 ≠ 39 ∧ T 0 ≠ 41 := ⟨fun q => by have := a0 q; omega, fun q => by have := a1 q; omega, fun q => by have := a2 q; omega, fun q => by have := a3 q; omega, fun q => by have := a4 q; omega, fun q => by have := a5 q; omega, fun q => by have := a6 q; omega⟩
  have o := a7 n0.1 n0.2.1 n0.2.2.1 n0.2.2.2.1 n0.2.2.2.2.1 n0.2.2.2.2.2.1 n0.2.2.2.2.2.2
  exact ⟨⟨n0, fun q => by have := o.1 q; omega, fun q => by have := o.2.1 q; omega⟩, o⟩
theorem ht_i (c : CEV V X ts f) {t : Int} (tel : Xi V 890 3 = tk7 (ty7 V)) (kt : kt7 (ty7 V) = t) (h : t ≠ 107) : 0 ≤ Xi V 890 3 ∧ Xi V 890 3 ≤ 5125 := by
  have u : -1 ≤ Xi V 890 3 ∧ Xi V 890 3 ≤ 5124 := c.2.1.1.c 890 3
  have n : Xi V 890 3 ≠ -1 := fun q => h (by rw [← kt]; exact kt_0 (by omega))
  omega
theorem tel_N (c : CEV V X ts f) (q1 : ty7 V (bA (ty7 V) 0) = 100) (t : tl7 (ty7 V (re7 (ty7 V) (bA (ty7 V) 0)))) (tel : Xi V 890 3 = tk7 (ty7 V)) (r : ty7 V (re7 (ty7 V) (bA (ty7 V) 0)) ≠ 107) : Xi V 890 3 = re7 (ty7 V) (bA (ty7 V) 0) := by
  have i := ty_in r
  have b := c.2.2.2.2.1
  rw [tel]
  exact tk_N q1 rfl (by omega) t
theorem tsp_all (c : CEV V X ts f) {x : Int} (k : chk (ty7 V) = (1, x)) (so : CKS V (ty7 V)) (s : 9 ≤ Xi V 890 2) (w : Xi V 891 11 = 0) : TSP V := by
  obtain ⟨g, o⟩ := cks_9 so s
  obtain ⟨tel, be, s17, s18, s19, s20⟩ := o.2.2 g.2.1 g.2.2
  by_cases B : kt7 (ty7 V) = 4 ∨ kt7 (ty7 V) = 5
  · by_cases nb : bp7 (ty7 V) 0
    · exact tsp_9 ((be B).1 nb) (pr_9 c (by rcases B with q | q <;> exact ht_i c tel q (by decide)))
    · exact tsp_b c k g B nb tel (be B) w (fun h => h)
  by_cases H : kt7 (ty7 V) = 12
  · have q := inv_17 k g.1 g.2.1 g.2.2 H
    exact tsp_17 (s17 H) (pr_17c c k g H (tel_N c q.1 (by rw [q.2.1]; decide) tel (by rw [q.2.1]; decide)))
  by_cases C : kt7 (ty7 V) = 13
  · have q := inv_18 k g.1 g.2.1 g.2.2 C
    exact tsp_18 (s18 C) (pr_18c c k g C (tel_N c q.1 (by rw [q.2.1]; decide) tel (by rw [q.2.1]; decide)))
  by_cases R : kt7 (ty7 V) = 21
  · have q := inv_19 k g.1 g.2.1 g.2.2 R
    exact tsp_19 (s19 R) (pr_19c c k g R (tel_N c q.1 (by rw [q.2.1]; decide) tel (by rw [q.2.1]; decide)))
  · exact tsp_20 (s20 B H C R) (pr_20 c)
/-- the sentences below 9, by how they begin -/
theorem cks_lt {T : Int → Int} (so : CKS V T) (s : Xi V 890 2 < 9) (h9 : OTS V T → NBG T → 9 ≤ Xi V 890 2) : (T 0 = 102 ∧ Xi V 890 2 = 0) ∨ (T 0 = 33 ∧ Xi V 890 2 = 1) ∨ (T 0 = 35 ∧ Xi V 890 2 = 2) ∨ ((T 0 = 38 ∧ Xi V 890 2 = 3) ∨ (T 0 = 40 ∧ Xi V 890 2 = 4) ∨ (T 0 = 39 ∧ Xi V 890 2 = 5) ∨ (T 0 = 41 ∧ Xi V 890 2 = 6)) ∨ ((T 0 = 2 ∧ T 1 = 25) ∧ Xi V 890 2 = 7) ∨ ((T 0 = 2 ∧ T 1 = 19) ∧ Xi V 890 2 = 8) := by
  obtain ⟨a0, a1, a2, a3, a4, a5, a6, a7⟩ := so
  by_cases b0 : T 0 = 102
  · exact Or.inl ⟨b0, a0 b0⟩
  by_cases b1 : T 0 = 33
  · exact Or.inr (Or.inl ⟨b1, a1 b1⟩)
  by_cases b2 : T 0 = 35
  · exact Or.inr (Or.inr (Or.inl ⟨b2, a2 b2⟩))
  by_cases b3 : T 0 = 38
  · exact Or.inr (Or.inr (Or.inr (Or.inl (Or.inl ⟨b3, a3 b3⟩))))
  by_cases b4 : T 0 = 40
  · exact Or.inr (Or.inr (Or.inr (Or.inl (Or.inr (Or.inl ⟨b4, a4 b4⟩)))))
  by_cases b5 : T 0 = 39
  · exact Or.inr (Or.inr (Or.inr (Or.inl (Or.inr (Or.inr (Or.inl ⟨b5, a5 b5⟩))))))
  by_cases b6 : T 0 = 41
  · exact Or.inr (Or.inr (Or.inr (Or.inl (Or.inr (Or.inr (Or.inr ⟨b6, a6 b6⟩))))))
  have o := a7 b0 b1 b2 b3 b4 b5 b6
  by_cases b7 : T 0 = 2 ∧ T 1 = 25
  · exact Or.inr (Or.inr (Or.inr (Or.inr (Or.inl ⟨b7, o.1 b7⟩))))
  by_cases b8 : T 0 = 2 ∧ T 1 = 19
  · exact Or.inr (Or.inr (Or.inr (Or.inr (Or.inr ⟨b8, o.2.1 b8⟩))))
  have := h9 o ⟨⟨b0, b1, b2, b3, b4, b5, b6⟩, b7, b8⟩
  omega
/-- of a sentence that is good, with is or are, the sort is 9 to 16 -/
theorem ots_9 (c : CEV V X ts f) {x : Int} (k : chk (ty7 V) = (1, x)) (o : OTS V (ty7 V)) (g : NBG (ty7 V)) : 9 ≤ Xi V 890 2 := by
  obtain ⟨tel, be, s17, s18, s19, s20⟩ := o.2.2 g.2.1 g.2.2
  by_cases B : kt7 (ty7 V) = 4 ∨ kt7 (ty7 V) = 5
  · by_cases nb : bp7 (ty7 V) 0
    · rw [(be B).1 nb]; decide
    · obtain ⟨fn, ht, y, b⟩ := tel_B c k g B nb tel (be B)
      rw [b]
      unfold bes crs
      repeat' split
      all_goals decide
  by_cases H : kt7 (ty7 V) = 12
  · rw [s17 H]; decide
  by_cases C : kt7 (ty7 V) = 13
  · rw [s18 C]; decide
  by_cases R : kt7 (ty7 V) = 21
  · rw [s19 R]; decide
  · rw [s20 B H C R]; decide
/-- 0, 1, 7, 8: all that is wanted; 2 .. 6 given BP2, BP3 -/
theorem bgp_all (c : CEV V X ts f) {x : Int} (k : chk (ty7 V) = (1, x)) (so : CKS V (ty7 V)) (s : Xi V 890 2 < 9) (p2 : ty7 V 0 = 35 → BP2 V) (p3 : (ty7 V 0 = 38 ∨ ty7 V 0 = 40 ∨ ty7 V 0 = 39 ∨ ty7 V 0 = 41) → BP3 V ts) : BGP V ts := by
  rcases cks_lt so s (fun o g => ots_9 c k o g) with ⟨t, q⟩ | ⟨t, q⟩ | ⟨t, q⟩ | h | ⟨t, q⟩ | ⟨t, q⟩
  · exact bgp_0 q (pr_0 c t)
  · exact bgp_1 q (pr_1 c k t)
  · exact bgp_2 q (p2 t)
  · exact bgp_3 (by omega) (p3 (by omega))
  · exact bgp_7 q (pr_7 c k t.1 t.2)
  · exact bgp_8 q (pr_8 c k t.1 t.2)
end
end
section
/-! where tests lie, of a sentence that both sides read -/
theorem ty_101 {V : sS} {i : Int} (h : ty7 V i = 101) : 0 ≤ i ∧ i < Xi V 876 7 ∧ Xi V 877 i.toNat = 101 := by
  have t := ty_in (U := V) (i := i) (by omega)
  refine ⟨t.1, t.2, ?_⟩
  unfold ty7 at h
  rw [if_pos t] at h
  exact h
/-- a test of a thing asks no number -/
theorem shn_r {U S : sS} {f c : Nat} {a b : Int} (v : ENV U S f) (h0 : 0 ≤ a) (hb : b < Xi U 876 7) (t : TSTR (tkR S) S c (f + a) (f + b) 0) (z : SHC U S f c a b 0) : numT U (isP U a b) = 0 := by
  have v' := v
  obtain ⟨h, sc, tb, sl, _, f5, _⟩ := v'
  have n5 := sc.2
  obtain ⟨ab, _, et⟩ := te_r sc tb h0 hb t
  have key : ∀ (i k : Int), 0 ≤ i → i ≤ b → 100 ≤ k → k < 200 → (tkR S (f + i) = k ↔ ty7 U i = k - 100) := fun i k i0 i1 k0 k1 => by
    rw [tkx sc ⟨by omega, by omega⟩]
    exact tr_key (tb i) ⟨k0, k1⟩
  have free : ∀ i : Int, 0 ≤ i → i ≤ b → (tkR S (f + i) = 3 ↔ ty7 U i = 100) := fun i i0 i1 => by
    rw [tkx sc ⟨by omega, by omega⟩]
    exact (tr_k (tb i)).1
  obtain ⟨t1, t2, _, tt⟩ := t
  rcases tt with ⟨_, k1, _⟩ | ⟨_, _, q, r, k1, k2, k3, k4⟩ | ⟨_, nb, r, g, k1, k2, k3, k4⟩
  · rcases z.2.2.2.2.2.2 with ⟨_, y, _⟩ | ⟨_, _, y, _⟩ <;> omega
  · obtain ⟨q0, p1, p2, p3, p4, p5⟩ := k1
    obtain ⟨th1, th2⟩ := the_in k2
    obtain ⟨tw1, tw2⟩ := twe_in k4
    have p21 := p2.1
    obtain ⟨R, rfl⟩ : ∃ x : Int, r = f + x := ⟨r - f, by omega⟩
    obtain ⟨O, rfl⟩ : ∃ x : Int, q0 = f + x := ⟨q0 - f, by omega⟩
    subst p4
    have rqO := rq_r (a := a + 1) (e := O) sc tb (by omega) (by omega) (by rw [show (f : Int) + (a + 1) = f + a + 1 by omega]; exact p2)
    have eO : re7 (ty7 U) (a + 1) = O := re_u (by omega) (by omega) rqO.2.1 rqO.2.2
    have bp : bpP U a := ⟨(key a 102 h0 (by omega) (by omega) (by omega)).1 p1, rqO.2.1 (a + 1) (by omega) (by omega), by rw [eO]; exact (key O 107 (by omega) (by omega) (by omega) (by omega)).1 p3⟩
    exact absurd bp z.1
  · obtain ⟨th1, th2⟩ := the_in k1
    obtain ⟨R, rfl⟩ : ∃ x : Int, r = f + x := ⟨r - f, by omega⟩
    obtain ⟨G, rfl⟩ : ∃ x : Int, g = f + x := ⟨g - f, by omega⟩
    have Gb : (G = R + 1 ∨ G = R + 2) ∧ G < b := by
      have x1 : G = R + 1 ∨ G = R + 2 := by rcases k3 with ⟨_, _, w⟩ | ⟨_, _, w⟩ <;> omega
      refine ⟨x1, ?_⟩
      rcases k4 with ⟨_, _, w, _⟩ | ⟨_, _, _, o, w1, w2⟩
      · have := w.1; omega
      · have := (ple_in (now := 0) w1).1
        have := (the_in w2).1
        omega
    have eR : isP U a b = R := by
      refine fo7_y ((key R 104 (by omega) (by omega) (by omega) (by omega)).1 k2) (R - a).toNat a (by omega) (by omega) (fun j j1 j2 w => ?_)
      exact (lse_n (now := 0) (th2 (f + j) (by omega) (by omega))).2 ((key j 104 (by omega) (by omega) (by omega) (by omega)).2 (by omega))
    have a6 := key (R + 1) 106 (by omega) (by omega) (by omega) (by omega)
    rw [show (f : Int) + (R + 1) = f + R + 1 by omega] at a6
    have kk := fun k => key G k (by omega) (by omega)
    have n : ty7 U (R + 1) ≠ 51 ∧ ty7 U (R + 1) ≠ 52 := by
      rcases k3 with ⟨w1, _, w3⟩ | ⟨w1, _, w3⟩
      · have := a6.1 w1; omega
      · have eG : R + 1 = G := by omega
        rw [eG]
        rcases k4 with ⟨w1, _⟩ | ⟨_, _, _, o, w4, _⟩
        · have := (free G (by omega) (by omega)).1 w1; omega
        · rcases w4 with ⟨x1, _⟩ | ⟨x1, _⟩ | ⟨x1, _⟩ | ⟨x1, _⟩ | ⟨x1, _⟩
          · have := (kk 108 (by omega) (by omega)).1 x1; omega
          · have := (kk 109 (by omega) (by omega)).1 x1; omega
          · have := (kk 129 (by omega) (by omega)).1 x1; omega
          · have := (kk 130 (by omega) (by omega)).1 x1; omega
          · have := (kk 131 (by omega) (by omega)).1 x1; omega
    rw [eR]
    unfold numT
    rw [if_neg (by omega)]
end
section
/-! where tests lie, and what definitions want of the class -/
theorem tpq_t {A S : sS} {f N : Nat} {a e : Int} (v : ENV A S f) (h0 : 0 ≤ a) (ch : TCH A S f a N) (hN : 0 < N) (en : eT7 A a (N - 1) = e) (ne : ty7 A e ≠ 16) (t0 : ty7 A 0 ≠ 51 ∧ ty7 A 0 ≠ 52) (r : Xi A 876 7 ≤ 5001) (nv : NVL A) : TPQ A a := fun k hk hj => by
  have kn : k < N := by
    by_cases w : k < N
    · exact w
    · have z := hj (N - 1) (by omega)
      rw [en] at z
      exact absurd z ne
  obtain ⟨p1, p2, p3, p4⟩ := ch k kn
  obtain ⟨_, _, _, _, sh⟩ := shp_r v (by omega) (by omega) (Or.inl rfl) p1
  refine ⟨⟨by omega, by omega, by omega, by omega⟩, ?_, fun nt => ?_⟩
  · rcases sh with ⟨_, _, z⟩ | z | z
    · exact Or.inl z
    · have z1 := z.2.1
      have z2 := z.2.2.1
      exact Or.inr ⟨by omega, by omega⟩
    · have z1 := z.2.1
      have z2 := z.2.2.1
      exact Or.inr ⟨by omega, by omega⟩
  · rcases sh with ⟨_, _, z⟩ | z | z
    · rw [z] at nt
      unfold numT at nt
      rw [show (-1 : Int) + 1 = 0 from rfl, if_neg (by omega)] at nt
      exact absurd nt (by decide)
    · have z1 := z.2.1
      rcases z.2.2.2.2.2.2 with ⟨_, _, _, y, _, b⟩ | ⟨y, _⟩
      · have u := ty_101 y
        have w := nv (isP A (pT7 A a k) (eT7 A a k) + 3).toNat (by omega) u.2.2
        exact ⟨u.2.1, w.1, w.2⟩
      · omega
    · have y := shn_r v (by omega) (by omega) p1 z
      omega
theorem tpq_e {A S : sS} {f N : Nat} {a e : Int} (w : ENW A S f) (sl : (Xi A 895 3 = 54 ∨ Xi A 895 3 = 53) ∧ (-1 ≤ Xi A 895 4 ∧ Xi A 895 4 < Xi A 5 0) ∧ Xi A 5 0 ≤ 16) (h0 : 0 ≤ a) (ts : TSQ (tkR S) S 0 (f + a) N (f + e)) (hN : 0 < N) (he : e < Xi A 876 7) (ne : ty7 A e ≠ 16) (t0 : ty7 A 0 ≠ 51 ∧ ty7 A 0 ≠ 52) (r : Xi A 876 7 ≤ 5001) (nv : NVL A) : TPQ A a := by
  rcases sl.1 with q | q
  · have FS : FR [(904, 905, 115, 116), (904, 905, 116, 117)] S (uI (uI S 904 115 (Int32.ofInt (Xi A 895 4))) 904 116 (Int32.ofInt (-1))) := FR.wI (FR.wI FR.rf rfl) rfl
    have v : ENV A (uI (uI S 904 115 (Int32.ofInt (Xi A 895 4))) 904 116 (Int32.ofInt (-1))) f := by
      refine env_s (enw_k w KEP.rf (FS.kep rfl)) ⟨Or.inl ⟨q, ?_, ?_⟩, sl.2.1⟩
      · rw [Xi_ne (by omega)]; exact (Xi_same (by unfold rg; omega)).symm
      · exact Xi_same (by unfold rg; omega)
    obtain ⟨ch, en, _⟩ := tch_of v w.2.1 h0 ts hN he (FS.kep rfl)
    exact tpq_t v h0 ch hN en ne t0 r nv
  · have FS : FR [(904, 905, 116, 117), (904, 905, 115, 116)] S (uI (uI S 904 116 (Int32.ofInt (Xi A 895 4))) 904 115 (Int32.ofInt (-1))) := FR.wI (FR.wI FR.rf rfl) rfl
    have v : ENV A (uI (uI S 904 116 (Int32.ofInt (Xi A 895 4))) 904 115 (Int32.ofInt (-1))) f := by
      refine env_s (enw_k w KEP.rf (FS.kep rfl)) ⟨Or.inr ⟨q, ?_, ?_⟩, sl.2.1⟩
      · rw [Xi_ne (by omega)]; exact (Xi_same (by unfold rg; omega)).symm
      · exact Xi_same (by unfold rg; omega)
    obtain ⟨ch, en, _⟩ := tch_of v w.2.1 h0 ts hN he (FS.kep rfl)
    exact tpq_t v h0 ch hN en ne t0 r nv
end
section
/-! what a definition wants of the class -/
theorem bp2_i {V X : sS} {ts f : Nat} (c : CEV V X ts f) (w : ENW V X f) (t0 : ty7 V 0 = 35) (de : DFE (tkR X) X 0 0 f (f + (Xi V 876 7 - 1))) (dot : ty7 V (Xi V 876 7 - 1) = 103) : BP2 V := by
  obtain ⟨N, k0, k1, tq, hN, n94, _, l2⟩ := po_2 w.2.1 w.2.2.1 de
  have h7 := c.2.2.2.2.1
  have ct := c.1.1.2.2.1
  have bk := c.1.2.2.2.1
  have e13 := cev_13 c
  have p5 := cev_5 c
  unfold RCT at ct
  unfold BKC at bk
  have k11 := k1.2.1
  have k12 := k1.2.2.1
  have k10 := k1.1
  refine ⟨⟨e13.1, c.1.1.1.2.2.1, cev_nb c, c.2.2.2.2.2.1, by omega, c.2.2.2.2.2.2, by omega, by omega⟩, fun A _ F sd => ?_⟩
  obtain ⟨s1, s2, s3, s4⟩ := sd
  by_cases q1 : fnd V 0 3 (re7 (ty7 V) 3) = -1
  · exact absurd (s1 q1).1 (by decide)
  by_cases q2 : nwC V (re7 (ty7 V) 3 + 1) (re7 (ty7 V) (re7 (ty7 V) 3 + 1))
  case neg => exact absurd (s2 q1 q2).1 (by decide)
  by_cases q3 : 24 ≤ Xi V 5 3
  · exact absurd (s3 q1 q2 q3).1 (by decide)
  obtain ⟨_, a8, a9, a2, a3, a53, a54⟩ := s4 q1 q2 (by omega)
  have kb := fnd_wc (U := V) (s := 0) (a := 3) (b := re7 (ty7 V) 3) (by decide) c.1.1.1.2.2.1 c.1.1.2.1 q1
  have kb2 : fnd V 0 3 (re7 (ty7 V) 3) < Xi V 5 0 := kb.2
  have wA : ENW A X f := enw_k w (F.kep rfl) KEP.rf
  have r7 : Xi A 876 7 = Xi V 876 7 := F.x 876 7 rfl
  have ty : ∀ i : Int, ty7 A i = ty7 V i := fun i => by unfold ty7; rw [r7, F.x 877 i.toNat rfl]
  have nvA : NVL A := fun j hj q => by
    rw [F.xj 879 j rfl]
    exact c.2.2.1.2.2.2 j (by omega) (by rw [← F.x 877 j rfl]; exact q)
  have x13 : Xi A 1 3 = Xi V 1 3 := F.x 1 3 rfl
  have x53 : Xi A 5 3 = Xi V 5 3 := F.x 5 3 rfl
  have x50 : Xi A 5 0 = Xi V 5 0 := F.x 5 0 rfl
  have x65 : Xi A 246 5 = Xi V 246 5 := F.x 246 5 rfl
  have x75 : Xi A 876 5 = Xi V 876 5 := F.x 876 5 rfl
  have sx : SRX A := by
    have s := c.2.2.1.2.1
    unfold SRX txr at s ⊢
    rw [(F 20 1 rfl).2.2]
    exact s
  have tp : TPQ A (Xi A 893 0 + 1) := by
    rw [a3]
    refine tpq_e wA ⟨Or.inl a53, by rw [a54, x50]; omega, by omega⟩ (by omega) tq hN (by omega) (by rw [ty, dot]; decide) (by rw [ty, t0]; decide) (by omega) nvA
  refine ⟨⟨by omega, ⟨by omega, wA.1.1.2.2.1, a8, by omega, by omega, wA.2.2.2.1.2.1, sx, nvA, wA.2.2.2.1.2.2, by omega, by omega, fun _ => tp⟩⟩, fun B _ G t => ?_⟩
  obtain ⟨n, n0, n6, _, tc, _⟩ := t.2.1 (by omega) rfl
  have y13 : Xi B 1 3 = Xi A 1 3 := G.x 1 3 rfl
  have y53 : Xi B 5 3 = Xi A 5 3 := G.x 5 3 rfl
  have y2 : Xi B 892 0 = Xi A 892 0 := G.x 892 0 rfl
  have y3 : Xi B 893 0 = Xi A 893 0 := G.x 893 0 rfl
  have t1 := tc.1
  have t2 := tc.2.1
  exact ⟨by omega, by omega, by omega, by omega, by omega⟩
end
section
/-! what a rule's head wants of the class -/
theorem pr_h3 {V X : sS} {ts f : Nat} (c : CEV V X ts f) : P_rr_ruleHead V := by
  have h7 := c.2.2.2.2.1
  have ct := c.1.1.2.2.1
  have bk := c.1.2.2.2.1
  have ak : ∀ j : Nat, -2 ≤ Xi V 19 j ∧ Xi V 19 j ≤ 15 := fun j => by
    have t := c.2.1.1.c 19 j
    have t2 : -2 ≤ Xi V 19 j ∧ Xi V 19 j ≤ 15 := t
    exact t2
  unfold RCT at ct
  unfold BKC at bk
  exact ⟨(cev_13 c).1, c.1.1.1.2.2.1, c.2.2.2.2.2.1, by omega, by omega, by omega, by omega, ak⟩
end
section
/-! a test of a thing asks no number, also behind now -/
theorem shn_n {U S : sS} {f c : Nat} {a b now : Int} (v : ENV U S f) (h0 : 0 ≤ a) (hb : b < Xi U 876 7) (t : TSTR (tkR S) S c (f + a) (f + b) now) (z : SHC U S f c a b now) : numT U (isP U a b) = 0 := by
  have v' := v
  obtain ⟨h, sc, tb, sl, _, f5, _⟩ := v'
  have n5 := sc.2
  obtain ⟨ab, _, et⟩ := te_r sc tb h0 hb t
  have key : ∀ (i k : Int), 0 ≤ i → i ≤ b → 100 ≤ k → k < 200 → (tkR S (f + i) = k ↔ ty7 U i = k - 100) := fun i k i0 i1 k0 k1 => by
    rw [tkx sc ⟨by omega, by omega⟩]
    exact tr_key (tb i) ⟨k0, k1⟩
  have free : ∀ i : Int, 0 ≤ i → i ≤ b → (tkR S (f + i) = 3 ↔ ty7 U i = 100) := fun i i0 i1 => by
    rw [tkx sc ⟨by omega, by omega⟩]
    exact (tr_k (tb i)).1
  obtain ⟨t1, t2, _, tt⟩ := t
  rcases tt with ⟨_, k1, _⟩ | ⟨_, _, q, r, k1, k2, k3, k4⟩ | ⟨_, nb, r, g, k1, k2, k3, k4⟩
  · rcases z.2.2.2.2.2.2 with ⟨_, y, _⟩ | ⟨_, _, y, _⟩ <;> omega
  · obtain ⟨q0, p1, p2, p3, p4, p5⟩ := k1
    obtain ⟨th1, th2⟩ := the_in k2
    obtain ⟨tw1, tw2⟩ := twe_in k4
    have p21 := p2.1
    obtain ⟨R, rfl⟩ : ∃ x : Int, r = f + x := ⟨r - f, by omega⟩
    obtain ⟨O, rfl⟩ : ∃ x : Int, q0 = f + x := ⟨q0 - f, by omega⟩
    subst p4
    have rqO := rq_r (a := a + 1) (e := O) sc tb (by omega) (by omega) (by rw [show (f : Int) + (a + 1) = f + a + 1 by omega]; exact p2)
    have eO : re7 (ty7 U) (a + 1) = O := re_u (by omega) (by omega) rqO.2.1 rqO.2.2
    have bp : bpP U a := ⟨(key a 102 h0 (by omega) (by omega) (by omega)).1 p1, rqO.2.1 (a + 1) (by omega) (by omega), by rw [eO]; exact (key O 107 (by omega) (by omega) (by omega) (by omega)).1 p3⟩
    exact absurd bp z.1
  · obtain ⟨th1, th2⟩ := the_in k1
    obtain ⟨R, rfl⟩ : ∃ x : Int, r = f + x := ⟨r - f, by omega⟩
    obtain ⟨G, rfl⟩ : ∃ x : Int, g = f + x := ⟨g - f, by omega⟩
    have Gb : (G = R + 1 ∨ G = R + 2) ∧ G < b := by
      have x1 : G = R + 1 ∨ G = R + 2 := by rcases k3 with ⟨_, _, w⟩ | ⟨_, _, w⟩ <;> omega
      refine ⟨x1, ?_⟩
      rcases k4 with ⟨_, _, w, _⟩ | ⟨_, _, _, o, w1, w2⟩
      · have := w.1; omega
      · have := (ple_in (now := now) w1).1
        have := (the_in w2).1
        omega
    have eR : isP U a b = R := by
      refine fo7_y ((key R 104 (by omega) (by omega) (by omega) (by omega)).1 k2) (R - a).toNat a (by omega) (by omega) (fun j j1 j2 w => ?_)
      exact (lse_n (now := now) (th2 (f + j) (by omega) (by omega))).2 ((key j 104 (by omega) (by omega) (by omega) (by omega)).2 (by omega))
    have a6 := key (R + 1) 106 (by omega) (by omega) (by omega) (by omega)
    rw [show (f : Int) + (R + 1) = f + R + 1 by omega] at a6
    have kk := fun k => key G k (by omega) (by omega)
    have n : ty7 U (R + 1) ≠ 51 ∧ ty7 U (R + 1) ≠ 52 := by
      rcases k3 with ⟨w1, _, w3⟩ | ⟨w1, _, w3⟩
      · have := a6.1 w1; omega
      · have eG : R + 1 = G := by omega
        rw [eG]
        rcases k4 with ⟨w1, _⟩ | ⟨_, _, _, o, w4, _⟩
        · have := (free G (by omega) (by omega)).1 w1; omega
        · rcases w4 with ⟨x1, _⟩ | ⟨x1, _⟩ | ⟨x1, _⟩ | ⟨x1, _⟩ | ⟨x1, _⟩
          · have := (kk 108 (by omega) (by omega)).1 x1; omega
          · have := (kk 109 (by omega) (by omega)).1 x1; omega
          · have := (kk 129 (by omega) (by omega)).1 x1; omega
          · have := (kk 130 (by omega) (by omega)).1 x1; omega
          · have := (kk 131 (by omega) (by omega)).1 x1; omega
    rw [eR]
    unfold numT
    rw [if_neg (by omega)]
/-- where the number of a test lies -/
theorem num_i {A S : sS} {f c : Nat} {a b now : Int} (v : ENV A S f) (h0 : 0 ≤ a) (hb : b < Xi A 876 7) (hn : now = 0 ∨ now = 1) (t : TSTR (tkR S) S c (f + a) (f + b) now) (t0 : ty7 A 0 ≠ 51 ∧ ty7 A 0 ≠ 52) (r : Xi A 876 7 ≤ 5001) : (isP A a b = -1 ∨ (a < isP A a b ∧ isP A a b < b)) ∧ (numT A (isP A a b) = 1 → ty7 A (isP A a b + 3) = 101 ∧ a < isP A a b ∧ isP A a b + 3 < b) := by
  obtain ⟨_, _, _, _, sh⟩ := shp_r v h0 hb hn t
  refine ⟨?_, fun nt => ?_⟩
  · rcases sh with ⟨_, _, z⟩ | z | z
    · exact Or.inl z
    · exact Or.inr ⟨z.2.1, z.2.2.1⟩
    · exact Or.inr ⟨z.2.1, z.2.2.1⟩
  · rcases sh with ⟨_, _, z⟩ | z | z
    · rw [z] at nt
      unfold numT at nt
      rw [show (-1 : Int) + 1 = 0 from rfl, if_neg (by omega)] at nt
      exact absurd nt (by decide)
    · rcases z.2.2.2.2.2.2 with ⟨_, _, _, y, _, b⟩ | ⟨y, _⟩
      · exact ⟨y, z.2.1, b⟩
      · omega
    · have y := shn_n v h0 hb t z
      omega
end
section
/-! what a phrase wants of the class -/
theorem fo_t {T U : Int → Int} {k b R : Int} (g : ∀ i : Int, 0 ≤ i → i < R → T i = U i) (hb : b ≤ R) (n : Nat) : ∀ a : Int, 0 ≤ a → a + n ≤ b → fo7F T k b n a = fo7F U k b n a := by
  induction n with
  | zero => intro a _ _; rw [fo7F, fo7F]
  | succ n ih =>
    intro a h0 h1
    have i1 := ih (a + 1) (by omega) (by omega)
    have e := g a h0 (by omega)
    rw [fo7F, fo7F, e, i1]
theorem isP_t {A T : sS} {a b : Int} (g : ∀ i : Int, 0 ≤ i → i < Xi A 876 7 → ty7 T i = ty7 A i) (h0 : 0 ≤ a) (hb : b ≤ Xi A 876 7) : isP T a b = isP A a b := by
  unfold isP fo7
  by_cases q : a ≤ b
  · exact fo_t g hb (b - a).toNat a h0 (by omega)
  · rw [show (b - a).toNat = 0 by omega, fo7F, fo7F]
theorem ren_b {S : sS} {lim : Int} : ∀ (n : Nat) (r : Int), ren S lim n r ≤ r ∨ ren S lim n r ≤ lim
  | 0, r => Or.inl (Int.le_refl _)
  | n + 1, r => by
    by_cases h : 0 ≤ r ∧ r < lim ∧ r < Xi S 876 7 ∧ Xi S 877 r.toNat = 100
    · have i := ren_b (S := S) (lim := lim) n (r + 1)
      rw [ren, if_pos h]
      omega
    · rw [ren_e h]; exact Or.inl (Int.le_refl _)
theorem whe_b {T : sS} {a l : Int} (h : a ≤ l) (hl : l ≤ 5130) : wheC T a l ≤ 5139 := by
  unfold wheC the7
  split
  · split <;> omega
  · have t := ren_b (S := T) (lim := l) 5131 (bA (ty7 T) a)
    have b := bA_c (T := ty7 T) (a := a)
    show ren T l 5131 (bA (ty7 T) a) ≤ 5139
    omega
theorem phb_i {A S T : sS} {f c m : Nat} {p e : Int} (v : ENV A S f) (h0 : 0 ≤ p) (pe : p < e) (he : e < Xi A 876 7) (ph : PHE (tkR S) S c m (f + p) (f + e)) (t0 : ty7 A 0 ≠ 51 ∧ ty7 A 0 ≠ 52) (r : Xi A 876 7 ≤ 5001) (nv : NVL A) (g : AGU A T) (e6 : Xi A 876 6 = Xi A 876 7) (e6T : Xi T 876 6 = Xi A 876 6) : PHB T (ty7 A p) p e := by
  have sc := v.2.1
  have tb := v.2.2.1
  have g2 := g.2.1
  have tyT : ∀ i : Int, 0 ≤ i → i < Xi A 876 7 → ty7 T i = ty7 A i := fun i i0 i1 => by
    unfold ty7
    have iT : i < Xi T 876 7 := by omega
    rw [if_pos ⟨i0, iT⟩, if_pos ⟨i0, i1⟩]
    exact (g.1 i.toNat (by omega)).1
  have key : ∀ (i k : Int), 0 ≤ i → i ≤ e → 100 ≤ k → k < 200 → (tkR S (f + i) = k ↔ ty7 A i = k - 100) := fun i k i0 i1 k0 k1 => by
    rw [tkx sc ⟨by omega, by omega⟩]
    exact tr_key (tb i) ⟨k0, k1⟩
  have num : ∀ i : Int, 0 ≤ i → i ≤ e → (tkR S (f + i) = 4 ↔ ty7 A i = 101) ∧ (tkR S (f + i) = 5 ↔ ty7 A i = 102) := fun i i0 i1 => by
    rw [tkx sc ⟨by omega, by omega⟩]
    exact tr_101 (tb i)
  have nm : ∀ i : Int, ty7 A i = 101 → 0 ≤ Xj T 879 i.toNat ∧ Xj T 879 i.toNat ≤ 2147483647 := fun i q => by
    have u := ty_101 q
    rw [(g.1 i.toNat (by omega)).2.2]
    exact nv i.toNat (by omega) u.2.2
  have kp := fun k => key p k h0 (by omega)
  rcases ph with ⟨x1, _, _, x4, x5⟩ | ⟨x1, _, x3⟩ | ⟨x1, _, _⟩ | ⟨x1, q, s, y1, y2, y3, y4, y5, y6⟩ | ⟨x1, _⟩ | ⟨x1, _⟩
  · have k := (kp 143 (by omega) (by omega)).1 x1
    have n := (num (p + 1) (by omega) (by omega)).2.1 (by rw [show (f : Int) + (p + 1) = f + p + 1 by omega]; exact x4)
    exact ⟨fun _ => ⟨by rw [tyT _ (by omega) (by omega)]; exact n, by omega⟩, fun z => by omega, fun z => by omega, fun z => by omega⟩
  · have k := (kp 144 (by omega) (by omega)).1 x1
    rw [show (f : Int) + p + 1 = f + (p + 1) by omega] at x3
    obtain ⟨n1, n2⟩ := num_i v (by omega) he (Or.inr rfl) x3 t0 r
    have eI := isP_t (a := p + 1) (b := e) tyT (by omega) (by omega)
    refine ⟨fun z => by omega, fun _ => ⟨by omega, ?_, fun nt => ?_⟩, fun z => by omega, fun z => by omega⟩
    · rw [eI]
      rcases n1 with w | w
      · exact Or.inl w
      · exact Or.inr ⟨by omega, by omega⟩
    · rw [eI] at nt ⊢
      have nA : numT A (isP A (p + 1) e) = 1 := by
        unfold numT at nt ⊢
        rw [tyT _ (by omega) (by omega)] at nt
        exact nt
      obtain ⟨m1, m2, m3⟩ := n2 nA
      have w := nm _ m1
      exact ⟨by omega, w.1, w.2⟩
  · have k := (kp 145 (by omega) (by omega)).1 x1
    exact ⟨fun z => by omega, fun z => by omega, fun _ => whe_b (by omega) (by omega), fun z => by omega⟩
  · have k : ty7 A p = 46 ∨ ty7 A p = 47 := by
      rcases x1 with ⟨x, _⟩ | ⟨x, _⟩
      · exact Or.inl ((kp 146 (by omega) (by omega)).1 x)
      · exact Or.inr ((kp 147 (by omega) (by omega)).1 x)
    have n := (num (e - 1) (by omega) (by omega)).1.1 (by rw [show (f : Int) + (e - 1) = s + 1 by omega]; exact y5)
    have w := nm _ n
    exact ⟨fun z => by omega, fun z => by omega, fun z => by omega, fun _ => ⟨by omega, by omega, w.1, w.2⟩⟩
  · have k := (kp 149 (by omega) (by omega)).1 x1
    exact ⟨fun z => by omega, fun z => by omega, fun z => by omega, fun z => by omega⟩
  · have k := (kp 148 (by omega) (by omega)).1 x1
    exact ⟨fun z => by omega, fun z => by omega, fun z => by omega, fun z => by omega⟩
end
section
/-! where phrases lie, and what they want of the class -/
theorem ppq_t {B S : sS} {f N K : Nat} {a e : Int} (v : ENV B S f) (h0 : 0 ≤ a) (ch : PCHN B S f N a K) (hK : 0 < K) (en : eP7 B a (K - 1) = e) (ne : ty7 B e ≠ 105) (t0 : ty7 B 0 ≠ 51 ∧ ty7 B 0 ≠ 52) (r : Xi B 876 7 ≤ 5001) (nv : NVL B) (e6 : Xi B 876 6 = Xi B 876 7) : PPQ B a := fun k hk hj => by
  have kn : k < K := by
    by_cases w : k < K
    · exact w
    · have z := hj (K - 1) (by omega)
      rw [en] at z
      exact absurd z ne
  obtain ⟨p1, _, _, p2, p3, p4⟩ := ch k kn
  exact ⟨⟨by omega, by omega, by omega, by omega⟩, v.2.2.1 _, fun T g e6T => phb_i v (by omega) p3 p4 p1 t0 r nv g e6 e6T⟩
theorem ppq_e {B S : sS} {f N K : Nat} {a e : Int} (w : ENW B S f) (sl : (Xi B 895 3 = 54 ∨ Xi B 895 3 = 53) ∧ (-1 ≤ Xi B 895 4 ∧ Xi B 895 4 < Xi B 5 0) ∧ Xi B 5 0 ≤ 16) (h0 : 0 ≤ a) (ps : PSQ (tkR S) S N 0 (f + a) K (f + e)) (hK : 0 < K) (he : e < Xi B 876 7) (ne : ty7 B e ≠ 105) (t0 : ty7 B 0 ≠ 51 ∧ ty7 B 0 ≠ 52) (r : Xi B 876 7 ≤ 5001) (nv : NVL B) (e6 : Xi B 876 6 = Xi B 876 7) : PPQ B a := by
  rcases sl.1 with q | q
  · have FS : FR [(904, 905, 115, 116), (904, 905, 116, 117)] S (uI (uI S 904 115 (Int32.ofInt (Xi B 895 4))) 904 116 (Int32.ofInt (-1))) := FR.wI (FR.wI FR.rf rfl) rfl
    have v : ENV B (uI (uI S 904 115 (Int32.ofInt (Xi B 895 4))) 904 116 (Int32.ofInt (-1))) f := by
      refine env_s (enw_k w KEP.rf (FS.kep rfl)) ⟨Or.inl ⟨q, ?_, ?_⟩, sl.2.1⟩
      · rw [Xi_ne (by omega)]; exact (Xi_same (by unfold rg; omega)).symm
      · exact Xi_same (by unfold rg; omega)
    obtain ⟨ch, en, _⟩ := pch_of w.2.1 w.2.2.1 h0 ps hK he (FS.kep rfl)
    exact ppq_t v h0 ch hK en ne t0 r nv e6
  · have FS : FR [(904, 905, 116, 117), (904, 905, 115, 116)] S (uI (uI S 904 116 (Int32.ofInt (Xi B 895 4))) 904 115 (Int32.ofInt (-1))) := FR.wI (FR.wI FR.rf rfl) rfl
    have v : ENV B (uI (uI S 904 116 (Int32.ofInt (Xi B 895 4))) 904 115 (Int32.ofInt (-1))) f := by
      refine env_s (enw_k w KEP.rf (FS.kep rfl)) ⟨Or.inr ⟨q, ?_, ?_⟩, sl.2.1⟩
      · rw [Xi_ne (by omega)]; exact (Xi_same (by unfold rg; omega)).symm
      · exact Xi_same (by unfold rg; omega)
    obtain ⟨ch, en, _⟩ := pch_of w.2.1 w.2.2.1 h0 ps hK he (FS.kep rfl)
    exact ppq_t v h0 ch hK en ne t0 r nv e6
end
section
/-! what a rule wants of the class: the head leaves this (no run of the reference is needed) -/
theorem hdc_n {H D S : sS} {f ru : Nat} {a o k : Int} (w : ENW H S f) (kD : KEP [(19, 20), (21, 22)] [] H D) (r1 : Xi D (248 + ru) 1 = a) (r2 : Xi D (248 + ru) 2 = o) (r3 : Xi D (248 + ru) 3 = k) (ha : 0 ≤ a ∧ a < Xi H 5 8) (ho : -1 ≤ o ∧ o < Xi H 5 2) (hk : -1 ≤ k ∧ k < Xi H 5 0) : -1 ≤ nnK D ru ∧ nnK D ru < Xi H 5 0 := by
  have c0 := w.1.2.2.1.1
  unfold nnK
  rw [r1, r2, r3, kD.x 19 rfl, kD.x 21 rfl]
  unfold nnD
  by_cases qo : o ≠ -1
  · rw [if_pos qo]
    have oo := w.1.2.2.2.2.2.2.2.2.2.1.1.2 o.toNat (by omega)
    rw [oo.1, if_neg (by omega)]; omega
  · rw [if_neg qo]
    by_cases qk : k ≠ -1
    · rw [if_pos qk, if_neg (by omega)]; omega
    · rw [if_neg qk]
      have aa := w.1.2.2.2.2.2.2.2.2.1.2 a.toNat (by omega)
      split <;> omega
theorem hdc_x {U A S : sS} {f : Nat} {s hd : Int} (w : ENW U S f) (b5 : 0 ≤ Xi U 246 5 ∧ Xi U 246 5 + 5 ≤ 600) (lt : 0 ≤ Xi U 246 2 ∧ Xi U 246 2 < 24) (hs : s = 3 ∨ s = 4 ∨ s = 5 ∨ s = 6) (c : RHO md_rr_ruleHead__p U A s 1) (hde : HDE (tkR S) S s f (f + hd)) (hh : hd < Xi U 876 7) : (Xi A 899 5 = hd ∧ 1 ≤ hd) ∧ (Xi A 895 3 = 53 ∧ -1 ≤ Xi A 895 4 ∧ Xi A 895 4 < Xi U 5 0) ∧ (Xi U 246 5 ≤ Xi A 246 5 ∧ Xi A 246 5 ≤ Xi U 246 5 + 5) ∧ Xi A 876 8 = 0 := by
  obtain ⟨B, ⟨FB, rlm, kru, b3, b4, b99, _, bb5, b8, bcl⟩, c6, cn⟩ := c.2 lt.2
  obtain ⟨ru, eru⟩ : ∃ n : Nat, (Xi U 246 2).toNat = n := ⟨_, rfl⟩
  rw [eru] at rlm kru cn
  have wB : ENW B S f := enw_k w (FB.kep rfl) KEP.rf
  have tyB : ty7 B = ty7 U := ty7_k (FB.kep rfl)
  obtain ⟨o1, o2, o3, o4, o5, o6, o7, o8⟩ := rlm
  have rows : Xi B 876 7 = Xi U 876 7 := FB.x 876 7 rfl
  have c0 := w.1.2.2.1.1
  have n5 := w.2.1.2
  obtain ⟨st, h1, h2⟩ := hde
  have b6 : Xi B 899 5 = (if s = 3 ∨ s = 4 then 1 else 2) := b99
  by_cases s6 : s = 6
  · obtain ⟨x1, eA⟩ := c6 s6
    have hd2 : hd = 2 := by
      rcases h2 with ⟨_, _, y⟩ | ⟨y, _⟩
      · rcases h1 with ⟨z, _⟩ | ⟨_, z⟩
        · omega
        · omega
      · exact absurd s6 y
    rw [eA]
    exact ⟨⟨by rw [b6, if_neg (by omega), hd2], by omega⟩, ⟨b3, by omega, by omega⟩, by omega, b8⟩
  · obtain ⟨D, ww, FD, hww, ca, cb, d0, d1⟩ := cn s6
    have w1 : ww = 1 := by
      rcases hww with q | q
      · exact absurd (d0 q).1 (by decide)
      · exact q
    obtain ⟨_, eA⟩ := d1 w1
    have est : st = f + Xi B 899 5 := by
      rcases h1 with ⟨z1, _, z2⟩ | ⟨z1, z2⟩
      · rw [z2, b6, if_neg (show ¬ (s = 3 ∨ s = 4) by omega)]
      · rw [z2, b6, if_pos (head_s hs z1 s6)]
    have fr1 : 1 ≤ Xi B 899 5 ∧ Xi B 899 5 ≤ 2 := by rw [b6]; split <;> omega
    rcases h2 with ⟨y, _⟩ | ⟨_, r, rq, rr, h3⟩
    · exact absurd y s6
    rw [est] at rq rr
    have rlt := rq.1
    obtain ⟨R, rfl⟩ : ∃ y : Int, r = f + y := ⟨r - f, by omega⟩
    have Rh : R ≤ hd := by
      rcases h3 with ⟨_, _, y⟩ | ⟨_, y, _⟩
      · omega
      · have := y.1; omega
    have scS : SCX B S f := wB.2.1
    have tbB := wB.2.2.1
    have rqB := rq_r scS tbB (by omega) (by omega) rq
    have eR : re7 (ty7 B) (Xi B 899 5) = R := re_u (by omega) (by omega) rqB.2.1 rqB.2.2
    have rnB : RNR B S f (Xi S 904 102) (Xi B 899 5) R := rr_rnr (by omega) (by omega) ⟨rqB.1, rqB.2.1⟩ rr
    have arR : onA B ↔ ARK (tkR S (f + R)) := by
      unfold onA ARK
      rw [eR, tkx scS ⟨by omega, by omega⟩]
      have u := (tr_k (tbB R)).2.2.2
      exact ⟨fun y => u.2 y, fun y => u.1 y⟩
    generalize eH : hdB B = H at *
    have eH' := eH
    unfold hdB at eH'
    have FH : FR [(899, 900, 5, 6)] B H := by rw [← eH']; exact FR.wI FR.rf rfl
    have wH : ENW H S f := enw_k wB (FH.kep rfl) KEP.rf
    have tyH : ty7 H = ty7 B := ty7_k (FH.kep rfl)
    have rowH : ∀ j, Xi H (248 + ru) j = Xi B (248 + ru) j := fun j => by rw [← eH', Xi_ne (by omega)]
    have toH : ∀ {q x y : Int}, RNR B S f q x y → RNR H S f q x y := fun z => by
      unfold RNR at z ⊢
      rw [FH.x 876 7 rfl, tyH]
      exact z
    have rnH := toH rnB
    have h246 : Xi H 246 5 = Xi U 246 5 := by rw [FH.x 246 5 rfl]; exact bb5
    have e50 : Xi H 5 0 = Xi U 5 0 := (KEP.tr (FB.kep rfl) (FH.kep rfl) : KEP [(5, 6)] [] U H).x 5 rfl 0
    have kD : KEP [(19, 20), (21, 22)] [] H D := FD.kep rfl
    have FA : FR [(895, 896, 3, 4), (895, 896, 4, 5)] D A := by rw [eA]; exact FR.wI (FR.wI FR.rf rfl) rfl
    have a3 : Xi A 895 3 = 53 := by rw [eA, Xi_ne (by omega)]; exact Xi_same (by unfold rg; omega)
    have a5 : Xi A 246 5 = Xi D 246 5 := FA.x 246 5 rfl
    have a8 : Xi A 876 8 = Xi D 876 8 := FA.x 876 8 rfl
    have a9 : Xi A 899 5 = Xi D 899 5 := FA.x 899 5 rfl
    have c50 := w.1.2.2.1.1
    have done : (Xi H 899 5 = hd) → Xi D 899 5 = Xi H 899 5 → (-1 ≤ nnK D ru ∧ nnK D ru < Xi H 5 0) → (Xi H 246 5 ≤ Xi D 246 5 ∧ Xi D 246 5 ≤ Xi H 246 5 + 5) → Xi D 876 8 = 0 → (Xi A 899 5 = hd ∧ 1 ≤ hd) ∧ (Xi A 895 3 = 53 ∧ -1 ≤ Xi A 895 4 ∧ Xi A 895 4 < Xi U 5 0) ∧ (Xi U 246 5 ≤ Xi A 246 5 ∧ Xi A 246 5 ≤ Xi U 246 5 + 5) ∧ Xi A 876 8 = 0 := fun q1 q2 q3 q4 q5 => by
      have a4 : Xi A 895 4 = nnK D ru := by rw [eA]; exact Xi_same (by unfold rg; omega)
      exact ⟨⟨by omega, by omega⟩, ⟨a3, by omega, by omega⟩, ⟨by omega, by omega⟩, by omega⟩
    by_cases on : onA B
    · rcases h3 with ⟨y, _⟩ | ⟨_, rq2, rr2⟩
      · exact absurd (arR.1 on) y
      rw [show (f : Int) + R + 1 = f + (R + 1) by omega] at rq2 rr2
      have rqB2 := rq_r scS tbB (by omega) (by omega) rq2
      have eh2 : re7 (ty7 B) (R + 1) = hd := re_u (by omega) (by omega) rqB2.2.1 rqB2.2.2
      rw [if_pos on, eR, eh2] at eH'
      have hdv : Xi H 899 5 = hd := by rw [← eH']; exact Xi_same (by unfold rg; omega)
      have rm : RNR H S f (Xi S 904 103) (R + 1) hd := toH (rr_rnr (by omega) (by omega) ⟨rqB2.1, rqB2.2.1⟩ rr2)
      obtain ⟨ao, Fo⟩ := ca on
      rw [eR, hdv] at ao
      rw [w1] at ao
      have d99 : Xi D 899 5 = Xi H 899 5 := Fo.x 899 5 rfl
      by_cases q1 : fnd H 8 (Xi B 899 5) R = -1
      · exact absurd (ao.1 q1).1 (by decide)
      by_cases q2 : Xi H 19 (fnd H 8 (Xi B 899 5) R).toNat < 0
      · exact absurd (ao.2.1 q1 q2).1 (by decide)
      have ga : 0 ≤ fnd H 8 (Xi B 899 5) R ∧ fnd H 8 (Xi B 899 5) R < Xi H 5 8 := fnd_wc (by omega) wH.1.1.2.2.1 wH.1.2.1 q1
      have ar := ao.2.2 q1 (by omega)
      have ro2 : Xi H (248 + ru) 2 = -1 := by rw [rowH]; exact o3
      have ro3 : Xi H (248 + ru) 3 = -1 := by rw [rowH]; exact o4
      have c2' := wH.1.2.2.1.2.2.1
      have c0' := wH.1.2.2.1.1
      by_cases q3 : obI H (R + 1) hd (Xi H 19 (fnd H 8 (Xi B 899 5) R).toNat) + rdC H (R + 1) hd (Xi H 19 (fnd H 8 (Xi B 899 5) R).toNat) = 1
      · have b01 : obI H (R + 1) hd (Xi H 19 (fnd H 8 (Xi B 899 5) R).toNat) = 0 ∨ obI H (R + 1) hd (Xi H 19 (fnd H 8 (Xi B 899 5) R).toNat) = 1 := by unfold obI; split <;> omega
        rcases b01 with q4 | q4
        · obtain ⟨_, f8, n, en, ⟨m, m1, m2, m3, m4, m5, m6, m7, m8⟩, ac1, _, _⟩ := ar.2.2 q3 q4
          have rd1 : rdC H (R + 1) hd (Xi H 19 (fnd H 8 (Xi B 899 5) R).toNat) = 1 := by omega
          have q6 : hd - (R + 1) ≤ 6 := Classical.byContradiction (fun y => by unfold rdC at rd1; rw [if_neg y] at rd1; exact absurd rd1 (by decide))
          have ckb := (ck_r (pl := 0) wH.1 wH.2.1 rm ⟨m1.1, m1.2.1, m1.2.2⟩).2 (fun y => by unfold ccC at m2; rw [if_neg (fun z => z.1 y)] at m2; exact absurd m2 (by decide))
          have n5 : (n : Int) ≤ 5 := by
            rw [← en, m7.1]
            have := prs_f (f := fA H (ckC H hd 0 m) (R + 1) 1) (g := g1C H (R + 1)) (z := hd - m - (R + 1)) 6 5 0 (by omega) (by omega)
            rw [this]
            have := prs_len (f := fA H (ckC H hd 0 m) (R + 1) 1) (g := g1C H (R + 1)) (z := hd - m - (R + 1)) 5 0
            omega
          exact done hdv d99 (hdc_n wH kD m3 ((m6 2 (by omega) (by omega) (by omega)).trans ro2) m4 ga (by omega) (by omega)) (by omega) f8
        · obtain ⟨_, f8, aw1, aw2, aw3, aw4, aw5, aw6⟩ := ar.2.1 q3 q4
          have l100 : ty7 H (R + 1) = 100 := rm.2.2.2.2.2 (R + 1) (Int.le_refl _) (by have := rm.2.1; omega)
          have hwho : whoC H (R + 1) hd = fnd H 2 (R + 1) hd := by
            have b0 : bA (ty7 H) (R + 1) = R + 1 := by unfold bA art7; rw [if_neg (by omega)]
            have ru' := ru_u (U := H) (a := R + 1) (b := hd) (e := hd) (by omega) (Int.le_refl _) (by have := wH.2.1.2; omega) rm.2.2.2.2.2 (Or.inl rfl)
            have tk : thk (ty7 H) (R + 1) = 100 := by unfold thk; rw [if_neg (by omega)]; exact l100
            unfold whoC
            rw [tk, if_neg (by decide), b0, ru']
          have o1 : 0 ≤ whoC H (R + 1) hd := by
            unfold obI at q4
            by_cases y : 0 ≤ whoC H (R + 1) hd ∧ isK H (whkC H (R + 1) hd) (Xi H 19 (fnd H 8 (Xi B 899 5) R).toNat) ≠ 0
            · exact y.1
            · rw [if_neg y] at q4; exact absurd q4 (by decide)
          have g2 := whc_2 (a := R + 1) (b := hd) wH.1.1.2.2.1 wH.1.2.1 (by omega)
          exact done hdv d99 (hdc_n wH kD aw3 aw4 ((aw2 3 (by omega) (by omega)).trans ro3) ga (by omega) (by omega)) (by omega) f8
      · exact absurd (ar.1 q3).1 (by decide)
    · rcases h3 with ⟨_, n103, eh⟩ | ⟨y, _⟩
      · have eh : R = hd := by omega
        subst eh
        rw [if_neg on, eR] at eH'
        have hdv : Xi H 899 5 = R := by rw [← eH']; exact Xi_same (by unfold rg; omega)
        obtain ⟨aa, Fo⟩ := cb on
        rw [eR, w1] at aa
        have d5 : Xi D 246 5 = Xi H 246 5 := Fo.x 246 5 rfl
        have d99 : Xi D 899 5 = Xi H 899 5 := Fo.x 899 5 rfl
        obtain ⟨k1, k2, k3, k4, k5, k6⟩ := aa
        obtain ⟨x1, x2, x3⟩ := aa_x wH.1 wH.2.1 rnH
        by_cases q : (aaF H (Xi B 899 5) R (R - Xi B 899 5 - 1).toNat).2.2 = 1
        · obtain ⟨y1, y2, y3, y4⟩ := x3 (by rw [← x1]; exact q)
          have c2' := wH.1.2.2.1.2.2.1
          have c0' := wH.1.2.2.1.1
          exact done hdv d99 (hdc_n wH kD k3 k4 (((k2 3 (by omega) (by omega)).trans (rowH 3)).trans o4) y3 (by omega) (by omega)) (by omega) (k5 q).2
        · exact absurd (k6 q).1 (by decide)
      · exact absurd (arR.2 y) on

/-! what a rule wants of the class: all of it -/
theorem tch_5 {A S : sS} {f N : Nat} {a e : Int} (w : ENW A S f) (q : Xi A 895 3 = 53) (sl : -1 ≤ Xi A 895 4 ∧ Xi A 895 4 < Xi A 5 0) (h6 : Xi A 5 0 ≤ 16) (h0 : 0 ≤ a) (ts : TSQ (tkR S) S 0 (f + a) N (f + e)) (hN : 0 < N) (he : e < Xi A 876 7) : eT7 A a (N - 1) = e ∧ ∀ k : Nat, k + 1 < N → ty7 A (eT7 A a k) = 16 := by
  have FS : FR [(904, 905, 116, 117), (904, 905, 115, 116)] S (uI (uI S 904 116 (Int32.ofInt (Xi A 895 4))) 904 115 (Int32.ofInt (-1))) := FR.wI (FR.wI FR.rf rfl) rfl
  have v : ENV A (uI (uI S 904 116 (Int32.ofInt (Xi A 895 4))) 904 115 (Int32.ofInt (-1))) f := by
    refine env_s (enw_k w KEP.rf (FS.kep rfl)) ⟨Or.inr ⟨q, ?_, ?_⟩, sl⟩
    · rw [Xi_ne (by omega)]; exact (Xi_same (by unfold rg; omega)).symm
    · exact Xi_same (by unfold rg; omega)
  obtain ⟨_, en, mid⟩ := tch_of v w.2.1 h0 ts hN he (FS.kep rfl)
  exact ⟨en, mid⟩
theorem bp3_i {V X : sS} {ts f : Nat} {s : Int} (c : CEV V X ts f) (w : ENW V X f) (hs : s = 3 ∨ s = 4 ∨ s = 5 ∨ s = 6) (es : Xi V 890 2 = s) (t0 : ty7 V 0 ≠ 51 ∧ ty7 V 0 ≠ 52) (rue : RUE (tkR X) X 0 0 0 s f (f + (Xi V 876 7 - 1))) (dot : ty7 V (Xi V 876 7 - 1) = 103) : BP3 V ts := by
  refine ⟨pr_h3 c, fun A _ F ho => ?_⟩
  rw [es] at ho
  obtain ⟨N, K, h0, g0, hde, wht, tg, hK, psq, te, _, n98⟩ := rue
  rw [Nat.zero_add] at psq
  obtain ⟨hd, ehd⟩ : ∃ hd, h0 = f + hd := ⟨h0 - f, by omega⟩
  obtain ⟨g, eg⟩ : ∃ g, g0 = f + g := ⟨g0 - f, by omega⟩
  rw [ehd] at hde wht
  rw [eg] at wht tg psq
  have ge : (f : Int) + g + 1 < f + (Xi V 876 7 - 1) := by
    obtain ⟨n, rfl⟩ : ∃ n, K = n + 1 := ⟨K - 1, by omega⟩
    exact psq_lt n _ psq
  have hgg : hd ≤ g := by
    rcases wht with ⟨_, hN, k, _⟩ | ⟨_, _, k, _⟩
    · obtain ⟨n, rfl⟩ : ∃ n, N = n + 1 := ⟨N - 1, by omega⟩
      have := tsq_lt n _ k
      omega
    · omega
  have h7 := c.2.2.2.2.1
  have ct := c.1.1.2.2.1
  have c53 : Xi V 5 3 ≤ 24 := ct.2.2.2.1.2.2
  have c50 := ct.1
  have bk := c.1.2.2.2.1
  have bk1 := bk.1
  have bk4 := bk.2.2.2.1
  have bk5 := bk.2.2.2.2
  have e13 := cev_13 c
  have p5 := cev_5 c
  have lt : 0 ≤ Xi V 246 2 ∧ Xi V 246 2 < 24 := by
    refine ⟨bk4.2.1, ?_⟩
    by_cases q : 24 ≤ Xi V 246 2
    · exact absurd (ho.1 q).1 (by decide)
    · omega
  obtain ⟨⟨a9, hd1⟩, ⟨a3, a4, a4'⟩, ⟨a5, a5'⟩, a8⟩ := hdc_x w (by omega) lt hs ho hde (by omega)
  have wA : ENW A X f := enw_k w (F.kep rfl) KEP.rf
  have tyA : ty7 A = ty7 V := ty7_k (F.kep rfl)
  have r7 : Xi A 876 7 = Xi V 876 7 := F.x 876 7 rfl
  have r6 : Xi A 876 6 = Xi V 876 6 := F.x 876 6 rfl
  have nvA : NVL A := fun j hj q => by
    rw [F.xj 879 j rfl]
    exact c.2.2.1.2.2.2 j (by omega) (by rw [← F.x 877 j rfl]; exact q)
  have x13 : Xi A 1 3 = Xi V 1 3 := F.x 1 3 rfl
  have x50 : Xi A 5 0 = Xi V 5 0 := F.x 5 0 rfl
  have x75 : Xi A 876 5 = Xi V 876 5 := F.x 876 5 rfl
  have x68 : Xi A 246 8 = Xi V 246 8 := F.x 246 8 rfl
  have htp : tp ts := by
    have s1 := c.2.2.1.2.1
    rw [← c.2.2.1.2.2.1]
    exact s1.2
  have sx : SRX A := by
    have s := c.2.2.1.2.1
    unfold SRX txr at s ⊢
    rw [(F 20 1 rfl).2.2]
    exact s
  have tb := w.2.2.1
  have tyg : ty7 V g = 106 := t58_106 (tb g) (by rw [← tkx w.2.1 ⟨by omega, by omega⟩]; exact tg)
  have tkh := tkx w.2.1 (i := hd) ⟨by omega, by omega⟩
  have k37 : ty7 V hd = 37 → 0 < N ∧ TSQ (tkR X) X 0 (f + (hd + 1)) N (f + g) := fun q => by
    rcases wht with ⟨t37, hN, tsq, _⟩ | ⟨t37, _⟩
    · rw [show (f : Int) + hd + 1 = f + (hd + 1) by omega] at tsq
      exact ⟨hN, tsq⟩
    · exact absurd (by rw [tkh]; exact (tr_key (k := 137) (tb hd) (by omega)).2 q) t37
  have n37 : ty7 V hd ≠ 37 → g = hd := fun q => by
    rcases wht with ⟨t37, _⟩ | ⟨_, _, hg, _⟩
    · exact absurd ((tr_key (k := 137) (tb hd) (by omega)).1 (by rw [← tkh]; exact t37)) q
    · omega
  rw [a9, tyA]
  have tp : (if ty7 V hd = 37 then hd + 1 else -1) ≠ -1 → TPQ A (if ty7 V hd = 37 then hd + 1 else -1) := fun q => by
    by_cases y : ty7 V hd = 37
    · rw [if_pos y]
      obtain ⟨hN, tsq⟩ := k37 y
      exact tpq_e wA ⟨Or.inr a3, by omega, by omega⟩ (by omega) tsq hN (by omega) (by rw [tyA, tyg]; decide) (by rw [tyA]; exact t0) (by omega) nvA
    · rw [if_neg y] at q
      exact absurd rfl q
  have er : -1 ≤ (if ty7 V hd = 37 then hd + 1 else -1) ∧ (if ty7 V hd = 37 then hd + 1 else -1) ≤ 5120 := by split <;> omega
  refine ⟨⟨?_, er, ⟨by omega, wA.1.1.2.2.1, a8, by omega, by omega, wA.2.2.2.1.2.1, sx, nvA, wA.2.2.2.1.2.2, by omega, by omega, tp⟩⟩, fun B _ G t hte => ?_⟩
  · show 0 ≤ Xi A 899 5 ∧ Xi A 899 5 ≤ 5140
    omega
  have wB : ENW B X f := enw_k wA (G.kep rfl) KEP.rf
  have tyB : ty7 B = ty7 A := ty7_k (G.kep rfl)
  have q7 : Xi B 876 7 = Xi A 876 7 := G.x 876 7 rfl
  have q6 : Xi B 876 6 = Xi A 876 6 := G.x 876 6 rfl
  have q5 : Xi B 876 5 = Xi A 876 5 := G.x 876 5 rfl
  have q13 : Xi B 1 3 = Xi A 1 3 := G.x 1 3 rfl
  have q50 : Xi B 5 0 = Xi A 5 0 := G.x 5 0 rfl
  have q68 : Xi B 246 8 = Xi A 246 8 := G.x 246 8 rfl
  have q62 : Xi B 246 2 = Xi A 246 2 := G.x 246 2 rfl
  have a62 : Xi A 246 2 = Xi V 246 2 := F.x 246 2 rfl
  have b3 : Xi B 895 3 = Xi A 895 3 := G.x 895 3 rfl
  have b4 : Xi B 895 4 = Xi A 895 4 := G.x 895 4 rfl
  have nvB : NVL B := fun j hj q => by
    rw [G.xj 879 j rfl]
    exact nvA j (by omega) (by rw [← G.x 877 j rfl]; exact q)
  have sxB : SRX B := by
    unfold SRX txr at sx ⊢
    rw [(G 20 1 rfl).2.2]
    exact sx
  have byB : BYT B ts := BYT_F G rfl htp (BYT_F F rfl htp (cev_by c))
  have tt : Xi B 899 5 = g ∧ Xi B 876 8 = 0 ∧ Xi A 246 5 ≤ Xi B 246 5 ∧ Xi B 246 5 ≤ Xi A 246 5 + 6 := by
    by_cases y : ty7 V hd = 37
    · rw [if_pos y] at t hte
      obtain ⟨hN, tsq⟩ := k37 y
      obtain ⟨en, mid⟩ := tch_5 wA a3 ⟨a4, by omega⟩ (by omega) (by omega) tsq hN (by omega)
      obtain ⟨n, n0, n6, z8, tc, _⟩ := t.2.1 (by omega) rfl
      obtain ⟨m, p1, p2, p3, p4, p5⟩ := (hte rfl).2 (by omega)
      have nN : m = N := by
        by_cases c : m < N
        · exact absurd (mid (m - 1) (by omega)) p4
        · by_cases c2 : N < m
          · have := p3 (N - 1) (by omega)
            rw [en, tyA, tyg] at this
            exact absurd this (by decide)
          · omega
      have t2 := tc.2.1
      refine ⟨by rw [p5, nN]; exact en, z8, by omega, by omega⟩
    · rw [if_neg y] at t hte
      obtain ⟨_, z8, tc⟩ := t.1 rfl
      have t2 := tc.2.1
      have t3 := (hte rfl).1 rfl
      have := n37 y
      exact ⟨by omega, z8, by omega, by omega⟩
  obtain ⟨t9, t8, t5, t6⟩ := tt
  rw [show (f : Int) + g + 1 = f + (g + 1) by omega] at psq
  have pq : PPQ B (Xi B 899 5 + 1) := by
    rw [t9]
    exact ppq_e wB ⟨Or.inr (by omega), by omega, by omega⟩ (by omega) psq hK (by omega) (by rw [tyB, tyA, dot]; decide) (by rw [tyB, tyA]; exact t0) (by omega) nvB (by omega)
  exact ⟨by omega, wB.1.1.2.2.1, t8, by omega, byB, by omega, wB.2.2.2.1.2.1, sxB, nvB, wB.2.2.2.1.2.2, by omega, by omega, by omega, by omega, by omega, by omega, by omega, pq⟩
end
section
/-! the reference: what asking wants -/
/-- the reference has read a sentence without anything odd -/
def RPV (V : sS) (n : Nat) : Prop := HI V ∧ (LXM V ∧ ABV V) ∧ (TK V n ∧ TXK V n) ∧ (RNV V n ∧ SNQ V n ∧ AP9 V n) ∧ Xi V 904 94 ≤ 1668
theorem hi_ls {V : sS} (h : HI V) : LSP V := fun k _ => (h.c 914 k).1
theorem hi_15 {V : sS} (h : HI V) : 0 ≤ Xi V 904 15 ∧ Xi V 904 15 ≤ 300 := h.c 904 15
theorem hi_rb {V : sS} (h : HI V) : RBD V := fun r => by
  have a : 0 ≤ Xi V 950 r ∧ Xi V 950 r ≤ 5010 := h.c 950 r
  have b : 0 ≤ Xi V 951 r ∧ Xi V 951 r ≤ 5010 := h.c 951 r
  exact ⟨⟨a.1, by omega⟩, b.1, by omega⟩
theorem hi_lx {V : sS} (h : HI V) : LXR V := fun k _ => by
  have a : 0 ≤ Xi V 914 k ∧ Xi V 914 k ≤ 12 := h.c 914 k
  have b : 0 ≤ Xi V 915 k ∧ Xi V 915 k ≤ 63 := h.c 915 k
  exact ⟨a, b⟩
theorem hi_kx {V : sS} (h : HI V) : ∀ j : Nat, -1 ≤ Xi V 918 j ∧ Xi V 918 j ≤ 15 := fun j => by
  have a : 0 ≤ Xi V 918 j ∧ Xi V 918 j ≤ 15 := h.c 918 j
  omega
theorem hi_ct {V : sS} (h : HI V) : ∀ j : Nat, -1 ≤ Xi V 922 j ∧ Xi V 922 j ≤ 23 := fun j => h.c 922 j
theorem hi_ak {V : sS} (h : HI V) : ∀ j : Nat, -2 ≤ Xi V 942 j ∧ Xi V 942 j ≤ 15 := fun j => h.c 942 j
theorem hi_by {V : sS} (h : HI V) : BYT V 906 := fun j => h.c 906 j
theorem hi_32 {V : sS} (h : HI V) : 0 ≤ Xi V 904 32 ∧ Xi V 904 32 ≤ 12 := h.c 904 32
theorem hi_19 {V : sS} (h : HI V) : 0 ≤ Xi V 904 19 ∧ Xi V 904 19 ≤ 24 := h.c 904 19
theorem hi_li {V : sS} (h : HI V) : 0 ≤ Xi V 904 71 ∧ Xi V 904 71 ≤ 2600 ∧ 0 ≤ Xi V 904 72 ∧ Xi V 904 72 ≤ 2600 := by
  have a : 0 ≤ Xi V 904 71 ∧ Xi V 904 71 ≤ 2600 := h.c 904 71
  have b : 0 ≤ Xi V 904 72 ∧ Xi V 904 72 ≤ 2600 := h.c 904 72
  omega
theorem hi_pl {V : sS} (h : HI V) : 0 ≤ Xi V 904 74 ∧ Xi V 904 74 ≤ 2600 := h.c 904 74
/-- what a word means lies among what was told -/
theorem lx_cm {V : sS} (h : HI V) (m : LXM V) {k : Nat} {s : Int} (hk : (k : Int) < Xi V 904 15) (e : Xi V 914 k = s) : 0 ≤ Xi V 915 k ∧ Xi V 915 k < cM V s := by
  have a : 0 ≤ Xi V 915 k ∧ Xi V 915 k ≤ 63 := h.c 915 k
  have b := m k hk
  rw [e] at b
  exact ⟨a.1, b⟩
theorem ms_cm {V : sS} (h : HI V) (m : LXM V) {t n s : Int} (q : msR V t n s ≠ -1) : 0 ≤ msR V t n s ∧ msR V t n s < cM V s := by
  unfold msR at *
  by_cases y : nmR V t n ≠ -1 ∧ Xi V 914 (nmR V t n).toNat = s
  · have g := nmR_rg (S := V) (t := t) (n := n) (hi_15 h).1
    rw [if_pos y]
    exact lx_cm h m (by have := y.1; omega) y.2
  · rw [if_neg y] at q; exact absurd rfl q
theorem rn_cm {V : sS} (h : HI V) (m : LXM V) {r s : Int} (q : rnR V r s ≠ -1) : 0 ≤ rnR V r s ∧ rnR V r s < cM V s := ms_cm h m q
theorem rn_k {V : sS} (h : HI V) (m : LXM V) {r : Int} : -1 ≤ rnR V r 0 ∧ rnR V r 0 ≤ 15 := by
  by_cases q : rnR V r 0 = -1
  · omega
  · have t := rn_cm h m q
    have c : cM V 0 = Xi V 904 16 := rfl
    have k : 0 ≤ Xi V 904 16 ∧ Xi V 904 16 ≤ 16 := h.c 904 16
    omega
theorem rn_p {V : sS} (h : HI V) (m : LXM V) {r : Int} : -1 ≤ rnR V r 7 ∧ rnR V r 7 ≤ 11 := by
  by_cases q : rnR V r 7 = -1
  · omega
  · have t := rn_cm h m q
    have c : cM V 7 = Xi V 904 32 := rfl
    have k := hi_32 h
    omega
theorem lx_k {V : sS} (h : HI V) (m : LXM V) : ∀ k : Nat, (k : Int) < Xi V 904 15 → Xi V 914 k ≤ 1 → Xi V 915 k ≤ 15 := fun k hk q => by
  have a : 0 ≤ Xi V 914 k ∧ Xi V 914 k ≤ 12 := h.c 914 k
  have b := (lx_cm h m hk rfl).2
  have c : 0 ≤ Xi V 904 16 ∧ Xi V 904 16 ≤ 16 := h.c 904 16
  have d : cM V (Xi V 914 k) = Xi V 904 16 := by unfold cM; rw [if_pos (by omega)]
  omega
theorem lx_0 {V : sS} (h : HI V) (m : LXM V) : ∀ j : Nat, (j : Int) < Xi V 904 15 → Xi V 914 j = 0 → Xi V 915 j ≤ 15 := fun k hk q => lx_k h m k hk (by omega)
theorem lx_7 {V : sS} (h : HI V) (m : LXM V) : ∀ j : Nat, (j : Int) < Xi V 904 15 → Xi V 914 j = 7 → 0 ≤ Xi V 915 j ∧ Xi V 915 j ≤ 11 := fun k hk q => by
  have t := lx_cm h m hk q
  have c : cM V 7 = Xi V 904 32 := rfl
  have k := hi_32 h
  omega
/-- where the parts of a sentence with is, are lie among its RUNS -/
def RPS (V : sS) : Prop := Xi V 904 71 = 0 ∧ (Xi V 904 70 = 10 → Xi V 904 78 = -1 ∨ Xi V 904 78 = -2 ∨ Xi V 904 78 = Xi V 904 72) ∧ (Xi V 904 70 = 11 → Xi V 904 78 = -1 ∨ Xi V 904 78 = Xi V 904 72) ∧ (Xi V 904 70 = 12 → Xi V 904 78 = Xi V 904 72 ∧ (Xi V 904 73 ≠ 0 → Xi V 904 74 = Xi V 904 72 + 1)) ∧ (Xi V 904 70 = 13 → Xi V 904 74 = Xi V 904 72) ∧ (Xi V 904 70 = 14 → Xi V 904 78 = Xi V 904 72 ∧ Xi V 904 74 = Xi V 904 72 + 1) ∧ (Xi V 904 70 = 15 ∨ Xi V 904 70 = 16 → Xi V 904 78 = Xi V 904 72)
theorem rps_i {U V : sS} {f m : Nat} {x : Int} (b : BEX U V f m x) : RPS V := by
  obtain ⟨_, _, _, _, _, e71, ⟨r10, r11, r12, r15, rf, r13⟩, _⟩ := b
  refine ⟨e71, ?_⟩
  generalize ty7 U = T at *
  generalize Xi U 890 3 + 1 = a at *
  by_cases c10 : T a = 0 ∧ T (a + 1) = 18
  · obtain ⟨h, h1, h2, h3⟩ := r10 c10
    refine ⟨fun _ => ?_, fun q => by omega, fun q => by omega, fun q => by omega, fun q => by omega, fun q => by omega⟩
    by_cases u : T (a + 2) = 7
    · by_cases w : T (a + 3) = 20
      · exact Or.inr (Or.inl (h2 u w))
      · exact Or.inr (Or.inr (h3 u w))
    · exact Or.inl (h1 u)
  by_cases c11 : T a = 1 ∧ T (a + 1) = 27
  · obtain ⟨h, h1, h2⟩ := r11 c11
    refine ⟨fun q => by omega, fun _ => ?_, fun q => by omega, fun q => by omega, fun q => by omega, fun q => by omega⟩
    by_cases u : T (a + 2) = 28
    · exact Or.inr (h2 u)
    · exact Or.inl (h1 u)
  by_cases c12 : art7 (T a)
  · obtain ⟨h, h1, h2, h3⟩ := r12 c12 c10 c11
    refine ⟨fun q => by omega, fun q => by omega, fun _ => ⟨h1, fun w => ?_⟩, fun q => by omega, fun q => by omega, fun q => by omega⟩
    by_cases u : T (re7 T (a + 1)) = 103
    · exact absurd (h2 u) w
    · exact (h3 u).2
  by_cases c15 : T a = 6 ∨ T a = 32
  · obtain ⟨h, h1, _⟩ := r15 c15
    exact ⟨fun q => by omega, fun q => by omega, fun q => by omega, fun q => by omega, fun q => by omega, fun _ => h1⟩
  by_cases cf : T a = 100
  · obtain ⟨h1, h2, h3, h4⟩ := rf cf
    refine ⟨fun q => ?_, fun q => ?_, fun q => ?_, fun q => ?_, fun q => ⟨h1, ?_⟩, fun _ => h1⟩ <;> (by_cases u : T (re7 T a) = 7)
    all_goals first
      | (have t := h2 u; omega)
      | (by_cases w : T (re7 T a) = 16 ∨ T (re7 T a) = 104
         · have t := h3 w; omega
         · have t := h4 u (by omega) (by omega); omega)
  · obtain ⟨h, _, h1⟩ := r13 cf (by omega) (by omega) c12
    exact ⟨fun q => by omega, fun q => by omega, fun q => by omega, fun _ => h1, fun q => by omega, fun q => by omega⟩
section
variable {V : sS} {n : Nat} {first : Int}
theorem rpv_m (c : RPV V n) : LXM V ∧ ABV V := c.2.1
theorem ak_7 (c : RPV V n) (p : PRO V) (s : Xi V 904 70 = 7) : PX_mo_asked_7 V first := by
  have r := c.2.2.2.1.2.1.2.2.1 (by omega)
  exact ⟨hi_ls c.1, (hi_15 c.1).1, hi_rb c.1, s, p 0 1 (by omega) (by omega) (by omega), c.1.c 904 47⟩
theorem ak_8 (c : RPV V n) (p : PRO V) (s : Xi V 904 70 = 8) : PX_mo_asked_8 V first := by
  have r := c.2.2.2.1.2.1.2.2.1 (by omega)
  exact ⟨hi_ls c.1, (hi_15 c.1).1, hi_rb c.1, s, p 0 1 (by omega) (by omega) (by omega)⟩
theorem rpv_17 (c : RPV V n) (s : 17 ≤ Xi V 904 70 ∧ Xi V 904 70 ≤ 19) : 3 ≤ Xi V 904 69 := c.2.2.2.1.2.1.2.2.2.2.2.2.2.2.2 s
theorem rpv_10 (c : RPV V n) (s : 10 ≤ Xi V 904 70 ∧ Xi V 904 70 ≤ 16) : Xi V 904 71 + Xi V 904 72 ≤ Xi V 904 69 ∧ 1 ≤ Xi V 904 72 := c.2.2.2.1.2.1.2.2.2.2.2.1 s
theorem ak_17 (c : RPV V n) (p : PRO V) (s : Xi V 904 70 = 17) : PX_mo_asked_17 V first := by
  have r := rpv_17 c (by omega)
  exact ⟨hi_ls c.1, (hi_15 c.1).1, hi_rb c.1, s, ⟨p 0 1 (by omega) (by omega) (by omega), p 1 2 (by omega) (by omega) (by omega)⟩, hi_32 c.1⟩
theorem ak_18 (c : RPV V n) (p : PRO V) (s : Xi V 904 70 = 18) : PX_mo_asked_18 V first := by
  have r := rpv_17 c (by omega)
  exact ⟨hi_ls c.1, (hi_15 c.1).1, hi_rb c.1, s, ⟨p 0 1 (by omega) (by omega) (by omega), p 1 2 (by omega) (by omega) (by omega)⟩, c.1.c 904 23⟩
theorem ak_19 (c : RPV V n) (p : PRO V) (s : Xi V 904 70 = 19) : PX_mo_asked_19 V first := by
  have r := rpv_17 c (by omega)
  exact ⟨hi_ls c.1, (hi_15 c.1).1, hi_rb c.1, s, ⟨p 0 1 (by omega) (by omega) (by omega), p 1 2 (by omega) (by omega) (by omega)⟩, c.1.c 904 41⟩
theorem rpv_nk (c : RPV V n) : 0 ≤ Xi V 904 49 ∧ Xi V 904 49 ≤ 100 ∧ 0 ≤ Xi V 904 18 ∧ Xi V 904 18 ≤ 100 ∧ 0 ≤ Xi V 904 16 ∧ Xi V 904 16 ≤ 100 := by
  have a : 0 ≤ Xi V 904 49 ∧ Xi V 904 49 ≤ 12 := c.1.c 904 49
  have b : 0 ≤ Xi V 904 18 ∧ Xi V 904 18 ≤ 8 := c.1.c 904 18
  have d : 0 ≤ Xi V 904 16 ∧ Xi V 904 16 ≤ 16 := c.1.c 904 16
  omega
theorem pll_i (c : RPV V n) (p : PRO V) (s : 10 ≤ Xi V 904 70 ∧ Xi V 904 70 ≤ 16) : PLL V (Xi V 904 71) (Xi V 904 72).toNat := fun k i hk hi => by
  have r := rpv_10 c s
  have l := hi_li c.1
  exact p _ _ (by omega) (by omega) (by omega)
theorem ak_10 (c : RPV V n) (p : PRO V) (o : RPS V) (s : Xi V 904 70 = 10) : PX_mo_asked_10 V first := by
  have r := rpv_10 c (by omega)
  have l := hi_li c.1
  have r78 := c.2.2.2.1.2.1.2.2.2.2.2.2.1 (Or.inl (by omega))
  refine ⟨hi_ls c.1, (hi_15 c.1).1, hi_rb c.1, s, l, ⟨pll_i c p (by omega), fun w k hk => ?_⟩, rpv_nk c⟩
  unfold wK at w ⊢
  by_cases q : Xi V 904 78 = -2
  · rw [if_pos ⟨s, q⟩] at w; exact absurd rfl w
  · rw [if_neg (fun y => q y.2)] at w ⊢
    have t := o.2.1 s
    have t0 := o.1
    exact p _ _ (by omega) (by omega) (by omega)
theorem ak_11 (c : RPV V n) (p : PRO V) (o : RPS V) (s : Xi V 904 70 = 11) : PX_mo_asked_11 V first := by
  have r := rpv_10 c (by omega)
  have l := hi_li c.1
  have r78 := c.2.2.2.1.2.1.2.2.2.2.2.2.1 (Or.inl (by omega))
  refine ⟨hi_ls c.1, (hi_15 c.1).1, hi_rb c.1, s, l, ⟨pll_i c p (by omega), fun w k hk => ?_⟩, rpv_nk c⟩
  unfold wK at w ⊢
  rw [if_neg (by omega)] at w ⊢
  have t := o.2.2.1 s
  have t0 := o.1
  exact p _ _ (by omega) (by omega) (by omega)
theorem rpv_fw (c : RPV V n) : 0 ≤ fW V ∧ fW V ≤ 5100 ∧ 0 ≤ nW V ∧ nW V ≤ 5100 := by
  have a : 0 ≤ fW V ∧ fW V ≤ 5010 := c.1.c 950 (Xi V 904 78).toNat
  have b : 0 ≤ nW V ∧ nW V ≤ 5010 := c.1.c 951 (Xi V 904 78).toNat
  omega
theorem rpv_69 (c : RPV V n) : 0 ≤ Xi V 904 69 ∧ Xi V 904 69 ≤ 2600 := c.1.c 904 69
theorem ak_12 (c : RPV V n) (p : PRO V) (o : RPS V) (s : Xi V 904 70 = 12) : PX_mo_asked_12 V first := by
  have r := rpv_10 c (by omega)
  have l := hi_li c.1
  have g := rpv_69 c
  have r78 := c.2.2.2.1.2.1.2.2.2.2.2.2.1 (Or.inl (by omega))
  have g78 := c.2.2.2.1.2.1.2.2.2.2.2.2.2.1 (Or.inl s)
  have r74 := c.2.2.2.1.2.1.2.2.2.2.2.2.2.2.1
  have t := o.2.2.2.1 s
  have t0 := o.1
  have y := hi_pl c.1
  refine ⟨hi_ls c.1, (hi_15 c.1).1, hi_rb c.1, hi_lx c.1, (rpv_m c).2, hi_19 c.1, hi_kx c.1, l, lx_k c.1 (rpv_m c).1, hi_32 c.1, by omega, pll_i c p (by omega), s, ⟨fun k hk => p _ _ (by omega) (by omega) (by omega), fun w => ?_⟩, rpv_fw c, by omega, by omega⟩
  have u := r74 (Or.inr (Or.inr ⟨s, w⟩))
  have v := t.2 w
  exact p _ _ (by omega) (by omega) (by omega)
theorem ak_13 (c : RPV V n) (p : PRO V) (o : RPS V) (s : Xi V 904 70 = 13) : PX_mo_asked_13 V first := by
  have r := rpv_10 c (by omega)
  have l := hi_li c.1
  have r74 := c.2.2.2.1.2.1.2.2.2.2.2.2.2.2.1 (Or.inl s)
  have t := o.2.2.2.2.1 s
  have t0 := o.1
  have y := hi_pl c.1
  exact ⟨hi_ls c.1, (hi_15 c.1).1, hi_rb c.1, hi_lx c.1, (rpv_m c).2, hi_19 c.1, hi_kx c.1, l, lx_k c.1 (rpv_m c).1, hi_32 c.1, by omega, pll_i c p (by omega), s, fun _ k hk => p _ _ (by omega) (by omega) (by omega)⟩
theorem ak_14 (c : RPV V n) (p : PRO V) (o : RPS V) (s : Xi V 904 70 = 14) : PX_mo_asked_14 V first := by
  have r := rpv_10 c (by omega)
  have l := hi_li c.1
  have g := rpv_69 c
  have r78 := c.2.2.2.1.2.1.2.2.2.2.2.2.1 (Or.inr (by omega))
  have r74 := c.2.2.2.1.2.1.2.2.2.2.2.2.2.2.1 (Or.inr (Or.inl s))
  have t := o.2.2.2.2.2.1 s
  have t0 := o.1
  have y := hi_pl c.1
  refine ⟨hi_ls c.1, (hi_15 c.1).1, hi_rb c.1, s, (rpv_m c).2, hi_19 c.1, hi_kx c.1, by omega, ⟨fun w => ⟨p _ _ (by omega) (by omega) (by omega), p _ _ (by omega) (by omega) (by omega)⟩, p _ _ (by omega) (by omega) (by omega), p _ _ (by omega) (by omega) (by omega)⟩⟩
theorem ak_15a (c : RPV V n) (p : PRO V) (o : RPS V) (s : Xi V 904 70 = 15) (u : Xi V 904 76 ≠ 0) : PX_mo_asked_15a V first := by
  have r := rpv_10 c (by omega)
  have l := hi_li c.1
  have r78 := c.2.2.2.1.2.1.2.2.2.2.2.2.1 (Or.inr (by omega))
  have t := o.2.2.2.2.2.2 (Or.inl s)
  have t0 := o.1
  have fw := rpv_fw c
  refine ⟨hi_ls c.1, (hi_15 c.1).1, hi_rb c.1, hi_lx c.1, (rpv_m c).2, u, hi_32 c.1, (rn_k c.1 (rpv_m c).1).2, ⟨fw.1, fw.2.1⟩, by omega, fun w => p _ _ (by omega) (by omega) (by omega), fun w => p _ _ (by omega) (by omega) (by omega), s⟩
theorem ak_15b (c : RPV V n) (o : RPS V) (s : Xi V 904 70 = 15) (u : Xi V 904 76 = 0) (w : Xi V 904 72 = 1 ∧ 1 < r2R V (Xi V 904 71) 2 3 ∧ Xi V 904 75 = 0) : PX_mo_asked_15b V first := by
  have r := rpv_10 c (by omega)
  have l := hi_li c.1
  have g := rpv_69 c
  have r78 := c.2.2.2.1.2.1.2.2.2.2.2.2.1 (Or.inr (by omega))
  have g78 := c.2.2.2.1.2.1.2.2.2.2.2.2.2.1 (Or.inr (by omega))
  exact ⟨hi_ls c.1, (hi_15 c.1).1, hi_rb c.1, u, by omega, c.1.c 904 30, by omega, s, w⟩
theorem ak_16 (c : RPV V n) (u : Xi V 904 76 = 0) (s : Xi V 904 70 = 16) : PX_mo_asked_16 V first := by
  have r := rpv_10 c (by omega)
  have l := hi_li c.1
  have g := rpv_69 c
  have r78 := c.2.2.2.1.2.1.2.2.2.2.2.2.1 (Or.inr (by omega))
  have g78 := c.2.2.2.1.2.1.2.2.2.2.2.2.2.1 (Or.inr (by omega))
  exact ⟨hi_ls c.1, (hi_15 c.1).1, hi_rb c.1, u, by omega, c.1.c 904 30, by omega, s⟩
theorem ak_15c (c : RPV V n) (p : PRO V) (s : Xi V 904 70 = 15) (u : Xi V 904 76 = 0) (w : ¬ (Xi V 904 72 = 1 ∧ 1 < r2R V (Xi V 904 71) 2 3 ∧ Xi V 904 75 = 0)) : PX_mo_asked_15c V first := by
  have r := rpv_10 c (by omega)
  have l := hi_li c.1
  refine ⟨hi_ls c.1, (hi_15 c.1).1, hi_rb c.1, hi_lx c.1, (rpv_m c).2, hi_kx c.1, l, hi_19 c.1, lx_k c.1 (rpv_m c).1, hi_32 c.1, u, s, fun q z => w ?_, rpv_fw c, pll_i c p (by omega)⟩
  unfold tU5 at q
  by_cases y : Xi V 904 72 = 1
  · rw [if_pos y] at q; exact ⟨y, q, z⟩
  · rw [if_neg y] at q; exact absurd q (by decide)
end

/-! the reference: what asking wants, of texts, definitions, rules, properties, pairs -/
theorem tr_4 {t : Int} (h : 0 ≤ t ∧ t ≤ 108) : tr7 t = 4 ↔ t = 101 := by
  unfold tr7
  constructor
  · intro q
    by_cases a : t < 100
    · rw [if_pos a] at q; omega
    · rw [if_neg a] at q
      by_cases b : t = 101
      · exact b
      · exfalso
        by_cases c : t = 100
        · rw [if_pos c] at q; omega
        · rw [if_neg c, if_neg b] at q
          repeat (first | (split at q; omega) | omega)
  · intro q
    subst q
    rfl
theorem tk_num {U V : sS} {f : Nat} (sc : SCX U V f) (tb : ∀ i : Int, 0 ≤ ty7 U i ∧ ty7 U i ≤ 108) (nv : NVL U) {i : Int} (h : (f : Int) ≤ i ∧ i < f + Xi U 876 7) (q : tkR V i = 4) : 0 ≤ Xj V 910 i.toNat ∧ Xj V 910 i.toNat ≤ 2147483647 := by
  obtain ⟨j, rfl⟩ : ∃ j : Int, i = f + j := ⟨i - f, by omega⟩
  rw [tkx sc ⟨by omega, by omega⟩] at q
  have t := ty_101 ((tr_4 (tb j)).1 q)
  have w := (sc.1 j.toNat (by omega)).2.2.2.1 t.2.2
  rw [show ((f : Int) + j).toNat = f + j.toNat by omega, w]
  exact nv j.toNat (by omega) t.2.2
theorem the_lt {T : Int → Int} {V : sS} {p e x y : Int} (h : THE T V p e x y) : p < e := by
  obtain ⟨so, ta, tr, h, _⟩ := h
  rcases h with ⟨_, _, _, h⟩ | ⟨_, _, _, h⟩ | ⟨_, _, _, _, h⟩ | ⟨_, _, _, _, _, r, _⟩
  · omega
  · omega
  · omega
  · have := r.1
    unfold bT at this
    split at this <;> omega
theorem trk_i {V : sS} {c : Nat} {p e now lo hi : Int} (h : HI V) (m : LXM V) (rd : TSTR (tkR V) V c p e now) (hp : lo ≤ p) (he : e < hi) (num : ∀ i : Int, lo ≤ i → i < hi → tkR V i = 4 → 0 ≤ Xj V 910 i.toNat ∧ Xj V 910 i.toNat ≤ 2147483647) : TRK V c := by
  have ec : ((c : Nat) : Int).toNat = c := by omega
  have r954 : 0 ≤ Xi V 954 c ∧ Xi V 954 c ≤ 25010 := h.c 954 c
  have r959 : 0 ≤ Xi V 959 c ∧ Xi V 959 c ≤ 25010 := h.c 959 c
  have r961 : 0 ≤ Xi V 961 c ∧ Xi V 961 c ≤ 5010 := h.c 961 c
  have r962 : 0 ≤ Xi V 962 c ∧ Xi V 962 c ≤ 5010 := h.c 962 c
  have r950 : 0 ≤ Xi V 950 (rT3 V c).toNat ∧ Xi V 950 (rT3 V c).toNat ≤ 5010 := h.c 950 _
  have r908 : 0 ≤ Xi V 908 (Xi V 957 c).toNat ∧ Xi V 908 (Xi V 957 c).toNat ≤ 5000 := h.c 908 _
  have key : (Xi V 952 c = 0 → tkR V (Xi V 957 c) = 4 → 0 ≤ Xj V 910 (Xi V 957 c).toNat ∧ Xj V 910 (Xi V 957 c).toNat ≤ 2147483647) ∧ (Xi V 952 c = 1 ∨ Xi V 952 c = 2 → 0 ≤ Xj V 910 (Xi V 957 c).toNat ∧ Xj V 910 (Xi V 957 c).toNat ≤ 2147483647) := by
    rcases rd.2.2.2 with ⟨_, y, _⟩ | ⟨_, _, q, r, pr, th, _, tw⟩ | ⟨_, _, r, b, _, _, _, y⟩
    · exact ⟨fun q => by omega, fun q => by omega⟩
    · obtain ⟨q0, _, rq, _, eq, _⟩ := pr
      have l1 := rq.1
      have l2 := the_lt th
      rcases tw with ⟨_, f1, _, w, t4, ee, _⟩ | ⟨_, f0, b, nb, w, wh⟩
      · refine ⟨fun q => by omega, fun _ => ?_⟩
        rw [w]
        exact num _ (by omega) (by omega) t4
      · refine ⟨fun _ t4 => ?_, fun q => by omega⟩
        have lb : r + 1 ≤ b := by omega
        have le : b < e := by
          rcases wh with ⟨_, y⟩ | ⟨_, _, y, _⟩
          · omega
          · exact y.1
        rw [w] at t4 ⊢
        exact num _ (by omega) (by omega) t4
    · rcases y with ⟨_, y, _⟩ | ⟨_, _, y, _⟩
      · exact ⟨fun q => by omega, fun q => by omega⟩
      · exact ⟨fun q => by omega, fun q => by omega⟩
  unfold TRK
  rw [ec]
  refine ⟨h.c 952 c, h.c 953 c, fun _ => ⟨by omega, by omega⟩, fun _ => by omega, fun _ => by omega, fun _ => by omega, fun _ => rn_p h m, fun q => ⟨key.1 q, by omega⟩, key.2⟩
theorem tsr_lt {T : Int → Int} {V : sS} {c : Nat} {p e now : Int} (h : TSTR T V c p e now) : p < e := by
  rcases h.2.2.2 with ⟨_, _, _, y, _⟩ | ⟨_, _, q, r, pr, th, _, tw⟩ | ⟨_, _, r, b, th, _, nb, y⟩
  · exact y
  · obtain ⟨q0, _, rq, _, eq, _⟩ := pr
    have l1 := rq.1
    have l2 := the_lt th
    rcases tw with ⟨_, _, _, _, _, ee, _⟩ | ⟨_, _, b, nb, _, wh⟩
    · omega
    · rcases wh with ⟨_, y⟩ | ⟨_, _, y, _⟩
      · omega
      · have := y.1; omega
  · have l2 := the_lt th
    rcases y with ⟨_, _, y, _⟩ | ⟨_, _, _, g, pl, y⟩
    · have := y.1; omega
    · have l3 := the_lt y
      rcases pl with ⟨_, _, z⟩ | ⟨_, _, z⟩ | ⟨_, _, _, z⟩ | ⟨_, _, _, z⟩ | ⟨_, _, _, z⟩ <;> omega
theorem trk_q {V : sS} {c : Nat} {p lo hi : Int} (h : HI V) (m : LXM V) (hp : lo ≤ p) (num : ∀ i : Int, lo ≤ i → i < hi → tkR V i = 4 → 0 ≤ Xj V 910 i.toNat ∧ Xj V 910 i.toNat ≤ 2147483647) : ∀ (n : Nat) (e : Int), TSQ (tkR V) V c p n e → e < hi → ∀ k : Nat, k < n → TRK V ((c + k : Nat) : Int)
  | 0, e, q, _, _, _ => absurd q (fun w => w)
  | 1, e, q, he, k, hk => by
    rw [show c + k = c by omega]
    exact trk_i h m q hp he num
  | n + 2, e, q, he, k, hk => by
    obtain ⟨x, q1, _, q2⟩ := q
    have l := tsr_lt q2
    have l2 := tsq_lt n _ q1
    by_cases w : k < n + 1
    · exact trk_q h m hp num (n + 1) x q1 (by omega) k w
    · rw [show c + k = c + (n + 1) by omega]
      exact trk_i h m q2 (by omega) he num
/-- one phrase -/
theorem pkb_i {V : sS} {c j n : Nat} {p e lo hi : Int} (h : HI V) (m : LXM V) (tk : TK V n) (tx : TXK V n) (ph : PH1 (tkR V) V c j p e) (pv : Xi V 964 j < Xi V 904 93 ∧ PV V n j) (hp : lo ≤ p) (he : e < hi) (num : ∀ i : Int, lo ≤ i → i < hi → tkR V i = 4 → 0 ≤ Xj V 910 i.toNat ∧ Xj V 910 i.toNat ≤ 2147483647) : PKB V j := by
  obtain ⟨pe, _, ec, _⟩ := ph
  have ej : ((j : Nat) : Int).toNat = j := by omega
  have ep : (pTS V j).toNat = c := by unfold pTS; rw [ej, ec]; omega
  have e2 : pTS V j = c := by unfold pTS; rw [ej, ec]
  have ex : xPS V j = Xi V 957 c := by unfold xPS; rw [ep]
  have r93 : 0 ≤ Xi V 904 93 ∧ Xi V 904 93 ≤ 1700 := h.c 904 93
  have r964 : 0 ≤ Xi V 964 j ∧ Xi V 964 j ≤ 1700 := h.c 964 j
  have r954 : 0 ≤ Xi V 954 c ∧ Xi V 954 c ≤ 25010 := h.c 954 c
  have r959 : 0 ≤ Xi V 959 c ∧ Xi V 959 c ≤ 25010 := h.c 959 c
  have r953 : 0 ≤ Xi V 953 c ∧ Xi V 953 c ≤ 1 := h.c 953 c
  have r69 : 0 ≤ Xi V 904 69 ∧ Xi V 904 69 ≤ 2600 := h.c 904 69
  have r950 : 0 ≤ Xi V 950 (Xi V 956 c).toNat ∧ Xi V 950 (Xi V 956 c).toNat ≤ 5010 := h.c 950 _
  have r951 : 0 ≤ Xi V 951 (Xi V 956 c).toNat ∧ Xi V 951 (Xi V 956 c).toNat ≤ 5010 := h.c 951 _
  have r908 : 0 ≤ Xi V 908 (Xi V 957 c).toNat ∧ Xi V 908 (Xi V 957 c).toNat ≤ 5000 := h.c 908 _
  have r909 : 0 ≤ Xi V 909 (Xi V 957 c).toNat ∧ Xi V 909 (Xi V 957 c).toNat ≤ 5000 := h.c 909 _
  have r957 : 0 ≤ Xi V 957 c ∧ Xi V 957 c ≤ 5010 := h.c 957 c
  have k0 : Xi V 963 j = 0 → Xi V 908 (Xi V 957 c).toNat + 1 + Xi V 909 (Xi V 957 c).toNat ≤ 5000 := fun q => by
    have t := pv.2.1 q
    rw [ec, show ((c : Nat) : Int).toNat = c by omega] at t
    have l : Xi V 957 c ≠ n := fun w => by
      have u := t.2
      rw [w, show ((n : Nat) : Int).toNat = n by omega, tk.2.1] at u
      exact absurd u (by decide)
    exact tx (Xi V 957 c).toNat (by omega) t.2
  have kk : (Xi V 963 j = 1 → TRK V c) ∧ (Xi V 963 j = 3 ∨ Xi V 963 j = 4 → 0 ≤ Xj V 910 (Xi V 957 c).toNat ∧ Xj V 910 (Xi V 957 c).toNat ≤ 2147483647) ∧ (Xi V 963 j = 5 → 0 ≤ Xi V 956 c ∧ Xi V 956 c ≤ 2599) := by
    rcases pe with ⟨_, y, _⟩ | ⟨_, y, d⟩ | ⟨_, y, _⟩ | ⟨y, q, r, pr, th, _, w, t4, ee⟩ | ⟨_, y, r, _, rr, _⟩ | ⟨_, y, _⟩
    · exact ⟨fun q => by omega, fun q => by omega, fun q => by omega⟩
    · exact ⟨fun _ => trk_i h m d (by omega) he num, fun q => by omega, fun q => by omega⟩
    · exact ⟨fun q => by omega, fun q => by omega, fun q => by omega⟩
    · refine ⟨fun q => by omega, fun _ => ?_, fun q => by omega⟩
      obtain ⟨q0, _, rq, _, eq, _⟩ := pr
      have l1 := rq.1
      have l2 := the_lt th
      rw [w]
      exact num _ (by omega) (by omega) t4
    · have u := rr.1
      exact ⟨fun q => by omega, fun q => by omega, fun _ => ⟨u.1, by omega⟩⟩
    · exact ⟨fun q => by omega, fun q => by omega, fun q => by omega⟩
  unfold PKB
  rw [ej, ep, ex, e2]
  exact ⟨h.c 963 j, ⟨r964.1, by omega⟩, fun q => ⟨r908.1, r909.1, k0 q⟩, kk.1, fun _ => by omega, fun _ => by omega, fun q => ⟨rn_p h m, kk.2.1 q⟩, fun q => ⟨by omega, kk.2.2 q, by omega, by omega, by omega, by omega⟩⟩
theorem phr_lt {T : Int → Int} {V : sS} {c j : Nat} {p e : Int} (h : PH1 T V c j p e) : p < e := psq_lt 0 e h
theorem pkb_q {V : sS} {c n : Nat} {p lo hi : Int} (h : HI V) (m : LXM V) (tk : TK V n) (tx : TXK V n) (pv : PVA V n (Xi V 904 98)) (hp : lo ≤ p) (num : ∀ i : Int, lo ≤ i → i < hi → tkR V i = 4 → 0 ≤ Xj V 910 i.toNat ∧ Xj V 910 i.toNat ≤ 2147483647) : ∀ (K : Nat) (e : Int), PSQ (tkR V) V c 0 p K e → (K : Int) ≤ Xi V 904 98 → e < hi → ∀ k : Nat, k < K → PKB V (k : Int)
  | 0, e, q, _, _, _, _ => absurd q (fun w => w)
  | 1, e, q, hK, he, k, hk => by
    rw [show k = 0 by omega]
    exact pkb_i h m tk tx q (pv 0 (by omega)) hp he num
  | K + 2, e, q, hK, he, k, hk => by
    obtain ⟨x, q1, _, q2⟩ := q
    have l := phr_lt q2
    have l2 := psq_lt K _ q1
    by_cases w : k < K + 1
    · exact pkb_q h m tk tx pv hp num (K + 1) x q1 (by omega) (by omega) k w
    · rw [show k = 0 + (K + 1) by omega]
      exact pkb_i h m tk tx q2 (pv (0 + (K + 1)) (by omega)) (by omega) he num
theorem hde_le {T : Int → Int} {V : sS} {s p h : Int} (x : HDE T V s p h) : p < h := by
  obtain ⟨a, b, c⟩ := x
  rcases c with ⟨_, _, y⟩ | ⟨_, r, rq, _, y⟩
  · omega
  · have := rq.1
    rcases y with ⟨_, _, z⟩ | ⟨_, z, _⟩
    · omega
    · have := z.1; omega
section
variable {U V : sS} {n f : Nat} {first : Int}
theorem ak_0 (s : Xi V 904 70 = 0) : PX_mo_asked_0 V first := s
theorem ak_1 (c : RPV V n) (s : Xi V 904 70 = 1) (sc : SCX U V f) (tok : TOK U) (p5 : Xi U 876 5 ≤ 5000) (pl : ∀ j : Nat, 0 ≤ Xi U 878 j) (t1 : ty7 U 1 = 102) (e81 : Xi V 904 81 = f + 1) : PX_mo_asked_1 V first := by
  have t := ty_102 t1
  have w := sc.1 1 (by omega)
  have k := tok 1 (by omega) t.2.2
  have k2 := w.2.2.2.2 t.2.2
  have k1 := w.1
  have k3 := pl 1
  have e : (Xi V 904 81).toNat = f + 1 := by omega
  refine ⟨hi_ls c.1, (hi_15 c.1).1, hi_rb c.1, (rpv_m c).2, hi_by c.1, fun j => ?_, lx_0 c.1 (rpv_m c).1, ?_, s⟩
  · have a : 0 ≤ Xi V 915 j ∧ Xi V 915 j ≤ 63 := c.1.c 915 j
    omega
  · rw [e, k1, k2]
    omega
theorem ak_2 (c : RPV V n) (s : Xi V 904 70 = 2) (sc : SCX U V f) (tb : ∀ i : Int, 0 ≤ ty7 U i ∧ ty7 U i ≤ 108) (nv : NVL U) (de : DFE (tkR V) V 0 0 f (f + (Xi U 876 7 - 1))) : PX_mo_asked_2 V first := by
  obtain ⟨N, k0, k1, tq, hN, n94, _, l2⟩ := po_2 sc tb de
  have l0 := k0.2.1
  have l1 := k1.2.1
  have r117 : 0 ≤ Xi V 904 117 ∧ Xi V 904 117 ≤ 480 := c.1.c 904 117
  have r94 := c.2.2.2.2
  refine ⟨hi_ls c.1, (hi_15 c.1).1, hi_rb c.1, (rpv_m c).2, hi_kx c.1, hi_lx c.1, hi_32 c.1, by omega, by omega, fun k hk => ?_, s, rn_k c.1 (rpv_m c).1⟩
  have t := trk_q (lo := f) (hi := f + Xi U 876 7) c.1 (rpv_m c).1 (by omega) (fun i h0 h1 q => tk_num sc tb nv ⟨h0, h1⟩ q) N _ tq (by omega) k (by omega)
  rw [Nat.zero_add] at t
  exact t
theorem ak_3 (c : RPV V n) {s : Int} (hs : s = 3 ∨ s = 4 ∨ s = 5 ∨ s = 6) (e70 : Xi V 904 70 = s) (sc : SCX U V f) (tb : ∀ i : Int, 0 ≤ ty7 U i ∧ ty7 U i ≤ 108) (nv : NVL U) (rue : RUE (tkR V) V 0 0 0 s f (f + (Xi U 876 7 - 1))) : PX_mo_asked_3 V first := by
  obtain ⟨N, K, h0, g0, hde, wht, tg, hK, psq, te, _, n98⟩ := rue
  rw [Nat.zero_add] at psq
  have hf := hde_le hde
  have n94 : Xi V 904 94 = N := by rcases wht with ⟨_, _, _, k⟩ | ⟨_, k, _, k2⟩ <;> omega
  have num : ∀ i : Int, (f : Int) ≤ i → i < f + Xi U 876 7 → tkR V i = 4 → 0 ≤ Xj V 910 i.toNat ∧ Xj V 910 i.toNat ≤ 2147483647 := fun i a b q => tk_num sc tb nv ⟨a, b⟩ q
  have lg : g0 + 1 < f + (Xi U 876 7 - 1) := by
    obtain ⟨y, rfl⟩ : ∃ y, K = y + 1 := ⟨K - 1, by omega⟩
    exact psq_lt y _ psq
  have hg : h0 ≤ g0 := by
    rcases wht with ⟨_, hN, k, _⟩ | ⟨_, _, k, _⟩
    · obtain ⟨y, rfl⟩ : ∃ y, N = y + 1 := ⟨N - 1, by omega⟩
      have := tsq_lt y _ k
      omega
    · omega
  have r117 : 0 ≤ Xi V 904 117 ∧ Xi V 904 117 ≤ 480 := c.1.c 904 117
  have r125 : 0 ≤ Xi V 904 125 ∧ Xi V 904 125 ≤ 192 := c.1.c 904 125
  have r94 := c.2.2.2.2
  have r98 : 0 ≤ Xi V 904 98 ∧ Xi V 904 98 ≤ 1700 := c.1.c 904 98
  have ap := c.2.2.2.1.2.2
  have r3 := ap.2.2.1 (by omega) (by omega)
  have r69 := rpv_69 c
  have g102 := c.2.2.2.1.2.1.2.2.2.1
  have r102 : 0 ≤ Xi V 904 102 ∧ Xi V 904 102 ≤ 2600 := c.1.c 904 102
  have r103 : -1 ≤ Xi V 904 103 ∧ Xi V 904 103 ≤ 2600 := c.1.c 904 103
  have a1 : 0 ≤ Xi V 950 (Xi V 904 102).toNat ∧ Xi V 950 (Xi V 904 102).toNat ≤ 5010 := c.1.c 950 _
  have a2 : 0 ≤ Xi V 951 (Xi V 904 102).toNat ∧ Xi V 951 (Xi V 904 102).toNat ≤ 5010 := c.1.c 951 _
  have a3 : 0 ≤ Xi V 950 (Xi V 904 103).toNat ∧ Xi V 950 (Xi V 904 103).toNat ≤ 5010 := c.1.c 950 _
  have a4 : 0 ≤ Xi V 951 (Xi V 904 103).toNat ∧ Xi V 951 (Xi V 904 103).toNat ≤ 5010 := c.1.c 951 _
  refine ⟨hi_ls c.1, (hi_15 c.1).1, hi_rb c.1, (rpv_m c).2, hi_kx c.1, hi_lx c.1, hi_32 c.1, lx_k c.1 (rpv_m c).1, hi_ak c.1, hi_by c.1, lx_7 c.1 (rpv_m c).1, fun w => ?_, by omega, by omega, by omega, by omega, c.1.c 904 130, fun k hk => ?_, fun k hk => ?_, by omega⟩
  · have g := g102 (by omega)
    exact ⟨by omega, by omega, fun q => by omega⟩
  · rcases wht with ⟨_, hN, tq, _⟩ | ⟨_, z, _⟩
    · have t := trk_q (lo := f) (hi := f + Xi U 876 7) c.1 (rpv_m c).1 (by omega) num N _ tq (by omega) k (by omega)
      rw [Nat.zero_add] at t
      exact t
    · omega
  · exact pkb_q (lo := f) (hi := f + Xi U 876 7) c.1 (rpv_m c).1 c.2.2.1.1 c.2.2.1.2 (ap.2.1 (by omega) (by omega)) (by omega) num K _ psq (by omega) (by omega) k (by omega)
theorem ak_9 (c : RPV V n) (p : PRO V) (s : Xi V 904 70 = 9) (sc : SCX U V f) (sr : SRL U V f) (tb : ∀ i : Int, 0 ≤ ty7 U i ∧ ty7 U i ≤ 108) (nv : NVL U) (po : ∀ i j : Int, 0 ≤ i → i < j → j < Xi U 876 7 → pc7 U i < pc7 U j) {a b t : Int} (r1 : RNR U V f 1 a b) (hb : b ≤ t) (ht : t < Xi U 876 7) (e78 : Xi V 904 78 = f + t) : PX_mo_asked_9 V first := by
  have r := c.2.2.2.1.2.1.2.2.1 (by omega)
  have q0 := r1.1
  have q1 := r1.2.1
  have r908 : 0 ≤ Xi V 908 (Xi V 904 78).toNat ∧ Xi V 908 (Xi V 904 78).toNat ≤ 5000 := c.1.c 908 _
  refine ⟨hi_ls c.1, (hi_15 c.1).1, hi_rb c.1, hi_lx c.1, (rpv_m c).2, hi_kx c.1, (rn_p c.1 (rpv_m c).1).2, (rn_k c.1 (rpv_m c).1).2, p 0 1 (by omega) (by omega) (by omega), ?_, fun q => ?_, by omega, s⟩
  · rw [← rn_pc sr r1, e78, ← sr.2.1 t (by omega) ht]
    exact po a t q0 (by omega) ht
  · exact tk_num sc tb nv ⟨by omega, by omega⟩ q
theorem ak_20 (c : RPV V n) (s : Xi V 904 70 = 20) (sc : SCX U V f) (tb : ∀ i : Int, 0 ≤ ty7 U i ∧ ty7 U i ≤ 108) (h5 : (f : Int) + Xi U 876 7 ≤ 5002) (h7 : 1 ≤ Xi U 876 7) (dot : ty7 U (Xi U 876 7 - 1) = 103) (nd : ∀ i : Int, 0 ≤ i → i < Xi U 876 7 - 1 → ty7 U i ≠ 103) (ef : first = f) : PX_mo_asked_20 V (f + (Xi U 876 7 - 1).toNat) first := by
  refine ⟨hi_ls c.1, (hi_15 c.1).1, (rpv_m c).2, hi_kx c.1, by omega, ?_, fun j h0 h1 q => ?_, s⟩
  · have t := tkx sc (i := Xi U 876 7 - 1) ⟨by omega, by omega⟩
    unfold tkR at t
    rw [dot, show ((f : Int) + (Xi U 876 7 - 1)).toNat = f + (Xi U 876 7 - 1).toNat by omega] at t
    exact t
  · have t := tkx sc (i := (j : Int) - f) ⟨by omega, by omega⟩
    unfold tkR at t
    rw [show ((f : Int) + ((j : Int) - f)).toNat = j by omega, q] at t
    exact nd (j - f) (by omega) (by omega) ((tr_46 (tb _)).1.1 t.symm)
end
end
section
/-! the reference: what doing wants -/
/-- the sentence's words are asked, without a fault -/
def RTV (T : sS) (n : Nat) : Prop := HI T ∧ (LXM T ∧ ABV T) ∧ SNQ T n ∧ DOK T ∧ Xi T 904 106 = 0
/-- (no bound of what was told is needed any more) -/
def OVB (_ : sS) : Prop := True
theorem ovb_k {S T : sS} (_ : KEP [(931, 933), (934, 936)] [] S T) (_ : OVB S) : OVB T := trivial
theorem loq_n {S : sS} {f : Int} {x : Int × Int × Int} : ∀ n : Nat, RLO S f n x → x.1 = 0 → LOQ S f n
  | 0, _, _ => fun i hi => absurd hi (Nat.not_lt_zero _)
  | n + 1, h, h0 => fun i hi => by
    have l : LOQ S f n := loq_n n (fun k hk => h k (by omega)) h0
    by_cases q : i < n
    · exact l i q
    · have e : i = n := by omega
      subst e
      obtain ⟨a, b, c⟩ := h i (by omega) l
      by_cases r : rnR S (f + i) 4 = -1
      · by_cases m : rmR S (f + i) = -1
        · by_cases w : NWQ S f i
          · by_cases z : Xi S 904 19 + nwm S f i < 24
            · exact Or.inr ⟨w, z⟩
            · have := (c w (by omega)).1; omega
          · have := (b m w).1; omega
        · have := (a m r).1; omega
      · exact Or.inl r
theorem adm_b {T : sS} (h : HI T) {a : Int} (m : ADM T a) : 0 ≤ a ∧ a ≤ 7000 := by
  have k : 0 ≤ Xi T 904 23 ∧ Xi T 904 23 ≤ 24 := h.c 904 23
  unfold ADM at m
  omega
theorem acr_b {T : sS} (h : HI T) {t m k v w : Int} (q : 1 ≤ adR T t m k 0 w) (e : v = w) : 0 ≤ acR T t m k 0 v ∧ acR T t m k 0 v ≤ 7000 := by
  subst e
  unfold adR at q
  unfold acR
  have a : 0 ≤ Xi T 915 (nmR T t m).toNat ∧ Xi T 915 (nmR T t m).toNat ≤ 63 := h.c 915 _
  by_cases c1 : nmR T t m = -1
  · rw [if_pos c1] at q; omega
  rw [if_neg c1] at q ⊢
  by_cases c2 : Xi T 914 (nmR T t m).toNat = 5 ∧ blR T k (Xi T 921 (Xi T 915 (nmR T t m).toNat).toNat) = 1 ∧ ((0 : Int) ≠ 0 ∨ Xi T 924 (Xi T 915 (nmR T t m).toNat).toNat = 0)
  · rw [if_pos c2]; omega
  rw [if_neg c2] at q ⊢
  by_cases c3 : Xi T 914 (nmR T t m).toNat = 6 ∧ v ≠ 0
  · rw [if_pos c3] at q ⊢
    have p1 : pyR T k (Xi T 927 (Xi T 915 (nmR T t m).toNat).toNat) ≤ 12 := pyR_le (hi_32 h)
    have p2 : pyR T k (Xi T 927 (Xi T 915 (nmR T t m).toNat).toNat) ≠ -1 := by
      unfold mtR at q
      unfold pyR
      by_cases c4 : k < 0
      · rw [if_pos c4] at q; omega
      · rw [if_neg c4] at q ⊢
        intro y
        have := (fp_mt (S := T) (k := k) (t := Xi T 927 (Xi T 915 (nmR T t m).toNat).toNat) (Xi T 904 32).toNat).1.1 y
        omega
    have p3 : -1 ≤ pyR T k (Xi T 927 (Xi T 915 (nmR T t m).toNat).toNat) := pyR_rg
    rw [if_neg p2]
    omega
  · rw [if_neg c3] at q; omega
theorem cvr_0 {S : sS} {t : Int} : ∀ m : Nat, 0 ≤ cvR S t m
  | 0 => Int.le_refl _
  | m + 1 => by
    have i := cvr_0 (S := S) (t := t) m
    show 0 ≤ cvR S t m + (if Xi S 927 m = t then 1 else 0)
    split <;> omega
section
variable {T : sS} {n : Nat} {first : Int}
theorem dk_0 (c : RTV T n) (_ : OVB T) (s : Xi T 904 70 = 0) : PX_mo_does_0 T first := by
  have d : 0 ≤ Xi T 904 60 := c.2.2.2.1.1 s
  have r : -1 ≤ Xi T 904 60 ∧ Xi T 904 60 ≤ 23 := c.1.c 904 60
  have p : 0 ≤ Xi T 908 (Xi T 904 81).toNat ∧ Xi T 908 (Xi T 904 81).toNat ≤ 5000 := c.1.c 908 _
  exact ⟨s, c.2.2.2.2, ⟨d, r.2⟩, by omega, by omega⟩
theorem dk_1 (c : RTV T n) (s : Xi T 904 70 = 1) : PX_mo_does_1 T first := by
  have d := (c.2.2.2.1.2.1 s).1
  have r : 0 ≤ Xi T 904 55 ∧ Xi T 904 55 ≤ 20 := c.1.c 904 55
  exact ⟨hi_ls c.1, (hi_15 c.1).1, hi_rb c.1, ⟨r.1, d⟩, s⟩
theorem dk_2 (c : RTV T n) (s : Xi T 904 70 = 2) : PX_mo_does_2 T first := by
  have a : 0 ≤ Xi T 904 23 ∧ Xi T 904 23 ≤ 24 := c.1.c 904 23
  have b : 0 ≤ Xi T 904 94 ∧ Xi T 904 94 ≤ 1700 := c.1.c 904 94
  have d : 0 ≤ Xi T 904 117 ∧ Xi T 904 117 ≤ 480 := c.1.c 904 117
  exact ⟨hi_ls c.1, (hi_15 c.1).1, hi_rb c.1, by omega, b, by omega, s⟩
theorem dk_7 (c : RTV T n) (s : Xi T 904 70 = 7) : PX_mo_does_7 T first := ⟨hi_ls c.1, (hi_15 c.1).1, hi_rb c.1, s, c.1.c 904 47⟩
theorem dk_8 (c : RTV T n) (s : Xi T 904 70 = 8) : PX_mo_does_8 T first := ⟨hi_ls c.1, (hi_15 c.1).1, hi_rb c.1, s, by have := (hi_15 c.1).2; omega⟩
theorem dk_9 (c : RTV T n) (s : Xi T 904 70 = 9) : PX_mo_does_9 T first := by
  obtain ⟨d1, d2, _⟩ := c.2.2.2.1.2.2.2.2.2.1 s
  exact ⟨hi_ls c.1, (hi_15 c.1).1, hi_rb c.1, hi_lx c.1, c.2.2.2.2, d1, fun q => d2.resolve_left (fun w => w q), s⟩
theorem dk_10 (c : RTV T n) (s : Xi T 904 70 = 10) : PX_mo_does_10 T first := by
  obtain ⟨d1, d2, _⟩ := c.2.2.2.1.2.2.2.2.2.2.1 s
  have a : 0 ≤ Xi T 904 16 ∧ Xi T 904 16 ≤ 16 := c.1.c 904 16
  have b : 0 ≤ Xi T 904 18 ∧ Xi T 904 18 ≤ 8 := c.1.c 904 18
  have k : cKR T + Xi T 904 72 ≤ 16 := by
    unfold cKR
    by_cases q : Xi T 904 78 = -2
    · rw [if_pos q]; have := d1 q; omega
    · rw [if_neg q]; exact d2 q
  exact ⟨hi_ls c.1, (hi_15 c.1).1, hi_rb c.1, hi_lx c.1, hi_li c.1, s, by omega, k, by have := (hi_15 c.1).2; omega⟩
theorem dk_11 (c : RTV T n) (s : Xi T 904 70 = 11) (w : -1 ≤ Xi T 904 78) : PX_mo_does_11 T first := by
  obtain ⟨d1, d2, _⟩ := c.2.2.2.1.2.2.2.2.2.2.2.1 s
  have a : 0 ≤ Xi T 904 49 ∧ Xi T 904 49 ≤ 12 := c.1.c 904 49
  exact ⟨hi_ls c.1, (hi_15 c.1).1, hi_rb c.1, hi_lx c.1, hi_li c.1, s, fun q => d2 (by omega), ⟨a.1, d1⟩, by have := (hi_15 c.1).2; omega⟩
theorem ob4_i (c : RTV T n) : OB4 T := fun k hk q => lx_cm c.1 c.2.1.1 hk q
theorem dk_12 (c : RTV T n) (_ : OVB T) (l : LOQ T (Xi T 904 71) (Xi T 904 72).toNat) (s : Xi T 904 70 = 12) : PX_mo_does_12 T first := by
  obtain ⟨_, ⟨_, d2⟩, _⟩ := c.2.2.2.1.2.2.2.2.2.2.2.2.1 s
  have a : 0 ≤ Xi T 904 110 ∧ Xi T 904 110 ≤ 15 := c.1.c 904 110
  have b := hi_pl c.1
  exact ⟨hi_ls c.1, (hi_15 c.1).1, hi_rb c.1, hi_lx c.1, c.2.1.2, hi_li c.1, hi_kx c.1, ob4_i c, hi_ct c.1, c.2.2.2.2, hi_19 c.1, by omega, l, by omega, c.1.c 904 112, fun _ i hi => adm_b c.1 (d2 i hi), s⟩
theorem dk_13 (c : RTV T n) (_ : OVB T) (l : LOQ T (Xi T 904 71) (Xi T 904 72).toNat) (s : Xi T 904 70 = 13) : PX_mo_does_13 T first := by
  have a : 0 ≤ Xi T 904 110 ∧ Xi T 904 110 ≤ 15 := c.1.c 904 110
  have b := hi_pl c.1
  exact ⟨hi_ls c.1, (hi_15 c.1).1, hi_rb c.1, hi_lx c.1, c.2.1.2, hi_li c.1, hi_kx c.1, ob4_i c, hi_ct c.1, c.2.2.2.2, hi_19 c.1, by omega, l, by omega, c.1.c 904 112, fun q => absurd s q, s⟩
theorem dk_14 (c : RTV T n) (w : Xi T 904 51 ≤ 144) (s : Xi T 904 70 = 14) : PX_mo_does_14 T first := by
  obtain ⟨d1, _⟩ := c.2.2.2.1.2.2.2.2.2.2.2.2.2.2.1 s
  have a := hi_li c.1
  have b := hi_pl c.1
  have e : 0 ≤ Xi T 904 51 ∧ Xi T 904 51 ≤ 200 := c.1.c 904 51
  have g : 0 ≤ Xi T 904 69 ∧ Xi T 904 69 ≤ 2600 := c.1.c 904 69
  have r78 := c.2.2.1.2.2.2.2.2.2.1 (Or.inr (by omega))
  have g78 := c.2.2.1.2.2.2.2.2.2.2.1 (Or.inr (by omega))
  exact ⟨hi_ls c.1, (hi_15 c.1).1, hi_rb c.1, by omega, s, c.2.2.2.2, hi_19 c.1, fun q => by have := (d1 q).1; omega, by omega⟩
theorem rdv_15 (c : RTV T n) (s : Xi T 904 70 = 15 ∨ Xi T 904 70 = 16) : D15 T := c.2.2.2.1.2.2.2.2.2.2.2.2.2.2.2.1 (by omega)
theorem dk_15a (c : RTV T n) (_ : OVB T) (s : Xi T 904 70 = 15 ∨ Xi T 904 70 = 16) (q : Xi T 904 142 = 1) : PX_mo_does_15a T first := by
  obtain ⟨d1, d2⟩ := (rdv_15 c s).1 q
  exact ⟨hi_ls c.1, (hi_15 c.1).1, hi_rb c.1, hi_lx c.1, hi_ct c.1, q, c.2.2.2.2, ⟨d1, (rn_k c.1 c.2.1.1).2⟩, adm_b c.1 d2, by omega⟩
theorem dk_15b (c : RTV T n) (v : Xi T 904 30 ≤ 48) (s : Xi T 904 70 = 15 ∨ Xi T 904 70 = 16) (q : Xi T 904 142 = 2) : PX_mo_does_15b T first := by
  obtain ⟨_, d2, _⟩ := (rdv_15 c s).2.1 q
  have k := cvr_0 (S := T) (t := r2R T (Xi T 904 71) 2 3) (Xi T 904 30).toNat
  have g : 0 ≤ Xi T 904 69 ∧ Xi T 904 69 ≤ 2600 := c.1.c 904 69
  have e : 0 ≤ Xi T 904 30 ∧ Xi T 904 30 ≤ 64 := c.1.c 904 30
  have r78 := c.2.2.1.2.2.2.2.2.2.1 (Or.inr (by omega))
  have g78 := c.2.2.1.2.2.2.2.2.2.2.1 (Or.inr (by omega))
  exact ⟨hi_ls c.1, (hi_15 c.1).1, hi_rb c.1, hi_lx c.1, q, by omega, by omega, by omega⟩
theorem dk_15c (c : RTV T n) (_ : OVB T) (l : LOQ T (Xi T 904 71) (Xi T 904 72).toNat) (s : Xi T 904 70 = 15 ∨ Xi T 904 70 = 16) (q : Xi T 904 142 = 3) : PX_mo_does_15c T first := by
  obtain ⟨_, _, d2⟩ := (rdv_15 c s).2.2.1 q
  have a : 0 ≤ Xi T 904 110 ∧ Xi T 904 110 ≤ 15 := c.1.c 904 110
  have b := hi_pl c.1
  exact ⟨hi_ls c.1, (hi_15 c.1).1, hi_rb c.1, hi_lx c.1, c.2.1.2, hi_li c.1, hi_kx c.1, ob4_i c, hi_ct c.1, c.2.2.2.2, hi_19 c.1, by omega, l, by omega, c.1.c 904 112, fun _ i hi => adm_b c.1 (d2 i hi), q, by omega⟩
theorem dk_15d (c : RTV T n) (_ : OVB T) (s : Xi T 904 70 = 15 ∨ Xi T 904 70 = 16) (q : Xi T 904 142 = 4) : PX_mo_does_15d T first := by
  have d := (rdv_15 c s).2.2.2 (by omega) (by omega) (by omega)
  have f : 0 ≤ Xi T 950 (Xi T 904 78).toNat ∧ Xi T 950 (Xi T 904 78).toNat ≤ 5010 := c.1.c 950 _
  have e75 : 0 ≤ Xi T 904 75 ∧ Xi T 904 75 ≤ 1 := c.1.c 904 75
  refine ⟨hi_ls c.1, (hi_15 c.1).1, hi_rb c.1, hi_lx c.1, c.2.1.2, hi_li c.1, hi_kx c.1, hi_ct c.1, hi_32 c.1, q, c.2.2.2.2, by omega, fun i hi => ?_, by omega⟩
  obtain ⟨y1, y2⟩ := d i (by omega) hi
  have k := rn_cm c.1 c.2.1.1 y1
  have k2 : cM T 4 = Xi T 904 19 := rfl
  have k3 := hi_19 c.1
  refine ⟨⟨k.1, ?_⟩, acr_b c.1 y2 ?_⟩
  · show rnR T (Xi T 904 71 + i) 4 ≤ 23
    omega
  · unfold h15R
    by_cases w : Xi T 904 75 = 0
    · rw [if_pos w, w]; rfl
    · rw [if_neg w]; omega
theorem dk_17 (c : RTV T n) (s : Xi T 904 70 = 17) : PX_mo_does_17 T first := by
  obtain ⟨d1, _⟩ := c.2.2.2.1.2.2.2.2.2.2.2.2.2.2.2.2.1 s
  exact ⟨hi_ls c.1, (hi_15 c.1).1, hi_rb c.1, hi_lx c.1, s, c.2.2.2.2, d1, hi_32 c.1⟩
theorem dk_18 (c : RTV T n) (s : Xi T 904 70 = 18) : PX_mo_does_18 T first := by
  obtain ⟨d1, _⟩ := c.2.2.2.1.2.2.2.2.2.2.2.2.2.2.2.2.2.1 s
  exact ⟨hi_ls c.1, (hi_15 c.1).1, hi_rb c.1, s, d1, c.1.c 904 23⟩
theorem dk_19 (c : RTV T n) (s : Xi T 904 70 = 19) : PX_mo_does_19 T first := by
  have a : 0 ≤ Xi T 904 79 ∧ Xi T 904 79 ≤ 1 := c.1.c 904 79
  have b : 0 ≤ Xi T 904 80 ∧ Xi T 904 80 ≤ 1 := c.1.c 904 80
  exact ⟨hi_ls c.1, (hi_15 c.1).1, hi_rb c.1, s, c.1.c 904 41, by omega, by omega⟩
theorem dk_20 (c : RTV T n) (s : Xi T 904 70 = 20) : PX_mo_does_20 T first := by
  have a : 0 ≤ Xi T 904 144 ∧ Xi T 904 144 ≤ 2600 := c.1.c 904 144
  have b : 0 ≤ Xi T 904 146 ∧ Xi T 904 146 ≤ 2600 := c.1.c 904 146
  exact ⟨hi_19 c.1, c.2.2.2.2, c.1.c 904 147, by omega, by omega, fun i _ => c.1.c 988 i, fun i _ => c.1.c 989 i, s⟩
end
end
