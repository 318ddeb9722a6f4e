/-! SAFETY of methods: printed by wip/safe (vc.py, decl.py) -/
/-! SAFETY of the reference: what holds between sentences -/
def TIX (S : sS) : Prop := TXM S ∧ WYM S ∧ LXM S ∧ LCN S ∧ ABV S ∧ DCM S ∧ VTM S ∧ VCN S ∧ WYD S ∧ RDT S ∧ AKR S ∧ Xi S 904 60 < Xi S 904 19 ∧ 2 ≤ Xi S 904 16
theorem smk_q9 {l : List rec} {S T : sS} (f : FR l S T) (e : kdis l [(969, 988)] = true) (k : Nat) (a : 969 ≤ k) (b : k ≤ 987) (j : Nat) : Xi T k j = Xi S k j := by
  have q := f.smk e
  rcases (by omega : k = 969 ∨ k = 970 ∨ k = 971 ∨ k = 972 ∨ k = 973 ∨ k = 974 ∨ k = 975 ∨ k = 976 ∨ k = 977 ∨ k = 978 ∨ k = 979 ∨ k = 980 ∨ k = 981 ∨ k = 982 ∨ k = 983 ∨ k = 984 ∨ k = 985 ∨ k = 986 ∨ k = 987) with h | h | h | h | h | h | h | h | h | h | h | h | h | h | h | h | h | h | h <;> subst h <;> exact q.x _ rfl j
theorem tbx_gr {S T : sS} (hB : TBX S) (g : GR T S) (e1 : Xi S 904 117 ≤ Xi T 904 117) (e1b : Xi T 904 117 ≤ Xi S 904 117 + 6 * (Xi T 904 23 - Xi S 904 23)) (e2 : Xi T 904 125 = Xi S 904 125) (e3 : Xi T 904 130 = Xi S 904 130) (e : ∀ k, 969 ≤ k → k ≤ 987 → ∀ j, Xi T k j = Xi S k j) (hn : ∀ a : Nat, Xi S 904 23 ≤ (a : Int) → (a : Int) < Xi T 904 23 → 0 < Xi T 924 a → Xi T 923 a + Xi T 924 a ≤ Xi T 904 117) : TBX T := by
  refine ⟨by have b := hB.1; omega, fun a ha hp => ?_, fun r hr => ?_⟩
  · by_cases q : (a : Int) < Xi S 904 23
    · obtain ⟨_, x, y⟩ := g.2.1 a q
      rw [y] at hp
      have t := hB.2.1 a q hp
      rw [x, y]
      omega
    · exact hn a (by omega) ha hp
  · obtain ⟨⟨b1, b2⟩, b3⟩ := hB.2.2 r (by omega)
    rw [e 984 (by omega) (by omega), e 985 (by omega) (by omega), e 986 (by omega) (by omega), e 987 (by omega) (by omega), e2]
    refine ⟨⟨by omega, b2⟩, fun k hk => ?_⟩
    rw [e 977 (by omega) (by omega)]
    have := b3 k hk
    omega
theorem rul_gr {S T : sS} (hR : RULM S) (g : GR T S) (e3 : Xi T 904 130 = Xi S 904 130) (e : ∀ k, 969 ≤ k → k ≤ 987 → ∀ j, Xi T k j = Xi S k j) : RULM T := fun r hr => ru_gr g (fun k a b _ => e k (by omega) b r) (fun k _ => e 983 (by omega) (by omega) _) (fun k _ j a b => e j a (by omega) _) (fun k _ => ⟨⟨e 976 (by omega) (by omega) _, e 977 (by omega) (by omega) _⟩, fun j a b => e j a (by omega) _⟩) (hR r (by omega))
theorem rdt_gr {S T : sS} (h : RDT S) (g : GR T S) (e1 : Xi T 904 117 = Xi S 904 117) (e2 : Xi T 904 125 = Xi S 904 125) (e3 : Xi T 904 130 = Xi S 904 130) (e : ∀ k, 969 ≤ k → k ≤ 987 → ∀ j, Xi T k j = Xi S k j) (hn : ∀ a : Nat, Xi S 904 23 ≤ (a : Int) → (a : Int) < Xi T 904 23 → Xi T 924 a = 0) : RDT T := by
  have c := g.1.2.2.2.1
  exact ⟨rul_gr h.1 g e3 e, defm_gr h.2.1 g (fun k a b i => e k a (by omega) i) (fun a x y z => absurd (hn a x y) (by omega)), tbx_gr h.2.2 g (by omega) (by omega) e2 e3 e (fun a x y z => absurd (hn a x y) (by omega))⟩
theorem rdt_df {S T : sS} (h : RDT S) (g : GR T S) (hd : DEFM T) (hc : Xi T 904 23 = Xi S 904 23 + 1) (h0 : 0 ≤ Xi S 904 23) (e1 : Xi S 904 117 ≤ Xi T 904 117 ∧ Xi T 904 117 ≤ Xi S 904 117 + 6) (e2 : Xi T 904 125 = Xi S 904 125) (e3 : Xi T 904 130 = Xi S 904 130) (e : ∀ k, 969 ≤ k → k ≤ 987 → ∀ j, Xi T k j = Xi S k j) (hn : Xi T 923 (Xi S 904 23).toNat + Xi T 924 (Xi S 904 23).toNat ≤ Xi T 904 117) : RDT T := ⟨rul_gr h.1 g e3 e, hd, tbx_gr h.2.2 g e1.1 (by omega) e2 e3 e (fun a x y z => by rw [show a = (Xi S 904 23).toNat by omega]; exact hn)⟩
theorem lxm_two {S T : sS} (hM : LXM S) (k : LXK T S (Xi S 904 15)) (g : GR T S) (h0 : 0 ≤ Xi S 904 15) (e : Xi T 904 15 = Xi S 904 15 + 2) (h1 : Xi T 915 (Xi S 904 15).toNat < cM T (Xi T 914 (Xi S 904 15).toNat)) (h2 : Xi T 915 (Xi S 904 15 + 1).toNat < cM T (Xi T 914 (Xi S 904 15 + 1).toNat)) : LXM T := fun i hi => by
  by_cases q : (i : Int) < Xi S 904 15
  · obtain ⟨_, _, _, _, _, e4, e5⟩ := k (i : Int) (by omega) q
    rw [show (i : Int).toNat = i by omega] at e4 e5
    rw [e4, e5]
    exact Int.lt_of_lt_of_le (hM i q) (cM_le g _)
  · by_cases c : (i : Int) = Xi S 904 15
    · rw [show i = (Xi S 904 15).toNat by omega]; exact h1
    · rw [show i = (Xi S 904 15 + 1).toNat by omega]; exact h2
theorem nadj2 {U : sS} {a0 : Int} (h0 : 0 ≤ a0) (c : Xi U 904 23 = a0 + 1 + 1) (o : (Xi U 922 a0.toNat = a0 + 1 ∧ Xi U 924 a0.toNat = 0) ∧ (Xi U 922 (a0 + 1).toNat = a0 ∧ Xi U 924 (a0 + 1).toNat = 0)) (a : Nat) (x : a0 ≤ (a : Int)) (y : (a : Int) < Xi U 904 23) : Xi U 924 a = 0 ∧ Xi U 922 a ≠ -1 := by
  rcases (by omega : a = a0.toNat ∨ a = (a0 + 1).toNat) with e | e <;> rw [e]
  · exact ⟨o.1.2, by rw [o.1.1]; omega⟩
  · exact ⟨o.2.2, by rw [o.2.1]; omega⟩
