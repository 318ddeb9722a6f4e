/-! SAFETY of methods: printed by wip/safe (vc.py, decl.py) -/
/-! SAFETY of the reference: what holds between sentences -/
def TIX (S : sS) : Prop := TXM S ∧ WYM S ∧ LXM S ∧ LCN S ∧ ABV S ∧ DCM S ∧ VTM S ∧ VCN S ∧ WYD S ∧ RDT S ∧ AKR S ∧ Xi S 904 60 < Xi S 904 19 ∧ 2 ≤ Xi S 904 16
theorem smk_q9 {l : List rec} {S T : sS} (f : FR l S T) (e : kdis l [(969, 988)] = true) (k : Nat) (a : 969 ≤ k) (b : k ≤ 987) (j : Nat) : Xi T k j = Xi S k j := by
  have q := f.smk e
  rcases (by omega : k = 969 ∨ k = 970 ∨ k = 971 ∨ k = 972 ∨ k = 973 ∨ k = 974 ∨ k = 975 ∨ k = 976 ∨ k = 977 ∨ k = 978 ∨ k = 979 ∨ k = 980 ∨ k = 981 ∨ k = 982 ∨ k = 983 ∨ k = 984 ∨ k = 985 ∨ k = 986 ∨ k = 987) with h | h | h | h | h | h | h | h | h | h | h | h | h | h | h | h | h | h | h <;> subst h <;> exact q.x _ rfl j
theorem tbx_gr {S T : sS} (hB : TBX S) (g : GR T S) (e1 : Xi S 904 117 ≤ Xi T 904 117) (e1b : Xi T 904 117 ≤ Xi S 904 117 + 6 * (Xi T 904 23 - Xi S 904 23)) (e2 : Xi T 904 125 = Xi S 904 125) (e3 : Xi T 904 130 = Xi S 904 130) (e : ∀ k, 969 ≤ k → k ≤ 987 → ∀ j, Xi T k j = Xi S k j) (hn : ∀ a : Nat, Xi S 904 23 ≤ (a : Int) → (a : Int) < Xi T 904 23 → 0 < Xi T 924 a → Xi T 923 a + Xi T 924 a ≤ Xi T 904 117) : TBX T := by
  refine ⟨by have b := hB.1; omega, fun a ha hp => ?_, fun r hr => ?_⟩
  · by_cases q : (a : Int) < Xi S 904 23
    · obtain ⟨_, x, y⟩ := g.2.1 a q
      rw [y] at hp
      have t := hB.2.1 a q hp
      rw [x, y]
      omega
    · exact hn a (by omega) ha hp
  · obtain ⟨⟨b1, b2⟩, b3⟩ := hB.2.2 r (by omega)
    rw [e 984 (by omega) (by omega), e 985 (by omega) (by omega), e 986 (by omega) (by omega), e 987 (by omega) (by omega), e2]
    refine ⟨⟨by omega, b2⟩, fun k hk => ?_⟩
    rw [e 977 (by omega) (by omega)]
    have := b3 k hk
    omega
theorem rul_gr {S T : sS} (hR : RULM S) (g : GR T S) (e3 : Xi T 904 130 = Xi S 904 130) (e : ∀ k, 969 ≤ k → k ≤ 987 → ∀ j, Xi T k j = Xi S k j) : RULM T := fun r hr => ru_gr g (fun k a b _ => e k (by omega) b r) (fun k _ => e 983 (by omega) (by omega) _) (fun k _ j a b => e j a (by omega) _) (fun k _ => ⟨⟨e 976 (by omega) (by omega) _, e 977 (by omega) (by omega) _⟩, fun j a b => e j a (by omega) _⟩) (hR r (by omega))
theorem rdt_gr {S T : sS} (h : RDT S) (g : GR T S) (e1 : Xi T 904 117 = Xi S 904 117) (e2 : Xi T 904 125 = Xi S 904 125) (e3 : Xi T 904 130 = Xi S 904 130) (e : ∀ k, 969 ≤ k → k ≤ 987 → ∀ j, Xi T k j = Xi S k j) (hn : ∀ a : Nat, Xi S 904 23 ≤ (a : Int) → (a : Int) < Xi T 904 23 → Xi T 924 a = 0) : RDT T := by
  have c := g.1.2.2.2.1
  exact ⟨rul_gr h.1 g e3 e, defm_gr h.2.1 g (fun k a b i => e k a (by omega) i) (fun a x y z => absurd (hn a x y) (by omega)), tbx_gr h.2.2 g (by omega) (by omega) e2 e3 e (fun a x y z => absurd (hn a x y) (by omega))⟩
theorem rdt_df {S T : sS} (h : RDT S) (g : GR T S) (hd : DEFM T) (hc : Xi T 904 23 = Xi S 904 23 + 1) (h0 : 0 ≤ Xi S 904 23) (e1 : Xi S 904 117 ≤ Xi T 904 117 ∧ Xi T 904 117 ≤ Xi S 904 117 + 6) (e2 : Xi T 904 125 = Xi S 904 125) (e3 : Xi T 904 130 = Xi S 904 130) (e : ∀ k, 969 ≤ k → k ≤ 987 → ∀ j, Xi T k j = Xi S k j) (hn : Xi T 923 (Xi S 904 23).toNat + Xi T 924 (Xi S 904 23).toNat ≤ Xi T 904 117) : RDT T := ⟨rul_gr h.1 g e3 e, hd, tbx_gr h.2.2 g e1.1 (by omega) e2 e3 e (fun a x y z => by rw [show a = (Xi S 904 23).toNat by omega]; exact hn)⟩
theorem lxm_two {S T : sS} (hM : LXM S) (k : LXK T S (Xi S 904 15)) (g : GR T S) (h0 : 0 ≤ Xi S 904 15) (e : Xi T 904 15 = Xi S 904 15 + 2) (h1 : Xi T 915 (Xi S 904 15).toNat < cM T (Xi T 914 (Xi S 904 15).toNat)) (h2 : Xi T 915 (Xi S 904 15 + 1).toNat < cM T (Xi T 914 (Xi S 904 15 + 1).toNat)) : LXM T := fun i hi => by
  by_cases q : (i : Int) < Xi S 904 15
  · obtain ⟨_, _, _, _, _, e4, e5⟩ := k (i : Int) (by omega) q
    rw [show (i : Int).toNat = i by omega] at e4 e5
    rw [e4, e5]
    exact Int.lt_of_lt_of_le (hM i q) (cM_le g _)
  · by_cases c : (i : Int) = Xi S 904 15
    · rw [show i = (Xi S 904 15).toNat by omega]; exact h1
    · rw [show i = (Xi S 904 15 + 1).toNat by omega]; exact h2
theorem nadj2 {U : sS} {a0 : Int} (h0 : 0 ≤ a0) (c : Xi U 904 23 = a0 + 1 + 1) (o : (Xi U 922 a0.toNat = a0 + 1 ∧ Xi U 924 a0.toNat = 0) ∧ (Xi U 922 (a0 + 1).toNat = a0 ∧ Xi U 924 (a0 + 1).toNat = 0)) (a : Nat) (x : a0 ≤ (a : Int)) (y : (a : Int) < Xi U 904 23) : Xi U 924 a = 0 ∧ Xi U 922 a ≠ -1 := by
  rcases (by omega : a = a0.toNat ∨ a = (a0 + 1).toNat) with e | e <;> rw [e]
  · exact ⟨o.1.2, by rw [o.1.1]; omega⟩
  · exact ⟨o.2.2, by rw [o.2.1]; omega⟩
def md_mo_does : List rec := [(904, 905, 15, 16), (904, 905, 16, 17), (904, 905, 18, 19), (904, 905, 19, 20), (904, 905, 23, 24), (904, 905, 30, 31), (904, 905, 32, 33), (904, 905, 41, 42), (904, 905, 47, 48), (904, 905, 49, 50), (904, 905, 51, 52), (904, 905, 55, 56), (904, 905, 60, 61), (904, 905, 64, 65), (904, 905, 73, 74), (904, 905, 105, 106), (904, 905, 106, 107), (904, 905, 113, 114), (904, 905, 117, 118), (912, 913, 0, 100000), (913, 914, 0, 100000), (914, 915, 0, 100000), (915, 916, 0, 100000), (916, 917, 0, 100000), (917, 918, 0, 100000), (918, 919, 0, 100000), (919, 920, 0, 100000), (920, 921, 0, 100000), (921, 922, 0, 100000), (922, 923, 0, 100000), (923, 924, 0, 100000), (924, 925, 0, 100000), (925, 926, 0, 100000), (926, 927, 0, 100000), (927, 928, 0, 100000), (928, 929, 0, 100000), (929, 930, 0, 100000), (930, 931, 0, 100000), (931, 932, 0, 100000), (932, 933, 0, 100000), (933, 934, 0, 100000), (934, 935, 0, 100000), (935, 936, 0, 100000), (936, 937, 0, 100000), (937, 938, 0, 100000), (938, 939, 0, 100000), (939, 940, 0, 100000), (940, 941, 0, 100000), (941, 942, 0, 100000), (942, 943, 0, 100000), (943, 944, 0, 100000), (944, 945, 0, 100000), (945, 946, 0, 100000), (946, 947, 0, 100000), (947, 948, 0, 100000), (948, 949, 0, 100000), (949, 950, 0, 100000)]
abbrev Q_mo_does (S : sS) (n : Nat) (first : Int) : pst := fun r S1 => HI S1 ∧ FR md_mo_does S S1 ∧ (r = none ∧ (TIX S1))
set_option maxRecDepth 100000 in
set_option maxHeartbeats 1000000 in
theorem c104_mo_does {S : sS} (hH : HI S) (n : Nat) (first : Int) (hfirst : 0 ≤ first ∧ first ≤ 5001) (hT : TK S n) (hv : RNV S n) (hK : TXK S n) (hI : TIX S) (hq : SNQ S n) (hk : DOK S) (h11 : Xi S 904 70 = 11 → -1 ≤ Xi S 904 78) (d : Nat) : (Xi S 904 70 = 0) → Rl lay0 (d + 7) m_mo_does 104 [(0, .ref 904), (1, iv first)] [] S (Q_mo_does S n first) := by
  have hF : FR md_mo_does S S := FR.rf
  have w1 : 0 ≤ Xi S 904 117 ∧ Xi S 904 117 ≤ 480 := hH.c _ _
  have w2 : 0 ≤ Xi S 904 15 ∧ Xi S 904 15 ≤ 300 := hH.c _ _
  have w3 : 0 ≤ Xi S 904 16 ∧ Xi S 904 16 ≤ 16 := hH.c _ _
  have w4 : 0 ≤ Xi S 904 18 ∧ Xi S 904 18 ≤ 8 := hH.c _ _
  have w5 : 0 ≤ Xi S 904 19 ∧ Xi S 904 19 ≤ 24 := hH.c _ _
  have w6 : 0 ≤ Xi S 904 23 ∧ Xi S 904 23 ≤ 24 := hH.c _ _
  have w7 : 0 ≤ Xi S 904 30 ∧ Xi S 904 30 ≤ 64 := hH.c _ _
  have w8 : 0 ≤ Xi S 904 32 ∧ Xi S 904 32 ≤ 12 := hH.c _ _
  have w9 : 0 ≤ Xi S 904 41 ∧ Xi S 904 41 ≤ 6 := hH.c _ _
  have w10 : 0 ≤ Xi S 904 47 ∧ Xi S 904 47 ≤ 8 := hH.c _ _
  have w11 : 0 ≤ Xi S 904 49 ∧ Xi S 904 49 ≤ 12 := hH.c _ _
  have w12 : -1 ≤ Xi S 904 60 ∧ Xi S 904 60 ≤ 23 := hH.c _ _
  have w13 : 0 ≤ Xi S 904 69 ∧ Xi S 904 69 ≤ 2600 := hH.c _ _
  have w14 : 0 ≤ Xi S 904 70 ∧ Xi S 904 70 ≤ 20 := hH.c _ _
  have w15 : 0 ≤ Xi S 904 71 ∧ Xi S 904 71 ≤ 2600 := hH.c _ _
  have w16 : 0 ≤ Xi S 904 72 ∧ Xi S 904 72 ≤ 2600 := hH.c _ _
  have w17 : -2 ≤ Xi S 904 78 ∧ Xi S 904 78 ≤ 5010 := hH.c _ _
  have hX : TXM S := hI.1
  have hW : WYM S := hI.2.1
  have hM : LXM S := hI.2.2.1
  have hLC : LCN S := hI.2.2.2.1
  have hB : ABV S := hI.2.2.2.2.1
  have hC : DCM S := hI.2.2.2.2.2.1
  have hV : VTM S := hI.2.2.2.2.2.2.1
  have hVC : VCN S := hI.2.2.2.2.2.2.2.1
  have hWD : WYD S := hI.2.2.2.2.2.2.2.2.1
  have hRD : RDT S := hI.2.2.2.2.2.2.2.2.2.1
  have hAK : AKR S := hI.2.2.2.2.2.2.2.2.2.2.1
  have hd6 : Xi S 904 60 < Xi S 904 19 := hI.2.2.2.2.2.2.2.2.2.2.2.1
  have h16 : 2 ≤ Xi S 904 16 := hI.2.2.2.2.2.2.2.2.2.2.2.2
  have h32 : 1 ≤ Xi S 904 32 := hAK.2.2.2.2.2.2.2
  have hn5 := hT.1
  have hc69 : 0 ≤ Xi S 904 69 ∧ Xi S 904 69 ≤ 2600 := hH.c _ _
  have hc70 : 0 ≤ Xi S 904 70 ∧ Xi S 904 70 ≤ 20 := hH.c _ _
  have hc16 : 0 ≤ Xi S 904 16 ∧ Xi S 904 16 ≤ 16 := hH.c _ _
  have hc18 : 0 ≤ Xi S 904 18 ∧ Xi S 904 18 ≤ 8 := hH.c _ _
  have hc19 : 0 ≤ Xi S 904 19 ∧ Xi S 904 19 ≤ 24 := hH.c _ _
  have hc23 : 0 ≤ Xi S 904 23 ∧ Xi S 904 23 ≤ 24 := hH.c _ _
  have hc30 : 0 ≤ Xi S 904 30 ∧ Xi S 904 30 ≤ 64 := hH.c _ _
  have hc32 : 0 ≤ Xi S 904 32 ∧ Xi S 904 32 ≤ 12 := hH.c _ _
  have hc41 : 0 ≤ Xi S 904 41 ∧ Xi S 904 41 ≤ 6 := hH.c _ _
  have hc47 : 0 ≤ Xi S 904 47 ∧ Xi S 904 47 ≤ 8 := hH.c _ _
  have hc49 : 0 ≤ Xi S 904 49 ∧ Xi S 904 49 ≤ 12 := hH.c _ _
  have hc15 : 0 ≤ Xi S 904 15 ∧ Xi S 904 15 ≤ 300 := hH.c _ _
  have hc117 : 0 ≤ Xi S 904 117 ∧ Xi S 904 117 ≤ 480 := hH.c _ _
  have hc125 : 0 ≤ Xi S 904 125 ∧ Xi S 904 125 ≤ 192 := hH.c _ _
  have hc130 : 0 ≤ Xi S 904 130 ∧ Xi S 904 130 ≤ 24 := hH.c _ _
  have hl9 := lcn_le hH hLC
  intro w18
  refine l_aload_n rfl rfl ?_
  have d104 : 0 ≤ Xi S 904 60 := hk.1 (by omega)
  have s104 := hq.1 (by omega)
  have c104 : 0 ≤ Xi S 904 81 := (hH.c 904 81).1
  have l104 : Xi S 904 81 < n := tk_lt hT (by omega) s104.1 (by have t := s104.2; omega)
  have o104 : Xi S 908 (Xi S 904 81).toNat + 1 + Xi S 909 (Xi S 904 81).toNat ≤ 5000 := hK (Xi S 904 81).toNat (by omega) s104.2
  have g104 : 0 ≤ Xi S 908 (Xi S 904 81).toNat ∧ 0 ≤ Xi S 909 (Xi S 904 81).toNat := ⟨(hH.c 908 _).1, (hH.c 909 _).1⟩
  refine l_aload_n rfl rfl ?_
  refine l_gfi rfl rfl rfl rfl rfl ?_
  refine l_iconst rfl ?_
  refine l_aload_n rfl rfl ?_
  refine l_gfr rfl rfl rfl rfl rfl (hH.r 904 5 908 rfl) ?_
  refine l_aload_n rfl rfl ?_
  refine l_gfi rfl rfl rfl rfl rfl ?_
  have w19 : 0 ≤ (Xi S 904 81) ∧ (Xi S 904 81) ≤ 5010 := hH.c _ _
  refine l_iaload (n := 5002) rfl rfl (by omega) (by omega) (by unfold rg; omega) ?_
  have w20 : 0 ≤ (Xi S 908 (((Xi S 904 81)).toNat)) ∧ (Xi S 908 (((Xi S 904 81)).toNat)) ≤ 5000 := hH.c _ _
  refine l_iconst rfl ?_
  refine l_iadd rfl ?_
  refine l_aload_n rfl rfl ?_
  refine l_gfr rfl rfl rfl rfl rfl (hH.r 904 6 909 rfl) ?_
  refine l_aload_n rfl rfl ?_
  refine l_gfi rfl rfl rfl rfl rfl ?_
  refine l_iaload (n := 5002) rfl rfl (by omega) (by omega) (by unfold rg; omega) ?_
  have w21 : 0 ≤ (Xi S 909 (((Xi S 904 81)).toNat)) ∧ (Xi S 909 (((Xi S 904 81)).toNat)) ≤ 5000 := hH.c _ _
  have w22 : 0 ≤ Xi S 904 117 ∧ Xi S 904 117 ≤ 480 := hH.c _ _
  have w23 : 0 ≤ Xi S 904 15 ∧ Xi S 904 15 ≤ 300 := hH.c _ _
  have w24 : 0 ≤ Xi S 904 16 ∧ Xi S 904 16 ≤ 16 := hH.c _ _
  have w25 : 0 ≤ Xi S 904 19 ∧ Xi S 904 19 ≤ 24 := hH.c _ _
  have w26 : 0 ≤ Xi S 904 23 ∧ Xi S 904 23 ≤ 24 := hH.c _ _
  have w27 : 0 ≤ Xi S 904 32 ∧ Xi S 904 32 ≤ 12 := hH.c _ _
  have w28 : -1 ≤ Xi S 904 60 ∧ Xi S 904 60 ≤ 23 := hH.c _ _
  refine l_callV rfl rfl rfl (t_mo_tellObject hH (Xi S 904 60) 0 ((Xi S 908 (((Xi S 904 81)).toNat)) + 1) (Xi S 909 (((Xi S 904 81)).toNat)) ⟨by omega, by omega⟩ ⟨by omega, by omega⟩ ⟨by omega, by omega⟩ ⟨by omega, by omega⟩ (by first | assumption | exact (by assumption : TXM S)) (by omega) (by omega) (fun _ => by unfold OKT; omega) _) ?_
  rintro _ T1 ⟨hHT1, w31, z30, rfl, w30, w29⟩
  have hFT1 : FR md_mo_does S T1 := FR.tr hF w31 rfl
  show Rl _ _ _ _ _ [iv z30] _ _
  refine l_if_ne rfl rfl (by unfold rg; omega) (fun w32 => ?_) (fun w33 => ?_)
  · refine l_return rfl rfl ?_
    have w34 : Xi T1 904 117 = Xi S 904 117 := (show Xi T1 904 117 = Xi S 904 117 from w31.x _ _ rfl)
    have w35 : 0 ≤ Xi S 904 117 ∧ Xi S 904 117 ≤ 480 := hH.c _ _
    have w36 : Xi T1 904 15 = Xi S 904 15 := (show Xi T1 904 15 = Xi S 904 15 from w31.x _ _ rfl)
    have w37 : 0 ≤ Xi S 904 15 ∧ Xi S 904 15 ≤ 300 := hH.c _ _
    have w38 : Xi T1 904 16 = Xi S 904 16 := (show Xi T1 904 16 = Xi S 904 16 from w31.x _ _ rfl)
    have w39 : 0 ≤ Xi S 904 16 ∧ Xi S 904 16 ≤ 16 := hH.c _ _
    have w40 : Xi T1 904 19 = Xi S 904 19 := (show Xi T1 904 19 = Xi S 904 19 from w31.x _ _ rfl)
    have w41 : 0 ≤ Xi S 904 19 ∧ Xi S 904 19 ≤ 24 := hH.c _ _
    have w42 : Xi T1 904 23 = Xi S 904 23 := (show Xi T1 904 23 = Xi S 904 23 from w31.x _ _ rfl)
    have w43 : 0 ≤ Xi S 904 23 ∧ Xi S 904 23 ≤ 24 := hH.c _ _
    have w44 : Xi T1 904 60 = Xi S 904 60 := (show Xi T1 904 60 = Xi S 904 60 from w31.x _ _ rfl)
    have w45 : -1 ≤ Xi S 904 60 ∧ Xi S 904 60 ≤ 23 := hH.c _ _
    exact ⟨hHT1, hFT1, rfl, (⟨by first | assumption | exact (by assumption : TXM T1), by first | assumption | exact (WYM_FR w31 rfl (by assumption : WYM S)), by first | assumption | exact (LXM_FR w31 rfl (by assumption : LXM S)), by first | assumption | exact (LCN_FR w31 rfl (by assumption : LCN S)), by first | assumption | exact (ABV_FR w31 rfl (by assumption : ABV S)), by first | assumption | exact (DCM_FR w31 rfl (by assumption : DCM S)), by first | assumption | exact (VTM_FR w31 rfl (by assumption : VTM S)), by first | assumption | exact (VCN_FR w31 rfl (by assumption : VCN S)), by first | assumption | exact (WYD_FR w31 rfl (by assumption : WYD S)), by first | assumption | exact (RDT_FR hH w31 rfl rfl rfl (by assumption : RDT S)) | exact rdt_df hRD (GR_FR w31 rfl GR.rf) df153 (by omega) (by omega) (by omega) (hFT1.x 904 125 rfl) (hFT1.x 904 130 rfl) (smk_q9 hFT1 rfl) dn153 | exact rdt_gr hRD (by first | assumption | exact (GR_FR w31 rfl GR.rf)) (by omega) (hFT1.x 904 125 rfl) (hFT1.x 904 130 rfl) (smk_q9 hFT1 rfl) (fun a x y => absurd y (by omega)), akr_gr hAK (by first | assumption | exact (GR_FR w31 rfl GR.rf)), by first | omega | (have g := (by first | assumption | exact (GR_FR w31 rfl GR.rf) : GR T1 S); have t := g.1; omega), by first | omega | (have g := (by first | assumption | exact (GR_FR w31 rfl GR.rf) : GR T1 S); have t := g.1; omega)⟩)⟩
  · refine l_aload_n rfl rfl ?_
    refine l_iconst rfl ?_
    refine l_iload_n rfl rfl ?_
    have w46 : Xi T1 904 117 = Xi S 904 117 := (show Xi T1 904 117 = Xi S 904 117 from w31.x _ _ rfl)
    have w47 : 0 ≤ Xi S 904 117 ∧ Xi S 904 117 ≤ 480 := hH.c _ _
    have w48 : Xi T1 904 15 = Xi S 904 15 := (show Xi T1 904 15 = Xi S 904 15 from w31.x _ _ rfl)
    have w49 : 0 ≤ Xi S 904 15 ∧ Xi S 904 15 ≤ 300 := hH.c _ _
    have w50 : Xi T1 904 16 = Xi S 904 16 := (show Xi T1 904 16 = Xi S 904 16 from w31.x _ _ rfl)
    have w51 : 0 ≤ Xi S 904 16 ∧ Xi S 904 16 ≤ 16 := hH.c _ _
    have w52 : Xi T1 904 19 = Xi S 904 19 := (show Xi T1 904 19 = Xi S 904 19 from w31.x _ _ rfl)
    have w53 : 0 ≤ Xi S 904 19 ∧ Xi S 904 19 ≤ 24 := hH.c _ _
    have w54 : Xi T1 904 23 = Xi S 904 23 := (show Xi T1 904 23 = Xi S 904 23 from w31.x _ _ rfl)
    have w55 : 0 ≤ Xi S 904 23 ∧ Xi S 904 23 ≤ 24 := hH.c _ _
    have w56 : Xi T1 904 60 = Xi S 904 60 := (show Xi T1 904 60 = Xi S 904 60 from w31.x _ _ rfl)
    have w57 : -1 ≤ Xi S 904 60 ∧ Xi S 904 60 ≤ 23 := hH.c _ _
    refine l_callV rfl rfl rfl (t_mo_wrong hHT1 5 first ⟨by omega, by omega⟩ ⟨by omega, by omega⟩ _) ?_
    rintro _ T2 ⟨hHT2, w60, rfl, w58⟩
    have hFT2 : FR md_mo_does S T2 := FR.tr hFT1 w60 rfl
    show Rl _ _ _ _ _ [] _ _
    refine l_goto rfl rfl ?_
    refine l_return rfl rfl ?_
    have w61 : Xi T2 904 117 = Xi S 904 117 := (show Xi T2 904 117 = Xi T1 904 117 from w60.x _ _ rfl).trans ((show Xi T1 904 117 = Xi S 904 117 from w31.x _ _ rfl))
    have w62 : 0 ≤ Xi S 904 117 ∧ Xi S 904 117 ≤ 480 := hH.c _ _
    have w63 : Xi T2 904 15 = Xi S 904 15 := (show Xi T2 904 15 = Xi T1 904 15 from w60.x _ _ rfl).trans ((show Xi T1 904 15 = Xi S 904 15 from w31.x _ _ rfl))
    have w64 : 0 ≤ Xi S 904 15 ∧ Xi S 904 15 ≤ 300 := hH.c _ _
    have w65 : Xi T2 904 16 = Xi S 904 16 := (show Xi T2 904 16 = Xi T1 904 16 from w60.x _ _ rfl).trans ((show Xi T1 904 16 = Xi S 904 16 from w31.x _ _ rfl))
    have w66 : 0 ≤ Xi S 904 16 ∧ Xi S 904 16 ≤ 16 := hH.c _ _
    have w67 : Xi T2 904 19 = Xi S 904 19 := (show Xi T2 904 19 = Xi T1 904 19 from w60.x _ _ rfl).trans ((show Xi T1 904 19 = Xi S 904 19 from w31.x _ _ rfl))
    have w68 : 0 ≤ Xi S 904 19 ∧ Xi S 904 19 ≤ 24 := hH.c _ _
    have w69 : Xi T2 904 23 = Xi S 904 23 := (show Xi T2 904 23 = Xi T1 904 23 from w60.x _ _ rfl).trans ((show Xi T1 904 23 = Xi S 904 23 from w31.x _ _ rfl))
    have w70 : 0 ≤ Xi S 904 23 ∧ Xi S 904 23 ≤ 24 := hH.c _ _
    have w71 : Xi T2 904 60 = Xi S 904 60 := (show Xi T2 904 60 = Xi T1 904 60 from w60.x _ _ rfl).trans ((show Xi T1 904 60 = Xi S 904 60 from w31.x _ _ rfl))
    have w72 : -1 ≤ Xi S 904 60 ∧ Xi S 904 60 ≤ 23 := hH.c _ _
    exact ⟨hHT2, hFT2, rfl, (⟨by first | assumption | exact (TXM_FR w60 rfl (by assumption : TXM T1)), by first | assumption | exact (WYM_FR w60 rfl (WYM_FR w31 rfl (by assumption : WYM S))), by first | assumption | exact (LXM_FR w60 rfl (LXM_FR w31 rfl (by assumption : LXM S))), by first | assumption | exact (LCN_FR w60 rfl (LCN_FR w31 rfl (by assumption : LCN S))), by first | assumption | exact (ABV_FR w60 rfl (ABV_FR w31 rfl (by assumption : ABV S))), by first | assumption | exact (DCM_FR w60 rfl (DCM_FR w31 rfl (by assumption : DCM S))), by first | assumption | exact (VTM_FR w60 rfl (VTM_FR w31 rfl (by assumption : VTM S))), by first | assumption | exact (VCN_FR w60 rfl (VCN_FR w31 rfl (by assumption : VCN S))), by first | assumption | exact (WYD_FR w60 rfl (WYD_FR w31 rfl (by assumption : WYD S))), by first | assumption | exact (RDT_FR hHT1 w60 rfl rfl rfl (RDT_FR hH w31 rfl rfl rfl (by assumption : RDT S))) | exact rdt_df hRD (GR_FR w60 rfl (GR_FR w31 rfl GR.rf)) df153 (by omega) (by omega) (by omega) (hFT2.x 904 125 rfl) (hFT2.x 904 130 rfl) (smk_q9 hFT2 rfl) dn153 | exact rdt_gr hRD (by first | assumption | exact (GR_FR w60 rfl (GR_FR w31 rfl GR.rf))) (by omega) (hFT2.x 904 125 rfl) (hFT2.x 904 130 rfl) (smk_q9 hFT2 rfl) (fun a x y => absurd y (by omega)), akr_gr hAK (by first | assumption | exact (GR_FR w60 rfl (GR_FR w31 rfl GR.rf))), by first | omega | (have g := (by first | assumption | exact (GR_FR w60 rfl (GR_FR w31 rfl GR.rf)) : GR T2 S); have t := g.1; omega), by first | omega | (have g := (by first | assumption | exact (GR_FR w60 rfl (GR_FR w31 rfl GR.rf)) : GR T2 S); have t := g.1; omega)⟩)⟩
set_option maxRecDepth 100000 in
set_option maxHeartbeats 1000000 in
theorem c145_mo_does {S : sS} (hH : HI S) (n : Nat) (first : Int) (hfirst : 0 ≤ first ∧ first ≤ 5001) (hT : TK S n) (hv : RNV S n) (hK : TXK S n) (hI : TIX S) (hq : SNQ S n) (hk : DOK S) (h11 : Xi S 904 70 = 11 → -1 ≤ Xi S 904 78) (d : Nat) : (Xi S 904 70 = 1) → Rl lay0 (d + 7) m_mo_does 145 [(0, .ref 904)] [] S (Q_mo_does S n first) := by
  have hF : FR md_mo_does S S := FR.rf
  have w1 : 0 ≤ Xi S 904 117 ∧ Xi S 904 117 ≤ 480 := hH.c _ _
  have w2 : 0 ≤ Xi S 904 15 ∧ Xi S 904 15 ≤ 300 := hH.c _ _
  have w3 : 0 ≤ Xi S 904 16 ∧ Xi S 904 16 ≤ 16 := hH.c _ _
  have w4 : 0 ≤ Xi S 904 18 ∧ Xi S 904 18 ≤ 8 := hH.c _ _
  have w5 : 0 ≤ Xi S 904 19 ∧ Xi S 904 19 ≤ 24 := hH.c _ _
  have w6 : 0 ≤ Xi S 904 23 ∧ Xi S 904 23 ≤ 24 := hH.c _ _
  have w7 : 0 ≤ Xi S 904 30 ∧ Xi S 904 30 ≤ 64 := hH.c _ _
  have w8 : 0 ≤ Xi S 904 32 ∧ Xi S 904 32 ≤ 12 := hH.c _ _
  have w9 : 0 ≤ Xi S 904 41 ∧ Xi S 904 41 ≤ 6 := hH.c _ _
  have w10 : 0 ≤ Xi S 904 47 ∧ Xi S 904 47 ≤ 8 := hH.c _ _
  have w11 : 0 ≤ Xi S 904 49 ∧ Xi S 904 49 ≤ 12 := hH.c _ _
  have w12 : -1 ≤ Xi S 904 60 ∧ Xi S 904 60 ≤ 23 := hH.c _ _
  have w13 : 0 ≤ Xi S 904 69 ∧ Xi S 904 69 ≤ 2600 := hH.c _ _
  have w14 : 0 ≤ Xi S 904 70 ∧ Xi S 904 70 ≤ 20 := hH.c _ _
  have w15 : 0 ≤ Xi S 904 71 ∧ Xi S 904 71 ≤ 2600 := hH.c _ _
  have w16 : 0 ≤ Xi S 904 72 ∧ Xi S 904 72 ≤ 2600 := hH.c _ _
  have w17 : -2 ≤ Xi S 904 78 ∧ Xi S 904 78 ≤ 5010 := hH.c _ _
  have hX : TXM S := hI.1
  have hW : WYM S := hI.2.1
  have hM : LXM S := hI.2.2.1
  have hLC : LCN S := hI.2.2.2.1
  have hB : ABV S := hI.2.2.2.2.1
  have hC : DCM S := hI.2.2.2.2.2.1
  have hV : VTM S := hI.2.2.2.2.2.2.1
  have hVC : VCN S := hI.2.2.2.2.2.2.2.1
  have hWD : WYD S := hI.2.2.2.2.2.2.2.2.1
  have hRD : RDT S := hI.2.2.2.2.2.2.2.2.2.1
  have hAK : AKR S := hI.2.2.2.2.2.2.2.2.2.2.1
  have hd6 : Xi S 904 60 < Xi S 904 19 := hI.2.2.2.2.2.2.2.2.2.2.2.1
  have h16 : 2 ≤ Xi S 904 16 := hI.2.2.2.2.2.2.2.2.2.2.2.2
  have h32 : 1 ≤ Xi S 904 32 := hAK.2.2.2.2.2.2.2
  have hn5 := hT.1
  have hc69 : 0 ≤ Xi S 904 69 ∧ Xi S 904 69 ≤ 2600 := hH.c _ _
  have hc70 : 0 ≤ Xi S 904 70 ∧ Xi S 904 70 ≤ 20 := hH.c _ _
  have hc16 : 0 ≤ Xi S 904 16 ∧ Xi S 904 16 ≤ 16 := hH.c _ _
  have hc18 : 0 ≤ Xi S 904 18 ∧ Xi S 904 18 ≤ 8 := hH.c _ _
  have hc19 : 0 ≤ Xi S 904 19 ∧ Xi S 904 19 ≤ 24 := hH.c _ _
  have hc23 : 0 ≤ Xi S 904 23 ∧ Xi S 904 23 ≤ 24 := hH.c _ _
  have hc30 : 0 ≤ Xi S 904 30 ∧ Xi S 904 30 ≤ 64 := hH.c _ _
  have hc32 : 0 ≤ Xi S 904 32 ∧ Xi S 904 32 ≤ 12 := hH.c _ _
  have hc41 : 0 ≤ Xi S 904 41 ∧ Xi S 904 41 ≤ 6 := hH.c _ _
  have hc47 : 0 ≤ Xi S 904 47 ∧ Xi S 904 47 ≤ 8 := hH.c _ _
  have hc49 : 0 ≤ Xi S 904 49 ∧ Xi S 904 49 ≤ 12 := hH.c _ _
  have hc15 : 0 ≤ Xi S 904 15 ∧ Xi S 904 15 ≤ 300 := hH.c _ _
  have hc117 : 0 ≤ Xi S 904 117 ∧ Xi S 904 117 ≤ 480 := hH.c _ _
  have hc125 : 0 ≤ Xi S 904 125 ∧ Xi S 904 125 ≤ 192 := hH.c _ _
  have hc130 : 0 ≤ Xi S 904 130 ∧ Xi S 904 130 ≤ 24 := hH.c _ _
  have hl9 := lcn_le hH hLC
  intro w73
  refine l_aload_n rfl rfl ?_
  have d145 : Xi S 904 55 ≤ 19 ∧ rnR S 0 11 ≠ -1 := hk.2.1 (by omega)
  have s145 := hq.2.1 (by omega)
  have w74 : 0 ≤ Xi S 904 117 ∧ Xi S 904 117 ≤ 480 := hH.c _ _
  have w75 : 0 ≤ Xi S 904 15 ∧ Xi S 904 15 ≤ 300 := hH.c _ _
  have w76 : 0 ≤ Xi S 904 16 ∧ Xi S 904 16 ≤ 16 := hH.c _ _
  have w77 : 0 ≤ Xi S 904 19 ∧ Xi S 904 19 ≤ 24 := hH.c _ _
  have w78 : 0 ≤ Xi S 904 23 ∧ Xi S 904 23 ≤ 24 := hH.c _ _
  have w79 : 0 ≤ Xi S 904 55 ∧ Xi S 904 55 ≤ 20 := hH.c _ _
  have w80 : -1 ≤ Xi S 904 60 ∧ Xi S 904 60 ≤ 23 := hH.c _ _
  have w81 : 0 ≤ Xi S 904 69 ∧ Xi S 904 69 ≤ 2600 := hH.c _ _
  refine l_callV rfl rfl rfl (t_mo_doCommand hH n (by first | assumption | exact (TK_FR hF rfl (by assumption : TK S _))) (by first | assumption | exact (RNV_FR hF rfl (by assumption : RNV S _))) (by first | assumption | exact (by assumption : LXM S)) (d145.1) (s145) (d145.2) _) ?_
  rintro _ T3 ⟨hHT3, w83, rfl⟩
  have hFT3 : FR md_mo_does S T3 := FR.tr hF w83 rfl
  show Rl _ _ _ _ _ [] _ _
  refine l_goto rfl rfl ?_
  refine l_return rfl rfl ?_
  have w84 : Xi T3 904 117 = Xi S 904 117 := (show Xi T3 904 117 = Xi S 904 117 from w83.x _ _ rfl)
  have w85 : 0 ≤ Xi S 904 117 ∧ Xi S 904 117 ≤ 480 := hH.c _ _
  have w86 : Xi T3 904 15 = Xi S 904 15 := (show Xi T3 904 15 = Xi S 904 15 from w83.x _ _ rfl)
  have w87 : 0 ≤ Xi S 904 15 ∧ Xi S 904 15 ≤ 300 := hH.c _ _
  have w88 : Xi T3 904 16 = Xi S 904 16 := (show Xi T3 904 16 = Xi S 904 16 from w83.x _ _ rfl)
  have w89 : 0 ≤ Xi S 904 16 ∧ Xi S 904 16 ≤ 16 := hH.c _ _
  have w90 : Xi T3 904 19 = Xi S 904 19 := (show Xi T3 904 19 = Xi S 904 19 from w83.x _ _ rfl)
  have w91 : 0 ≤ Xi S 904 19 ∧ Xi S 904 19 ≤ 24 := hH.c _ _
  have w92 : Xi T3 904 23 = Xi S 904 23 := (show Xi T3 904 23 = Xi S 904 23 from w83.x _ _ rfl)
  have w93 : 0 ≤ Xi S 904 23 ∧ Xi S 904 23 ≤ 24 := hH.c _ _
  have w94 : Xi T3 904 60 = Xi S 904 60 := (show Xi T3 904 60 = Xi S 904 60 from w83.x _ _ rfl)
  have w95 : -1 ≤ Xi S 904 60 ∧ Xi S 904 60 ≤ 23 := hH.c _ _
  exact ⟨hHT3, hFT3, rfl, (⟨by first | assumption | exact (TXM_FR w83 rfl (by assumption : TXM S)), by first | assumption | exact (WYM_FR w83 rfl (by assumption : WYM S)), by first | assumption | exact (LXM_FR w83 rfl (by assumption : LXM S)), by first | assumption | exact (LCN_FR w83 rfl (by assumption : LCN S)), by first | assumption | exact (ABV_FR w83 rfl (by assumption : ABV S)), by first | assumption | exact (DCM_FR w83 rfl (by assumption : DCM S)), by first | assumption | exact (VTM_FR w83 rfl (by assumption : VTM S)), by first | assumption | exact (VCN_FR w83 rfl (by assumption : VCN S)), by first | assumption | exact (WYD_FR w83 rfl (by assumption : WYD S)), by first | assumption | exact (RDT_FR hH w83 rfl rfl rfl (by assumption : RDT S)) | exact rdt_df hRD (GR_FR w83 rfl GR.rf) df153 (by omega) (by omega) (by omega) (hFT3.x 904 125 rfl) (hFT3.x 904 130 rfl) (smk_q9 hFT3 rfl) dn153 | exact rdt_gr hRD (by first | assumption | exact (GR_FR w83 rfl GR.rf)) (by omega) (hFT3.x 904 125 rfl) (hFT3.x 904 130 rfl) (smk_q9 hFT3 rfl) (fun a x y => absurd y (by omega)), akr_gr hAK (by first | assumption | exact (GR_FR w83 rfl GR.rf)), by first | omega | (have g := (by first | assumption | exact (GR_FR w83 rfl GR.rf) : GR T3 S); have t := g.1; omega), by first | omega | (have g := (by first | assumption | exact (GR_FR w83 rfl GR.rf) : GR T3 S); have t := g.1; omega)⟩)⟩
set_option maxRecDepth 100000 in
set_option maxHeartbeats 1000000 in
theorem c152_mo_does {S : sS} (hH : HI S) (n : Nat) (first : Int) (hfirst : 0 ≤ first ∧ first ≤ 5001) (hT : TK S n) (hv : RNV S n) (hK : TXK S n) (hI : TIX S) (hq : SNQ S n) (hk : DOK S) (h11 : Xi S 904 70 = 11 → -1 ≤ Xi S 904 78) (d : Nat) : (Xi S 904 70 = 2) → Rl lay0 (d + 7) m_mo_does 152 [(0, .ref 904)] [] S (Q_mo_does S n first) := by
  have hF : FR md_mo_does S S := FR.rf
  have w1 : 0 ≤ Xi S 904 117 ∧ Xi S 904 117 ≤ 480 := hH.c _ _
  have w2 : 0 ≤ Xi S 904 15 ∧ Xi S 904 15 ≤ 300 := hH.c _ _
  have w3 : 0 ≤ Xi S 904 16 ∧ Xi S 904 16 ≤ 16 := hH.c _ _
  have w4 : 0 ≤ Xi S 904 18 ∧ Xi S 904 18 ≤ 8 := hH.c _ _
  have w5 : 0 ≤ Xi S 904 19 ∧ Xi S 904 19 ≤ 24 := hH.c _ _
  have w6 : 0 ≤ Xi S 904 23 ∧ Xi S 904 23 ≤ 24 := hH.c _ _
  have w7 : 0 ≤ Xi S 904 30 ∧ Xi S 904 30 ≤ 64 := hH.c _ _
  have w8 : 0 ≤ Xi S 904 32 ∧ Xi S 904 32 ≤ 12 := hH.c _ _
  have w9 : 0 ≤ Xi S 904 41 ∧ Xi S 904 41 ≤ 6 := hH.c _ _
  have w10 : 0 ≤ Xi S 904 47 ∧ Xi S 904 47 ≤ 8 := hH.c _ _
  have w11 : 0 ≤ Xi S 904 49 ∧ Xi S 904 49 ≤ 12 := hH.c _ _
  have w12 : -1 ≤ Xi S 904 60 ∧ Xi S 904 60 ≤ 23 := hH.c _ _
  have w13 : 0 ≤ Xi S 904 69 ∧ Xi S 904 69 ≤ 2600 := hH.c _ _
  have w14 : 0 ≤ Xi S 904 70 ∧ Xi S 904 70 ≤ 20 := hH.c _ _
  have w15 : 0 ≤ Xi S 904 71 ∧ Xi S 904 71 ≤ 2600 := hH.c _ _
  have w16 : 0 ≤ Xi S 904 72 ∧ Xi S 904 72 ≤ 2600 := hH.c _ _
  have w17 : -2 ≤ Xi S 904 78 ∧ Xi S 904 78 ≤ 5010 := hH.c _ _
  have hX : TXM S := hI.1
  have hW : WYM S := hI.2.1
  have hM : LXM S := hI.2.2.1
  have hLC : LCN S := hI.2.2.2.1
  have hB : ABV S := hI.2.2.2.2.1
  have hC : DCM S := hI.2.2.2.2.2.1
  have hV : VTM S := hI.2.2.2.2.2.2.1
  have hVC : VCN S := hI.2.2.2.2.2.2.2.1
  have hWD : WYD S := hI.2.2.2.2.2.2.2.2.1
  have hRD : RDT S := hI.2.2.2.2.2.2.2.2.2.1
  have hAK : AKR S := hI.2.2.2.2.2.2.2.2.2.2.1
  have hd6 : Xi S 904 60 < Xi S 904 19 := hI.2.2.2.2.2.2.2.2.2.2.2.1
  have h16 : 2 ≤ Xi S 904 16 := hI.2.2.2.2.2.2.2.2.2.2.2.2
  have h32 : 1 ≤ Xi S 904 32 := hAK.2.2.2.2.2.2.2
  have hn5 := hT.1
  have hc69 : 0 ≤ Xi S 904 69 ∧ Xi S 904 69 ≤ 2600 := hH.c _ _
  have hc70 : 0 ≤ Xi S 904 70 ∧ Xi S 904 70 ≤ 20 := hH.c _ _
  have hc16 : 0 ≤ Xi S 904 16 ∧ Xi S 904 16 ≤ 16 := hH.c _ _
  have hc18 : 0 ≤ Xi S 904 18 ∧ Xi S 904 18 ≤ 8 := hH.c _ _
  have hc19 : 0 ≤ Xi S 904 19 ∧ Xi S 904 19 ≤ 24 := hH.c _ _
  have hc23 : 0 ≤ Xi S 904 23 ∧ Xi S 904 23 ≤ 24 := hH.c _ _
  have hc30 : 0 ≤ Xi S 904 30 ∧ Xi S 904 30 ≤ 64 := hH.c _ _
  have hc32 : 0 ≤ Xi S 904 32 ∧ Xi S 904 32 ≤ 12 := hH.c _ _
  have hc41 : 0 ≤ Xi S 904 41 ∧ Xi S 904 41 ≤ 6 := hH.c _ _
  have hc47 : 0 ≤ Xi S 904 47 ∧ Xi S 904 47 ≤ 8 := hH.c _ _
  have hc49 : 0 ≤ Xi S 904 49 ∧ Xi S 904 49 ≤ 12 := hH.c _ _
  have hc15 : 0 ≤ Xi S 904 15 ∧ Xi S 904 15 ≤ 300 := hH.c _ _
  have hc117 : 0 ≤ Xi S 904 117 ∧ Xi S 904 117 ≤ 480 := hH.c _ _
  have hc125 : 0 ≤ Xi S 904 125 ∧ Xi S 904 125 ≤ 192 := hH.c _ _
  have hc130 : 0 ≤ Xi S 904 130 ∧ Xi S 904 130 ≤ 24 := hH.c _ _
  have hl9 := lcn_le hH hLC
  intro w96
  refine l_aload_n rfl rfl ?_
  have d152 := hk.2.2.1 (by omega)
  have s152 := hq.2.2.1 (by omega)
  have b152 := hRD.2.2.1
  have c152 := d152.1
  have t152 := d152.2.2.2.1
  have w97 : 0 ≤ Xi S 904 117 ∧ Xi S 904 117 ≤ 480 := hH.c _ _
  have w98 : 0 ≤ Xi S 904 15 ∧ Xi S 904 15 ≤ 300 := hH.c _ _
  have w99 : 0 ≤ Xi S 904 16 ∧ Xi S 904 16 ≤ 16 := hH.c _ _
  have w100 : 0 ≤ Xi S 904 19 ∧ Xi S 904 19 ≤ 24 := hH.c _ _
  have w101 : 0 ≤ Xi S 904 23 ∧ Xi S 904 23 ≤ 24 := hH.c _ _
  have w102 : -1 ≤ Xi S 904 60 ∧ Xi S 904 60 ≤ 23 := hH.c _ _
  have w103 : 0 ≤ Xi S 904 69 ∧ Xi S 904 69 ≤ 2600 := hH.c _ _
  have w104 : 0 ≤ Xi S 904 94 ∧ Xi S 904 94 ≤ 1700 := hH.c _ _
  have w105 : 0 ≤ Xi S 951 1 ∧ Xi S 951 1 ≤ 5010 := hH.c _ _
  refine l_callV rfl rfl rfl (t_mo_doDefined hH n (by first | assumption | exact (TK_FR hF rfl (by assumption : TK S _))) (by first | assumption | exact (RNV_FR hF rfl (by assumption : RNV S _))) (by first | assumption | exact (by assumption : LXM S)) (by first | assumption | exact (by assumption : LCN S)) (by first | assumption | exact (by assumption : DCM S)) (hRD.2.1) (d152.1) (s152) (d152.2.1) (d152.2.2.1) (d152.2.2.2.1) (d152.2.2.2.2) (by have t := b152.1; omega) _) ?_
  rintro _ T4 ⟨hHT4, w113, rfl, w106, w107, w108, df153, w109, w110, w111, dn153⟩
  have hFT4 : FR md_mo_does S T4 := FR.tr hF w113 rfl
  show Rl _ _ _ _ _ [] _ _
  refine l_goto rfl rfl ?_
  refine l_return rfl rfl ?_
  have w114 : 0 ≤ Xi T4 904 117 ∧ Xi T4 904 117 ≤ 480 := hHT4.c _ _
  have w115 : 0 ≤ Xi T4 904 15 ∧ Xi T4 904 15 ≤ 300 := hHT4.c _ _
  have w116 : Xi T4 904 16 = Xi S 904 16 := (show Xi T4 904 16 = Xi S 904 16 from w113.x _ _ rfl)
  have w117 : 0 ≤ Xi S 904 16 ∧ Xi S 904 16 ≤ 16 := hH.c _ _
  have w118 : Xi T4 904 19 = Xi S 904 19 := (show Xi T4 904 19 = Xi S 904 19 from w113.x _ _ rfl)
  have w119 : 0 ≤ Xi S 904 19 ∧ Xi S 904 19 ≤ 24 := hH.c _ _
  have w120 : 0 ≤ Xi T4 904 23 ∧ Xi T4 904 23 ≤ 24 := hHT4.c _ _
  have w121 : Xi T4 904 60 = Xi S 904 60 := (show Xi T4 904 60 = Xi S 904 60 from w113.x _ _ rfl)
  have w122 : -1 ≤ Xi S 904 60 ∧ Xi S 904 60 ≤ 23 := hH.c _ _
  exact ⟨hHT4, hFT4, rfl, (⟨by first | assumption | exact (TXM_FR w113 rfl (by assumption : TXM S)), by first | assumption | exact (WYM_FR w113 rfl (by assumption : WYM S)), by first | assumption | exact (by assumption : LXM T4), by first | assumption | exact (by assumption : LCN T4), by first | assumption | exact (ABV_FR w113 rfl (by assumption : ABV S)), by first | assumption | exact (by assumption : DCM T4), by first | assumption | exact (VTM_FR w113 rfl (by assumption : VTM S)), by first | assumption | exact (VCN_FR w113 rfl (by assumption : VCN S)), by first | assumption | exact (WYD_FR w113 rfl (by assumption : WYD S)), by first | assumption | exact (by assumption : RDT T4) | exact rdt_df hRD (GR.tr GR.rf (by assumption : GR T4 S)) df153 (by omega) (by omega) (by omega) (hFT4.x 904 125 rfl) (hFT4.x 904 130 rfl) (smk_q9 hFT4 rfl) dn153 | exact rdt_gr hRD (by first | assumption | exact (GR.tr GR.rf (by assumption : GR T4 S))) (by omega) (hFT4.x 904 125 rfl) (hFT4.x 904 130 rfl) (smk_q9 hFT4 rfl) (fun a x y => absurd y (by omega)), akr_gr hAK (by first | assumption | exact (GR.tr GR.rf (by assumption : GR T4 S))), by first | omega | (have g := (by first | assumption | exact (GR.tr GR.rf (by assumption : GR T4 S)) : GR T4 S); have t := g.1; omega), by first | omega | (have g := (by first | assumption | exact (GR.tr GR.rf (by assumption : GR T4 S)) : GR T4 S); have t := g.1; omega)⟩)⟩
set_option maxRecDepth 100000 in
set_option maxHeartbeats 1000000 in
theorem c159_mo_does {S : sS} (hH : HI S) (n : Nat) (first : Int) (hfirst : 0 ≤ first ∧ first ≤ 5001) (hT : TK S n) (hv : RNV S n) (hK : TXK S n) (hI : TIX S) (hq : SNQ S n) (hk : DOK S) (h11 : Xi S 904 70 = 11 → -1 ≤ Xi S 904 78) (d : Nat) : (Xi S 904 70 = 7) → Rl lay0 (d + 7) m_mo_does 159 [(0, .ref 904)] [] S (Q_mo_does S n first) := by
  have hF : FR md_mo_does S S := FR.rf
  have w1 : 0 ≤ Xi S 904 117 ∧ Xi S 904 117 ≤ 480 := hH.c _ _
  have w2 : 0 ≤ Xi S 904 15 ∧ Xi S 904 15 ≤ 300 := hH.c _ _
  have w3 : 0 ≤ Xi S 904 16 ∧ Xi S 904 16 ≤ 16 := hH.c _ _
  have w4 : 0 ≤ Xi S 904 18 ∧ Xi S 904 18 ≤ 8 := hH.c _ _
  have w5 : 0 ≤ Xi S 904 19 ∧ Xi S 904 19 ≤ 24 := hH.c _ _
  have w6 : 0 ≤ Xi S 904 23 ∧ Xi S 904 23 ≤ 24 := hH.c _ _
  have w7 : 0 ≤ Xi S 904 30 ∧ Xi S 904 30 ≤ 64 := hH.c _ _
  have w8 : 0 ≤ Xi S 904 32 ∧ Xi S 904 32 ≤ 12 := hH.c _ _
  have w9 : 0 ≤ Xi S 904 41 ∧ Xi S 904 41 ≤ 6 := hH.c _ _
  have w10 : 0 ≤ Xi S 904 47 ∧ Xi S 904 47 ≤ 8 := hH.c _ _
  have w11 : 0 ≤ Xi S 904 49 ∧ Xi S 904 49 ≤ 12 := hH.c _ _
  have w12 : -1 ≤ Xi S 904 60 ∧ Xi S 904 60 ≤ 23 := hH.c _ _
  have w13 : 0 ≤ Xi S 904 69 ∧ Xi S 904 69 ≤ 2600 := hH.c _ _
  have w14 : 0 ≤ Xi S 904 70 ∧ Xi S 904 70 ≤ 20 := hH.c _ _
  have w15 : 0 ≤ Xi S 904 71 ∧ Xi S 904 71 ≤ 2600 := hH.c _ _
  have w16 : 0 ≤ Xi S 904 72 ∧ Xi S 904 72 ≤ 2600 := hH.c _ _
  have w17 : -2 ≤ Xi S 904 78 ∧ Xi S 904 78 ≤ 5010 := hH.c _ _
  have hX : TXM S := hI.1
  have hW : WYM S := hI.2.1
  have hM : LXM S := hI.2.2.1
  have hLC : LCN S := hI.2.2.2.1
  have hB : ABV S := hI.2.2.2.2.1
  have hC : DCM S := hI.2.2.2.2.2.1
  have hV : VTM S := hI.2.2.2.2.2.2.1
  have hVC : VCN S := hI.2.2.2.2.2.2.2.1
  have hWD : WYD S := hI.2.2.2.2.2.2.2.2.1
  have hRD : RDT S := hI.2.2.2.2.2.2.2.2.2.1
  have hAK : AKR S := hI.2.2.2.2.2.2.2.2.2.2.1
  have hd6 : Xi S 904 60 < Xi S 904 19 := hI.2.2.2.2.2.2.2.2.2.2.2.1
  have h16 : 2 ≤ Xi S 904 16 := hI.2.2.2.2.2.2.2.2.2.2.2.2
  have h32 : 1 ≤ Xi S 904 32 := hAK.2.2.2.2.2.2.2
  have hn5 := hT.1
  have hc69 : 0 ≤ Xi S 904 69 ∧ Xi S 904 69 ≤ 2600 := hH.c _ _
  have hc70 : 0 ≤ Xi S 904 70 ∧ Xi S 904 70 ≤ 20 := hH.c _ _
  have hc16 : 0 ≤ Xi S 904 16 ∧ Xi S 904 16 ≤ 16 := hH.c _ _
  have hc18 : 0 ≤ Xi S 904 18 ∧ Xi S 904 18 ≤ 8 := hH.c _ _
  have hc19 : 0 ≤ Xi S 904 19 ∧ Xi S 904 19 ≤ 24 := hH.c _ _
  have hc23 : 0 ≤ Xi S 904 23 ∧ Xi S 904 23 ≤ 24 := hH.c _ _
  have hc30 : 0 ≤ Xi S 904 30 ∧ Xi S 904 30 ≤ 64 := hH.c _ _
  have hc32 : 0 ≤ Xi S 904 32 ∧ Xi S 904 32 ≤ 12 := hH.c _ _
  have hc41 : 0 ≤ Xi S 904 41 ∧ Xi S 904 41 ≤ 6 := hH.c _ _
  have hc47 : 0 ≤ Xi S 904 47 ∧ Xi S 904 47 ≤ 8 := hH.c _ _
  have hc49 : 0 ≤ Xi S 904 49 ∧ Xi S 904 49 ≤ 12 := hH.c _ _
  have hc15 : 0 ≤ Xi S 904 15 ∧ Xi S 904 15 ≤ 300 := hH.c _ _
  have hc117 : 0 ≤ Xi S 904 117 ∧ Xi S 904 117 ≤ 480 := hH.c _ _
  have hc125 : 0 ≤ Xi S 904 125 ∧ Xi S 904 125 ≤ 192 := hH.c _ _
  have hc130 : 0 ≤ Xi S 904 130 ∧ Xi S 904 130 ≤ 24 := hH.c _ _
  have hl9 := lcn_le hH hLC
  intro w123
  refine l_aload_n rfl rfl ?_
  have d159 := hk.2.2.2.1 (by omega)
  have s159 := hq.2.2.1 (by omega)
  have z159 := hv 0 (by omega)
  have a159 := d159.1
  have b159 := d159.2.2
  have n159 := d159.2.1
  refine l_gfr rfl rfl rfl rfl rfl (hH.r 904 48 941 rfl) ?_
  refine l_aload_n rfl rfl ?_
  refine l_gfi rfl rfl rfl rfl rfl ?_
  refine l_aload_n rfl rfl ?_
  refine l_iconst rfl ?_
  refine l_bipush rfl rfl ?_
  have w124 : 0 ≤ Xi S 904 117 ∧ Xi S 904 117 ≤ 480 := hH.c _ _
  have w125 : 0 ≤ Xi S 904 15 ∧ Xi S 904 15 ≤ 300 := hH.c _ _
  have w126 : 0 ≤ Xi S 904 16 ∧ Xi S 904 16 ≤ 16 := hH.c _ _
  have w127 : 0 ≤ Xi S 904 19 ∧ Xi S 904 19 ≤ 24 := hH.c _ _
  have w128 : 0 ≤ Xi S 904 23 ∧ Xi S 904 23 ≤ 24 := hH.c _ _
  have w129 : -1 ≤ Xi S 904 60 ∧ Xi S 904 60 ≤ 23 := hH.c _ _
  have w130 : 0 ≤ Xi S 904 69 ∧ Xi S 904 69 ≤ 2600 := hH.c _ _
  refine l_callV rfl rfl rfl (t_mo_meansRun__2 hH n 1 8 ⟨by omega, by omega⟩ ⟨by omega, by omega⟩ (by first | assumption | exact (TK_FR hF rfl (by assumption : TK S _))) (by first | assumption | exact (RNV_FR hF rfl (by assumption : RNV S _))) (by first | assumption | omega) (by first | assumption | exact (by assumption : LXM S)) _) ?_
  rintro _ _ ⟨rfl, z133, rfl, w133, w131, w132⟩
  show Rl _ _ _ _ _ [iv z133, iv (Xi S 904 47), .ref 941] _ _
  have x171 : z133 ≠ -1 → z133 < Xi S 904 41 := fun q => by have t := (by assumption : z133 ≠ -1 → z133 < cM S 8) q; rw [cM8] at t; exact t
  have r171 : z133 = rnR S 1 8 := by assumption
  refine l_iastore (n := 8) rfl rfl (by omega) (by omega) (by unfold rg; omega) ?_
  obtain ⟨U5, eU5⟩ : ∃ T : sS, T = uI S 941 (((Xi S 904 47)).toNat) (Int32.ofInt z133) := ⟨_, rfl⟩
  rw [← eU5]
  have hHU5 : HI U5 := by rw [eU5]; exact HI_w hH (show 0 ≤ z133 by omega) (show z133 ≤ 5 by omega)
  have hFU5 : FR md_mo_does S U5 := by rw [eU5]; exact FR.wI hF (mdf_i (r := (941, 942, 0, 100000)) (List.mem_of_getElem? (i := 48) rfl) (inR_i (by omega) (by omega) (by omega) (by omega)))
  have w134 : Xi U5 941 (((Xi S 904 47)).toNat) = z133 := by rw [eU5]; exact Xi_same (by unfold rg; omega)
  have y174_15 : Xi U5 904 15 = Xi S 904 15 := ((show Xi U5 904 15 = Xi S 904 15 from by rw [eU5]; exact Xi_ne (by omega)))
  have y174_47 : Xi U5 904 47 = Xi S 904 47 := ((show Xi U5 904 47 = Xi S 904 47 from by rw [eU5]; exact Xi_ne (by omega)))
  refine l_aload_n rfl rfl ?_
  refine l_bipush rfl rfl ?_
  refine l_aload_n rfl rfl ?_
  refine l_gfi rfl rfl rfl rfl rfl ?_
  have w135 : (Xi U5 904 47) = (Xi S 904 47) := (show Xi U5 904 47 = Xi S 904 47 from by rw [eU5]; exact Xi_ne (by omega))
  rw [w135]
  refine l_aload_n rfl rfl ?_
  refine l_gfr rfl rfl rfl rfl rfl (hHU5.r 904 7 910 rfl) ?_
  refine l_aload_n rfl rfl ?_
  refine l_gfr rfl rfl rfl rfl rfl (hHU5.r 904 67 950 rfl) ?_
  refine l_iconst rfl ?_
  refine l_iaload (n := 2600) rfl rfl (by omega) (by omega) (by unfold rg; omega) ?_
  have w136 : 0 ≤ (Xi U5 950 ((0 : Int).toNat)) ∧ (Xi U5 950 ((0 : Int).toNat)) ≤ 5010 := hHU5.c _ _
  have w137 : (Xi U5 950 ((0 : Int).toNat)) = Xi U5 950 0 := rfl
  have e191 : (Xi U5 950 ((0 : Int).toNat)) = Xi S 950 0 := by first | rfl | exact (hFU5.cx 950 rfl _).1 | exact (hFU5.cx 950 rfl _).1
  refine l_laload (n := 5002) rfl rfl (by omega) (by omega) (by unfold rg; omega) ?_
  have w138 : -9223372036854775808 ≤ (Xj U5 910 (((Xi U5 950 ((0 : Int).toNat))).toNat)) ∧ (Xj U5 910 (((Xi U5 950 ((0 : Int).toNat))).toNat)) < 9223372036854775808 := Xj_rg
  refine l_lconst (z := 0) rfl rfl ?_
  refine l_lconst (z := 0) rfl rfl ?_
  refine l_iconst rfl ?_
  have w139 : Xi U5 904 117 = Xi S 904 117 := (show Xi U5 904 117 = Xi S 904 117 from by rw [eU5]; exact Xi_ne (by omega))
  have w140 : 0 ≤ Xi S 904 117 ∧ Xi S 904 117 ≤ 480 := hH.c _ _
  have w141 : Xi U5 904 15 = Xi S 904 15 := (show Xi U5 904 15 = Xi S 904 15 from by rw [eU5]; exact Xi_ne (by omega))
  have w142 : 0 ≤ Xi S 904 15 ∧ Xi S 904 15 ≤ 300 := hH.c _ _
  have w143 : Xi U5 904 16 = Xi S 904 16 := (show Xi U5 904 16 = Xi S 904 16 from by rw [eU5]; exact Xi_ne (by omega))
  have w144 : 0 ≤ Xi S 904 16 ∧ Xi S 904 16 ≤ 16 := hH.c _ _
  have w145 : Xi U5 904 19 = Xi S 904 19 := (show Xi U5 904 19 = Xi S 904 19 from by rw [eU5]; exact Xi_ne (by omega))
  have w146 : 0 ≤ Xi S 904 19 ∧ Xi S 904 19 ≤ 24 := hH.c _ _
  have w147 : Xi U5 904 23 = Xi S 904 23 := (show Xi U5 904 23 = Xi S 904 23 from by rw [eU5]; exact Xi_ne (by omega))
  have w148 : 0 ≤ Xi S 904 23 ∧ Xi S 904 23 ≤ 24 := hH.c _ _
  have w149 : Xi U5 904 60 = Xi S 904 60 := (show Xi U5 904 60 = Xi S 904 60 from by rw [eU5]; exact Xi_ne (by omega))
  have w150 : -1 ≤ Xi S 904 60 ∧ Xi S 904 60 ≤ 23 := hH.c _ _
  refine l_callV rfl rfl rfl (t_mo_tell hHU5 9 (Xi S 904 47) (Xj U5 910 (((Xi U5 950 ((0 : Int).toNat))).toNat)) 0 0 1 ⟨by omega, by omega⟩ ⟨by omega, by omega⟩ ⟨by omega, by omega⟩ (by omega) _) ?_
  rintro _ T6 ⟨hHT6, w153, rfl, w151, e196, k196⟩
  have hFT6 : FR md_mo_does S T6 := FR.tr hFU5 w153 rfl
  show Rl _ _ _ _ _ [] _ _
  have x196 : LXK T6 S (Xi S 904 15) := (LXK.tr (LXK.fr LXK.rf (FR_e eU5) rfl) (by assumption : LXK T6 U5 _) (by omega))
  have y196_47 : Xi T6 904 47 = Xi S 904 47 := ((show Xi T6 904 47 = Xi U5 904 47 from w153.x _ _ rfl).trans ((show Xi U5 904 47 = Xi S 904 47 from by rw [eU5]; exact Xi_ne (by omega))))
  have d196 : Xi T6 914 (Xi S 904 15).toNat = 9 ∧ Xi T6 915 (Xi S 904 15).toNat = Xi S 904 47 := by have t := e196; rw [show Xi U5 904 15 = Xi S 904 15 by omega] at t; first | exact t | (rw [show Xi U5 904 47 = Xi S 904 47 by omega] at t; exact t)
  refine l_aload_n rfl rfl ?_
  refine l_bipush rfl rfl ?_
  refine l_aload_n rfl rfl ?_
  refine l_gfi rfl rfl rfl rfl rfl ?_
  have w154 : (Xi T6 904 47) = (Xi S 904 47) := (show Xi T6 904 47 = Xi U5 904 47 from w153.x _ _ rfl).trans ((show Xi U5 904 47 = Xi S 904 47 from by rw [eU5]; exact Xi_ne (by omega)))
  rw [w154]
  refine l_aload_n rfl rfl ?_
  refine l_gfr rfl rfl rfl rfl rfl (hHT6.r 904 7 910 rfl) ?_
  refine l_aload_n rfl rfl ?_
  refine l_gfr rfl rfl rfl rfl rfl (hHT6.r 904 67 950 rfl) ?_
  refine l_iconst rfl ?_
  refine l_iaload (n := 2600) rfl rfl (by omega) (by omega) (by unfold rg; omega) ?_
  have w155 : (Xi T6 950 ((0 : Int).toNat)) = (Xi U5 950 ((0 : Int).toNat)) := (show Xi T6 950 ((0 : Int).toNat) = Xi U5 950 ((0 : Int).toNat) from w153.x _ _ rfl)
  rw [w155]
  have e215 : (Xi U5 950 ((0 : Int).toNat)) = Xi S 950 0 := by first | rfl | exact (hFT6.cx 950 rfl _).1 | exact (hFU5.cx 950 rfl _).1
  refine l_laload (n := 5002) rfl rfl (by omega) (by omega) (by unfold rg; omega) ?_
  have w156 : -9223372036854775808 ≤ (Xj T6 910 (((Xi U5 950 ((0 : Int).toNat))).toNat)) ∧ (Xj T6 910 (((Xi U5 950 ((0 : Int).toNat))).toNat)) < 9223372036854775808 := Xj_rg
  refine l_iconst rfl ?_
  refine l_lshlF rfl ?_
  have w157 : rgL (lshlF (Xj T6 910 (((Xi U5 950 ((0 : Int).toNat))).toNat)) 5) := lshlF_rg
  refine l_ldc2 (z := 19) rfl rfl ?_
  refine l_lorF rfl ?_
  have w158 : rgL (lorF (lshlF (Xj T6 910 (((Xi U5 950 ((0 : Int).toNat))).toNat)) 5) 19) := lorF_rg
  refine l_lconst (z := 0) rfl rfl ?_
  refine l_lconst (z := 0) rfl rfl ?_
  refine l_iconst rfl ?_
  have w159 : Xi T6 904 117 = Xi S 904 117 := (show Xi T6 904 117 = Xi U5 904 117 from w153.x _ _ rfl).trans ((show Xi U5 904 117 = Xi S 904 117 from by rw [eU5]; exact Xi_ne (by omega)))
  have w160 : 0 ≤ Xi S 904 117 ∧ Xi S 904 117 ≤ 480 := hH.c _ _
  have w161 : 0 ≤ Xi T6 904 15 ∧ Xi T6 904 15 ≤ 300 := hHT6.c _ _
  have w162 : Xi T6 904 16 = Xi S 904 16 := (show Xi T6 904 16 = Xi U5 904 16 from w153.x _ _ rfl).trans ((show Xi U5 904 16 = Xi S 904 16 from by rw [eU5]; exact Xi_ne (by omega)))
  have w163 : 0 ≤ Xi S 904 16 ∧ Xi S 904 16 ≤ 16 := hH.c _ _
  have w164 : Xi T6 904 19 = Xi S 904 19 := (show Xi T6 904 19 = Xi U5 904 19 from w153.x _ _ rfl).trans ((show Xi U5 904 19 = Xi S 904 19 from by rw [eU5]; exact Xi_ne (by omega)))
  have w165 : 0 ≤ Xi S 904 19 ∧ Xi S 904 19 ≤ 24 := hH.c _ _
  have w166 : Xi T6 904 23 = Xi S 904 23 := (show Xi T6 904 23 = Xi U5 904 23 from w153.x _ _ rfl).trans ((show Xi U5 904 23 = Xi S 904 23 from by rw [eU5]; exact Xi_ne (by omega)))
  have w167 : 0 ≤ Xi S 904 23 ∧ Xi S 904 23 ≤ 24 := hH.c _ _
  have w168 : Xi T6 904 60 = Xi S 904 60 := (show Xi T6 904 60 = Xi U5 904 60 from w153.x _ _ rfl).trans ((show Xi U5 904 60 = Xi S 904 60 from by rw [eU5]; exact Xi_ne (by omega)))
  have w169 : -1 ≤ Xi S 904 60 ∧ Xi S 904 60 ≤ 23 := hH.c _ _
  refine l_callV rfl rfl rfl (t_mo_tell hHT6 10 (Xi S 904 47) (lorF (lshlF (Xj T6 910 (((Xi U5 950 ((0 : Int).toNat))).toNat)) 5) 19) 0 0 1 ⟨by omega, by omega⟩ ⟨by omega, by omega⟩ ⟨by omega, by omega⟩ (by omega) _) ?_
  rintro _ T7 ⟨hHT7, w172, rfl, w170, e226, k226⟩
  have hFT7 : FR md_mo_does S T7 := FR.tr hFT6 w172 rfl
  show Rl _ _ _ _ _ [] _ _
  have x226 : LXK T7 S (Xi S 904 15) := x196.tr k226 (by omega)
  have y226_47 : Xi T7 904 47 = Xi S 904 47 := ((show Xi T7 904 47 = Xi T6 904 47 from w172.x _ _ rfl).trans ((show Xi T6 904 47 = Xi U5 904 47 from w153.x _ _ rfl).trans ((show Xi U5 904 47 = Xi S 904 47 from by rw [eU5]; exact Xi_ne (by omega)))))
  have d226 : Xi T7 914 (Xi S 904 15 + 1).toNat = 10 ∧ Xi T7 915 (Xi S 904 15 + 1).toNat = Xi S 904 47 := by have t := e226; rw [show Xi T6 904 15 = Xi S 904 15 + 1 by omega] at t; first | exact t | (rw [show Xi T6 904 47 = Xi S 904 47 by omega] at t; exact t)
  have c226 : Xi T7 914 (Xi S 904 15).toNat = 9 ∧ Xi T7 915 (Xi S 904 15).toNat = Xi S 904 47 := by have t := k226 (Xi S 904 15) (by omega) (by omega); exact ⟨t.2.2.2.2.2.1.trans d196.1, t.2.2.2.2.2.2.trans d196.2⟩
  refine l_aload_n rfl rfl ?_
  refine l_gfr rfl rfl rfl rfl rfl (hHT7.r 904 14 916 rfl) ?_
  refine l_aload_n rfl rfl ?_
  refine l_gfi rfl rfl rfl rfl rfl ?_
  have w173 : 0 ≤ (Xi T7 904 15) ∧ (Xi T7 904 15) ≤ 300 := hHT7.c _ _
  refine l_iconst rfl ?_
  refine l_isub rfl ?_
  refine l_aload_n rfl rfl ?_
  refine l_gfr rfl rfl rfl rfl rfl (hHT7.r 904 7 910 rfl) ?_
  refine l_aload_n rfl rfl ?_
  refine l_gfr rfl rfl rfl rfl rfl (hHT7.r 904 67 950 rfl) ?_
  refine l_iconst rfl ?_
  refine l_iaload (n := 2600) rfl rfl (by omega) (by omega) (by unfold rg; omega) ?_
  have w174 : (Xi T7 950 ((0 : Int).toNat)) = (Xi U5 950 ((0 : Int).toNat)) := (show Xi T7 950 ((0 : Int).toNat) = Xi T6 950 ((0 : Int).toNat) from w172.x _ _ rfl).trans ((show Xi T6 950 ((0 : Int).toNat) = Xi U5 950 ((0 : Int).toNat) from w153.x _ _ rfl))
  rw [w174]
  have e248 : (Xi U5 950 ((0 : Int).toNat)) = Xi S 950 0 := by first | rfl | exact (hFT7.cx 950 rfl _).1 | exact (hFU5.cx 950 rfl _).1
  refine l_laload (n := 5002) rfl rfl (by omega) (by omega) (by unfold rg; omega) ?_
  have w175 : -9223372036854775808 ≤ (Xj T7 910 (((Xi U5 950 ((0 : Int).toNat))).toNat)) ∧ (Xj T7 910 (((Xi U5 950 ((0 : Int).toNat))).toNat)) < 9223372036854775808 := Xj_rg
  refine l_bipush rfl rfl ?_
  refine l_lshrF rfl ?_
  have w176 : rgL (lshrF (Xj T7 910 (((Xi U5 950 ((0 : Int).toNat))).toNat)) 55) := lshrF_rg
  refine l_lconst (z := 0) rfl rfl ?_
  refine l_lcmpA rfl (fun c177 w177 => ?_)
  refine l_if_eq rfl rfl (by unfold rg; omega) (fun w178 => ?_) (fun w179 => ?_)
  · refine l_iconst rfl ?_
    refine l_bastoreZ1 (n := 300) rfl rfl (by omega) (by omega) (by unfold rg; omega) ⟨by omega, by omega⟩ ?_
    obtain ⟨U8, eU8⟩ : ∃ T : sS, T = uI T7 916 ((((Xi T7 904 15) - 1)).toNat) (Int32.ofInt 0) := ⟨_, rfl⟩
    rw [← eU8]
    have hHU8 : HI U8 := by rw [eU8]; exact HI_w hHT7 (show 0 ≤ 0 by omega) (show 0 ≤ 1 by omega)
    have hFU8 : FR md_mo_does S U8 := by rw [eU8]; exact FR.wI hFT7 (mdf_i (r := (916, 917, 0, 100000)) (List.mem_of_getElem? (i := 23) rfl) (inR_i (by omega) (by omega) (by omega) (by omega)))
    have w180 : Xi U8 916 ((((Xi T7 904 15) - 1)).toNat) = 0 := by rw [eU8]; exact Xi_same (by unfold rg; omega)
    have x263 : LXK U8 S (Xi S 904 15) := x226.wl eU8 (by omega)
    have w263 : Xi U8 904 15 = Xi S 904 15 + 2 := by have t : Xi U8 904 15 = Xi T7 904 15 := (by rw [eU8, Xi_ne (by omega)]); omega
    refine l_aload_n rfl rfl ?_
    refine l_dup rfl rfl ?_
    refine l_gfi rfl rfl rfl rfl rfl ?_
    have w181 : (Xi U8 904 47) = (Xi S 904 47) := (show Xi U8 904 47 = Xi T7 904 47 from by rw [eU8]; exact Xi_ne (by omega)).trans ( (show Xi T7 904 47 = Xi T6 904 47 from w172.x _ _ rfl).trans ( (show Xi T6 904 47 = Xi U5 904 47 from w153.x _ _ rfl).trans ((show Xi U5 904 47 = Xi S 904 47 from by rw [eU5]; exact Xi_ne (by omega)))))
    rw [w181]
    refine l_iconst rfl ?_
    refine l_iadd rfl ?_
    refine l_pfi rfl rfl rfl rfl ?_
    obtain ⟨U9, eU9⟩ : ∃ T : sS, T = uI U8 904 47 (Int32.ofInt ((Xi S 904 47) + 1)) := ⟨_, rfl⟩
    rw [← eU9]
    have hHU9 : HI U9 := by rw [eU9]; exact HI_w hHU8 (show 0 ≤ ((Xi S 904 47) + 1) by omega) (show ((Xi S 904 47) + 1) ≤ 8 by omega)
    have hFU9 : FR md_mo_does S U9 := by rw [eU9]; exact FR.wI hFU8 (mdf_i (r := (904, 905, 47, 48)) (List.mem_of_getElem? (i := 8) rfl) (inR_i (by omega) (by omega) (by omega) (by omega)))
    have w182 : Xi U9 904 47 = ((Xi S 904 47) + 1) := by rw [eU9]; exact Xi_same (by unfold rg; omega)
    have x271 : LXK U9 S (Xi S 904 15) := x263.fr (FR_e eU9) rfl
    have G271 : GR U9 S := (GR.w (GR_FR (FR_e eU8) rfl (GR_FR w172 rfl (GR_FR w153 rfl (GR_FR (FR_e eU5) rfl GR.rf)))) eU9 (by unfold rg; omega) (by omega))
    have w271 : Xi U9 904 15 = Xi S 904 15 + 2 := by have t : Xi U9 904 15 = Xi U8 904 15 := (by rw [eU9, Xi_ne (by omega)]); omega
    have v271 : Xi U9 904 47 = Xi S 904 47 + 1 := by omega
    have c271 : Xi U9 914 (Xi S 904 15).toNat = 9 ∧ Xi U9 915 (Xi S 904 15).toNat = Xi S 904 47 := ⟨by rw [eU9, Xi_ne (by omega), eU8, Xi_ne (by omega)]; exact c226.1, by rw [eU9, Xi_ne (by omega), eU8, Xi_ne (by omega)]; exact c226.2⟩
    have d271 : Xi U9 914 (Xi S 904 15 + 1).toNat = 10 ∧ Xi U9 915 (Xi S 904 15 + 1).toNat = Xi S 904 47 := ⟨by rw [eU9, Xi_ne (by omega), eU8, Xi_ne (by omega)]; exact d226.1, by rw [eU9, Xi_ne (by omega), eU8, Xi_ne (by omega)]; exact d226.2⟩
    have M271 : LXM U9 := lxm_two hM x271 G271 (by omega) (by omega) (by rw [c271.1, c271.2, cM9]; omega) (by rw [d271.1, d271.2, cM10]; omega)
    have y271_16 : Xi U9 904 16 = Xi S 904 16 := ((show Xi U9 904 16 = Xi U8 904 16 from by rw [eU9]; exact Xi_ne (by omega)).trans ((show Xi U8 904 16 = Xi T7 904 16 from by rw [eU8]; exact Xi_ne (by omega)).trans ((show Xi T7 904 16 = Xi T6 904 16 from w172.x _ _ rfl).trans ((show Xi T6 904 16 = Xi U5 904 16 from w153.x _ _ rfl).trans ((show Xi U5 904 16 = Xi S 904 16 from by rw [eU5]; exact Xi_ne (by omega)))))))
    have y271_18 : Xi U9 904 18 = Xi S 904 18 := ((show Xi U9 904 18 = Xi U8 904 18 from by rw [eU9]; exact Xi_ne (by omega)).trans ((show Xi U8 904 18 = Xi T7 904 18 from by rw [eU8]; exact Xi_ne (by omega)).trans ((show Xi T7 904 18 = Xi T6 904 18 from w172.x _ _ rfl).trans ((show Xi T6 904 18 = Xi U5 904 18 from w153.x _ _ rfl).trans ((show Xi U5 904 18 = Xi S 904 18 from by rw [eU5]; exact Xi_ne (by omega)))))))
    have y271_19 : Xi U9 904 19 = Xi S 904 19 := ((show Xi U9 904 19 = Xi U8 904 19 from by rw [eU9]; exact Xi_ne (by omega)).trans ((show Xi U8 904 19 = Xi T7 904 19 from by rw [eU8]; exact Xi_ne (by omega)).trans ((show Xi T7 904 19 = Xi T6 904 19 from w172.x _ _ rfl).trans ((show Xi T6 904 19 = Xi U5 904 19 from w153.x _ _ rfl).trans ((show Xi U5 904 19 = Xi S 904 19 from by rw [eU5]; exact Xi_ne (by omega)))))))
    have y271_23 : Xi U9 904 23 = Xi S 904 23 := ((show Xi U9 904 23 = Xi U8 904 23 from by rw [eU9]; exact Xi_ne (by omega)).trans ((show Xi U8 904 23 = Xi T7 904 23 from by rw [eU8]; exact Xi_ne (by omega)).trans ((show Xi T7 904 23 = Xi T6 904 23 from w172.x _ _ rfl).trans ((show Xi T6 904 23 = Xi U5 904 23 from w153.x _ _ rfl).trans ((show Xi U5 904 23 = Xi S 904 23 from by rw [eU5]; exact Xi_ne (by omega)))))))
    have y271_30 : Xi U9 904 30 = Xi S 904 30 := ((show Xi U9 904 30 = Xi U8 904 30 from by rw [eU9]; exact Xi_ne (by omega)).trans ((show Xi U8 904 30 = Xi T7 904 30 from by rw [eU8]; exact Xi_ne (by omega)).trans ((show Xi T7 904 30 = Xi T6 904 30 from w172.x _ _ rfl).trans ((show Xi T6 904 30 = Xi U5 904 30 from w153.x _ _ rfl).trans ((show Xi U5 904 30 = Xi S 904 30 from by rw [eU5]; exact Xi_ne (by omega)))))))
    have y271_32 : Xi U9 904 32 = Xi S 904 32 := ((show Xi U9 904 32 = Xi U8 904 32 from by rw [eU9]; exact Xi_ne (by omega)).trans ((show Xi U8 904 32 = Xi T7 904 32 from by rw [eU8]; exact Xi_ne (by omega)).trans ((show Xi T7 904 32 = Xi T6 904 32 from w172.x _ _ rfl).trans ((show Xi T6 904 32 = Xi U5 904 32 from w153.x _ _ rfl).trans ((show Xi U5 904 32 = Xi S 904 32 from by rw [eU5]; exact Xi_ne (by omega)))))))
    have y271_41 : Xi U9 904 41 = Xi S 904 41 := ((show Xi U9 904 41 = Xi U8 904 41 from by rw [eU9]; exact Xi_ne (by omega)).trans ((show Xi U8 904 41 = Xi T7 904 41 from by rw [eU8]; exact Xi_ne (by omega)).trans ((show Xi T7 904 41 = Xi T6 904 41 from w172.x _ _ rfl).trans ((show Xi T6 904 41 = Xi U5 904 41 from w153.x _ _ rfl).trans ((show Xi U5 904 41 = Xi S 904 41 from by rw [eU5]; exact Xi_ne (by omega)))))))
    have y271_49 : Xi U9 904 49 = Xi S 904 49 := ((show Xi U9 904 49 = Xi U8 904 49 from by rw [eU9]; exact Xi_ne (by omega)).trans ((show Xi U8 904 49 = Xi T7 904 49 from by rw [eU8]; exact Xi_ne (by omega)).trans ((show Xi T7 904 49 = Xi T6 904 49 from w172.x _ _ rfl).trans ((show Xi T6 904 49 = Xi U5 904 49 from w153.x _ _ rfl).trans ((show Xi U5 904 49 = Xi S 904 49 from by rw [eU5]; exact Xi_ne (by omega)))))))
    have L271 : LCN U9 := lcn_i hLC (pls_le x271 (by omega) (by omega) (by omega)) (by omega)
    refine l_goto rfl rfl ?_
    refine l_return rfl rfl ?_
    have w183 : Xi U9 904 117 = Xi S 904 117 := (show Xi U9 904 117 = Xi U8 904 117 from by rw [eU9]; exact Xi_ne (by omega)).trans ( (show Xi U8 904 117 = Xi T7 904 117 from by rw [eU8]; exact Xi_ne (by omega)).trans ( (show Xi T7 904 117 = Xi T6 904 117 from w172.x _ _ rfl).trans ( (show Xi T6 904 117 = Xi U5 904 117 from w153.x _ _ rfl).trans ((show Xi U5 904 117 = Xi S 904 117 from by rw [eU5]; exact Xi_ne (by omega))))))
    have w184 : 0 ≤ Xi S 904 117 ∧ Xi S 904 117 ≤ 480 := hH.c _ _
    have w185 : Xi U9 904 15 = Xi T7 904 15 := (show Xi U9 904 15 = Xi U8 904 15 from by rw [eU9]; exact Xi_ne (by omega)).trans ((show Xi U8 904 15 = Xi T7 904 15 from by rw [eU8]; exact Xi_ne (by omega)))
    have w186 : 0 ≤ Xi T7 904 15 ∧ Xi T7 904 15 ≤ 300 := hHT7.c _ _
    have w187 : Xi U9 904 16 = Xi S 904 16 := (show Xi U9 904 16 = Xi U8 904 16 from by rw [eU9]; exact Xi_ne (by omega)).trans ( (show Xi U8 904 16 = Xi T7 904 16 from by rw [eU8]; exact Xi_ne (by omega)).trans ( (show Xi T7 904 16 = Xi T6 904 16 from w172.x _ _ rfl).trans ( (show Xi T6 904 16 = Xi U5 904 16 from w153.x _ _ rfl).trans ((show Xi U5 904 16 = Xi S 904 16 from by rw [eU5]; exact Xi_ne (by omega))))))
    have w188 : 0 ≤ Xi S 904 16 ∧ Xi S 904 16 ≤ 16 := hH.c _ _
    have w189 : Xi U9 904 19 = Xi S 904 19 := (show Xi U9 904 19 = Xi U8 904 19 from by rw [eU9]; exact Xi_ne (by omega)).trans ( (show Xi U8 904 19 = Xi T7 904 19 from by rw [eU8]; exact Xi_ne (by omega)).trans ( (show Xi T7 904 19 = Xi T6 904 19 from w172.x _ _ rfl).trans ( (show Xi T6 904 19 = Xi U5 904 19 from w153.x _ _ rfl).trans ((show Xi U5 904 19 = Xi S 904 19 from by rw [eU5]; exact Xi_ne (by omega))))))
    have w190 : 0 ≤ Xi S 904 19 ∧ Xi S 904 19 ≤ 24 := hH.c _ _
    have w191 : Xi U9 904 23 = Xi S 904 23 := (show Xi U9 904 23 = Xi U8 904 23 from by rw [eU9]; exact Xi_ne (by omega)).trans ( (show Xi U8 904 23 = Xi T7 904 23 from by rw [eU8]; exact Xi_ne (by omega)).trans ( (show Xi T7 904 23 = Xi T6 904 23 from w172.x _ _ rfl).trans ( (show Xi T6 904 23 = Xi U5 904 23 from w153.x _ _ rfl).trans ((show Xi U5 904 23 = Xi S 904 23 from by rw [eU5]; exact Xi_ne (by omega))))))
    have w192 : 0 ≤ Xi S 904 23 ∧ Xi S 904 23 ≤ 24 := hH.c _ _
    have w193 : Xi U9 904 60 = Xi S 904 60 := (show Xi U9 904 60 = Xi U8 904 60 from by rw [eU9]; exact Xi_ne (by omega)).trans ( (show Xi U8 904 60 = Xi T7 904 60 from by rw [eU8]; exact Xi_ne (by omega)).trans ( (show Xi T7 904 60 = Xi T6 904 60 from w172.x _ _ rfl).trans ( (show Xi T6 904 60 = Xi U5 904 60 from w153.x _ _ rfl).trans ((show Xi U5 904 60 = Xi S 904 60 from by rw [eU5]; exact Xi_ne (by omega))))))
    have w194 : -1 ≤ Xi S 904 60 ∧ Xi S 904 60 ≤ 23 := hH.c _ _
    exact ⟨hHU9, hFU9, rfl, (⟨by first | assumption | exact (TXM_FR (FR_e eU9) rfl (TXM_FR (FR_e eU8) rfl (TXM_FR w172 rfl (TXM_FR w153 rfl (TXM_FR (FR_e eU5) rfl (by assumption : TXM S)))))), by first | assumption | exact (WYM_FR (FR_e eU9) rfl (WYM_FR (FR_e eU8) rfl (WYM_FR w172 rfl (WYM_FR w153 rfl (WYM_FR (FR_e eU5) rfl (by assumption : WYM S)))))), by first | assumption | exact (by assumption : LXM U9), by first | assumption | exact (by assumption : LCN U9), by first | assumption | exact (ABV_FR (FR_e eU9) rfl (ABV_FR (FR_e eU8) rfl (ABV_FR w172 rfl (ABV_FR w153 rfl (ABV_FR (FR_e eU5) rfl (by assumption : ABV S)))))), by first | assumption | exact (DCM_FR (FR_e eU9) rfl (DCM_FR (FR_e eU8) rfl (DCM_FR w172 rfl (DCM_FR w153 rfl (DCM_FR (FR_e eU5) rfl (by assumption : DCM S)))))), by first | assumption | exact (VTM_FR (FR_e eU9) rfl (VTM_FR (FR_e eU8) rfl (VTM_FR w172 rfl (VTM_FR w153 rfl (VTM_FR (FR_e eU5) rfl (by assumption : VTM S)))))), by first | assumption | exact (VCN_FR (FR_e eU9) rfl (VCN_FR (FR_e eU8) rfl (VCN_FR w172 rfl (VCN_FR w153 rfl (VCN_FR (FR_e eU5) rfl (by assumption : VCN S)))))), by first | assumption | exact (WYD_FR (FR_e eU9) rfl (WYD_FR (FR_e eU8) rfl (WYD_FR w172 rfl (WYD_FR w153 rfl (WYD_FR (FR_e eU5) rfl (by assumption : WYD S)))))), by first | assumption | exact (by assumption : RDT U9) | exact rdt_df hRD (GR.w (GR_FR (FR_e eU8) rfl (GR_FR w172 rfl (GR_FR w153 rfl (GR_FR (FR_e eU5) rfl GR.rf)))) eU9 (by unfold rg; omega) (by omega)) df153 (by omega) (by omega) (by omega) (hFU9.x 904 125 rfl) (hFU9.x 904 130 rfl) (smk_q9 hFU9 rfl) dn153 | exact rdt_gr hRD (by first | assumption | exact (GR.w (GR_FR (FR_e eU8) rfl (GR_FR w172 rfl (GR_FR w153 rfl (GR_FR (FR_e eU5) rfl GR.rf)))) eU9 (by unfold rg; omega) (by omega))) (by omega) (hFU9.x 904 125 rfl) (hFU9.x 904 130 rfl) (smk_q9 hFU9 rfl) (fun a x y => absurd y (by omega)), akr_gr hAK (by first | assumption | exact (GR.w (GR_FR (FR_e eU8) rfl (GR_FR w172 rfl (GR_FR w153 rfl (GR_FR (FR_e eU5) rfl GR.rf)))) eU9 (by unfold rg; omega) (by omega))), by first | omega | (have g := (by first | assumption | exact (GR.w (GR_FR (FR_e eU8) rfl (GR_FR w172 rfl (GR_FR w153 rfl (GR_FR (FR_e eU5) rfl GR.rf)))) eU9 (by unfold rg; omega) (by omega)) : GR U9 S); have t := g.1; omega), by first | omega | (have g := (by first | assumption | exact (GR.w (GR_FR (FR_e eU8) rfl (GR_FR w172 rfl (GR_FR w153 rfl (GR_FR (FR_e eU5) rfl GR.rf)))) eU9 (by unfold rg; omega) (by omega)) : GR U9 S); have t := g.1; omega)⟩)⟩
  · refine l_iconst rfl ?_
    refine l_goto rfl rfl ?_
    refine l_bastoreZ1 (n := 300) rfl rfl (by omega) (by omega) (by unfold rg; omega) ⟨by omega, by omega⟩ ?_
    obtain ⟨U10, eU10⟩ : ∃ T : sS, T = uI T7 916 ((((Xi T7 904 15) - 1)).toNat) (Int32.ofInt 1) := ⟨_, rfl⟩
    rw [← eU10]
    have hHU10 : HI U10 := by rw [eU10]; exact HI_w hHT7 (show 0 ≤ 1 by omega) (show 1 ≤ 1 by omega)
    have hFU10 : FR md_mo_does S U10 := by rw [eU10]; exact FR.wI hFT7 (mdf_i (r := (916, 917, 0, 100000)) (List.mem_of_getElem? (i := 23) rfl) (inR_i (by omega) (by omega) (by omega) (by omega)))
    have w195 : Xi U10 916 ((((Xi T7 904 15) - 1)).toNat) = 1 := by rw [eU10]; exact Xi_same (by unfold rg; omega)
    have x263 : LXK U10 S (Xi S 904 15) := x226.wl eU10 (by omega)
    have w263 : Xi U10 904 15 = Xi S 904 15 + 2 := by have t : Xi U10 904 15 = Xi T7 904 15 := (by rw [eU10, Xi_ne (by omega)]); omega
    refine l_aload_n rfl rfl ?_
    refine l_dup rfl rfl ?_
    refine l_gfi rfl rfl rfl rfl rfl ?_
    have w196 : (Xi U10 904 47) = (Xi S 904 47) := (show Xi U10 904 47 = Xi T7 904 47 from by rw [eU10]; exact Xi_ne (by omega)).trans ( (show Xi T7 904 47 = Xi T6 904 47 from w172.x _ _ rfl).trans ( (show Xi T6 904 47 = Xi U5 904 47 from w153.x _ _ rfl).trans ((show Xi U5 904 47 = Xi S 904 47 from by rw [eU5]; exact Xi_ne (by omega)))))
    rw [w196]
    refine l_iconst rfl ?_
    refine l_iadd rfl ?_
    refine l_pfi rfl rfl rfl rfl ?_
    obtain ⟨U11, eU11⟩ : ∃ T : sS, T = uI U10 904 47 (Int32.ofInt ((Xi S 904 47) + 1)) := ⟨_, rfl⟩
    rw [← eU11]
    have hHU11 : HI U11 := by rw [eU11]; exact HI_w hHU10 (show 0 ≤ ((Xi S 904 47) + 1) by omega) (show ((Xi S 904 47) + 1) ≤ 8 by omega)
    have hFU11 : FR md_mo_does S U11 := by rw [eU11]; exact FR.wI hFU10 (mdf_i (r := (904, 905, 47, 48)) (List.mem_of_getElem? (i := 8) rfl) (inR_i (by omega) (by omega) (by omega) (by omega)))
    have w197 : Xi U11 904 47 = ((Xi S 904 47) + 1) := by rw [eU11]; exact Xi_same (by unfold rg; omega)
    have x271 : LXK U11 S (Xi S 904 15) := x263.fr (FR_e eU11) rfl
    have G271 : GR U11 S := (GR.w (GR_FR (FR_e eU10) rfl (GR_FR w172 rfl (GR_FR w153 rfl (GR_FR (FR_e eU5) rfl GR.rf)))) eU11 (by unfold rg; omega) (by omega))
    have w271 : Xi U11 904 15 = Xi S 904 15 + 2 := by have t : Xi U11 904 15 = Xi U10 904 15 := (by rw [eU11, Xi_ne (by omega)]); omega
    have v271 : Xi U11 904 47 = Xi S 904 47 + 1 := by omega
    have c271 : Xi U11 914 (Xi S 904 15).toNat = 9 ∧ Xi U11 915 (Xi S 904 15).toNat = Xi S 904 47 := ⟨by rw [eU11, Xi_ne (by omega), eU10, Xi_ne (by omega)]; exact c226.1, by rw [eU11, Xi_ne (by omega), eU10, Xi_ne (by omega)]; exact c226.2⟩
    have d271 : Xi U11 914 (Xi S 904 15 + 1).toNat = 10 ∧ Xi U11 915 (Xi S 904 15 + 1).toNat = Xi S 904 47 := ⟨by rw [eU11, Xi_ne (by omega), eU10, Xi_ne (by omega)]; exact d226.1, by rw [eU11, Xi_ne (by omega), eU10, Xi_ne (by omega)]; exact d226.2⟩
    have M271 : LXM U11 := lxm_two hM x271 G271 (by omega) (by omega) (by rw [c271.1, c271.2, cM9]; omega) (by rw [d271.1, d271.2, cM10]; omega)
    have y271_16 : Xi U11 904 16 = Xi S 904 16 := ((show Xi U11 904 16 = Xi U10 904 16 from by rw [eU11]; exact Xi_ne (by omega)).trans ((show Xi U10 904 16 = Xi T7 904 16 from by rw [eU10]; exact Xi_ne (by omega)).trans ((show Xi T7 904 16 = Xi T6 904 16 from w172.x _ _ rfl).trans ((show Xi T6 904 16 = Xi U5 904 16 from w153.x _ _ rfl).trans ((show Xi U5 904 16 = Xi S 904 16 from by rw [eU5]; exact Xi_ne (by omega)))))))
    have y271_18 : Xi U11 904 18 = Xi S 904 18 := ((show Xi U11 904 18 = Xi U10 904 18 from by rw [eU11]; exact Xi_ne (by omega)).trans ((show Xi U10 904 18 = Xi T7 904 18 from by rw [eU10]; exact Xi_ne (by omega)).trans ((show Xi T7 904 18 = Xi T6 904 18 from w172.x _ _ rfl).trans ((show Xi T6 904 18 = Xi U5 904 18 from w153.x _ _ rfl).trans ((show Xi U5 904 18 = Xi S 904 18 from by rw [eU5]; exact Xi_ne (by omega)))))))
    have y271_19 : Xi U11 904 19 = Xi S 904 19 := ((show Xi U11 904 19 = Xi U10 904 19 from by rw [eU11]; exact Xi_ne (by omega)).trans ((show Xi U10 904 19 = Xi T7 904 19 from by rw [eU10]; exact Xi_ne (by omega)).trans ((show Xi T7 904 19 = Xi T6 904 19 from w172.x _ _ rfl).trans ((show Xi T6 904 19 = Xi U5 904 19 from w153.x _ _ rfl).trans ((show Xi U5 904 19 = Xi S 904 19 from by rw [eU5]; exact Xi_ne (by omega)))))))
    have y271_23 : Xi U11 904 23 = Xi S 904 23 := ((show Xi U11 904 23 = Xi U10 904 23 from by rw [eU11]; exact Xi_ne (by omega)).trans ((show Xi U10 904 23 = Xi T7 904 23 from by rw [eU10]; exact Xi_ne (by omega)).trans ((show Xi T7 904 23 = Xi T6 904 23 from w172.x _ _ rfl).trans ((show Xi T6 904 23 = Xi U5 904 23 from w153.x _ _ rfl).trans ((show Xi U5 904 23 = Xi S 904 23 from by rw [eU5]; exact Xi_ne (by omega)))))))
    have y271_30 : Xi U11 904 30 = Xi S 904 30 := ((show Xi U11 904 30 = Xi U10 904 30 from by rw [eU11]; exact Xi_ne (by omega)).trans ((show Xi U10 904 30 = Xi T7 904 30 from by rw [eU10]; exact Xi_ne (by omega)).trans ((show Xi T7 904 30 = Xi T6 904 30 from w172.x _ _ rfl).trans ((show Xi T6 904 30 = Xi U5 904 30 from w153.x _ _ rfl).trans ((show Xi U5 904 30 = Xi S 904 30 from by rw [eU5]; exact Xi_ne (by omega)))))))
    have y271_32 : Xi U11 904 32 = Xi S 904 32 := ((show Xi U11 904 32 = Xi U10 904 32 from by rw [eU11]; exact Xi_ne (by omega)).trans ((show Xi U10 904 32 = Xi T7 904 32 from by rw [eU10]; exact Xi_ne (by omega)).trans ((show Xi T7 904 32 = Xi T6 904 32 from w172.x _ _ rfl).trans ((show Xi T6 904 32 = Xi U5 904 32 from w153.x _ _ rfl).trans ((show Xi U5 904 32 = Xi S 904 32 from by rw [eU5]; exact Xi_ne (by omega)))))))
    have y271_41 : Xi U11 904 41 = Xi S 904 41 := ((show Xi U11 904 41 = Xi U10 904 41 from by rw [eU11]; exact Xi_ne (by omega)).trans ((show Xi U10 904 41 = Xi T7 904 41 from by rw [eU10]; exact Xi_ne (by omega)).trans ((show Xi T7 904 41 = Xi T6 904 41 from w172.x _ _ rfl).trans ((show Xi T6 904 41 = Xi U5 904 41 from w153.x _ _ rfl).trans ((show Xi U5 904 41 = Xi S 904 41 from by rw [eU5]; exact Xi_ne (by omega)))))))
    have y271_49 : Xi U11 904 49 = Xi S 904 49 := ((show Xi U11 904 49 = Xi U10 904 49 from by rw [eU11]; exact Xi_ne (by omega)).trans ((show Xi U10 904 49 = Xi T7 904 49 from by rw [eU10]; exact Xi_ne (by omega)).trans ((show Xi T7 904 49 = Xi T6 904 49 from w172.x _ _ rfl).trans ((show Xi T6 904 49 = Xi U5 904 49 from w153.x _ _ rfl).trans ((show Xi U5 904 49 = Xi S 904 49 from by rw [eU5]; exact Xi_ne (by omega)))))))
    have L271 : LCN U11 := lcn_i hLC (pls_le x271 (by omega) (by omega) (by omega)) (by omega)
    refine l_goto rfl rfl ?_
    refine l_return rfl rfl ?_
    have w198 : Xi U11 904 117 = Xi S 904 117 := (show Xi U11 904 117 = Xi U10 904 117 from by rw [eU11]; exact Xi_ne (by omega)).trans ( (show Xi U10 904 117 = Xi T7 904 117 from by rw [eU10]; exact Xi_ne (by omega)).trans ( (show Xi T7 904 117 = Xi T6 904 117 from w172.x _ _ rfl).trans ( (show Xi T6 904 117 = Xi U5 904 117 from w153.x _ _ rfl).trans ((show Xi U5 904 117 = Xi S 904 117 from by rw [eU5]; exact Xi_ne (by omega))))))
    have w199 : 0 ≤ Xi S 904 117 ∧ Xi S 904 117 ≤ 480 := hH.c _ _
    have w200 : Xi U11 904 15 = Xi T7 904 15 := (show Xi U11 904 15 = Xi U10 904 15 from by rw [eU11]; exact Xi_ne (by omega)).trans ((show Xi U10 904 15 = Xi T7 904 15 from by rw [eU10]; exact Xi_ne (by omega)))
    have w201 : 0 ≤ Xi T7 904 15 ∧ Xi T7 904 15 ≤ 300 := hHT7.c _ _
    have w202 : Xi U11 904 16 = Xi S 904 16 := (show Xi U11 904 16 = Xi U10 904 16 from by rw [eU11]; exact Xi_ne (by omega)).trans ( (show Xi U10 904 16 = Xi T7 904 16 from by rw [eU10]; exact Xi_ne (by omega)).trans ( (show Xi T7 904 16 = Xi T6 904 16 from w172.x _ _ rfl).trans ( (show Xi T6 904 16 = Xi U5 904 16 from w153.x _ _ rfl).trans ((show Xi U5 904 16 = Xi S 904 16 from by rw [eU5]; exact Xi_ne (by omega))))))
    have w203 : 0 ≤ Xi S 904 16 ∧ Xi S 904 16 ≤ 16 := hH.c _ _
    have w204 : Xi U11 904 19 = Xi S 904 19 := (show Xi U11 904 19 = Xi U10 904 19 from by rw [eU11]; exact Xi_ne (by omega)).trans ( (show Xi U10 904 19 = Xi T7 904 19 from by rw [eU10]; exact Xi_ne (by omega)).trans ( (show Xi T7 904 19 = Xi T6 904 19 from w172.x _ _ rfl).trans ( (show Xi T6 904 19 = Xi U5 904 19 from w153.x _ _ rfl).trans ((show Xi U5 904 19 = Xi S 904 19 from by rw [eU5]; exact Xi_ne (by omega))))))
    have w205 : 0 ≤ Xi S 904 19 ∧ Xi S 904 19 ≤ 24 := hH.c _ _
    have w206 : Xi U11 904 23 = Xi S 904 23 := (show Xi U11 904 23 = Xi U10 904 23 from by rw [eU11]; exact Xi_ne (by omega)).trans ( (show Xi U10 904 23 = Xi T7 904 23 from by rw [eU10]; exact Xi_ne (by omega)).trans ( (show Xi T7 904 23 = Xi T6 904 23 from w172.x _ _ rfl).trans ( (show Xi T6 904 23 = Xi U5 904 23 from w153.x _ _ rfl).trans ((show Xi U5 904 23 = Xi S 904 23 from by rw [eU5]; exact Xi_ne (by omega))))))
    have w207 : 0 ≤ Xi S 904 23 ∧ Xi S 904 23 ≤ 24 := hH.c _ _
    have w208 : Xi U11 904 60 = Xi S 904 60 := (show Xi U11 904 60 = Xi U10 904 60 from by rw [eU11]; exact Xi_ne (by omega)).trans ( (show Xi U10 904 60 = Xi T7 904 60 from by rw [eU10]; exact Xi_ne (by omega)).trans ( (show Xi T7 904 60 = Xi T6 904 60 from w172.x _ _ rfl).trans ( (show Xi T6 904 60 = Xi U5 904 60 from w153.x _ _ rfl).trans ((show Xi U5 904 60 = Xi S 904 60 from by rw [eU5]; exact Xi_ne (by omega))))))
    have w209 : -1 ≤ Xi S 904 60 ∧ Xi S 904 60 ≤ 23 := hH.c _ _
    exact ⟨hHU11, hFU11, rfl, (⟨by first | assumption | exact (TXM_FR (FR_e eU11) rfl (TXM_FR (FR_e eU10) rfl (TXM_FR w172 rfl (TXM_FR w153 rfl (TXM_FR (FR_e eU5) rfl (by assumption : TXM S)))))), by first | assumption | exact (WYM_FR (FR_e eU11) rfl (WYM_FR (FR_e eU10) rfl (WYM_FR w172 rfl (WYM_FR w153 rfl (WYM_FR (FR_e eU5) rfl (by assumption : WYM S)))))), by first | assumption | exact (by assumption : LXM U11), by first | assumption | exact (by assumption : LCN U11), by first | assumption | exact (ABV_FR (FR_e eU11) rfl (ABV_FR (FR_e eU10) rfl (ABV_FR w172 rfl (ABV_FR w153 rfl (ABV_FR (FR_e eU5) rfl (by assumption : ABV S)))))), by first | assumption | exact (DCM_FR (FR_e eU11) rfl (DCM_FR (FR_e eU10) rfl (DCM_FR w172 rfl (DCM_FR w153 rfl (DCM_FR (FR_e eU5) rfl (by assumption : DCM S)))))), by first | assumption | exact (VTM_FR (FR_e eU11) rfl (VTM_FR (FR_e eU10) rfl (VTM_FR w172 rfl (VTM_FR w153 rfl (VTM_FR (FR_e eU5) rfl (by assumption : VTM S)))))), by first | assumption | exact (VCN_FR (FR_e eU11) rfl (VCN_FR (FR_e eU10) rfl (VCN_FR w172 rfl (VCN_FR w153 rfl (VCN_FR (FR_e eU5) rfl (by assumption : VCN S)))))), by first | assumption | exact (WYD_FR (FR_e eU11) rfl (WYD_FR (FR_e eU10) rfl (WYD_FR w172 rfl (WYD_FR w153 rfl (WYD_FR (FR_e eU5) rfl (by assumption : WYD S)))))), by first | assumption | exact (by assumption : RDT U11) | exact rdt_df hRD (GR.w (GR_FR (FR_e eU10) rfl (GR_FR w172 rfl (GR_FR w153 rfl (GR_FR (FR_e eU5) rfl GR.rf)))) eU11 (by unfold rg; omega) (by omega)) df153 (by omega) (by omega) (by omega) (hFU11.x 904 125 rfl) (hFU11.x 904 130 rfl) (smk_q9 hFU11 rfl) dn153 | exact rdt_gr hRD (by first | assumption | exact (GR.w (GR_FR (FR_e eU10) rfl (GR_FR w172 rfl (GR_FR w153 rfl (GR_FR (FR_e eU5) rfl GR.rf)))) eU11 (by unfold rg; omega) (by omega))) (by omega) (hFU11.x 904 125 rfl) (hFU11.x 904 130 rfl) (smk_q9 hFU11 rfl) (fun a x y => absurd y (by omega)), akr_gr hAK (by first | assumption | exact (GR.w (GR_FR (FR_e eU10) rfl (GR_FR w172 rfl (GR_FR w153 rfl (GR_FR (FR_e eU5) rfl GR.rf)))) eU11 (by unfold rg; omega) (by omega))), by first | omega | (have g := (by first | assumption | exact (GR.w (GR_FR (FR_e eU10) rfl (GR_FR w172 rfl (GR_FR w153 rfl (GR_FR (FR_e eU5) rfl GR.rf)))) eU11 (by unfold rg; omega) (by omega)) : GR U11 S); have t := g.1; omega), by first | omega | (have g := (by first | assumption | exact (GR.w (GR_FR (FR_e eU10) rfl (GR_FR w172 rfl (GR_FR w153 rfl (GR_FR (FR_e eU5) rfl GR.rf)))) eU11 (by unfold rg; omega) (by omega)) : GR U11 S); have t := g.1; omega)⟩)⟩
set_option maxRecDepth 100000 in
set_option maxHeartbeats 1000000 in
theorem c277_mo_does {S : sS} (hH : HI S) (n : Nat) (first : Int) (hfirst : 0 ≤ first ∧ first ≤ 5001) (hT : TK S n) (hv : RNV S n) (hK : TXK S n) (hI : TIX S) (hq : SNQ S n) (hk : DOK S) (h11 : Xi S 904 70 = 11 → -1 ≤ Xi S 904 78) (d : Nat) : (Xi S 904 70 = 8) → Rl lay0 (d + 7) m_mo_does 277 [(0, .ref 904)] [] S (Q_mo_does S n first) := by
  have hF : FR md_mo_does S S := FR.rf
  have w1 : 0 ≤ Xi S 904 117 ∧ Xi S 904 117 ≤ 480 := hH.c _ _
  have w2 : 0 ≤ Xi S 904 15 ∧ Xi S 904 15 ≤ 300 := hH.c _ _
  have w3 : 0 ≤ Xi S 904 16 ∧ Xi S 904 16 ≤ 16 := hH.c _ _
  have w4 : 0 ≤ Xi S 904 18 ∧ Xi S 904 18 ≤ 8 := hH.c _ _
  have w5 : 0 ≤ Xi S 904 19 ∧ Xi S 904 19 ≤ 24 := hH.c _ _
  have w6 : 0 ≤ Xi S 904 23 ∧ Xi S 904 23 ≤ 24 := hH.c _ _
  have w7 : 0 ≤ Xi S 904 30 ∧ Xi S 904 30 ≤ 64 := hH.c _ _
  have w8 : 0 ≤ Xi S 904 32 ∧ Xi S 904 32 ≤ 12 := hH.c _ _
  have w9 : 0 ≤ Xi S 904 41 ∧ Xi S 904 41 ≤ 6 := hH.c _ _
  have w10 : 0 ≤ Xi S 904 47 ∧ Xi S 904 47 ≤ 8 := hH.c _ _
  have w11 : 0 ≤ Xi S 904 49 ∧ Xi S 904 49 ≤ 12 := hH.c _ _
  have w12 : -1 ≤ Xi S 904 60 ∧ Xi S 904 60 ≤ 23 := hH.c _ _
  have w13 : 0 ≤ Xi S 904 69 ∧ Xi S 904 69 ≤ 2600 := hH.c _ _
  have w14 : 0 ≤ Xi S 904 70 ∧ Xi S 904 70 ≤ 20 := hH.c _ _
  have w15 : 0 ≤ Xi S 904 71 ∧ Xi S 904 71 ≤ 2600 := hH.c _ _
  have w16 : 0 ≤ Xi S 904 72 ∧ Xi S 904 72 ≤ 2600 := hH.c _ _
  have w17 : -2 ≤ Xi S 904 78 ∧ Xi S 904 78 ≤ 5010 := hH.c _ _
  have hX : TXM S := hI.1
  have hW : WYM S := hI.2.1
  have hM : LXM S := hI.2.2.1
  have hLC : LCN S := hI.2.2.2.1
  have hB : ABV S := hI.2.2.2.2.1
  have hC : DCM S := hI.2.2.2.2.2.1
  have hV : VTM S := hI.2.2.2.2.2.2.1
  have hVC : VCN S := hI.2.2.2.2.2.2.2.1
  have hWD : WYD S := hI.2.2.2.2.2.2.2.2.1
  have hRD : RDT S := hI.2.2.2.2.2.2.2.2.2.1
  have hAK : AKR S := hI.2.2.2.2.2.2.2.2.2.2.1
  have hd6 : Xi S 904 60 < Xi S 904 19 := hI.2.2.2.2.2.2.2.2.2.2.2.1
  have h16 : 2 ≤ Xi S 904 16 := hI.2.2.2.2.2.2.2.2.2.2.2.2
  have h32 : 1 ≤ Xi S 904 32 := hAK.2.2.2.2.2.2.2
  have hn5 := hT.1
  have hc69 : 0 ≤ Xi S 904 69 ∧ Xi S 904 69 ≤ 2600 := hH.c _ _
  have hc70 : 0 ≤ Xi S 904 70 ∧ Xi S 904 70 ≤ 20 := hH.c _ _
  have hc16 : 0 ≤ Xi S 904 16 ∧ Xi S 904 16 ≤ 16 := hH.c _ _
  have hc18 : 0 ≤ Xi S 904 18 ∧ Xi S 904 18 ≤ 8 := hH.c _ _
  have hc19 : 0 ≤ Xi S 904 19 ∧ Xi S 904 19 ≤ 24 := hH.c _ _
  have hc23 : 0 ≤ Xi S 904 23 ∧ Xi S 904 23 ≤ 24 := hH.c _ _
  have hc30 : 0 ≤ Xi S 904 30 ∧ Xi S 904 30 ≤ 64 := hH.c _ _
  have hc32 : 0 ≤ Xi S 904 32 ∧ Xi S 904 32 ≤ 12 := hH.c _ _
  have hc41 : 0 ≤ Xi S 904 41 ∧ Xi S 904 41 ≤ 6 := hH.c _ _
  have hc47 : 0 ≤ Xi S 904 47 ∧ Xi S 904 47 ≤ 8 := hH.c _ _
  have hc49 : 0 ≤ Xi S 904 49 ∧ Xi S 904 49 ≤ 12 := hH.c _ _
  have hc15 : 0 ≤ Xi S 904 15 ∧ Xi S 904 15 ≤ 300 := hH.c _ _
  have hc117 : 0 ≤ Xi S 904 117 ∧ Xi S 904 117 ≤ 480 := hH.c _ _
  have hc125 : 0 ≤ Xi S 904 125 ∧ Xi S 904 125 ≤ 192 := hH.c _ _
  have hc130 : 0 ≤ Xi S 904 130 ∧ Xi S 904 130 ≤ 24 := hH.c _ _
  have hl9 := lcn_le hH hLC
  intro w210
  refine l_aload_n rfl rfl ?_
  have d277 := hk.2.2.2.2.1 (by omega)
  have s277 := hq.2.2.1 (by omega)
  have w211 : 0 ≤ Xi S 904 117 ∧ Xi S 904 117 ≤ 480 := hH.c _ _
  have w212 : 0 ≤ Xi S 904 15 ∧ Xi S 904 15 ≤ 300 := hH.c _ _
  have w213 : 0 ≤ Xi S 904 16 ∧ Xi S 904 16 ≤ 16 := hH.c _ _
  have w214 : 0 ≤ Xi S 904 19 ∧ Xi S 904 19 ≤ 24 := hH.c _ _
  have w215 : 0 ≤ Xi S 904 23 ∧ Xi S 904 23 ≤ 24 := hH.c _ _
  have w216 : -1 ≤ Xi S 904 60 ∧ Xi S 904 60 ≤ 23 := hH.c _ _
  have w217 : 0 ≤ Xi S 904 69 ∧ Xi S 904 69 ≤ 2600 := hH.c _ _
  have w218 : 0 ≤ Xi S 951 1 ∧ Xi S 951 1 ≤ 5010 := hH.c _ _
  refine l_callV rfl rfl rfl (t_mo_doPlural hH n (by first | assumption | exact (TK_FR hF rfl (by assumption : TK S _))) (by first | assumption | exact (RNV_FR hF rfl (by assumption : RNV S _))) (by first | assumption | exact (by assumption : LXM S)) (by first | assumption | exact (by assumption : LCN S)) (s277) (d277.1) (d277.2) _) ?_
  rintro _ T12 ⟨hHT12, w222, rfl, w219, w220⟩
  have hFT12 : FR md_mo_does S T12 := FR.tr hF w222 rfl
  show Rl _ _ _ _ _ [] _ _
  refine l_goto rfl rfl ?_
  refine l_return rfl rfl ?_
  have w223 : Xi T12 904 117 = Xi S 904 117 := (show Xi T12 904 117 = Xi S 904 117 from w222.x _ _ rfl)
  have w224 : 0 ≤ Xi S 904 117 ∧ Xi S 904 117 ≤ 480 := hH.c _ _
  have w225 : 0 ≤ Xi T12 904 15 ∧ Xi T12 904 15 ≤ 300 := hHT12.c _ _
  have w226 : Xi T12 904 16 = Xi S 904 16 := (show Xi T12 904 16 = Xi S 904 16 from w222.x _ _ rfl)
  have w227 : 0 ≤ Xi S 904 16 ∧ Xi S 904 16 ≤ 16 := hH.c _ _
  have w228 : Xi T12 904 19 = Xi S 904 19 := (show Xi T12 904 19 = Xi S 904 19 from w222.x _ _ rfl)
  have w229 : 0 ≤ Xi S 904 19 ∧ Xi S 904 19 ≤ 24 := hH.c _ _
  have w230 : Xi T12 904 23 = Xi S 904 23 := (show Xi T12 904 23 = Xi S 904 23 from w222.x _ _ rfl)
  have w231 : 0 ≤ Xi S 904 23 ∧ Xi S 904 23 ≤ 24 := hH.c _ _
  have w232 : Xi T12 904 60 = Xi S 904 60 := (show Xi T12 904 60 = Xi S 904 60 from w222.x _ _ rfl)
  have w233 : -1 ≤ Xi S 904 60 ∧ Xi S 904 60 ≤ 23 := hH.c _ _
  exact ⟨hHT12, hFT12, rfl, (⟨by first | assumption | exact (TXM_FR w222 rfl (by assumption : TXM S)), by first | assumption | exact (WYM_FR w222 rfl (by assumption : WYM S)), by first | assumption | exact (by assumption : LXM T12), by first | assumption | exact (by assumption : LCN T12), by first | assumption | exact (ABV_FR w222 rfl (by assumption : ABV S)), by first | assumption | exact (DCM_FR w222 rfl (by assumption : DCM S)), by first | assumption | exact (VTM_FR w222 rfl (by assumption : VTM S)), by first | assumption | exact (VCN_FR w222 rfl (by assumption : VCN S)), by first | assumption | exact (WYD_FR w222 rfl (by assumption : WYD S)), by first | assumption | exact (RDT_FR hH w222 rfl rfl rfl (by assumption : RDT S)) | exact rdt_df hRD (GR_FR w222 rfl GR.rf) df153 (by omega) (by omega) (by omega) (hFT12.x 904 125 rfl) (hFT12.x 904 130 rfl) (smk_q9 hFT12 rfl) dn153 | exact rdt_gr hRD (by first | assumption | exact (GR_FR w222 rfl GR.rf)) (by omega) (hFT12.x 904 125 rfl) (hFT12.x 904 130 rfl) (smk_q9 hFT12 rfl) (fun a x y => absurd y (by omega)), akr_gr hAK (by first | assumption | exact (GR_FR w222 rfl GR.rf)), by first | omega | (have g := (by first | assumption | exact (GR_FR w222 rfl GR.rf) : GR T12 S); have t := g.1; omega), by first | omega | (have g := (by first | assumption | exact (GR_FR w222 rfl GR.rf) : GR T12 S); have t := g.1; omega)⟩)⟩
set_option maxRecDepth 100000 in
set_option maxHeartbeats 1000000 in
theorem c284_mo_does {S : sS} (hH : HI S) (n : Nat) (first : Int) (hfirst : 0 ≤ first ∧ first ≤ 5001) (hT : TK S n) (hv : RNV S n) (hK : TXK S n) (hI : TIX S) (hq : SNQ S n) (hk : DOK S) (h11 : Xi S 904 70 = 11 → -1 ≤ Xi S 904 78) (d : Nat) : (Xi S 904 70 = 9) → Rl lay0 (d + 7) m_mo_does 284 [(0, .ref 904)] [] S (Q_mo_does S n first) := by
  have hF : FR md_mo_does S S := FR.rf
  have w1 : 0 ≤ Xi S 904 117 ∧ Xi S 904 117 ≤ 480 := hH.c _ _
  have w2 : 0 ≤ Xi S 904 15 ∧ Xi S 904 15 ≤ 300 := hH.c _ _
  have w3 : 0 ≤ Xi S 904 16 ∧ Xi S 904 16 ≤ 16 := hH.c _ _
  have w4 : 0 ≤ Xi S 904 18 ∧ Xi S 904 18 ≤ 8 := hH.c _ _
  have w5 : 0 ≤ Xi S 904 19 ∧ Xi S 904 19 ≤ 24 := hH.c _ _
  have w6 : 0 ≤ Xi S 904 23 ∧ Xi S 904 23 ≤ 24 := hH.c _ _
  have w7 : 0 ≤ Xi S 904 30 ∧ Xi S 904 30 ≤ 64 := hH.c _ _
  have w8 : 0 ≤ Xi S 904 32 ∧ Xi S 904 32 ≤ 12 := hH.c _ _
  have w9 : 0 ≤ Xi S 904 41 ∧ Xi S 904 41 ≤ 6 := hH.c _ _
  have w10 : 0 ≤ Xi S 904 47 ∧ Xi S 904 47 ≤ 8 := hH.c _ _
  have w11 : 0 ≤ Xi S 904 49 ∧ Xi S 904 49 ≤ 12 := hH.c _ _
  have w12 : -1 ≤ Xi S 904 60 ∧ Xi S 904 60 ≤ 23 := hH.c _ _
  have w13 : 0 ≤ Xi S 904 69 ∧ Xi S 904 69 ≤ 2600 := hH.c _ _
  have w14 : 0 ≤ Xi S 904 70 ∧ Xi S 904 70 ≤ 20 := hH.c _ _
  have w15 : 0 ≤ Xi S 904 71 ∧ Xi S 904 71 ≤ 2600 := hH.c _ _
  have w16 : 0 ≤ Xi S 904 72 ∧ Xi S 904 72 ≤ 2600 := hH.c _ _
  have w17 : -2 ≤ Xi S 904 78 ∧ Xi S 904 78 ≤ 5010 := hH.c _ _
  have hX : TXM S := hI.1
  have hW : WYM S := hI.2.1
  have hM : LXM S := hI.2.2.1
  have hLC : LCN S := hI.2.2.2.1
  have hB : ABV S := hI.2.2.2.2.1
  have hC : DCM S := hI.2.2.2.2.2.1
  have hV : VTM S := hI.2.2.2.2.2.2.1
  have hVC : VCN S := hI.2.2.2.2.2.2.2.1
  have hWD : WYD S := hI.2.2.2.2.2.2.2.2.1
  have hRD : RDT S := hI.2.2.2.2.2.2.2.2.2.1
  have hAK : AKR S := hI.2.2.2.2.2.2.2.2.2.2.1
  have hd6 : Xi S 904 60 < Xi S 904 19 := hI.2.2.2.2.2.2.2.2.2.2.2.1
  have h16 : 2 ≤ Xi S 904 16 := hI.2.2.2.2.2.2.2.2.2.2.2.2
  have h32 : 1 ≤ Xi S 904 32 := hAK.2.2.2.2.2.2.2
  have hn5 := hT.1
  have hc69 : 0 ≤ Xi S 904 69 ∧ Xi S 904 69 ≤ 2600 := hH.c _ _
  have hc70 : 0 ≤ Xi S 904 70 ∧ Xi S 904 70 ≤ 20 := hH.c _ _
  have hc16 : 0 ≤ Xi S 904 16 ∧ Xi S 904 16 ≤ 16 := hH.c _ _
  have hc18 : 0 ≤ Xi S 904 18 ∧ Xi S 904 18 ≤ 8 := hH.c _ _
  have hc19 : 0 ≤ Xi S 904 19 ∧ Xi S 904 19 ≤ 24 := hH.c _ _
  have hc23 : 0 ≤ Xi S 904 23 ∧ Xi S 904 23 ≤ 24 := hH.c _ _
  have hc30 : 0 ≤ Xi S 904 30 ∧ Xi S 904 30 ≤ 64 := hH.c _ _
  have hc32 : 0 ≤ Xi S 904 32 ∧ Xi S 904 32 ≤ 12 := hH.c _ _
  have hc41 : 0 ≤ Xi S 904 41 ∧ Xi S 904 41 ≤ 6 := hH.c _ _
  have hc47 : 0 ≤ Xi S 904 47 ∧ Xi S 904 47 ≤ 8 := hH.c _ _
  have hc49 : 0 ≤ Xi S 904 49 ∧ Xi S 904 49 ≤ 12 := hH.c _ _
  have hc15 : 0 ≤ Xi S 904 15 ∧ Xi S 904 15 ≤ 300 := hH.c _ _
  have hc117 : 0 ≤ Xi S 904 117 ∧ Xi S 904 117 ≤ 480 := hH.c _ _
  have hc125 : 0 ≤ Xi S 904 125 ∧ Xi S 904 125 ≤ 192 := hH.c _ _
  have hc130 : 0 ≤ Xi S 904 130 ∧ Xi S 904 130 ≤ 24 := hH.c _ _
  have hl9 := lcn_le hH hLC
  intro w234
  refine l_aload_n rfl rfl ?_
  have d284 := hk.2.2.2.2.2.1 (by omega)
  have s284 := hq.2.2.1 (by omega)
  have w235 : 0 ≤ Xi S 904 117 ∧ Xi S 904 117 ≤ 480 := hH.c _ _
  have w236 : 0 ≤ Xi S 904 15 ∧ Xi S 904 15 ≤ 300 := hH.c _ _
  have w237 : 0 ≤ Xi S 904 16 ∧ Xi S 904 16 ≤ 16 := hH.c _ _
  have w238 : 0 ≤ Xi S 904 19 ∧ Xi S 904 19 ≤ 24 := hH.c _ _
  have w239 : 0 ≤ Xi S 904 23 ∧ Xi S 904 23 ≤ 24 := hH.c _ _
  have w240 : -1 ≤ Xi S 904 60 ∧ Xi S 904 60 ≤ 23 := hH.c _ _
  have w241 : 0 ≤ Xi S 904 69 ∧ Xi S 904 69 ≤ 2600 := hH.c _ _
  refine l_callV rfl rfl rfl (t_mo_doProperty hH n (by first | assumption | exact (TK_FR hF rfl (by assumption : TK S _))) (by first | assumption | exact (RNV_FR hF rfl (by assumption : RNV S _))) (by first | assumption | exact (by assumption : LXM S)) (by first | assumption | exact (by assumption : TXM S)) (s284) (d284.1) (d284.2.1) (d284.2.2) _) ?_
  rintro _ T13 ⟨hHT13, w244, rfl, w242⟩
  have hFT13 : FR md_mo_does S T13 := FR.tr hF w244 rfl
  show Rl _ _ _ _ _ [] _ _
  refine l_goto rfl rfl ?_
  refine l_return rfl rfl ?_
  have w245 : Xi T13 904 117 = Xi S 904 117 := (show Xi T13 904 117 = Xi S 904 117 from w244.x _ _ rfl)
  have w246 : 0 ≤ Xi S 904 117 ∧ Xi S 904 117 ≤ 480 := hH.c _ _
  have w247 : Xi T13 904 15 = Xi S 904 15 := (show Xi T13 904 15 = Xi S 904 15 from w244.x _ _ rfl)
  have w248 : 0 ≤ Xi S 904 15 ∧ Xi S 904 15 ≤ 300 := hH.c _ _
  have w249 : Xi T13 904 16 = Xi S 904 16 := (show Xi T13 904 16 = Xi S 904 16 from w244.x _ _ rfl)
  have w250 : 0 ≤ Xi S 904 16 ∧ Xi S 904 16 ≤ 16 := hH.c _ _
  have w251 : Xi T13 904 19 = Xi S 904 19 := (show Xi T13 904 19 = Xi S 904 19 from w244.x _ _ rfl)
  have w252 : 0 ≤ Xi S 904 19 ∧ Xi S 904 19 ≤ 24 := hH.c _ _
  have w253 : Xi T13 904 23 = Xi S 904 23 := (show Xi T13 904 23 = Xi S 904 23 from w244.x _ _ rfl)
  have w254 : 0 ≤ Xi S 904 23 ∧ Xi S 904 23 ≤ 24 := hH.c _ _
  have w255 : Xi T13 904 60 = Xi S 904 60 := (show Xi T13 904 60 = Xi S 904 60 from w244.x _ _ rfl)
  have w256 : -1 ≤ Xi S 904 60 ∧ Xi S 904 60 ≤ 23 := hH.c _ _
  exact ⟨hHT13, hFT13, rfl, (⟨by first | assumption | exact (by assumption : TXM T13), by first | assumption | exact (WYM_FR w244 rfl (by assumption : WYM S)), by first | assumption | exact (LXM_FR w244 rfl (by assumption : LXM S)), by first | assumption | exact (LCN_FR w244 rfl (by assumption : LCN S)), by first | assumption | exact (ABV_FR w244 rfl (by assumption : ABV S)), by first | assumption | exact (DCM_FR w244 rfl (by assumption : DCM S)), by first | assumption | exact (VTM_FR w244 rfl (by assumption : VTM S)), by first | assumption | exact (VCN_FR w244 rfl (by assumption : VCN S)), by first | assumption | exact (WYD_FR w244 rfl (by assumption : WYD S)), by first | assumption | exact (RDT_FR hH w244 rfl rfl rfl (by assumption : RDT S)) | exact rdt_df hRD (GR_FR w244 rfl GR.rf) df153 (by omega) (by omega) (by omega) (hFT13.x 904 125 rfl) (hFT13.x 904 130 rfl) (smk_q9 hFT13 rfl) dn153 | exact rdt_gr hRD (by first | assumption | exact (GR_FR w244 rfl GR.rf)) (by omega) (hFT13.x 904 125 rfl) (hFT13.x 904 130 rfl) (smk_q9 hFT13 rfl) (fun a x y => absurd y (by omega)), akr_gr hAK (by first | assumption | exact (GR_FR w244 rfl GR.rf)), by first | omega | (have g := (by first | assumption | exact (GR_FR w244 rfl GR.rf) : GR T13 S); have t := g.1; omega), by first | omega | (have g := (by first | assumption | exact (GR_FR w244 rfl GR.rf) : GR T13 S); have t := g.1; omega)⟩)⟩
set_option maxRecDepth 100000 in
set_option maxHeartbeats 1000000 in
theorem c291_mo_does {S : sS} (hH : HI S) (n : Nat) (first : Int) (hfirst : 0 ≤ first ∧ first ≤ 5001) (hT : TK S n) (hv : RNV S n) (hK : TXK S n) (hI : TIX S) (hq : SNQ S n) (hk : DOK S) (h11 : Xi S 904 70 = 11 → -1 ≤ Xi S 904 78) (d : Nat) : (Xi S 904 70 = 10) → Rl lay0 (d + 7) m_mo_does 291 [(0, .ref 904)] [] S (Q_mo_does S n first) := by
  have hF : FR md_mo_does S S := FR.rf
  have w1 : 0 ≤ Xi S 904 117 ∧ Xi S 904 117 ≤ 480 := hH.c _ _
  have w2 : 0 ≤ Xi S 904 15 ∧ Xi S 904 15 ≤ 300 := hH.c _ _
  have w3 : 0 ≤ Xi S 904 16 ∧ Xi S 904 16 ≤ 16 := hH.c _ _
  have w4 : 0 ≤ Xi S 904 18 ∧ Xi S 904 18 ≤ 8 := hH.c _ _
  have w5 : 0 ≤ Xi S 904 19 ∧ Xi S 904 19 ≤ 24 := hH.c _ _
  have w6 : 0 ≤ Xi S 904 23 ∧ Xi S 904 23 ≤ 24 := hH.c _ _
  have w7 : 0 ≤ Xi S 904 30 ∧ Xi S 904 30 ≤ 64 := hH.c _ _
  have w8 : 0 ≤ Xi S 904 32 ∧ Xi S 904 32 ≤ 12 := hH.c _ _
  have w9 : 0 ≤ Xi S 904 41 ∧ Xi S 904 41 ≤ 6 := hH.c _ _
  have w10 : 0 ≤ Xi S 904 47 ∧ Xi S 904 47 ≤ 8 := hH.c _ _
  have w11 : 0 ≤ Xi S 904 49 ∧ Xi S 904 49 ≤ 12 := hH.c _ _
  have w12 : -1 ≤ Xi S 904 60 ∧ Xi S 904 60 ≤ 23 := hH.c _ _
  have w13 : 0 ≤ Xi S 904 69 ∧ Xi S 904 69 ≤ 2600 := hH.c _ _
  have w14 : 0 ≤ Xi S 904 70 ∧ Xi S 904 70 ≤ 20 := hH.c _ _
  have w15 : 0 ≤ Xi S 904 71 ∧ Xi S 904 71 ≤ 2600 := hH.c _ _
  have w16 : 0 ≤ Xi S 904 72 ∧ Xi S 904 72 ≤ 2600 := hH.c _ _
  have w17 : -2 ≤ Xi S 904 78 ∧ Xi S 904 78 ≤ 5010 := hH.c _ _
  have hX : TXM S := hI.1
  have hW : WYM S := hI.2.1
  have hM : LXM S := hI.2.2.1
  have hLC : LCN S := hI.2.2.2.1
  have hB : ABV S := hI.2.2.2.2.1
  have hC : DCM S := hI.2.2.2.2.2.1
  have hV : VTM S := hI.2.2.2.2.2.2.1
  have hVC : VCN S := hI.2.2.2.2.2.2.2.1
  have hWD : WYD S := hI.2.2.2.2.2.2.2.2.1
  have hRD : RDT S := hI.2.2.2.2.2.2.2.2.2.1
  have hAK : AKR S := hI.2.2.2.2.2.2.2.2.2.2.1
  have hd6 : Xi S 904 60 < Xi S 904 19 := hI.2.2.2.2.2.2.2.2.2.2.2.1
  have h16 : 2 ≤ Xi S 904 16 := hI.2.2.2.2.2.2.2.2.2.2.2.2
  have h32 : 1 ≤ Xi S 904 32 := hAK.2.2.2.2.2.2.2
  have hn5 := hT.1
  have hc69 : 0 ≤ Xi S 904 69 ∧ Xi S 904 69 ≤ 2600 := hH.c _ _
  have hc70 : 0 ≤ Xi S 904 70 ∧ Xi S 904 70 ≤ 20 := hH.c _ _
  have hc16 : 0 ≤ Xi S 904 16 ∧ Xi S 904 16 ≤ 16 := hH.c _ _
  have hc18 : 0 ≤ Xi S 904 18 ∧ Xi S 904 18 ≤ 8 := hH.c _ _
  have hc19 : 0 ≤ Xi S 904 19 ∧ Xi S 904 19 ≤ 24 := hH.c _ _
  have hc23 : 0 ≤ Xi S 904 23 ∧ Xi S 904 23 ≤ 24 := hH.c _ _
  have hc30 : 0 ≤ Xi S 904 30 ∧ Xi S 904 30 ≤ 64 := hH.c _ _
  have hc32 : 0 ≤ Xi S 904 32 ∧ Xi S 904 32 ≤ 12 := hH.c _ _
  have hc41 : 0 ≤ Xi S 904 41 ∧ Xi S 904 41 ≤ 6 := hH.c _ _
  have hc47 : 0 ≤ Xi S 904 47 ∧ Xi S 904 47 ≤ 8 := hH.c _ _
  have hc49 : 0 ≤ Xi S 904 49 ∧ Xi S 904 49 ≤ 12 := hH.c _ _
  have hc15 : 0 ≤ Xi S 904 15 ∧ Xi S 904 15 ≤ 300 := hH.c _ _
  have hc117 : 0 ≤ Xi S 904 117 ∧ Xi S 904 117 ≤ 480 := hH.c _ _
  have hc125 : 0 ≤ Xi S 904 125 ∧ Xi S 904 125 ≤ 192 := hH.c _ _
  have hc130 : 0 ≤ Xi S 904 130 ∧ Xi S 904 130 ≤ 24 := hH.c _ _
  have hl9 := lcn_le hH hLC
  intro w257
  refine l_aload_n rfl rfl ?_
  have d291 := hk.2.2.2.2.2.2.1 (by omega)
  have s291 := hq.2.2.2.2.2.1 (by omega)
  have x291 := hq.2.2.2.2.2.2.1 (by omega)
  have w258 : 0 ≤ Xi S 904 117 ∧ Xi S 904 117 ≤ 480 := hH.c _ _
  have w259 : 0 ≤ Xi S 904 15 ∧ Xi S 904 15 ≤ 300 := hH.c _ _
  have w260 : 0 ≤ Xi S 904 16 ∧ Xi S 904 16 ≤ 16 := hH.c _ _
  have w261 : 0 ≤ Xi S 904 18 ∧ Xi S 904 18 ≤ 8 := hH.c _ _
  have w262 : 0 ≤ Xi S 904 19 ∧ Xi S 904 19 ≤ 24 := hH.c _ _
  have w263 : 0 ≤ Xi S 904 23 ∧ Xi S 904 23 ≤ 24 := hH.c _ _
  have w264 : -1 ≤ Xi S 904 60 ∧ Xi S 904 60 ≤ 23 := hH.c _ _
  have w265 : 0 ≤ Xi S 904 69 ∧ Xi S 904 69 ≤ 2600 := hH.c _ _
  have w266 : 0 ≤ Xi S 904 71 ∧ Xi S 904 71 ≤ 2600 := hH.c _ _
  have w267 : 0 ≤ Xi S 904 72 ∧ Xi S 904 72 ≤ 2600 := hH.c _ _
  have w268 : -2 ≤ Xi S 904 78 ∧ Xi S 904 78 ≤ 5010 := hH.c _ _
  refine l_callV rfl rfl rfl (t_mo_doKinds hH n (by first | assumption | exact (TK_FR hF rfl (by assumption : TK S _))) (by first | assumption | exact (RNV_FR hF rfl (by assumption : RNV S _))) (by first | assumption | exact (by assumption : LXM S)) (by first | assumption | exact (by assumption : TXM S)) (by first | assumption | exact (by assumption : LCN S)) (by first | assumption | exact (by assumption : ABV S)) (s291.1) (x291) (d291.1) (d291.2.1) (d291.2.2.1) (d291.2.2.2) (by omega) _) ?_
  rintro _ T14 ⟨hHT14, w275, rfl, w269, w270, w271, w272, w273⟩
  have hFT14 : FR md_mo_does S T14 := FR.tr hF w275 rfl
  show Rl _ _ _ _ _ [] _ _
  refine l_goto rfl rfl ?_
  refine l_return rfl rfl ?_
  have w276 : Xi T14 904 117 = Xi S 904 117 := (show Xi T14 904 117 = Xi S 904 117 from w275.x _ _ rfl)
  have w277 : 0 ≤ Xi S 904 117 ∧ Xi S 904 117 ≤ 480 := hH.c _ _
  have w278 : 0 ≤ Xi T14 904 15 ∧ Xi T14 904 15 ≤ 300 := hHT14.c _ _
  have w279 : 0 ≤ Xi T14 904 16 ∧ Xi T14 904 16 ≤ 16 := hHT14.c _ _
  have w280 : Xi T14 904 19 = Xi S 904 19 := (show Xi T14 904 19 = Xi S 904 19 from w275.x _ _ rfl)
  have w281 : 0 ≤ Xi S 904 19 ∧ Xi S 904 19 ≤ 24 := hH.c _ _
  have w282 : Xi T14 904 23 = Xi S 904 23 := (show Xi T14 904 23 = Xi S 904 23 from w275.x _ _ rfl)
  have w283 : 0 ≤ Xi S 904 23 ∧ Xi S 904 23 ≤ 24 := hH.c _ _
  have w284 : Xi T14 904 60 = Xi S 904 60 := (show Xi T14 904 60 = Xi S 904 60 from w275.x _ _ rfl)
  have w285 : -1 ≤ Xi S 904 60 ∧ Xi S 904 60 ≤ 23 := hH.c _ _
  exact ⟨hHT14, hFT14, rfl, (⟨by first | assumption | exact (by assumption : TXM T14), by first | assumption | exact (WYM_FR w275 rfl (by assumption : WYM S)), by first | assumption | exact (by assumption : LXM T14), by first | assumption | exact (by assumption : LCN T14), by first | assumption | exact (by assumption : ABV T14), by first | assumption | exact (DCM_FR w275 rfl (by assumption : DCM S)), by first | assumption | exact (VTM_FR w275 rfl (by assumption : VTM S)), by first | assumption | exact (VCN_FR w275 rfl (by assumption : VCN S)), by first | assumption | exact (WYD_FR w275 rfl (by assumption : WYD S)), by first | assumption | exact (by assumption : RDT T14) | exact rdt_df hRD (GR.tr GR.rf (by assumption : GR T14 S)) df153 (by omega) (by omega) (by omega) (hFT14.x 904 125 rfl) (hFT14.x 904 130 rfl) (smk_q9 hFT14 rfl) dn153 | exact rdt_gr hRD (by first | assumption | exact (GR.tr GR.rf (by assumption : GR T14 S))) (by omega) (hFT14.x 904 125 rfl) (hFT14.x 904 130 rfl) (smk_q9 hFT14 rfl) (fun a x y => absurd y (by omega)), akr_gr hAK (by first | assumption | exact (GR.tr GR.rf (by assumption : GR T14 S))), by first | omega | (have g := (by first | assumption | exact (GR.tr GR.rf (by assumption : GR T14 S)) : GR T14 S); have t := g.1; omega), by first | omega | (have g := (by first | assumption | exact (GR.tr GR.rf (by assumption : GR T14 S)) : GR T14 S); have t := g.1; omega)⟩)⟩


