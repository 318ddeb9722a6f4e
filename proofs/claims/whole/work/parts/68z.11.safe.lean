/-! SAFETY of methods: printed by wip/safe (vc.py, decl.py) -/
theorem txm_00 {T : sS} (h1 : Xi T 904 19 = 0) (h2 : ∀ j : Nat, (j : Int) < 12 * Xi T 904 16 → Xi T 933 j = 0) : TXM T := by
  refine ⟨fun a x y => ?_, fun a b x y => ?_, fun a b x y z w q => ?_⟩
  · omega
  · omega
  · exact absurd (h2 (12 * a + b).toNat (by omega)) q
theorem lxm_0 {T : sS} (h : Xi T 904 15 = 0) : LXM T := fun k hk => absurd hk (by omega)
theorem lcn_0 {T : sS} (h1 : 0 ≤ Xi T 904 16) (h2 : 0 ≤ Xi T 904 18) (h : Xi T 904 15 ≤ (Xi T 904 16 + Xi T 904 18 + Xi T 904 19 + Xi T 904 23 + Xi T 904 30 + Xi T 904 32 + Xi T 904 41 + 2 * Xi T 904 47 + Xi T 904 49) + 11) : LCN T := by
  have p := plN_rg (S := T) (s := 1) (Xi T 904 16).toNat
  have q := plN_rg (S := T) (s := 3) (Xi T 904 18).toNat
  unfold LCN pls
  omega
def akF (j : Nat) : Int := if j = 0 then -1 else if j = 4 then -2 else 0
theorem akr_i {T : sS} (h1 : Xi T 904 49 = 5) (h2 : Xi T 904 23 = 2) (h3 : Xi T 904 32 = 1) (k : ∀ j : Nat, (j : Int) < 5 → Xi T 942 j = akF j) : AKR T := ⟨by omega, k 0 (by omega), k 1 (by omega), k 2 (by omega), k 3 (by omega), k 4 (by omega), by omega, by omega⟩
def md_mo_begin : List rec := [(904, 905, 15, 16), (904, 905, 16, 17), (904, 905, 18, 19), (904, 905, 19, 20), (904, 905, 23, 24), (904, 905, 30, 31), (904, 905, 32, 33), (904, 905, 41, 42), (904, 905, 47, 48), (904, 905, 49, 50), (904, 905, 51, 52), (904, 905, 55, 56), (904, 905, 60, 61), (904, 905, 117, 118), (904, 905, 125, 126), (904, 905, 130, 131), (904, 905, 156, 157), (912, 913, 0, 100000), (913, 914, 0, 100000), (914, 915, 0, 100000), (915, 916, 0, 100000), (916, 917, 0, 100000), (917, 918, 0, 100000), (918, 919, 0, 100000), (919, 920, 0, 100000), (920, 921, 0, 100000), (921, 922, 0, 100000), (922, 923, 0, 100000), (924, 925, 0, 100000), (925, 926, 0, 100000), (926, 927, 0, 100000), (928, 929, 0, 100000), (929, 930, 0, 100000), (930, 931, 0, 100000), (933, 934, 0, 100000), (940, 941, 0, 100000), (942, 943, 0, 100000), (946, 947, 0, 100000), (947, 948, 0, 100000), (948, 949, 0, 100000), (949, 950, 0, 100000)]
abbrev Q_mo_begin (S : sS) : pst := fun r S1 => HI S1 ∧ FR md_mo_begin S S1 ∧ (r = none ∧ (TXM S1) ∧ (ABV S1) ∧ (WYM S1) ∧ (LXM S1) ∧ (AKR S1) ∧ (DCM S1) ∧ (VTM S1) ∧ (VCN S1) ∧ (LCN S1) ∧ (WYD S1) ∧ (Xi S1 904 117 = 0 ∧ Xi S1 904 125 = 0 ∧ Xi S1 904 130 = 0) ∧ (∀ a : Nat, (a : Int) < Xi S1 904 23 → Xi S1 924 a = 0) ∧ (Xi S1 904 60 < Xi S1 904 19) ∧ (2 ≤ Xi S1 904 16))
set_option maxRecDepth 100000 in
set_option maxHeartbeats 4000000 in
theorem c496_mo_begin {S : sS} (hH : HI S) (hB : ABV S) (hW : WYM S) (d : Nat) : ∀ (n496 : Nat) (T1 : sS) (_ : HI T1) (_ : FR md_mo_begin S T1) (v1 : Int), (0 ≤ v1 ∧ v1 ≤ 3456) → (Xi T1 904 16 = 5) → (Xi T1 904 18 = 2) → (Xi T1 904 19 = 1) → (Xi T1 904 23 = 2) → (Xi T1 904 30 = 0) → (Xi T1 904 32 = 1) → (Xi T1 904 41 = 0) → (Xi T1 904 47 = 0) → (Xi T1 904 49 = 5) → (Xi T1 904 51 = 0) → (Xi T1 904 55 = Xi T1 904 55) → (Xi T1 904 60 = -1) → (Xi T1 904 117 = 0) → (Xi T1 904 125 = 0) → (Xi T1 904 130 = 0) → (Xi T1 904 15 = 27) → (ABV T1) → (WYM T1) → (TXM T1) → (LXM T1) → (∀ a : Nat, (a : Int) < 2 → Xi T1 922 a ≠ -1 ∧ Xi T1 924 a = 0) → (∀ j : Nat, (j : Int) < 5 → Xi T1 942 j = akF j) → n496 = (3457 - v1).toNat → Rl lay0 (d + 5) m_mo_begin 496 [(0, .ref 904), (1, iv v1)] [] T1 (Q_mo_begin S) := by
  have hF : FR md_mo_begin S S := FR.rf
  have w1 : 0 ≤ Xi S 904 117 ∧ Xi S 904 117 ≤ 480 := hH.c _ _
  have w2 : 0 ≤ Xi S 904 125 ∧ Xi S 904 125 ≤ 192 := hH.c _ _
  have w3 : 0 ≤ Xi S 904 130 ∧ Xi S 904 130 ≤ 24 := hH.c _ _
  have w4 : 0 ≤ Xi S 904 15 ∧ Xi S 904 15 ≤ 300 := hH.c _ _
  have w5 : 0 ≤ Xi S 904 16 ∧ Xi S 904 16 ≤ 16 := hH.c _ _
  have w6 : 0 ≤ Xi S 904 18 ∧ Xi S 904 18 ≤ 8 := hH.c _ _
  have w7 : 0 ≤ Xi S 904 19 ∧ Xi S 904 19 ≤ 24 := hH.c _ _
  have w8 : 0 ≤ Xi S 904 23 ∧ Xi S 904 23 ≤ 24 := hH.c _ _
  have w9 : 0 ≤ Xi S 904 30 ∧ Xi S 904 30 ≤ 64 := hH.c _ _
  have w10 : 0 ≤ Xi S 904 32 ∧ Xi S 904 32 ≤ 12 := hH.c _ _
  have w11 : 0 ≤ Xi S 904 41 ∧ Xi S 904 41 ≤ 6 := hH.c _ _
  have w12 : 0 ≤ Xi S 904 47 ∧ Xi S 904 47 ≤ 8 := hH.c _ _
  have w13 : 0 ≤ Xi S 904 49 ∧ Xi S 904 49 ≤ 12 := hH.c _ _
  have w14 : 0 ≤ Xi S 904 51 ∧ Xi S 904 51 ≤ 200 := hH.c _ _
  have w15 : 0 ≤ Xi S 904 55 ∧ Xi S 904 55 ≤ 20 := hH.c _ _
  have w16 : -1 ≤ Xi S 904 60 ∧ Xi S 904 60 ≤ 23 := hH.c _ _
  intro n496
  induction n496 using Nat.strongRecOn with
  | ind n496 ih496 =>
    intro T1 hHT1 hFT1 v1 w17 w18 w19 w20 w21 w22 w23 w24 w25 w26 w27 w28 w29 w30 w31 w32 w33 B496 W496 X496 M496 D496 K496 hm496
    have w34 : 0 ≤ Xi T1 904 117 ∧ Xi T1 904 117 ≤ 480 := hHT1.c _ _
    have w35 : 0 ≤ Xi T1 904 125 ∧ Xi T1 904 125 ≤ 192 := hHT1.c _ _
    have w36 : 0 ≤ Xi T1 904 130 ∧ Xi T1 904 130 ≤ 24 := hHT1.c _ _
    have w37 : 0 ≤ Xi T1 904 15 ∧ Xi T1 904 15 ≤ 300 := hHT1.c _ _
    have w38 : 0 ≤ Xi T1 904 16 ∧ Xi T1 904 16 ≤ 16 := hHT1.c _ _
    have w39 : 0 ≤ Xi T1 904 18 ∧ Xi T1 904 18 ≤ 8 := hHT1.c _ _
    have w40 : 0 ≤ Xi T1 904 19 ∧ Xi T1 904 19 ≤ 24 := hHT1.c _ _
    have w41 : 0 ≤ Xi T1 904 23 ∧ Xi T1 904 23 ≤ 24 := hHT1.c _ _
    have w42 : 0 ≤ Xi T1 904 30 ∧ Xi T1 904 30 ≤ 64 := hHT1.c _ _
    have w43 : 0 ≤ Xi T1 904 32 ∧ Xi T1 904 32 ≤ 12 := hHT1.c _ _
    have w44 : 0 ≤ Xi T1 904 41 ∧ Xi T1 904 41 ≤ 6 := hHT1.c _ _
    have w45 : 0 ≤ Xi T1 904 47 ∧ Xi T1 904 47 ≤ 8 := hHT1.c _ _
    have w46 : 0 ≤ Xi T1 904 49 ∧ Xi T1 904 49 ≤ 12 := hHT1.c _ _
    have w47 : 0 ≤ Xi T1 904 51 ∧ Xi T1 904 51 ≤ 200 := hHT1.c _ _
    have w48 : 0 ≤ Xi T1 904 55 ∧ Xi T1 904 55 ≤ 20 := hHT1.c _ _
    have w49 : -1 ≤ Xi T1 904 60 ∧ Xi T1 904 60 ≤ 23 := hHT1.c _ _
    refine l_iload_n rfl rfl ?_
    refine l_sipush rfl rfl ?_
    refine l_icmp_ge rfl rfl (by unfold rg; omega) (by unfold rg; omega) (fun w50 => ?_) (fun w51 => ?_)
    · refine l_return rfl rfl ?_
      exact ⟨hHT1, hFT1, rfl, (X496), (B496), (W496), (M496), (akr_i (by omega) (by omega) (by omega) (fun j hj => K496 j hj)), (fun a ha _ => (D496 a (by omega)).1), (fun v hv => absurd hv (by omega)), (fun t ht => by rw [show Xi T1 904 30 = 0 by omega]; show (0 : Int) ≤ 8; decide), (lcn_0 (by omega) (by omega) (by omega)), (fun i j hij hj => absurd hj (by omega)), (by omega), (fun a ha => (D496 a (by omega)).2), (by omega), (by omega)⟩
    · refine l_aload_n rfl rfl ?_
      refine l_gfr rfl rfl rfl rfl rfl (hHT1.r 904 46 940 rfl) ?_
      refine l_iload_n rfl rfl ?_
      refine l_iconst rfl ?_
      refine l_bastoreZ1 (n := 3456) rfl rfl (by omega) (by omega) (by unfold rg; omega) ⟨by omega, by omega⟩ ?_
      obtain ⟨U2, eU2⟩ : ∃ T : sS, T = uI T1 940 ((v1).toNat) (Int32.ofInt 0) := ⟨_, rfl⟩
      rw [← eU2]
      have hHU2 : HI U2 := by rw [eU2]; exact HI_w hHT1 (show 0 ≤ 0 by omega) (show 0 ≤ 1 by omega)
      have hFU2 : FR md_mo_begin S U2 := by rw [eU2]; exact FR.wI hFT1 (mdf_i (r := (940, 941, 0, 100000)) (List.mem_of_getElem? (i := 35) rfl) (inR_i (by omega) (by omega) (by omega) (by omega)))
      have w68 : Xi U2 940 ((v1).toNat) = 0 := by rw [eU2]; exact Xi_same (by unfold rg; omega)
      refine l_iinc rfl rfl rfl rfl ?_
      refine l_goto rfl rfl ?_
      have w69 : Xi U2 904 117 = Xi T1 904 117 := (show Xi U2 904 117 = Xi T1 904 117 from by rw [eU2]; exact Xi_ne (by omega))
      have w71 : Xi U2 904 125 = Xi T1 904 125 := (show Xi U2 904 125 = Xi T1 904 125 from by rw [eU2]; exact Xi_ne (by omega))
      have w73 : Xi U2 904 130 = Xi T1 904 130 := (show Xi U2 904 130 = Xi T1 904 130 from by rw [eU2]; exact Xi_ne (by omega))
      have w75 : Xi U2 904 15 = Xi T1 904 15 := (show Xi U2 904 15 = Xi T1 904 15 from by rw [eU2]; exact Xi_ne (by omega))
      have w77 : Xi U2 904 16 = Xi T1 904 16 := (show Xi U2 904 16 = Xi T1 904 16 from by rw [eU2]; exact Xi_ne (by omega))
      have w79 : Xi U2 904 18 = Xi T1 904 18 := (show Xi U2 904 18 = Xi T1 904 18 from by rw [eU2]; exact Xi_ne (by omega))
      have w81 : Xi U2 904 19 = Xi T1 904 19 := (show Xi U2 904 19 = Xi T1 904 19 from by rw [eU2]; exact Xi_ne (by omega))
      have w83 : Xi U2 904 23 = Xi T1 904 23 := (show Xi U2 904 23 = Xi T1 904 23 from by rw [eU2]; exact Xi_ne (by omega))
      have w85 : Xi U2 904 30 = Xi T1 904 30 := (show Xi U2 904 30 = Xi T1 904 30 from by rw [eU2]; exact Xi_ne (by omega))
      have w87 : Xi U2 904 32 = Xi T1 904 32 := (show Xi U2 904 32 = Xi T1 904 32 from by rw [eU2]; exact Xi_ne (by omega))
      have w89 : Xi U2 904 41 = Xi T1 904 41 := (show Xi U2 904 41 = Xi T1 904 41 from by rw [eU2]; exact Xi_ne (by omega))
      have w91 : Xi U2 904 47 = Xi T1 904 47 := (show Xi U2 904 47 = Xi T1 904 47 from by rw [eU2]; exact Xi_ne (by omega))
      have w93 : Xi U2 904 49 = Xi T1 904 49 := (show Xi U2 904 49 = Xi T1 904 49 from by rw [eU2]; exact Xi_ne (by omega))
      have w95 : Xi U2 904 51 = Xi T1 904 51 := (show Xi U2 904 51 = Xi T1 904 51 from by rw [eU2]; exact Xi_ne (by omega))
      have w97 : Xi U2 904 55 = Xi T1 904 55 := (show Xi U2 904 55 = Xi T1 904 55 from by rw [eU2]; exact Xi_ne (by omega))
      have w99 : Xi U2 904 60 = Xi T1 904 60 := (show Xi U2 904 60 = Xi T1 904 60 from by rw [eU2]; exact Xi_ne (by omega))
      exact Rl_weak (ih496 _ (by omega) U2 hHU2 hFU2 ((v1 + 1)) (by omega) (by omega) (by omega) (by omega) (by omega) (by omega) (by omega) (by omega) (by omega) (by omega) (by omega) (by omega) (by omega) (by omega) (by omega) (by omega) (by omega) (by first | assumption | exact (ABV_FR (FR_e eU2) rfl (by assumption : ABV T1))) (by first | assumption | exact (WYM_FR (FR_e eU2) rfl (by assumption : WYM T1))) (by first | assumption | exact (TXM_FR (FR_e eU2) rfl (by assumption : TXM T1))) (by first | assumption | exact (LXM_FR (FR_e eU2) rfl (by assumption : LXM T1))) (fun a ha => by rw [(fun j => ((FR_e eU2).cx 922 rfl j).1) a, (fun j => ((FR_e eU2).cx 924 rfl j).1) a]; exact (by first | exact D429 a ha | exact D496 a ha)) (fun j hj => by rw [(fun j => ((FR_e eU2).cx 942 rfl j).1) j]; exact (by first | exact K429 j hj | exact K496 j hj)) rfl) (And.intro rfl (And.intro rfl (True.intro)))
set_option maxRecDepth 100000 in
set_option maxHeartbeats 4000000 in
theorem c429_mo_begin {S : sS} (hH : HI S) (hB : ABV S) (hW : WYM S) (d : Nat) : ∀  (T3 : sS) (_ : HI T3) (_ : FR md_mo_begin S T3), (Xi T3 904 16 = 5) → (Xi T3 904 18 = 2) → (Xi T3 904 19 = 1) → (Xi T3 904 23 = 2) → (Xi T3 904 30 = 0) → (Xi T3 904 32 = 1) → (Xi T3 904 41 = 0) → (Xi T3 904 47 = 0) → (Xi T3 904 49 = 5) → (Xi T3 904 51 = 0) → (Xi T3 904 55 = 0) → (Xi T3 904 60 = -1) → (Xi T3 904 117 = 0) → (Xi T3 904 125 = 0) → (Xi T3 904 130 = 0) → (Xi T3 904 15 = 27) → (ABV T3) → (WYM T3) → (TXM T3) → (LXM T3) → (∀ a : Nat, (a : Int) < 2 → Xi T3 922 a ≠ -1 ∧ Xi T3 924 a = 0) → (∀ j : Nat, (j : Int) < 5 → Xi T3 942 j = akF j) → Rl lay0 (d + 5) m_mo_begin 429 [(0, .ref 904)] [] T3 (Q_mo_begin S) := by
  have C496 := c496_mo_begin hH hB hW d 
  have hF : FR md_mo_begin S S := FR.rf
  have w1 : 0 ≤ Xi S 904 117 ∧ Xi S 904 117 ≤ 480 := hH.c _ _
  have w2 : 0 ≤ Xi S 904 125 ∧ Xi S 904 125 ≤ 192 := hH.c _ _
  have w3 : 0 ≤ Xi S 904 130 ∧ Xi S 904 130 ≤ 24 := hH.c _ _
  have w4 : 0 ≤ Xi S 904 15 ∧ Xi S 904 15 ≤ 300 := hH.c _ _
  have w5 : 0 ≤ Xi S 904 16 ∧ Xi S 904 16 ≤ 16 := hH.c _ _
  have w6 : 0 ≤ Xi S 904 18 ∧ Xi S 904 18 ≤ 8 := hH.c _ _
  have w7 : 0 ≤ Xi S 904 19 ∧ Xi S 904 19 ≤ 24 := hH.c _ _
  have w8 : 0 ≤ Xi S 904 23 ∧ Xi S 904 23 ≤ 24 := hH.c _ _
  have w9 : 0 ≤ Xi S 904 30 ∧ Xi S 904 30 ≤ 64 := hH.c _ _
  have w10 : 0 ≤ Xi S 904 32 ∧ Xi S 904 32 ≤ 12 := hH.c _ _
  have w11 : 0 ≤ Xi S 904 41 ∧ Xi S 904 41 ≤ 6 := hH.c _ _
  have w12 : 0 ≤ Xi S 904 47 ∧ Xi S 904 47 ≤ 8 := hH.c _ _
  have w13 : 0 ≤ Xi S 904 49 ∧ Xi S 904 49 ≤ 12 := hH.c _ _
  have w14 : 0 ≤ Xi S 904 51 ∧ Xi S 904 51 ≤ 200 := hH.c _ _
  have w15 : 0 ≤ Xi S 904 55 ∧ Xi S 904 55 ≤ 20 := hH.c _ _
  have w16 : -1 ≤ Xi S 904 60 ∧ Xi S 904 60 ≤ 23 := hH.c _ _
  intro T3 hHT3 hFT3 w101 w102 w103 w104 w105 w106 w107 w108 w109 w110 w111 w112 w113 w114 w115 w116 B429 W429 X429 M429 D429 K429
  have w117 : 0 ≤ Xi T3 904 117 ∧ Xi T3 904 117 ≤ 480 := hHT3.c _ _
  have w118 : 0 ≤ Xi T3 904 125 ∧ Xi T3 904 125 ≤ 192 := hHT3.c _ _
  have w119 : 0 ≤ Xi T3 904 130 ∧ Xi T3 904 130 ≤ 24 := hHT3.c _ _
  have w120 : 0 ≤ Xi T3 904 15 ∧ Xi T3 904 15 ≤ 300 := hHT3.c _ _
  have w121 : 0 ≤ Xi T3 904 16 ∧ Xi T3 904 16 ≤ 16 := hHT3.c _ _
  have w122 : 0 ≤ Xi T3 904 18 ∧ Xi T3 904 18 ≤ 8 := hHT3.c _ _
  have w123 : 0 ≤ Xi T3 904 19 ∧ Xi T3 904 19 ≤ 24 := hHT3.c _ _
  have w124 : 0 ≤ Xi T3 904 23 ∧ Xi T3 904 23 ≤ 24 := hHT3.c _ _
  have w125 : 0 ≤ Xi T3 904 30 ∧ Xi T3 904 30 ≤ 64 := hHT3.c _ _
  have w126 : 0 ≤ Xi T3 904 32 ∧ Xi T3 904 32 ≤ 12 := hHT3.c _ _
  have w127 : 0 ≤ Xi T3 904 41 ∧ Xi T3 904 41 ≤ 6 := hHT3.c _ _
  have w128 : 0 ≤ Xi T3 904 47 ∧ Xi T3 904 47 ≤ 8 := hHT3.c _ _
  have w129 : 0 ≤ Xi T3 904 49 ∧ Xi T3 904 49 ≤ 12 := hHT3.c _ _
  have w130 : 0 ≤ Xi T3 904 51 ∧ Xi T3 904 51 ≤ 200 := hHT3.c _ _
  have w131 : 0 ≤ Xi T3 904 55 ∧ Xi T3 904 55 ≤ 20 := hHT3.c _ _
  have w132 : -1 ≤ Xi T3 904 60 ∧ Xi T3 904 60 ≤ 23 := hHT3.c _ _
  refine l_aload_n rfl rfl ?_
  refine l_iconst rfl ?_
  refine l_ldcwR (i := 64) rfl rfl ?_
  refine l_iconst rfl ?_
  refine l_callV rfl rfl rfl (t_mo_firstCommand hHT3 0 64 _ (-1) ⟨by omega, by omega⟩ rfl ⟨by omega, by omega⟩ (by first | assumption | omega) _) ?_
  rintro _ T4 ⟨hHT4, w151, rfl, w149⟩
  have hFT4 : FR md_mo_begin S T4 := FR.tr hFT3 w151 rfl
  show Rl _ _ _ _ _ [] _ _
  refine l_aload_n rfl rfl ?_
  refine l_iconst rfl ?_
  refine l_ldcwR (i := 65) rfl rfl ?_
  refine l_iconst rfl ?_
  have w180 : 0 ≤ Xi T4 904 55 ∧ Xi T4 904 55 ≤ 20 := hHT4.c _ _
  refine l_callV rfl rfl rfl (t_mo_firstCommand hHT4 1 65 _ 0 ⟨by omega, by omega⟩ rfl ⟨by omega, by omega⟩ (by first | assumption | omega) _) ?_
  rintro _ T5 ⟨hHT5, w185, rfl, w183⟩
  have hFT5 : FR md_mo_begin S T5 := FR.tr hFT4 w185 rfl
  show Rl _ _ _ _ _ [] _ _
  refine l_aload_n rfl rfl ?_
  refine l_iconst rfl ?_
  refine l_ldcwR (i := 66) rfl rfl ?_
  refine l_iconst rfl ?_
  have w214 : 0 ≤ Xi T5 904 55 ∧ Xi T5 904 55 ≤ 20 := hHT5.c _ _
  refine l_callV rfl rfl rfl (t_mo_firstCommand hHT5 1 66 _ 0 ⟨by omega, by omega⟩ rfl ⟨by omega, by omega⟩ (by first | assumption | omega) _) ?_
  rintro _ T6 ⟨hHT6, w219, rfl, w217⟩
  have hFT6 : FR md_mo_begin S T6 := FR.tr hFT5 w219 rfl
  show Rl _ _ _ _ _ [] _ _
  refine l_aload_n rfl rfl ?_
  refine l_iconst rfl ?_
  refine l_ldcwR (i := 67) rfl rfl ?_
  refine l_iconst rfl ?_
  have w248 : 0 ≤ Xi T6 904 55 ∧ Xi T6 904 55 ≤ 20 := hHT6.c _ _
  refine l_callV rfl rfl rfl (t_mo_firstCommand hHT6 2 67 _ 0 ⟨by omega, by omega⟩ rfl ⟨by omega, by omega⟩ (by first | assumption | omega) _) ?_
  rintro _ T7 ⟨hHT7, w253, rfl, w251⟩
  have hFT7 : FR md_mo_begin S T7 := FR.tr hFT6 w253 rfl
  show Rl _ _ _ _ _ [] _ _
  refine l_aload_n rfl rfl ?_
  refine l_iconst rfl ?_
  refine l_ldcwR (i := 68) rfl rfl ?_
  refine l_iconst rfl ?_
  have w282 : 0 ≤ Xi T7 904 55 ∧ Xi T7 904 55 ≤ 20 := hHT7.c _ _
  refine l_callV rfl rfl rfl (t_mo_firstCommand hHT7 3 68 _ 0 ⟨by omega, by omega⟩ rfl ⟨by omega, by omega⟩ (by first | assumption | omega) _) ?_
  rintro _ T8 ⟨hHT8, w287, rfl, w285⟩
  have hFT8 : FR md_mo_begin S T8 := FR.tr hFT7 w287 rfl
  show Rl _ _ _ _ _ [] _ _
  refine l_aload_n rfl rfl ?_
  refine l_iconst rfl ?_
  refine l_ldcwR (i := 69) rfl rfl ?_
  refine l_bipush rfl rfl ?_
  have w316 : 0 ≤ Xi T8 904 55 ∧ Xi T8 904 55 ≤ 20 := hHT8.c _ _
  refine l_callV rfl rfl rfl (t_mo_firstCommand hHT8 4 69 _ (-2) ⟨by omega, by omega⟩ rfl ⟨by omega, by omega⟩ (by first | assumption | omega) _) ?_
  rintro _ T9 ⟨hHT9, w321, rfl, w319⟩
  have hFT9 : FR md_mo_begin S T9 := FR.tr hFT8 w321 rfl
  show Rl _ _ _ _ _ [] _ _
  refine l_aload_n rfl rfl ?_
  refine l_iconst rfl ?_
  refine l_ldcwR (i := 70) rfl rfl ?_
  refine l_bipush rfl rfl ?_
  have w350 : 0 ≤ Xi T9 904 55 ∧ Xi T9 904 55 ≤ 20 := hHT9.c _ _
  refine l_callV rfl rfl rfl (t_mo_firstCommand hHT9 4 70 _ (-2) ⟨by omega, by omega⟩ rfl ⟨by omega, by omega⟩ (by first | assumption | omega) _) ?_
  rintro _ T10 ⟨hHT10, w355, rfl, w353⟩
  have hFT10 : FR md_mo_begin S T10 := FR.tr hFT9 w355 rfl
  show Rl _ _ _ _ _ [] _ _
  refine l_iconst rfl ?_
  refine l_istore_n rfl rfl rfl ?_
  have w356 : Xi T10 904 117 = Xi T3 904 117 := (show Xi T10 904 117 = Xi T9 904 117 from w355.x _ _ rfl).trans ( (show Xi T9 904 117 = Xi T8 904 117 from w321.x _ _ rfl).trans ( (show Xi T8 904 117 = Xi T7 904 117 from w287.x _ _ rfl).trans ( (show Xi T7 904 117 = Xi T6 904 117 from w253.x _ _ rfl).trans ( (show Xi T6 904 117 = Xi T5 904 117 from w219.x _ _ rfl).trans ( (show Xi T5 904 117 = Xi T4 904 117 from w185.x _ _ rfl).trans ((show Xi T4 904 117 = Xi T3 904 117 from w151.x _ _ rfl)))))))
  have w358 : Xi T10 904 125 = Xi T3 904 125 := (show Xi T10 904 125 = Xi T9 904 125 from w355.x _ _ rfl).trans ( (show Xi T9 904 125 = Xi T8 904 125 from w321.x _ _ rfl).trans ( (show Xi T8 904 125 = Xi T7 904 125 from w287.x _ _ rfl).trans ( (show Xi T7 904 125 = Xi T6 904 125 from w253.x _ _ rfl).trans ( (show Xi T6 904 125 = Xi T5 904 125 from w219.x _ _ rfl).trans ( (show Xi T5 904 125 = Xi T4 904 125 from w185.x _ _ rfl).trans ((show Xi T4 904 125 = Xi T3 904 125 from w151.x _ _ rfl)))))))
  have w360 : Xi T10 904 130 = Xi T3 904 130 := (show Xi T10 904 130 = Xi T9 904 130 from w355.x _ _ rfl).trans ( (show Xi T9 904 130 = Xi T8 904 130 from w321.x _ _ rfl).trans ( (show Xi T8 904 130 = Xi T7 904 130 from w287.x _ _ rfl).trans ( (show Xi T7 904 130 = Xi T6 904 130 from w253.x _ _ rfl).trans ( (show Xi T6 904 130 = Xi T5 904 130 from w219.x _ _ rfl).trans ( (show Xi T5 904 130 = Xi T4 904 130 from w185.x _ _ rfl).trans ((show Xi T4 904 130 = Xi T3 904 130 from w151.x _ _ rfl)))))))
  have w362 : Xi T10 904 15 = Xi T3 904 15 := (show Xi T10 904 15 = Xi T9 904 15 from w355.x _ _ rfl).trans ( (show Xi T9 904 15 = Xi T8 904 15 from w321.x _ _ rfl).trans ( (show Xi T8 904 15 = Xi T7 904 15 from w287.x _ _ rfl).trans ( (show Xi T7 904 15 = Xi T6 904 15 from w253.x _ _ rfl).trans ( (show Xi T6 904 15 = Xi T5 904 15 from w219.x _ _ rfl).trans ( (show Xi T5 904 15 = Xi T4 904 15 from w185.x _ _ rfl).trans ((show Xi T4 904 15 = Xi T3 904 15 from w151.x _ _ rfl)))))))
  have w364 : Xi T10 904 16 = Xi T3 904 16 := (show Xi T10 904 16 = Xi T9 904 16 from w355.x _ _ rfl).trans ( (show Xi T9 904 16 = Xi T8 904 16 from w321.x _ _ rfl).trans ( (show Xi T8 904 16 = Xi T7 904 16 from w287.x _ _ rfl).trans ( (show Xi T7 904 16 = Xi T6 904 16 from w253.x _ _ rfl).trans ( (show Xi T6 904 16 = Xi T5 904 16 from w219.x _ _ rfl).trans ( (show Xi T5 904 16 = Xi T4 904 16 from w185.x _ _ rfl).trans ((show Xi T4 904 16 = Xi T3 904 16 from w151.x _ _ rfl)))))))
  have w366 : Xi T10 904 18 = Xi T3 904 18 := (show Xi T10 904 18 = Xi T9 904 18 from w355.x _ _ rfl).trans ( (show Xi T9 904 18 = Xi T8 904 18 from w321.x _ _ rfl).trans ( (show Xi T8 904 18 = Xi T7 904 18 from w287.x _ _ rfl).trans ( (show Xi T7 904 18 = Xi T6 904 18 from w253.x _ _ rfl).trans ( (show Xi T6 904 18 = Xi T5 904 18 from w219.x _ _ rfl).trans ( (show Xi T5 904 18 = Xi T4 904 18 from w185.x _ _ rfl).trans ((show Xi T4 904 18 = Xi T3 904 18 from w151.x _ _ rfl)))))))
  have w368 : Xi T10 904 19 = Xi T3 904 19 := (show Xi T10 904 19 = Xi T9 904 19 from w355.x _ _ rfl).trans ( (show Xi T9 904 19 = Xi T8 904 19 from w321.x _ _ rfl).trans ( (show Xi T8 904 19 = Xi T7 904 19 from w287.x _ _ rfl).trans ( (show Xi T7 904 19 = Xi T6 904 19 from w253.x _ _ rfl).trans ( (show Xi T6 904 19 = Xi T5 904 19 from w219.x _ _ rfl).trans ( (show Xi T5 904 19 = Xi T4 904 19 from w185.x _ _ rfl).trans ((show Xi T4 904 19 = Xi T3 904 19 from w151.x _ _ rfl)))))))
  have w370 : Xi T10 904 23 = Xi T3 904 23 := (show Xi T10 904 23 = Xi T9 904 23 from w355.x _ _ rfl).trans ( (show Xi T9 904 23 = Xi T8 904 23 from w321.x _ _ rfl).trans ( (show Xi T8 904 23 = Xi T7 904 23 from w287.x _ _ rfl).trans ( (show Xi T7 904 23 = Xi T6 904 23 from w253.x _ _ rfl).trans ( (show Xi T6 904 23 = Xi T5 904 23 from w219.x _ _ rfl).trans ( (show Xi T5 904 23 = Xi T4 904 23 from w185.x _ _ rfl).trans ((show Xi T4 904 23 = Xi T3 904 23 from w151.x _ _ rfl)))))))
  have w372 : Xi T10 904 30 = Xi T3 904 30 := (show Xi T10 904 30 = Xi T9 904 30 from w355.x _ _ rfl).trans ( (show Xi T9 904 30 = Xi T8 904 30 from w321.x _ _ rfl).trans ( (show Xi T8 904 30 = Xi T7 904 30 from w287.x _ _ rfl).trans ( (show Xi T7 904 30 = Xi T6 904 30 from w253.x _ _ rfl).trans ( (show Xi T6 904 30 = Xi T5 904 30 from w219.x _ _ rfl).trans ( (show Xi T5 904 30 = Xi T4 904 30 from w185.x _ _ rfl).trans ((show Xi T4 904 30 = Xi T3 904 30 from w151.x _ _ rfl)))))))
  have w374 : Xi T10 904 32 = Xi T3 904 32 := (show Xi T10 904 32 = Xi T9 904 32 from w355.x _ _ rfl).trans ( (show Xi T9 904 32 = Xi T8 904 32 from w321.x _ _ rfl).trans ( (show Xi T8 904 32 = Xi T7 904 32 from w287.x _ _ rfl).trans ( (show Xi T7 904 32 = Xi T6 904 32 from w253.x _ _ rfl).trans ( (show Xi T6 904 32 = Xi T5 904 32 from w219.x _ _ rfl).trans ( (show Xi T5 904 32 = Xi T4 904 32 from w185.x _ _ rfl).trans ((show Xi T4 904 32 = Xi T3 904 32 from w151.x _ _ rfl)))))))
  have w376 : Xi T10 904 41 = Xi T3 904 41 := (show Xi T10 904 41 = Xi T9 904 41 from w355.x _ _ rfl).trans ( (show Xi T9 904 41 = Xi T8 904 41 from w321.x _ _ rfl).trans ( (show Xi T8 904 41 = Xi T7 904 41 from w287.x _ _ rfl).trans ( (show Xi T7 904 41 = Xi T6 904 41 from w253.x _ _ rfl).trans ( (show Xi T6 904 41 = Xi T5 904 41 from w219.x _ _ rfl).trans ( (show Xi T5 904 41 = Xi T4 904 41 from w185.x _ _ rfl).trans ((show Xi T4 904 41 = Xi T3 904 41 from w151.x _ _ rfl)))))))
  have w378 : Xi T10 904 47 = Xi T3 904 47 := (show Xi T10 904 47 = Xi T9 904 47 from w355.x _ _ rfl).trans ( (show Xi T9 904 47 = Xi T8 904 47 from w321.x _ _ rfl).trans ( (show Xi T8 904 47 = Xi T7 904 47 from w287.x _ _ rfl).trans ( (show Xi T7 904 47 = Xi T6 904 47 from w253.x _ _ rfl).trans ( (show Xi T6 904 47 = Xi T5 904 47 from w219.x _ _ rfl).trans ( (show Xi T5 904 47 = Xi T4 904 47 from w185.x _ _ rfl).trans ((show Xi T4 904 47 = Xi T3 904 47 from w151.x _ _ rfl)))))))
  have w380 : Xi T10 904 49 = Xi T3 904 49 := (show Xi T10 904 49 = Xi T9 904 49 from w355.x _ _ rfl).trans ( (show Xi T9 904 49 = Xi T8 904 49 from w321.x _ _ rfl).trans ( (show Xi T8 904 49 = Xi T7 904 49 from w287.x _ _ rfl).trans ( (show Xi T7 904 49 = Xi T6 904 49 from w253.x _ _ rfl).trans ( (show Xi T6 904 49 = Xi T5 904 49 from w219.x _ _ rfl).trans ( (show Xi T5 904 49 = Xi T4 904 49 from w185.x _ _ rfl).trans ((show Xi T4 904 49 = Xi T3 904 49 from w151.x _ _ rfl)))))))
  have w382 : Xi T10 904 51 = Xi T3 904 51 := (show Xi T10 904 51 = Xi T9 904 51 from w355.x _ _ rfl).trans ( (show Xi T9 904 51 = Xi T8 904 51 from w321.x _ _ rfl).trans ( (show Xi T8 904 51 = Xi T7 904 51 from w287.x _ _ rfl).trans ( (show Xi T7 904 51 = Xi T6 904 51 from w253.x _ _ rfl).trans ( (show Xi T6 904 51 = Xi T5 904 51 from w219.x _ _ rfl).trans ( (show Xi T5 904 51 = Xi T4 904 51 from w185.x _ _ rfl).trans ((show Xi T4 904 51 = Xi T3 904 51 from w151.x _ _ rfl)))))))
  have w384 : 0 ≤ Xi T10 904 55 ∧ Xi T10 904 55 ≤ 20 := hHT10.c _ _
  have w385 : Xi T10 904 60 = Xi T3 904 60 := (show Xi T10 904 60 = Xi T9 904 60 from w355.x _ _ rfl).trans ( (show Xi T9 904 60 = Xi T8 904 60 from w321.x _ _ rfl).trans ( (show Xi T8 904 60 = Xi T7 904 60 from w287.x _ _ rfl).trans ( (show Xi T7 904 60 = Xi T6 904 60 from w253.x _ _ rfl).trans ( (show Xi T6 904 60 = Xi T5 904 60 from w219.x _ _ rfl).trans ( (show Xi T5 904 60 = Xi T4 904 60 from w185.x _ _ rfl).trans ((show Xi T4 904 60 = Xi T3 904 60 from w151.x _ _ rfl)))))))
  exact Rl_weak (C496 _ T10 hHT10 hFT10 (0) (by omega) (by omega) (by omega) (by omega) (by omega) (by omega) (by omega) (by omega) (by omega) (by omega) (by omega) (by omega) (by omega) (by omega) (by omega) (by omega) (by omega) (by first | assumption | exact (ABV_FR w355 rfl (ABV_FR w321 rfl (ABV_FR w287 rfl (ABV_FR w253 rfl (ABV_FR w219 rfl (ABV_FR w185 rfl (ABV_FR w151 rfl (by assumption : ABV T3))))))))) (by first | assumption | exact (WYM_FR w355 rfl (WYM_FR w321 rfl (WYM_FR w287 rfl (WYM_FR w253 rfl (WYM_FR w219 rfl (WYM_FR w185 rfl (WYM_FR w151 rfl (by assumption : WYM T3))))))))) (by first | assumption | exact (TXM_FR w355 rfl (TXM_FR w321 rfl (TXM_FR w287 rfl (TXM_FR w253 rfl (TXM_FR w219 rfl (TXM_FR w185 rfl (TXM_FR w151 rfl (by assumption : TXM T3))))))))) (by first | assumption | exact (LXM_FR w355 rfl (LXM_FR w321 rfl (LXM_FR w287 rfl (LXM_FR w253 rfl (LXM_FR w219 rfl (LXM_FR w185 rfl (LXM_FR w151 rfl (by assumption : LXM T3))))))))) (fun a ha => by rw [(fun j => ((w355).cx 922 rfl j).1.trans (((w321).cx 922 rfl j).1.trans (((w287).cx 922 rfl j).1.trans (((w253).cx 922 rfl j).1.trans (((w219).cx 922 rfl j).1.trans (((w185).cx 922 rfl j).1.trans (((w151).cx 922 rfl j).1))))))) a, (fun j => ((w355).cx 924 rfl j).1.trans (((w321).cx 924 rfl j).1.trans (((w287).cx 924 rfl j).1.trans (((w253).cx 924 rfl j).1.trans (((w219).cx 924 rfl j).1.trans (((w185).cx 924 rfl j).1.trans (((w151).cx 924 rfl j).1))))))) a]; exact (by first | exact D429 a ha | exact D496 a ha)) (fun j hj => by rw [(fun j => ((w355).cx 942 rfl j).1.trans (((w321).cx 942 rfl j).1.trans (((w287).cx 942 rfl j).1.trans (((w253).cx 942 rfl j).1.trans (((w219).cx 942 rfl j).1.trans (((w185).cx 942 rfl j).1.trans (((w151).cx 942 rfl j).1))))))) j]; exact (by first | exact K429 j hj | exact K496 j hj)) rfl) (And.intro rfl (And.intro rfl (True.intro)))
set_option maxRecDepth 100000 in
set_option maxHeartbeats 4000000 in
theorem c406_mo_begin {S : sS} (hH : HI S) (hB : ABV S) (hW : WYM S) (d : Nat) : ∀ (n406 : Nat) (T11 : sS) (_ : HI T11) (_ : FR md_mo_begin S T11) (v1 : Int), (0 ≤ v1 ∧ v1 ≤ 6) → (Xi T11 904 16 = 5) → (Xi T11 904 18 = 2) → (Xi T11 904 19 = 1) → (Xi T11 904 23 = 2) → (Xi T11 904 30 = 0) → (Xi T11 904 32 = 1) → (Xi T11 904 41 = 0) → (Xi T11 904 47 = 0) → (Xi T11 904 49 = 5) → (Xi T11 904 51 = 0) → (Xi T11 904 55 = 0) → (Xi T11 904 60 = -1) → (Xi T11 904 117 = 0) → (Xi T11 904 125 = 0) → (Xi T11 904 130 = 0) → (v1 ≤ 6) → (Xi T11 904 15 = 21 + v1) → (ABV T11) → (WYM T11) → (TXM T11) → (LXM T11) → (∀ a : Nat, (a : Int) < 2 → Xi T11 922 a ≠ -1 ∧ Xi T11 924 a = 0) → (∀ j : Nat, (j : Int) < 5 → Xi T11 942 j = akF j) → n406 = (7 - v1).toNat → Rl lay0 (d + 5) m_mo_begin 406 [(0, .ref 904), (1, iv v1)] [] T11 (Q_mo_begin S) := by
  have C429 := c429_mo_begin hH hB hW d 
  have hF : FR md_mo_begin S S := FR.rf
  have w1 : 0 ≤ Xi S 904 117 ∧ Xi S 904 117 ≤ 480 := hH.c _ _
  have w2 : 0 ≤ Xi S 904 125 ∧ Xi S 904 125 ≤ 192 := hH.c _ _
  have w3 : 0 ≤ Xi S 904 130 ∧ Xi S 904 130 ≤ 24 := hH.c _ _
  have w4 : 0 ≤ Xi S 904 15 ∧ Xi S 904 15 ≤ 300 := hH.c _ _
  have w5 : 0 ≤ Xi S 904 16 ∧ Xi S 904 16 ≤ 16 := hH.c _ _
  have w6 : 0 ≤ Xi S 904 18 ∧ Xi S 904 18 ≤ 8 := hH.c _ _
  have w7 : 0 ≤ Xi S 904 19 ∧ Xi S 904 19 ≤ 24 := hH.c _ _
  have w8 : 0 ≤ Xi S 904 23 ∧ Xi S 904 23 ≤ 24 := hH.c _ _
  have w9 : 0 ≤ Xi S 904 30 ∧ Xi S 904 30 ≤ 64 := hH.c _ _
  have w10 : 0 ≤ Xi S 904 32 ∧ Xi S 904 32 ≤ 12 := hH.c _ _
  have w11 : 0 ≤ Xi S 904 41 ∧ Xi S 904 41 ≤ 6 := hH.c _ _
  have w12 : 0 ≤ Xi S 904 47 ∧ Xi S 904 47 ≤ 8 := hH.c _ _
  have w13 : 0 ≤ Xi S 904 49 ∧ Xi S 904 49 ≤ 12 := hH.c _ _
  have w14 : 0 ≤ Xi S 904 51 ∧ Xi S 904 51 ≤ 200 := hH.c _ _
  have w15 : 0 ≤ Xi S 904 55 ∧ Xi S 904 55 ≤ 20 := hH.c _ _
  have w16 : -1 ≤ Xi S 904 60 ∧ Xi S 904 60 ≤ 23 := hH.c _ _
  intro n406
  induction n406 using Nat.strongRecOn with
  | ind n406 ih406 =>
    intro T11 hHT11 hFT11 v1 w387 w388 w389 w390 w391 w392 w393 w394 w395 w396 w397 w398 w399 w400 w401 w402 w403 w404 B406 W406 X406 M406 D406 K406 hm406
    have w405 : 0 ≤ Xi T11 904 117 ∧ Xi T11 904 117 ≤ 480 := hHT11.c _ _
    have w406 : 0 ≤ Xi T11 904 125 ∧ Xi T11 904 125 ≤ 192 := hHT11.c _ _
    have w407 : 0 ≤ Xi T11 904 130 ∧ Xi T11 904 130 ≤ 24 := hHT11.c _ _
    have w408 : 0 ≤ Xi T11 904 15 ∧ Xi T11 904 15 ≤ 300 := hHT11.c _ _
    have w409 : 0 ≤ Xi T11 904 16 ∧ Xi T11 904 16 ≤ 16 := hHT11.c _ _
    have w410 : 0 ≤ Xi T11 904 18 ∧ Xi T11 904 18 ≤ 8 := hHT11.c _ _
    have w411 : 0 ≤ Xi T11 904 19 ∧ Xi T11 904 19 ≤ 24 := hHT11.c _ _
    have w412 : 0 ≤ Xi T11 904 23 ∧ Xi T11 904 23 ≤ 24 := hHT11.c _ _
    have w413 : 0 ≤ Xi T11 904 30 ∧ Xi T11 904 30 ≤ 64 := hHT11.c _ _
    have w414 : 0 ≤ Xi T11 904 32 ∧ Xi T11 904 32 ≤ 12 := hHT11.c _ _
    have w415 : 0 ≤ Xi T11 904 41 ∧ Xi T11 904 41 ≤ 6 := hHT11.c _ _
    have w416 : 0 ≤ Xi T11 904 47 ∧ Xi T11 904 47 ≤ 8 := hHT11.c _ _
    have w417 : 0 ≤ Xi T11 904 49 ∧ Xi T11 904 49 ≤ 12 := hHT11.c _ _
    have w418 : 0 ≤ Xi T11 904 51 ∧ Xi T11 904 51 ≤ 200 := hHT11.c _ _
    have w419 : 0 ≤ Xi T11 904 55 ∧ Xi T11 904 55 ≤ 20 := hHT11.c _ _
    have w420 : -1 ≤ Xi T11 904 60 ∧ Xi T11 904 60 ≤ 23 := hHT11.c _ _
    refine l_iload_n rfl rfl ?_
    refine l_bipush rfl rfl ?_
    refine l_icmp_ge rfl rfl (by unfold rg; omega) (by unfold rg; omega) (fun w421 => ?_) (fun w422 => ?_)
    · have w423 : 0 ≤ Xi T11 904 117 ∧ Xi T11 904 117 ≤ 480 := hHT11.c _ _
      exact Rl_weak (C429 T11 hHT11 hFT11  (by omega) (by omega) (by omega) (by omega) (by omega) (by omega) (by omega) (by omega) (by omega) (by omega) (by omega) (by omega) (by omega) (by omega) (by omega) (by omega) (by first | assumption | exact (by assumption : ABV T11)) (by first | assumption | exact (by assumption : WYM T11)) (by first | assumption | exact (by assumption : TXM T11)) (M406) (D406) (K406)) (And.intro rfl (True.intro))
    · refine l_aload_n rfl rfl ?_
      refine l_bipush rfl rfl ?_
      refine l_iload_n rfl rfl ?_
      refine l_iload_n rfl rfl ?_
      refine l_callS rfl rfl (by decide) rfl (t_mo_direction hHT11 v1 ⟨by omega, by omega⟩ _) ?_
      rintro _ _ ⟨rfl, z455, xz455, rfl, w455⟩
      show Rl _ _ _ _ _ [.ref (SB + z455), iv v1, iv 12, .ref 904] _ _
      refine l_callV rfl rfl rfl (t_mo_tellWord hHT11 12 v1 z455 xz455 ⟨by omega, by omega⟩ ⟨by omega, by omega⟩ w455 (by first | assumption | omega) _) ?_
      rintro _ T12 ⟨hHT12, w474, rfl, w472, e420, k420⟩
      have hFT12 : FR md_mo_begin S T12 := FR.tr hFT11 w474 rfl
      show Rl _ _ _ _ _ [] _ _
      have M420 : LXM T12 := lxm_gr M406 k420 (GR_FR (by assumption : FR md_mo_tellWord T11 T12) rfl GR.rf) (by omega) (Or.inr ⟨by omega, by rw [e420.1, e420.2, cM12]; omega⟩)
      clear k420 e420
      refine l_iinc rfl rfl rfl rfl ?_
      refine l_goto rfl rfl ?_
      have w475 : Xi T12 904 117 = Xi T11 904 117 := (show Xi T12 904 117 = Xi T11 904 117 from w474.x _ _ rfl)
      have w477 : Xi T12 904 125 = Xi T11 904 125 := (show Xi T12 904 125 = Xi T11 904 125 from w474.x _ _ rfl)
      have w479 : Xi T12 904 130 = Xi T11 904 130 := (show Xi T12 904 130 = Xi T11 904 130 from w474.x _ _ rfl)
      have w481 : 0 ≤ Xi T12 904 15 ∧ Xi T12 904 15 ≤ 300 := hHT12.c _ _
      have w482 : Xi T12 904 16 = Xi T11 904 16 := (show Xi T12 904 16 = Xi T11 904 16 from w474.x _ _ rfl)
      have w484 : Xi T12 904 18 = Xi T11 904 18 := (show Xi T12 904 18 = Xi T11 904 18 from w474.x _ _ rfl)
      have w486 : Xi T12 904 19 = Xi T11 904 19 := (show Xi T12 904 19 = Xi T11 904 19 from w474.x _ _ rfl)
      have w488 : Xi T12 904 23 = Xi T11 904 23 := (show Xi T12 904 23 = Xi T11 904 23 from w474.x _ _ rfl)
      have w490 : Xi T12 904 30 = Xi T11 904 30 := (show Xi T12 904 30 = Xi T11 904 30 from w474.x _ _ rfl)
      have w492 : Xi T12 904 32 = Xi T11 904 32 := (show Xi T12 904 32 = Xi T11 904 32 from w474.x _ _ rfl)
      have w494 : Xi T12 904 41 = Xi T11 904 41 := (show Xi T12 904 41 = Xi T11 904 41 from w474.x _ _ rfl)
      have w496 : Xi T12 904 47 = Xi T11 904 47 := (show Xi T12 904 47 = Xi T11 904 47 from w474.x _ _ rfl)
      have w498 : Xi T12 904 49 = Xi T11 904 49 := (show Xi T12 904 49 = Xi T11 904 49 from w474.x _ _ rfl)
      have w500 : Xi T12 904 51 = Xi T11 904 51 := (show Xi T12 904 51 = Xi T11 904 51 from w474.x _ _ rfl)
      have w502 : Xi T12 904 55 = Xi T11 904 55 := (show Xi T12 904 55 = Xi T11 904 55 from w474.x _ _ rfl)
      have w504 : Xi T12 904 60 = Xi T11 904 60 := (show Xi T12 904 60 = Xi T11 904 60 from w474.x _ _ rfl)
      exact Rl_weak (ih406 _ (by omega) T12 hHT12 hFT12 ((v1 + 1)) (by omega) (by omega) (by omega) (by omega) (by omega) (by omega) (by omega) (by omega) (by omega) (by omega) (by omega) (by omega) (by omega) (by omega) (by omega) (by omega) (by omega) (by omega) (by first | assumption | exact (ABV_FR w474 rfl (by assumption : ABV T11))) (by first | assumption | exact (WYM_FR w474 rfl (by assumption : WYM T11))) (by first | assumption | exact (TXM_FR w474 rfl (by assumption : TXM T11))) (by first | exact M420 | exact M316) (by first | exact D316 | exact (fun a ha => by rw [((by assumption : FR md_mo_tellWord T11 T12).cx 922 rfl a).1, ((by assumption : FR md_mo_tellWord T11 T12).cx 924 rfl a).1]; exact D406 a ha)) (by first | exact fun j hj => K316 j (by omega) | exact fun j hj => ((by assumption : FR md_mo_tellWord T11 T12).cx 942 rfl j).1.trans (K406 j hj)) rfl) (And.intro rfl (And.intro rfl (True.intro)))
set_option maxRecDepth 100000 in
set_option maxHeartbeats 4000000 in
theorem c316_mo_begin {S : sS} (hH : HI S) (hB : ABV S) (hW : WYM S) (d : Nat) : ∀ (n316 : Nat) (T13 : sS) (_ : HI T13) (_ : FR md_mo_begin S T13) (v1 : Int), (0 ≤ v1 ∧ v1 ≤ 5) → (Xi T13 904 16 = 5) → (Xi T13 904 18 = 2) → (Xi T13 904 19 = 1) → (Xi T13 904 23 = 2) → (Xi T13 904 30 = 0) → (Xi T13 904 32 = 1) → (Xi T13 904 41 = 0) → (Xi T13 904 47 = 0) → (Xi T13 904 49 = v1) → (Xi T13 904 51 = 0) → (Xi T13 904 55 = 0) → (Xi T13 904 60 = -1) → (Xi T13 904 117 = 0) → (Xi T13 904 125 = 0) → (Xi T13 904 130 = 0) → (v1 ≤ 5) → (Xi T13 904 15 = 16 + v1) → (ABV T13) → (WYM T13) → (TXM T13) → (LXM T13) → (∀ a : Nat, (a : Int) < 2 → Xi T13 922 a ≠ -1 ∧ Xi T13 924 a = 0) → (∀ j : Nat, (j : Int) < v1 → Xi T13 942 j = akF j) → n316 = (6 - v1).toNat → Rl lay0 (d + 5) m_mo_begin 316 [(0, .ref 904), (1, iv v1)] [] T13 (Q_mo_begin S) := by
  have C406 := c406_mo_begin hH hB hW d 
  have hF : FR md_mo_begin S S := FR.rf
  have w1 : 0 ≤ Xi S 904 117 ∧ Xi S 904 117 ≤ 480 := hH.c _ _
  have w2 : 0 ≤ Xi S 904 125 ∧ Xi S 904 125 ≤ 192 := hH.c _ _
  have w3 : 0 ≤ Xi S 904 130 ∧ Xi S 904 130 ≤ 24 := hH.c _ _
  have w4 : 0 ≤ Xi S 904 15 ∧ Xi S 904 15 ≤ 300 := hH.c _ _
  have w5 : 0 ≤ Xi S 904 16 ∧ Xi S 904 16 ≤ 16 := hH.c _ _
  have w6 : 0 ≤ Xi S 904 18 ∧ Xi S 904 18 ≤ 8 := hH.c _ _
  have w7 : 0 ≤ Xi S 904 19 ∧ Xi S 904 19 ≤ 24 := hH.c _ _
  have w8 : 0 ≤ Xi S 904 23 ∧ Xi S 904 23 ≤ 24 := hH.c _ _
  have w9 : 0 ≤ Xi S 904 30 ∧ Xi S 904 30 ≤ 64 := hH.c _ _
  have w10 : 0 ≤ Xi S 904 32 ∧ Xi S 904 32 ≤ 12 := hH.c _ _
  have w11 : 0 ≤ Xi S 904 41 ∧ Xi S 904 41 ≤ 6 := hH.c _ _
  have w12 : 0 ≤ Xi S 904 47 ∧ Xi S 904 47 ≤ 8 := hH.c _ _
  have w13 : 0 ≤ Xi S 904 49 ∧ Xi S 904 49 ≤ 12 := hH.c _ _
  have w14 : 0 ≤ Xi S 904 51 ∧ Xi S 904 51 ≤ 200 := hH.c _ _
  have w15 : 0 ≤ Xi S 904 55 ∧ Xi S 904 55 ≤ 20 := hH.c _ _
  have w16 : -1 ≤ Xi S 904 60 ∧ Xi S 904 60 ≤ 23 := hH.c _ _
  intro n316
  induction n316 using Nat.strongRecOn with
  | ind n316 ih316 =>
    intro T13 hHT13 hFT13 v1 w506 w507 w508 w509 w510 w511 w512 w513 w514 w515 w516 w517 w518 w519 w520 w521 w522 w523 B316 W316 X316 M316 D316 K316 hm316
    have w524 : 0 ≤ Xi T13 904 117 ∧ Xi T13 904 117 ≤ 480 := hHT13.c _ _
    have w525 : 0 ≤ Xi T13 904 125 ∧ Xi T13 904 125 ≤ 192 := hHT13.c _ _
    have w526 : 0 ≤ Xi T13 904 130 ∧ Xi T13 904 130 ≤ 24 := hHT13.c _ _
    have w527 : 0 ≤ Xi T13 904 15 ∧ Xi T13 904 15 ≤ 300 := hHT13.c _ _
    have w528 : 0 ≤ Xi T13 904 16 ∧ Xi T13 904 16 ≤ 16 := hHT13.c _ _
    have w529 : 0 ≤ Xi T13 904 18 ∧ Xi T13 904 18 ≤ 8 := hHT13.c _ _
    have w530 : 0 ≤ Xi T13 904 19 ∧ Xi T13 904 19 ≤ 24 := hHT13.c _ _
    have w531 : 0 ≤ Xi T13 904 23 ∧ Xi T13 904 23 ≤ 24 := hHT13.c _ _
    have w532 : 0 ≤ Xi T13 904 30 ∧ Xi T13 904 30 ≤ 64 := hHT13.c _ _
    have w533 : 0 ≤ Xi T13 904 32 ∧ Xi T13 904 32 ≤ 12 := hHT13.c _ _
    have w534 : 0 ≤ Xi T13 904 41 ∧ Xi T13 904 41 ≤ 6 := hHT13.c _ _
    have w535 : 0 ≤ Xi T13 904 47 ∧ Xi T13 904 47 ≤ 8 := hHT13.c _ _
    have w536 : 0 ≤ Xi T13 904 49 ∧ Xi T13 904 49 ≤ 12 := hHT13.c _ _
    have w537 : 0 ≤ Xi T13 904 51 ∧ Xi T13 904 51 ≤ 200 := hHT13.c _ _
    have w538 : 0 ≤ Xi T13 904 55 ∧ Xi T13 904 55 ≤ 20 := hHT13.c _ _
    have w539 : -1 ≤ Xi T13 904 60 ∧ Xi T13 904 60 ≤ 23 := hHT13.c _ _
    have C345 : ∀  (T14 : sS) (_ : HI T14) (_ : FR md_mo_begin S T14) (v1 : Int), (0 ≤ v1 ∧ v1 ≤ 4) → (Xi T14 904 16 = 5) → (Xi T14 904 18 = 2) → (Xi T14 904 19 = 1) → (Xi T14 904 23 = 2) → (Xi T14 904 30 = 0) → (Xi T14 904 32 = 1) → (Xi T14 904 41 = 0) → (Xi T14 904 47 = 0) → (Xi T14 904 49 = v1 + 1) → (Xi T14 904 51 = 0) → (Xi T14 904 55 = 0) → (Xi T14 904 60 = -1) → (Xi T14 904 117 = 0) → (Xi T14 904 125 = 0) → (Xi T14 904 130 = 0) → (v1 ≤ 4) → (Xi T14 904 15 = 16 + v1) → (ABV T14) → (WYM T14) → (TXM T14) → (LXM T14) → (∀ a : Nat, (a : Int) < 2 → Xi T14 922 a ≠ -1 ∧ Xi T14 924 a = 0) → (∀ j : Nat, (j : Int) < v1 + 1 → Xi T14 942 j = akF j) → ((6 - v1).toNat ≤ n316) → Rl lay0 (d + 5) m_mo_begin 345 [(0, .ref 904), (1, iv v1)] [] T14 (Q_mo_begin S) := by
      intro T14 hHT14 hFT14 v1 w540 w541 w542 w543 w544 w545 w546 w547 w548 w549 w550 w551 w552 w553 w554 w555 w556 w557 B345 W345 X345 M345 D345 K345 w558
      have w559 : 0 ≤ Xi T14 904 117 ∧ Xi T14 904 117 ≤ 480 := hHT14.c _ _
      have w560 : 0 ≤ Xi T14 904 125 ∧ Xi T14 904 125 ≤ 192 := hHT14.c _ _
      have w561 : 0 ≤ Xi T14 904 130 ∧ Xi T14 904 130 ≤ 24 := hHT14.c _ _
      have w562 : 0 ≤ Xi T14 904 15 ∧ Xi T14 904 15 ≤ 300 := hHT14.c _ _
      have w563 : 0 ≤ Xi T14 904 16 ∧ Xi T14 904 16 ≤ 16 := hHT14.c _ _
      have w564 : 0 ≤ Xi T14 904 18 ∧ Xi T14 904 18 ≤ 8 := hHT14.c _ _
      have w565 : 0 ≤ Xi T14 904 19 ∧ Xi T14 904 19 ≤ 24 := hHT14.c _ _
      have w566 : 0 ≤ Xi T14 904 23 ∧ Xi T14 904 23 ≤ 24 := hHT14.c _ _
      have w567 : 0 ≤ Xi T14 904 30 ∧ Xi T14 904 30 ≤ 64 := hHT14.c _ _
      have w568 : 0 ≤ Xi T14 904 32 ∧ Xi T14 904 32 ≤ 12 := hHT14.c _ _
      have w569 : 0 ≤ Xi T14 904 41 ∧ Xi T14 904 41 ≤ 6 := hHT14.c _ _
      have w570 : 0 ≤ Xi T14 904 47 ∧ Xi T14 904 47 ≤ 8 := hHT14.c _ _
      have w571 : 0 ≤ Xi T14 904 49 ∧ Xi T14 904 49 ≤ 12 := hHT14.c _ _
      have w572 : 0 ≤ Xi T14 904 51 ∧ Xi T14 904 51 ≤ 200 := hHT14.c _ _
      have w573 : 0 ≤ Xi T14 904 55 ∧ Xi T14 904 55 ≤ 20 := hHT14.c _ _
      have w574 : -1 ≤ Xi T14 904 60 ∧ Xi T14 904 60 ≤ 23 := hHT14.c _ _
      refine l_aload_n rfl rfl ?_
      refine l_bipush rfl rfl ?_
      refine l_iload_n rfl rfl ?_
      refine l_iload_n rfl rfl ?_
      refine l_if_ne rfl rfl (by unfold rg; omega) (fun w575 => ?_) (fun w576 => ?_)
      · refine l_iload_n rfl rfl ?_
        refine l_iconst rfl ?_
        refine l_icmp_ne rfl rfl (by unfold rg; omega) (by unfold rg; omega) (fun w577 => ?_) (fun w578 => ?_)
        · refine l_iload_n rfl rfl ?_
          refine l_iconst rfl ?_
          refine l_icmp_ne rfl rfl (by unfold rg; omega) (by unfold rg; omega) (fun w579 => ?_) (fun w580 => ?_)
          · refine l_iload_n rfl rfl ?_
            refine l_iconst rfl ?_
            refine l_icmp_ne rfl rfl (by unfold rg; omega) (by unfold rg; omega) (fun w581 => ?_) (fun w582 => ?_)
            · refine l_ldcwR (i := 57) rfl rfl ?_
              refine l_callV rfl rfl rfl (t_mo_tellWord hHT14 11 v1 57 _ ⟨by omega, by omega⟩ ⟨by omega, by omega⟩ rfl (by first | assumption | omega) _) ?_
              rintro _ T15 ⟨hHT15, w601, rfl, w599, e395, k395⟩
              have hFT15 : FR md_mo_begin S T15 := FR.tr hFT14 w601 rfl
              show Rl _ _ _ _ _ [] _ _
              have f395_49 : Xi T15 904 49 = Xi T14 904 49 := (by assumption : FR md_mo_tellWord T14 T15).x 904 49 rfl
              have M395 : LXM T15 := lxm_gr M345 k395 (GR_FR (by assumption : FR md_mo_tellWord T14 T15) rfl GR.rf) (by omega) (Or.inr ⟨by omega, by rw [e395.1, e395.2, cM11]; omega⟩)
              clear k395 e395
              refine l_iinc rfl rfl rfl rfl ?_
              refine l_goto rfl rfl ?_
              have w602 : Xi T15 904 117 = Xi T14 904 117 := (show Xi T15 904 117 = Xi T14 904 117 from w601.x _ _ rfl)
              have w604 : Xi T15 904 125 = Xi T14 904 125 := (show Xi T15 904 125 = Xi T14 904 125 from w601.x _ _ rfl)
              have w606 : Xi T15 904 130 = Xi T14 904 130 := (show Xi T15 904 130 = Xi T14 904 130 from w601.x _ _ rfl)
              have w608 : 0 ≤ Xi T15 904 15 ∧ Xi T15 904 15 ≤ 300 := hHT15.c _ _
              have w609 : Xi T15 904 16 = Xi T14 904 16 := (show Xi T15 904 16 = Xi T14 904 16 from w601.x _ _ rfl)
              have w611 : Xi T15 904 18 = Xi T14 904 18 := (show Xi T15 904 18 = Xi T14 904 18 from w601.x _ _ rfl)
              have w613 : Xi T15 904 19 = Xi T14 904 19 := (show Xi T15 904 19 = Xi T14 904 19 from w601.x _ _ rfl)
              have w615 : Xi T15 904 23 = Xi T14 904 23 := (show Xi T15 904 23 = Xi T14 904 23 from w601.x _ _ rfl)
              have w617 : Xi T15 904 30 = Xi T14 904 30 := (show Xi T15 904 30 = Xi T14 904 30 from w601.x _ _ rfl)
              have w619 : Xi T15 904 32 = Xi T14 904 32 := (show Xi T15 904 32 = Xi T14 904 32 from w601.x _ _ rfl)
              have w621 : Xi T15 904 41 = Xi T14 904 41 := (show Xi T15 904 41 = Xi T14 904 41 from w601.x _ _ rfl)
              have w623 : Xi T15 904 47 = Xi T14 904 47 := (show Xi T15 904 47 = Xi T14 904 47 from w601.x _ _ rfl)
              have w625 : Xi T15 904 49 = Xi T14 904 49 := (show Xi T15 904 49 = Xi T14 904 49 from w601.x _ _ rfl)
              have w627 : Xi T15 904 51 = Xi T14 904 51 := (show Xi T15 904 51 = Xi T14 904 51 from w601.x _ _ rfl)
              have w629 : Xi T15 904 55 = Xi T14 904 55 := (show Xi T15 904 55 = Xi T14 904 55 from w601.x _ _ rfl)
              have w631 : Xi T15 904 60 = Xi T14 904 60 := (show Xi T15 904 60 = Xi T14 904 60 from w601.x _ _ rfl)
              exact Rl_weak (ih316 _ (by omega) T15 hHT15 hFT15 ((v1 + 1)) (by omega) (by omega) (by omega) (by omega) (by omega) (by omega) (by omega) (by omega) (by omega) (by omega) (by omega) (by omega) (by omega) (by omega) (by omega) (by omega) (by omega) (by omega) (by first | assumption | exact (ABV_FR w601 rfl (by assumption : ABV T14))) (by first | assumption | exact (WYM_FR w601 rfl (by assumption : WYM T14))) (by first | assumption | exact (TXM_FR w601 rfl (by assumption : TXM T14))) (by first | exact M395 | exact M314) (by first | exact D314 | exact (fun a ha => by rw [((by assumption : FR md_mo_tellWord T14 T15).cx 922 rfl a).1, ((by assumption : FR md_mo_tellWord T14 T15).cx 924 rfl a).1]; exact D345 a ha)) (by first | exact fun j hj => absurd hj (by omega) | exact fun j hj => ((by assumption : FR md_mo_tellWord T14 T15).cx 942 rfl j).1.trans (K345 j hj)) rfl) (And.intro rfl (And.intro rfl (True.intro)))
            · refine l_ldcwR (i := 56) rfl rfl ?_
              refine l_goto rfl rfl ?_
              refine l_callV rfl rfl rfl (t_mo_tellWord hHT14 11 v1 56 _ ⟨by omega, by omega⟩ ⟨by omega, by omega⟩ rfl (by first | assumption | omega) _) ?_
              rintro _ T16 ⟨hHT16, w651, rfl, w649, e395, k395⟩
              have hFT16 : FR md_mo_begin S T16 := FR.tr hFT14 w651 rfl
              show Rl _ _ _ _ _ [] _ _
              have f395_49 : Xi T16 904 49 = Xi T14 904 49 := (by assumption : FR md_mo_tellWord T14 T16).x 904 49 rfl
              have M395 : LXM T16 := lxm_gr M345 k395 (GR_FR (by assumption : FR md_mo_tellWord T14 T16) rfl GR.rf) (by omega) (Or.inr ⟨by omega, by rw [e395.1, e395.2, cM11]; omega⟩)
              clear k395 e395
              refine l_iinc rfl rfl rfl rfl ?_
              refine l_goto rfl rfl ?_
              have w652 : Xi T16 904 117 = Xi T14 904 117 := (show Xi T16 904 117 = Xi T14 904 117 from w651.x _ _ rfl)
              have w654 : Xi T16 904 125 = Xi T14 904 125 := (show Xi T16 904 125 = Xi T14 904 125 from w651.x _ _ rfl)
              have w656 : Xi T16 904 130 = Xi T14 904 130 := (show Xi T16 904 130 = Xi T14 904 130 from w651.x _ _ rfl)
              have w658 : 0 ≤ Xi T16 904 15 ∧ Xi T16 904 15 ≤ 300 := hHT16.c _ _
              have w659 : Xi T16 904 16 = Xi T14 904 16 := (show Xi T16 904 16 = Xi T14 904 16 from w651.x _ _ rfl)
              have w661 : Xi T16 904 18 = Xi T14 904 18 := (show Xi T16 904 18 = Xi T14 904 18 from w651.x _ _ rfl)
              have w663 : Xi T16 904 19 = Xi T14 904 19 := (show Xi T16 904 19 = Xi T14 904 19 from w651.x _ _ rfl)
              have w665 : Xi T16 904 23 = Xi T14 904 23 := (show Xi T16 904 23 = Xi T14 904 23 from w651.x _ _ rfl)
              have w667 : Xi T16 904 30 = Xi T14 904 30 := (show Xi T16 904 30 = Xi T14 904 30 from w651.x _ _ rfl)
              have w669 : Xi T16 904 32 = Xi T14 904 32 := (show Xi T16 904 32 = Xi T14 904 32 from w651.x _ _ rfl)
              have w671 : Xi T16 904 41 = Xi T14 904 41 := (show Xi T16 904 41 = Xi T14 904 41 from w651.x _ _ rfl)
              have w673 : Xi T16 904 47 = Xi T14 904 47 := (show Xi T16 904 47 = Xi T14 904 47 from w651.x _ _ rfl)
              have w675 : Xi T16 904 49 = Xi T14 904 49 := (show Xi T16 904 49 = Xi T14 904 49 from w651.x _ _ rfl)
              have w677 : Xi T16 904 51 = Xi T14 904 51 := (show Xi T16 904 51 = Xi T14 904 51 from w651.x _ _ rfl)
              have w679 : Xi T16 904 55 = Xi T14 904 55 := (show Xi T16 904 55 = Xi T14 904 55 from w651.x _ _ rfl)
              have w681 : Xi T16 904 60 = Xi T14 904 60 := (show Xi T16 904 60 = Xi T14 904 60 from w651.x _ _ rfl)
              exact Rl_weak (ih316 _ (by omega) T16 hHT16 hFT16 ((v1 + 1)) (by omega) (by omega) (by omega) (by omega) (by omega) (by omega) (by omega) (by omega) (by omega) (by omega) (by omega) (by omega) (by omega) (by omega) (by omega) (by omega) (by omega) (by omega) (by first | assumption | exact (ABV_FR w651 rfl (by assumption : ABV T14))) (by first | assumption | exact (WYM_FR w651 rfl (by assumption : WYM T14))) (by first | assumption | exact (TXM_FR w651 rfl (by assumption : TXM T14))) (by first | exact M395 | exact M314) (by first | exact D314 | exact (fun a ha => by rw [((by assumption : FR md_mo_tellWord T14 T16).cx 922 rfl a).1, ((by assumption : FR md_mo_tellWord T14 T16).cx 924 rfl a).1]; exact D345 a ha)) (by first | exact fun j hj => absurd hj (by omega) | exact fun j hj => ((by assumption : FR md_mo_tellWord T14 T16).cx 942 rfl j).1.trans (K345 j hj)) rfl) (And.intro rfl (And.intro rfl (True.intro)))
          · refine l_ldcwR (i := 55) rfl rfl ?_
            refine l_goto rfl rfl ?_
            refine l_callV rfl rfl rfl (t_mo_tellWord hHT14 11 v1 55 _ ⟨by omega, by omega⟩ ⟨by omega, by omega⟩ rfl (by first | assumption | omega) _) ?_
            rintro _ T17 ⟨hHT17, w701, rfl, w699, e395, k395⟩
            have hFT17 : FR md_mo_begin S T17 := FR.tr hFT14 w701 rfl
            show Rl _ _ _ _ _ [] _ _
            have f395_49 : Xi T17 904 49 = Xi T14 904 49 := (by assumption : FR md_mo_tellWord T14 T17).x 904 49 rfl
            have M395 : LXM T17 := lxm_gr M345 k395 (GR_FR (by assumption : FR md_mo_tellWord T14 T17) rfl GR.rf) (by omega) (Or.inr ⟨by omega, by rw [e395.1, e395.2, cM11]; omega⟩)
            clear k395 e395
            refine l_iinc rfl rfl rfl rfl ?_
            refine l_goto rfl rfl ?_
            have w702 : Xi T17 904 117 = Xi T14 904 117 := (show Xi T17 904 117 = Xi T14 904 117 from w701.x _ _ rfl)
            have w704 : Xi T17 904 125 = Xi T14 904 125 := (show Xi T17 904 125 = Xi T14 904 125 from w701.x _ _ rfl)
            have w706 : Xi T17 904 130 = Xi T14 904 130 := (show Xi T17 904 130 = Xi T14 904 130 from w701.x _ _ rfl)
            have w708 : 0 ≤ Xi T17 904 15 ∧ Xi T17 904 15 ≤ 300 := hHT17.c _ _
            have w709 : Xi T17 904 16 = Xi T14 904 16 := (show Xi T17 904 16 = Xi T14 904 16 from w701.x _ _ rfl)
            have w711 : Xi T17 904 18 = Xi T14 904 18 := (show Xi T17 904 18 = Xi T14 904 18 from w701.x _ _ rfl)
            have w713 : Xi T17 904 19 = Xi T14 904 19 := (show Xi T17 904 19 = Xi T14 904 19 from w701.x _ _ rfl)
            have w715 : Xi T17 904 23 = Xi T14 904 23 := (show Xi T17 904 23 = Xi T14 904 23 from w701.x _ _ rfl)
            have w717 : Xi T17 904 30 = Xi T14 904 30 := (show Xi T17 904 30 = Xi T14 904 30 from w701.x _ _ rfl)
            have w719 : Xi T17 904 32 = Xi T14 904 32 := (show Xi T17 904 32 = Xi T14 904 32 from w701.x _ _ rfl)
            have w721 : Xi T17 904 41 = Xi T14 904 41 := (show Xi T17 904 41 = Xi T14 904 41 from w701.x _ _ rfl)
            have w723 : Xi T17 904 47 = Xi T14 904 47 := (show Xi T17 904 47 = Xi T14 904 47 from w701.x _ _ rfl)
            have w725 : Xi T17 904 49 = Xi T14 904 49 := (show Xi T17 904 49 = Xi T14 904 49 from w701.x _ _ rfl)
            have w727 : Xi T17 904 51 = Xi T14 904 51 := (show Xi T17 904 51 = Xi T14 904 51 from w701.x _ _ rfl)
            have w729 : Xi T17 904 55 = Xi T14 904 55 := (show Xi T17 904 55 = Xi T14 904 55 from w701.x _ _ rfl)
            have w731 : Xi T17 904 60 = Xi T14 904 60 := (show Xi T17 904 60 = Xi T14 904 60 from w701.x _ _ rfl)
            exact Rl_weak (ih316 _ (by omega) T17 hHT17 hFT17 ((v1 + 1)) (by omega) (by omega) (by omega) (by omega) (by omega) (by omega) (by omega) (by omega) (by omega) (by omega) (by omega) (by omega) (by omega) (by omega) (by omega) (by omega) (by omega) (by omega) (by first | assumption | exact (ABV_FR w701 rfl (by assumption : ABV T14))) (by first | assumption | exact (WYM_FR w701 rfl (by assumption : WYM T14))) (by first | assumption | exact (TXM_FR w701 rfl (by assumption : TXM T14))) (by first | exact M395 | exact M314) (by first | exact D314 | exact (fun a ha => by rw [((by assumption : FR md_mo_tellWord T14 T17).cx 922 rfl a).1, ((by assumption : FR md_mo_tellWord T14 T17).cx 924 rfl a).1]; exact D345 a ha)) (by first | exact fun j hj => absurd hj (by omega) | exact fun j hj => ((by assumption : FR md_mo_tellWord T14 T17).cx 942 rfl j).1.trans (K345 j hj)) rfl) (And.intro rfl (And.intro rfl (True.intro)))
        · refine l_ldcwR (i := 54) rfl rfl ?_
          refine l_goto rfl rfl ?_
          refine l_callV rfl rfl rfl (t_mo_tellWord hHT14 11 v1 54 _ ⟨by omega, by omega⟩ ⟨by omega, by omega⟩ rfl (by first | assumption | omega) _) ?_
          rintro _ T18 ⟨hHT18, w751, rfl, w749, e395, k395⟩
          have hFT18 : FR md_mo_begin S T18 := FR.tr hFT14 w751 rfl
          show Rl _ _ _ _ _ [] _ _
          have f395_49 : Xi T18 904 49 = Xi T14 904 49 := (by assumption : FR md_mo_tellWord T14 T18).x 904 49 rfl
          have M395 : LXM T18 := lxm_gr M345 k395 (GR_FR (by assumption : FR md_mo_tellWord T14 T18) rfl GR.rf) (by omega) (Or.inr ⟨by omega, by rw [e395.1, e395.2, cM11]; omega⟩)
          clear k395 e395
          refine l_iinc rfl rfl rfl rfl ?_
          refine l_goto rfl rfl ?_
          have w752 : Xi T18 904 117 = Xi T14 904 117 := (show Xi T18 904 117 = Xi T14 904 117 from w751.x _ _ rfl)
          have w754 : Xi T18 904 125 = Xi T14 904 125 := (show Xi T18 904 125 = Xi T14 904 125 from w751.x _ _ rfl)
          have w756 : Xi T18 904 130 = Xi T14 904 130 := (show Xi T18 904 130 = Xi T14 904 130 from w751.x _ _ rfl)
          have w758 : 0 ≤ Xi T18 904 15 ∧ Xi T18 904 15 ≤ 300 := hHT18.c _ _
          have w759 : Xi T18 904 16 = Xi T14 904 16 := (show Xi T18 904 16 = Xi T14 904 16 from w751.x _ _ rfl)
          have w761 : Xi T18 904 18 = Xi T14 904 18 := (show Xi T18 904 18 = Xi T14 904 18 from w751.x _ _ rfl)
          have w763 : Xi T18 904 19 = Xi T14 904 19 := (show Xi T18 904 19 = Xi T14 904 19 from w751.x _ _ rfl)
          have w765 : Xi T18 904 23 = Xi T14 904 23 := (show Xi T18 904 23 = Xi T14 904 23 from w751.x _ _ rfl)
          have w767 : Xi T18 904 30 = Xi T14 904 30 := (show Xi T18 904 30 = Xi T14 904 30 from w751.x _ _ rfl)
          have w769 : Xi T18 904 32 = Xi T14 904 32 := (show Xi T18 904 32 = Xi T14 904 32 from w751.x _ _ rfl)
          have w771 : Xi T18 904 41 = Xi T14 904 41 := (show Xi T18 904 41 = Xi T14 904 41 from w751.x _ _ rfl)
          have w773 : Xi T18 904 47 = Xi T14 904 47 := (show Xi T18 904 47 = Xi T14 904 47 from w751.x _ _ rfl)
          have w775 : Xi T18 904 49 = Xi T14 904 49 := (show Xi T18 904 49 = Xi T14 904 49 from w751.x _ _ rfl)
          have w777 : Xi T18 904 51 = Xi T14 904 51 := (show Xi T18 904 51 = Xi T14 904 51 from w751.x _ _ rfl)
          have w779 : Xi T18 904 55 = Xi T14 904 55 := (show Xi T18 904 55 = Xi T14 904 55 from w751.x _ _ rfl)
          have w781 : Xi T18 904 60 = Xi T14 904 60 := (show Xi T18 904 60 = Xi T14 904 60 from w751.x _ _ rfl)
          exact Rl_weak (ih316 _ (by omega) T18 hHT18 hFT18 ((v1 + 1)) (by omega) (by omega) (by omega) (by omega) (by omega) (by omega) (by omega) (by omega) (by omega) (by omega) (by omega) (by omega) (by omega) (by omega) (by omega) (by omega) (by omega) (by omega) (by first | assumption | exact (ABV_FR w751 rfl (by assumption : ABV T14))) (by first | assumption | exact (WYM_FR w751 rfl (by assumption : WYM T14))) (by first | assumption | exact (TXM_FR w751 rfl (by assumption : TXM T14))) (by first | exact M395 | exact M314) (by first | exact D314 | exact (fun a ha => by rw [((by assumption : FR md_mo_tellWord T14 T18).cx 922 rfl a).1, ((by assumption : FR md_mo_tellWord T14 T18).cx 924 rfl a).1]; exact D345 a ha)) (by first | exact fun j hj => absurd hj (by omega) | exact fun j hj => ((by assumption : FR md_mo_tellWord T14 T18).cx 942 rfl j).1.trans (K345 j hj)) rfl) (And.intro rfl (And.intro rfl (True.intro)))
      · refine l_ldcwR (i := 53) rfl rfl ?_
        refine l_goto rfl rfl ?_
        refine l_callV rfl rfl rfl (t_mo_tellWord hHT14 11 v1 53 _ ⟨by omega, by omega⟩ ⟨by omega, by omega⟩ rfl (by first | assumption | omega) _) ?_
        rintro _ T19 ⟨hHT19, w801, rfl, w799, e395, k395⟩
        have hFT19 : FR md_mo_begin S T19 := FR.tr hFT14 w801 rfl
        show Rl _ _ _ _ _ [] _ _
        have f395_49 : Xi T19 904 49 = Xi T14 904 49 := (by assumption : FR md_mo_tellWord T14 T19).x 904 49 rfl
        have M395 : LXM T19 := lxm_gr M345 k395 (GR_FR (by assumption : FR md_mo_tellWord T14 T19) rfl GR.rf) (by omega) (Or.inr ⟨by omega, by rw [e395.1, e395.2, cM11]; omega⟩)
        clear k395 e395
        refine l_iinc rfl rfl rfl rfl ?_
        refine l_goto rfl rfl ?_
        have w802 : Xi T19 904 117 = Xi T14 904 117 := (show Xi T19 904 117 = Xi T14 904 117 from w801.x _ _ rfl)
        have w804 : Xi T19 904 125 = Xi T14 904 125 := (show Xi T19 904 125 = Xi T14 904 125 from w801.x _ _ rfl)
        have w806 : Xi T19 904 130 = Xi T14 904 130 := (show Xi T19 904 130 = Xi T14 904 130 from w801.x _ _ rfl)
        have w808 : 0 ≤ Xi T19 904 15 ∧ Xi T19 904 15 ≤ 300 := hHT19.c _ _
        have w809 : Xi T19 904 16 = Xi T14 904 16 := (show Xi T19 904 16 = Xi T14 904 16 from w801.x _ _ rfl)
        have w811 : Xi T19 904 18 = Xi T14 904 18 := (show Xi T19 904 18 = Xi T14 904 18 from w801.x _ _ rfl)
        have w813 : Xi T19 904 19 = Xi T14 904 19 := (show Xi T19 904 19 = Xi T14 904 19 from w801.x _ _ rfl)
        have w815 : Xi T19 904 23 = Xi T14 904 23 := (show Xi T19 904 23 = Xi T14 904 23 from w801.x _ _ rfl)
        have w817 : Xi T19 904 30 = Xi T14 904 30 := (show Xi T19 904 30 = Xi T14 904 30 from w801.x _ _ rfl)
        have w819 : Xi T19 904 32 = Xi T14 904 32 := (show Xi T19 904 32 = Xi T14 904 32 from w801.x _ _ rfl)
        have w821 : Xi T19 904 41 = Xi T14 904 41 := (show Xi T19 904 41 = Xi T14 904 41 from w801.x _ _ rfl)
        have w823 : Xi T19 904 47 = Xi T14 904 47 := (show Xi T19 904 47 = Xi T14 904 47 from w801.x _ _ rfl)
        have w825 : Xi T19 904 49 = Xi T14 904 49 := (show Xi T19 904 49 = Xi T14 904 49 from w801.x _ _ rfl)
        have w827 : Xi T19 904 51 = Xi T14 904 51 := (show Xi T19 904 51 = Xi T14 904 51 from w801.x _ _ rfl)
        have w829 : Xi T19 904 55 = Xi T14 904 55 := (show Xi T19 904 55 = Xi T14 904 55 from w801.x _ _ rfl)
        have w831 : Xi T19 904 60 = Xi T14 904 60 := (show Xi T19 904 60 = Xi T14 904 60 from w801.x _ _ rfl)
        exact Rl_weak (ih316 _ (by omega) T19 hHT19 hFT19 ((v1 + 1)) (by omega) (by omega) (by omega) (by omega) (by omega) (by omega) (by omega) (by omega) (by omega) (by omega) (by omega) (by omega) (by omega) (by omega) (by omega) (by omega) (by omega) (by omega) (by first | assumption | exact (ABV_FR w801 rfl (by assumption : ABV T14))) (by first | assumption | exact (WYM_FR w801 rfl (by assumption : WYM T14))) (by first | assumption | exact (TXM_FR w801 rfl (by assumption : TXM T14))) (by first | exact M395 | exact M314) (by first | exact D314 | exact (fun a ha => by rw [((by assumption : FR md_mo_tellWord T14 T19).cx 922 rfl a).1, ((by assumption : FR md_mo_tellWord T14 T19).cx 924 rfl a).1]; exact D345 a ha)) (by first | exact fun j hj => absurd hj (by omega) | exact fun j hj => ((by assumption : FR md_mo_tellWord T14 T19).cx 942 rfl j).1.trans (K345 j hj)) rfl) (And.intro rfl (And.intro rfl (True.intro)))
    refine l_iload_n rfl rfl ?_
    refine l_iconst rfl ?_
    refine l_icmp_ge rfl rfl (by unfold rg; omega) (by unfold rg; omega) (fun w833 => ?_) (fun w834 => ?_)
    · refine l_iconst rfl ?_
      refine l_istore_n rfl rfl rfl ?_
      exact Rl_weak (C406 _ T13 hHT13 hFT13 (0) (by omega) (by omega) (by omega) (by omega) (by omega) (by omega) (by omega) (by omega) (by omega) (by omega) (by omega) (by omega) (by omega) (by omega) (by omega) (by omega) (by omega) (by omega) (by first | assumption | exact (by assumption : ABV T13)) (by first | assumption | exact (by assumption : WYM T13)) (by first | assumption | exact (by assumption : TXM T13)) (by first | exact M420 | exact M316) (by first | exact D316 | exact (fun a ha => by rw [((by assumption : FR md_mo_tellWord T13 T13).cx 922 rfl a).1, ((by assumption : FR md_mo_tellWord T13 T13).cx 924 rfl a).1]; exact D406 a ha)) (by first | exact fun j hj => K316 j (by omega) | exact fun j hj => ((by assumption : FR md_mo_tellWord T13 T13).cx 942 rfl j).1.trans (K406 j hj)) rfl) (And.intro rfl (And.intro rfl (True.intro)))
    · refine l_aload_n rfl rfl ?_
      refine l_iload_n rfl rfl ?_
      refine l_if_ne rfl rfl (by unfold rg; omega) (fun w851 => ?_) (fun w852 => ?_)
      · refine l_iload_n rfl rfl ?_
        refine l_iconst rfl ?_
        refine l_icmp_ne rfl rfl (by unfold rg; omega) (by unfold rg; omega) (fun w853 => ?_) (fun w854 => ?_)
        · refine l_iconst rfl ?_
          refine l_callV rfl rfl rfl (t_mo_addAction hHT13 0 ⟨by omega, by omega⟩ (by first | assumption | omega) _) ?_
          rintro _ T20 ⟨hHT20, w874, z873, rfl, w873, w871, w872, k341⟩
          have hFT20 : FR md_mo_begin S T20 := FR.tr hFT13 w874 rfl
          show Rl _ _ _ _ _ [iv z873] _ _
          have A341 : ∀ j : Nat, (j : Int) < v1 + 1 → Xi T20 942 j = akF j := fun j hj => (Int.lt_or_le (j : Int) v1).elim (fun h => (k341.2 j (by omega)).trans (K316 j h)) (fun h => by have t := k341.1; rw [show (Xi T13 904 49).toNat = j by omega] at t; rw [t]; unfold akF; first | rw [if_pos (by omega)] | rw [if_neg (by omega), if_pos (by omega)] | rw [if_neg (by omega), if_neg (by omega)])
          have M341 : LXM T20 := lxm_gr M316 (LXK_FR (by assumption : FR md_mo_addAction T13 T20) rfl) (gr_m GR.rf (Int.le_of_eq ((by assumption : FR md_mo_addAction T13 T20).x 904 16 rfl).symm) (Int.le_of_eq ((by assumption : FR md_mo_addAction T13 T20).x 904 18 rfl).symm) (Int.le_of_eq ((by assumption : FR md_mo_addAction T13 T20).x 904 19 rfl).symm) (Int.le_of_eq ((by assumption : FR md_mo_addAction T13 T20).x 904 23 rfl).symm) (Int.le_of_eq ((by assumption : FR md_mo_addAction T13 T20).x 904 30 rfl).symm) (Int.le_of_eq ((by assumption : FR md_mo_addAction T13 T20).x 904 32 rfl).symm) (Int.le_of_eq ((by assumption : FR md_mo_addAction T13 T20).x 904 41 rfl).symm) (Int.le_of_eq ((by assumption : FR md_mo_addAction T13 T20).x 904 47 rfl).symm) (by omega) (fun i _ => ⟨((by assumption : FR md_mo_addAction T13 T20).cx 922 rfl i).1, ((by assumption : FR md_mo_addAction T13 T20).cx 923 rfl i).1, ((by assumption : FR md_mo_addAction T13 T20).cx 924 rfl i).1⟩) (fun i _ => ((by assumption : FR md_mo_addAction T13 T20).cx 928 rfl i).1) (fun i hi => k341.2 i hi)) (by omega) (Or.inl ((by assumption : FR md_mo_addAction T13 T20).x 904 15 rfl))
          refine l_pop rfl rfl ?_
          have w875 : Xi T20 904 117 = Xi T13 904 117 := (show Xi T20 904 117 = Xi T13 904 117 from w874.x _ _ rfl)
          have w877 : Xi T20 904 125 = Xi T13 904 125 := (show Xi T20 904 125 = Xi T13 904 125 from w874.x _ _ rfl)
          have w879 : Xi T20 904 130 = Xi T13 904 130 := (show Xi T20 904 130 = Xi T13 904 130 from w874.x _ _ rfl)
          have w881 : Xi T20 904 15 = Xi T13 904 15 := (show Xi T20 904 15 = Xi T13 904 15 from w874.x _ _ rfl)
          have w883 : Xi T20 904 16 = Xi T13 904 16 := (show Xi T20 904 16 = Xi T13 904 16 from w874.x _ _ rfl)
          have w885 : Xi T20 904 18 = Xi T13 904 18 := (show Xi T20 904 18 = Xi T13 904 18 from w874.x _ _ rfl)
          have w887 : Xi T20 904 19 = Xi T13 904 19 := (show Xi T20 904 19 = Xi T13 904 19 from w874.x _ _ rfl)
          have w889 : Xi T20 904 23 = Xi T13 904 23 := (show Xi T20 904 23 = Xi T13 904 23 from w874.x _ _ rfl)
          have w891 : Xi T20 904 30 = Xi T13 904 30 := (show Xi T20 904 30 = Xi T13 904 30 from w874.x _ _ rfl)
          have w893 : Xi T20 904 32 = Xi T13 904 32 := (show Xi T20 904 32 = Xi T13 904 32 from w874.x _ _ rfl)
          have w895 : Xi T20 904 41 = Xi T13 904 41 := (show Xi T20 904 41 = Xi T13 904 41 from w874.x _ _ rfl)
          have w897 : Xi T20 904 47 = Xi T13 904 47 := (show Xi T20 904 47 = Xi T13 904 47 from w874.x _ _ rfl)
          have w899 : 0 ≤ Xi T20 904 49 ∧ Xi T20 904 49 ≤ 12 := hHT20.c _ _
          have w900 : Xi T20 904 51 = Xi T13 904 51 := (show Xi T20 904 51 = Xi T13 904 51 from w874.x _ _ rfl)
          have w902 : Xi T20 904 55 = Xi T13 904 55 := (show Xi T20 904 55 = Xi T13 904 55 from w874.x _ _ rfl)
          have w904 : Xi T20 904 60 = Xi T13 904 60 := (show Xi T20 904 60 = Xi T13 904 60 from w874.x _ _ rfl)
          exact Rl_weak (C345 T20 hHT20 hFT20 (v1) (by omega) (by omega) (by omega) (by omega) (by omega) (by omega) (by omega) (by omega) (by omega) (by omega) (by omega) (by omega) (by omega) (by omega) (by omega) (by omega) (by omega) (by omega) (by first | assumption | exact (ABV_FR w874 rfl (by assumption : ABV T13))) (by first | assumption | exact (WYM_FR w874 rfl (by assumption : WYM T13))) (by first | assumption | exact (TXM_FR w874 rfl (by assumption : TXM T13))) (M341) (fun a ha => by rw [((by assumption : FR md_mo_addAction T13 T20).cx 922 rfl a).1, ((by assumption : FR md_mo_addAction T13 T20).cx 924 rfl a).1]; exact D316 a ha) (A341) (by omega)) (And.intro rfl (And.intro rfl (True.intro)))
        · refine l_bipush rfl rfl ?_
          refine l_goto rfl rfl ?_
          refine l_callV rfl rfl rfl (t_mo_addAction hHT13 (-2) ⟨by omega, by omega⟩ (by first | assumption | omega) _) ?_
          rintro _ T21 ⟨hHT21, w925, z924, rfl, w924, w922, w923, k341⟩
          have hFT21 : FR md_mo_begin S T21 := FR.tr hFT13 w925 rfl
          show Rl _ _ _ _ _ [iv z924] _ _
          have A341 : ∀ j : Nat, (j : Int) < v1 + 1 → Xi T21 942 j = akF j := fun j hj => (Int.lt_or_le (j : Int) v1).elim (fun h => (k341.2 j (by omega)).trans (K316 j h)) (fun h => by have t := k341.1; rw [show (Xi T13 904 49).toNat = j by omega] at t; rw [t]; unfold akF; first | rw [if_pos (by omega)] | rw [if_neg (by omega), if_pos (by omega)] | rw [if_neg (by omega), if_neg (by omega)])
          have M341 : LXM T21 := lxm_gr M316 (LXK_FR (by assumption : FR md_mo_addAction T13 T21) rfl) (gr_m GR.rf (Int.le_of_eq ((by assumption : FR md_mo_addAction T13 T21).x 904 16 rfl).symm) (Int.le_of_eq ((by assumption : FR md_mo_addAction T13 T21).x 904 18 rfl).symm) (Int.le_of_eq ((by assumption : FR md_mo_addAction T13 T21).x 904 19 rfl).symm) (Int.le_of_eq ((by assumption : FR md_mo_addAction T13 T21).x 904 23 rfl).symm) (Int.le_of_eq ((by assumption : FR md_mo_addAction T13 T21).x 904 30 rfl).symm) (Int.le_of_eq ((by assumption : FR md_mo_addAction T13 T21).x 904 32 rfl).symm) (Int.le_of_eq ((by assumption : FR md_mo_addAction T13 T21).x 904 41 rfl).symm) (Int.le_of_eq ((by assumption : FR md_mo_addAction T13 T21).x 904 47 rfl).symm) (by omega) (fun i _ => ⟨((by assumption : FR md_mo_addAction T13 T21).cx 922 rfl i).1, ((by assumption : FR md_mo_addAction T13 T21).cx 923 rfl i).1, ((by assumption : FR md_mo_addAction T13 T21).cx 924 rfl i).1⟩) (fun i _ => ((by assumption : FR md_mo_addAction T13 T21).cx 928 rfl i).1) (fun i hi => k341.2 i hi)) (by omega) (Or.inl ((by assumption : FR md_mo_addAction T13 T21).x 904 15 rfl))
          refine l_pop rfl rfl ?_
          have w926 : Xi T21 904 117 = Xi T13 904 117 := (show Xi T21 904 117 = Xi T13 904 117 from w925.x _ _ rfl)
          have w928 : Xi T21 904 125 = Xi T13 904 125 := (show Xi T21 904 125 = Xi T13 904 125 from w925.x _ _ rfl)
          have w930 : Xi T21 904 130 = Xi T13 904 130 := (show Xi T21 904 130 = Xi T13 904 130 from w925.x _ _ rfl)
          have w932 : Xi T21 904 15 = Xi T13 904 15 := (show Xi T21 904 15 = Xi T13 904 15 from w925.x _ _ rfl)
          have w934 : Xi T21 904 16 = Xi T13 904 16 := (show Xi T21 904 16 = Xi T13 904 16 from w925.x _ _ rfl)
          have w936 : Xi T21 904 18 = Xi T13 904 18 := (show Xi T21 904 18 = Xi T13 904 18 from w925.x _ _ rfl)
          have w938 : Xi T21 904 19 = Xi T13 904 19 := (show Xi T21 904 19 = Xi T13 904 19 from w925.x _ _ rfl)
          have w940 : Xi T21 904 23 = Xi T13 904 23 := (show Xi T21 904 23 = Xi T13 904 23 from w925.x _ _ rfl)
          have w942 : Xi T21 904 30 = Xi T13 904 30 := (show Xi T21 904 30 = Xi T13 904 30 from w925.x _ _ rfl)
          have w944 : Xi T21 904 32 = Xi T13 904 32 := (show Xi T21 904 32 = Xi T13 904 32 from w925.x _ _ rfl)
          have w946 : Xi T21 904 41 = Xi T13 904 41 := (show Xi T21 904 41 = Xi T13 904 41 from w925.x _ _ rfl)
          have w948 : Xi T21 904 47 = Xi T13 904 47 := (show Xi T21 904 47 = Xi T13 904 47 from w925.x _ _ rfl)
          have w950 : 0 ≤ Xi T21 904 49 ∧ Xi T21 904 49 ≤ 12 := hHT21.c _ _
          have w951 : Xi T21 904 51 = Xi T13 904 51 := (show Xi T21 904 51 = Xi T13 904 51 from w925.x _ _ rfl)
          have w953 : Xi T21 904 55 = Xi T13 904 55 := (show Xi T21 904 55 = Xi T13 904 55 from w925.x _ _ rfl)
          have w955 : Xi T21 904 60 = Xi T13 904 60 := (show Xi T21 904 60 = Xi T13 904 60 from w925.x _ _ rfl)
          exact Rl_weak (C345 T21 hHT21 hFT21 (v1) (by omega) (by omega) (by omega) (by omega) (by omega) (by omega) (by omega) (by omega) (by omega) (by omega) (by omega) (by omega) (by omega) (by omega) (by omega) (by omega) (by omega) (by omega) (by first | assumption | exact (ABV_FR w925 rfl (by assumption : ABV T13))) (by first | assumption | exact (WYM_FR w925 rfl (by assumption : WYM T13))) (by first | assumption | exact (TXM_FR w925 rfl (by assumption : TXM T13))) (M341) (fun a ha => by rw [((by assumption : FR md_mo_addAction T13 T21).cx 922 rfl a).1, ((by assumption : FR md_mo_addAction T13 T21).cx 924 rfl a).1]; exact D316 a ha) (A341) (by omega)) (And.intro rfl (And.intro rfl (True.intro)))
      · refine l_iconst rfl ?_
        refine l_goto rfl rfl ?_
        refine l_callV rfl rfl rfl (t_mo_addAction hHT13 (-1) ⟨by omega, by omega⟩ (by first | assumption | omega) _) ?_
        rintro _ T22 ⟨hHT22, w976, z975, rfl, w975, w973, w974, k341⟩
        have hFT22 : FR md_mo_begin S T22 := FR.tr hFT13 w976 rfl
        show Rl _ _ _ _ _ [iv z975] _ _
        have A341 : ∀ j : Nat, (j : Int) < v1 + 1 → Xi T22 942 j = akF j := fun j hj => (Int.lt_or_le (j : Int) v1).elim (fun h => (k341.2 j (by omega)).trans (K316 j h)) (fun h => by have t := k341.1; rw [show (Xi T13 904 49).toNat = j by omega] at t; rw [t]; unfold akF; first | rw [if_pos (by omega)] | rw [if_neg (by omega), if_pos (by omega)] | rw [if_neg (by omega), if_neg (by omega)])
        have M341 : LXM T22 := lxm_gr M316 (LXK_FR (by assumption : FR md_mo_addAction T13 T22) rfl) (gr_m GR.rf (Int.le_of_eq ((by assumption : FR md_mo_addAction T13 T22).x 904 16 rfl).symm) (Int.le_of_eq ((by assumption : FR md_mo_addAction T13 T22).x 904 18 rfl).symm) (Int.le_of_eq ((by assumption : FR md_mo_addAction T13 T22).x 904 19 rfl).symm) (Int.le_of_eq ((by assumption : FR md_mo_addAction T13 T22).x 904 23 rfl).symm) (Int.le_of_eq ((by assumption : FR md_mo_addAction T13 T22).x 904 30 rfl).symm) (Int.le_of_eq ((by assumption : FR md_mo_addAction T13 T22).x 904 32 rfl).symm) (Int.le_of_eq ((by assumption : FR md_mo_addAction T13 T22).x 904 41 rfl).symm) (Int.le_of_eq ((by assumption : FR md_mo_addAction T13 T22).x 904 47 rfl).symm) (by omega) (fun i _ => ⟨((by assumption : FR md_mo_addAction T13 T22).cx 922 rfl i).1, ((by assumption : FR md_mo_addAction T13 T22).cx 923 rfl i).1, ((by assumption : FR md_mo_addAction T13 T22).cx 924 rfl i).1⟩) (fun i _ => ((by assumption : FR md_mo_addAction T13 T22).cx 928 rfl i).1) (fun i hi => k341.2 i hi)) (by omega) (Or.inl ((by assumption : FR md_mo_addAction T13 T22).x 904 15 rfl))
        refine l_pop rfl rfl ?_
        have w977 : Xi T22 904 117 = Xi T13 904 117 := (show Xi T22 904 117 = Xi T13 904 117 from w976.x _ _ rfl)
        have w979 : Xi T22 904 125 = Xi T13 904 125 := (show Xi T22 904 125 = Xi T13 904 125 from w976.x _ _ rfl)
        have w981 : Xi T22 904 130 = Xi T13 904 130 := (show Xi T22 904 130 = Xi T13 904 130 from w976.x _ _ rfl)
        have w983 : Xi T22 904 15 = Xi T13 904 15 := (show Xi T22 904 15 = Xi T13 904 15 from w976.x _ _ rfl)
        have w985 : Xi T22 904 16 = Xi T13 904 16 := (show Xi T22 904 16 = Xi T13 904 16 from w976.x _ _ rfl)
        have w987 : Xi T22 904 18 = Xi T13 904 18 := (show Xi T22 904 18 = Xi T13 904 18 from w976.x _ _ rfl)
        have w989 : Xi T22 904 19 = Xi T13 904 19 := (show Xi T22 904 19 = Xi T13 904 19 from w976.x _ _ rfl)
        have w991 : Xi T22 904 23 = Xi T13 904 23 := (show Xi T22 904 23 = Xi T13 904 23 from w976.x _ _ rfl)
        have w993 : Xi T22 904 30 = Xi T13 904 30 := (show Xi T22 904 30 = Xi T13 904 30 from w976.x _ _ rfl)
        have w995 : Xi T22 904 32 = Xi T13 904 32 := (show Xi T22 904 32 = Xi T13 904 32 from w976.x _ _ rfl)
        have w997 : Xi T22 904 41 = Xi T13 904 41 := (show Xi T22 904 41 = Xi T13 904 41 from w976.x _ _ rfl)
        have w999 : Xi T22 904 47 = Xi T13 904 47 := (show Xi T22 904 47 = Xi T13 904 47 from w976.x _ _ rfl)
        have w1001 : 0 ≤ Xi T22 904 49 ∧ Xi T22 904 49 ≤ 12 := hHT22.c _ _
        have w1002 : Xi T22 904 51 = Xi T13 904 51 := (show Xi T22 904 51 = Xi T13 904 51 from w976.x _ _ rfl)
        have w1004 : Xi T22 904 55 = Xi T13 904 55 := (show Xi T22 904 55 = Xi T13 904 55 from w976.x _ _ rfl)
        have w1006 : Xi T22 904 60 = Xi T13 904 60 := (show Xi T22 904 60 = Xi T13 904 60 from w976.x _ _ rfl)
        exact Rl_weak (C345 T22 hHT22 hFT22 (v1) (by omega) (by omega) (by omega) (by omega) (by omega) (by omega) (by omega) (by omega) (by omega) (by omega) (by omega) (by omega) (by omega) (by omega) (by omega) (by omega) (by omega) (by omega) (by first | assumption | exact (ABV_FR w976 rfl (by assumption : ABV T13))) (by first | assumption | exact (WYM_FR w976 rfl (by assumption : WYM T13))) (by first | assumption | exact (TXM_FR w976 rfl (by assumption : TXM T13))) (M341) (fun a ha => by rw [((by assumption : FR md_mo_addAction T13 T22).cx 922 rfl a).1, ((by assumption : FR md_mo_addAction T13 T22).cx 924 rfl a).1]; exact D316 a ha) (A341) (by omega)) (And.intro rfl (And.intro rfl (True.intro)))
set_option maxRecDepth 100000 in
set_option maxHeartbeats 4000000 in
theorem c314_mo_begin {S : sS} (hH : HI S) (hB : ABV S) (hW : WYM S) (d : Nat) : ∀  (T23 : sS) (_ : HI T23) (_ : FR md_mo_begin S T23), (Xi T23 904 16 = 5) → (Xi T23 904 18 = 2) → (Xi T23 904 19 = 1) → (Xi T23 904 23 = 2) → (Xi T23 904 30 = 0) → (Xi T23 904 32 = 1) → (Xi T23 904 41 = 0) → (Xi T23 904 47 = 0) → (Xi T23 904 49 = 0) → (Xi T23 904 51 = 0) → (Xi T23 904 55 = 0) → (Xi T23 904 60 = -1) → (Xi T23 904 117 = 0) → (Xi T23 904 125 = 0) → (Xi T23 904 130 = 0) → (Xi T23 904 15 = 16) → (ABV T23) → (WYM T23) → (TXM T23) → (LXM T23) → (∀ a : Nat, (a : Int) < 2 → Xi T23 922 a ≠ -1 ∧ Xi T23 924 a = 0) → Rl lay0 (d + 5) m_mo_begin 314 [(0, .ref 904)] [] T23 (Q_mo_begin S) := by
  have C316 := c316_mo_begin hH hB hW d 
  have hF : FR md_mo_begin S S := FR.rf
  have w1 : 0 ≤ Xi S 904 117 ∧ Xi S 904 117 ≤ 480 := hH.c _ _
  have w2 : 0 ≤ Xi S 904 125 ∧ Xi S 904 125 ≤ 192 := hH.c _ _
  have w3 : 0 ≤ Xi S 904 130 ∧ Xi S 904 130 ≤ 24 := hH.c _ _
  have w4 : 0 ≤ Xi S 904 15 ∧ Xi S 904 15 ≤ 300 := hH.c _ _
  have w5 : 0 ≤ Xi S 904 16 ∧ Xi S 904 16 ≤ 16 := hH.c _ _
  have w6 : 0 ≤ Xi S 904 18 ∧ Xi S 904 18 ≤ 8 := hH.c _ _
  have w7 : 0 ≤ Xi S 904 19 ∧ Xi S 904 19 ≤ 24 := hH.c _ _
  have w8 : 0 ≤ Xi S 904 23 ∧ Xi S 904 23 ≤ 24 := hH.c _ _
  have w9 : 0 ≤ Xi S 904 30 ∧ Xi S 904 30 ≤ 64 := hH.c _ _
  have w10 : 0 ≤ Xi S 904 32 ∧ Xi S 904 32 ≤ 12 := hH.c _ _
  have w11 : 0 ≤ Xi S 904 41 ∧ Xi S 904 41 ≤ 6 := hH.c _ _
  have w12 : 0 ≤ Xi S 904 47 ∧ Xi S 904 47 ≤ 8 := hH.c _ _
  have w13 : 0 ≤ Xi S 904 49 ∧ Xi S 904 49 ≤ 12 := hH.c _ _
  have w14 : 0 ≤ Xi S 904 51 ∧ Xi S 904 51 ≤ 200 := hH.c _ _
  have w15 : 0 ≤ Xi S 904 55 ∧ Xi S 904 55 ≤ 20 := hH.c _ _
  have w16 : -1 ≤ Xi S 904 60 ∧ Xi S 904 60 ≤ 23 := hH.c _ _
  intro T23 hHT23 hFT23 w1008 w1009 w1010 w1011 w1012 w1013 w1014 w1015 w1016 w1017 w1018 w1019 w1020 w1021 w1022 w1023 B314 W314 X314 M314 D314
  have w1024 : 0 ≤ Xi T23 904 117 ∧ Xi T23 904 117 ≤ 480 := hHT23.c _ _
  have w1025 : 0 ≤ Xi T23 904 125 ∧ Xi T23 904 125 ≤ 192 := hHT23.c _ _
  have w1026 : 0 ≤ Xi T23 904 130 ∧ Xi T23 904 130 ≤ 24 := hHT23.c _ _
  have w1027 : 0 ≤ Xi T23 904 15 ∧ Xi T23 904 15 ≤ 300 := hHT23.c _ _
  have w1028 : 0 ≤ Xi T23 904 16 ∧ Xi T23 904 16 ≤ 16 := hHT23.c _ _
  have w1029 : 0 ≤ Xi T23 904 18 ∧ Xi T23 904 18 ≤ 8 := hHT23.c _ _
  have w1030 : 0 ≤ Xi T23 904 19 ∧ Xi T23 904 19 ≤ 24 := hHT23.c _ _
  have w1031 : 0 ≤ Xi T23 904 23 ∧ Xi T23 904 23 ≤ 24 := hHT23.c _ _
  have w1032 : 0 ≤ Xi T23 904 30 ∧ Xi T23 904 30 ≤ 64 := hHT23.c _ _
  have w1033 : 0 ≤ Xi T23 904 32 ∧ Xi T23 904 32 ≤ 12 := hHT23.c _ _
  have w1034 : 0 ≤ Xi T23 904 41 ∧ Xi T23 904 41 ≤ 6 := hHT23.c _ _
  have w1035 : 0 ≤ Xi T23 904 47 ∧ Xi T23 904 47 ≤ 8 := hHT23.c _ _
  have w1036 : 0 ≤ Xi T23 904 49 ∧ Xi T23 904 49 ≤ 12 := hHT23.c _ _
  have w1037 : 0 ≤ Xi T23 904 51 ∧ Xi T23 904 51 ≤ 200 := hHT23.c _ _
  have w1038 : 0 ≤ Xi T23 904 55 ∧ Xi T23 904 55 ≤ 20 := hHT23.c _ _
  have w1039 : -1 ≤ Xi T23 904 60 ∧ Xi T23 904 60 ≤ 23 := hHT23.c _ _
  refine l_iconst rfl ?_
  refine l_istore_n rfl rfl rfl ?_
  exact Rl_weak (C316 _ T23 hHT23 hFT23 (0) (by omega) (by omega) (by omega) (by omega) (by omega) (by omega) (by omega) (by omega) (by omega) (by omega) (by omega) (by omega) (by omega) (by omega) (by omega) (by omega) (by omega) (by omega) (by first | assumption | exact (by assumption : ABV T23)) (by first | assumption | exact (by assumption : WYM T23)) (by first | assumption | exact (by assumption : TXM T23)) (by first | exact M395 | exact M314) (by first | exact D314 | exact (fun a ha => by rw [((by assumption : FR md_mo_tellWord T23 T23).cx 922 rfl a).1, ((by assumption : FR md_mo_tellWord T23 T23).cx 924 rfl a).1]; exact D345 a ha)) (by first | exact fun j hj => absurd hj (by omega) | exact fun j hj => ((by assumption : FR md_mo_tellWord T23 T23).cx 942 rfl j).1.trans (K345 j hj)) rfl) (And.intro rfl (And.intro rfl (True.intro)))
set_option maxRecDepth 100000 in
set_option maxHeartbeats 4000000 in
theorem c267_mo_begin {S : sS} (hH : HI S) (hB : ABV S) (hW : WYM S) (d : Nat) : ∀  (T24 : sS) (_ : HI T24) (_ : FR md_mo_begin S T24), (Xi T24 904 16 = 5) → (Xi T24 904 18 = 2) → (Xi T24 904 19 = 0) → (Xi T24 904 23 = 2) → (Xi T24 904 30 = 0) → (Xi T24 904 32 = 1) → (Xi T24 904 41 = 0) → (Xi T24 904 47 = 0) → (Xi T24 904 49 = 0) → (Xi T24 904 51 = 0) → (Xi T24 904 55 = 0) → (Xi T24 904 60 = -1) → (Xi T24 904 117 = 0) → (Xi T24 904 125 = 0) → (Xi T24 904 130 = 0) → (Xi T24 904 15 = 14) → (ABV T24) → (WYM T24) → (TXM T24) → (LXM T24) → (∀ j : Nat, (j : Int) < 12 * 5 → Xi T24 933 j = 0) → (∀ a : Nat, (a : Int) < 2 → Xi T24 922 a ≠ -1 ∧ Xi T24 924 a = 0) → Rl lay0 (d + 5) m_mo_begin 267 [(0, .ref 904)] [] T24 (Q_mo_begin S) := by
  have C314 := c314_mo_begin hH hB hW d 
  have hF : FR md_mo_begin S S := FR.rf
  have w1 : 0 ≤ Xi S 904 117 ∧ Xi S 904 117 ≤ 480 := hH.c _ _
  have w2 : 0 ≤ Xi S 904 125 ∧ Xi S 904 125 ≤ 192 := hH.c _ _
  have w3 : 0 ≤ Xi S 904 130 ∧ Xi S 904 130 ≤ 24 := hH.c _ _
  have w4 : 0 ≤ Xi S 904 15 ∧ Xi S 904 15 ≤ 300 := hH.c _ _
  have w5 : 0 ≤ Xi S 904 16 ∧ Xi S 904 16 ≤ 16 := hH.c _ _
  have w6 : 0 ≤ Xi S 904 18 ∧ Xi S 904 18 ≤ 8 := hH.c _ _
  have w7 : 0 ≤ Xi S 904 19 ∧ Xi S 904 19 ≤ 24 := hH.c _ _
  have w8 : 0 ≤ Xi S 904 23 ∧ Xi S 904 23 ≤ 24 := hH.c _ _
  have w9 : 0 ≤ Xi S 904 30 ∧ Xi S 904 30 ≤ 64 := hH.c _ _
  have w10 : 0 ≤ Xi S 904 32 ∧ Xi S 904 32 ≤ 12 := hH.c _ _
  have w11 : 0 ≤ Xi S 904 41 ∧ Xi S 904 41 ≤ 6 := hH.c _ _
  have w12 : 0 ≤ Xi S 904 47 ∧ Xi S 904 47 ≤ 8 := hH.c _ _
  have w13 : 0 ≤ Xi S 904 49 ∧ Xi S 904 49 ≤ 12 := hH.c _ _
  have w14 : 0 ≤ Xi S 904 51 ∧ Xi S 904 51 ≤ 200 := hH.c _ _
  have w15 : 0 ≤ Xi S 904 55 ∧ Xi S 904 55 ≤ 20 := hH.c _ _
  have w16 : -1 ≤ Xi S 904 60 ∧ Xi S 904 60 ≤ 23 := hH.c _ _
  intro T24 hHT24 hFT24 w1056 w1057 w1058 w1059 w1060 w1061 w1062 w1063 w1064 w1065 w1066 w1067 w1068 w1069 w1070 w1071 B267 W267 X267 M267 Z267 D267
  have w1072 : 0 ≤ Xi T24 904 117 ∧ Xi T24 904 117 ≤ 480 := hHT24.c _ _
  have w1073 : 0 ≤ Xi T24 904 125 ∧ Xi T24 904 125 ≤ 192 := hHT24.c _ _
  have w1074 : 0 ≤ Xi T24 904 130 ∧ Xi T24 904 130 ≤ 24 := hHT24.c _ _
  have w1075 : 0 ≤ Xi T24 904 15 ∧ Xi T24 904 15 ≤ 300 := hHT24.c _ _
  have w1076 : 0 ≤ Xi T24 904 16 ∧ Xi T24 904 16 ≤ 16 := hHT24.c _ _
  have w1077 : 0 ≤ Xi T24 904 18 ∧ Xi T24 904 18 ≤ 8 := hHT24.c _ _
  have w1078 : 0 ≤ Xi T24 904 19 ∧ Xi T24 904 19 ≤ 24 := hHT24.c _ _
  have w1079 : 0 ≤ Xi T24 904 23 ∧ Xi T24 904 23 ≤ 24 := hHT24.c _ _
  have w1080 : 0 ≤ Xi T24 904 30 ∧ Xi T24 904 30 ≤ 64 := hHT24.c _ _
  have w1081 : 0 ≤ Xi T24 904 32 ∧ Xi T24 904 32 ≤ 12 := hHT24.c _ _
  have w1082 : 0 ≤ Xi T24 904 41 ∧ Xi T24 904 41 ≤ 6 := hHT24.c _ _
  have w1083 : 0 ≤ Xi T24 904 47 ∧ Xi T24 904 47 ≤ 8 := hHT24.c _ _
  have w1084 : 0 ≤ Xi T24 904 49 ∧ Xi T24 904 49 ≤ 12 := hHT24.c _ _
  have w1085 : 0 ≤ Xi T24 904 51 ∧ Xi T24 904 51 ≤ 200 := hHT24.c _ _
  have w1086 : 0 ≤ Xi T24 904 55 ∧ Xi T24 904 55 ≤ 20 := hHT24.c _ _
  have w1087 : -1 ≤ Xi T24 904 60 ∧ Xi T24 904 60 ≤ 23 := hHT24.c _ _
  refine l_aload_n rfl rfl ?_
  refine l_gfr rfl rfl rfl rfl rfl (hHT24.r 904 33 928 rfl) ?_
  refine l_iconst rfl ?_
  refine l_iconst rfl ?_
  refine l_iastore (n := 12) rfl rfl (by omega) (by omega) (by unfold rg; omega) ?_
  obtain ⟨U25, eU25⟩ : ∃ T : sS, T = uI T24 928 ((0 : Int).toNat) (Int32.ofInt 1) := ⟨_, rfl⟩
  rw [← eU25]
  have hHU25 : HI U25 := by rw [eU25]; exact HI_w hHT24 (show 0 ≤ 1 by omega) (show 1 ≤ 7 by omega)
  have hFU25 : FR md_mo_begin S U25 := by rw [eU25]; exact FR.wI hFT24 (mdf_i (r := (928, 929, 0, 100000)) (List.mem_of_getElem? (i := 31) rfl) (inR_i (by omega) (by omega) (by omega) (by omega)))
  have w1088 : Xi U25 928 ((0 : Int).toNat) = 1 := by rw [eU25]; exact Xi_same (by unfold rg; omega)
  have y273_16 : Xi U25 904 16 = Xi T24 904 16 := ((show Xi U25 904 16 = Xi T24 904 16 from by rw [eU25]; exact Xi_ne (by omega)))
  have y273_19 : Xi U25 904 19 = Xi T24 904 19 := ((show Xi U25 904 19 = Xi T24 904 19 from by rw [eU25]; exact Xi_ne (by omega)))
  have X273 : TXM U25 := txm_00 (by omega) (fun j hj => by rw [eU25, Xi_ne (by omega)]; exact Z267 j (by omega))
  refine l_aload_n rfl rfl ?_
  refine l_gfr rfl rfl rfl rfl rfl (hHU25.r 904 34 929 rfl) ?_
  refine l_iconst rfl ?_
  refine l_iconst rfl ?_
  refine l_bastoreZ1 (n := 192) rfl rfl (by omega) (by omega) (by unfold rg; omega) ⟨by omega, by omega⟩ ?_
  obtain ⟨U26, eU26⟩ : ∃ T : sS, T = uI U25 929 ((0 : Int).toNat) (Int32.ofInt 1) := ⟨_, rfl⟩
  rw [← eU26]
  have hHU26 : HI U26 := by rw [eU26]; exact HI_w hHU25 (show 0 ≤ 1 by omega) (show 1 ≤ 1 by omega)
  have hFU26 : FR md_mo_begin S U26 := by rw [eU26]; exact FR.wI hFU25 (mdf_i (r := (929, 930, 0, 100000)) (List.mem_of_getElem? (i := 32) rfl) (inR_i (by omega) (by omega) (by omega) (by omega)))
  have w1089 : Xi U26 929 ((0 : Int).toNat) = 1 := by rw [eU26]; exact Xi_same (by unfold rg; omega)
  refine l_aload_n rfl rfl ?_
  refine l_gfr rfl rfl rfl rfl rfl (hHU26.r 904 34 929 rfl) ?_
  refine l_bipush rfl rfl ?_
  refine l_iconst rfl ?_
  refine l_bastoreZ1 (n := 192) rfl rfl (by omega) (by omega) (by unfold rg; omega) ⟨by omega, by omega⟩ ?_
  obtain ⟨U27, eU27⟩ : ∃ T : sS, T = uI U26 929 ((12 : Int).toNat) (Int32.ofInt 1) := ⟨_, rfl⟩
  rw [← eU27]
  have hHU27 : HI U27 := by rw [eU27]; exact HI_w hHU26 (show 0 ≤ 1 by omega) (show 1 ≤ 1 by omega)
  have hFU27 : FR md_mo_begin S U27 := by rw [eU27]; exact FR.wI hFU26 (mdf_i (r := (929, 930, 0, 100000)) (List.mem_of_getElem? (i := 32) rfl) (inR_i (by omega) (by omega) (by omega) (by omega)))
  have w1090 : Xi U27 929 ((12 : Int).toNat) = 1 := by rw [eU27]; exact Xi_same (by unfold rg; omega)
  refine l_aload_n rfl rfl ?_
  refine l_bipush rfl rfl ?_
  refine l_iconst rfl ?_
  refine l_ldcwR (i := 51) rfl rfl ?_
  have w1091 : Xi U27 904 117 = Xi T24 904 117 := (show Xi U27 904 117 = Xi U26 904 117 from by rw [eU27]; exact Xi_ne (by omega)).trans ( (show Xi U26 904 117 = Xi U25 904 117 from by rw [eU26]; exact Xi_ne (by omega)).trans ((show Xi U25 904 117 = Xi T24 904 117 from by rw [eU25]; exact Xi_ne (by omega))))
  have w1093 : Xi U27 904 125 = Xi T24 904 125 := (show Xi U27 904 125 = Xi U26 904 125 from by rw [eU27]; exact Xi_ne (by omega)).trans ( (show Xi U26 904 125 = Xi U25 904 125 from by rw [eU26]; exact Xi_ne (by omega)).trans ((show Xi U25 904 125 = Xi T24 904 125 from by rw [eU25]; exact Xi_ne (by omega))))
  have w1095 : Xi U27 904 130 = Xi T24 904 130 := (show Xi U27 904 130 = Xi U26 904 130 from by rw [eU27]; exact Xi_ne (by omega)).trans ( (show Xi U26 904 130 = Xi U25 904 130 from by rw [eU26]; exact Xi_ne (by omega)).trans ((show Xi U25 904 130 = Xi T24 904 130 from by rw [eU25]; exact Xi_ne (by omega))))
  have w1097 : Xi U27 904 15 = Xi T24 904 15 := (show Xi U27 904 15 = Xi U26 904 15 from by rw [eU27]; exact Xi_ne (by omega)).trans ( (show Xi U26 904 15 = Xi U25 904 15 from by rw [eU26]; exact Xi_ne (by omega)).trans ((show Xi U25 904 15 = Xi T24 904 15 from by rw [eU25]; exact Xi_ne (by omega))))
  have w1099 : Xi U27 904 16 = Xi T24 904 16 := (show Xi U27 904 16 = Xi U26 904 16 from by rw [eU27]; exact Xi_ne (by omega)).trans ( (show Xi U26 904 16 = Xi U25 904 16 from by rw [eU26]; exact Xi_ne (by omega)).trans ((show Xi U25 904 16 = Xi T24 904 16 from by rw [eU25]; exact Xi_ne (by omega))))
  have w1101 : Xi U27 904 18 = Xi T24 904 18 := (show Xi U27 904 18 = Xi U26 904 18 from by rw [eU27]; exact Xi_ne (by omega)).trans ( (show Xi U26 904 18 = Xi U25 904 18 from by rw [eU26]; exact Xi_ne (by omega)).trans ((show Xi U25 904 18 = Xi T24 904 18 from by rw [eU25]; exact Xi_ne (by omega))))
  have w1103 : Xi U27 904 19 = Xi T24 904 19 := (show Xi U27 904 19 = Xi U26 904 19 from by rw [eU27]; exact Xi_ne (by omega)).trans ( (show Xi U26 904 19 = Xi U25 904 19 from by rw [eU26]; exact Xi_ne (by omega)).trans ((show Xi U25 904 19 = Xi T24 904 19 from by rw [eU25]; exact Xi_ne (by omega))))
  have w1105 : Xi U27 904 23 = Xi T24 904 23 := (show Xi U27 904 23 = Xi U26 904 23 from by rw [eU27]; exact Xi_ne (by omega)).trans ( (show Xi U26 904 23 = Xi U25 904 23 from by rw [eU26]; exact Xi_ne (by omega)).trans ((show Xi U25 904 23 = Xi T24 904 23 from by rw [eU25]; exact Xi_ne (by omega))))
  have w1107 : Xi U27 904 30 = Xi T24 904 30 := (show Xi U27 904 30 = Xi U26 904 30 from by rw [eU27]; exact Xi_ne (by omega)).trans ( (show Xi U26 904 30 = Xi U25 904 30 from by rw [eU26]; exact Xi_ne (by omega)).trans ((show Xi U25 904 30 = Xi T24 904 30 from by rw [eU25]; exact Xi_ne (by omega))))
  have w1109 : Xi U27 904 32 = Xi T24 904 32 := (show Xi U27 904 32 = Xi U26 904 32 from by rw [eU27]; exact Xi_ne (by omega)).trans ( (show Xi U26 904 32 = Xi U25 904 32 from by rw [eU26]; exact Xi_ne (by omega)).trans ((show Xi U25 904 32 = Xi T24 904 32 from by rw [eU25]; exact Xi_ne (by omega))))
  have w1111 : Xi U27 904 41 = Xi T24 904 41 := (show Xi U27 904 41 = Xi U26 904 41 from by rw [eU27]; exact Xi_ne (by omega)).trans ( (show Xi U26 904 41 = Xi U25 904 41 from by rw [eU26]; exact Xi_ne (by omega)).trans ((show Xi U25 904 41 = Xi T24 904 41 from by rw [eU25]; exact Xi_ne (by omega))))
  have w1113 : Xi U27 904 47 = Xi T24 904 47 := (show Xi U27 904 47 = Xi U26 904 47 from by rw [eU27]; exact Xi_ne (by omega)).trans ( (show Xi U26 904 47 = Xi U25 904 47 from by rw [eU26]; exact Xi_ne (by omega)).trans ((show Xi U25 904 47 = Xi T24 904 47 from by rw [eU25]; exact Xi_ne (by omega))))
  have w1115 : Xi U27 904 49 = Xi T24 904 49 := (show Xi U27 904 49 = Xi U26 904 49 from by rw [eU27]; exact Xi_ne (by omega)).trans ( (show Xi U26 904 49 = Xi U25 904 49 from by rw [eU26]; exact Xi_ne (by omega)).trans ((show Xi U25 904 49 = Xi T24 904 49 from by rw [eU25]; exact Xi_ne (by omega))))
  have w1117 : Xi U27 904 51 = Xi T24 904 51 := (show Xi U27 904 51 = Xi U26 904 51 from by rw [eU27]; exact Xi_ne (by omega)).trans ( (show Xi U26 904 51 = Xi U25 904 51 from by rw [eU26]; exact Xi_ne (by omega)).trans ((show Xi U25 904 51 = Xi T24 904 51 from by rw [eU25]; exact Xi_ne (by omega))))
  have w1119 : Xi U27 904 55 = Xi T24 904 55 := (show Xi U27 904 55 = Xi U26 904 55 from by rw [eU27]; exact Xi_ne (by omega)).trans ( (show Xi U26 904 55 = Xi U25 904 55 from by rw [eU26]; exact Xi_ne (by omega)).trans ((show Xi U25 904 55 = Xi T24 904 55 from by rw [eU25]; exact Xi_ne (by omega))))
  have w1121 : Xi U27 904 60 = Xi T24 904 60 := (show Xi U27 904 60 = Xi U26 904 60 from by rw [eU27]; exact Xi_ne (by omega)).trans ( (show Xi U26 904 60 = Xi U25 904 60 from by rw [eU26]; exact Xi_ne (by omega)).trans ((show Xi U25 904 60 = Xi T24 904 60 from by rw [eU25]; exact Xi_ne (by omega))))
  refine l_callV rfl rfl rfl (t_mo_tellWord hHU27 7 0 51 _ ⟨by omega, by omega⟩ ⟨by omega, by omega⟩ rfl (by first | assumption | omega) _) ?_
  rintro _ T28 ⟨hHT28, w1125, rfl, w1123, e296, k296⟩
  have hFT28 : FR md_mo_begin S T28 := FR.tr hFU27 w1125 rfl
  show Rl _ _ _ _ _ [] _ _
  have f296_32 : Xi T28 904 32 = Xi U27 904 32 := (by assumption : FR md_mo_tellWord U27 T28).x 904 32 rfl
  have M296 : LXM T28 := lxm_gr (LXM_FR (FR_e eU27) rfl (LXM_FR (FR_e eU26) rfl (LXM_FR (FR_e eU25) rfl (by assumption : LXM T24)))) k296 (GR_FR (by assumption : FR md_mo_tellWord U27 T28) rfl GR.rf) (by omega) (Or.inr ⟨by omega, by rw [e296.1, e296.2, cM7]; omega⟩)
  clear k296 e296
  refine l_aload_n rfl rfl ?_
  refine l_iconst rfl ?_
  have w1126 : Xi T28 904 117 = Xi T24 904 117 := (show Xi T28 904 117 = Xi U27 904 117 from w1125.x _ _ rfl).trans ( (show Xi U27 904 117 = Xi U26 904 117 from by rw [eU27]; exact Xi_ne (by omega)).trans ( (show Xi U26 904 117 = Xi U25 904 117 from by rw [eU26]; exact Xi_ne (by omega)).trans ((show Xi U25 904 117 = Xi T24 904 117 from by rw [eU25]; exact Xi_ne (by omega)))))
  have w1128 : Xi T28 904 125 = Xi T24 904 125 := (show Xi T28 904 125 = Xi U27 904 125 from w1125.x _ _ rfl).trans ( (show Xi U27 904 125 = Xi U26 904 125 from by rw [eU27]; exact Xi_ne (by omega)).trans ( (show Xi U26 904 125 = Xi U25 904 125 from by rw [eU26]; exact Xi_ne (by omega)).trans ((show Xi U25 904 125 = Xi T24 904 125 from by rw [eU25]; exact Xi_ne (by omega)))))
  have w1130 : Xi T28 904 130 = Xi T24 904 130 := (show Xi T28 904 130 = Xi U27 904 130 from w1125.x _ _ rfl).trans ( (show Xi U27 904 130 = Xi U26 904 130 from by rw [eU27]; exact Xi_ne (by omega)).trans ( (show Xi U26 904 130 = Xi U25 904 130 from by rw [eU26]; exact Xi_ne (by omega)).trans ((show Xi U25 904 130 = Xi T24 904 130 from by rw [eU25]; exact Xi_ne (by omega)))))
  have w1132 : 0 ≤ Xi T28 904 15 ∧ Xi T28 904 15 ≤ 300 := hHT28.c _ _
  have w1133 : Xi T28 904 16 = Xi T24 904 16 := (show Xi T28 904 16 = Xi U27 904 16 from w1125.x _ _ rfl).trans ( (show Xi U27 904 16 = Xi U26 904 16 from by rw [eU27]; exact Xi_ne (by omega)).trans ( (show Xi U26 904 16 = Xi U25 904 16 from by rw [eU26]; exact Xi_ne (by omega)).trans ((show Xi U25 904 16 = Xi T24 904 16 from by rw [eU25]; exact Xi_ne (by omega)))))
  have w1135 : Xi T28 904 18 = Xi T24 904 18 := (show Xi T28 904 18 = Xi U27 904 18 from w1125.x _ _ rfl).trans ( (show Xi U27 904 18 = Xi U26 904 18 from by rw [eU27]; exact Xi_ne (by omega)).trans ( (show Xi U26 904 18 = Xi U25 904 18 from by rw [eU26]; exact Xi_ne (by omega)).trans ((show Xi U25 904 18 = Xi T24 904 18 from by rw [eU25]; exact Xi_ne (by omega)))))
  have w1137 : Xi T28 904 19 = Xi T24 904 19 := (show Xi T28 904 19 = Xi U27 904 19 from w1125.x _ _ rfl).trans ( (show Xi U27 904 19 = Xi U26 904 19 from by rw [eU27]; exact Xi_ne (by omega)).trans ( (show Xi U26 904 19 = Xi U25 904 19 from by rw [eU26]; exact Xi_ne (by omega)).trans ((show Xi U25 904 19 = Xi T24 904 19 from by rw [eU25]; exact Xi_ne (by omega)))))
  have w1139 : Xi T28 904 23 = Xi T24 904 23 := (show Xi T28 904 23 = Xi U27 904 23 from w1125.x _ _ rfl).trans ( (show Xi U27 904 23 = Xi U26 904 23 from by rw [eU27]; exact Xi_ne (by omega)).trans ( (show Xi U26 904 23 = Xi U25 904 23 from by rw [eU26]; exact Xi_ne (by omega)).trans ((show Xi U25 904 23 = Xi T24 904 23 from by rw [eU25]; exact Xi_ne (by omega)))))
  have w1141 : Xi T28 904 30 = Xi T24 904 30 := (show Xi T28 904 30 = Xi U27 904 30 from w1125.x _ _ rfl).trans ( (show Xi U27 904 30 = Xi U26 904 30 from by rw [eU27]; exact Xi_ne (by omega)).trans ( (show Xi U26 904 30 = Xi U25 904 30 from by rw [eU26]; exact Xi_ne (by omega)).trans ((show Xi U25 904 30 = Xi T24 904 30 from by rw [eU25]; exact Xi_ne (by omega)))))
  have w1143 : Xi T28 904 32 = Xi T24 904 32 := (show Xi T28 904 32 = Xi U27 904 32 from w1125.x _ _ rfl).trans ( (show Xi U27 904 32 = Xi U26 904 32 from by rw [eU27]; exact Xi_ne (by omega)).trans ( (show Xi U26 904 32 = Xi U25 904 32 from by rw [eU26]; exact Xi_ne (by omega)).trans ((show Xi U25 904 32 = Xi T24 904 32 from by rw [eU25]; exact Xi_ne (by omega)))))
  have w1145 : Xi T28 904 41 = Xi T24 904 41 := (show Xi T28 904 41 = Xi U27 904 41 from w1125.x _ _ rfl).trans ( (show Xi U27 904 41 = Xi U26 904 41 from by rw [eU27]; exact Xi_ne (by omega)).trans ( (show Xi U26 904 41 = Xi U25 904 41 from by rw [eU26]; exact Xi_ne (by omega)).trans ((show Xi U25 904 41 = Xi T24 904 41 from by rw [eU25]; exact Xi_ne (by omega)))))
  have w1147 : Xi T28 904 47 = Xi T24 904 47 := (show Xi T28 904 47 = Xi U27 904 47 from w1125.x _ _ rfl).trans ( (show Xi U27 904 47 = Xi U26 904 47 from by rw [eU27]; exact Xi_ne (by omega)).trans ( (show Xi U26 904 47 = Xi U25 904 47 from by rw [eU26]; exact Xi_ne (by omega)).trans ((show Xi U25 904 47 = Xi T24 904 47 from by rw [eU25]; exact Xi_ne (by omega)))))
  have w1149 : Xi T28 904 49 = Xi T24 904 49 := (show Xi T28 904 49 = Xi U27 904 49 from w1125.x _ _ rfl).trans ( (show Xi U27 904 49 = Xi U26 904 49 from by rw [eU27]; exact Xi_ne (by omega)).trans ( (show Xi U26 904 49 = Xi U25 904 49 from by rw [eU26]; exact Xi_ne (by omega)).trans ((show Xi U25 904 49 = Xi T24 904 49 from by rw [eU25]; exact Xi_ne (by omega)))))
  have w1151 : Xi T28 904 51 = Xi T24 904 51 := (show Xi T28 904 51 = Xi U27 904 51 from w1125.x _ _ rfl).trans ( (show Xi U27 904 51 = Xi U26 904 51 from by rw [eU27]; exact Xi_ne (by omega)).trans ( (show Xi U26 904 51 = Xi U25 904 51 from by rw [eU26]; exact Xi_ne (by omega)).trans ((show Xi U25 904 51 = Xi T24 904 51 from by rw [eU25]; exact Xi_ne (by omega)))))
  have w1153 : Xi T28 904 55 = Xi T24 904 55 := (show Xi T28 904 55 = Xi U27 904 55 from w1125.x _ _ rfl).trans ( (show Xi U27 904 55 = Xi U26 904 55 from by rw [eU27]; exact Xi_ne (by omega)).trans ( (show Xi U26 904 55 = Xi U25 904 55 from by rw [eU26]; exact Xi_ne (by omega)).trans ((show Xi U25 904 55 = Xi T24 904 55 from by rw [eU25]; exact Xi_ne (by omega)))))
  have w1155 : Xi T28 904 60 = Xi T24 904 60 := (show Xi T28 904 60 = Xi U27 904 60 from w1125.x _ _ rfl).trans ( (show Xi U27 904 60 = Xi U26 904 60 from by rw [eU27]; exact Xi_ne (by omega)).trans ( (show Xi U26 904 60 = Xi U25 904 60 from by rw [eU26]; exact Xi_ne (by omega)).trans ((show Xi U25 904 60 = Xi T24 904 60 from by rw [eU25]; exact Xi_ne (by omega)))))
  refine l_callV rfl rfl rfl (t_mo_addObject hHT28 4 ⟨by omega, by omega⟩ (by first | assumption | omega) (by first | assumption | omega) (by first | assumption | exact (TXM_FR w1125 rfl (TXM_FR (FR_e eU27) rfl (TXM_FR (FR_e eU26) rfl (by assumption : TXM U25))))) (by first | assumption | exact (WYM_FR w1125 rfl (WYM_FR (FR_e eU27) rfl (WYM_FR (FR_e eU26) rfl (WYM_FR (FR_e eU25) rfl (by assumption : WYM T24)))))) _) ?_
  rintro _ T29 ⟨hHT29, w1163, z1162, rfl, w1162, w1157, w1158, w1159, w1160, x301, w1161⟩
  have hFT29 : FR md_mo_begin S T29 := FR.tr hFT28 w1163 rfl
  show Rl _ _ _ _ _ [iv z1162] _ _
  have M301 : LXM T29 := lxm_gr (by assumption : LXM T28) (LXK_FR (by assumption : FR md_mo_addObject T28 T29) rfl) (gr_m GR.rf (Int.le_of_eq ((by assumption : FR md_mo_addObject T28 T29).x 904 16 rfl).symm) (Int.le_of_eq ((by assumption : FR md_mo_addObject T28 T29).x 904 18 rfl).symm) (by omega) (Int.le_of_eq ((by assumption : FR md_mo_addObject T28 T29).x 904 23 rfl).symm) (Int.le_of_eq ((by assumption : FR md_mo_addObject T28 T29).x 904 30 rfl).symm) (Int.le_of_eq ((by assumption : FR md_mo_addObject T28 T29).x 904 32 rfl).symm) (Int.le_of_eq ((by assumption : FR md_mo_addObject T28 T29).x 904 41 rfl).symm) (Int.le_of_eq ((by assumption : FR md_mo_addObject T28 T29).x 904 47 rfl).symm) (Int.le_of_eq ((by assumption : FR md_mo_addObject T28 T29).x 904 49 rfl).symm) (fun i _ => ⟨((by assumption : FR md_mo_addObject T28 T29).cx 922 rfl i).1, ((by assumption : FR md_mo_addObject T28 T29).cx 923 rfl i).1, ((by assumption : FR md_mo_addObject T28 T29).cx 924 rfl i).1⟩) (fun i _ => ((by assumption : FR md_mo_addObject T28 T29).cx 928 rfl i).1) (fun i _ => ((by assumption : FR md_mo_addObject T28 T29).cx 942 rfl i).1)) (by omega) (Or.inl ((by assumption : FR md_mo_addObject T28 T29).x 904 15 rfl))
  refine l_pop rfl rfl ?_
  refine l_aload_n rfl rfl ?_
  refine l_iconst rfl ?_
  refine l_iconst rfl ?_
  refine l_ldcwR (i := 52) rfl rfl ?_
  have w1164 : Xi T29 904 117 = Xi T24 904 117 := (show Xi T29 904 117 = Xi T28 904 117 from w1163.x _ _ rfl).trans ( (show Xi T28 904 117 = Xi U27 904 117 from w1125.x _ _ rfl).trans ( (show Xi U27 904 117 = Xi U26 904 117 from by rw [eU27]; exact Xi_ne (by omega)).trans ( (show Xi U26 904 117 = Xi U25 904 117 from by rw [eU26]; exact Xi_ne (by omega)).trans ((show Xi U25 904 117 = Xi T24 904 117 from by rw [eU25]; exact Xi_ne (by omega))))))
  have w1166 : Xi T29 904 125 = Xi T24 904 125 := (show Xi T29 904 125 = Xi T28 904 125 from w1163.x _ _ rfl).trans ( (show Xi T28 904 125 = Xi U27 904 125 from w1125.x _ _ rfl).trans ( (show Xi U27 904 125 = Xi U26 904 125 from by rw [eU27]; exact Xi_ne (by omega)).trans ( (show Xi U26 904 125 = Xi U25 904 125 from by rw [eU26]; exact Xi_ne (by omega)).trans ((show Xi U25 904 125 = Xi T24 904 125 from by rw [eU25]; exact Xi_ne (by omega))))))
  have w1168 : Xi T29 904 130 = Xi T24 904 130 := (show Xi T29 904 130 = Xi T28 904 130 from w1163.x _ _ rfl).trans ( (show Xi T28 904 130 = Xi U27 904 130 from w1125.x _ _ rfl).trans ( (show Xi U27 904 130 = Xi U26 904 130 from by rw [eU27]; exact Xi_ne (by omega)).trans ( (show Xi U26 904 130 = Xi U25 904 130 from by rw [eU26]; exact Xi_ne (by omega)).trans ((show Xi U25 904 130 = Xi T24 904 130 from by rw [eU25]; exact Xi_ne (by omega))))))
  have w1170 : Xi T29 904 15 = Xi T28 904 15 := (show Xi T29 904 15 = Xi T28 904 15 from w1163.x _ _ rfl)
  have w1172 : Xi T29 904 16 = Xi T24 904 16 := (show Xi T29 904 16 = Xi T28 904 16 from w1163.x _ _ rfl).trans ( (show Xi T28 904 16 = Xi U27 904 16 from w1125.x _ _ rfl).trans ( (show Xi U27 904 16 = Xi U26 904 16 from by rw [eU27]; exact Xi_ne (by omega)).trans ( (show Xi U26 904 16 = Xi U25 904 16 from by rw [eU26]; exact Xi_ne (by omega)).trans ((show Xi U25 904 16 = Xi T24 904 16 from by rw [eU25]; exact Xi_ne (by omega))))))
  have w1174 : Xi T29 904 18 = Xi T24 904 18 := (show Xi T29 904 18 = Xi T28 904 18 from w1163.x _ _ rfl).trans ( (show Xi T28 904 18 = Xi U27 904 18 from w1125.x _ _ rfl).trans ( (show Xi U27 904 18 = Xi U26 904 18 from by rw [eU27]; exact Xi_ne (by omega)).trans ( (show Xi U26 904 18 = Xi U25 904 18 from by rw [eU26]; exact Xi_ne (by omega)).trans ((show Xi U25 904 18 = Xi T24 904 18 from by rw [eU25]; exact Xi_ne (by omega))))))
  have w1176 : 0 ≤ Xi T29 904 19 ∧ Xi T29 904 19 ≤ 24 := hHT29.c _ _
  have w1177 : Xi T29 904 23 = Xi T24 904 23 := (show Xi T29 904 23 = Xi T28 904 23 from w1163.x _ _ rfl).trans ( (show Xi T28 904 23 = Xi U27 904 23 from w1125.x _ _ rfl).trans ( (show Xi U27 904 23 = Xi U26 904 23 from by rw [eU27]; exact Xi_ne (by omega)).trans ( (show Xi U26 904 23 = Xi U25 904 23 from by rw [eU26]; exact Xi_ne (by omega)).trans ((show Xi U25 904 23 = Xi T24 904 23 from by rw [eU25]; exact Xi_ne (by omega))))))
  have w1179 : Xi T29 904 30 = Xi T24 904 30 := (show Xi T29 904 30 = Xi T28 904 30 from w1163.x _ _ rfl).trans ( (show Xi T28 904 30 = Xi U27 904 30 from w1125.x _ _ rfl).trans ( (show Xi U27 904 30 = Xi U26 904 30 from by rw [eU27]; exact Xi_ne (by omega)).trans ( (show Xi U26 904 30 = Xi U25 904 30 from by rw [eU26]; exact Xi_ne (by omega)).trans ((show Xi U25 904 30 = Xi T24 904 30 from by rw [eU25]; exact Xi_ne (by omega))))))
  have w1181 : Xi T29 904 32 = Xi T24 904 32 := (show Xi T29 904 32 = Xi T28 904 32 from w1163.x _ _ rfl).trans ( (show Xi T28 904 32 = Xi U27 904 32 from w1125.x _ _ rfl).trans ( (show Xi U27 904 32 = Xi U26 904 32 from by rw [eU27]; exact Xi_ne (by omega)).trans ( (show Xi U26 904 32 = Xi U25 904 32 from by rw [eU26]; exact Xi_ne (by omega)).trans ((show Xi U25 904 32 = Xi T24 904 32 from by rw [eU25]; exact Xi_ne (by omega))))))
  have w1183 : Xi T29 904 41 = Xi T24 904 41 := (show Xi T29 904 41 = Xi T28 904 41 from w1163.x _ _ rfl).trans ( (show Xi T28 904 41 = Xi U27 904 41 from w1125.x _ _ rfl).trans ( (show Xi U27 904 41 = Xi U26 904 41 from by rw [eU27]; exact Xi_ne (by omega)).trans ( (show Xi U26 904 41 = Xi U25 904 41 from by rw [eU26]; exact Xi_ne (by omega)).trans ((show Xi U25 904 41 = Xi T24 904 41 from by rw [eU25]; exact Xi_ne (by omega))))))
  have w1185 : Xi T29 904 47 = Xi T24 904 47 := (show Xi T29 904 47 = Xi T28 904 47 from w1163.x _ _ rfl).trans ( (show Xi T28 904 47 = Xi U27 904 47 from w1125.x _ _ rfl).trans ( (show Xi U27 904 47 = Xi U26 904 47 from by rw [eU27]; exact Xi_ne (by omega)).trans ( (show Xi U26 904 47 = Xi U25 904 47 from by rw [eU26]; exact Xi_ne (by omega)).trans ((show Xi U25 904 47 = Xi T24 904 47 from by rw [eU25]; exact Xi_ne (by omega))))))
  have w1187 : Xi T29 904 49 = Xi T24 904 49 := (show Xi T29 904 49 = Xi T28 904 49 from w1163.x _ _ rfl).trans ( (show Xi T28 904 49 = Xi U27 904 49 from w1125.x _ _ rfl).trans ( (show Xi U27 904 49 = Xi U26 904 49 from by rw [eU27]; exact Xi_ne (by omega)).trans ( (show Xi U26 904 49 = Xi U25 904 49 from by rw [eU26]; exact Xi_ne (by omega)).trans ((show Xi U25 904 49 = Xi T24 904 49 from by rw [eU25]; exact Xi_ne (by omega))))))
  have w1189 : Xi T29 904 51 = Xi T24 904 51 := (show Xi T29 904 51 = Xi T28 904 51 from w1163.x _ _ rfl).trans ( (show Xi T28 904 51 = Xi U27 904 51 from w1125.x _ _ rfl).trans ( (show Xi U27 904 51 = Xi U26 904 51 from by rw [eU27]; exact Xi_ne (by omega)).trans ( (show Xi U26 904 51 = Xi U25 904 51 from by rw [eU26]; exact Xi_ne (by omega)).trans ((show Xi U25 904 51 = Xi T24 904 51 from by rw [eU25]; exact Xi_ne (by omega))))))
  have w1191 : Xi T29 904 55 = Xi T24 904 55 := (show Xi T29 904 55 = Xi T28 904 55 from w1163.x _ _ rfl).trans ( (show Xi T28 904 55 = Xi U27 904 55 from w1125.x _ _ rfl).trans ( (show Xi U27 904 55 = Xi U26 904 55 from by rw [eU27]; exact Xi_ne (by omega)).trans ( (show Xi U26 904 55 = Xi U25 904 55 from by rw [eU26]; exact Xi_ne (by omega)).trans ((show Xi U25 904 55 = Xi T24 904 55 from by rw [eU25]; exact Xi_ne (by omega))))))
  have w1193 : Xi T29 904 60 = Xi T24 904 60 := (show Xi T29 904 60 = Xi T28 904 60 from w1163.x _ _ rfl).trans ( (show Xi T28 904 60 = Xi U27 904 60 from w1125.x _ _ rfl).trans ( (show Xi U27 904 60 = Xi U26 904 60 from by rw [eU27]; exact Xi_ne (by omega)).trans ( (show Xi U26 904 60 = Xi U25 904 60 from by rw [eU26]; exact Xi_ne (by omega)).trans ((show Xi U25 904 60 = Xi T24 904 60 from by rw [eU25]; exact Xi_ne (by omega))))))
  refine l_callV rfl rfl rfl (t_mo_tellWord hHT29 4 0 52 _ ⟨by omega, by omega⟩ ⟨by omega, by omega⟩ rfl (by first | assumption | omega) _) ?_
  rintro _ T30 ⟨hHT30, w1197, rfl, w1195, e311, k311⟩
  have hFT30 : FR md_mo_begin S T30 := FR.tr hFT29 w1197 rfl
  show Rl _ _ _ _ _ [] _ _
  have f311_19 : Xi T30 904 19 = Xi T29 904 19 := (by assumption : FR md_mo_tellWord T29 T30).x 904 19 rfl
  have M311 : LXM T30 := lxm_gr M301 k311 (GR_FR (by assumption : FR md_mo_tellWord T29 T30) rfl GR.rf) (by omega) (Or.inr ⟨by omega, by rw [e311.1, e311.2, cM4]; omega⟩)
  clear k311 e311
  have w1198 : Xi T30 904 117 = Xi T24 904 117 := (show Xi T30 904 117 = Xi T29 904 117 from w1197.x _ _ rfl).trans ( (show Xi T29 904 117 = Xi T28 904 117 from w1163.x _ _ rfl).trans ( (show Xi T28 904 117 = Xi U27 904 117 from w1125.x _ _ rfl).trans ( (show Xi U27 904 117 = Xi U26 904 117 from by rw [eU27]; exact Xi_ne (by omega)).trans ( (show Xi U26 904 117 = Xi U25 904 117 from by rw [eU26]; exact Xi_ne (by omega)).trans ((show Xi U25 904 117 = Xi T24 904 117 from by rw [eU25]; exact Xi_ne (by omega)))))))
  have w1200 : Xi T30 904 125 = Xi T24 904 125 := (show Xi T30 904 125 = Xi T29 904 125 from w1197.x _ _ rfl).trans ( (show Xi T29 904 125 = Xi T28 904 125 from w1163.x _ _ rfl).trans ( (show Xi T28 904 125 = Xi U27 904 125 from w1125.x _ _ rfl).trans ( (show Xi U27 904 125 = Xi U26 904 125 from by rw [eU27]; exact Xi_ne (by omega)).trans ( (show Xi U26 904 125 = Xi U25 904 125 from by rw [eU26]; exact Xi_ne (by omega)).trans ((show Xi U25 904 125 = Xi T24 904 125 from by rw [eU25]; exact Xi_ne (by omega)))))))
  have w1202 : Xi T30 904 130 = Xi T24 904 130 := (show Xi T30 904 130 = Xi T29 904 130 from w1197.x _ _ rfl).trans ( (show Xi T29 904 130 = Xi T28 904 130 from w1163.x _ _ rfl).trans ( (show Xi T28 904 130 = Xi U27 904 130 from w1125.x _ _ rfl).trans ( (show Xi U27 904 130 = Xi U26 904 130 from by rw [eU27]; exact Xi_ne (by omega)).trans ( (show Xi U26 904 130 = Xi U25 904 130 from by rw [eU26]; exact Xi_ne (by omega)).trans ((show Xi U25 904 130 = Xi T24 904 130 from by rw [eU25]; exact Xi_ne (by omega)))))))
  have w1204 : 0 ≤ Xi T30 904 15 ∧ Xi T30 904 15 ≤ 300 := hHT30.c _ _
  have w1205 : Xi T30 904 16 = Xi T24 904 16 := (show Xi T30 904 16 = Xi T29 904 16 from w1197.x _ _ rfl).trans ( (show Xi T29 904 16 = Xi T28 904 16 from w1163.x _ _ rfl).trans ( (show Xi T28 904 16 = Xi U27 904 16 from w1125.x _ _ rfl).trans ( (show Xi U27 904 16 = Xi U26 904 16 from by rw [eU27]; exact Xi_ne (by omega)).trans ( (show Xi U26 904 16 = Xi U25 904 16 from by rw [eU26]; exact Xi_ne (by omega)).trans ((show Xi U25 904 16 = Xi T24 904 16 from by rw [eU25]; exact Xi_ne (by omega)))))))
  have w1207 : Xi T30 904 18 = Xi T24 904 18 := (show Xi T30 904 18 = Xi T29 904 18 from w1197.x _ _ rfl).trans ( (show Xi T29 904 18 = Xi T28 904 18 from w1163.x _ _ rfl).trans ( (show Xi T28 904 18 = Xi U27 904 18 from w1125.x _ _ rfl).trans ( (show Xi U27 904 18 = Xi U26 904 18 from by rw [eU27]; exact Xi_ne (by omega)).trans ( (show Xi U26 904 18 = Xi U25 904 18 from by rw [eU26]; exact Xi_ne (by omega)).trans ((show Xi U25 904 18 = Xi T24 904 18 from by rw [eU25]; exact Xi_ne (by omega)))))))
  have w1209 : Xi T30 904 19 = Xi T29 904 19 := (show Xi T30 904 19 = Xi T29 904 19 from w1197.x _ _ rfl)
  have w1211 : Xi T30 904 23 = Xi T24 904 23 := (show Xi T30 904 23 = Xi T29 904 23 from w1197.x _ _ rfl).trans ( (show Xi T29 904 23 = Xi T28 904 23 from w1163.x _ _ rfl).trans ( (show Xi T28 904 23 = Xi U27 904 23 from w1125.x _ _ rfl).trans ( (show Xi U27 904 23 = Xi U26 904 23 from by rw [eU27]; exact Xi_ne (by omega)).trans ( (show Xi U26 904 23 = Xi U25 904 23 from by rw [eU26]; exact Xi_ne (by omega)).trans ((show Xi U25 904 23 = Xi T24 904 23 from by rw [eU25]; exact Xi_ne (by omega)))))))
  have w1213 : Xi T30 904 30 = Xi T24 904 30 := (show Xi T30 904 30 = Xi T29 904 30 from w1197.x _ _ rfl).trans ( (show Xi T29 904 30 = Xi T28 904 30 from w1163.x _ _ rfl).trans ( (show Xi T28 904 30 = Xi U27 904 30 from w1125.x _ _ rfl).trans ( (show Xi U27 904 30 = Xi U26 904 30 from by rw [eU27]; exact Xi_ne (by omega)).trans ( (show Xi U26 904 30 = Xi U25 904 30 from by rw [eU26]; exact Xi_ne (by omega)).trans ((show Xi U25 904 30 = Xi T24 904 30 from by rw [eU25]; exact Xi_ne (by omega)))))))
  have w1215 : Xi T30 904 32 = Xi T24 904 32 := (show Xi T30 904 32 = Xi T29 904 32 from w1197.x _ _ rfl).trans ( (show Xi T29 904 32 = Xi T28 904 32 from w1163.x _ _ rfl).trans ( (show Xi T28 904 32 = Xi U27 904 32 from w1125.x _ _ rfl).trans ( (show Xi U27 904 32 = Xi U26 904 32 from by rw [eU27]; exact Xi_ne (by omega)).trans ( (show Xi U26 904 32 = Xi U25 904 32 from by rw [eU26]; exact Xi_ne (by omega)).trans ((show Xi U25 904 32 = Xi T24 904 32 from by rw [eU25]; exact Xi_ne (by omega)))))))
  have w1217 : Xi T30 904 41 = Xi T24 904 41 := (show Xi T30 904 41 = Xi T29 904 41 from w1197.x _ _ rfl).trans ( (show Xi T29 904 41 = Xi T28 904 41 from w1163.x _ _ rfl).trans ( (show Xi T28 904 41 = Xi U27 904 41 from w1125.x _ _ rfl).trans ( (show Xi U27 904 41 = Xi U26 904 41 from by rw [eU27]; exact Xi_ne (by omega)).trans ( (show Xi U26 904 41 = Xi U25 904 41 from by rw [eU26]; exact Xi_ne (by omega)).trans ((show Xi U25 904 41 = Xi T24 904 41 from by rw [eU25]; exact Xi_ne (by omega)))))))
  have w1219 : Xi T30 904 47 = Xi T24 904 47 := (show Xi T30 904 47 = Xi T29 904 47 from w1197.x _ _ rfl).trans ( (show Xi T29 904 47 = Xi T28 904 47 from w1163.x _ _ rfl).trans ( (show Xi T28 904 47 = Xi U27 904 47 from w1125.x _ _ rfl).trans ( (show Xi U27 904 47 = Xi U26 904 47 from by rw [eU27]; exact Xi_ne (by omega)).trans ( (show Xi U26 904 47 = Xi U25 904 47 from by rw [eU26]; exact Xi_ne (by omega)).trans ((show Xi U25 904 47 = Xi T24 904 47 from by rw [eU25]; exact Xi_ne (by omega)))))))
  have w1221 : Xi T30 904 49 = Xi T24 904 49 := (show Xi T30 904 49 = Xi T29 904 49 from w1197.x _ _ rfl).trans ( (show Xi T29 904 49 = Xi T28 904 49 from w1163.x _ _ rfl).trans ( (show Xi T28 904 49 = Xi U27 904 49 from w1125.x _ _ rfl).trans ( (show Xi U27 904 49 = Xi U26 904 49 from by rw [eU27]; exact Xi_ne (by omega)).trans ( (show Xi U26 904 49 = Xi U25 904 49 from by rw [eU26]; exact Xi_ne (by omega)).trans ((show Xi U25 904 49 = Xi T24 904 49 from by rw [eU25]; exact Xi_ne (by omega)))))))
  have w1223 : Xi T30 904 51 = Xi T24 904 51 := (show Xi T30 904 51 = Xi T29 904 51 from w1197.x _ _ rfl).trans ( (show Xi T29 904 51 = Xi T28 904 51 from w1163.x _ _ rfl).trans ( (show Xi T28 904 51 = Xi U27 904 51 from w1125.x _ _ rfl).trans ( (show Xi U27 904 51 = Xi U26 904 51 from by rw [eU27]; exact Xi_ne (by omega)).trans ( (show Xi U26 904 51 = Xi U25 904 51 from by rw [eU26]; exact Xi_ne (by omega)).trans ((show Xi U25 904 51 = Xi T24 904 51 from by rw [eU25]; exact Xi_ne (by omega)))))))
  have w1225 : Xi T30 904 55 = Xi T24 904 55 := (show Xi T30 904 55 = Xi T29 904 55 from w1197.x _ _ rfl).trans ( (show Xi T29 904 55 = Xi T28 904 55 from w1163.x _ _ rfl).trans ( (show Xi T28 904 55 = Xi U27 904 55 from w1125.x _ _ rfl).trans ( (show Xi U27 904 55 = Xi U26 904 55 from by rw [eU27]; exact Xi_ne (by omega)).trans ( (show Xi U26 904 55 = Xi U25 904 55 from by rw [eU26]; exact Xi_ne (by omega)).trans ((show Xi U25 904 55 = Xi T24 904 55 from by rw [eU25]; exact Xi_ne (by omega)))))))
  have w1227 : Xi T30 904 60 = Xi T24 904 60 := (show Xi T30 904 60 = Xi T29 904 60 from w1197.x _ _ rfl).trans ( (show Xi T29 904 60 = Xi T28 904 60 from w1163.x _ _ rfl).trans ( (show Xi T28 904 60 = Xi U27 904 60 from w1125.x _ _ rfl).trans ( (show Xi U27 904 60 = Xi U26 904 60 from by rw [eU27]; exact Xi_ne (by omega)).trans ( (show Xi U26 904 60 = Xi U25 904 60 from by rw [eU26]; exact Xi_ne (by omega)).trans ((show Xi U25 904 60 = Xi T24 904 60 from by rw [eU25]; exact Xi_ne (by omega)))))))
  exact Rl_weak (C314 T30 hHT30 hFT30  (by omega) (by omega) (by omega) (by omega) (by omega) (by omega) (by omega) (by omega) (by omega) (by omega) (by omega) (by omega) (by omega) (by omega) (by omega) (by omega) (by first | assumption | exact (ABV_FR w1197 rfl (ABV_FR w1163 rfl (ABV_FR w1125 rfl (ABV_FR (FR_e eU27) rfl (ABV_FR (FR_e eU26) rfl (ABV_FR (FR_e eU25) rfl (by assumption : ABV T24)))))))) (by first | assumption | exact (WYM_FR w1197 rfl (by assumption : WYM T29))) (by first | assumption | exact (TXM_FR w1197 rfl (by assumption : TXM T29))) (M311) (fun a ha => by rw [(fun j => ((w1197).cx 922 rfl j).1.trans (((w1163).cx 922 rfl j).1.trans (((w1125).cx 922 rfl j).1.trans (((FR_e eU27).cx 922 rfl j).1.trans (((FR_e eU26).cx 922 rfl j).1.trans (((FR_e eU25).cx 922 rfl j).1)))))) a, (fun j => ((w1197).cx 924 rfl j).1.trans (((w1163).cx 924 rfl j).1.trans (((w1125).cx 924 rfl j).1.trans (((FR_e eU27).cx 924 rfl j).1.trans (((FR_e eU26).cx 924 rfl j).1.trans (((FR_e eU25).cx 924 rfl j).1)))))) a]; exact D267 a ha)) (And.intro rfl (True.intro))



