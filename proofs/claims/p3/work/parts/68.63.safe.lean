/-! SAFETY of methods: printed by wip/safe (vc.py, decl.py) -/
def md_mo_adds__2 : List rec := [(904, 905, 154, 155), (930, 931, 0, 100000), (931, 932, 0, 100000)]
abbrev Q_mo_adds__2 (S : sS) (q : Int) (noun : Int) (by_ : Int) : pst := fun r S1 => HI S1 ∧ FR md_mo_adds__2 S S1 ∧ (r = none ∧ (TXM S1))
set_option maxRecDepth 100000 in
theorem t_mo_adds__2 {S : sS} (hH : HI S) (q : Int) (noun : Int) (by_ : Int) (hq : 0 ≤ q ∧ q ≤ 2399) (hnoun : -1 ≤ noun ∧ noun ≤ 23) (hby_ : -2147483648 ≤ by_ ∧ by_ ≤ 2147483648) (hk : thK S False (0 ≤ noun) (Xi S 971 q.toNat)) (hp : 0 ≤ Xi S 972 q.toNat ∧ Xi S 972 q.toNat < Xi S 904 32 ∧ Xi S 928 (Xi S 972 q.toNat).toNat ≠ 1) (h2 : noun < Xi S 904 19) (hB : ABV S) (hX : TXM S) (d : Nat) : Mt lay0 (d + 2) m_mo_adds [.ref 904, iv q, iv noun, iv by_] S (Q_mo_adds__2 S q noun by_) := by
  refine Mt_R rfl rfl ?_
  have hF : FR md_mo_adds__2 S S := FR.rf
  have w1 : 0 ≤ Xi S 904 19 ∧ Xi S 904 19 ≤ 24 := hH.c _ _
  have w2 : 0 ≤ Xi S 904 32 ∧ Xi S 904 32 ≤ 12 := hH.c _ _
  have hc3 : 0 ≤ Xi S 904 23 ∧ Xi S 904 23 ≤ 24 := hH.c _ _
  have hc19 : 0 ≤ Xi S 904 19 ∧ Xi S 904 19 ≤ 24 := hH.c _ _
  have hc32 : 0 ≤ Xi S 904 32 ∧ Xi S 904 32 ≤ 12 := hH.c _ _
  refine l_aload_n rfl rfl ?_
  refine l_gfr rfl rfl rfl rfl rfl (hH.r 904 120 971 rfl) ?_
  refine l_iload_n rfl rfl ?_
  refine l_iaload (n := 2400) rfl rfl (by omega) (by omega) (by unfold rg; omega) ?_
  have w3 : -9 ≤ (Xi S 971 ((q).toNat)) ∧ (Xi S 971 ((q).toNat)) ≤ 23 := hH.c _ _
  refine l_iconst rfl ?_
  refine l_iload_n rfl rfl ?_
  refine l_callS rfl rfl (by decide) rfl (t_mo_thingIs hH (Xi S 971 ((q).toNat)) (-1) noun ⟨by omega, by omega⟩ ⟨by omega, by omega⟩ ⟨by omega, by omega⟩ _) ?_
  rintro _ _ ⟨rfl, z5, rfl, w5, w4⟩
  show Rl _ _ _ _ _ [iv z5] _ _
  have o8 : 0 ≤ z5 ∧ z5 < Xi S 904 19 := thk_i (it := -1) (noun := noun) hk (fun h => absurd h (fun f => f)) (fun h => h) (by omega) h2 (by assumption)
  refine l_istore rfl rfl rfl ?_
  refine l_aload_n rfl rfl ?_
  refine l_gfr rfl rfl rfl rfl rfl (hH.r 904 121 972 rfl) ?_
  refine l_iload_n rfl rfl ?_
  refine l_iaload (n := 2400) rfl rfl (by omega) (by omega) (by unfold rg; omega) ?_
  have w6 : -1 ≤ (Xi S 972 ((q).toNat)) ∧ (Xi S 972 ((q).toNat)) ≤ 11 := hH.c _ _
  refine l_istore rfl rfl rfl ?_
  refine l_aload_n rfl rfl ?_
  refine l_iload rfl rfl ?_
  refine l_iload rfl rfl ?_
  have w7 : 0 ≤ Xi S 904 19 ∧ Xi S 904 19 ≤ 24 := hH.c _ _
  refine l_callV rfl rfl rfl (t_mo_numberOf hH z5 (Xi S 972 ((q).toNat)) ⟨by omega, by omega⟩ ⟨by omega, by omega⟩ (by first | assumption | exact (ABV_FR hF rfl (by assumption : ABV S))) (by first | assumption | exact (by assumption : TXM S)) (by first | assumption | omega) _) ?_
  rintro _ T1 ⟨hHT1, w10, z9, rfl, w9, w8⟩
  have hFT1 : FR md_mo_adds__2 S T1 := FR.tr hF w10 rfl
  show Rl _ _ _ _ _ [iv z9] _ _
  have x26 : TXM T1 := TXM_FR (by assumption : FR md_mo_numberOf S T1) rfl hX
  have y26 : Xi T1 904 32 = Xi S 904 32 ∧ Xi T1 928 (Xi S 972 q.toNat).toNat = Xi S 928 (Xi S 972 q.toNat).toNat := ⟨hFT1.x 904 32 rfl, (hFT1.cx 928 rfl _).1⟩
  refine l_iload_n rfl rfl ?_
  refine l_iaddW rfl (fun c11 w11 => ?_)
  refine l_istore rfl rfl rfl ?_
  refine l_aload_n rfl rfl ?_
  refine l_gfr rfl rfl rfl rfl rfl (hHT1.r 904 35 930 rfl) ?_
  refine l_bipush rfl rfl ?_
  refine l_iload rfl rfl ?_
  refine l_imul rfl ?_
  refine l_iload rfl rfl ?_
  refine l_iadd rfl ?_
  refine l_iconst rfl ?_
  refine l_bastoreZ1 (n := 288) rfl rfl (by omega) (by omega) (by unfold rg; omega) ⟨by omega, by omega⟩ ?_
  obtain ⟨U2, eU2⟩ : ∃ T : sS, T = uI T1 930 ((((12 * z5) + (Xi S 972 ((q).toNat)))).toNat) (Int32.ofInt 1) := ⟨_, rfl⟩
  rw [← eU2]
  have hHU2 : HI U2 := by rw [eU2]; exact HI_w hHT1 (show 0 ≤ 1 by omega) (show 1 ≤ 1 by omega)
  have hFU2 : FR md_mo_adds__2 S U2 := by rw [eU2]; exact FR.wI hFT1 (mdf_i (r := (930, 931, 0, 100000)) (List.mem_of_getElem? (i := 1) rfl) (inR_i (by omega) (by omega) (by omega) (by omega)))
  have w12 : Xi U2 930 ((((12 * z5) + (Xi S 972 ((q).toNat)))).toNat) = 1 := by rw [eU2]; exact Xi_same (by unfold rg; omega)
  refine l_aload_n rfl rfl ?_
  refine l_gfr rfl rfl rfl rfl rfl (hHU2.r 904 36 931 rfl) ?_
  refine l_bipush rfl rfl ?_
  refine l_iload rfl rfl ?_
  refine l_imul rfl ?_
  refine l_iload rfl rfl ?_
  refine l_iadd rfl ?_
  refine l_ldcw (z := (-999999)) rfl rfl ?_
  refine l_ldcw (z := 999999) rfl rfl ?_
  refine l_iload rfl rfl ?_
  refine l_min rfl rfl rfl (by unfold rg; omega) (by unfold rg; omega) ?_
  refine l_max rfl rfl rfl (by unfold rg; omega) (by unfold rg; omega) ?_
  have m70 : -999999 ≤ (if (-999999) < (if c11 < 999999 then c11 else 999999) then (if c11 < 999999 then c11 else 999999) else (-999999)) ∧ (if (-999999) < (if c11 < 999999 then c11 else 999999) then (if c11 < 999999 then c11 else 999999) else (-999999)) ≤ 999999 := by refine ⟨?_, ?_⟩ <;> (split <;> (try split) <;> omega)
  refine l_iastore (n := 288) rfl rfl (by omega) (by omega) (by unfold rg; omega) ?_
  obtain ⟨U3, eU3⟩ : ∃ T : sS, T = uI U2 931 ((((12 * z5) + (Xi S 972 ((q).toNat)))).toNat) (Int32.ofInt (if (-999999) < (if c11 < 999999 then c11 else 999999) then (if c11 < 999999 then c11 else 999999) else (-999999))) := ⟨_, rfl⟩
  rw [← eU3]
  have hHU3 : HI U3 := by rw [eU3]; exact HI_any hHU2 (rfl)
  have hFU3 : FR md_mo_adds__2 S U3 := by rw [eU3]; exact FR.wI hFU2 (mdf_i (r := (931, 932, 0, 100000)) (List.mem_of_getElem? (i := 2) rfl) (inR_i (by omega) (by omega) (by omega) (by omega)))
  have w13 : Xi U3 931 ((((12 * z5) + (Xi S 972 ((q).toNat)))).toNat) = (if (-999999) < (if c11 < 999999 then c11 else 999999) then (if c11 < 999999 then c11 else 999999) else (-999999)) := by rw [eU3]; exact Xi_same (by unfold rg; omega)
  have x73 : TXM U3 := txm_a (o := z5) (p := (Xi S 972 ((q).toNat))) eU2 eU3 rfl (by omega) (by omega) (by omega) (by omega) (by unfold rg; omega) (by omega) x26
  refine l_return rfl rfl ?_
  exact ⟨hHU3, hFU3, rfl, (x73)⟩
def md_mo_action : List rec := [(904, 905, 154, 155), (904, 905, 156, 157), (904, 905, 158, 159), (904, 905, 160, 161), (904, 905, 161, 162), (904, 905, 162, 163), (919, 920, 0, 100000), (920, 921, 0, 100000), (925, 926, 0, 100000), (930, 931, 0, 100000), (931, 932, 0, 100000), (932, 933, 0, 100000), (940, 941, 0, 100000), (993, 994, 0, 100000), (994, 995, 0, 100000)]
abbrev Q_mo_action (S : sS) (a : Int) (noun : Int) (dd : Int) : pst := fun r S1 => HI S1 ∧ FR md_mo_action S S1 ∧ (∃ z : Int, r = some (iv z) ∧ (0 ≤ z ∧ z ≤ 5) ∧ (TXM S1) ∧ (WYM S1))
def md_mo_tries : List rec := [(904, 905, 154, 155), (904, 905, 156, 157), (904, 905, 158, 159), (904, 905, 160, 161), (904, 905, 161, 162), (904, 905, 162, 163), (919, 920, 0, 100000), (920, 921, 0, 100000), (925, 926, 0, 100000), (930, 931, 0, 100000), (931, 932, 0, 100000), (932, 933, 0, 100000), (940, 941, 0, 100000), (993, 994, 0, 100000), (994, 995, 0, 100000)]
abbrev Q_mo_tries (S : sS) (q : Int) (noun : Int) (dq : Int) : pst := fun r S1 => HI S1 ∧ FR md_mo_tries S S1 ∧ (r = none ∧ (TXM S1) ∧ (WYM S1))
set_option maxRecDepth 100000 in
theorem u_mo_tries {S : sS} (hH : HI S) (q : Int) (noun : Int) (dq : Int) (hq : 0 ≤ q ∧ q ≤ 2399) (hnoun : -1 ≤ noun ∧ noun ≤ 23) (hdq : 0 ≤ dq ∧ dq ≤ 8) (hk : 0 ≤ Xi S 972 q.toNat ∧ Xi S 972 q.toNat < Xi S 904 49) (hg : Xi S 970 q.toNat ≠ 0 → Xi S 942 (Xi S 972 q.toNat).toNat < 0) (ht : Xi S 970 q.toNat = 0 → thK S False (0 ≤ noun) (Xi S 971 q.toNat)) (h2 : noun < Xi S 904 19) (hX : TXM S) (hD : DEFM S) (hR : RULM S) (hB : ABV S) (hM : LXM S) (hW : WYM S) (hA : AKR S) (d : Nat) (hrec : ∀ {S : sS} (_ : HI S) (a : Int) (noun : Int) (dd : Int) (ha : 0 ≤ a ∧ a ≤ 11) (hnoun : -1 ≤ noun ∧ noun ≤ 23) (hdd : 0 ≤ dd ∧ dd ≤ 8) (hn : 0 ≤ Xi S 942 a.toNat → 0 ≤ noun) (h2 : 0 ≤ Xi S 942 a.toNat → noun < Xi S 904 19) (hX : TXM S) (hD : DEFM S) (hR : RULM S) (hB : ABV S) (hM : LXM S) (hW : WYM S) (hA : AKR S), (dq < 8 ∧ dd = dq + 1) → Mt lay0 (d + 29) m_mo_action [.ref 904, iv a, iv noun, iv dd] S (Q_mo_action S a noun dd)) : Mt lay0 (d + 30) m_mo_tries [.ref 904, iv q, iv noun, iv dq] S (Q_mo_tries S q noun dq) := by
  refine Mt_R rfl rfl ?_
  have hF : FR md_mo_tries S S := FR.rf
  have w1 : 0 ≤ Xi S 904 19 ∧ Xi S 904 19 ≤ 24 := hH.c _ _
  have w2 : 0 ≤ Xi S 904 49 ∧ Xi S 904 49 ≤ 12 := hH.c _ _
  have hc3 : 0 ≤ Xi S 904 23 ∧ Xi S 904 23 ≤ 24 := hH.c _ _
  have hc19 : 0 ≤ Xi S 904 19 ∧ Xi S 904 19 ≤ 24 := hH.c _ _
  have hc32 : 0 ≤ Xi S 904 32 ∧ Xi S 904 32 ≤ 12 := hH.c _ _
  have hc49 : 0 ≤ Xi S 904 49 ∧ Xi S 904 49 ≤ 12 := hH.c _ _
  refine l_aload_n rfl rfl ?_
  refine l_gfr rfl rfl rfl rfl rfl (hH.r 904 121 972 rfl) ?_
  refine l_iload_n rfl rfl ?_
  refine l_iaload (n := 2400) rfl rfl (by omega) (by omega) (by unfold rg; omega) ?_
  have w3 : -1 ≤ (Xi S 972 ((q).toNat)) ∧ (Xi S 972 ((q).toNat)) ≤ 11 := hH.c _ _
  refine l_istore rfl rfl rfl ?_
  refine l_iload_n rfl rfl ?_
  refine l_bipush rfl rfl ?_
  refine l_icmp_ne rfl rfl (by unfold rg; omega) (by unfold rg; omega) (fun w4 => ?_) (fun w5 => ?_)
  · refine l_aload_n rfl rfl ?_
    refine l_gfr rfl rfl rfl rfl rfl (hH.r 904 119 970 rfl) ?_
    refine l_iload_n rfl rfl ?_
    refine l_baload (n := 2400) rfl rfl rfl (by decide) (by omega) (by omega) (by unfold rg; omega) ?_
    have w6 : 0 ≤ (Xi S 970 ((q).toNat)) ∧ (Xi S 970 ((q).toNat)) ≤ 1 := hH.c _ _
    refine l_if_eq rfl rfl (by unfold rg; omega) (fun w7 => ?_) (fun w8 => ?_)
    · refine l_aload_n rfl rfl ?_
      refine l_gfr rfl rfl rfl rfl rfl (hH.r 904 120 971 rfl) ?_
      refine l_iload_n rfl rfl ?_
      refine l_iaload (n := 2400) rfl rfl (by omega) (by omega) (by unfold rg; omega) ?_
      have w9 : -9 ≤ (Xi S 971 ((q).toNat)) ∧ (Xi S 971 ((q).toNat)) ≤ 23 := hH.c _ _
      refine l_iconst rfl ?_
      refine l_iload_n rfl rfl ?_
      refine l_callS rfl rfl (by decide) rfl (t_mo_thingIs hH (Xi S 971 ((q).toNat)) (-1) noun ⟨by omega, by omega⟩ ⟨by omega, by omega⟩ ⟨by omega, by omega⟩ _) ?_
      rintro _ _ ⟨rfl, z11, rfl, w11, w10⟩
      show Rl _ _ _ _ _ [iv z11] _ _
      have o44 : 0 ≤ z11 ∧ z11 < Xi S 904 19 := thk_i (it := -1) (noun := noun) (ht (by omega)) (fun h => absurd h (fun f => f)) (fun h => h) (by omega) h2 (by assumption)
      refine l_istore rfl rfl rfl ?_
      refine l_aload_n rfl rfl ?_
      refine l_aload_n rfl rfl ?_
      refine l_gfr rfl rfl rfl rfl rfl (hH.r 904 20 918 rfl) ?_
      refine l_iload rfl rfl ?_
      refine l_iaload (n := 24) rfl rfl (by omega) (by omega) (by unfold rg; omega) ?_
      have w12 : 0 ≤ (Xi S 918 ((z11).toNat)) ∧ (Xi S 918 ((z11).toNat)) ≤ 15 := hH.c _ _
      refine l_aload_n rfl rfl ?_
      refine l_gfr rfl rfl rfl rfl rfl (hH.r 904 50 942 rfl) ?_
      refine l_iload rfl rfl ?_
      refine l_iaload (n := 12) rfl rfl (by omega) (by omega) (by unfold rg; omega) ?_
      have w13 : -2 ≤ (Xi S 942 (((Xi S 972 ((q).toNat))).toNat)) ∧ (Xi S 942 (((Xi S 972 ((q).toNat))).toNat)) ≤ 15 := hH.c _ _
      refine l_callV rfl rfl rfl (t_mo_isBelow hH (Xi S 918 ((z11).toNat)) (Xi S 942 (((Xi S 972 ((q).toNat))).toNat)) ⟨by omega, by omega⟩ ⟨by omega, by omega⟩ (by first | assumption | exact (ABV_FR hF rfl (by assumption : ABV S))) _) ?_
      rintro _ _ ⟨rfl, z15, rfl, w15, w14⟩
      show Rl _ _ _ _ _ [iv z15] _ _
      have b64 : z15 = 1 → 0 ≤ Xi S 942 (Xi S 972 q.toNat).toNat := fun e => by omega
      refine l_if_eq rfl rfl (by unfold rg; omega) (fun w16 => ?_) (fun w17 => ?_)
      · refine l_return rfl rfl ?_
        exact ⟨hH, hF, rfl, (by first | assumption | exact hX), (by first | assumption | exact hW)⟩
      · refine l_aload_n rfl rfl ?_
        refine l_iload rfl rfl ?_
        refine l_iload rfl rfl ?_
        refine l_iload_n rfl rfl ?_
        refine l_iconst rfl ?_
        refine l_iadd rfl ?_
        have w18 : 0 ≤ Xi S 904 19 ∧ Xi S 904 19 ≤ 24 := hH.c _ _
        refine l_callV rfl rfl rfl (hrec hH (Xi S 972 ((q).toNat)) z11 (dq + 1) ⟨by omega, by omega⟩ ⟨by omega, by omega⟩ ⟨by omega, by omega⟩ (by omega) (by omega) (by first | assumption | exact (by assumption : TXM S)) (by first | assumption | exact (DEFM_FR hF rfl (by assumption : DEFM S))) (by first | assumption | exact (RULM_FR hF rfl (by assumption : RULM S))) (by first | assumption | exact (ABV_FR hF rfl (by assumption : ABV S))) (by first | assumption | exact (LXM_FR hF rfl (by assumption : LXM S))) (by first | assumption | exact (by assumption : WYM S)) (by first | assumption | exact (AKR_FR hF rfl (by assumption : AKR S))) (by omega)) ?_
        rintro _ T1 ⟨hHT1, w22, z21, rfl, w21, w19, w20⟩
        have hFT1 : FR md_mo_tries S T1 := FR.tr hF w22 rfl
        show Rl _ _ _ _ _ [iv z21] _ _
        refine l_pop rfl rfl ?_
        refine l_return rfl rfl ?_
        exact ⟨hHT1, hFT1, rfl, (by first | assumption | exact hX), (by first | assumption | exact hW)⟩
    · refine l_aload_n rfl rfl ?_
      refine l_iload rfl rfl ?_
      refine l_iconst rfl ?_
      refine l_iload_n rfl rfl ?_
      refine l_iconst rfl ?_
      refine l_iadd rfl ?_
      have w23 : 0 ≤ Xi S 904 19 ∧ Xi S 904 19 ≤ 24 := hH.c _ _
      refine l_callV rfl rfl rfl (hrec hH (Xi S 972 ((q).toNat)) (-1) (dq + 1) ⟨by omega, by omega⟩ ⟨by omega, by omega⟩ ⟨by omega, by omega⟩ (by omega) (by omega) (by first | assumption | exact (by assumption : TXM S)) (by first | assumption | exact (DEFM_FR hF rfl (by assumption : DEFM S))) (by first | assumption | exact (RULM_FR hF rfl (by assumption : RULM S))) (by first | assumption | exact (ABV_FR hF rfl (by assumption : ABV S))) (by first | assumption | exact (LXM_FR hF rfl (by assumption : LXM S))) (by first | assumption | exact (by assumption : WYM S)) (by first | assumption | exact (AKR_FR hF rfl (by assumption : AKR S))) (by omega)) ?_
      rintro _ T2 ⟨hHT2, w27, z26, rfl, w26, w24, w25⟩
      have hFT2 : FR md_mo_tries S T2 := FR.tr hF w27 rfl
      show Rl _ _ _ _ _ [iv z26] _ _
      refine l_pop rfl rfl ?_
      refine l_return rfl rfl ?_
      exact ⟨hHT2, hFT2, rfl, (by first | assumption | exact hX), (by first | assumption | exact hW)⟩
  · refine l_return rfl rfl ?_
    exact ⟨hH, hF, rfl, (by first | assumption | exact hX), (by first | assumption | exact hW)⟩
def md_mo_runs : List rec := [(904, 905, 154, 155), (904, 905, 156, 157), (904, 905, 158, 159), (904, 905, 160, 161), (904, 905, 161, 162), (904, 905, 162, 163), (919, 920, 0, 100000), (920, 921, 0, 100000), (925, 926, 0, 100000), (930, 931, 0, 100000), (931, 932, 0, 100000), (932, 933, 0, 100000), (940, 941, 0, 100000), (993, 994, 0, 100000), (994, 995, 0, 100000)]
abbrev Q_mo_runs (S : sS) (ri : Int) (noun : Int) (dr : Int) : pst := fun r S1 => HI S1 ∧ FR md_mo_runs S S1 ∧ (∃ z : Int, r = some (iv z) ∧ (0 ≤ z ∧ z ≤ 1) ∧ (TXM S1) ∧ (WYM S1))
set_option maxRecDepth 100000 in
theorem u_mo_runs {S : sS} (hH : HI S) (ri : Int) (noun : Int) (dr : Int) (hri : 0 ≤ ri ∧ ri ≤ 23) (hnoun : -1 ≤ noun ∧ noun ≤ 23) (hdr : 0 ≤ dr ∧ dr ≤ 8) (hr : ri < Xi S 904 130) (hn : nM S ri.toNat → 0 ≤ noun) (h2 : noun < Xi S 904 19) (hX : TXM S) (hD : DEFM S) (hR : RULM S) (hB : ABV S) (hM : LXM S) (hW : WYM S) (hA : AKR S) (d : Nat) (hrec : ∀ {S : sS} (_ : HI S) (q : Int) (noun : Int) (dq : Int) (hq : 0 ≤ q ∧ q ≤ 2399) (hnoun : -1 ≤ noun ∧ noun ≤ 23) (hdq : 0 ≤ dq ∧ dq ≤ 8) (hk : 0 ≤ Xi S 972 q.toNat ∧ Xi S 972 q.toNat < Xi S 904 49) (hg : Xi S 970 q.toNat ≠ 0 → Xi S 942 (Xi S 972 q.toNat).toNat < 0) (ht : Xi S 970 q.toNat = 0 → thK S False (0 ≤ noun) (Xi S 971 q.toNat)) (h2 : noun < Xi S 904 19) (hX : TXM S) (hD : DEFM S) (hR : RULM S) (hB : ABV S) (hM : LXM S) (hW : WYM S) (hA : AKR S), (dq = dr) → Mt lay0 (d + 30) m_mo_tries [.ref 904, iv q, iv noun, iv dq] S (Q_mo_tries S q noun dq)) : Mt lay0 (d + 31) m_mo_runs [.ref 904, iv ri, iv noun, iv dr] S (Q_mo_runs S ri noun dr) := by
  refine Mt_R rfl rfl ?_
  have hF : FR md_mo_runs S S := FR.rf
  have w1 : 0 ≤ Xi S 904 130 ∧ Xi S 904 130 ≤ 24 := hH.c _ _
  have w2 : 0 ≤ Xi S 904 19 ∧ Xi S 904 19 ≤ 24 := hH.c _ _
  have hc3 : 0 ≤ Xi S 904 23 ∧ Xi S 904 23 ≤ 24 := hH.c _ _
  have hc19 : 0 ≤ Xi S 904 19 ∧ Xi S 904 19 ≤ 24 := hH.c _ _
  have hc32 : 0 ≤ Xi S 904 32 ∧ Xi S 904 32 ≤ 12 := hH.c _ _
  have hr1 := (hR ri.toNat (by omega)).1
  have h986 : 0 ≤ Xi S 986 ri.toNat ∧ Xi S 986 ri.toNat ≤ 192 := hH.c 986 ri.toNat
  have h987 : 0 ≤ Xi S 987 ri.toNat ∧ Xi S 987 ri.toNat ≤ 8 := hH.c 987 ri.toNat
  have C3 : ∀ (n3 : Nat) (T1 : sS) (_ : HI T1) (_ : FR md_mo_runs S T1) (v4 : Int), (0 ≤ v4 ∧ v4 ≤ 8) → (TXM T1) → (WYM T1) → n3 = (9 - v4).toNat → Rl lay0 (d + 30) m_mo_runs 3 [(0, .ref 904), (1, iv ri), (2, iv noun), (3, iv dr), (4, iv v4)] [] T1 (Q_mo_runs S ri noun dr) := by
    intro n3
    induction n3 using Nat.strongRecOn with
    | ind n3 ih3 =>
      intro T1 hHT1 hFT1 v4 w3 hX3 hW3 hm3
      have w4 : Xi T1 904 130 = Xi S 904 130 := hFT1.x _ _ rfl
      have w5 : Xi T1 904 19 = Xi S 904 19 := hFT1.x _ _ rfl
      have w6 : Xi T1 904 32 = Xi S 904 32 := hFT1.x _ _ rfl
      have w7 : Xi T1 904 49 = Xi S 904 49 := hFT1.x _ _ rfl
      refine l_iload rfl rfl ?_
      refine l_aload_n rfl rfl ?_
      refine l_gfr rfl rfl rfl rfl rfl (hHT1.r 904 140 987 rfl) ?_
      refine l_iload_n rfl rfl ?_
      refine l_iaload (n := 24) rfl rfl (by omega) (by omega) (by unfold rg; omega) ?_
      have w8 : 0 ≤ (Xi T1 987 ((ri).toNat)) ∧ (Xi T1 987 ((ri).toNat)) ≤ 8 := hHT1.c _ _
      have e10 : (Xi T1 987 ((ri).toNat)) = Xi S 987 ri.toNat := by first | rfl | exact (hFT1.cx 987 rfl _).1
      refine l_icmp_ge rfl rfl (by unfold rg; omega) (by unfold rg; omega) (fun w9 => ?_) (fun w10 => ?_)
      · refine l_iconst rfl ?_
        refine l_ireturn rfl rfl ?_
        exact ⟨hHT1, hFT1, _, rfl, ⟨by omega, by omega⟩, (by first | assumption | exact (by assumption : TXM T1)), (by first | assumption | exact (by assumption : WYM T1))⟩
      · refine l_aload_n rfl rfl ?_
        refine l_gfi rfl rfl rfl rfl rfl ?_
        have w11 : 0 ≤ (Xi T1 904 162) ∧ (Xi T1 904 162) ≤ 1 := hHT1.c _ _
        refine l_if_ne rfl rfl (by unfold rg; omega) (fun w12 => ?_) (fun w13 => ?_)
        · refine l_iconst rfl ?_
          refine l_ireturn rfl rfl ?_
          exact ⟨hHT1, hFT1, _, rfl, ⟨by omega, by omega⟩, (by first | assumption | exact (by assumption : TXM T1)), (by first | assumption | exact (by assumption : WYM T1))⟩
        · refine l_aload_n rfl rfl ?_
          refine l_gfi rfl rfl rfl rfl rfl ?_
          have w14 : 0 ≤ (Xi T1 904 161) ∧ (Xi T1 904 161) ≤ 300 := hHT1.c _ _
          refine l_sipush rfl rfl ?_
          refine l_icmp_ne rfl rfl (by unfold rg; omega) (by unfold rg; omega) (fun w15 => ?_) (fun w16 => ?_)
          · refine l_aload_n rfl rfl ?_
            refine l_dup rfl rfl ?_
            refine l_gfi rfl rfl rfl rfl rfl ?_
            refine l_iconst rfl ?_
            refine l_iadd rfl ?_
            refine l_pfi rfl rfl rfl rfl ?_
            obtain ⟨U2, eU2⟩ : ∃ T : sS, T = uI T1 904 161 (Int32.ofInt ((Xi T1 904 161) + 1)) := ⟨_, rfl⟩
            rw [← eU2]
            have hHU2 : HI U2 := by rw [eU2]; exact HI_w hHT1 (show 0 ≤ ((Xi T1 904 161) + 1) by omega) (show ((Xi T1 904 161) + 1) ≤ 300 by omega)
            have hFU2 : FR md_mo_runs S U2 := by rw [eU2]; exact FR.wI hFT1 (mdf_i (r := (904, 905, 161, 162)) (List.mem_of_getElem? (i := 4) rfl) (inR_i (by omega) (by omega) (by omega) (by omega)))
            have w17 : Xi U2 904 161 = ((Xi T1 904 161) + 1) := by rw [eU2]; exact Xi_same (by unfold rg; omega)
            refine l_aload_n rfl rfl ?_
            refine l_gfr rfl rfl rfl rfl rfl (hHU2.r 904 127 977 rfl) ?_
            refine l_aload_n rfl rfl ?_
            refine l_gfr rfl rfl rfl rfl rfl (hHU2.r 904 139 986 rfl) ?_
            refine l_iload_n rfl rfl ?_
            refine l_iaload (n := 24) rfl rfl (by omega) (by omega) (by unfold rg; omega) ?_
            have w18 : 0 ≤ (Xi U2 986 ((ri).toNat)) ∧ (Xi U2 986 ((ri).toNat)) ≤ 192 := hHU2.c _ _
            have e57 : (Xi U2 986 ((ri).toNat)) = Xi S 986 ri.toNat := by first | rfl | exact (hFU2.cx 986 rfl _).1
            refine l_iload rfl rfl ?_
            refine l_iadd rfl ?_
            refine l_iaload (n := 2000) rfl rfl (by omega) (by omega) (by unfold rg; omega) ?_
            have w19 : 0 ≤ (Xi U2 977 ((((Xi U2 986 ((ri).toNat)) + v4)).toNat)) ∧ (Xi U2 977 ((((Xi U2 986 ((ri).toNat)) + v4)).toNat)) ≤ 2400 := hHU2.c _ _
            have hp61 : PQ U2 (nM S ri.toNat) (Xi U2 986 ri.toNat + v4).toNat := by rw [(hFU2.cx 986 rfl _).1]; exact PQ_FR hFU2 rfl (rul_ph hR (by omega) hr (i := v4) (by omega) (by omega) (by omega) rfl)
            have y61 : Xi U2 904 19 = Xi S 904 19 := hFU2.x 904 19 rfl
            have q61 : 0 ≤ (Xi U2 977 ((((Xi U2 986 ((ri).toNat)) + v4)).toNat)) ∧ (Xi U2 977 ((((Xi U2 986 ((ri).toNat)) + v4)).toNat)) < 2400 := ⟨(hHU2.c 977 _).1, hp61.1⟩
            refine l_istore rfl rfl rfl ?_
            refine l_aload_n rfl rfl ?_
            refine l_gfr rfl rfl rfl rfl rfl (hHU2.r 904 126 976 rfl) ?_
            refine l_aload_n rfl rfl ?_
            refine l_gfr rfl rfl rfl rfl rfl (hHU2.r 904 139 986 rfl) ?_
            refine l_iload_n rfl rfl ?_
            refine l_iaload (n := 24) rfl rfl (by omega) (by omega) (by unfold rg; omega) ?_
            have e73 : (Xi U2 986 ((ri).toNat)) = Xi S 986 ri.toNat := by first | rfl | exact (hFU2.cx 986 rfl _).1
            refine l_iload rfl rfl ?_
            refine l_iadd rfl ?_
            refine l_iaload (n := 2000) rfl rfl (by omega) (by omega) (by unfold rg; omega) ?_
            have w20 : 0 ≤ (Xi U2 976 ((((Xi U2 986 ((ri).toNat)) + v4)).toNat)) ∧ (Xi U2 976 ((((Xi U2 986 ((ri).toNat)) + v4)).toNat)) ≤ 6 := hHU2.c _ _
            refine l_tsw rfl rfl rfl rfl (by unfold rg; omega) (fun w21 => ?_) (fun ii tt hii w21 => ?_)
            · refine l_iconst rfl ?_
              refine l_ireturn rfl rfl ?_
              exact ⟨hHU2, hFU2, _, rfl, ⟨by omega, by omega⟩, (by first | assumption | exact (TXM_FR (FR_e eU2) rfl (by assumption : TXM T1))), (by first | assumption | exact (WYM_FR (FR_e eU2) rfl (by assumption : WYM T1)))⟩
            · match ii, hii with
              | 0, hii =>
                cases hii
                have w22 : (Xi U2 976 ((((Xi U2 986 ((ri).toNat)) + v4)).toNat)) = 0 := by simpa using w21
                refine l_aload_n rfl rfl ?_
                refine l_iload_n rfl rfl ?_
                refine l_pfi rfl rfl rfl rfl ?_
                obtain ⟨U3, eU3⟩ : ∃ T : sS, T = uI U2 904 158 (Int32.ofInt noun) := ⟨_, rfl⟩
                rw [← eU3]
                have hHU3 : HI U3 := by rw [eU3]; exact HI_w hHU2 (show -1 ≤ noun by omega) (show noun ≤ 23 by omega)
                have hFU3 : FR md_mo_runs S U3 := by rw [eU3]; exact FR.wI hFU2 (mdf_i (r := (904, 905, 158, 159)) (List.mem_of_getElem? (i := 2) rfl) (inR_i (by omega) (by omega) (by omega) (by omega)))
                have w23 : Xi U3 904 158 = noun := by rw [eU3]; exact Xi_same (by unfold rg; omega)
                have x118 : TXM U3 := TXM_FR (FR_e eU3) rfl (TXM_FR (FR_e eU2) rfl hX3)
                have z118 : 0 ≤ Xi U3 973 ((Xi U2 977 ((((Xi U2 986 ((ri).toNat)) + v4)).toNat))).toNat ∧ 0 ≤ Xi U3 974 ((Xi U2 977 ((((Xi U2 986 ((ri).toNat)) + v4)).toNat))).toNat ∧ Xi U3 973 ((Xi U2 977 ((((Xi U2 986 ((ri).toNat)) + v4)).toNat))).toNat + Xi U3 974 ((Xi U2 977 ((((Xi U2 986 ((ri).toNat)) + v4)).toNat))).toNat ≤ 5000 := by have t := hp61.2.1 (by omega); rw [((FR_e eU3).cx 973 rfl _).1, ((FR_e eU3).cx 974 rfl _).1]; exact t
                refine l_aload_n rfl rfl ?_
                refine l_aload_n rfl rfl ?_
                refine l_gfr rfl rfl rfl rfl rfl (hHU3.r 904 122 973 rfl) ?_
                refine l_iload rfl rfl ?_
                refine l_iaload (n := 2400) rfl rfl (by omega) (by omega) (by unfold rg; omega) ?_
                have w24 : -2147483648 ≤ (Xi U3 973 (((Xi U2 977 ((((Xi U2 986 ((ri).toNat)) + v4)).toNat))).toNat)) ∧ (Xi U3 973 (((Xi U2 977 ((((Xi U2 986 ((ri).toNat)) + v4)).toNat))).toNat)) ≤ 2147483647 := Xi_rgI
                refine l_aload_n rfl rfl ?_
                refine l_gfr rfl rfl rfl rfl rfl (hHU3.r 904 123 974 rfl) ?_
                refine l_iload rfl rfl ?_
                refine l_iaload (n := 2400) rfl rfl (by omega) (by omega) (by unfold rg; omega) ?_
                have w25 : -2147483648 ≤ (Xi U3 974 (((Xi U2 977 ((((Xi U2 986 ((ri).toNat)) + v4)).toNat))).toNat)) ∧ (Xi U3 974 (((Xi U2 977 ((((Xi U2 986 ((ri).toNat)) + v4)).toNat))).toNat)) ≤ 2147483647 := Xi_rgI
                have w26 : -1 ≤ Xi U3 904 158 ∧ Xi U3 904 158 ≤ 23 := hHU3.c _ _
                have w27 : Xi U3 904 19 = Xi T1 904 19 := (show Xi U3 904 19 = Xi U2 904 19 from by rw [eU3]; exact Xi_ne (by omega)).trans ((show Xi U2 904 19 = Xi T1 904 19 from by rw [eU2]; exact Xi_ne (by omega)))
                have w28 : 0 ≤ Xi T1 904 19 ∧ Xi T1 904 19 ≤ 24 := hHT1.c _ _
                refine l_callV rfl rfl rfl (t_mo_written hHU3 (Xi U3 973 (((Xi U2 977 ((((Xi U2 986 ((ri).toNat)) + v4)).toNat))).toNat)) (Xi U3 974 (((Xi U2 977 ((((Xi U2 986 ((ri).toNat)) + v4)).toNat))).toNat)) ⟨by omega, by omega⟩ ⟨by omega, by omega⟩ (by first | assumption | omega) (by first | assumption | exact (LXM_FR hFU3 rfl (by assumption : LXM S))) (by first | assumption | exact (ABV_FR hFU3 rfl (by assumption : ABV S))) (by first | assumption | exact (TXM_FR (FR_e eU3) rfl (TXM_FR (FR_e eU2) rfl (by assumption : TXM T1)))) (by omega) _) ?_
                rintro _ T4 ⟨hHT4, w30, z29, rfl, w29⟩
                have hFT4 : FR md_mo_runs S T4 := FR.tr hFU3 w30 rfl
                show Rl _ _ _ _ _ [iv z29] _ _
                refine l_pop rfl rfl ?_
                refine l_aload_n rfl rfl ?_
                refine l_bipush rfl rfl ?_
                refine l_callV rfl rfl rfl (t_mo_put hHT4 10 ⟨by omega, by omega⟩ _) ?_
                rintro _ T5 ⟨hHT5, w32, rfl⟩
                have hFT5 : FR md_mo_runs S T5 := FR.tr hFT4 w32 rfl
                show Rl _ _ _ _ _ [] _ _
                refine l_goto rfl rfl ?_
                refine l_iinc rfl rfl rfl rfl ?_
                refine l_goto rfl rfl ?_
                exact Rl_weak (ih3 _ (by omega) T5 hHT5 hFT5 ((v4 + 1)) (by omega) (by first | assumption | exact (TXM_FR w32 rfl (TXM_FR w30 rfl (TXM_FR (FR_e eU3) rfl (TXM_FR (FR_e eU2) rfl (by assumption : TXM T1)))))) (by first | assumption | exact (WYM_FR w32 rfl (WYM_FR w30 rfl (WYM_FR (FR_e eU3) rfl (WYM_FR (FR_e eU2) rfl (by assumption : WYM T1)))))) rfl) (And.intro rfl (And.intro rfl (And.intro rfl (And.intro rfl (And.intro rfl (True.intro))))))
              | 1, hii =>
                cases hii
                have w33 : (Xi U2 976 ((((Xi U2 986 ((ri).toNat)) + v4)).toNat)) = 1 := by simpa using w21
                refine l_aload_n rfl rfl ?_
                refine l_iload rfl rfl ?_
                refine l_iload_n rfl rfl ?_
                have w34 : Xi U2 904 19 = Xi T1 904 19 := (show Xi U2 904 19 = Xi T1 904 19 from by rw [eU2]; exact Xi_ne (by omega))
                have w35 : 0 ≤ Xi T1 904 19 ∧ Xi T1 904 19 ≤ 24 := hHT1.c _ _
                refine l_callV rfl rfl rfl (t_mo_nows hHU2 (Xi U2 977 ((((Xi U2 986 ((ri).toNat)) + v4)).toNat)) noun ⟨by omega, by omega⟩ ⟨by omega, by omega⟩ ((hp61.2.2.1 (by omega)).mono hn) (by omega) (by first | assumption | exact (TXM_FR (FR_e eU2) rfl (by assumption : TXM T1))) _) ?_
                rintro _ T6 ⟨hHT6, w38, rfl, w36⟩
                have hFT6 : FR md_mo_runs S T6 := FR.tr hFU2 w38 rfl
                show Rl _ _ _ _ _ [] _ _
                have x153 : TXM T6 := by assumption
                refine l_goto rfl rfl ?_
                refine l_iinc rfl rfl rfl rfl ?_
                refine l_goto rfl rfl ?_
                exact Rl_weak (ih3 _ (by omega) T6 hHT6 hFT6 ((v4 + 1)) (by omega) (by first | assumption | exact (by assumption : TXM T6)) (by first | assumption | exact (WYM_FR w38 rfl (WYM_FR (FR_e eU2) rfl (by assumption : WYM T1)))) rfl) (And.intro rfl (And.intro rfl (And.intro rfl (And.intro rfl (And.intro rfl (True.intro))))))
              | 2, hii =>
                cases hii
                have w39 : (Xi U2 976 ((((Xi U2 986 ((ri).toNat)) + v4)).toNat)) = 2 := by simpa using w21
                refine l_aload_n rfl rfl ?_
                refine l_aload_n rfl rfl ?_
                refine l_gfr rfl rfl rfl rfl rfl (hHU2.r 904 120 971 rfl) ?_
                refine l_iload rfl rfl ?_
                refine l_iaload (n := 2400) rfl rfl (by omega) (by omega) (by unfold rg; omega) ?_
                have w40 : -9 ≤ (Xi U2 971 (((Xi U2 977 ((((Xi U2 986 ((ri).toNat)) + v4)).toNat))).toNat)) ∧ (Xi U2 971 (((Xi U2 977 ((((Xi U2 986 ((ri).toNat)) + v4)).toNat))).toNat)) ≤ 23 := hHU2.c _ _
                refine l_iconst rfl ?_
                refine l_iload_n rfl rfl ?_
                refine l_callS rfl rfl (by decide) rfl (t_mo_thingIs hHU2 (Xi U2 971 (((Xi U2 977 ((((Xi U2 986 ((ri).toNat)) + v4)).toNat))).toNat)) (-1) noun ⟨by omega, by omega⟩ ⟨by omega, by omega⟩ ⟨by omega, by omega⟩ _) ?_
                rintro _ _ ⟨rfl, z42, rfl, w42, w41⟩
                show Rl _ _ _ _ _ [iv z42, .ref 904] _ _
                have o169 : 0 ≤ z42 ∧ z42 < Xi U2 904 19 := thk_i (it := -1) (noun := noun) ((hp61.2.2.2.1 (by omega)).1.mono hn) (fun h => absurd h (fun f => f)) (fun h => h) (by omega) (by omega) (by assumption)
                refine l_aload_n rfl rfl ?_
                refine l_gfr rfl rfl rfl rfl rfl (hHU2.r 904 124 975 rfl) ?_
                refine l_iload rfl rfl ?_
                refine l_iaload (n := 2400) rfl rfl (by omega) (by omega) (by unfold rg; omega) ?_
                have w43 : -9 ≤ (Xi U2 975 (((Xi U2 977 ((((Xi U2 986 ((ri).toNat)) + v4)).toNat))).toNat)) ∧ (Xi U2 975 (((Xi U2 977 ((((Xi U2 986 ((ri).toNat)) + v4)).toNat))).toNat)) ≤ 23 := hHU2.c _ _
                refine l_iconst rfl ?_
                refine l_iload_n rfl rfl ?_
                refine l_callS rfl rfl (by decide) rfl (t_mo_thingIs hHU2 (Xi U2 975 (((Xi U2 977 ((((Xi U2 986 ((ri).toNat)) + v4)).toNat))).toNat)) (-1) noun ⟨by omega, by omega⟩ ⟨by omega, by omega⟩ ⟨by omega, by omega⟩ _) ?_
                rintro _ _ ⟨rfl, z45, rfl, w45, w44⟩
                show Rl _ _ _ _ _ [iv z45, iv z42, .ref 904] _ _
                have o181 : 0 ≤ z45 ∧ z45 < Xi U2 904 19 := thk_i (it := -1) (noun := noun) ((hp61.2.2.2.1 (by omega)).2.mono hn) (fun h => absurd h (fun f => f)) (fun h => h) (by omega) (by omega) (by assumption)
                refine l_callV rfl rfl rfl (t_mo_moves hHU2 z42 z45 ⟨by omega, by omega⟩ ⟨by omega, by omega⟩ (by first | assumption | exact (ABV_FR hFU2 rfl (by assumption : ABV S))) (by first | assumption | exact (WYM_FR (FR_e eU2) rfl (by assumption : WYM T1))) _) ?_
                rintro _ T7 ⟨hHT7, w48, rfl, w46⟩
                have hFT7 : FR md_mo_runs S T7 := FR.tr hFU2 w48 rfl
                show Rl _ _ _ _ _ [] _ _
                refine l_goto rfl rfl ?_
                refine l_iinc rfl rfl rfl rfl ?_
                refine l_goto rfl rfl ?_
                exact Rl_weak (ih3 _ (by omega) T7 hHT7 hFT7 ((v4 + 1)) (by omega) (by first | assumption | exact (TXM_FR w48 rfl (TXM_FR (FR_e eU2) rfl (by assumption : TXM T1)))) (by first | assumption | exact (by assumption : WYM T7)) rfl) (And.intro rfl (And.intro rfl (And.intro rfl (And.intro rfl (And.intro rfl (True.intro))))))
              | 3, hii =>
                cases hii
                have w49 : (Xi U2 976 ((((Xi U2 986 ((ri).toNat)) + v4)).toNat)) = 3 := by simpa using w21
                refine l_aload_n rfl rfl ?_
                refine l_iload rfl rfl ?_
                refine l_iload_n rfl rfl ?_
                refine l_aload_n rfl rfl ?_
                refine l_gfr rfl rfl rfl rfl rfl (hHU2.r 904 122 973 rfl) ?_
                refine l_iload rfl rfl ?_
                refine l_iaload (n := 2400) rfl rfl (by omega) (by omega) (by unfold rg; omega) ?_
                have w50 : -2147483648 ≤ (Xi U2 973 (((Xi U2 977 ((((Xi U2 986 ((ri).toNat)) + v4)).toNat))).toNat)) ∧ (Xi U2 973 (((Xi U2 977 ((((Xi U2 986 ((ri).toNat)) + v4)).toNat))).toNat)) ≤ 2147483647 := Xi_rgI
                have w51 : Xi U2 904 19 = Xi T1 904 19 := (show Xi U2 904 19 = Xi T1 904 19 from by rw [eU2]; exact Xi_ne (by omega))
                have w52 : 0 ≤ Xi T1 904 19 ∧ Xi T1 904 19 ≤ 24 := hHT1.c _ _
                have w53 : Xi U2 904 32 = Xi T1 904 32 := (show Xi U2 904 32 = Xi T1 904 32 from by rw [eU2]; exact Xi_ne (by omega))
                have w54 : 0 ≤ Xi T1 904 32 ∧ Xi T1 904 32 ≤ 12 := hHT1.c _ _
                refine l_callV rfl rfl rfl (t_mo_adds hHU2 (Xi U2 977 ((((Xi U2 986 ((ri).toNat)) + v4)).toNat)) noun (Xi U2 973 (((Xi U2 977 ((((Xi U2 986 ((ri).toNat)) + v4)).toNat))).toNat)) ⟨by omega, by omega⟩ ⟨by omega, by omega⟩ ⟨by omega, by omega⟩ ((hp61.2.2.2.2.1 (by omega)).1.mono hn) ((hp61.2.2.2.2.1 (by omega)).2) (by omega) (by first | assumption | exact (ABV_FR hFU2 rfl (by assumption : ABV S))) (by first | assumption | exact (TXM_FR (FR_e eU2) rfl (by assumption : TXM T1))) _) ?_
                rintro _ T8 ⟨hHT8, w57, rfl, w55⟩
                have hFT8 : FR md_mo_runs S T8 := FR.tr hFU2 w57 rfl
                show Rl _ _ _ _ _ [] _ _
                have x201 : TXM T8 := by assumption
                refine l_goto rfl rfl ?_
                refine l_iinc rfl rfl rfl rfl ?_
                refine l_goto rfl rfl ?_
                exact Rl_weak (ih3 _ (by omega) T8 hHT8 hFT8 ((v4 + 1)) (by omega) (by first | assumption | exact (by assumption : TXM T8)) (by first | assumption | exact (WYM_FR w57 rfl (WYM_FR (FR_e eU2) rfl (by assumption : WYM T1)))) rfl) (And.intro rfl (And.intro rfl (And.intro rfl (And.intro rfl (And.intro rfl (True.intro))))))
              | 4, hii =>
                cases hii
                have w58 : (Xi U2 976 ((((Xi U2 986 ((ri).toNat)) + v4)).toNat)) = 4 := by simpa using w21
                refine l_aload_n rfl rfl ?_
                refine l_iload rfl rfl ?_
                refine l_iload_n rfl rfl ?_
                refine l_aload_n rfl rfl ?_
                refine l_gfr rfl rfl rfl rfl rfl (hHU2.r 904 122 973 rfl) ?_
                refine l_iload rfl rfl ?_
                refine l_iaload (n := 2400) rfl rfl (by omega) (by omega) (by unfold rg; omega) ?_
                have w59 : -2147483648 ≤ (Xi U2 973 (((Xi U2 977 ((((Xi U2 986 ((ri).toNat)) + v4)).toNat))).toNat)) ∧ (Xi U2 973 (((Xi U2 977 ((((Xi U2 986 ((ri).toNat)) + v4)).toNat))).toNat)) ≤ 2147483647 := Xi_rgI
                refine l_ineg rfl ?_
                have w60 : Xi U2 904 19 = Xi T1 904 19 := (show Xi U2 904 19 = Xi T1 904 19 from by rw [eU2]; exact Xi_ne (by omega))
                have w61 : 0 ≤ Xi T1 904 19 ∧ Xi T1 904 19 ≤ 24 := hHT1.c _ _
                have w62 : Xi U2 904 32 = Xi T1 904 32 := (show Xi U2 904 32 = Xi T1 904 32 from by rw [eU2]; exact Xi_ne (by omega))
                have w63 : 0 ≤ Xi T1 904 32 ∧ Xi T1 904 32 ≤ 12 := hHT1.c _ _
                refine l_callV rfl rfl rfl (t_mo_adds__2 hHU2 (Xi U2 977 ((((Xi U2 986 ((ri).toNat)) + v4)).toNat)) noun (-(Xi U2 973 (((Xi U2 977 ((((Xi U2 986 ((ri).toNat)) + v4)).toNat))).toNat))) ⟨by omega, by omega⟩ ⟨by omega, by omega⟩ ⟨by omega, by omega⟩ ((hp61.2.2.2.2.1 (by omega)).1.mono hn) ((hp61.2.2.2.2.1 (by omega)).2) (by omega) (by first | assumption | exact (ABV_FR hFU2 rfl (by assumption : ABV S))) (by first | assumption | exact (TXM_FR (FR_e eU2) rfl (by assumption : TXM T1))) _) ?_
                rintro _ T9 ⟨hHT9, w66, rfl, w64⟩
                have hFT9 : FR md_mo_runs S T9 := FR.tr hFU2 w66 rfl
                show Rl _ _ _ _ _ [] _ _
                have x219 : TXM T9 := by assumption
                refine l_goto rfl rfl ?_
                refine l_iinc rfl rfl rfl rfl ?_
                refine l_goto rfl rfl ?_
                exact Rl_weak (ih3 _ (by omega) T9 hHT9 hFT9 ((v4 + 1)) (by omega) (by first | assumption | exact (by assumption : TXM T9)) (by first | assumption | exact (WYM_FR w66 rfl (WYM_FR (FR_e eU2) rfl (by assumption : WYM T1)))) rfl) (And.intro rfl (And.intro rfl (And.intro rfl (And.intro rfl (And.intro rfl (True.intro))))))
              | 5, hii =>
                cases hii
                have w67 : (Xi U2 976 ((((Xi U2 986 ((ri).toNat)) + v4)).toNat)) = 5 := by simpa using w21
                refine l_aload_n rfl rfl ?_
                refine l_iload rfl rfl ?_
                refine l_iload_n rfl rfl ?_
                refine l_iload_n rfl rfl ?_
                have w68 : Xi U2 904 19 = Xi T1 904 19 := (show Xi U2 904 19 = Xi T1 904 19 from by rw [eU2]; exact Xi_ne (by omega))
                have w69 : 0 ≤ Xi T1 904 19 ∧ Xi T1 904 19 ≤ 24 := hHT1.c _ _
                have w70 : Xi U2 904 49 = Xi T1 904 49 := (show Xi U2 904 49 = Xi T1 904 49 from by rw [eU2]; exact Xi_ne (by omega))
                have w71 : 0 ≤ Xi T1 904 49 ∧ Xi T1 904 49 ≤ 12 := hHT1.c _ _
                refine l_callV rfl rfl rfl (hrec hHU2 (Xi U2 977 ((((Xi U2 986 ((ri).toNat)) + v4)).toNat)) noun dr ⟨by omega, by omega⟩ ⟨by omega, by omega⟩ ⟨by omega, by omega⟩ ((hp61.2.2.2.2.2 (by omega)).1) ((hp61.2.2.2.2.2 (by omega)).2.2) (fun q => ((hp61.2.2.2.2.2 (by omega)).2.1 q).mono hn) (by omega) (by first | assumption | exact (TXM_FR (FR_e eU2) rfl (by assumption : TXM T1))) (by first | assumption | exact (DEFM_FR hFU2 rfl (by assumption : DEFM S))) (by first | assumption | exact (RULM_FR hFU2 rfl (by assumption : RULM S))) (by first | assumption | exact (ABV_FR hFU2 rfl (by assumption : ABV S))) (by first | assumption | exact (LXM_FR hFU2 rfl (by assumption : LXM S))) (by first | assumption | exact (WYM_FR (FR_e eU2) rfl (by assumption : WYM T1))) (by first | assumption | exact (AKR_FR hFU2 rfl (by assumption : AKR S))) (by omega)) ?_
                rintro _ T10 ⟨hHT10, w75, rfl, w72, w73⟩
                have hFT10 : FR md_mo_runs S T10 := FR.tr hFU2 w75 rfl
                show Rl _ _ _ _ _ [] _ _
                refine l_goto rfl rfl ?_
                refine l_iinc rfl rfl rfl rfl ?_
                refine l_goto rfl rfl ?_
                exact Rl_weak (ih3 _ (by omega) T10 hHT10 hFT10 ((v4 + 1)) (by omega) (by first | assumption | exact (by assumption : TXM T10)) (by first | assumption | exact (by assumption : WYM T10)) rfl) (And.intro rfl (And.intro rfl (And.intro rfl (And.intro rfl (And.intro rfl (True.intro))))))
              | n + 6, hii => exact absurd hii (by simp)
          · refine l_aload_n rfl rfl ?_
            refine l_iconst rfl ?_
            refine l_pfz rfl rfl rfl rfl (by omega) ?_
            obtain ⟨U11, eU11⟩ : ∃ T : sS, T = uI T1 904 162 (Int32.ofInt 1) := ⟨_, rfl⟩
            rw [← eU11]
            have hHU11 : HI U11 := by rw [eU11]; exact HI_w hHT1 (show 0 ≤ 1 by omega) (show 1 ≤ 1 by omega)
            have hFU11 : FR md_mo_runs S U11 := by rw [eU11]; exact FR.wI hFT1 (mdf_i (r := (904, 905, 162, 163)) (List.mem_of_getElem? (i := 5) rfl) (inR_i (by omega) (by omega) (by omega) (by omega)))
            have w76 : Xi U11 904 162 = 1 := by rw [eU11]; exact Xi_same (by unfold rg; omega)
            refine l_iconst rfl ?_
            refine l_ireturn rfl rfl ?_
            exact ⟨hHU11, hFU11, _, rfl, ⟨by omega, by omega⟩, (by first | assumption | exact (TXM_FR (FR_e eU11) rfl (by assumption : TXM T1))), (by first | assumption | exact (WYM_FR (FR_e eU11) rfl (by assumption : WYM T1)))⟩
  refine l_iconst rfl ?_
  refine l_istore rfl rfl rfl ?_
  exact Rl_weak (C3 _ S hH hF (0) (by omega) (by first | assumption | exact (by assumption : TXM S)) (by first | assumption | exact (by assumption : WYM S)) rfl) (And.intro rfl (And.intro rfl (And.intro rfl (And.intro rfl (And.intro rfl (True.intro))))))
set_option maxRecDepth 100000 in
theorem u_mo_action {S : sS} (hH : HI S) (a : Int) (noun : Int) (dd : Int) (ha : 0 ≤ a ∧ a ≤ 11) (hnoun : -1 ≤ noun ∧ noun ≤ 23) (hdd : 0 ≤ dd ∧ dd ≤ 8) (hn : 0 ≤ Xi S 942 a.toNat → 0 ≤ noun) (h2 : 0 ≤ Xi S 942 a.toNat → noun < Xi S 904 19) (hX : TXM S) (hD : DEFM S) (hR : RULM S) (hB : ABV S) (hM : LXM S) (hW : WYM S) (hA : AKR S) (d : Nat) (hrec : ∀ {S : sS} (_ : HI S) (ri : Int) (noun : Int) (dr : Int) (hri : 0 ≤ ri ∧ ri ≤ 23) (hnoun : -1 ≤ noun ∧ noun ≤ 23) (hdr : 0 ≤ dr ∧ dr ≤ 8) (hr : ri < Xi S 904 130) (hn : nM S ri.toNat → 0 ≤ noun) (h2 : noun < Xi S 904 19) (hX : TXM S) (hD : DEFM S) (hR : RULM S) (hB : ABV S) (hM : LXM S) (hW : WYM S) (hA : AKR S), (dr = dd) → Mt lay0 (d + 31) m_mo_runs [.ref 904, iv ri, iv noun, iv dr] S (Q_mo_runs S ri noun dr)) : Mt lay0 (d + 32) m_mo_action [.ref 904, iv a, iv noun, iv dd] S (Q_mo_action S a noun dd) := by
  refine Mt_R rfl rfl ?_
  have hF : FR md_mo_action S S := FR.rf
  have w1 : 0 ≤ Xi S 904 19 ∧ Xi S 904 19 ≤ 24 := hH.c _ _
  have hc3 : 0 ≤ Xi S 904 23 ∧ Xi S 904 23 ≤ 24 := hH.c _ _
  have hc19 : 0 ≤ Xi S 904 19 ∧ Xi S 904 19 ≤ 24 := hH.c _ _
  have hc32 : 0 ≤ Xi S 904 32 ∧ Xi S 904 32 ≤ 12 := hH.c _ _
  have ha1 := akr_n hA hn
  have ha3 := akr_n (noun := Xi S 904 19 - 1 - noun) hA (fun q => by have := h2 q; omega)
  have ha2 : 2 ≤ Xi S 904 23 ∧ 1 ≤ Xi S 904 32 := hA.2.2.2.2.2.2
  have C19 : ∀ (n19 : Nat) (T1 : sS) (_ : HI T1) (_ : FR md_mo_action S T1) (v4 : Int) (v5 : Int), (-1 ≤ v4 ∧ v4 ≤ 23) → (0 ≤ v5 ∧ v5 ≤ 25) → (TXM T1) → (WYM T1) → (0 ≤ Xi S 942 a.toNat → 0 ≤ v4) → (v4 < Xi S 904 19) → n19 = (26 - v5).toNat → Rl lay0 (d + 31) m_mo_action 19 [(0, .ref 904), (1, iv a), (2, iv noun), (3, iv dd), (4, iv v4), (5, iv v5)] [] T1 (Q_mo_action S a noun dd) := by
    intro n19
    induction n19 using Nat.strongRecOn with
    | ind n19 ih19 =>
      intro T1 hHT1 hFT1 v4 v5 w2 w3 hX19 hW19 hv19 w4 hm19
      have w5 : Xi T1 904 130 = Xi S 904 130 := hFT1.x _ _ rfl
      have w6 : Xi T1 904 19 = Xi S 904 19 := hFT1.x _ _ rfl
      have w7 : Xi T1 904 23 = Xi S 904 23 := hFT1.x _ _ rfl
      have w8 : Xi T1 904 32 = Xi S 904 32 := hFT1.x _ _ rfl
      have C78 : ∀  (T2 : sS) (_ : HI T2) (_ : FR md_mo_action S T2) (v4 : Int), (-1 ≤ v4 ∧ v4 ≤ 23) → (TXM T2) → (WYM T2) → (0 ≤ Xi S 942 a.toNat → 0 ≤ v4) → (v4 < Xi S 904 19) → Rl lay0 (d + 31) m_mo_action 78 [(0, .ref 904), (1, iv a), (2, iv noun), (3, iv dd), (4, iv v4)] [] T2 (Q_mo_action S a noun dd) := by
        intro T2 hHT2 hFT2 v4 w9 hX78 hW78 hv78 w10
        have w11 : Xi T2 904 130 = Xi S 904 130 := hFT2.x _ _ rfl
        have w12 : Xi T2 904 19 = Xi S 904 19 := hFT2.x _ _ rfl
        have w13 : Xi T2 904 23 = Xi S 904 23 := hFT2.x _ _ rfl
        have w14 : Xi T2 904 32 = Xi S 904 32 := hFT2.x _ _ rfl
        have C81 : ∀ (n81 : Nat) (T3 : sS) (_ : HI T3) (_ : FR md_mo_action S T3) (v4 : Int) (v5 : Int), (-1 ≤ v4 ∧ v4 ≤ 23) → (0 ≤ v5 ∧ v5 ≤ 25) → (TXM T3) → (WYM T3) → (0 ≤ Xi S 942 a.toNat → 0 ≤ v4) → (v4 < Xi S 904 19) → n81 = (26 - v5).toNat → Rl lay0 (d + 31) m_mo_action 81 [(0, .ref 904), (1, iv a), (2, iv noun), (3, iv dd), (4, iv v4), (5, iv v5)] [] T3 (Q_mo_action S a noun dd) := by
          intro n81
          induction n81 using Nat.strongRecOn with
          | ind n81 ih81 =>
            intro T3 hHT3 hFT3 v4 v5 w15 w16 hX81 hW81 hv81 w17 hm81
            have w18 : Xi T3 904 130 = Xi S 904 130 := hFT3.x _ _ rfl
            have w19 : Xi T3 904 19 = Xi S 904 19 := hFT3.x _ _ rfl
            have w20 : Xi T3 904 23 = Xi S 904 23 := hFT3.x _ _ rfl
            have w21 : Xi T3 904 32 = Xi S 904 32 := hFT3.x _ _ rfl
            have C138 : ∀  (T4 : sS) (_ : HI T4) (_ : FR md_mo_action S T4) (v4 : Int), (-1 ≤ v4 ∧ v4 ≤ 23) → (TXM T4) → (WYM T4) → (0 ≤ Xi S 942 a.toNat → 0 ≤ v4) → (v4 < Xi S 904 19) → Rl lay0 (d + 31) m_mo_action 138 [(0, .ref 904), (1, iv a), (2, iv noun), (3, iv dd), (4, iv v4)] [] T4 (Q_mo_action S a noun dd) := by
              intro T4 hHT4 hFT4 v4 w22 hX138 hW138 hv138 w23
              have w24 : Xi T4 904 130 = Xi S 904 130 := hFT4.x _ _ rfl
              have w25 : Xi T4 904 19 = Xi S 904 19 := hFT4.x _ _ rfl
              have w26 : Xi T4 904 23 = Xi S 904 23 := hFT4.x _ _ rfl
              have w27 : Xi T4 904 32 = Xi S 904 32 := hFT4.x _ _ rfl
              have C161 : ∀ (n161 : Nat) (T5 : sS) (_ : HI T5) (_ : FR md_mo_action S T5) (v4 : Int) (v5 : Int), (-1 ≤ v4 ∧ v4 ≤ 23) → (0 ≤ v5 ∧ v5 ≤ 25) → (TXM T5) → (WYM T5) → (0 ≤ Xi S 942 a.toNat → 0 ≤ v4) → (v4 < Xi S 904 19) → n161 = (26 - v5).toNat → Rl lay0 (d + 31) m_mo_action 161 [(0, .ref 904), (1, iv a), (3, iv dd), (4, iv v4), (5, iv v5)] [] T5 (Q_mo_action S a noun dd) := by
                intro n161
                induction n161 using Nat.strongRecOn with
                | ind n161 ih161 =>
                  intro T5 hHT5 hFT5 v4 v5 w28 w29 hX161 hW161 hv161 w30 hm161
                  have w31 : Xi T5 904 130 = Xi S 904 130 := hFT5.x _ _ rfl
                  have w32 : Xi T5 904 19 = Xi S 904 19 := hFT5.x _ _ rfl
                  have w33 : Xi T5 904 23 = Xi S 904 23 := hFT5.x _ _ rfl
                  have w34 : Xi T5 904 32 = Xi S 904 32 := hFT5.x _ _ rfl
                  refine l_aload_n rfl rfl ?_
                  refine l_iconst rfl ?_
                  refine l_iload rfl rfl ?_
                  have w35 : 0 ≤ Xi T5 904 130 ∧ Xi T5 904 130 ≤ 24 := hHT5.c _ _
                  refine l_callV rfl rfl rfl (Mt_d (t_mo_ruleAt hHT5 2 v5 ⟨by omega, by omega⟩ ⟨by omega, by omega⟩ (by first | assumption | exact (ABV_FR hFT5 rfl (by assumption : ABV S))) _)) ?_
                  rintro _ _ ⟨⟨rfl, z39, rfl, w39, w36, w37, w38⟩, hd165⟩
                  show Rl _ _ _ _ _ [iv z39] _ _
                  refine l_iconst rfl ?_
                  refine l_icmp_eq rfl rfl (by unfold rg; omega) (by unfold rg; omega) (fun w40 => ?_) (fun w41 => ?_)
                  · refine l_iconst rfl ?_
                    refine l_ireturn rfl rfl ?_
                    exact ⟨hHT5, hFT5, _, rfl, ⟨by omega, by omega⟩, (by first | assumption | exact (by assumption : TXM T5)), (by first | assumption | exact (by assumption : WYM T5))⟩
                  · refine l_aload_n rfl rfl ?_
                    refine l_gfi rfl rfl rfl rfl rfl ?_
                    have w42 : 0 ≤ (Xi T5 904 162) ∧ (Xi T5 904 162) ≤ 1 := hHT5.c _ _
                    refine l_if_ne rfl rfl (by unfold rg; omega) (fun w43 => ?_) (fun w44 => ?_)
                    · refine l_iconst rfl ?_
                      refine l_ireturn rfl rfl ?_
                      exact ⟨hHT5, hFT5, _, rfl, ⟨by omega, by omega⟩, (by first | assumption | exact (by assumption : TXM T5)), (by first | assumption | exact (by assumption : WYM T5))⟩
                    · refine l_aload_n rfl rfl ?_
                      refine l_iconst rfl ?_
                      refine l_iload rfl rfl ?_
                      have w45 : 0 ≤ Xi T5 904 130 ∧ Xi T5 904 130 ≤ 24 := hHT5.c _ _
                      refine l_callV rfl rfl rfl (Mt_d (t_mo_ruleAt hHT5 2 v5 ⟨by omega, by omega⟩ ⟨by omega, by omega⟩ (by first | assumption | exact (ABV_FR hFT5 rfl (by assumption : ABV S))) _)) ?_
                      rintro _ _ ⟨⟨rfl, z49, rfl, w49, w46, w47, w48⟩, hd183⟩
                      show Rl _ _ _ _ _ [iv z49] _ _
                      have e183 := dv_i hd165 hd183 (by unfold rg; omega) (by unfold rg; omega)
                      refine l_istore rfl rfl rfl ?_
                      refine l_aload_n rfl rfl ?_
                      refine l_iload rfl rfl ?_
                      refine l_iload_n rfl rfl ?_
                      refine l_iload rfl rfl ?_
                      have w50 : 0 ≤ Xi T5 904 130 ∧ Xi T5 904 130 ≤ 24 := hHT5.c _ _
                      have w51 : 0 ≤ Xi T5 904 19 ∧ Xi T5 904 19 ≤ 24 := hHT5.c _ _
                      refine l_callV rfl rfl rfl (t_mo_applies hHT5 z49 a v4 ⟨by omega, by omega⟩ ⟨by omega, by omega⟩ ⟨by omega, by omega⟩ (by first | assumption | omega) (by first | assumption | exact (RULM_FR hFT5 rfl (by assumption : RULM S))) (by first | assumption | exact (DEFM_FR hFT5 rfl (by assumption : DEFM S))) (by first | assumption | exact (ABV_FR hFT5 rfl (by assumption : ABV S))) (by first | assumption | exact (by assumption : TXM T5)) (fun _ _ q => by first | exact hv19 (by rw [(hFT5.cx 942 rfl _).1] at q; exact q) | exact hv81 (by rw [(hFT5.cx 942 rfl _).1] at q; exact q) | exact hv161 (by rw [(hFT5.cx 942 rfl _).1] at q; exact q)) (by omega) _) ?_
                      rintro _ T6 ⟨hHT6, w54, z53, rfl, w53, w52⟩
                      have hFT6 : FR md_mo_action S T6 := FR.tr hFT5 w54 rfl
                      show Rl _ _ _ _ _ [iv z53] _ _
                      have q194 : z53 = 1 → nM S (z49).toNat → 0 ≤ v4 := fun e h => hv161 (by have t : Xi S 979 (z49).toNat = a := (by rw [← (hFT5.cx 979 rfl _).1]; exact (by assumption : z53 = 1 → Xi T5 978 (z49).toNat < 3 → Xi T5 979 (z49).toNat = a) e (by omega)); rw [← t]; exact h.2)
                      refine l_if_eq rfl rfl (by unfold rg; omega) (fun w55 => ?_) (fun w56 => ?_)
                      · refine l_iinc rfl rfl rfl rfl ?_
                        refine l_goto rfl rfl ?_
                        exact Rl_weak (ih161 _ (by omega) T6 hHT6 hFT6 (v4) ((v5 + 1)) (by omega) (by omega) (by first | assumption | exact (TXM_FR w54 rfl (by assumption : TXM T5))) (by first | assumption | exact (WYM_FR w54 rfl (by assumption : WYM T5))) (by first | exact hv161 | exact hv138 | exact hv81 | exact hv78 | exact hv19 | (intro q; first | exact hn q | (exfalso; omega))) (by omega) rfl) (And.intro rfl (And.intro rfl (And.intro rfl (And.intro rfl (And.intro rfl (True.intro))))))
                      · refine l_aload_n rfl rfl ?_
                        refine l_iload rfl rfl ?_
                        refine l_iload rfl rfl ?_
                        refine l_iload_n rfl rfl ?_
                        have w57 : Xi T6 904 130 = Xi T5 904 130 := (show Xi T6 904 130 = Xi T5 904 130 from w54.x _ _ rfl)
                        have w58 : 0 ≤ Xi T5 904 130 ∧ Xi T5 904 130 ≤ 24 := hHT5.c _ _
                        have w59 : Xi T6 904 19 = Xi T5 904 19 := (show Xi T6 904 19 = Xi T5 904 19 from w54.x _ _ rfl)
                        have w60 : 0 ≤ Xi T5 904 19 ∧ Xi T5 904 19 ≤ 24 := hHT5.c _ _
                        refine l_callV rfl rfl rfl (hrec hHT6 z49 v4 dd ⟨by omega, by omega⟩ ⟨by omega, by omega⟩ ⟨by omega, by omega⟩ (by first | assumption | omega) (by first | exact fun h => q52 (by omega) (nm_b hFT6 rfl h) | exact fun h => q114 (by omega) (nm_b hFT6 rfl h) | exact fun h => q194 (by omega) (nm_b hFT6 rfl h)) (by omega) (by first | assumption | exact (TXM_FR w54 rfl (by assumption : TXM T5))) (by first | assumption | exact (DEFM_FR hFT6 rfl (by assumption : DEFM S))) (by first | assumption | exact (RULM_FR hFT6 rfl (by assumption : RULM S))) (by first | assumption | exact (ABV_FR hFT6 rfl (by assumption : ABV S))) (by first | assumption | exact (LXM_FR hFT6 rfl (by assumption : LXM S))) (by first | assumption | exact (WYM_FR w54 rfl (by assumption : WYM T5))) (by first | assumption | exact (AKR_FR hFT6 rfl (by assumption : AKR S))) (by omega)) ?_
                        rintro _ T7 ⟨hHT7, w64, z63, rfl, w63, w61, w62⟩
                        have hFT7 : FR md_mo_action S T7 := FR.tr hFT6 w64 rfl
                        show Rl _ _ _ _ _ [iv z63] _ _
                        refine l_if_eq rfl rfl (by unfold rg; omega) (fun w65 => ?_) (fun w66 => ?_)
                        · refine l_iinc rfl rfl rfl rfl ?_
                          refine l_goto rfl rfl ?_
                          exact Rl_weak (ih161 _ (by omega) T7 hHT7 hFT7 (v4) ((v5 + 1)) (by omega) (by omega) (by first | assumption | exact (by assumption : TXM T7)) (by first | assumption | exact (by assumption : WYM T7)) (by first | exact hv161 | exact hv138 | exact hv81 | exact hv78 | exact hv19 | (intro q; first | exact hn q | (exfalso; omega))) (by omega) rfl) (And.intro rfl (And.intro rfl (And.intro rfl (And.intro rfl (And.intro rfl (True.intro))))))
                        · refine l_iconst rfl ?_
                          refine l_ireturn rfl rfl ?_
                          exact ⟨hHT7, hFT7, _, rfl, ⟨by omega, by omega⟩, (by first | assumption | exact (by assumption : TXM T7)), (by first | assumption | exact (by assumption : WYM T7))⟩
              refine l_aload_n rfl rfl ?_
              refine l_gfi rfl rfl rfl rfl rfl ?_
              have w67 : 0 ≤ (Xi T4 904 162) ∧ (Xi T4 904 162) ≤ 1 := hHT4.c _ _
              refine l_if_eq rfl rfl (by unfold rg; omega) (fun w68 => ?_) (fun w69 => ?_)
              · refine l_aload_n rfl rfl ?_
                refine l_iload_n rfl rfl ?_
                refine l_iload_n rfl rfl ?_
                have w70 : 0 ≤ Xi T4 904 19 ∧ Xi T4 904 19 ≤ 24 := hHT4.c _ _
                have w71 : 0 ≤ Xi T4 904 23 ∧ Xi T4 904 23 ≤ 24 := hHT4.c _ _
                have w72 : 0 ≤ Xi T4 904 32 ∧ Xi T4 904 32 ≤ 12 := hHT4.c _ _
                refine l_callV rfl rfl rfl (t_mo_does_2 hHT4 a noun ⟨by omega, by omega⟩ ⟨by omega, by omega⟩ (ha1) (by omega) (by first | assumption | exact (ABV_FR hFT4 rfl (by assumption : ABV S))) (by first | assumption | exact (by assumption : TXM T4)) (by first | assumption | exact (DEFM_FR hFT4 rfl (by assumption : DEFM S))) (by first | assumption | exact (LXM_FR hFT4 rfl (by assumption : LXM S))) (by first | assumption | exact (by assumption : WYM T4)) (by omega) (by omega) _) ?_
                rintro _ T8 ⟨hHT8, w75, z74, rfl, w74, w73⟩
                have hFT8 : FR md_mo_action S T8 := FR.tr hFT4 w75 rfl
                show Rl _ _ _ _ _ [iv z74] _ _
                refine l_if_ne rfl rfl (by unfold rg; omega) (fun w76 => ?_) (fun w77 => ?_)
                · refine l_iconst rfl ?_
                  refine l_istore rfl rfl rfl ?_
                  exact Rl_weak (C161 _ T8 hHT8 hFT8 (v4) (0) (by omega) (by omega) (by first | assumption | exact (TXM_FR w75 rfl (by assumption : TXM T4))) (by first | assumption | exact (by assumption : WYM T8)) (by first | exact hv161 | exact hv138 | exact hv81 | exact hv78 | exact hv19 | (intro q; first | exact hn q | (exfalso; omega))) (by omega) rfl) (And.intro rfl (And.intro rfl (And.intro rfl (And.intro rfl (And.intro rfl (True.intro))))))
                · refine l_iconst rfl ?_
                  refine l_ireturn rfl rfl ?_
                  exact ⟨hHT8, hFT8, _, rfl, ⟨by omega, by omega⟩, (by first | assumption | exact (TXM_FR w75 rfl (by assumption : TXM T4))), (by first | assumption | exact (by assumption : WYM T8))⟩
              · refine l_iconst rfl ?_
                refine l_ireturn rfl rfl ?_
                exact ⟨hHT4, hFT4, _, rfl, ⟨by omega, by omega⟩, (by first | assumption | exact (by assumption : TXM T4)), (by first | assumption | exact (by assumption : WYM T4))⟩
            refine l_aload_n rfl rfl ?_
            refine l_iconst rfl ?_
            refine l_iload rfl rfl ?_
            have w78 : 0 ≤ Xi T3 904 130 ∧ Xi T3 904 130 ≤ 24 := hHT3.c _ _
            refine l_callV rfl rfl rfl (Mt_d (t_mo_ruleAt hHT3 1 v5 ⟨by omega, by omega⟩ ⟨by omega, by omega⟩ (by first | assumption | exact (ABV_FR hFT3 rfl (by assumption : ABV S))) _)) ?_
            rintro _ _ ⟨⟨rfl, z82, rfl, w82, w79, w80, w81⟩, hd85⟩
            show Rl _ _ _ _ _ [iv z82] _ _
            refine l_iconst rfl ?_
            refine l_icmp_eq rfl rfl (by unfold rg; omega) (by unfold rg; omega) (fun w83 => ?_) (fun w84 => ?_)
            · exact Rl_weak (C138 T3 hHT3 hFT3 (v4) (by omega) (by first | assumption | exact (by assumption : TXM T3)) (by first | assumption | exact (by assumption : WYM T3)) (by first | exact hv138 | exact hv81 | exact hv78 | exact hv19 | (intro q; first | exact hn q | (exfalso; omega))) (by omega)) (And.intro rfl (And.intro rfl (And.intro rfl (And.intro rfl (And.intro rfl (True.intro))))))
            · refine l_aload_n rfl rfl ?_
              refine l_gfi rfl rfl rfl rfl rfl ?_
              have w85 : 0 ≤ (Xi T3 904 162) ∧ (Xi T3 904 162) ≤ 1 := hHT3.c _ _
              refine l_if_ne rfl rfl (by unfold rg; omega) (fun w86 => ?_) (fun w87 => ?_)
              · exact Rl_weak (C138 T3 hHT3 hFT3 (v4) (by omega) (by first | assumption | exact (by assumption : TXM T3)) (by first | assumption | exact (by assumption : WYM T3)) (by first | exact hv138 | exact hv81 | exact hv78 | exact hv19 | (intro q; first | exact hn q | (exfalso; omega))) (by omega)) (And.intro rfl (And.intro rfl (And.intro rfl (And.intro rfl (And.intro rfl (True.intro))))))
              · refine l_aload_n rfl rfl ?_
                refine l_iconst rfl ?_
                refine l_iload rfl rfl ?_
                have w88 : 0 ≤ Xi T3 904 130 ∧ Xi T3 904 130 ≤ 24 := hHT3.c _ _
                refine l_callV rfl rfl rfl (Mt_d (t_mo_ruleAt hHT3 1 v5 ⟨by omega, by omega⟩ ⟨by omega, by omega⟩ (by first | assumption | exact (ABV_FR hFT3 rfl (by assumption : ABV S))) _)) ?_
                rintro _ _ ⟨⟨rfl, z92, rfl, w92, w89, w90, w91⟩, hd103⟩
                show Rl _ _ _ _ _ [iv z92] _ _
                have e103 := dv_i hd85 hd103 (by unfold rg; omega) (by unfold rg; omega)
                refine l_istore rfl rfl rfl ?_
                refine l_aload_n rfl rfl ?_
                refine l_iload rfl rfl ?_
                refine l_iload_n rfl rfl ?_
                refine l_iload rfl rfl ?_
                have w93 : 0 ≤ Xi T3 904 130 ∧ Xi T3 904 130 ≤ 24 := hHT3.c _ _
                have w94 : 0 ≤ Xi T3 904 19 ∧ Xi T3 904 19 ≤ 24 := hHT3.c _ _
                refine l_callV rfl rfl rfl (t_mo_applies hHT3 z92 a v4 ⟨by omega, by omega⟩ ⟨by omega, by omega⟩ ⟨by omega, by omega⟩ (by first | assumption | omega) (by first | assumption | exact (RULM_FR hFT3 rfl (by assumption : RULM S))) (by first | assumption | exact (DEFM_FR hFT3 rfl (by assumption : DEFM S))) (by first | assumption | exact (ABV_FR hFT3 rfl (by assumption : ABV S))) (by first | assumption | exact (by assumption : TXM T3)) (fun _ _ q => by first | exact hv19 (by rw [(hFT3.cx 942 rfl _).1] at q; exact q) | exact hv81 (by rw [(hFT3.cx 942 rfl _).1] at q; exact q) | exact hv161 (by rw [(hFT3.cx 942 rfl _).1] at q; exact q)) (by omega) _) ?_
                rintro _ T9 ⟨hHT9, w97, z96, rfl, w96, w95⟩
                have hFT9 : FR md_mo_action S T9 := FR.tr hFT3 w97 rfl
                show Rl _ _ _ _ _ [iv z96] _ _
                have q114 : z96 = 1 → nM S (z92).toNat → 0 ≤ v4 := fun e h => hv81 (by have t : Xi S 979 (z92).toNat = a := (by rw [← (hFT3.cx 979 rfl _).1]; exact (by assumption : z96 = 1 → Xi T3 978 (z92).toNat < 3 → Xi T3 979 (z92).toNat = a) e (by omega)); rw [← t]; exact h.2)
                refine l_if_eq rfl rfl (by unfold rg; omega) (fun w98 => ?_) (fun w99 => ?_)
                · refine l_iinc rfl rfl rfl rfl ?_
                  refine l_goto rfl rfl ?_
                  exact Rl_weak (ih81 _ (by omega) T9 hHT9 hFT9 (v4) ((v5 + 1)) (by omega) (by omega) (by first | assumption | exact (TXM_FR w97 rfl (by assumption : TXM T3))) (by first | assumption | exact (WYM_FR w97 rfl (by assumption : WYM T3))) (by first | exact hv81 | exact hv78 | exact hv19 | (intro q; first | exact hn q | (exfalso; omega))) (by omega) rfl) (And.intro rfl (And.intro rfl (And.intro rfl (And.intro rfl (And.intro rfl (And.intro rfl (True.intro)))))))
                · refine l_aload_n rfl rfl ?_
                  refine l_iload rfl rfl ?_
                  refine l_iload rfl rfl ?_
                  refine l_iload_n rfl rfl ?_
                  have w100 : Xi T9 904 130 = Xi T3 904 130 := (show Xi T9 904 130 = Xi T3 904 130 from w97.x _ _ rfl)
                  have w101 : 0 ≤ Xi T3 904 130 ∧ Xi T3 904 130 ≤ 24 := hHT3.c _ _
                  have w102 : Xi T9 904 19 = Xi T3 904 19 := (show Xi T9 904 19 = Xi T3 904 19 from w97.x _ _ rfl)
                  have w103 : 0 ≤ Xi T3 904 19 ∧ Xi T3 904 19 ≤ 24 := hHT3.c _ _
                  refine l_callV rfl rfl rfl (hrec hHT9 z92 v4 dd ⟨by omega, by omega⟩ ⟨by omega, by omega⟩ ⟨by omega, by omega⟩ (by first | assumption | omega) (by first | exact fun h => q52 (by omega) (nm_b hFT9 rfl h) | exact fun h => q114 (by omega) (nm_b hFT9 rfl h) | exact fun h => q194 (by omega) (nm_b hFT9 rfl h)) (by omega) (by first | assumption | exact (TXM_FR w97 rfl (by assumption : TXM T3))) (by first | assumption | exact (DEFM_FR hFT9 rfl (by assumption : DEFM S))) (by first | assumption | exact (RULM_FR hFT9 rfl (by assumption : RULM S))) (by first | assumption | exact (ABV_FR hFT9 rfl (by assumption : ABV S))) (by first | assumption | exact (LXM_FR hFT9 rfl (by assumption : LXM S))) (by first | assumption | exact (WYM_FR w97 rfl (by assumption : WYM T3))) (by first | assumption | exact (AKR_FR hFT9 rfl (by assumption : AKR S))) (by omega)) ?_
                  rintro _ T10 ⟨hHT10, w107, z106, rfl, w106, w104, w105⟩
                  have hFT10 : FR md_mo_action S T10 := FR.tr hFT9 w107 rfl
                  show Rl _ _ _ _ _ [iv z106] _ _
                  refine l_pop rfl rfl ?_
                  refine l_iconst rfl ?_
                  refine l_ireturn rfl rfl ?_
                  exact ⟨hHT10, hFT10, _, rfl, ⟨by omega, by omega⟩, (by first | assumption | exact (by assumption : TXM T10)), (by first | assumption | exact (by assumption : WYM T10))⟩
        refine l_iconst rfl ?_
        refine l_istore rfl rfl rfl ?_
        exact Rl_weak (C81 _ T2 hHT2 hFT2 (v4) (0) (by omega) (by omega) (by first | assumption | exact (by assumption : TXM T2)) (by first | assumption | exact (by assumption : WYM T2)) (by first | exact hv81 | exact hv78 | exact hv19 | (intro q; first | exact hn q | (exfalso; omega))) (by omega) rfl) (And.intro rfl (And.intro rfl (And.intro rfl (And.intro rfl (And.intro rfl (And.intro rfl (True.intro)))))))
      refine l_aload_n rfl rfl ?_
      refine l_iconst rfl ?_
      refine l_iload rfl rfl ?_
      have w108 : 0 ≤ Xi T1 904 130 ∧ Xi T1 904 130 ≤ 24 := hHT1.c _ _
      refine l_callV rfl rfl rfl (Mt_d (t_mo_ruleAt hHT1 0 v5 ⟨by omega, by omega⟩ ⟨by omega, by omega⟩ (by first | assumption | exact (ABV_FR hFT1 rfl (by assumption : ABV S))) _)) ?_
      rintro _ _ ⟨⟨rfl, z112, rfl, w112, w109, w110, w111⟩, hd23⟩
      show Rl _ _ _ _ _ [iv z112] _ _
      refine l_iconst rfl ?_
      refine l_icmp_eq rfl rfl (by unfold rg; omega) (by unfold rg; omega) (fun w113 => ?_) (fun w114 => ?_)
      · exact Rl_weak (C78 T1 hHT1 hFT1 (v4) (by omega) (by first | assumption | exact (by assumption : TXM T1)) (by first | assumption | exact (by assumption : WYM T1)) (by first | exact hv78 | exact hv19 | (intro q; first | exact hn q | (exfalso; omega))) (by omega)) (And.intro rfl (And.intro rfl (And.intro rfl (And.intro rfl (And.intro rfl (True.intro))))))
      · refine l_aload_n rfl rfl ?_
        refine l_gfi rfl rfl rfl rfl rfl ?_
        have w115 : 0 ≤ (Xi T1 904 162) ∧ (Xi T1 904 162) ≤ 1 := hHT1.c _ _
        refine l_if_ne rfl rfl (by unfold rg; omega) (fun w116 => ?_) (fun w117 => ?_)
        · exact Rl_weak (C78 T1 hHT1 hFT1 (v4) (by omega) (by first | assumption | exact (by assumption : TXM T1)) (by first | assumption | exact (by assumption : WYM T1)) (by first | exact hv78 | exact hv19 | (intro q; first | exact hn q | (exfalso; omega))) (by omega)) (And.intro rfl (And.intro rfl (And.intro rfl (And.intro rfl (And.intro rfl (True.intro))))))
        · refine l_aload_n rfl rfl ?_
          refine l_iconst rfl ?_
          refine l_iload rfl rfl ?_
          have w118 : 0 ≤ Xi T1 904 130 ∧ Xi T1 904 130 ≤ 24 := hHT1.c _ _
          refine l_callV rfl rfl rfl (Mt_d (t_mo_ruleAt hHT1 0 v5 ⟨by omega, by omega⟩ ⟨by omega, by omega⟩ (by first | assumption | exact (ABV_FR hFT1 rfl (by assumption : ABV S))) _)) ?_
          rintro _ _ ⟨⟨rfl, z122, rfl, w122, w119, w120, w121⟩, hd41⟩
          show Rl _ _ _ _ _ [iv z122] _ _
          have e41 := dv_i hd23 hd41 (by unfold rg; omega) (by unfold rg; omega)
          refine l_istore rfl rfl rfl ?_
          refine l_aload_n rfl rfl ?_
          refine l_iload rfl rfl ?_
          refine l_iload_n rfl rfl ?_
          refine l_iload rfl rfl ?_
          have w123 : 0 ≤ Xi T1 904 130 ∧ Xi T1 904 130 ≤ 24 := hHT1.c _ _
          have w124 : 0 ≤ Xi T1 904 19 ∧ Xi T1 904 19 ≤ 24 := hHT1.c _ _
          refine l_callV rfl rfl rfl (t_mo_applies hHT1 z122 a v4 ⟨by omega, by omega⟩ ⟨by omega, by omega⟩ ⟨by omega, by omega⟩ (by first | assumption | omega) (by first | assumption | exact (RULM_FR hFT1 rfl (by assumption : RULM S))) (by first | assumption | exact (DEFM_FR hFT1 rfl (by assumption : DEFM S))) (by first | assumption | exact (ABV_FR hFT1 rfl (by assumption : ABV S))) (by first | assumption | exact (by assumption : TXM T1)) (fun _ _ q => by first | exact hv19 (by rw [(hFT1.cx 942 rfl _).1] at q; exact q) | exact hv81 (by rw [(hFT1.cx 942 rfl _).1] at q; exact q) | exact hv161 (by rw [(hFT1.cx 942 rfl _).1] at q; exact q)) (by omega) _) ?_
          rintro _ T11 ⟨hHT11, w127, z126, rfl, w126, w125⟩
          have hFT11 : FR md_mo_action S T11 := FR.tr hFT1 w127 rfl
          show Rl _ _ _ _ _ [iv z126] _ _
          have q52 : z126 = 1 → nM S (z122).toNat → 0 ≤ v4 := fun e h => hv19 (by have t : Xi S 979 (z122).toNat = a := (by rw [← (hFT1.cx 979 rfl _).1]; exact (by assumption : z126 = 1 → Xi T1 978 (z122).toNat < 3 → Xi T1 979 (z122).toNat = a) e (by omega)); rw [← t]; exact h.2)
          refine l_if_eq rfl rfl (by unfold rg; omega) (fun w128 => ?_) (fun w129 => ?_)
          · refine l_iinc rfl rfl rfl rfl ?_
            refine l_goto rfl rfl ?_
            exact Rl_weak (ih19 _ (by omega) T11 hHT11 hFT11 (v4) ((v5 + 1)) (by omega) (by omega) (by first | assumption | exact (TXM_FR w127 rfl (by assumption : TXM T1))) (by first | assumption | exact (WYM_FR w127 rfl (by assumption : WYM T1))) (by first | exact hv19 | (intro q; first | exact hn q | (exfalso; omega))) (by omega) rfl) (And.intro rfl (And.intro rfl (And.intro rfl (And.intro rfl (And.intro rfl (And.intro rfl (True.intro)))))))
          · refine l_aload_n rfl rfl ?_
            refine l_iload rfl rfl ?_
            refine l_iload rfl rfl ?_
            refine l_iload_n rfl rfl ?_
            have w130 : Xi T11 904 130 = Xi T1 904 130 := (show Xi T11 904 130 = Xi T1 904 130 from w127.x _ _ rfl)
            have w131 : 0 ≤ Xi T1 904 130 ∧ Xi T1 904 130 ≤ 24 := hHT1.c _ _
            have w132 : Xi T11 904 19 = Xi T1 904 19 := (show Xi T11 904 19 = Xi T1 904 19 from w127.x _ _ rfl)
            have w133 : 0 ≤ Xi T1 904 19 ∧ Xi T1 904 19 ≤ 24 := hHT1.c _ _
            refine l_callV rfl rfl rfl (hrec hHT11 z122 v4 dd ⟨by omega, by omega⟩ ⟨by omega, by omega⟩ ⟨by omega, by omega⟩ (by first | assumption | omega) (by first | exact fun h => q52 (by omega) (nm_b hFT11 rfl h) | exact fun h => q114 (by omega) (nm_b hFT11 rfl h) | exact fun h => q194 (by omega) (nm_b hFT11 rfl h)) (by omega) (by first | assumption | exact (TXM_FR w127 rfl (by assumption : TXM T1))) (by first | assumption | exact (DEFM_FR hFT11 rfl (by assumption : DEFM S))) (by first | assumption | exact (RULM_FR hFT11 rfl (by assumption : RULM S))) (by first | assumption | exact (ABV_FR hFT11 rfl (by assumption : ABV S))) (by first | assumption | exact (LXM_FR hFT11 rfl (by assumption : LXM S))) (by first | assumption | exact (WYM_FR w127 rfl (by assumption : WYM T1))) (by first | assumption | exact (AKR_FR hFT11 rfl (by assumption : AKR S))) (by omega)) ?_
            rintro _ T12 ⟨hHT12, w137, z136, rfl, w136, w134, w135⟩
            have hFT12 : FR md_mo_action S T12 := FR.tr hFT11 w137 rfl
            show Rl _ _ _ _ _ [iv z136] _ _
            refine l_if_eq rfl rfl (by unfold rg; omega) (fun w138 => ?_) (fun w139 => ?_)
            · refine l_iinc rfl rfl rfl rfl ?_
              refine l_goto rfl rfl ?_
              exact Rl_weak (ih19 _ (by omega) T12 hHT12 hFT12 (v4) ((v5 + 1)) (by omega) (by omega) (by first | assumption | exact (by assumption : TXM T12)) (by first | assumption | exact (by assumption : WYM T12)) (by first | exact hv19 | (intro q; first | exact hn q | (exfalso; omega))) (by omega) rfl) (And.intro rfl (And.intro rfl (And.intro rfl (And.intro rfl (And.intro rfl (And.intro rfl (True.intro)))))))
            · refine l_iconst rfl ?_
              refine l_ireturn rfl rfl ?_
              exact ⟨hHT12, hFT12, _, rfl, ⟨by omega, by omega⟩, (by first | assumption | exact (by assumption : TXM T12)), (by first | assumption | exact (by assumption : WYM T12))⟩
  refine l_aload_n rfl rfl ?_
  refine l_gfr rfl rfl rfl rfl rfl (hH.r 904 50 942 rfl) ?_
  refine l_iload_n rfl rfl ?_
  refine l_iaload (n := 12) rfl rfl (by omega) (by omega) (by unfold rg; omega) ?_
  have w140 : -2 ≤ (Xi S 942 ((a).toNat)) ∧ (Xi S 942 ((a).toNat)) ≤ 15 := hH.c _ _
  refine l_if_lt rfl rfl (by unfold rg; omega) (fun w141 => ?_) (fun w142 => ?_)
  · refine l_iconst rfl ?_
    refine l_istore rfl rfl rfl ?_
    refine l_iconst rfl ?_
    refine l_istore rfl rfl rfl ?_
    exact Rl_weak (C19 _ S hH hF ((-1)) (0) (by omega) (by omega) (by first | assumption | exact (by assumption : TXM S)) (by first | assumption | exact (by assumption : WYM S)) (by first | exact hv19 | (intro q; first | exact hn q | (exfalso; omega))) (by omega) rfl) (And.intro rfl (And.intro rfl (And.intro rfl (And.intro rfl (And.intro rfl (And.intro rfl (True.intro)))))))
  · refine l_iload_n rfl rfl ?_
    refine l_goto rfl rfl ?_
    refine l_istore rfl rfl rfl ?_
    refine l_iconst rfl ?_
    refine l_istore rfl rfl rfl ?_
    exact Rl_weak (C19 _ S hH hF (noun) (0) (by omega) (by omega) (by first | assumption | exact (by assumption : TXM S)) (by first | assumption | exact (by assumption : WYM S)) (by first | exact hv19 | (intro q; first | exact hn q | (exfalso; omega))) (by omega) rfl) (And.intro rfl (And.intro rfl (And.intro rfl (And.intro rfl (And.intro rfl (And.intro rfl (True.intro)))))))
theorem k_mr (n : Nat) : ∀ (d : Nat) {S : sS} (_ : HI S) (q : Int) (noun : Int) (dq : Int) (hq : 0 ≤ q ∧ q ≤ 2399) (hnoun : -1 ≤ noun ∧ noun ≤ 23) (hdq : 0 ≤ dq ∧ dq ≤ 8) (hk : 0 ≤ Xi S 972 q.toNat ∧ Xi S 972 q.toNat < Xi S 904 49) (hg : Xi S 970 q.toNat ≠ 0 → Xi S 942 (Xi S 972 q.toNat).toNat < 0) (ht : Xi S 970 q.toNat = 0 → thK S False (0 ≤ noun) (Xi S 971 q.toNat)) (h2 : noun < Xi S 904 19) (hX : TXM S) (hD : DEFM S) (hR : RULM S) (hB : ABV S) (hM : LXM S) (hW : WYM S) (hA : AKR S), (8 - dq).toNat = n → Mt lay0 (d + 3 * n + 30) m_mo_tries [.ref 904, iv q, iv noun, iv dq] S (Q_mo_tries S q noun dq) := by
  induction n with
  | zero => intro d S hH q noun dq hq hnoun hdq hk hg ht h2 hX hD hR hB hM hW hA hm; exact u_mo_tries hH q noun dq hq hnoun hdq hk hg ht h2 hX hD hR hB hM hW hA d (fun {_} _ _ _ _ _ _ _ _ _ _ _ _ _ _ _ _ hlt => absurd hlt.1 (by omega))
  | succ n ih =>
    intro d S hH q noun dq hq hnoun hdq hk hg ht h2 hX hD hR hB hM hW hA hm
    have t := u_mo_tries hH q noun dq hq hnoun hdq hk hg ht h2 hX hD hR hB hM hW hA (d + 3 * n + 3) (fun {S} hH xa xnoun xdd xha xhnoun xhdd xhn xh2 xhX xhD xhR xhB xhM xhW xhA hlt => u_mo_action hH xa xnoun xdd xha xhnoun xhdd xhn xh2 xhX xhD xhR xhB xhM xhW xhA (d + 3 * n) (fun {S} hH yri ynoun ydr yhri yhnoun yhdr yhr yhn yh2 yhX yhD yhR yhB yhM yhW yhA he => u_mo_runs hH yri ynoun ydr yhri yhnoun yhdr yhr yhn yh2 yhX yhD yhR yhB yhM yhW yhA (d + 3 * n) (fun {S} hH zq znoun zdq zhq zhnoun zhdq zhk zhg zht zh2 zhX zhD zhR zhB zhM zhW zhA he2 => ih d hH zq znoun zdq zhq zhnoun zhdq zhk zhg zht zh2 zhX zhD zhR zhB zhM zhW zhA (by omega))))
    rw [show d + 3 * n + 3 + 30 = d + 3 * (n + 1) + 30 by omega] at t
    exact t
theorem t_mo_tries {S : sS} (hH : HI S) (q : Int) (noun : Int) (dq : Int) (hq : 0 ≤ q ∧ q ≤ 2399) (hnoun : -1 ≤ noun ∧ noun ≤ 23) (hdq : 0 ≤ dq ∧ dq ≤ 8) (hk : 0 ≤ Xi S 972 q.toNat ∧ Xi S 972 q.toNat < Xi S 904 49) (hg : Xi S 970 q.toNat ≠ 0 → Xi S 942 (Xi S 972 q.toNat).toNat < 0) (ht : Xi S 970 q.toNat = 0 → thK S False (0 ≤ noun) (Xi S 971 q.toNat)) (h2 : noun < Xi S 904 19) (hX : TXM S) (hD : DEFM S) (hR : RULM S) (hB : ABV S) (hM : LXM S) (hW : WYM S) (hA : AKR S) (d : Nat) : Mt lay0 (d + 54) m_mo_tries [.ref 904, iv q, iv noun, iv dq] S (Q_mo_tries S q noun dq) := by
  have t := k_mr (8 - dq).toNat (d + (24 - 3 * (8 - dq).toNat)) hH q noun dq hq hnoun hdq hk hg ht h2 hX hD hR hB hM hW hA rfl
  rw [show d + (24 - 3 * (8 - dq).toNat) + 3 * (8 - dq).toNat + 30 = d + 54 by omega] at t
  exact t
theorem t_mo_runs {S : sS} (hH : HI S) (ri : Int) (noun : Int) (dr : Int) (hri : 0 ≤ ri ∧ ri ≤ 23) (hnoun : -1 ≤ noun ∧ noun ≤ 23) (hdr : 0 ≤ dr ∧ dr ≤ 8) (hr : ri < Xi S 904 130) (hn : nM S ri.toNat → 0 ≤ noun) (h2 : noun < Xi S 904 19) (hX : TXM S) (hD : DEFM S) (hR : RULM S) (hB : ABV S) (hM : LXM S) (hW : WYM S) (hA : AKR S) (d : Nat) : Mt lay0 (d + 55) m_mo_runs [.ref 904, iv ri, iv noun, iv dr] S (Q_mo_runs S ri noun dr) :=
  u_mo_runs hH ri noun dr hri hnoun hdr hr hn h2 hX hD hR hB hM hW hA (d + 24) (fun {S} hH2 zq znoun zdq zhq zhnoun zhdq zhk zhg zht zh2 zhX zhD zhR zhB zhM zhW zhA he => t_mo_tries hH2 zq znoun zdq zhq zhnoun zhdq zhk zhg zht zh2 zhX zhD zhR zhB zhM zhW zhA d)
theorem t_mo_action {S : sS} (hH : HI S) (a : Int) (noun : Int) (dd : Int) (ha : 0 ≤ a ∧ a ≤ 11) (hnoun : -1 ≤ noun ∧ noun ≤ 23) (hdd : 0 ≤ dd ∧ dd ≤ 8) (hn : 0 ≤ Xi S 942 a.toNat → 0 ≤ noun) (h2 : 0 ≤ Xi S 942 a.toNat → noun < Xi S 904 19) (hX : TXM S) (hD : DEFM S) (hR : RULM S) (hB : ABV S) (hM : LXM S) (hW : WYM S) (hA : AKR S) (d : Nat) : Mt lay0 (d + 56) m_mo_action [.ref 904, iv a, iv noun, iv dd] S (Q_mo_action S a noun dd) :=
  u_mo_action hH a noun dd ha hnoun hdd hn h2 hX hD hR hB hM hW hA (d + 24) (fun {S} hH2 yri ynoun ydr yhri yhnoun yhdr yhr yhn yh2 yhX yhD yhR yhB yhM yhW yhA he => t_mo_runs hH2 yri ynoun ydr yhri yhnoun yhdr yhr yhn yh2 yhX yhD yhR yhB yhM yhW yhA d)


