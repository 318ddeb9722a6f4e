section
def md_mo_adds__2q : List rec := [(904, 905, 154, 155), (930, 931, 0, 100000), (931, 932, 0, 100000)]
abbrev Q_mo_adds__2q (S : sS) (q : Int) (noun : Int) (by_ : Int) : pst := fun r S1 => HI S1 ∧ FR md_mo_adds__2q S S1 ∧ (r = none ∧ (TXM S1) ∧ (ADR S S1 (12 * thR (-1) noun (Xi S 971 q.toNat) + Xi S 972 q.toNat).toNat (clW (adW (nuR S (thR (-1) noun (Xi S 971 q.toNat)) (Xi S 972 q.toNat)) by_))))
set_option maxRecDepth 100000 in
theorem t_mo_adds__2q {S : sS} (hH : HI S) (q : Int) (noun : Int) (by_ : Int) (hq : 0 ≤ q ∧ q ≤ 2399) (hnoun : -1 ≤ noun ∧ noun ≤ 23) (hby_ : -2147483648 ≤ by_ ∧ by_ ≤ 2147483648) (hk : thK S False (0 ≤ noun) (Xi S 971 q.toNat)) (hp : 0 ≤ Xi S 972 q.toNat ∧ Xi S 972 q.toNat < Xi S 904 32 ∧ Xi S 928 (Xi S 972 q.toNat).toNat ≠ 1) (h2 : noun < Xi S 904 19) (hB : ABV S) (hX : TXM S) (d : Nat) : Mt lay0 (d + 2) m_mo_adds [.ref 904, iv q, iv noun, iv by_] S (Q_mo_adds__2q S q noun by_) := by
  refine Mt_R rfl rfl ?_
  have hF : FR md_mo_adds__2q S S := FR.rf
  have w1 : 0 ≤ Xi S 904 19 ∧ Xi S 904 19 ≤ 24 := hH.c _ _
  have w2 : 0 ≤ Xi S 904 32 ∧ Xi S 904 32 ≤ 12 := hH.c _ _
  have hc3 : 0 ≤ Xi S 904 23 ∧ Xi S 904 23 ≤ 24 := hH.c _ _
  have hc19 : 0 ≤ Xi S 904 19 ∧ Xi S 904 19 ≤ 24 := hH.c _ _
  have hc32 : 0 ≤ Xi S 904 32 ∧ Xi S 904 32 ≤ 12 := hH.c _ _
  refine l_aload_n rfl rfl ?_
  refine l_gfr rfl rfl rfl rfl rfl (hH.r 904 120 971 rfl) ?_
  refine l_iload_n rfl rfl ?_
  refine l_iaload (n := 2400) rfl rfl (by omega) (by omega) (by unfold rg; omega) ?_
  have w3 : -9 ≤ (Xi S 971 ((q).toNat)) ∧ (Xi S 971 ((q).toNat)) ≤ 23 := hH.c _ _
  refine l_iconst rfl ?_
  refine l_iload_n rfl rfl ?_
  refine l_callS rfl rfl (by decide) rfl (t_mo_thingIs hH (Xi S 971 ((q).toNat)) (-1) noun ⟨by omega, by omega⟩ ⟨by omega, by omega⟩ ⟨by omega, by omega⟩ _) ?_
  rintro _ _ ⟨rfl, z4, rfl, w4, p8⟩
  show Rl _ _ _ _ _ [iv z4] _ _
  have o8 : 0 ≤ z4 ∧ z4 < Xi S 904 19 := thk_i (it := -1) (noun := noun) hk (fun h => absurd h (fun f => f)) (fun h => h) (by omega) h2 (by assumption)
  have W8 : thR (-1) noun (Xi S 971 q.toNat) = z4 := thR_i p8
  refine l_istore rfl rfl rfl ?_
  refine l_aload_n rfl rfl ?_
  refine l_gfr rfl rfl rfl rfl rfl (hH.r 904 121 972 rfl) ?_
  refine l_iload_n rfl rfl ?_
  refine l_iaload (n := 2400) rfl rfl (by omega) (by omega) (by unfold rg; omega) ?_
  have w5 : -1 ≤ (Xi S 972 ((q).toNat)) ∧ (Xi S 972 ((q).toNat)) ≤ 11 := hH.c _ _
  refine l_istore rfl rfl rfl ?_
  refine l_aload_n rfl rfl ?_
  refine l_iload rfl rfl ?_
  refine l_iload rfl rfl ?_
  refine l_callV rfl rfl rfl (t_mo_numberOf__q hH z4 (Xi S 972 ((q).toNat)) ⟨by omega, by omega⟩ ⟨by omega, by omega⟩ (by first | assumption | exact (ABV_FR hF rfl (by assumption : ABV S))) (by first | assumption | exact (by assumption : TXM S)) (by first | assumption | omega) _) ?_
  rintro _ T1 ⟨hHT1, w10, z9, rfl, w9, w7, q26, w8⟩
  have hFT1 : FR md_mo_adds__2q S T1 := FR.tr hF w10 rfl
  show Rl _ _ _ _ _ [iv z9] _ _
  have x26 : TXM T1 := TXM_FR (by assumption : FR md_mo_numberOf S T1) rfl hX
  have y26 : Xi T1 904 32 = Xi S 904 32 ∧ Xi T1 928 (Xi S 972 q.toNat).toNat = Xi S 928 (Xi S 972 q.toNat).toNat := ⟨hFT1.x 904 32 rfl, (hFT1.cx 928 rfl _).1⟩
  refine l_iload_n rfl rfl ?_
  refine l_iaddG rfl (fun c11 w11 w11d => ?_)
  refine l_istore rfl rfl rfl ?_
  refine l_aload_n rfl rfl ?_
  refine l_gfr rfl rfl rfl rfl rfl (hHT1.r 904 35 930 rfl) ?_
  refine l_bipush rfl rfl ?_
  refine l_iload rfl rfl ?_
  refine l_imul rfl ?_
  refine l_iload rfl rfl ?_
  refine l_iadd rfl ?_
  refine l_iconst rfl ?_
  refine l_bastoreZ1 (n := 288) rfl rfl (by omega) (by omega) (by unfold rg; omega) ⟨by omega, by omega⟩ ?_
  obtain ⟨U2, eU2⟩ : ∃ T : sS, T = uI T1 930 ((((12 * z4) + (Xi S 972 ((q).toNat)))).toNat) (Int32.ofInt 1) := ⟨_, rfl⟩
  rw [← eU2]
  have hHU2 : HI U2 := by rw [eU2]; exact HI_w hHT1 (show 0 ≤ 1 by omega) (show 1 ≤ 1 by omega)
  have hFU2 : FR md_mo_adds__2q S U2 := by rw [eU2]; exact FR.wI hFT1 (mdf_i (r := (930, 931, 0, 100000)) (List.mem_of_getElem? (i := 1) rfl) (inR_i (by omega) (by omega) (by omega) (by omega)))
  have w12 : Xi U2 930 ((((12 * z4) + (Xi S 972 ((q).toNat)))).toNat) = 1 := by rw [eU2]; exact Xi_same (by unfold rg; omega)
  refine l_aload_n rfl rfl ?_
  refine l_gfr rfl rfl rfl rfl rfl (hHU2.r 904 36 931 rfl) ?_
  refine l_bipush rfl rfl ?_
  refine l_iload rfl rfl ?_
  refine l_imul rfl ?_
  refine l_iload rfl rfl ?_
  refine l_iadd rfl ?_
  refine l_ldcw (z := (-999999)) rfl rfl ?_
  refine l_ldcw (z := 999999) rfl rfl ?_
  refine l_iload rfl rfl ?_
  refine l_min rfl rfl rfl (by unfold rg; omega) (by unfold rg; omega) ?_
  refine l_max rfl rfl rfl (by unfold rg; omega) (by unfold rg; omega) ?_
  have m70 : -999999 ≤ (if (-999999) < (if c11 < 999999 then c11 else 999999) then (if c11 < 999999 then c11 else 999999) else (-999999)) ∧ (if (-999999) < (if c11 < 999999 then c11 else 999999) then (if c11 < 999999 then c11 else 999999) else (-999999)) ≤ 999999 := by refine ⟨?_, ?_⟩ <;> (split <;> (try split) <;> omega)
  refine l_iastore (n := 288) rfl rfl (by omega) (by omega) (by unfold rg; omega) ?_
  obtain ⟨U3, eU3⟩ : ∃ T : sS, T = uI U2 931 ((((12 * z4) + (Xi S 972 ((q).toNat)))).toNat) (Int32.ofInt (if (-999999) < (if c11 < 999999 then c11 else 999999) then (if c11 < 999999 then c11 else 999999) else (-999999))) := ⟨_, rfl⟩
  rw [← eU3]
  have hHU3 : HI U3 := by rw [eU3]; exact HI_any hHU2 (rfl)
  have hFU3 : FR md_mo_adds__2q S U3 := by rw [eU3]; exact FR.wI hFU2 (mdf_i (r := (931, 932, 0, 100000)) (List.mem_of_getElem? (i := 2) rfl) (inR_i (by omega) (by omega) (by omega) (by omega)))
  have w13 : Xi U3 931 ((((12 * z4) + (Xi S 972 ((q).toNat)))).toNat) = (if (-999999) < (if c11 < 999999 then c11 else 999999) then (if c11 < 999999 then c11 else 999999) else (-999999)) := by rw [eU3]; exact Xi_same (by unfold rg; omega)
  have x73 : TXM U3 := txm_a (o := z4) (p := (Xi S 972 ((q).toNat))) eU2 eU3 rfl (by omega) (by omega) (by omega) (by omega) (by unfold rg; omega) (by omega) x26
  refine l_return rfl rfl ?_
  exact ⟨hHU3, hFU3, rfl, (x73), (by rw [W8]; exact adr_i (XE.f (by assumption : FR md_mo_numberOf__q S _) rfl) eU2 eU3 q26 (by assumption))⟩
def md_mo_action__s : List rec := [(904, 905, 154, 155), (904, 905, 156, 157), (904, 905, 158, 159), (904, 905, 160, 161), (904, 905, 161, 162), (904, 905, 162, 163), (919, 920, 0, 100000), (920, 921, 0, 100000), (925, 926, 0, 100000), (930, 931, 0, 100000), (931, 932, 0, 100000), (932, 933, 0, 100000), (940, 941, 0, 100000), (993, 994, 0, 100000), (994, 995, 0, 100000)]
abbrev Q_mo_action__s (S : sS) (a : Int) (noun : Int) (dd : Int) : pst := fun r S1 => HI S1 ∧ FR md_mo_action__s S S1 ∧ (∃ z : Int, r = some (iv z) ∧ (0 ≤ z ∧ z ≤ 5) ∧ (TXM S1) ∧ (WYM S1) ∧ (ACX S S1 a noun (8 - dd).toNat z))
def md_mo_tries__s : List rec := [(904, 905, 154, 155), (904, 905, 156, 157), (904, 905, 158, 159), (904, 905, 160, 161), (904, 905, 161, 162), (904, 905, 162, 163), (919, 920, 0, 100000), (920, 921, 0, 100000), (925, 926, 0, 100000), (930, 931, 0, 100000), (931, 932, 0, 100000), (932, 933, 0, 100000), (940, 941, 0, 100000), (993, 994, 0, 100000), (994, 995, 0, 100000)]
abbrev Q_mo_tries__s (S : sS) (q : Int) (noun : Int) (dq : Int) : pst := fun r S1 => HI S1 ∧ FR md_mo_tries__s S S1 ∧ (r = none ∧ (TXM S1) ∧ (WYM S1) ∧ (TRX S S1 q.toNat noun (8 - dq).toNat))
set_option maxRecDepth 100000 in
theorem u_mo_tries__s {S : sS} (hH : HI S) (q : Int) (noun : Int) (dq : Int) (hq : 0 ≤ q ∧ q ≤ 2399) (hnoun : -1 ≤ noun ∧ noun ≤ 23) (hdq : 0 ≤ dq ∧ dq ≤ 8) (hk : 0 ≤ Xi S 972 q.toNat ∧ Xi S 972 q.toNat < Xi S 904 49) (hg : Xi S 970 q.toNat ≠ 0 → Xi S 942 (Xi S 972 q.toNat).toNat < 0) (ht : Xi S 970 q.toNat = 0 → thK S False (0 ≤ noun) (Xi S 971 q.toNat)) (h2 : noun < Xi S 904 19) (hX : TXM S) (hD : DEFM S) (hR : RULM S) (hB : ABV S) (hM : LXM S) (hW : WYM S) (hA : AKR S) (hnw : NMWD S) (hdy : DR0 S) (d : Nat) (hrec : ∀ {S : sS} (_ : HI S) (a : Int) (noun : Int) (dd : Int) (ha : 0 ≤ a ∧ a ≤ 11) (hnoun : -1 ≤ noun ∧ noun ≤ 23) (hdd : 0 ≤ dd ∧ dd ≤ 8) (hn : 0 ≤ Xi S 942 a.toNat → 0 ≤ noun) (h2 : 0 ≤ Xi S 942 a.toNat → noun < Xi S 904 19) (hX : TXM S) (hD : DEFM S) (hR : RULM S) (hB : ABV S) (hM : LXM S) (hW : WYM S) (hA : AKR S) (hnw : NMWD S) (hdy : DR0 S) (hkd : 0 ≤ Xi S 942 a.toNat → blR S (Xi S 918 noun.toNat) (Xi S 942 a.toNat) ≠ 0) (ha49 : a < Xi S 904 49), (dq < 8 ∧ dd = dq + 1) → Mt lay0 (d + 29) m_mo_action [.ref 904, iv a, iv noun, iv dd] S (Q_mo_action__s S a noun dd)) : Mt lay0 (d + 30) m_mo_tries [.ref 904, iv q, iv noun, iv dq] S (Q_mo_tries__s S q noun dq) := by
  refine Mt_R rfl rfl ?_
  have hF : FR md_mo_tries__s S S := FR.rf
  have w1 : 0 ≤ Xi S 904 19 ∧ Xi S 904 19 ≤ 24 := hH.c _ _
  have w2 : 0 ≤ Xi S 904 49 ∧ Xi S 904 49 ≤ 12 := hH.c _ _
  have hc3 : 0 ≤ Xi S 904 23 ∧ Xi S 904 23 ≤ 24 := hH.c _ _
  have hc19 : 0 ≤ Xi S 904 19 ∧ Xi S 904 19 ≤ 24 := hH.c _ _
  have hc32 : 0 ≤ Xi S 904 32 ∧ Xi S 904 32 ≤ 12 := hH.c _ _
  have hc49 : 0 ≤ Xi S 904 49 ∧ Xi S 904 49 ≤ 12 := hH.c _ _
  refine l_aload_n rfl rfl ?_
  refine l_gfr rfl rfl rfl rfl rfl (hH.r 904 121 972 rfl) ?_
  refine l_iload_n rfl rfl ?_
  refine l_iaload (n := 2400) rfl rfl (by omega) (by omega) (by unfold rg; omega) ?_
  have w3 : -1 ≤ (Xi S 972 ((q).toNat)) ∧ (Xi S 972 ((q).toNat)) ≤ 11 := hH.c _ _
  refine l_istore rfl rfl rfl ?_
  refine l_iload_n rfl rfl ?_
  refine l_bipush rfl rfl ?_
  refine l_icmp_ne rfl rfl (by unfold rg; omega) (by unfold rg; omega) (fun w4 => ?_) (fun w5 => ?_)
  · refine l_aload_n rfl rfl ?_
    refine l_gfr rfl rfl rfl rfl rfl (hH.r 904 119 970 rfl) ?_
    refine l_iload_n rfl rfl ?_
    refine l_baload (n := 2400) rfl rfl rfl (by decide) (by omega) (by omega) (by unfold rg; omega) ?_
    have w6 : 0 ≤ (Xi S 970 ((q).toNat)) ∧ (Xi S 970 ((q).toNat)) ≤ 1 := hH.c _ _
    refine l_if_eq rfl rfl (by unfold rg; omega) (fun w7 => ?_) (fun w8 => ?_)
    · refine l_aload_n rfl rfl ?_
      refine l_gfr rfl rfl rfl rfl rfl (hH.r 904 120 971 rfl) ?_
      refine l_iload_n rfl rfl ?_
      refine l_iaload (n := 2400) rfl rfl (by omega) (by omega) (by unfold rg; omega) ?_
      have w9 : -9 ≤ (Xi S 971 ((q).toNat)) ∧ (Xi S 971 ((q).toNat)) ≤ 23 := hH.c _ _
      refine l_iconst rfl ?_
      refine l_iload_n rfl rfl ?_
      refine l_callS rfl rfl (by decide) rfl (t_mo_thingIs hH (Xi S 971 ((q).toNat)) (-1) noun ⟨by omega, by omega⟩ ⟨by omega, by omega⟩ ⟨by omega, by omega⟩ _) ?_
      rintro _ _ ⟨rfl, z10, rfl, w10, p44⟩
      show Rl _ _ _ _ _ [iv z10] _ _
      have o44 : 0 ≤ z10 ∧ z10 < Xi S 904 19 := thk_i (it := -1) (noun := noun) (ht (by omega)) (fun h => absurd h (fun f => f)) (fun h => h) (by omega) h2 (by assumption)
      have W44 : thR (-1) noun (Xi S 971 q.toNat) = z10 := thR_i p44
      refine l_istore rfl rfl rfl ?_
      refine l_aload_n rfl rfl ?_
      refine l_aload_n rfl rfl ?_
      refine l_gfr rfl rfl rfl rfl rfl (hH.r 904 20 918 rfl) ?_
      refine l_iload rfl rfl ?_
      refine l_iaload (n := 24) rfl rfl (by omega) (by omega) (by unfold rg; omega) ?_
      have w11 : 0 ≤ (Xi S 918 ((z10).toNat)) ∧ (Xi S 918 ((z10).toNat)) ≤ 15 := hH.c _ _
      refine l_aload_n rfl rfl ?_
      refine l_gfr rfl rfl rfl rfl rfl (hH.r 904 50 942 rfl) ?_
      refine l_iload rfl rfl ?_
      refine l_iaload (n := 12) rfl rfl (by omega) (by omega) (by unfold rg; omega) ?_
      have w12 : -2 ≤ (Xi S 942 (((Xi S 972 ((q).toNat))).toNat)) ∧ (Xi S 942 (((Xi S 972 ((q).toNat))).toNat)) ≤ 15 := hH.c _ _
      refine l_callV rfl rfl rfl (t_mo_isBelow__2 hH (Xi S 918 ((z10).toNat)) (Xi S 942 (((Xi S 972 ((q).toNat))).toNat)) ⟨by omega, by omega⟩ ⟨by omega, by omega⟩ (by first | assumption | exact (ABV_FR hF rfl (by assumption : ABV S))) _) ?_
      rintro _ _ ⟨rfl, z14, rfl, w14, w13, f64⟩
      show Rl _ _ _ _ _ [iv z14] _ _
      have b64 : z14 = 1 → 0 ≤ Xi S 942 (Xi S 972 q.toNat).toNat := fun e => by omega
      refine l_if_eq rfl rfl (by unfold rg; omega) (fun w15 => ?_) (fun w16 => ?_)
      · refine l_return rfl rfl ?_
        exact ⟨hH, hF, rfl, (by first | assumption | exact hX), (by first | assumption | exact hW), (by first | (have t := K31; exact trx_1 ⟨by omega, by omega⟩ hk (by omega) x31) | (have t := K78; exact trx_2 ⟨by omega, by omega⟩ (by omega) W44 hk (by rw [← f64]; omega) x78) | (have t := W44; exact trx_3 (by omega) W44 hk (by rw [← f64]; omega)) | exact trx_8 (by omega))⟩
      · refine l_aload_n rfl rfl ?_
        refine l_iload rfl rfl ?_
        refine l_iload rfl rfl ?_
        refine l_iload_n rfl rfl ?_
        refine l_iconst rfl ?_
        refine l_iadd rfl ?_
        refine l_callV rfl rfl rfl (hrec hH (Xi S 972 ((q).toNat)) z10 (dq + 1) ⟨by omega, by omega⟩ ⟨by omega, by omega⟩ ⟨by omega, by omega⟩ (by omega) (by omega) (by first | assumption | exact (by assumption : TXM S)) (by first | assumption | exact (DEFM_FR hF rfl (by assumption : DEFM S))) (by first | assumption | exact (RULM_FR hF rfl (by assumption : RULM S))) (by first | assumption | exact (ABV_FR hF rfl (by assumption : ABV S))) (by first | assumption | exact (LXM_FR hF rfl (by assumption : LXM S))) (by first | assumption | exact (by assumption : WYM S)) (by first | assumption | exact (AKR_FR hF rfl (by assumption : AKR S))) (by first | assumption | exact (NMWD_FR hF rfl (by assumption : NMWD S))) (by first | assumption | exact (DR0_FR hF rfl (by assumption : DR0 S))) (by first | (have t := W44; exact fun _ => (by rw [← f64]; omega)) | exact fun q => absurd q (by omega)) (by omega) (by omega)) ?_
        rintro _ T1 ⟨hHT1, w22, z21, rfl, w21, w19, w20, x78⟩
        have hFT1 : FR md_mo_tries__s S T1 := FR.tr hF w22 rfl
        show Rl _ _ _ _ _ [iv z21] _ _
        have K78 : True := trivial
        refine l_pop rfl rfl ?_
        refine l_return rfl rfl ?_
        exact ⟨hHT1, hFT1, rfl, (by first | assumption | exact hX), (by first | assumption | exact hW), (by first | (have t := K31; exact trx_1 ⟨by omega, by omega⟩ hk (by omega) x31) | (have t := K78; exact trx_2 ⟨by omega, by omega⟩ (by omega) W44 hk (by rw [← f64]; omega) x78) | (have t := W44; exact trx_3 (by omega) W44 hk (by rw [← f64]; omega)) | exact trx_8 (by omega))⟩
    · refine l_aload_n rfl rfl ?_
      refine l_iload rfl rfl ?_
      refine l_iconst rfl ?_
      refine l_iload_n rfl rfl ?_
      refine l_iconst rfl ?_
      refine l_iadd rfl ?_
      refine l_callV rfl rfl rfl (hrec hH (Xi S 972 ((q).toNat)) (-1) (dq + 1) ⟨by omega, by omega⟩ ⟨by omega, by omega⟩ ⟨by omega, by omega⟩ (by omega) (by omega) (by first | assumption | exact (by assumption : TXM S)) (by first | assumption | exact (DEFM_FR hF rfl (by assumption : DEFM S))) (by first | assumption | exact (RULM_FR hF rfl (by assumption : RULM S))) (by first | assumption | exact (ABV_FR hF rfl (by assumption : ABV S))) (by first | assumption | exact (LXM_FR hF rfl (by assumption : LXM S))) (by first | assumption | exact (by assumption : WYM S)) (by first | assumption | exact (AKR_FR hF rfl (by assumption : AKR S))) (by first | assumption | exact (NMWD_FR hF rfl (by assumption : NMWD S))) (by first | assumption | exact (DR0_FR hF rfl (by assumption : DR0 S))) (by first | (have t := W44; exact fun _ => (by rw [← f64]; omega)) | exact fun q => absurd q (by omega)) (by omega) (by omega)) ?_
      rintro _ T2 ⟨hHT2, w28, z27, rfl, w27, w25, w26, x31⟩
      have hFT2 : FR md_mo_tries__s S T2 := FR.tr hF w28 rfl
      show Rl _ _ _ _ _ [iv z27] _ _
      have K31 : True := trivial
      refine l_pop rfl rfl ?_
      refine l_return rfl rfl ?_
      exact ⟨hHT2, hFT2, rfl, (by first | assumption | exact hX), (by first | assumption | exact hW), (by first | (have t := K31; exact trx_1 ⟨by omega, by omega⟩ hk (by omega) x31) | (have t := K78; exact trx_2 ⟨by omega, by omega⟩ (by omega) W44 hk (by rw [← f64]; omega) x78) | (have t := W44; exact trx_3 (by omega) W44 hk (by rw [← f64]; omega)) | exact trx_8 (by omega))⟩
  · refine l_return rfl rfl ?_
    exact ⟨hH, hF, rfl, (by first | assumption | exact hX), (by first | assumption | exact hW), (by first | (have t := K31; exact trx_1 ⟨by omega, by omega⟩ hk (by omega) x31) | (have t := K78; exact trx_2 ⟨by omega, by omega⟩ (by omega) W44 hk (by rw [← f64]; omega) x78) | (have t := W44; exact trx_3 (by omega) W44 hk (by rw [← f64]; omega)) | exact trx_8 (by omega))⟩
def md_mo_runs__s : List rec := [(904, 905, 154, 155), (904, 905, 156, 157), (904, 905, 158, 159), (904, 905, 160, 161), (904, 905, 161, 162), (904, 905, 162, 163), (919, 920, 0, 100000), (920, 921, 0, 100000), (925, 926, 0, 100000), (930, 931, 0, 100000), (931, 932, 0, 100000), (932, 933, 0, 100000), (940, 941, 0, 100000), (993, 994, 0, 100000), (994, 995, 0, 100000)]
abbrev Q_mo_runs__s (S : sS) (ri : Int) (noun : Int) (dr : Int) : pst := fun r S1 => HI S1 ∧ FR md_mo_runs__s S S1 ∧ (∃ z : Int, r = some (iv z) ∧ (0 ≤ z ∧ z ≤ 1) ∧ (TXM S1) ∧ (WYM S1) ∧ (RNF S S1 ri.toNat (8 - dr).toNat noun z))
set_option maxRecDepth 100000 in
theorem u_mo_runs__s {S : sS} (hH : HI S) (ri : Int) (noun : Int) (dr : Int) (hri : 0 ≤ ri ∧ ri ≤ 23) (hnoun : -1 ≤ noun ∧ noun ≤ 23) (hdr : 0 ≤ dr ∧ dr ≤ 8) (hr : ri < Xi S 904 130) (hn : nM S ri.toNat → 0 ≤ noun) (h2 : noun < Xi S 904 19) (hX : TXM S) (hD : DEFM S) (hR : RULM S) (hB : ABV S) (hM : LXM S) (hW : WYM S) (hA : AKR S) (hnw : NMWD S) (hdy : DR0 S) (d : Nat) (hrec : ∀ {S : sS} (_ : HI S) (q : Int) (noun : Int) (dq : Int) (hq : 0 ≤ q ∧ q ≤ 2399) (hnoun : -1 ≤ noun ∧ noun ≤ 23) (hdq : 0 ≤ dq ∧ dq ≤ 8) (hk : 0 ≤ Xi S 972 q.toNat ∧ Xi S 972 q.toNat < Xi S 904 49) (hg : Xi S 970 q.toNat ≠ 0 → Xi S 942 (Xi S 972 q.toNat).toNat < 0) (ht : Xi S 970 q.toNat = 0 → thK S False (0 ≤ noun) (Xi S 971 q.toNat)) (h2 : noun < Xi S 904 19) (hX : TXM S) (hD : DEFM S) (hR : RULM S) (hB : ABV S) (hM : LXM S) (hW : WYM S) (hA : AKR S) (hnw : NMWD S) (hdy : DR0 S), (dq = dr) → Mt lay0 (d + 30) m_mo_tries [.ref 904, iv q, iv noun, iv dq] S (Q_mo_tries__s S q noun dq)) : Mt lay0 (d + 31) m_mo_runs [.ref 904, iv ri, iv noun, iv dr] S (Q_mo_runs__s S ri noun dr) := by
  refine Mt_R rfl rfl ?_
  have hF : FR md_mo_runs__s S S := FR.rf
  have w1 : 0 ≤ Xi S 904 130 ∧ Xi S 904 130 ≤ 24 := hH.c _ _
  have w2 : 0 ≤ Xi S 904 19 ∧ Xi S 904 19 ≤ 24 := hH.c _ _
  have hc3 : 0 ≤ Xi S 904 23 ∧ Xi S 904 23 ≤ 24 := hH.c _ _
  have hc19 : 0 ≤ Xi S 904 19 ∧ Xi S 904 19 ≤ 24 := hH.c _ _
  have hc32 : 0 ≤ Xi S 904 32 ∧ Xi S 904 32 ≤ 12 := hH.c _ _
  have hr1 := (hR ri.toNat (by omega)).1
  have h986 : 0 ≤ Xi S 986 ri.toNat ∧ Xi S 986 ri.toNat ≤ 192 := hH.c 986 ri.toNat
  have h987 : 0 ≤ Xi S 987 ri.toNat ∧ Xi S 987 ri.toNat ≤ 8 := hH.c 987 ri.toNat
  have C3 : ∀ (n3 : Nat) (T1 : sS) (_ : HI T1) (_ : FR md_mo_runs__s S T1) (v4 : Int), (0 ≤ v4 ∧ v4 ≤ 8) → (TXM T1) → (WYM T1) → (RNX S T1 ri.toNat (8 - dr).toNat noun v4) → n3 = (9 - v4).toNat → Rl lay0 (d + 30) m_mo_runs 3 [(0, .ref 904), (1, iv ri), (2, iv noun), (3, iv dr), (4, iv v4)] [] T1 (Q_mo_runs__s S ri noun dr) := by
    intro n3
    induction n3 using Nat.strongRecOn with
    | ind n3 ih3 =>
      intro T1 hHT1 hFT1 v4 w3 hX3 hW3 rx3 hm3
      have w4 : Xi T1 904 130 = Xi S 904 130 := hFT1.x _ _ rfl
      have w5 : Xi T1 904 19 = Xi S 904 19 := hFT1.x _ _ rfl
      have w6 : Xi T1 904 32 = Xi S 904 32 := hFT1.x _ _ rfl
      have w7 : Xi T1 904 49 = Xi S 904 49 := hFT1.x _ _ rfl
      refine l_iload rfl rfl ?_
      refine l_aload_n rfl rfl ?_
      refine l_gfr rfl rfl rfl rfl rfl (hHT1.r 904 140 987 rfl) ?_
      refine l_iload_n rfl rfl ?_
      refine l_iaload (n := 24) rfl rfl (by omega) (by omega) (by unfold rg; omega) ?_
      have w8 : 0 ≤ (Xi T1 987 ((ri).toNat)) ∧ (Xi T1 987 ((ri).toNat)) ≤ 8 := hHT1.c _ _
      have e10 : (Xi T1 987 ((ri).toNat)) = Xi S 987 ri.toNat := by first | rfl | exact (hFT1.cx 987 rfl _).1
      refine l_icmp_ge rfl rfl (by unfold rg; omega) (by unfold rg; omega) (fun w9 => ?_) (fun w10 => ?_)
      · refine l_iconst rfl ?_
        refine l_ireturn rfl rfl ?_
        exact ⟨hHT1, hFT1, _, rfl, ⟨by omega, by omega⟩, (by first | assumption | exact (by assumption : TXM T1)), (by first | assumption | exact (by assumption : WYM T1)), (by first | (have t := K33; exact rnx_3 rx3 (by omega) (by omega) (by omega) (by omega) rfl rfl) | (have t := K237; exact Z77 (by omega)) | exact rnx_e rx3 (by omega) rfl)⟩
      · refine l_aload_n rfl rfl ?_
        refine l_gfi rfl rfl rfl rfl rfl ?_
        have w11 : 0 ≤ (Xi T1 904 162) ∧ (Xi T1 904 162) ≤ 1 := hHT1.c _ _
        refine l_if_ne rfl rfl (by unfold rg; omega) (fun w12 => ?_) (fun w13 => ?_)
        · refine l_iconst rfl ?_
          refine l_ireturn rfl rfl ?_
          exact ⟨hHT1, hFT1, _, rfl, ⟨by omega, by omega⟩, (by first | assumption | exact (by assumption : TXM T1)), (by first | assumption | exact (by assumption : WYM T1)), (by first | (have t := K33; exact rnx_3 rx3 (by omega) (by omega) (by omega) (by omega) rfl rfl) | (have t := K237; exact Z77 (by omega)) | exact rnx_e rx3 (by omega) rfl)⟩
        · refine l_aload_n rfl rfl ?_
          refine l_gfi rfl rfl rfl rfl rfl ?_
          have w14 : 0 ≤ (Xi T1 904 161) ∧ (Xi T1 904 161) ≤ 300 := hHT1.c _ _
          refine l_sipush rfl rfl ?_
          refine l_icmp_ne rfl rfl (by unfold rg; omega) (by unfold rg; omega) (fun w15 => ?_) (fun w16 => ?_)
          · refine l_aload_n rfl rfl ?_
            refine l_dup rfl rfl ?_
            refine l_gfi rfl rfl rfl rfl rfl ?_
            refine l_iconst rfl ?_
            refine l_iadd rfl ?_
            refine l_pfi rfl rfl rfl rfl ?_
            obtain ⟨U2, eU2⟩ : ∃ T : sS, T = uI T1 904 161 (Int32.ofInt ((Xi T1 904 161) + 1)) := ⟨_, rfl⟩
            rw [← eU2]
            have hHU2 : HI U2 := by rw [eU2]; exact HI_w hHT1 (show 0 ≤ ((Xi T1 904 161) + 1) by omega) (show ((Xi T1 904 161) + 1) ≤ 300 by omega)
            have hFU2 : FR md_mo_runs__s S U2 := by rw [eU2]; exact FR.wI hFT1 (mdf_i (r := (904, 905, 161, 162)) (List.mem_of_getElem? (i := 4) rfl) (inR_i (by omega) (by omega) (by omega) (by omega)))
            have w17 : Xi U2 904 161 = ((Xi T1 904 161) + 1) := by rw [eU2]; exact Xi_same (by unfold rg; omega)
            have EA := eU2
            have G45 : ∀ (B : sS) (_ : Xi U2 976 ((Xi U2 986 ri.toNat).toNat + v4.toNat) ≠ 6) (_ : ∀ (V : sS) (no : Int), RT V U2 → (ri.toNat : Int) < Xi V 246 2 → NNR V (Xi U2 979 ri.toNat) no noun → NKO U2 ri.toNat noun → (v4.toNat : Int) < Xi U2 987 ri.toNat → ∃ W : sS, RT W B ∧ KEP cBU cBv V W ∧ (Xi V (276 + clP V U2 ri.toNat v4.toNat) 0 = 7 → W = wlF V (syA V (clP V U2 ri.toNat v4.toNat) no ++ [10])) ∧ (Xi V (276 + clP V U2 ri.toNat v4.toNat) 0 ≠ 7 → W = pfF (trC (8 - dr).toNat) V (clP V U2 ri.toNat v4.toNat) no)), RNX S B ri.toNat (8 - dr).toNat noun (v4 + 1) := fun B h6 act => rnx_g rx3 (hFT1.kep rfl) (by omega) (by omega) (by omega) (by omega) EA h6 act
            have Z45 : ¬ (0 ≤ Xi U2 976 ((Xi U2 986 ri.toNat).toNat + v4.toNat) ∧ Xi U2 976 ((Xi U2 986 ri.toNat).toNat + v4.toNat) ≤ 5) → RNF S U2 ri.toNat (8 - dr).toNat noun 1 := fun h6 => rnx_6 rx3 (hFT1.kep rfl) (by omega) (by omega) (by omega) (by omega) EA h6 rfl
            refine l_aload_n rfl rfl ?_
            refine l_gfr rfl rfl rfl rfl rfl (hHU2.r 904 127 977 rfl) ?_
            refine l_aload_n rfl rfl ?_
            refine l_gfr rfl rfl rfl rfl rfl (hHU2.r 904 139 986 rfl) ?_
            refine l_iload_n rfl rfl ?_
            refine l_iaload (n := 24) rfl rfl (by omega) (by omega) (by unfold rg; omega) ?_
            have w18 : 0 ≤ (Xi U2 986 ((ri).toNat)) ∧ (Xi U2 986 ((ri).toNat)) ≤ 192 := hHU2.c _ _
            have e57 : (Xi U2 986 ((ri).toNat)) = Xi S 986 ri.toNat := by first | rfl | exact (hFU2.cx 986 rfl _).1
            refine l_iload rfl rfl ?_
            refine l_iadd rfl ?_
            refine l_iaload (n := 2000) rfl rfl (by omega) (by omega) (by unfold rg; omega) ?_
            have w19 : 0 ≤ (Xi U2 977 ((((Xi U2 986 ((ri).toNat)) + v4)).toNat)) ∧ (Xi U2 977 ((((Xi U2 986 ((ri).toNat)) + v4)).toNat)) ≤ 2400 := hHU2.c _ _
            have hp61 : PQ U2 (nM S ri.toNat) (Xi U2 986 ri.toNat + v4).toNat := by rw [(hFU2.cx 986 rfl _).1]; exact PQ_FR hFU2 rfl (rul_ph hR (by omega) hr (i := v4) (by omega) (by omega) (by omega) rfl)
            have y61 : Xi U2 904 19 = Xi S 904 19 := hFU2.x 904 19 rfl
            have q61 : 0 ≤ (Xi U2 977 ((((Xi U2 986 ((ri).toNat)) + v4)).toNat)) ∧ (Xi U2 977 ((((Xi U2 986 ((ri).toNat)) + v4)).toNat)) < 2400 := ⟨(hHU2.c 977 _).1, hp61.1⟩
            have i61 : (Xi U2 986 ri.toNat + v4).toNat = (Xi U2 986 ri.toNat).toNat + v4.toNat := by have := hHU2.c 986 ri.toNat; omega
            have m61 : nM U2 ri.toNat = nM S ri.toNat := by unfold nM; rw [(hFU2.cx 979 rfl _).1, (hFU2.cx 942 rfl _).1]
            have P61 : PQ U2 (nM U2 ri.toNat) ((Xi U2 986 ri.toNat).toNat + v4.toNat) := by rw [← i61, m61]; exact hp61
            have Q61 : ((((Xi U2 977 ((((Xi U2 986 ((ri).toNat)) + v4)).toNat))).toNat : Nat) : Int) = Xi U2 977 ((Xi U2 986 ri.toNat).toNat + v4.toNat) := by rw [← i61]; omega
            refine l_istore rfl rfl rfl ?_
            refine l_aload_n rfl rfl ?_
            refine l_gfr rfl rfl rfl rfl rfl (hHU2.r 904 126 976 rfl) ?_
            refine l_aload_n rfl rfl ?_
            refine l_gfr rfl rfl rfl rfl rfl (hHU2.r 904 139 986 rfl) ?_
            refine l_iload_n rfl rfl ?_
            refine l_iaload (n := 24) rfl rfl (by omega) (by omega) (by unfold rg; omega) ?_
            have e73 : (Xi U2 986 ((ri).toNat)) = Xi S 986 ri.toNat := by first | rfl | exact (hFU2.cx 986 rfl _).1
            refine l_iload rfl rfl ?_
            refine l_iadd rfl ?_
            refine l_iaload (n := 2000) rfl rfl (by omega) (by omega) (by unfold rg; omega) ?_
            have w20 : 0 ≤ (Xi U2 976 ((((Xi U2 986 ((ri).toNat)) + v4)).toNat)) ∧ (Xi U2 976 ((((Xi U2 986 ((ri).toNat)) + v4)).toNat)) ≤ 6 := hHU2.c _ _
            have x77 : (Xi U2 976 ((((Xi U2 986 ((ri).toNat)) + v4)).toNat)) = Xi U2 976 ((Xi U2 986 ri.toNat).toNat + v4.toNat) := by rw [← i61]
            have Z77 := Z45
            refine l_tsw rfl rfl rfl rfl (by unfold rg; omega) (fun w21 => ?_) (fun ii tt hii w21 => ?_)
            · refine l_iconst rfl ?_
              have K237 : True := trivial
              refine l_ireturn rfl rfl ?_
              exact ⟨hHU2, hFU2, _, rfl, ⟨by omega, by omega⟩, (by first | assumption | exact (TXM_FR (FR_e eU2) rfl (by assumption : TXM T1))), (by first | assumption | exact (WYM_FR (FR_e eU2) rfl (by assumption : WYM T1))), (by first | (have t := K33; exact rnx_3 rx3 (by omega) (by omega) (by omega) (by omega) eU2 rfl) | (have t := K237; exact Z77 (by omega)) | exact rnx_e rx3 (by omega) rfl)⟩
            · match ii, hii with
              | 0, hii =>
                cases hii
                have w22 : (Xi U2 976 ((((Xi U2 986 ((ri).toNat)) + v4)).toNat)) = 0 := by simpa using w21
                refine l_aload_n rfl rfl ?_
                refine l_iload_n rfl rfl ?_
                refine l_pfi rfl rfl rfl rfl ?_
                obtain ⟨U3, eU3⟩ : ∃ T : sS, T = uI U2 904 158 (Int32.ofInt noun) := ⟨_, rfl⟩
                rw [← eU3]
                have hHU3 : HI U3 := by rw [eU3]; exact HI_w hHU2 (show -1 ≤ noun by omega) (show noun ≤ 23 by omega)
                have hFU3 : FR md_mo_runs__s S U3 := by rw [eU3]; exact FR.wI hFU2 (mdf_i (r := (904, 905, 158, 159)) (List.mem_of_getElem? (i := 2) rfl) (inR_i (by omega) (by omega) (by omega) (by omega)))
                have w23 : Xi U3 904 158 = noun := by rw [eU3]; exact Xi_same (by unfold rg; omega)
                have x118 : TXM U3 := TXM_FR (FR_e eU3) rfl (TXM_FR (FR_e eU2) rfl hX3)
                have z118 : 0 ≤ Xi U3 973 ((Xi U2 977 ((((Xi U2 986 ((ri).toNat)) + v4)).toNat))).toNat ∧ 0 ≤ Xi U3 974 ((Xi U2 977 ((((Xi U2 986 ((ri).toNat)) + v4)).toNat))).toNat ∧ Xi U3 973 ((Xi U2 977 ((((Xi U2 986 ((ri).toNat)) + v4)).toNat))).toNat + Xi U3 974 ((Xi U2 977 ((((Xi U2 986 ((ri).toNat)) + v4)).toNat))).toNat ≤ 5000 := by have t := hp61.2.1 (by omega); rw [((FR_e eU3).cx 973 rfl _).1, ((FR_e eU3).cx 974 rfl _).1]; exact t
                have EN := eU3
                refine l_aload_n rfl rfl ?_
                refine l_aload_n rfl rfl ?_
                refine l_gfr rfl rfl rfl rfl rfl (hHU3.r 904 122 973 rfl) ?_
                refine l_iload rfl rfl ?_
                refine l_iaload (n := 2400) rfl rfl (by omega) (by omega) (by unfold rg; omega) ?_
                have w24 : -2147483648 ≤ (Xi U3 973 (((Xi U2 977 ((((Xi U2 986 ((ri).toNat)) + v4)).toNat))).toNat)) ∧ (Xi U3 973 (((Xi U2 977 ((((Xi U2 986 ((ri).toNat)) + v4)).toNat))).toNat)) ≤ 2147483647 := Xi_rgI
                refine l_aload_n rfl rfl ?_
                refine l_gfr rfl rfl rfl rfl rfl (hHU3.r 904 123 974 rfl) ?_
                refine l_iload rfl rfl ?_
                refine l_iaload (n := 2400) rfl rfl (by omega) (by omega) (by unfold rg; omega) ?_
                have w25 : -2147483648 ≤ (Xi U3 974 (((Xi U2 977 ((((Xi U2 986 ((ri).toNat)) + v4)).toNat))).toNat)) ∧ (Xi U3 974 (((Xi U2 977 ((((Xi U2 986 ((ri).toNat)) + v4)).toNat))).toNat)) ≤ 2147483647 := Xi_rgI
                have w26 : -1 ≤ Xi U3 904 158 ∧ Xi U3 904 158 ≤ 23 := hHU3.c _ _
                have w27 : Xi U3 904 19 = Xi T1 904 19 := (show Xi U3 904 19 = Xi U2 904 19 from by rw [eU3]; exact Xi_ne (by omega)).trans ((show Xi U2 904 19 = Xi T1 904 19 from by rw [eU2]; exact Xi_ne (by omega)))
                have w28 : 0 ≤ Xi T1 904 19 ∧ Xi T1 904 19 ≤ 24 := hHT1.c _ _
                refine l_callV rfl rfl rfl (t_mo_written__q hHU3 (Xi U3 973 (((Xi U2 977 ((((Xi U2 986 ((ri).toNat)) + v4)).toNat))).toNat)) (Xi U3 974 (((Xi U2 977 ((((Xi U2 986 ((ri).toNat)) + v4)).toNat))).toNat)) ⟨by omega, by omega⟩ ⟨by omega, by omega⟩ (by first | assumption | omega) (by first | assumption | exact (LXM_FR hFU3 rfl (by assumption : LXM S))) (by first | assumption | exact (ABV_FR hFU3 rfl (by assumption : ABV S))) (by first | assumption | exact (TXM_FR (FR_e eU3) rfl (TXM_FR (FR_e eU2) rfl (by assumption : TXM T1)))) (by omega) (by first | assumption | exact (NMWD_FR hFU3 rfl (by assumption : NMWD S))) (by first | assumption | exact (DR0_FR hFU3 rfl (by assumption : DR0 S))) _) ?_
                rintro _ T4 ⟨hHT4, w30, z29, rfl, w29, w136⟩
                have hFT4 : FR md_mo_runs__s S T4 := FR.tr hFU3 w30 rfl
                show Rl _ _ _ _ _ [iv z29] _ _
                have W136 : FR md_mo_written__q U3 T4 := by assumption
                refine l_pop rfl rfl ?_
                refine l_aload_n rfl rfl ?_
                refine l_bipush rfl rfl ?_
                have w31 : Xi T4 904 157 = Xi T1 904 157 := (show Xi T4 904 157 = Xi U3 904 157 from w30.x _ _ rfl).trans ( (show Xi U3 904 157 = Xi U2 904 157 from by rw [eU3]; exact Xi_ne (by omega)).trans ((show Xi U2 904 157 = Xi T1 904 157 from by rw [eU2]; exact Xi_ne (by omega))))
                have w32 : 0 ≤ Xi T1 904 157 ∧ Xi T1 904 157 ≤ 1 := hHT1.c _ _
                refine l_callV rfl rfl rfl (t_mo_put__q hHT4 10 ⟨by omega, by omega⟩ _) ?_
                rintro _ T5 ⟨hHT5, w34, rfl, o143, d143⟩
                have hFT5 : FR md_mo_runs__s S T5 := FR.tr hFT4 w34 rfl
                show Rl _ _ _ _ _ [] _ _
                have R143 : RNX S T5 ri.toNat (8 - dr).toNat noun (v4 + 1) := G45 _ (by omega) (fun V no a hr2 hn2 nk2 hk2 => ⟨_, (pa_say a hr2 hk2 (by omega) hn2 nk2 Q61 (by omega) EN (W136.kep rfl) w136 ((by assumption : FR md_mo_put__q _ T5).kep rfl) o143).1, (pa_say a hr2 hk2 (by omega) hn2 nk2 Q61 (by omega) EN (W136.kep rfl) w136 ((by assumption : FR md_mo_put__q _ T5).kep rfl) o143).2, fun _ => rfl, fun f => absurd ((rph_m a.1 hr2 hk2).1 (by omega)) f⟩)
                refine l_goto rfl rfl ?_
                refine l_iinc rfl rfl rfl rfl ?_
                refine l_goto rfl rfl ?_
                exact Rl_weak (ih3 _ (by omega) T5 hHT5 hFT5 ((v4 + 1)) (by omega) (by first | assumption | exact (TXM_FR w34 rfl (TXM_FR w30 rfl (TXM_FR (FR_e eU3) rfl (TXM_FR (FR_e eU2) rfl (by assumption : TXM T1)))))) (by first | assumption | exact (WYM_FR w34 rfl (WYM_FR w30 rfl (WYM_FR (FR_e eU3) rfl (WYM_FR (FR_e eU2) rfl (by assumption : WYM T1)))))) (by first | exact R143 | exact R153 | exact R184 | exact R201 | exact R219 | exact R230 | exact rnx_0) rfl) (And.intro rfl (And.intro rfl (And.intro rfl (And.intro rfl (And.intro rfl (True.intro))))))
              | 1, hii =>
                cases hii
                have w35 : (Xi U2 976 ((((Xi U2 986 ((ri).toNat)) + v4)).toNat)) = 1 := by simpa using w21
                refine l_aload_n rfl rfl ?_
                refine l_iload rfl rfl ?_
                refine l_iload_n rfl rfl ?_
                have w36 : Xi U2 904 19 = Xi T1 904 19 := (show Xi U2 904 19 = Xi T1 904 19 from by rw [eU2]; exact Xi_ne (by omega))
                have w37 : 0 ≤ Xi T1 904 19 ∧ Xi T1 904 19 ≤ 24 := hHT1.c _ _
                refine l_callV rfl rfl rfl (t_mo_nows__q hHU2 (Xi U2 977 ((((Xi U2 986 ((ri).toNat)) + v4)).toNat)) noun ⟨by omega, by omega⟩ ⟨by omega, by omega⟩ ((hp61.2.2.1 (by omega)).mono hn) (by omega) (by first | assumption | exact (TXM_FR (FR_e eU2) rfl (by assumption : TXM T1))) _) ?_
                rintro _ T6 ⟨hHT6, w40, rfl, w38, n153⟩
                have hFT6 : FR md_mo_runs__s S T6 := FR.tr hFU2 w40 rfl
                show Rl _ _ _ _ _ [] _ _
                have x153 : TXM T6 := by assumption
                have R153 : RNX S T6 ri.toNat (8 - dr).toNat noun (v4 + 1) := G45 _ (by omega) (fun V no a hr2 hn2 nk2 hk2 => ⟨_, (pa_now (tr := trC (8 - dr).toNat) a hr2 hk2 (by omega) hn2 P61 Q61 (by assumption) n153).1, (pa_now (tr := trC (8 - dr).toNat) a hr2 hk2 (by omega) hn2 P61 Q61 (by assumption) n153).2, fun f => absurd f ((rph_m a.1 hr2 hk2).2.1 (by omega)), fun _ => rfl⟩)
                refine l_goto rfl rfl ?_
                refine l_iinc rfl rfl rfl rfl ?_
                refine l_goto rfl rfl ?_
                exact Rl_weak (ih3 _ (by omega) T6 hHT6 hFT6 ((v4 + 1)) (by omega) (by first | assumption | exact (by assumption : TXM T6)) (by first | assumption | exact (WYM_FR w40 rfl (WYM_FR (FR_e eU2) rfl (by assumption : WYM T1)))) (by first | exact R143 | exact R153 | exact R184 | exact R201 | exact R219 | exact R230 | exact rnx_0) rfl) (And.intro rfl (And.intro rfl (And.intro rfl (And.intro rfl (And.intro rfl (True.intro))))))
              | 2, hii =>
                cases hii
                have w41 : (Xi U2 976 ((((Xi U2 986 ((ri).toNat)) + v4)).toNat)) = 2 := by simpa using w21
                refine l_aload_n rfl rfl ?_
                refine l_aload_n rfl rfl ?_
                refine l_gfr rfl rfl rfl rfl rfl (hHU2.r 904 120 971 rfl) ?_
                refine l_iload rfl rfl ?_
                refine l_iaload (n := 2400) rfl rfl (by omega) (by omega) (by unfold rg; omega) ?_
                have w42 : -9 ≤ (Xi U2 971 (((Xi U2 977 ((((Xi U2 986 ((ri).toNat)) + v4)).toNat))).toNat)) ∧ (Xi U2 971 (((Xi U2 977 ((((Xi U2 986 ((ri).toNat)) + v4)).toNat))).toNat)) ≤ 23 := hHU2.c _ _
                refine l_iconst rfl ?_
                refine l_iload_n rfl rfl ?_
                refine l_callS rfl rfl (by decide) rfl (t_mo_thingIs hHU2 (Xi U2 971 (((Xi U2 977 ((((Xi U2 986 ((ri).toNat)) + v4)).toNat))).toNat)) (-1) noun ⟨by omega, by omega⟩ ⟨by omega, by omega⟩ ⟨by omega, by omega⟩ _) ?_
                rintro _ _ ⟨rfl, z43, rfl, w43, p169⟩
                show Rl _ _ _ _ _ [iv z43, .ref 904] _ _
                have o169 : 0 ≤ z43 ∧ z43 < Xi U2 904 19 := thk_i (it := -1) (noun := noun) ((hp61.2.2.2.1 (by omega)).1.mono hn) (fun h => absurd h (fun f => f)) (fun h => h) (by omega) (by omega) (by assumption)
                have W169 : thR (-1) noun (Xi U2 971 ((Xi U2 977 ((((Xi U2 986 ((ri).toNat)) + v4)).toNat))).toNat) = z43 := thR_i p169
                refine l_aload_n rfl rfl ?_
                refine l_gfr rfl rfl rfl rfl rfl (hHU2.r 904 124 975 rfl) ?_
                refine l_iload rfl rfl ?_
                refine l_iaload (n := 2400) rfl rfl (by omega) (by omega) (by unfold rg; omega) ?_
                have w44 : -9 ≤ (Xi U2 975 (((Xi U2 977 ((((Xi U2 986 ((ri).toNat)) + v4)).toNat))).toNat)) ∧ (Xi U2 975 (((Xi U2 977 ((((Xi U2 986 ((ri).toNat)) + v4)).toNat))).toNat)) ≤ 23 := hHU2.c _ _
                refine l_iconst rfl ?_
                refine l_iload_n rfl rfl ?_
                refine l_callS rfl rfl (by decide) rfl (t_mo_thingIs hHU2 (Xi U2 975 (((Xi U2 977 ((((Xi U2 986 ((ri).toNat)) + v4)).toNat))).toNat)) (-1) noun ⟨by omega, by omega⟩ ⟨by omega, by omega⟩ ⟨by omega, by omega⟩ _) ?_
                rintro _ _ ⟨rfl, z45, rfl, w45, p181⟩
                show Rl _ _ _ _ _ [iv z45, iv z43, .ref 904] _ _
                have o181 : 0 ≤ z45 ∧ z45 < Xi U2 904 19 := thk_i (it := -1) (noun := noun) ((hp61.2.2.2.1 (by omega)).2.mono hn) (fun h => absurd h (fun f => f)) (fun h => h) (by omega) (by omega) (by assumption)
                have W181 : thR (-1) noun (Xi U2 975 ((Xi U2 977 ((((Xi U2 986 ((ri).toNat)) + v4)).toNat))).toNat) = z45 := thR_i p181
                refine l_callV rfl rfl rfl (t_mo_moves__q hHU2 z43 z45 ⟨by omega, by omega⟩ ⟨by omega, by omega⟩ (by first | assumption | exact (ABV_FR hFU2 rfl (by assumption : ABV S))) (by first | assumption | exact (WYM_FR (FR_e eU2) rfl (by assumption : WYM T1))) _) ?_
                rintro _ T7 ⟨hHT7, w48, rfl, w46, e184⟩
                have hFT7 : FR md_mo_runs__s S T7 := FR.tr hFU2 w48 rfl
                show Rl _ _ _ _ _ [] _ _
                have R184 : RNX S T7 ri.toNat (8 - dr).toNat noun (v4 + 1) := G45 _ (by omega) (fun V no a hr2 hn2 nk2 hk2 => ⟨_, (pa_mov (tr := trC (8 - dr).toNat) a hr2 hk2 (by omega) hn2 P61 Q61 (by assumption) (by rw [W169, W181]; exact e184)).1, (pa_mov (tr := trC (8 - dr).toNat) a hr2 hk2 (by omega) hn2 P61 Q61 (by assumption) (by rw [W169, W181]; exact e184)).2, fun f => absurd f ((rph_m a.1 hr2 hk2).2.1 (by omega)), fun _ => rfl⟩)
                refine l_goto rfl rfl ?_
                refine l_iinc rfl rfl rfl rfl ?_
                refine l_goto rfl rfl ?_
                exact Rl_weak (ih3 _ (by omega) T7 hHT7 hFT7 ((v4 + 1)) (by omega) (by first | assumption | exact (TXM_FR w48 rfl (TXM_FR (FR_e eU2) rfl (by assumption : TXM T1)))) (by first | assumption | exact (by assumption : WYM T7)) (by first | exact R143 | exact R153 | exact R184 | exact R201 | exact R219 | exact R230 | exact rnx_0) rfl) (And.intro rfl (And.intro rfl (And.intro rfl (And.intro rfl (And.intro rfl (True.intro))))))
              | 3, hii =>
                cases hii
                have w49 : (Xi U2 976 ((((Xi U2 986 ((ri).toNat)) + v4)).toNat)) = 3 := by simpa using w21
                refine l_aload_n rfl rfl ?_
                refine l_iload rfl rfl ?_
                refine l_iload_n rfl rfl ?_
                refine l_aload_n rfl rfl ?_
                refine l_gfr rfl rfl rfl rfl rfl (hHU2.r 904 122 973 rfl) ?_
                refine l_iload rfl rfl ?_
                refine l_iaload (n := 2400) rfl rfl (by omega) (by omega) (by unfold rg; omega) ?_
                have w50 : -2147483648 ≤ (Xi U2 973 (((Xi U2 977 ((((Xi U2 986 ((ri).toNat)) + v4)).toNat))).toNat)) ∧ (Xi U2 973 (((Xi U2 977 ((((Xi U2 986 ((ri).toNat)) + v4)).toNat))).toNat)) ≤ 2147483647 := Xi_rgI
                have w51 : Xi U2 904 19 = Xi T1 904 19 := (show Xi U2 904 19 = Xi T1 904 19 from by rw [eU2]; exact Xi_ne (by omega))
                have w52 : 0 ≤ Xi T1 904 19 ∧ Xi T1 904 19 ≤ 24 := hHT1.c _ _
                have w53 : Xi U2 904 32 = Xi T1 904 32 := (show Xi U2 904 32 = Xi T1 904 32 from by rw [eU2]; exact Xi_ne (by omega))
                have w54 : 0 ≤ Xi T1 904 32 ∧ Xi T1 904 32 ≤ 12 := hHT1.c _ _
                refine l_callV rfl rfl rfl (t_mo_adds__q hHU2 (Xi U2 977 ((((Xi U2 986 ((ri).toNat)) + v4)).toNat)) noun (Xi U2 973 (((Xi U2 977 ((((Xi U2 986 ((ri).toNat)) + v4)).toNat))).toNat)) ⟨by omega, by omega⟩ ⟨by omega, by omega⟩ ⟨by omega, by omega⟩ ((hp61.2.2.2.2.1 (by omega)).1.mono hn) ((hp61.2.2.2.2.1 (by omega)).2) (by omega) (by first | assumption | exact (ABV_FR hFU2 rfl (by assumption : ABV S))) (by first | assumption | exact (TXM_FR (FR_e eU2) rfl (by assumption : TXM T1))) _) ?_
                rintro _ T8 ⟨hHT8, w57, rfl, w55, e201⟩
                have hFT8 : FR md_mo_runs__s S T8 := FR.tr hFU2 w57 rfl
                show Rl _ _ _ _ _ [] _ _
                have x201 : TXM T8 := by assumption
                have R201 : RNX S T8 ri.toNat (8 - dr).toNat noun (v4 + 1) := G45 _ (by omega) (fun V no a hr2 hn2 nk2 hk2 => ⟨_, (pa_add (tr := trC (8 - dr).toNat) a hr2 hk2 (Or.inl ⟨by omega, rfl⟩) hn2 P61 Q61 (by assumption) e201).1, (pa_add (tr := trC (8 - dr).toNat) a hr2 hk2 (Or.inl ⟨by omega, rfl⟩) hn2 P61 Q61 (by assumption) e201).2, fun f => absurd f ((rph_m a.1 hr2 hk2).2.1 (by omega)), fun _ => rfl⟩)
                refine l_goto rfl rfl ?_
                refine l_iinc rfl rfl rfl rfl ?_
                refine l_goto rfl rfl ?_
                exact Rl_weak (ih3 _ (by omega) T8 hHT8 hFT8 ((v4 + 1)) (by omega) (by first | assumption | exact (by assumption : TXM T8)) (by first | assumption | exact (WYM_FR w57 rfl (WYM_FR (FR_e eU2) rfl (by assumption : WYM T1)))) (by first | exact R143 | exact R153 | exact R184 | exact R201 | exact R219 | exact R230 | exact rnx_0) rfl) (And.intro rfl (And.intro rfl (And.intro rfl (And.intro rfl (And.intro rfl (True.intro))))))
              | 4, hii =>
                cases hii
                have w58 : (Xi U2 976 ((((Xi U2 986 ((ri).toNat)) + v4)).toNat)) = 4 := by simpa using w21
                refine l_aload_n rfl rfl ?_
                refine l_iload rfl rfl ?_
                refine l_iload_n rfl rfl ?_
                refine l_aload_n rfl rfl ?_
                refine l_gfr rfl rfl rfl rfl rfl (hHU2.r 904 122 973 rfl) ?_
                refine l_iload rfl rfl ?_
                refine l_iaload (n := 2400) rfl rfl (by omega) (by omega) (by unfold rg; omega) ?_
                have w59 : -2147483648 ≤ (Xi U2 973 (((Xi U2 977 ((((Xi U2 986 ((ri).toNat)) + v4)).toNat))).toNat)) ∧ (Xi U2 973 (((Xi U2 977 ((((Xi U2 986 ((ri).toNat)) + v4)).toNat))).toNat)) ≤ 2147483647 := Xi_rgI
                refine l_ineg rfl ?_
                have w60 : Xi U2 904 19 = Xi T1 904 19 := (show Xi U2 904 19 = Xi T1 904 19 from by rw [eU2]; exact Xi_ne (by omega))
                have w61 : 0 ≤ Xi T1 904 19 ∧ Xi T1 904 19 ≤ 24 := hHT1.c _ _
                have w62 : Xi U2 904 32 = Xi T1 904 32 := (show Xi U2 904 32 = Xi T1 904 32 from by rw [eU2]; exact Xi_ne (by omega))
                have w63 : 0 ≤ Xi T1 904 32 ∧ Xi T1 904 32 ≤ 12 := hHT1.c _ _
                refine l_callV rfl rfl rfl (t_mo_adds__2q hHU2 (Xi U2 977 ((((Xi U2 986 ((ri).toNat)) + v4)).toNat)) noun (-(Xi U2 973 (((Xi U2 977 ((((Xi U2 986 ((ri).toNat)) + v4)).toNat))).toNat))) ⟨by omega, by omega⟩ ⟨by omega, by omega⟩ ⟨by omega, by omega⟩ ((hp61.2.2.2.2.1 (by omega)).1.mono hn) ((hp61.2.2.2.2.1 (by omega)).2) (by omega) (by first | assumption | exact (ABV_FR hFU2 rfl (by assumption : ABV S))) (by first | assumption | exact (TXM_FR (FR_e eU2) rfl (by assumption : TXM T1))) _) ?_
                rintro _ T9 ⟨hHT9, w66, rfl, w64, e219⟩
                have hFT9 : FR md_mo_runs__s S T9 := FR.tr hFU2 w66 rfl
                show Rl _ _ _ _ _ [] _ _
                have x219 : TXM T9 := by assumption
                have R219 : RNX S T9 ri.toNat (8 - dr).toNat noun (v4 + 1) := G45 _ (by omega) (fun V no a hr2 hn2 nk2 hk2 => ⟨_, (pa_add (tr := trC (8 - dr).toNat) a hr2 hk2 (Or.inr ⟨by omega, rfl⟩) hn2 P61 Q61 (by assumption) e219).1, (pa_add (tr := trC (8 - dr).toNat) a hr2 hk2 (Or.inr ⟨by omega, rfl⟩) hn2 P61 Q61 (by assumption) e219).2, fun f => absurd f ((rph_m a.1 hr2 hk2).2.1 (by omega)), fun _ => rfl⟩)
                refine l_goto rfl rfl ?_
                refine l_iinc rfl rfl rfl rfl ?_
                refine l_goto rfl rfl ?_
                exact Rl_weak (ih3 _ (by omega) T9 hHT9 hFT9 ((v4 + 1)) (by omega) (by first | assumption | exact (by assumption : TXM T9)) (by first | assumption | exact (WYM_FR w66 rfl (WYM_FR (FR_e eU2) rfl (by assumption : WYM T1)))) (by first | exact R143 | exact R153 | exact R184 | exact R201 | exact R219 | exact R230 | exact rnx_0) rfl) (And.intro rfl (And.intro rfl (And.intro rfl (And.intro rfl (And.intro rfl (True.intro))))))
              | 5, hii =>
                cases hii
                have w67 : (Xi U2 976 ((((Xi U2 986 ((ri).toNat)) + v4)).toNat)) = 5 := by simpa using w21
                refine l_aload_n rfl rfl ?_
                refine l_iload rfl rfl ?_
                refine l_iload_n rfl rfl ?_
                refine l_iload_n rfl rfl ?_
                have w68 : Xi U2 904 19 = Xi T1 904 19 := (show Xi U2 904 19 = Xi T1 904 19 from by rw [eU2]; exact Xi_ne (by omega))
                have w69 : 0 ≤ Xi T1 904 19 ∧ Xi T1 904 19 ≤ 24 := hHT1.c _ _
                have w70 : Xi U2 904 49 = Xi T1 904 49 := (show Xi U2 904 49 = Xi T1 904 49 from by rw [eU2]; exact Xi_ne (by omega))
                have w71 : 0 ≤ Xi T1 904 49 ∧ Xi T1 904 49 ≤ 12 := hHT1.c _ _
                refine l_callV rfl rfl rfl (hrec hHU2 (Xi U2 977 ((((Xi U2 986 ((ri).toNat)) + v4)).toNat)) noun dr ⟨by omega, by omega⟩ ⟨by omega, by omega⟩ ⟨by omega, by omega⟩ ((hp61.2.2.2.2.2 (by omega)).1) ((hp61.2.2.2.2.2 (by omega)).2.2) (fun q => ((hp61.2.2.2.2.2 (by omega)).2.1 q).mono hn) (by omega) (by first | assumption | exact (TXM_FR (FR_e eU2) rfl (by assumption : TXM T1))) (by first | assumption | exact (DEFM_FR hFU2 rfl (by assumption : DEFM S))) (by first | assumption | exact (RULM_FR hFU2 rfl (by assumption : RULM S))) (by first | assumption | exact (ABV_FR hFU2 rfl (by assumption : ABV S))) (by first | assumption | exact (LXM_FR hFU2 rfl (by assumption : LXM S))) (by first | assumption | exact (WYM_FR (FR_e eU2) rfl (by assumption : WYM T1))) (by first | assumption | exact (AKR_FR hFU2 rfl (by assumption : AKR S))) (by first | assumption | exact (NMWD_FR hFU2 rfl (by assumption : NMWD S))) (by first | assumption | exact (DR0_FR hFU2 rfl (by assumption : DR0 S))) (by omega)) ?_
                rintro _ T10 ⟨hHT10, w75, rfl, w72, w73, t230⟩
                have hFT10 : FR md_mo_runs__s S T10 := FR.tr hFU2 w75 rfl
                show Rl _ _ _ _ _ [] _ _
                have R230 : RNX S T10 ri.toNat (8 - dr).toNat noun (v4 + 1) := G45 _ (by omega) (fun V no a hr2 hn2 nk2 hk2 => ⟨_, (pa_try a hr2 hk2 (by omega) hn2 P61 Q61 t230).1, (pa_try a hr2 hk2 (by omega) hn2 P61 Q61 t230).2, fun f => absurd f ((rph_m a.1 hr2 hk2).2.1 (by omega)), fun _ => rfl⟩)
                refine l_goto rfl rfl ?_
                refine l_iinc rfl rfl rfl rfl ?_
                refine l_goto rfl rfl ?_
                exact Rl_weak (ih3 _ (by omega) T10 hHT10 hFT10 ((v4 + 1)) (by omega) (by first | assumption | exact (by assumption : TXM T10)) (by first | assumption | exact (by assumption : WYM T10)) (by first | exact R143 | exact R153 | exact R184 | exact R201 | exact R219 | exact R230 | exact rnx_0) rfl) (And.intro rfl (And.intro rfl (And.intro rfl (And.intro rfl (And.intro rfl (True.intro))))))
              | n + 6, hii => exact absurd hii (by simp)
          · refine l_aload_n rfl rfl ?_
            refine l_iconst rfl ?_
            refine l_pfz rfl rfl rfl rfl (by omega) ?_
            obtain ⟨U11, eU11⟩ : ∃ T : sS, T = uI T1 904 162 (Int32.ofInt 1) := ⟨_, rfl⟩
            rw [← eU11]
            have hHU11 : HI U11 := by rw [eU11]; exact HI_w hHT1 (show 0 ≤ 1 by omega) (show 1 ≤ 1 by omega)
            have hFU11 : FR md_mo_runs__s S U11 := by rw [eU11]; exact FR.wI hFT1 (mdf_i (r := (904, 905, 162, 163)) (List.mem_of_getElem? (i := 5) rfl) (inR_i (by omega) (by omega) (by omega) (by omega)))
            have w76 : Xi U11 904 162 = 1 := by rw [eU11]; exact Xi_same (by unfold rg; omega)
            have K33 : True := trivial
            refine l_iconst rfl ?_
            refine l_ireturn rfl rfl ?_
            exact ⟨hHU11, hFU11, _, rfl, ⟨by omega, by omega⟩, (by first | assumption | exact (TXM_FR (FR_e eU11) rfl (by assumption : TXM T1))), (by first | assumption | exact (WYM_FR (FR_e eU11) rfl (by assumption : WYM T1))), (by first | (have t := K33; exact rnx_3 rx3 (by omega) (by omega) (by omega) (by omega) eU11 rfl) | (have t := K237; exact Z77 (by omega)) | exact rnx_e rx3 (by omega) rfl)⟩
  refine l_iconst rfl ?_
  refine l_istore rfl rfl rfl ?_
  exact Rl_weak (C3 _ S hH hF (0) (by omega) (by first | assumption | exact (by assumption : TXM S)) (by first | assumption | exact (by assumption : WYM S)) (by first | exact R143 | exact R153 | exact R184 | exact R201 | exact R219 | exact R230 | exact rnx_0) rfl) (And.intro rfl (And.intro rfl (And.intro rfl (And.intro rfl (And.intro rfl (True.intro))))))
end
section
/-! RULES of both in their order -/
noncomputable def cnSR (V : sS) (s : Int) (m : Nat) : Int := smN (fun j => ctP (Xi V (248 + (Xi V 272 j).toNat) 0 = s)) m
theorem cns_1 {V : sS} {s : Int} {m : Nat} : cnSR V s (m + 1) = cnSR V s m + ctP (Xi V (248 + (Xi V 272 m).toNat) 0 = s) := rfl
theorem cns_d {V : sS} {s : Int} {a : Nat} : ∀ d : Nat, cnSR V s a ≤ cnSR V s (a + d)
  | 0 => Int.le_refl _
  | d + 1 => by
    have t := cns_d (V := V) (s := s) (a := a) d
    have u := ctP_r (P := Xi V (248 + (Xi V 272 (a + d)).toNat) 0 = s)
    rw [show a + (d + 1) = a + d + 1 by omega, cns_1]
    omega
theorem cns_le {V : sS} {s : Int} {a b : Nat} (h : a ≤ b) : cnSR V s a ≤ cnSR V s b := by
  have t := cns_d (V := V) (s := s) (a := a) (b - a)
  rw [show a + (b - a) = b by omega] at t
  exact t
theorem cns_lt {V : sS} {s : Int} {a b : Nat} (h : a < b) (e : Xi V (248 + (Xi V 272 a).toNat) 0 = s) : cnSR V s a + 1 ≤ cnSR V s b := by
  have t := cns_le (V := V) (s := s) (a := a + 1) (b := b) (by omega)
  rw [cns_1, ctP_1 e] at t
  exact t
theorem pos_ex {V : sS} {n : Int} {z : Nat} (g : SRT V V n) (hz : (z : Int) < n) : ∃ p : Nat, (p : Int) < n ∧ Xi V 272 p = z := by
  obtain ⟨a, b, c⟩ := g
  apply Classical.byContradiction
  intro q
  have u := c (fun s => ctP (s = z))
  rw [smN_0 (f := fun j => ctP ((Xi V 272 j).toNat = z)) (fun j hj => ctP_0 (fun e => q ⟨j, by omega, by have := a j (by omega); omega⟩)), smN_1 (f := fun s => ctP (s = z)) (r := z) (x := 1) (by omega) (ctP_1 rfl) (fun j hj hn => ctP_0 hn)] at u
  omega
theorem pos_no {V : sS} {n s : Int} {j : Nat} (g : SRT V V n) (hj : (j : Int) < n) (e : Xi V (248 + (Xi V 272 j).toNat) 0 = s) : noU V n.toNat (Xi V 272 j).toNat = cnSR V s j := by
  have r := g.1 j hj
  have p : PIO V (Xi V 272 j).toNat n (cnSR V s j) := by
    refine ⟨j, by omega, ?_, fun k hk q => ?_, Or.inr (by omega)⟩
    · unfold cnSR pioN; rw [e]
    · have t := g.2.1 k j hk hj
      rw [show Xi V 272 k = Xi V 272 j by omega] at t
      have u := ahu_n t
      rcases t with t | t
      · exact u t
      · omega
  exact (pio_no p g (by omega)).symm
def RSP (T : sS) (s k z : Int) : Prop := (z = -1 → ∀ r : Nat, (r : Int) < Xi T 904 130 → ¬ (Xi T 978 r = s ∧ noR T (Xi T 904 130).toNat r = k)) ∧ (z ≠ -1 → (0 ≤ z ∧ z < Xi T 904 130) ∧ Xi T 978 z.toNat = s ∧ noR T (Xi T 904 130).toNat z.toNat = k)
theorem nx_r {V T : sS} {s k z : Int} {i : Nat} (a : RLB V T) (B : ABV T) (g : SRT V V (Xi V 246 2)) (hc : cnSR V s i = k) (sp : RSP T s k z) : (z = -1 → ∀ j : Nat, i ≤ j → (j : Int) < Xi V 246 2 → Xi V (248 + (Xi V 272 j).toNat) 0 ≠ s) ∧ (z ≠ -1 → ∃ j : Nat, i ≤ j ∧ (j : Int) < Xi V 246 2 ∧ Xi V 272 j = z ∧ Xi V (248 + z.toNat) 0 = s ∧ (∀ l : Nat, i ≤ l → l < j → Xi V (248 + (Xi V 272 l).toNat) 0 ≠ s) ∧ cnSR V s (j + 1) = k + 1) := by
  have e24 := a.2.2.2.1.2.2.2.1
  have ru := a.2.2.2.2.2
  have no : ∀ r : Nat, (r : Int) < Xi V 246 2 → noR T (Xi T 904 130).toNat r = noU V (Xi V 246 2).toNat r := fun r hr => by
    rw [← e24.1]
    exact (no_r a.1.2.2.2.1 B (fun s hs => ru s (by omega)) (by omega)).symm
  refine ⟨fun q => ?_, fun q => ?_⟩
  · have key : ∀ d : Nat, ∀ j : Nat, j = i + d → (j : Int) < Xi V 246 2 → Xi V (248 + (Xi V 272 j).toNat) 0 ≠ s := by
      intro d
      induction d using Nat.strongRecOn with
      | ind d ih =>
        intro j ej hj e
        have cj : cnSR V s j = k := by
          rw [← hc]
          have : ∀ m : Nat, m ≤ d → cnSR V s (i + m) = cnSR V s i := fun m => by
            induction m with
            | zero => intro _; rfl
            | succ m ihm =>
              intro hm
              rw [show i + (m + 1) = i + m + 1 by omega, cns_1, ihm (by omega), ctP_0 (ih m (by omega) (i + m) rfl (by omega))]
              omega
          rw [ej]; exact this d (Nat.le_refl d)
        have r := g.1 j hj
        refine sp.1 q (Xi V 272 j).toNat (by omega) ⟨?_, ?_⟩
        · rw [← (ru (Xi V 272 j).toNat (by omega)).1.1]; exact e
        · rw [no _ (by omega), pos_no g hj e]; exact cj
    intro j h1 h2
    exact key (j - i) j (by omega) h2
  · obtain ⟨s1, s2, s3⟩ := sp.2 q
    obtain ⟨p, p1, p2⟩ := pos_ex (z := z.toNat) g (by omega)
    have ez : Xi V 272 p = z := by omega
    have so : Xi V (248 + z.toNat) 0 = s := by rw [(ru z.toNat (by omega)).1.1]; exact s2
    have sp' : Xi V (248 + (Xi V 272 p).toNat) 0 = s := by rw [ez]; exact so
    have cp : cnSR V s p = k := by
      rw [← pos_no g p1 sp', ez, ← no z.toNat (by omega)]; exact s3
    refine ⟨p, ?_, p1, ez, so, fun l h1 h2 e => ?_, ?_⟩
    · apply Classical.byContradiction
      intro h
      have := cns_lt (V := V) (s := s) (a := p) (b := i) (by omega) sp'
      omega
    · have := cns_lt (V := V) (s := s) (a := l) (b := p) h2 e
      have := cns_le (V := V) (s := s) (a := i) (b := l) h1
      omega
    · rw [cns_1, cp, ctP_1 sp']
theorem rr_sk {tr : sS → Int → Int → sS} {s a o c : Int} {V : sS} (ne : Xi V 900 6 = 0) : ∀ (d : Nat) (i : Int), 0 ≤ i → i + d ≤ c → (∀ l : Nat, i ≤ l → (l : Int) < i + d → Xi V (248 + (Xi V 272 l).toNat) 0 ≠ s) → rrC tr s a o (c - i).toNat i.toNat V = rrC tr s a o (c - (i + d)).toNat (i + d).toNat V
  | 0, i, _, _, _ => by rw [show i + ((0 : Nat) : Int) = i by omega]
  | d + 1, i, h0, h1, h => by
    rw [rr_j ⟨h0, by omega⟩ ne (h i.toNat (by omega) (by omega)), rr_sk ne d (i + 1) (by omega) (by omega) (fun l x y => h l (by omega) (by omega)), show i + 1 + (d : Int) = i + ((d + 1 : Nat) : Int) by omega]
/-- the same state, and the same answer while the turn hasn't ended -/
def EQY (P Q : sS × Int) : Prop := P.1 = Q.1 ∧ (Xi P.1 900 6 = 0 → P.2 = Q.2)
theorem eqy_t {P Q R : sS × Int} (h : EQY P Q) (g : EQY Q R) : EQY P R := ⟨h.1.trans g.1, fun q => (h.2 q).trans (g.2 (by rw [← h.1]; exact q))⟩
theorem eqy_e {P Q : sS × Int} (h : P = Q) : EQY P Q := h ▸ ⟨rfl, fun _ => rfl⟩
def LPX (S T : sS) (F : sS → sS × Int) (C : sS × Int → sS × Int) (n : Nat) (s a no k : Int) : Prop := ∀ U : sS, RT U S → ∃ (V : sS) (i : Int), RT V T ∧ KEP cBU cBv U V ∧ EQY (F U) (C (rrC (trC n) s a no (Xi V 246 2 - i).toNat i.toNat V)) ∧ (0 ≤ i ∧ i ≤ Xi V 246 2) ∧ cnSR V s i.toNat = k
def LPF (S T : sS) (F : sS → sS × Int) (C : sS × Int → sS × Int) (y : Int) : Prop := ∀ U : sS, RT U S → ∃ V : sS, RT V T ∧ KEP cBU cBv U V ∧ EQY (F U) (C (V, y))
theorem lpx_e {S T : sS} {F : sS → sS × Int} {C : sS × Int → sS × Int} {n : Nat} {s a no k z : Int} (h : LPX S T F C n s a no k) (B : ABV T) (sp : RSP T s k z) (e : z = -1 ∨ Xi T 904 162 ≠ 0) : LPF S T F C 0 := fun U u => by
  obtain ⟨V, i, v1, v2, v3, v4, v5⟩ := h U u
  refine ⟨V, v1, v2, ?_⟩
  by_cases ne : Xi V 900 6 = 0
  · have z1 : z = -1 := by
      rcases e with e | e
      · exact e
      · exact absurd (v1.2.2.1.1.1 ne) e
    have t := (nx_r v1.1 B v1.2.2.2.2.o.1 v5 sp).1 z1
    rw [rr_sk ne (Xi V 246 2 - i).toNat i v4.1 (by omega) (fun l x y => t l (by omega) (by omega)), show i + ((Xi V 246 2 - i).toNat : Int) = Xi V 246 2 by omega, rr_e (Or.inl (Int.le_refl _))] at v3
    exact v3
  · rw [rr_e (Or.inr ne)] at v3
    exact v3
theorem rt_4 {V T X : sS} (h : RT V T) (f : FR [(904, 905, 154, 155)] T X) : RT V X := (rt_l h (rlb_z h.1 kep_rf (f.kep rfl)) kep_rf (f.kep rfl)).1
/-- nouns, as the reference has them -/
def NNS (T : sS) (a no o : Int) : Prop := (o = no ∧ 0 ≤ o ∧ o < Xi T 904 19) ∨ (o = -1 ∧ (a < 0 ∨ Xi T 942 a.toNat < 0))
theorem nns_r {V T : sS} {a no o : Int} (h : RLB V T) (ha : a < Xi T 904 49) (n : NNS T a no o) : NNR V a no o := by
  have c2 := h.1.2.2.1.2.2.1
  have c8 := h.1.2.2.1.2.2.2.2.2.2.2.2
  rcases n with ⟨n1, n2⟩ | ⟨n1, n2⟩
  · exact Or.inl ⟨n1, by omega, by omega⟩
  · refine Or.inr ⟨n1, ?_⟩
    by_cases q : a < 0
    · exact Or.inl q
    · have t := h.1.2.2.2.2.2.2.2.2.1.2 a.toNat (by omega)
      omega
/-- which rules are asked: of an action, or of every turn -/
def ASK (T : sS) (s a b no o : Int) : Prop := (s ≠ 3 ∧ a = b ∧ (0 ≤ a ∧ a < Xi T 904 49) ∧ NNS T a no o ∧ (0 ≤ Xi T 942 a.toNat → blR T (Xi T 918 o.toNat) (Xi T 942 a.toNat) ≠ 0)) ∨ (s = 3 ∧ a = -1 ∧ no = -1 ∧ o = -1)
theorem ask_ap {V T : sS} {s a b no o z : Int} (h : RT V T) (h40 : ∀ j : Nat, 0 ≤ Xi T 940 j ∧ Xi T 940 j ≤ 1) (hR : RULM T) (k : ASK T s a b no o) (hz : 0 ≤ z ∧ z < Xi V 246 2) (hs : Xi T 978 z.toNat = s) : apC V z.toNat a no = apR T z b o := by
  have pl := h.2.2.2.2.o.2.1
  have c8 := h.1.1.2.2.1.2.2.2.2.2.2.2.2
  have ez : ((z.toNat : Nat) : Int) = z := by omega
  rcases k with ⟨k1, k2, k3, k4, k5⟩ | ⟨k1, k2, k3, k4⟩
  · have t := ap_r (r := z.toNat) h.1 h40 hR pl (by omega) (by rw [hs]; exact k1) k3.1 (by omega) (nns_r h.1 k3.2 k4)
    rw [ez, k2] at t
    rw [k2]; exact t
  · rw [k2, k3, k4]
    have t := ap_3 (r := z.toNat) (b := b) h.1 h40 hR pl (by omega) (by rw [hs]; exact k1)
    rw [ez] at t
    exact t
theorem cns_k {U V : sS} {s : Int} (k : KEP cBU cBv U V) (g : SRT U U (Xi U 246 2)) (h24 : Xi U 246 2 ≤ 24) (m : Nat) (hm : (m : Int) ≤ Xi U 246 2) : cnSR V s m = cnSR U s m := by
  unfold cnSR
  refine smN_e (fun l hl => ctP_e ?_)
  have r := g.1 l (by omega)
  have e : Xi V 272 l = Xi U 272 l := k.x 272 (inK_i (a := 221) (b := 876) (by decide) (by omega) (by omega)) l
  have e0 : Xi V (248 + (Xi U 272 l).toNat) 0 = Xi U (248 + (Xi U 272 l).toNat) 0 := ru_k k (by omega)
  rw [e, e0]
/-- what is remembered changes nothing of it -/
theorem rt_zc {V T : sS} (h : RT V T) : RT (zcS V) T := (rt_l h (rlb_z h.1 (zc_fr.kep rfl) kep_rf) (zc_fr.kep rfl) kep_rf).1
theorem rt_fz {V W T : sS} (h : RT V T) (f : FR zcM V W) : RT W T ∧ KEP cBU cBv V W := rt_l h (rlb_z h.1 (f.kep rfl) kep_rf) (f.kep rfl) kep_rf
/-- a rule that doesn't apply -/
theorem lpx_j {S T X : sS} {F : sS → sS × Int} {C : sS × Int → sS × Int} {n : Nat} {s a b no o k z : Int} (h : LPX S T F C n s a no k) (B : ABV T) (h40 : ∀ j : Nat, 0 ≤ Xi T 940 j ∧ Xi T 940 j ≤ 1) (hR : RULM T) (sp : RSP T s k z) (hz : z ≠ -1) (ne : Xi T 904 162 = 0) (ak : ASK T s a b no o) (ap : apR T z b o = 0) (f : FR [(904, 905, 154, 155)] T X) : LPX S X F C n s a no (k + 1) := fun U u => by
  obtain ⟨V, i, v1, v2, v3, v4, v5⟩ := h U u
  have e24 := v1.1.2.2.2.1.2.2.2.1
  have nV : Xi V 900 6 = 0 := v1.2.2.1.1.2 ne
  obtain ⟨j, j1, j2, j3, j4, j5, j6⟩ := (nx_r v1.1 B v1.2.2.2.2.o.1 v5 sp).2 hz
  have s2 := (sp.2 hz)
  have e0 := ask_ap (rt_zc v1) h40 hR ak (by rw [zc_x (by decide)]; omega) s2.2.1
  have sk := rr_sk (tr := trC n) (s := s) (a := a) (o := no) (c := Xi V 246 2) nV ((j : Int) - i).toNat i v4.1 (by omega) (fun l x y => j5 l (by omega) (by omega))
  rw [show i + (((j : Int) - i).toNat : Int) = j by omega] at sk
  have fz : FR zcM V (apS V z.toNat a no) := aps_f
  have v0 := rt_fz v1 fz
  have e6 : Xi (apS V z.toNat a no) 246 2 = Xi V 246 2 := fz.x 246 2 rfl
  have st := rr_na (tr := trC n) (sort := s) (a := a) (o := no) (c := Xi V 246 2) (v := (j : Int)) (S := V) (T := apS V z.toNat a no) (by omega) nV (by rw [show ((j : Int)).toNat = j by omega, j3]; exact j4) (by rw [show ((j : Int)).toNat = j by omega, j3, e0, ap]) (by rw [show ((j : Int)).toNat = j by omega, j3])
  refine ⟨apS V z.toNat a no, (j : Int) + 1, rt_4 v0.1 f, v2.tr v0.2, ?_, by omega, by rw [show ((j : Int) + 1).toNat = j + 1 by omega, cns_k v0.2 v1.2.2.2.2.o.1 (by omega) (j + 1) (by omega)]; exact j6⟩
  rw [e6, ← st, ← sk]
  exact v3
theorem bl_rf {S : sS} {k : Int} (h : 0 ≤ k) : blR S k k ≠ 0 := by
  unfold blR blN
  simp [show ¬ k < 0 by omega]
theorem ask_nk {V T : sS} {s a b no o z : Int} (h : RT V T) (hR : RULM T) (k : ASK T s a b no o) (hz : 0 ≤ z ∧ z < Xi V 246 2) (hs : Xi T 978 z.toNat = s) (ap : apR T z b o ≠ 0) : NKO T z.toNat o ∧ NNR V (Xi T 979 z.toNat) no o := by
  have e24 := h.1.2.2.2.1.2.2.2.1
  have rm := (hR z.toNat (by omega)).1
  have s3 := (h.1.2.2.2.2.2 z.toNat (by omega)).1
  rcases k with ⟨k1, k2, k3, k4, k5⟩ | ⟨k1, k2, k3, k4⟩
  · have g : apG T z b o ≠ 0 := fun q => ap (apr_0 (by omega) q)
    have g2 : ¬ (Xi T 979 z.toNat ≠ b ∨ (Xi T 980 z.toNat ≠ -1 ∧ Xi T 980 z.toNat ≠ o) ∨ (Xi T 981 z.toNat ≠ -1 ∧ blR T (Xi T 918 o.toNat) (Xi T 981 z.toNat) = 0)) := fun q => g (apg_0 q)
    have e9 : Xi T 979 z.toNat = b := Decidable.byContradiction (fun x => g2 (Or.inl x))
    refine ⟨fun hm => ?_, by rw [e9, ← k2]; exact nns_r h.1 k3.2 k4⟩
    unfold nM at hm
    have o1 : 0 ≤ o ∧ o < Xi T 904 19 := by
      rcases k4 with x | ⟨_, x⟩
      · exact x.2
      · rw [e9, ← k2] at hm; omega
    have ob := h.1.1.2.2.2.2.2.2.2.2.2.1
    have c2 := h.1.1.2.2.1.2.2.1
    unfold nkR
    by_cases x0 : Xi T 980 z.toNat ≠ -1
    · rw [if_pos x0]
      have e0 : Xi T 980 z.toNat = o := Decidable.byContradiction (fun x => g2 (Or.inr (Or.inl ⟨x0, x⟩)))
      rw [e0]
      exact bl_rf (ob.1.2 o.toNat (by omega)).2.1
    · rw [if_neg x0]
      by_cases x1 : Xi T 981 z.toNat ≠ -1
      · rw [if_pos x1]
        exact fun q => g2 (Or.inr (Or.inr ⟨x1, q⟩))
      · rw [if_neg x1, e9, ← k2]
        rw [e9, ← k2] at hm
        exact k5 hm.2
  · have e9 := rm.2.2.2 (by omega)
    exact ⟨fun hm => by unfold nM at hm; omega, by rw [e9]; exact Or.inr ⟨k4, Or.inl (by decide)⟩⟩
/-- a rule that applies: it runs -/
theorem lpx_r {S T X Y : sS} {F : sS → sS × Int} {C : sS × Int → sS × Int} {n : Nat} {s a b no o k z y : Int} (h : LPX S T F C n s a no k) (B : ABV T) (h40 : ∀ j : Nat, 0 ≤ Xi T 940 j ∧ Xi T 940 j ≤ 1) (hR : RULM T) (sp : RSP T s k z) (hz : z ≠ -1) (ne : Xi T 904 162 = 0) (ak : ASK T s a b no o) (ap : apR T z b o ≠ 0) (f : FR [(904, 905, 154, 155)] T X) (rn : RNF X Y z.toNat n o y) : (Xi Y 904 162 = 0 → s = 1 ∨ (y ≠ 0 ∧ s ≠ 3) → LPF S Y F C 1) ∧ (Xi Y 904 162 ≠ 0 ∨ (s ≠ 1 ∧ (y = 0 ∨ s = 3)) → LPX S Y F C n s a no (k + 1)) := by
  have key : ∀ U : sS, RT U S → ∃ (W : sS) (st : Int) (j : Nat), RT W Y ∧ KEP cBU cBv U W ∧ (Xi W 900 6 = 0 → (st ≠ 0 ↔ y ≠ 0)) ∧ EQY (F U) (C (rrD (trC n) s a no (Xi W 246 2 - ((j : Int) + 1)).toNat ((j : Int) + 1).toNat (W, st))) ∧ (j : Int) < Xi W 246 2 ∧ cnSR W s (j + 1) = k + 1 := fun U u => by
    obtain ⟨V, i, v1, v2, v3, v4, v5⟩ := h U u
    have e24 := v1.1.2.2.2.1.2.2.2.1
    have nV : Xi V 900 6 = 0 := v1.2.2.1.1.2 ne
    obtain ⟨j, j1, j2, j3, j4, j5, j6⟩ := (nx_r v1.1 B v1.2.2.2.2.o.1 v5 sp).2 hz
    have s2 := (sp.2 hz)
    have e0 := ask_ap (rt_zc v1) h40 hR ak (by rw [zc_x (by decide)]; omega) s2.2.1
    have fz : FR zcM V (apS V z.toNat a no) := aps_f
    have v0 := rt_fz v1 fz
    have e60 : Xi (apS V z.toNat a no) 246 2 = Xi V 246 2 := fz.x 246 2 rfl
    obtain ⟨q1, q2⟩ := ask_nk v0.1 hR ak (by omega) s2.2.1 ap
    have kx : KEP cBS2 cBw T X := f.kep rfl
    obtain ⟨W, st, w1, w2, w3, w4⟩ := rn (apS V z.toNat a no) no (rt_4 v0.1 f) (by omega) (by rw [kx.x 979 rfl]; exact q2) (nko_k kx q1)
    have sk := rr_sk (tr := trC n) (s := s) (a := a) (o := no) (c := Xi V 246 2) nV ((j : Int) - i).toNat i v4.1 (by omega) (fun l x y => j5 l (by omega) (by omega))
    rw [show i + (((j : Int) - i).toNat : Int) = j by omega] at sk
    have st2 := rr_g (tr := trC n) (sort := s) (a := a) (o := no) (c := Xi V 246 2) (v := (j : Int)) (ru := z.toNat) (S := V) (T := apS V z.toNat a no) (by omega) nV (by rw [show ((j : Int)).toNat = j by omega, j3]) j4 (by rw [e0]; exact ap) rfl
    have e6 : Xi W 246 2 = Xi V 246 2 := (w2.x 246 rfl 2).trans e60
    refine ⟨W, st, j, w1, (v2.tr v0.2).tr w2, w4, ?_, by omega, by rw [cns_k (v0.2.tr w2) v1.2.2.2.2.o.1 (by omega) (j + 1) (by omega)]; exact j6⟩
    unfold PHW at w3
    rw [w3] at st2
    rw [e6, ← st2, ← sk]
    exact v3
  refine ⟨fun ny c U u => ?_, fun c U u => ?_⟩
  · obtain ⟨W, st, j, w1, w2, w3, w4, _⟩ := key U u
    have nW : Xi W 900 6 = 0 := w1.2.2.1.1.2 ny
    refine ⟨W, w1, w2, ?_⟩
    rw [rd_y nW (c.elim Or.inl (fun x => Or.inr ⟨(w3 nW).2 x.1, x.2⟩))] at w4
    exact w4
  · obtain ⟨W, st, j, w1, w2, w3, w4, w5, w6⟩ := key U u
    refine ⟨W, (j : Int) + 1, w1, w2, ?_, by omega, by rw [show ((j : Int) + 1).toNat = j + 1 by omega]; exact w6⟩
    rw [rd_n (by
      by_cases nW : Xi W 900 6 = 0
      · right
        rcases c with c | ⟨c1, c2⟩
        · exact absurd (w1.2.2.1.1.1 nW) c
        · refine ⟨c1, c2.elim (fun x => Or.inl ?_) Or.inr⟩
          apply Decidable.byContradiction
          intro q
          exact (w3 nW).1 q x
      · exact Or.inl nW)] at w4
    exact w4
end
section
/-! the first actions, in both -/
theorem uI_id {S : sS} {k j : Nat} : uI S k j (Int32.ofInt (Xi S k j)) = S := by
  obtain ⟨a, b, c⟩ := S
  have e : Int32.ofInt (Xi (a, b, c) k j) = a k j := ofI_toI
  rw [e]
  unfold uI
  congr 1
  funext x y
  unfold va_up upd
  by_cases q : x = k
  · subst q
    by_cases r : y = j
    · subst r; simp
    · simp [r]
  · simp [q]
theorem rob_g {U U1 S S1 : sS} {o h w : Int} (r : ROB U S) (ho : 0 ≤ o ∧ o < Xi U 5 2) (hh : 0 ≤ h ∧ h ≤ 5) (hi : h = 0 ↔ w = -1) (hw : -1 ≤ w ∧ w < Xi U 5 2) (ct : RCT U S) (e : U1 = plO U o h w) (f : S1 = uI (uI S 919 o.toNat (Int32.ofInt h)) 920 o.toNat (Int32.ofInt w)) : ROB U1 S1 := by
  have c2 := ct.2.2.1
  have u5 : Xi U1 5 2 = Xi U 5 2 := by rw [e]; unfold plO; rw [Xi_ne (by omega), Xi_ne (by omega)]
  have s19 : Xi S1 904 19 = Xi S 904 19 := by rw [f, Xi_ne (by omega), Xi_ne (by omega)]
  obtain ⟨⟨a, b⟩, d⟩ := r
  have u50 : Xi U1 5 0 = Xi U 5 0 := by rw [e]; unfold plO; rw [Xi_ne (by omega), Xi_ne (by omega)]
  refine ⟨⟨by rw [u5, s19]; exact a, fun j hj => ?_⟩, fun j hj => ?_⟩
  · rw [u5] at hj
    rw [u50]
    have := b j hj
    rw [show Xi U1 21 j = Xi U 21 j by rw [e]; unfold plO; rw [Xi_ne (by omega), Xi_ne (by omega)], show Xi S1 918 j = Xi S 918 j by rw [f, Xi_ne (by omega), Xi_ne (by omega)]]
    exact this
  · rw [u5] at hj ⊢
    by_cases q : j = o.toNat
    · have x1 : Xi U1 22 j = h := by rw [e, q]; unfold plO; rw [Xi_ne (by omega), Xi_same (by unfold rg; omega)]
      have x2 : Xi U1 23 j = w := by rw [e, q]; unfold plO; rw [Xi_same (by unfold rg; omega)]
      have y1 : Xi S1 919 j = h := by rw [f, q, Xi_ne (by omega), Xi_same (by unfold rg; omega)]
      have y2 : Xi S1 920 j = w := by rw [f, q, Xi_same (by unfold rg; omega)]
      rw [x1, x2, y1, y2]
      exact ⟨⟨rfl, rfl⟩, hh, hi, hw⟩
    · have x1 : Xi U1 22 j = Xi U 22 j := by rw [e]; unfold plO; rw [Xi_ne (by omega), Xi_ne (by omega)]
      have x2 : Xi U1 23 j = Xi U 23 j := by rw [e]; unfold plO; rw [Xi_ne (by omega), Xi_ne (by omega)]
      have y1 : Xi S1 919 j = Xi S 919 j := by rw [f, Xi_ne (by omega), Xi_ne (by omega)]
      have y2 : Xi S1 920 j = Xi S 920 j := by rw [f, Xi_ne (by omega), Xi_ne (by omega)]
      rw [x1, x2, y1, y2]
      exact d j hj
theorem rt_pl {U S : sS} {o h w : Int} (r : RT U S) (ho : 0 ≤ o ∧ o < Xi U 5 2) (hh : 0 ≤ h ∧ h ≤ 5) (hi : h = 0 ↔ w = -1) (hw : -1 ≤ w ∧ w < Xi U 5 2) : RT (plO U o h w) (uI (uI S 919 o.toNat (Int32.ofInt h)) 920 o.toNat (Int32.ofInt w)) ∧ KEP cBU cBv U (plO U o h w) := by
  have c2 := r.1.1.2.2.1.2.2.1
  have F : FR [(22, 24, 0, 100000)] U (plO U o h w) := fr_plO (by omega)
  have G : FR [(919, 921, 0, 100000)] S (uI (uI S 919 o.toNat (Int32.ofInt h)) 920 o.toNat (Int32.ofInt w)) := FR.wI (FR.wI FR.rf (by unfold mdf inR; simp; omega)) (by unfold mdf inR; simp; omega)
  exact rt_l r (rlb_o r.1 (F.kep rfl) (G.kep rfl) (rob_g r.1.1.2.2.2.2.2.2.2.2.2.1 ho hh hi hw r.1.1.2.2.1 rfl rfl)) (F.kep rfl) (G.kep rfl)
theorem blk_r {V T : sS} {n : Int} (h : RT V T) (h40 : ∀ j : Nat, 0 ≤ Xi T 940 j ∧ Xi T 940 j ≤ 1) (hn : 0 ≤ n ∧ n < Xi V 5 2) : (TKC V n ↔ BLK T n) ∧ (PHO V n ↔ HLD T n) := by
  have ob := h.1.1.2.2.2.2.2.2.2.2.2.1
  have p := ob.2 n.toNat (by omega)
  have c3 := h.1.1.2.2.1.2.2.2.1
  have c2 := h.1.1.2.2.1.2.2.1
  have aj := h.1.1.2.2.2.2.2.1 0 (by omega)
  have n0 : Xi V 11 (0 : Int).toNat ≠ -1 := by have := h.2.2.2.2.o.2.2.2.2.2.1.1; show Xi V 11 0 ≠ -1; omega
  have ph : PHO V n ↔ HLD T n := by unfold PHO HLD; omega
  refine ⟨?_, ph⟩
  have q := ahq_r h.1 h40 8 n 0 hn.1 hn.2 (by omega) (by omega)
  rw [ahC_1 n0] at q
  have w := wi_r (x := n) (o := 0) ob (by omega)
  have w0 : n = 0 → isW V 0 n ≠ 0 := fun e => by rw [e]; unfold isW isWn; simp
  unfold TKC BLK
  constructor
  · rintro (x | x | x)
    · exact Or.inr (Or.inl (by omega))
    · exact Or.inr (Or.inr (Or.inl (ph.1 x)))
    · exact Or.inr (Or.inr (Or.inr (by rw [← w]; exact x)))
  · rintro (x | x | x | x)
    · exact Or.inr (Or.inr (w0 x))
    · exact Or.inl (by omega)
    · exact Or.inr (Or.inl (ph.2 x))
    · exact Or.inr (Or.inr (by rw [w]; exact x))
theorem go_r {V T : sS} {dir : Int} (h : RLB V T) (hd : 0 ≤ dir ∧ dir < 6) : goC V dir = goR T dir := by
  have ob := h.1.2.2.2.2.2.2.2.2.2.1
  have c2 := h.1.2.2.1.2.2.1
  have p := ob.2 0 (by omega)
  unfold goC goR
  by_cases q : Xi T 919 0 = 1
  · have r1 : 0 ≤ Xi V 23 0 := by omega
    have k0 := ob.1.2 (Xi V 23 0).toNat (by omega)
    have ek : isK V (Xi V 21 (Xi V 23 0).toNat) 1 = blR T (Xi T 918 (Xi T 920 0).toNat) 1 := by rw [k0.1, isK_bl h.1.2.2.2.1 k0.2.2, p.1.2]
    by_cases b : blR T (Xi T 918 (Xi T 920 0).toNat) 1 ≠ 0
    · rw [if_neg (by omega), if_pos ⟨q, b⟩, ← p.1.2]
      exact lead_r h.1.2.2.2.2.2.2.2.2.2.2.2.2.2.1 (by omega) hd (by omega)
    · rw [if_pos (Or.inr (Or.inr (by rw [ek]; exact Decidable.byContradiction b))), if_neg (fun x => b x.2)]
  · rw [if_pos (Or.inl (by omega)), if_neg (fun x => q x.1)]
theorem sc_r {V T X : sS} {a n z : Int} (h : RT V T) (h40 : ∀ j : Nat, 0 ≤ Xi T 940 j ∧ Xi T 940 j ≤ 1) (hn : 1 ≤ a → a ≤ 3 → 0 ≤ n ∧ n < Xi T 904 19) (hd : a = 4 → 0 ≤ n ∧ n < 6) (hr : 0 ≤ ldR T (Xi T 920 0) n ∧ ldR T (Xi T 920 0) n < Xi T 904 19 ∨ ldR T (Xi T 920 0) n = -1) (ds : DSR T X a n z) : ∃ W : sS, scF V a n = (W, z) ∧ RT W X ∧ KEP cBU cBv V W := by
  have c2 := h.1.1.2.2.1.2.2.1
  have c5 := h.1.1.2.2.1.2.2.2.2.2.1
  have ob := h.1.1.2.2.2.2.2.2.2.2.2.1
  have p0 := ob.2 0 (by omega)
  rcases ds with ⟨ha, ds⟩ | ⟨ha, ds⟩ | ⟨ha, z1, M, d1, d2, d3, d4⟩ | ⟨ha, ds⟩ | ⟨ha, z1, e⟩
  · obtain ⟨b, _⟩ := blk_r h h40 (n := n) (by have := hn (by omega) (by omega); omega)
    rcases ds with ⟨d1, d2, d3⟩ | ⟨d1, d2, M, d3, d4⟩
    · exact ⟨V, (sc_1 ha (Or.inl ⟨b.2 d1, d2, rfl⟩)).symm, rt_4 h d3, kep_rf⟩
    · have r := rt_pl (o := n) (h := 4) (w := 0) (rt_4 h d3) (by have := hn (by omega) (by omega); omega) (by omega) (by omega) (by omega)
      rw [← d4] at r
      exact ⟨plO V n 4 0, (sc_1 ha (Or.inr ⟨fun q => d1 (b.1 q), d2, rfl⟩)).symm, r.1, r.2⟩
  · obtain ⟨_, b⟩ := blk_r h h40 (n := n) (by have := hn (by omega) (by omega); omega)
    rcases ds with ⟨d1, d2, d3⟩ | ⟨d1, d2, d3⟩
    · exact ⟨V, (sc_2 ha (Or.inl ⟨fun q => d1 (b.1 q), d2, rfl⟩)).symm, by rw [d3]; exact h, kep_rf⟩
    · have r := rt_pl (o := n) (h := Xi V 22 0) (w := Xi V 23 0) h (by have := hn (by omega) (by omega); omega) (by omega) (by omega) (by omega)
      rw [p0.1.1, p0.1.2, ← d3, ← p0.1.1, ← p0.1.2] at r
      exact ⟨plO V n (Xi V 22 0) (Xi V 23 0), (sc_2 ha (Or.inr ⟨b.2 d1, d2, rfl⟩)).symm, r.1, r.2⟩
  · have st := h.2.2.2.2.o
    have e9 : Xi T 928 (0 : Int).toNat = 1 := st.2.2.2.2.2.1.2
    have o1 := pro_s (p := 0) h.1 st.2.2.1 (o := n) (by have := hn (by omega) (by omega); omega) (by omega) d1
    have ty := h.1.1.2.2.2.2.1.2.1 0 (by omega)
    have ei : insL V n 0 = txL V (txr V) (vof V n 0) (lof V n 0).toNat := by
      unfold insL
      rw [if_neg (by decide), if_pos (by show Xi V 9 0 = 1; rw [ty.1]; exact e9)]
      rfl
    rw [ei] at o1
    have r := rt_w h (oup_tr (by have := h.2.1.1; omega) o1 d3) ((d2.tr d4 rfl).kep rfl)
    exact ⟨_, by rw [z1]; exact (sc_3 ha rfl).symm, r.1, r.2⟩
  · have g := go_r h.1 (hd ha)
    have i0 : ∀ t : Int, 0 ≤ t ∧ t < Xi V 5 2 → Xi T 919 0 = 1 → RT (plO V 0 1 t) (uI T 920 0 (Int32.ofInt t)) ∧ KEP cBU cBv V (plO V 0 1 t) := fun t ht e1 => by
      have r := rt_pl (o := 0) (h := 1) (w := t) h (by omega) (by omega) (by omega) (by omega)
      have e : uI (uI T 919 (0 : Int).toNat (Int32.ofInt 1)) 920 (0 : Int).toNat (Int32.ofInt t) = uI T 920 0 (Int32.ofInt t) := by
        have : uI T 919 (0 : Int).toNat (Int32.ofInt 1) = T := by rw [show (0 : Int).toNat = 0 from rfl, ← e1]; exact uI_id
        rw [this]; rfl
      rw [e] at r
      exact r
    rcases ds with ⟨d1, d2, d3⟩ | ⟨d1, d2, d3⟩
    · refine ⟨V, (sc_4 ha (Or.inl ⟨g.trans d1, d2, rfl⟩)).symm, ?_, kep_rf⟩
      have : uI T 920 0 (Int32.ofInt (Xi T 920 0)) = T := uI_id
      rw [d3, this]; exact h
    · have e1 : Xi T 919 0 = 1 ∧ goR T n = ldR T (Xi T 920 0) n := by
        unfold goR at d1 ⊢
        by_cases q : Xi T 919 0 = 1 ∧ blR T (Xi T 918 (Xi T 920 0).toNat) 1 ≠ 0
        · rw [if_pos q]; exact ⟨q.1, rfl⟩
        · rw [if_neg q] at d1; exact absurd rfl d1
      have r := i0 (goR T n) (by have := e1.2; omega) e1.1
      rw [← d3] at r
      refine ⟨plO V 0 1 (goC V n), (sc_4 ha (Or.inr ⟨by rw [g]; exact d1, d2, rfl⟩)).symm, ?_⟩
      rw [g]; exact r
  · exact ⟨V, by rw [z1]; exact (sc_5 (by omega)).symm, by rw [e]; exact h, kep_rf⟩
end
section
/-! an ACTION, in both -/
noncomputable def aC0 (n : Nat) (a o : Int) (P : sS × Int) : sS × Int := if P.2 ≠ 0 then (P.1, 1) else do1 (trC n) P.1 a o
noncomputable def aC1 (n : Nat) (a o : Int) (P : sS × Int) : sS × Int := if P.2 ≠ 0 then (P.1, 2) else do2 (trC n) P.1 a o
noncomputable def aC2 (P : sS × Int) : sS × Int := (P.1, if P.2 ≠ 0 then 4 else 0)
noncomputable def aFn (n : Nat) (a o : Int) (U : sS) : sS × Int := doC (trC n) U a o
def HD6 (S : sS) (a o : Int) : Prop := Xi S 942 a.toNat = -2 → 0 ≤ o ∧ o < 6
def ACYX (S T : sS) (a o : Int) (n : Nat) (z : Int) : Prop := ∀ U : sS, RT U S → ∃ (V : sS) (y : Int), doC (trC n) U a o = (V, y) ∧ RT V T ∧ KEP cBU cBv U V ∧ (Xi V 900 6 = 0 → y = z)
theorem acx_i {S T : sS} {a o z : Int} {n : Nat} (h : HD6 S a o → ACYX S T a o n z) : ACX S T a o n z := fun U u d => h d U u
theorem lpa_0 {S : sS} {n : Nat} {a o : Int} : LPX S S (aFn n a o) (aC0 n a o) n 0 a o 0 := fun U u => ⟨U, 0, u, kep_rf, ⟨rfl, fun _ => rfl⟩, ⟨Int.le_refl _, by have := u.1.2.2.2.1.2.2.2.1; omega⟩, rfl⟩
theorem lp_01 {S T : sS} {n : Nat} {a o : Int} (h : LPF S T (aFn n a o) (aC0 n a o) 0) : LPX S T (aFn n a o) (aC1 n a o) n 1 a o 0 := fun U u => by
  obtain ⟨V, v1, v2, v3⟩ := h U u
  refine ⟨V, 0, v1, v2, eqy_t v3 ?_, ⟨Int.le_refl _, by have := v1.1.2.2.2.1.2.2.2.1; omega⟩, rfl⟩
  show EQY (do1 (trC n) V a o) (aC1 n a o (rrA (trC n) 1 a o V))
  by_cases e : Xi V 900 6 = 0
  · refine eqy_e ?_
    unfold do1 aC1
    rw [if_neg (fun x => x e)]
  · have r : rrA (trC n) 1 a o V = (V, 0) := rr_e (Or.inr e)
    rw [r]
    unfold do1 aC1 do2
    rw [if_pos e, if_neg (by show ¬ ((0 : Int) ≠ 0); exact fun x => x rfl), if_pos e]
    exact ⟨rfl, fun q => absurd q e⟩
theorem lpx_ed {S T : sS} {F : sS → sS × Int} {C : sS × Int → sS × Int} {n : Nat} {s a no k : Int} (h : LPX S T F C n s a no k) (e : Xi T 904 162 ≠ 0) : LPF S T F C 0 := fun U u => by
  obtain ⟨V, i, v1, v2, v3, v4, v5⟩ := h U u
  have ne : Xi V 900 6 ≠ 0 := fun q => e (v1.2.2.1.1.1 q)
  rw [rr_e (Or.inr ne)] at v3
  exact ⟨V, v1, v2, v3⟩
theorem acy_f {S T : sS} {n : Nat} {a o z : Int} {C : sS × Int → sS × Int} {y : Int} (h : LPF S T (aFn n a o) C y) (hc : ∀ V : sS, RT V T → EQY (C (V, y)) (V, z)) : ACYX S T a o n z := fun U u => by
  obtain ⟨V, v1, v2, v3⟩ := h U u
  have t := eqy_t v3 (hc V v1)
  exact ⟨V, (doC (trC n) U a o).2, Prod.ext t.1 rfl, v1, v2, fun q => t.2 (by show Xi (doC (trC n) U a o).1 900 6 = 0; rw [show (doC (trC n) U a o).1 = V from t.1]; exact q)⟩
theorem eqy_1 {n : Nat} {a o : Int} {V : sS} : EQY (aC0 n a o (V, 1)) (V, 1) := eqy_e (by unfold aC0; rw [if_pos (by show (1 : Int) ≠ 0; decide)])
theorem eqy_2 {n : Nat} {a o : Int} {V : sS} : EQY (aC1 n a o (V, 1)) (V, 2) := eqy_e (by unfold aC1; rw [if_pos (by show (1 : Int) ≠ 0; decide)])
theorem eqy_4 {V : sS} : EQY (aC2 (V, 1)) (V, 4) := eqy_e (by unfold aC2; rw [if_pos (by show (1 : Int) ≠ 0; decide)])
theorem eqy_0 {V : sS} : EQY (aC2 (V, 0)) (V, 0) := eqy_e (by unfold aC2; rw [if_neg (by show ¬ ((0 : Int) ≠ 0); decide)])
theorem end_v {V T : sS} (h : RT V T) (e : Xi T 904 162 ≠ 0) : Xi V 900 6 ≠ 0 := fun q => e (h.2.2.1.1.1 q)
theorem eqy_d {n : Nat} {a o z : Int} {V T : sS} (h : RT V T) (e : Xi T 904 162 ≠ 0) : EQY (aC1 n a o (V, 0)) (V, z) := by
  have ne := end_v h e
  unfold aC1 do2
  rw [if_neg (by show ¬ ((0 : Int) ≠ 0); decide), if_pos ne]
  exact ⟨rfl, fun q => absurd q ne⟩
theorem eqy_c {n : Nat} {a o z : Int} {V T : sS} (h : RT V T) (e : Xi T 904 162 ≠ 0) : EQY (aC0 n a o (V, 0)) (V, z) := by
  have ne := end_v h e
  unfold aC0 do1
  rw [if_neg (by show ¬ ((0 : Int) ≠ 0); decide), if_pos ne]
  exact ⟨rfl, fun q => absurd q ne⟩
theorem eqy_b {z : Int} {V T : sS} (h : RT V T) (e : Xi T 904 162 ≠ 0) : EQY (aC2 (V, 0)) (V, z) := ⟨rfl, fun q => absurd q (end_v h e)⟩
theorem ld_rg {V T : sS} {room d : Int} (hw : RWY V T) : (0 ≤ ldR T room d ∧ ldR T room d < Xi V 5 2) ∨ ldR T room d = -1 := by
  have f : ∀ (c : Nat) (x y : Int), fwR T c x y = -1 ∨ ∃ k : Nat, (k : Int) < Xi T 904 51 ∧ fwR T c x y = k := fun c x y => by
    rcases fw_spec (S := T) (c := c) (room := x) (d := y) (a := 0) (Xi T 904 51 - 0).toNat 0 (Int.le_refl 0) with ⟨e, _⟩ | ⟨k, _, k2, e, _⟩
    · exact Or.inl e
    · exact Or.inr ⟨k, by omega, e⟩
  unfold ldR
  rcases f 943 room d with e | ⟨k, k1, e⟩
  · rw [if_neg (fun x => x e)]
    rcases f 945 room (ixorF d 1) with g | ⟨k, k1, g⟩
    · rw [if_neg (fun x => x g)]; exact Or.inr rfl
    · rw [if_pos (by rw [g]; omega), g]
      have t := hw.2.1 k k1
      exact Or.inl t.1
  · rw [if_pos (by rw [e]; omega), e]
    have t := hw.2.1 k k1
    exact Or.inl t.2.2.1
/-- what both do themselves -/
theorem lp_does {S T X : sS} {n : Nat} {a o z : Int} (h : LPF S T (aFn n a o) (aC1 n a o) 0) (ne : Xi T 904 162 = 0) (h40 : ∀ j : Nat, 0 ≤ Xi T 940 j ∧ Xi T 940 j ≤ 1) (hn : 1 ≤ a → a ≤ 3 → 0 ≤ o ∧ o < Xi T 904 19) (hd : a = 4 → 0 ≤ o ∧ o < 6) (ds : DSR T X a o z) : (z = 0 → ACYX S X a o n 3) ∧ (z ≠ 0 → LPX S X (aFn n a o) aC2 n 2 a o 0) := by
  have key : ∀ U : sS, RT U S → ∃ W : sS, RT W X ∧ KEP cBU cBv U W ∧ EQY (aFn n a o U) (if z = 0 then (W, 3) else do3 (trC n) W a o) := fun U u => by
    obtain ⟨V, v1, v2, v3⟩ := h U u
    obtain ⟨W, w1, w2, w3⟩ := sc_r v1 h40 hn hd (by have := ld_rg (room := Xi T 920 0) (d := o) v1.1.1.2.2.2.2.2.2.2.2.2.2.2.2.2.1; have := v1.1.1.2.2.1.2.2.1; omega) ds
    refine ⟨W, w2, v2.tr w3, eqy_t v3 (eqy_e ?_)⟩
    have nV : Xi V 900 6 = 0 := v1.2.2.1.1.2 ne
    unfold aC1 do2
    rw [if_neg (by show ¬ ((0 : Int) ≠ 0); decide), if_neg (fun x => x nV)]
    show (if (scF V a o).2 = 0 then ((scF V a o).1, 3) else do3 (trC n) (scF V a o).1 a o) = _
    rw [w1]
  refine ⟨fun q U u => ?_, fun q U u => ?_⟩
  · obtain ⟨W, w1, w2, w3⟩ := key U u
    rw [if_pos q] at w3
    exact ⟨W, (doC (trC n) U a o).2, Prod.ext w3.1 rfl, w1, w2, fun e => w3.2 (by show Xi (doC (trC n) U a o).1 900 6 = 0; rw [show (doC (trC n) U a o).1 = W from w3.1]; exact e)⟩
  · obtain ⟨W, w1, w2, w3⟩ := key U u
    rw [if_neg q] at w3
    exact ⟨W, 0, w1, w2, w3, ⟨Int.le_refl _, by have := w1.1.2.2.2.1.2.2.2.1; omega⟩, rfl⟩
/-- nouns of an action, kept -/
def AKO (S : sS) (a no o : Int) : Prop := NNS S a no o ∧ (0 ≤ Xi S 942 a.toNat → blR S (Xi S 918 o.toNat) (Xi S 942 a.toNat) ≠ 0)
theorem ako_k {S T : sS} {a no o s : Int} (q : KEP cBS2 cBw S T) (h : AKO S a no o) (ha : 0 ≤ a ∧ a < Xi S 904 49) (hs : s ≠ 3) : ASK T s a a no o := by
  have e19 : Xi T 904 19 = Xi S 904 19 := q.f 904 19 (by decide)
  have e49 : Xi T 904 49 = Xi S 904 49 := q.f 904 49 (by decide)
  refine Or.inl ⟨hs, rfl, by omega, ?_, ?_⟩
  · unfold NNS
    rw [e19, q.x 942 rfl]; exact h.1
  · rw [q.x 942 rfl, q.x 918 rfl, blR_k (q.x 917 rfl)]; exact h.2
theorem ako_y {S : sS} {a no : Int} (h : 0 ≤ Xi S 942 a.toNat) (hn : 0 ≤ no ∧ no < Xi S 904 19) (hk : 0 ≤ Xi S 942 a.toNat → blR S (Xi S 918 no.toNat) (Xi S 942 a.toNat) ≠ 0) : AKO S a no no := ⟨Or.inl ⟨rfl, hn⟩, hk⟩
theorem ako_n {S : sS} {a no : Int} (h : Xi S 942 a.toNat < 0) : AKO S a no (-1) := ⟨Or.inr ⟨rfl, Or.inr h⟩, fun q => absurd q (by omega)⟩

set_option maxRecDepth 100000 in
theorem u_mo_action__s {S : sS} (hH : HI S) (a : Int) (noun : Int) (dd : Int) (ha : 0 ≤ a ∧ a ≤ 11) (hnoun : -1 ≤ noun ∧ noun ≤ 23) (hdd : 0 ≤ dd ∧ dd ≤ 8) (hn : 0 ≤ Xi S 942 a.toNat → 0 ≤ noun) (h2 : 0 ≤ Xi S 942 a.toNat → noun < Xi S 904 19) (hX : TXM S) (hD : DEFM S) (hR : RULM S) (hB : ABV S) (hM : LXM S) (hW : WYM S) (hA : AKR S) (hnw : NMWD S) (hdy : DR0 S) (hkd : 0 ≤ Xi S 942 a.toNat → blR S (Xi S 918 noun.toNat) (Xi S 942 a.toNat) ≠ 0) (ha49 : a < Xi S 904 49) (d : Nat) (hrec : ∀ {S : sS} (_ : HI S) (ri : Int) (noun : Int) (dr : Int) (hri : 0 ≤ ri ∧ ri ≤ 23) (hnoun : -1 ≤ noun ∧ noun ≤ 23) (hdr : 0 ≤ dr ∧ dr ≤ 8) (hr : ri < Xi S 904 130) (hn : nM S ri.toNat → 0 ≤ noun) (h2 : noun < Xi S 904 19) (hX : TXM S) (hD : DEFM S) (hR : RULM S) (hB : ABV S) (hM : LXM S) (hW : WYM S) (hA : AKR S) (hnw : NMWD S) (hdy : DR0 S), (dr = dd) → Mt lay0 (d + 31) m_mo_runs [.ref 904, iv ri, iv noun, iv dr] S (Q_mo_runs__s S ri noun dr)) : Mt lay0 (d + 32) m_mo_action [.ref 904, iv a, iv noun, iv dd] S (Q_mo_action__s S a noun dd) := by
  refine Mt_R rfl rfl ?_
  have hF : FR md_mo_action__s S S := FR.rf
  have w1 : 0 ≤ Xi S 904 19 ∧ Xi S 904 19 ≤ 24 := hH.c _ _
  have w2 : 0 ≤ Xi S 904 49 ∧ Xi S 904 49 ≤ 12 := hH.c _ _
  have hc3 : 0 ≤ Xi S 904 23 ∧ Xi S 904 23 ≤ 24 := hH.c _ _
  have hc19 : 0 ≤ Xi S 904 19 ∧ Xi S 904 19 ≤ 24 := hH.c _ _
  have hc32 : 0 ≤ Xi S 904 32 ∧ Xi S 904 32 ≤ 12 := hH.c _ _
  have ha1 := akr_n hA hn
  have ha3 := akr_n (noun := Xi S 904 19 - 1 - noun) hA (fun q => by have := h2 q; omega)
  have ha2 : 2 ≤ Xi S 904 23 ∧ 1 ≤ Xi S 904 32 := hA.2.2.2.2.2.2
  have C19 : ∀ (n19 : Nat) (T1 : sS) (_ : HI T1) (_ : FR md_mo_action__s S T1) (v4 : Int) (v5 : Int), (-1 ≤ v4 ∧ v4 ≤ 23) → (0 ≤ v5 ∧ v5 ≤ 25) → (TXM T1) → (WYM T1) → (0 ≤ Xi S 942 a.toNat → 0 ≤ v4) → (v4 < Xi S 904 19) → (AKO S a noun v4) → (LPX S T1 (aFn (8 - dd).toNat a noun) (aC0 (8 - dd).toNat a noun) (8 - dd).toNat 0 a noun v5) → n19 = (26 - v5).toNat → Rl lay0 (d + 31) m_mo_action 19 [(0, .ref 904), (1, iv a), (2, iv noun), (3, iv dd), (4, iv v4), (5, iv v5)] [] T1 (Q_mo_action__s S a noun dd) := by
    intro n19
    induction n19 using Nat.strongRecOn with
    | ind n19 ih19 =>
      intro T1 hHT1 hFT1 v4 v5 w3 w4 hX19 hW19 hv19 w5 ak19 l19 hm19
      have w6 : Xi T1 904 130 = Xi S 904 130 := hFT1.x _ _ rfl
      have w7 : Xi T1 904 19 = Xi S 904 19 := hFT1.x _ _ rfl
      have w8 : Xi T1 904 23 = Xi S 904 23 := hFT1.x _ _ rfl
      have w9 : Xi T1 904 32 = Xi S 904 32 := hFT1.x _ _ rfl
      have w10 : Xi T1 904 49 = Xi S 904 49 := hFT1.x _ _ rfl
      have C78 : ∀  (T2 : sS) (_ : HI T2) (_ : FR md_mo_action__s S T2) (v4 : Int), (-1 ≤ v4 ∧ v4 ≤ 23) → (TXM T2) → (WYM T2) → (0 ≤ Xi S 942 a.toNat → 0 ≤ v4) → (v4 < Xi S 904 19) → (AKO S a noun v4) → (LPF S T2 (aFn (8 - dd).toNat a noun) (aC0 (8 - dd).toNat a noun) 0) → Rl lay0 (d + 31) m_mo_action 78 [(0, .ref 904), (1, iv a), (2, iv noun), (3, iv dd), (4, iv v4)] [] T2 (Q_mo_action__s S a noun dd) := by
        intro T2 hHT2 hFT2 v4 w11 hX78 hW78 hv78 w12 ak78 l78
        have w13 : Xi T2 904 130 = Xi S 904 130 := hFT2.x _ _ rfl
        have w14 : Xi T2 904 19 = Xi S 904 19 := hFT2.x _ _ rfl
        have w15 : Xi T2 904 23 = Xi S 904 23 := hFT2.x _ _ rfl
        have w16 : Xi T2 904 32 = Xi S 904 32 := hFT2.x _ _ rfl
        have w17 : Xi T2 904 49 = Xi S 904 49 := hFT2.x _ _ rfl
        have C81 : ∀ (n81 : Nat) (T3 : sS) (_ : HI T3) (_ : FR md_mo_action__s S T3) (v4 : Int) (v5 : Int), (-1 ≤ v4 ∧ v4 ≤ 23) → (0 ≤ v5 ∧ v5 ≤ 25) → (TXM T3) → (WYM T3) → (0 ≤ Xi S 942 a.toNat → 0 ≤ v4) → (v4 < Xi S 904 19) → (AKO S a noun v4) → (LPX S T3 (aFn (8 - dd).toNat a noun) (aC1 (8 - dd).toNat a noun) (8 - dd).toNat 1 a noun v5) → n81 = (26 - v5).toNat → Rl lay0 (d + 31) m_mo_action 81 [(0, .ref 904), (1, iv a), (2, iv noun), (3, iv dd), (4, iv v4), (5, iv v5)] [] T3 (Q_mo_action__s S a noun dd) := by
          intro n81
          induction n81 using Nat.strongRecOn with
          | ind n81 ih81 =>
            intro T3 hHT3 hFT3 v4 v5 w18 w19 hX81 hW81 hv81 w20 ak81 l81 hm81
            have w21 : Xi T3 904 130 = Xi S 904 130 := hFT3.x _ _ rfl
            have w22 : Xi T3 904 19 = Xi S 904 19 := hFT3.x _ _ rfl
            have w23 : Xi T3 904 23 = Xi S 904 23 := hFT3.x _ _ rfl
            have w24 : Xi T3 904 32 = Xi S 904 32 := hFT3.x _ _ rfl
            have w25 : Xi T3 904 49 = Xi S 904 49 := hFT3.x _ _ rfl
            have C138 : ∀  (T4 : sS) (_ : HI T4) (_ : FR md_mo_action__s S T4) (v4 : Int), (-1 ≤ v4 ∧ v4 ≤ 23) → (TXM T4) → (WYM T4) → (0 ≤ Xi S 942 a.toNat → 0 ≤ v4) → (v4 < Xi S 904 19) → (AKO S a noun v4) → (LPF S T4 (aFn (8 - dd).toNat a noun) (aC1 (8 - dd).toNat a noun) 0) → Rl lay0 (d + 31) m_mo_action 138 [(0, .ref 904), (1, iv a), (2, iv noun), (3, iv dd), (4, iv v4)] [] T4 (Q_mo_action__s S a noun dd) := by
              intro T4 hHT4 hFT4 v4 w26 hX138 hW138 hv138 w27 ak138 l138
              have w28 : Xi T4 904 130 = Xi S 904 130 := hFT4.x _ _ rfl
              have w29 : Xi T4 904 19 = Xi S 904 19 := hFT4.x _ _ rfl
              have w30 : Xi T4 904 23 = Xi S 904 23 := hFT4.x _ _ rfl
              have w31 : Xi T4 904 32 = Xi S 904 32 := hFT4.x _ _ rfl
              have w32 : Xi T4 904 49 = Xi S 904 49 := hFT4.x _ _ rfl
              have C161 : ∀ (n161 : Nat) (T5 : sS) (_ : HI T5) (_ : FR md_mo_action__s S T5) (v4 : Int) (v5 : Int), (-1 ≤ v4 ∧ v4 ≤ 23) → (0 ≤ v5 ∧ v5 ≤ 25) → (TXM T5) → (WYM T5) → (0 ≤ Xi S 942 a.toNat → 0 ≤ v4) → (v4 < Xi S 904 19) → (AKO S a noun v4) → (HD6 S a noun → LPX S T5 (aFn (8 - dd).toNat a noun) aC2 (8 - dd).toNat 2 a noun v5) → n161 = (26 - v5).toNat → Rl lay0 (d + 31) m_mo_action 161 [(0, .ref 904), (1, iv a), (3, iv dd), (4, iv v4), (5, iv v5)] [] T5 (Q_mo_action__s S a noun dd) := by
                intro n161
                induction n161 using Nat.strongRecOn with
                | ind n161 ih161 =>
                  intro T5 hHT5 hFT5 v4 v5 w33 w34 hX161 hW161 hv161 w35 ak161 l161 hm161
                  have w36 : Xi T5 904 130 = Xi S 904 130 := hFT5.x _ _ rfl
                  have w37 : Xi T5 904 19 = Xi S 904 19 := hFT5.x _ _ rfl
                  have w38 : Xi T5 904 23 = Xi S 904 23 := hFT5.x _ _ rfl
                  have w39 : Xi T5 904 32 = Xi S 904 32 := hFT5.x _ _ rfl
                  have w40 : Xi T5 904 49 = Xi S 904 49 := hFT5.x _ _ rfl
                  refine l_aload_n rfl rfl ?_
                  refine l_iconst rfl ?_
                  refine l_iload rfl rfl ?_
                  have w41 : 0 ≤ Xi T5 904 130 ∧ Xi T5 904 130 ≤ 24 := hHT5.c _ _
                  refine l_callV rfl rfl rfl (Mt_d (t_mo_ruleAt__q hHT5 2 v5 ⟨by omega, by omega⟩ ⟨by omega, by omega⟩ (by first | assumption | exact (ABV_FR hFT5 rfl (by assumption : ABV S))) _)) ?_
                  rintro _ _ ⟨⟨rfl, z45, rfl, w45, w42, w43, w44, q165⟩, hd165⟩
                  show Rl _ _ _ _ _ [iv z45] _ _
                  refine l_iconst rfl ?_
                  refine l_icmp_eq rfl rfl (by unfold rg; omega) (by unfold rg; omega) (fun w46 => ?_) (fun w47 => ?_)
                  · refine l_iconst rfl ?_
                    refine l_ireturn rfl rfl ?_
                    exact ⟨hHT5, hFT5, _, rfl, ⟨by omega, by omega⟩, (by first | assumption | exact (by assumption : TXM T5)), (by first | assumption | exact (by assumption : WYM T5)), (by first | (have t := E64; exact acx_i (fun _ => E64 (by omega))) | (have t := E126; exact acx_i (fun _ => E126)) | (have t := E206; exact acx_i (fun d => E206 d (by omega))) | (have t := D150z; exact acx_i (fun d => D150z d (by omega))) | (have t := l161; exact acx_i (fun d => acy_f (lpx_e (l161 d) (ABV_FR hFT5 rfl hB) q165 (by omega)) (fun V _ => eqy_0))) | exact acx_i (fun _ => acy_f l138 (fun V h => eqy_d h (by omega))))⟩
                  · refine l_aload_n rfl rfl ?_
                    refine l_gfi rfl rfl rfl rfl rfl ?_
                    have w48 : 0 ≤ (Xi T5 904 162) ∧ (Xi T5 904 162) ≤ 1 := hHT5.c _ _
                    refine l_if_ne rfl rfl (by unfold rg; omega) (fun w49 => ?_) (fun w50 => ?_)
                    · refine l_iconst rfl ?_
                      refine l_ireturn rfl rfl ?_
                      exact ⟨hHT5, hFT5, _, rfl, ⟨by omega, by omega⟩, (by first | assumption | exact (by assumption : TXM T5)), (by first | assumption | exact (by assumption : WYM T5)), (by first | (have t := E64; exact acx_i (fun _ => E64 (by omega))) | (have t := E126; exact acx_i (fun _ => E126)) | (have t := E206; exact acx_i (fun d => E206 d (by omega))) | (have t := D150z; exact acx_i (fun d => D150z d (by omega))) | (have t := l161; exact acx_i (fun d => acy_f (lpx_e (l161 d) (ABV_FR hFT5 rfl hB) q165 (by omega)) (fun V _ => eqy_0))) | exact acx_i (fun _ => acy_f l138 (fun V h => eqy_d h (by omega))))⟩
                    · refine l_aload_n rfl rfl ?_
                      refine l_iconst rfl ?_
                      refine l_iload rfl rfl ?_
                      refine l_callV rfl rfl rfl (Mt_d (t_mo_ruleAt__q hHT5 2 v5 ⟨by omega, by omega⟩ ⟨by omega, by omega⟩ (by first | assumption | exact (ABV_FR hFT5 rfl (by assumption : ABV S))) _)) ?_
                      rintro _ _ ⟨⟨rfl, z55, rfl, w55, w52, w53, w54, q183⟩, hd183⟩
                      show Rl _ _ _ _ _ [iv z55] _ _
                      have e183 := dv_i hd165 hd183 (by unfold rg; omega) (by unfold rg; omega)
                      refine l_istore rfl rfl rfl ?_
                      refine l_aload_n rfl rfl ?_
                      refine l_iload rfl rfl ?_
                      refine l_iload_n rfl rfl ?_
                      refine l_iload rfl rfl ?_
                      have w57 : 0 ≤ Xi T5 904 19 ∧ Xi T5 904 19 ≤ 24 := hHT5.c _ _
                      refine l_callV rfl rfl rfl (t_mo_applies__q hHT5 z55 a v4 ⟨by omega, by omega⟩ ⟨by omega, by omega⟩ ⟨by omega, by omega⟩ (by first | assumption | omega) (by first | assumption | exact (RULM_FR hFT5 rfl (by assumption : RULM S))) (by first | assumption | exact (DEFM_FR hFT5 rfl (by assumption : DEFM S))) (by first | assumption | exact (ABV_FR hFT5 rfl (by assumption : ABV S))) (by first | assumption | exact (by assumption : TXM T5)) (fun _ _ q => by first | exact hv19 (by rw [(hFT5.cx 942 rfl _).1] at q; exact q) | exact hv81 (by rw [(hFT5.cx 942 rfl _).1] at q; exact q) | exact hv161 (by rw [(hFT5.cx 942 rfl _).1] at q; exact q)) (by omega) _) ?_
                      rintro _ T6 ⟨hHT6, w60, z59, rfl, w59, w58, f194⟩
                      have hFT6 : FR md_mo_action__s S T6 := FR.tr hFT5 w60 rfl
                      show Rl _ _ _ _ _ [iv z59] _ _
                      have q194 : z59 = 1 → nM S (z55).toNat → 0 ≤ v4 := fun e h => hv161 (by have t : Xi S 979 (z55).toNat = a := (by rw [← (hFT5.cx 979 rfl _).1]; exact (by assumption : z59 = 1 → Xi T5 978 (z55).toNat < 3 → Xi T5 979 (z55).toNat = a) e (by omega)); rw [← t]; exact h.2)
                      have F194 : FR [(904, 905, 154, 155)] T5 T6 := by assumption
                      have A194 : ASK T5 2 a a noun v4 := ako_k (hFT5.kep rfl) ak161 ⟨by omega, ha49⟩ (by decide)
                      have H194 : ∀ j : Nat, 0 ≤ Xi T5 940 j ∧ Xi T5 940 j ≤ 1 := fun j => hHT5.c 940 j
                      have B194 : ABV T5 := ABV_FR hFT5 rfl hB
                      have M194 : RULM T5 := RULM_FR hFT5 rfl hR
                      have S194 : RSP T5 2 v5 (z55) := q183
                      have J194 : z59 = 0 → HD6 S a noun → LPX S T6 (aFn (8 - dd).toNat a noun) aC2 (8 - dd).toNat 2 a noun (v5 + 1) := fun q d => lpx_j (l161 d) B194 H194 M194 S194 (by omega) (by omega) A194 (by rw [← f194]; exact q) F194
                      have N194 : z59 ≠ 0 → apR T5 (z55) a v4 ≠ 0 := fun q => by rw [← f194]; exact q
                      refine l_if_eq rfl rfl (by unfold rg; omega) (fun w61 => ?_) (fun w62 => ?_)
                      · refine l_iinc rfl rfl rfl rfl ?_
                        refine l_goto rfl rfl ?_
                        exact Rl_weak (ih161 _ (by omega) T6 hHT6 hFT6 (v4) ((v5 + 1)) (by omega) (by omega) (by first | assumption | exact (TXM_FR w60 rfl (by assumption : TXM T5))) (by first | assumption | exact (WYM_FR w60 rfl (by assumption : WYM T5))) (by first | exact hv161 | exact hv138 | exact hv81 | exact hv78 | exact hv19 | (intro q; first | exact hn q | (exfalso; omega))) (by omega) (by first | exact ak161 | exact ak138 | exact ak81 | exact ak78 | exact ak19 | exact ako_y (by omega) (by have := h2 (by omega); have := hn (by omega); omega) hkd | exact ako_n (by omega)) (by first | exact R206n (by omega) | exact J194 (by omega) | exact fun d => D150y d (by omega)) rfl) (And.intro rfl (And.intro rfl (And.intro rfl (And.intro rfl (And.intro rfl (True.intro))))))
                      · refine l_aload_n rfl rfl ?_
                        refine l_iload rfl rfl ?_
                        refine l_iload rfl rfl ?_
                        refine l_iload_n rfl rfl ?_
                        have w63 : Xi T6 904 130 = Xi T5 904 130 := (show Xi T6 904 130 = Xi T5 904 130 from w60.x _ _ rfl)
                        have w65 : Xi T6 904 19 = Xi T5 904 19 := (show Xi T6 904 19 = Xi T5 904 19 from w60.x _ _ rfl)
                        refine l_callV rfl rfl rfl (hrec hHT6 z55 v4 dd ⟨by omega, by omega⟩ ⟨by omega, by omega⟩ ⟨by omega, by omega⟩ (by first | assumption | omega) (by first | exact fun h => q52 (by omega) (nm_b hFT6 rfl h) | exact fun h => q114 (by omega) (nm_b hFT6 rfl h) | exact fun h => q194 (by omega) (nm_b hFT6 rfl h)) (by omega) (by first | assumption | exact (TXM_FR w60 rfl (by assumption : TXM T5))) (by first | assumption | exact (DEFM_FR hFT6 rfl (by assumption : DEFM S))) (by first | assumption | exact (RULM_FR hFT6 rfl (by assumption : RULM S))) (by first | assumption | exact (ABV_FR hFT6 rfl (by assumption : ABV S))) (by first | assumption | exact (LXM_FR hFT6 rfl (by assumption : LXM S))) (by first | assumption | exact (WYM_FR w60 rfl (by assumption : WYM T5))) (by first | assumption | exact (AKR_FR hFT6 rfl (by assumption : AKR S))) (by first | assumption | exact (NMWD_FR hFT6 rfl (by assumption : NMWD S))) (by first | assumption | exact (DR0_FR hFT6 rfl (by assumption : DR0 S))) (by omega)) ?_
                        rintro _ T7 ⟨hHT7, w70, z69, rfl, w69, w67, w68, s206⟩
                        have hFT7 : FR md_mo_action__s S T7 := FR.tr hFT6 w70 rfl
                        show Rl _ _ _ _ _ [iv z69] _ _
                        have R206 : HD6 S a noun → _ := fun d => lpx_r (l161 d) B194 H194 M194 S194 (by omega) (by omega) A194 (N194 (by omega)) F194 s206
                        have E206 : HD6 S a noun → z69 ≠ 0 → ACYX S T7 a noun (8 - dd).toNat 4 := fun d q => (if e : Xi T7 904 162 = 0 then acy_f ((R206 d).1 e (Or.inr ⟨q, by decide⟩)) (fun V _ => eqy_4) else acy_f (lpx_ed ((R206 d).2 (Or.inl e)) e) (fun V h => eqy_b h e))
                        have R206n : z69 = 0 → HD6 S a noun → LPX S T7 (aFn (8 - dd).toNat a noun) aC2 (8 - dd).toNat 2 a noun (v5 + 1) := fun q d => (R206 d).2 (Or.inr ⟨by decide, Or.inl q⟩)
                        refine l_if_eq rfl rfl (by unfold rg; omega) (fun w71 => ?_) (fun w72 => ?_)
                        · refine l_iinc rfl rfl rfl rfl ?_
                          refine l_goto rfl rfl ?_
                          exact Rl_weak (ih161 _ (by omega) T7 hHT7 hFT7 (v4) ((v5 + 1)) (by omega) (by omega) (by first | assumption | exact (by assumption : TXM T7)) (by first | assumption | exact (by assumption : WYM T7)) (by first | exact hv161 | exact hv138 | exact hv81 | exact hv78 | exact hv19 | (intro q; first | exact hn q | (exfalso; omega))) (by omega) (by first | exact ak161 | exact ak138 | exact ak81 | exact ak78 | exact ak19 | exact ako_y (by omega) (by have := h2 (by omega); have := hn (by omega); omega) hkd | exact ako_n (by omega)) (by first | exact R206n (by omega) | exact J194 (by omega) | exact fun d => D150y d (by omega)) rfl) (And.intro rfl (And.intro rfl (And.intro rfl (And.intro rfl (And.intro rfl (True.intro))))))
                        · refine l_iconst rfl ?_
                          refine l_ireturn rfl rfl ?_
                          exact ⟨hHT7, hFT7, _, rfl, ⟨by omega, by omega⟩, (by first | assumption | exact (by assumption : TXM T7)), (by first | assumption | exact (by assumption : WYM T7)), (by first | (have t := E64; exact acx_i (fun _ => E64 (by omega))) | (have t := E126; exact acx_i (fun _ => E126)) | (have t := E206; exact acx_i (fun d => E206 d (by omega))) | (have t := D150z; exact acx_i (fun d => D150z d (by omega))) | (have t := l161; exact acx_i (fun d => acy_f (lpx_e (l161 d) (ABV_FR hFT7 rfl hB) q165 (by omega)) (fun V _ => eqy_0))) | exact acx_i (fun _ => acy_f l138 (fun V h => eqy_d h (by omega))))⟩
              refine l_aload_n rfl rfl ?_
              refine l_gfi rfl rfl rfl rfl rfl ?_
              have w73 : 0 ≤ (Xi T4 904 162) ∧ (Xi T4 904 162) ≤ 1 := hHT4.c _ _
              refine l_if_eq rfl rfl (by unfold rg; omega) (fun w74 => ?_) (fun w75 => ?_)
              · refine l_aload_n rfl rfl ?_
                refine l_iload_n rfl rfl ?_
                refine l_iload_n rfl rfl ?_
                have w76 : 0 ≤ Xi T4 904 157 ∧ Xi T4 904 157 ≤ 1 := hHT4.c _ _
                have w77 : 0 ≤ Xi T4 904 19 ∧ Xi T4 904 19 ≤ 24 := hHT4.c _ _
                have w78 : 0 ≤ Xi T4 904 23 ∧ Xi T4 904 23 ≤ 24 := hHT4.c _ _
                have w79 : 0 ≤ Xi T4 904 32 ∧ Xi T4 904 32 ≤ 12 := hHT4.c _ _
                refine l_callV rfl rfl rfl (t_mo_does_2__q hHT4 a noun ⟨by omega, by omega⟩ ⟨by omega, by omega⟩ (ha1) (by omega) (by first | assumption | exact (ABV_FR hFT4 rfl (by assumption : ABV S))) (by first | assumption | exact (by assumption : TXM T4)) (by first | assumption | exact (DEFM_FR hFT4 rfl (by assumption : DEFM S))) (by first | assumption | exact (LXM_FR hFT4 rfl (by assumption : LXM S))) (by first | assumption | exact (by assumption : WYM T4)) (by omega) (by omega) (by first | assumption | exact (NMWD_FR hFT4 rfl (by assumption : NMWD S))) (by have t : DR0 T4 := DR0_FR hFT4 rfl hdy; exact t) _) ?_
                rintro _ T8 ⟨hHT8, w82, z81, rfl, w81, w80, f150⟩
                have hFT8 : FR md_mo_action__s S T8 := FR.tr hFT4 w82 rfl
                show Rl _ _ _ _ _ [iv z81] _ _
                have L150 : HD6 S a noun → _ := fun d => lp_does l138 (by omega) (fun j => hHT4.c 940 j) (by have := hFT4.x 904 19 rfl; omega) (fun e => d (by rw [e]; exact hA.2.2.2.2.2.1)) f150
                have D150z : HD6 S a noun → z81 = 0 → ACYX S T8 a noun (8 - dd).toNat 3 := fun d q => (L150 d).1 q
                have D150y : HD6 S a noun → z81 ≠ 0 → LPX S T8 (aFn (8 - dd).toNat a noun) aC2 (8 - dd).toNat 2 a noun 0 := fun d q => (L150 d).2 q
                refine l_if_ne rfl rfl (by unfold rg; omega) (fun w83 => ?_) (fun w84 => ?_)
                · refine l_iconst rfl ?_
                  refine l_istore rfl rfl rfl ?_
                  exact Rl_weak (C161 _ T8 hHT8 hFT8 (v4) (0) (by omega) (by omega) (by first | assumption | exact (TXM_FR w82 rfl (by assumption : TXM T4))) (by first | assumption | exact (by assumption : WYM T8)) (by first | exact hv161 | exact hv138 | exact hv81 | exact hv78 | exact hv19 | (intro q; first | exact hn q | (exfalso; omega))) (by omega) (by first | exact ak161 | exact ak138 | exact ak81 | exact ak78 | exact ak19 | exact ako_y (by omega) (by have := h2 (by omega); have := hn (by omega); omega) hkd | exact ako_n (by omega)) (by first | exact R206n (by omega) | exact J194 (by omega) | exact fun d => D150y d (by omega)) rfl) (And.intro rfl (And.intro rfl (And.intro rfl (And.intro rfl (And.intro rfl (True.intro))))))
                · refine l_iconst rfl ?_
                  refine l_ireturn rfl rfl ?_
                  exact ⟨hHT8, hFT8, _, rfl, ⟨by omega, by omega⟩, (by first | assumption | exact (TXM_FR w82 rfl (by assumption : TXM T4))), (by first | assumption | exact (by assumption : WYM T8)), (by first | (have t := E64; exact acx_i (fun _ => E64 (by omega))) | (have t := E126; exact acx_i (fun _ => E126)) | (have t := E206; exact acx_i (fun d => E206 d (by omega))) | (have t := D150z; exact acx_i (fun d => D150z d (by omega))) | (have t := l161; exact acx_i (fun d => acy_f (lpx_e (l161 d) (ABV_FR hFT8 rfl hB) q165 (by omega)) (fun V _ => eqy_0))) | exact acx_i (fun _ => acy_f l138 (fun V h => eqy_d h (by omega))))⟩
              · refine l_iconst rfl ?_
                refine l_ireturn rfl rfl ?_
                exact ⟨hHT4, hFT4, _, rfl, ⟨by omega, by omega⟩, (by first | assumption | exact (by assumption : TXM T4)), (by first | assumption | exact (by assumption : WYM T4)), (by first | (have t := E64; exact acx_i (fun _ => E64 (by omega))) | (have t := E126; exact acx_i (fun _ => E126)) | (have t := E206; exact acx_i (fun d => E206 d (by omega))) | (have t := D150z; exact acx_i (fun d => D150z d (by omega))) | (have t := l161; exact acx_i (fun d => acy_f (lpx_e (l161 d) (ABV_FR hFT4 rfl hB) q165 (by omega)) (fun V _ => eqy_0))) | exact acx_i (fun _ => acy_f l138 (fun V h => eqy_d h (by omega))))⟩
            refine l_aload_n rfl rfl ?_
            refine l_iconst rfl ?_
            refine l_iload rfl rfl ?_
            have w85 : 0 ≤ Xi T3 904 130 ∧ Xi T3 904 130 ≤ 24 := hHT3.c _ _
            refine l_callV rfl rfl rfl (Mt_d (t_mo_ruleAt__q hHT3 1 v5 ⟨by omega, by omega⟩ ⟨by omega, by omega⟩ (by first | assumption | exact (ABV_FR hFT3 rfl (by assumption : ABV S))) _)) ?_
            rintro _ _ ⟨⟨rfl, z89, rfl, w89, w86, w87, w88, q85⟩, hd85⟩
            show Rl _ _ _ _ _ [iv z89] _ _
            refine l_iconst rfl ?_
            refine l_icmp_eq rfl rfl (by unfold rg; omega) (by unfold rg; omega) (fun w90 => ?_) (fun w91 => ?_)
            · exact Rl_weak (C138 T3 hHT3 hFT3 (v4) (by omega) (by first | assumption | exact (by assumption : TXM T3)) (by first | assumption | exact (by assumption : WYM T3)) (by first | exact hv138 | exact hv81 | exact hv78 | exact hv19 | (intro q; first | exact hn q | (exfalso; omega))) (by omega) (by first | exact ak161 | exact ak138 | exact ak81 | exact ak78 | exact ak19 | exact ako_y (by omega) (by have := h2 (by omega); have := hn (by omega); omega) hkd | exact ako_n (by omega)) (by first | exact lpx_e l81 (ABV_FR hFT3 rfl hB) q85 (by omega))) (And.intro rfl (And.intro rfl (And.intro rfl (And.intro rfl (And.intro rfl (True.intro))))))
            · refine l_aload_n rfl rfl ?_
              refine l_gfi rfl rfl rfl rfl rfl ?_
              have w92 : 0 ≤ (Xi T3 904 162) ∧ (Xi T3 904 162) ≤ 1 := hHT3.c _ _
              refine l_if_ne rfl rfl (by unfold rg; omega) (fun w93 => ?_) (fun w94 => ?_)
              · exact Rl_weak (C138 T3 hHT3 hFT3 (v4) (by omega) (by first | assumption | exact (by assumption : TXM T3)) (by first | assumption | exact (by assumption : WYM T3)) (by first | exact hv138 | exact hv81 | exact hv78 | exact hv19 | (intro q; first | exact hn q | (exfalso; omega))) (by omega) (by first | exact ak161 | exact ak138 | exact ak81 | exact ak78 | exact ak19 | exact ako_y (by omega) (by have := h2 (by omega); have := hn (by omega); omega) hkd | exact ako_n (by omega)) (by first | exact lpx_e l81 (ABV_FR hFT3 rfl hB) q85 (by omega))) (And.intro rfl (And.intro rfl (And.intro rfl (And.intro rfl (And.intro rfl (True.intro))))))
              · refine l_aload_n rfl rfl ?_
                refine l_iconst rfl ?_
                refine l_iload rfl rfl ?_
                refine l_callV rfl rfl rfl (Mt_d (t_mo_ruleAt__q hHT3 1 v5 ⟨by omega, by omega⟩ ⟨by omega, by omega⟩ (by first | assumption | exact (ABV_FR hFT3 rfl (by assumption : ABV S))) _)) ?_
                rintro _ _ ⟨⟨rfl, z99, rfl, w99, w96, w97, w98, q103⟩, hd103⟩
                show Rl _ _ _ _ _ [iv z99] _ _
                have e103 := dv_i hd85 hd103 (by unfold rg; omega) (by unfold rg; omega)
                refine l_istore rfl rfl rfl ?_
                refine l_aload_n rfl rfl ?_
                refine l_iload rfl rfl ?_
                refine l_iload_n rfl rfl ?_
                refine l_iload rfl rfl ?_
                have w101 : 0 ≤ Xi T3 904 19 ∧ Xi T3 904 19 ≤ 24 := hHT3.c _ _
                refine l_callV rfl rfl rfl (t_mo_applies__q hHT3 z99 a v4 ⟨by omega, by omega⟩ ⟨by omega, by omega⟩ ⟨by omega, by omega⟩ (by first | assumption | omega) (by first | assumption | exact (RULM_FR hFT3 rfl (by assumption : RULM S))) (by first | assumption | exact (DEFM_FR hFT3 rfl (by assumption : DEFM S))) (by first | assumption | exact (ABV_FR hFT3 rfl (by assumption : ABV S))) (by first | assumption | exact (by assumption : TXM T3)) (fun _ _ q => by first | exact hv19 (by rw [(hFT3.cx 942 rfl _).1] at q; exact q) | exact hv81 (by rw [(hFT3.cx 942 rfl _).1] at q; exact q) | exact hv161 (by rw [(hFT3.cx 942 rfl _).1] at q; exact q)) (by omega) _) ?_
                rintro _ T9 ⟨hHT9, w104, z103, rfl, w103, w102, f114⟩
                have hFT9 : FR md_mo_action__s S T9 := FR.tr hFT3 w104 rfl
                show Rl _ _ _ _ _ [iv z103] _ _
                have q114 : z103 = 1 → nM S (z99).toNat → 0 ≤ v4 := fun e h => hv81 (by have t : Xi S 979 (z99).toNat = a := (by rw [← (hFT3.cx 979 rfl _).1]; exact (by assumption : z103 = 1 → Xi T3 978 (z99).toNat < 3 → Xi T3 979 (z99).toNat = a) e (by omega)); rw [← t]; exact h.2)
                have F114 : FR [(904, 905, 154, 155)] T3 T9 := by assumption
                have A114 : ASK T3 1 a a noun v4 := ako_k (hFT3.kep rfl) ak81 ⟨by omega, ha49⟩ (by decide)
                have H114 : ∀ j : Nat, 0 ≤ Xi T3 940 j ∧ Xi T3 940 j ≤ 1 := fun j => hHT3.c 940 j
                have B114 : ABV T3 := ABV_FR hFT3 rfl hB
                have M114 : RULM T3 := RULM_FR hFT3 rfl hR
                have S114 : RSP T3 1 v5 (z99) := q103
                have J114 : z103 = 0 → LPX S T9 (aFn (8 - dd).toNat a noun) (aC1 (8 - dd).toNat a noun) (8 - dd).toNat 1 a noun (v5 + 1) := fun q => lpx_j l81 B114 H114 M114 S114 (by omega) (by omega) A114 (by rw [← f114]; exact q) F114
                have N114 : z103 ≠ 0 → apR T3 (z99) a v4 ≠ 0 := fun q => by rw [← f114]; exact q
                refine l_if_eq rfl rfl (by unfold rg; omega) (fun w105 => ?_) (fun w106 => ?_)
                · refine l_iinc rfl rfl rfl rfl ?_
                  refine l_goto rfl rfl ?_
                  exact Rl_weak (ih81 _ (by omega) T9 hHT9 hFT9 (v4) ((v5 + 1)) (by omega) (by omega) (by first | assumption | exact (TXM_FR w104 rfl (by assumption : TXM T3))) (by first | assumption | exact (WYM_FR w104 rfl (by assumption : WYM T3))) (by first | exact hv81 | exact hv78 | exact hv19 | (intro q; first | exact hn q | (exfalso; omega))) (by omega) (by first | exact ak161 | exact ak138 | exact ak81 | exact ak78 | exact ak19 | exact ako_y (by omega) (by have := h2 (by omega); have := hn (by omega); omega) hkd | exact ako_n (by omega)) (by first | exact J114 (by omega) | exact lp_01 l78) rfl) (And.intro rfl (And.intro rfl (And.intro rfl (And.intro rfl (And.intro rfl (And.intro rfl (True.intro)))))))
                · refine l_aload_n rfl rfl ?_
                  refine l_iload rfl rfl ?_
                  refine l_iload rfl rfl ?_
                  refine l_iload_n rfl rfl ?_
                  have w107 : Xi T9 904 130 = Xi T3 904 130 := (show Xi T9 904 130 = Xi T3 904 130 from w104.x _ _ rfl)
                  have w109 : Xi T9 904 19 = Xi T3 904 19 := (show Xi T9 904 19 = Xi T3 904 19 from w104.x _ _ rfl)
                  refine l_callV rfl rfl rfl (hrec hHT9 z99 v4 dd ⟨by omega, by omega⟩ ⟨by omega, by omega⟩ ⟨by omega, by omega⟩ (by first | assumption | omega) (by first | exact fun h => q52 (by omega) (nm_b hFT9 rfl h) | exact fun h => q114 (by omega) (nm_b hFT9 rfl h) | exact fun h => q194 (by omega) (nm_b hFT9 rfl h)) (by omega) (by first | assumption | exact (TXM_FR w104 rfl (by assumption : TXM T3))) (by first | assumption | exact (DEFM_FR hFT9 rfl (by assumption : DEFM S))) (by first | assumption | exact (RULM_FR hFT9 rfl (by assumption : RULM S))) (by first | assumption | exact (ABV_FR hFT9 rfl (by assumption : ABV S))) (by first | assumption | exact (LXM_FR hFT9 rfl (by assumption : LXM S))) (by first | assumption | exact (WYM_FR w104 rfl (by assumption : WYM T3))) (by first | assumption | exact (AKR_FR hFT9 rfl (by assumption : AKR S))) (by first | assumption | exact (NMWD_FR hFT9 rfl (by assumption : NMWD S))) (by first | assumption | exact (DR0_FR hFT9 rfl (by assumption : DR0 S))) (by omega)) ?_
                  rintro _ T10 ⟨hHT10, w114, z113, rfl, w113, w111, w112, s126⟩
                  have hFT10 : FR md_mo_action__s S T10 := FR.tr hFT9 w114 rfl
                  show Rl _ _ _ _ _ [iv z113] _ _
                  have R126 := lpx_r l81 B114 H114 M114 S114 (by omega) (by omega) A114 (N114 (by omega)) F114 s126
                  have E126 : ACYX S T10 a noun (8 - dd).toNat 2 := if e : Xi T10 904 162 = 0 then acy_f (R126.1 e (Or.inl rfl)) (fun V _ => eqy_2) else acy_f (lpx_ed (R126.2 (Or.inl e)) e) (fun V h => eqy_d h e)
                  refine l_pop rfl rfl ?_
                  refine l_iconst rfl ?_
                  refine l_ireturn rfl rfl ?_
                  exact ⟨hHT10, hFT10, _, rfl, ⟨by omega, by omega⟩, (by first | assumption | exact (by assumption : TXM T10)), (by first | assumption | exact (by assumption : WYM T10)), (by first | (have t := E64; exact acx_i (fun _ => E64 (by omega))) | (have t := E126; exact acx_i (fun _ => E126)) | (have t := E206; exact acx_i (fun d => E206 d (by omega))) | (have t := D150z; exact acx_i (fun d => D150z d (by omega))) | (have t := l161; exact acx_i (fun d => acy_f (lpx_e (l161 d) (ABV_FR hFT10 rfl hB) q165 (by omega)) (fun V _ => eqy_0))) | exact acx_i (fun _ => acy_f l138 (fun V h => eqy_d h (by omega))))⟩
        refine l_iconst rfl ?_
        refine l_istore rfl rfl rfl ?_
        exact Rl_weak (C81 _ T2 hHT2 hFT2 (v4) (0) (by omega) (by omega) (by first | assumption | exact (by assumption : TXM T2)) (by first | assumption | exact (by assumption : WYM T2)) (by first | exact hv81 | exact hv78 | exact hv19 | (intro q; first | exact hn q | (exfalso; omega))) (by omega) (by first | exact ak161 | exact ak138 | exact ak81 | exact ak78 | exact ak19 | exact ako_y (by omega) (by have := h2 (by omega); have := hn (by omega); omega) hkd | exact ako_n (by omega)) (by first | exact J114 (by omega) | exact lp_01 l78) rfl) (And.intro rfl (And.intro rfl (And.intro rfl (And.intro rfl (And.intro rfl (And.intro rfl (True.intro)))))))
      refine l_aload_n rfl rfl ?_
      refine l_iconst rfl ?_
      refine l_iload rfl rfl ?_
      have w115 : 0 ≤ Xi T1 904 130 ∧ Xi T1 904 130 ≤ 24 := hHT1.c _ _
      refine l_callV rfl rfl rfl (Mt_d (t_mo_ruleAt__q hHT1 0 v5 ⟨by omega, by omega⟩ ⟨by omega, by omega⟩ (by first | assumption | exact (ABV_FR hFT1 rfl (by assumption : ABV S))) _)) ?_
      rintro _ _ ⟨⟨rfl, z119, rfl, w119, w116, w117, w118, q23⟩, hd23⟩
      show Rl _ _ _ _ _ [iv z119] _ _
      refine l_iconst rfl ?_
      refine l_icmp_eq rfl rfl (by unfold rg; omega) (by unfold rg; omega) (fun w120 => ?_) (fun w121 => ?_)
      · exact Rl_weak (C78 T1 hHT1 hFT1 (v4) (by omega) (by first | assumption | exact (by assumption : TXM T1)) (by first | assumption | exact (by assumption : WYM T1)) (by first | exact hv78 | exact hv19 | (intro q; first | exact hn q | (exfalso; omega))) (by omega) (by first | exact ak161 | exact ak138 | exact ak81 | exact ak78 | exact ak19 | exact ako_y (by omega) (by have := h2 (by omega); have := hn (by omega); omega) hkd | exact ako_n (by omega)) (by first | exact lpx_e l19 (ABV_FR hFT1 rfl hB) q23 (by omega))) (And.intro rfl (And.intro rfl (And.intro rfl (And.intro rfl (And.intro rfl (True.intro))))))
      · refine l_aload_n rfl rfl ?_
        refine l_gfi rfl rfl rfl rfl rfl ?_
        have w122 : 0 ≤ (Xi T1 904 162) ∧ (Xi T1 904 162) ≤ 1 := hHT1.c _ _
        refine l_if_ne rfl rfl (by unfold rg; omega) (fun w123 => ?_) (fun w124 => ?_)
        · exact Rl_weak (C78 T1 hHT1 hFT1 (v4) (by omega) (by first | assumption | exact (by assumption : TXM T1)) (by first | assumption | exact (by assumption : WYM T1)) (by first | exact hv78 | exact hv19 | (intro q; first | exact hn q | (exfalso; omega))) (by omega) (by first | exact ak161 | exact ak138 | exact ak81 | exact ak78 | exact ak19 | exact ako_y (by omega) (by have := h2 (by omega); have := hn (by omega); omega) hkd | exact ako_n (by omega)) (by first | exact lpx_e l19 (ABV_FR hFT1 rfl hB) q23 (by omega))) (And.intro rfl (And.intro rfl (And.intro rfl (And.intro rfl (And.intro rfl (True.intro))))))
        · refine l_aload_n rfl rfl ?_
          refine l_iconst rfl ?_
          refine l_iload rfl rfl ?_
          refine l_callV rfl rfl rfl (Mt_d (t_mo_ruleAt__q hHT1 0 v5 ⟨by omega, by omega⟩ ⟨by omega, by omega⟩ (by first | assumption | exact (ABV_FR hFT1 rfl (by assumption : ABV S))) _)) ?_
          rintro _ _ ⟨⟨rfl, z129, rfl, w129, w126, w127, w128, q41⟩, hd41⟩
          show Rl _ _ _ _ _ [iv z129] _ _
          have e41 := dv_i hd23 hd41 (by unfold rg; omega) (by unfold rg; omega)
          refine l_istore rfl rfl rfl ?_
          refine l_aload_n rfl rfl ?_
          refine l_iload rfl rfl ?_
          refine l_iload_n rfl rfl ?_
          refine l_iload rfl rfl ?_
          have w131 : 0 ≤ Xi T1 904 19 ∧ Xi T1 904 19 ≤ 24 := hHT1.c _ _
          refine l_callV rfl rfl rfl (t_mo_applies__q hHT1 z129 a v4 ⟨by omega, by omega⟩ ⟨by omega, by omega⟩ ⟨by omega, by omega⟩ (by first | assumption | omega) (by first | assumption | exact (RULM_FR hFT1 rfl (by assumption : RULM S))) (by first | assumption | exact (DEFM_FR hFT1 rfl (by assumption : DEFM S))) (by first | assumption | exact (ABV_FR hFT1 rfl (by assumption : ABV S))) (by first | assumption | exact (by assumption : TXM T1)) (fun _ _ q => by first | exact hv19 (by rw [(hFT1.cx 942 rfl _).1] at q; exact q) | exact hv81 (by rw [(hFT1.cx 942 rfl _).1] at q; exact q) | exact hv161 (by rw [(hFT1.cx 942 rfl _).1] at q; exact q)) (by omega) _) ?_
          rintro _ T11 ⟨hHT11, w134, z133, rfl, w133, w132, f52⟩
          have hFT11 : FR md_mo_action__s S T11 := FR.tr hFT1 w134 rfl
          show Rl _ _ _ _ _ [iv z133] _ _
          have q52 : z133 = 1 → nM S (z129).toNat → 0 ≤ v4 := fun e h => hv19 (by have t : Xi S 979 (z129).toNat = a := (by rw [← (hFT1.cx 979 rfl _).1]; exact (by assumption : z133 = 1 → Xi T1 978 (z129).toNat < 3 → Xi T1 979 (z129).toNat = a) e (by omega)); rw [← t]; exact h.2)
          have F52 : FR [(904, 905, 154, 155)] T1 T11 := by assumption
          have A52 : ASK T1 0 a a noun v4 := ako_k (hFT1.kep rfl) ak19 ⟨by omega, ha49⟩ (by decide)
          have H52 : ∀ j : Nat, 0 ≤ Xi T1 940 j ∧ Xi T1 940 j ≤ 1 := fun j => hHT1.c 940 j
          have B52 : ABV T1 := ABV_FR hFT1 rfl hB
          have M52 : RULM T1 := RULM_FR hFT1 rfl hR
          have S52 : RSP T1 0 v5 (z129) := q41
          have J52 : z133 = 0 → LPX S T11 (aFn (8 - dd).toNat a noun) (aC0 (8 - dd).toNat a noun) (8 - dd).toNat 0 a noun (v5 + 1) := fun q => lpx_j l19 B52 H52 M52 S52 (by omega) (by omega) A52 (by rw [← f52]; exact q) F52
          have N52 : z133 ≠ 0 → apR T1 (z129) a v4 ≠ 0 := fun q => by rw [← f52]; exact q
          refine l_if_eq rfl rfl (by unfold rg; omega) (fun w135 => ?_) (fun w136 => ?_)
          · refine l_iinc rfl rfl rfl rfl ?_
            refine l_goto rfl rfl ?_
            exact Rl_weak (ih19 _ (by omega) T11 hHT11 hFT11 (v4) ((v5 + 1)) (by omega) (by omega) (by first | assumption | exact (TXM_FR w134 rfl (by assumption : TXM T1))) (by first | assumption | exact (WYM_FR w134 rfl (by assumption : WYM T1))) (by first | exact hv19 | (intro q; first | exact hn q | (exfalso; omega))) (by omega) (by first | exact ak161 | exact ak138 | exact ak81 | exact ak78 | exact ak19 | exact ako_y (by omega) (by have := h2 (by omega); have := hn (by omega); omega) hkd | exact ako_n (by omega)) (by first | exact (R64.2 (Or.inr ⟨by decide, Or.inl (by omega)⟩)) | exact J52 (by omega) | exact lpa_0) rfl) (And.intro rfl (And.intro rfl (And.intro rfl (And.intro rfl (And.intro rfl (And.intro rfl (True.intro)))))))
          · refine l_aload_n rfl rfl ?_
            refine l_iload rfl rfl ?_
            refine l_iload rfl rfl ?_
            refine l_iload_n rfl rfl ?_
            have w137 : Xi T11 904 130 = Xi T1 904 130 := (show Xi T11 904 130 = Xi T1 904 130 from w134.x _ _ rfl)
            have w139 : Xi T11 904 19 = Xi T1 904 19 := (show Xi T11 904 19 = Xi T1 904 19 from w134.x _ _ rfl)
            refine l_callV rfl rfl rfl (hrec hHT11 z129 v4 dd ⟨by omega, by omega⟩ ⟨by omega, by omega⟩ ⟨by omega, by omega⟩ (by first | assumption | omega) (by first | exact fun h => q52 (by omega) (nm_b hFT11 rfl h) | exact fun h => q114 (by omega) (nm_b hFT11 rfl h) | exact fun h => q194 (by omega) (nm_b hFT11 rfl h)) (by omega) (by first | assumption | exact (TXM_FR w134 rfl (by assumption : TXM T1))) (by first | assumption | exact (DEFM_FR hFT11 rfl (by assumption : DEFM S))) (by first | assumption | exact (RULM_FR hFT11 rfl (by assumption : RULM S))) (by first | assumption | exact (ABV_FR hFT11 rfl (by assumption : ABV S))) (by first | assumption | exact (LXM_FR hFT11 rfl (by assumption : LXM S))) (by first | assumption | exact (WYM_FR w134 rfl (by assumption : WYM T1))) (by first | assumption | exact (AKR_FR hFT11 rfl (by assumption : AKR S))) (by first | assumption | exact (NMWD_FR hFT11 rfl (by assumption : NMWD S))) (by first | assumption | exact (DR0_FR hFT11 rfl (by assumption : DR0 S))) (by omega)) ?_
            rintro _ T12 ⟨hHT12, w144, z143, rfl, w143, w141, w142, s64⟩
            have hFT12 : FR md_mo_action__s S T12 := FR.tr hFT11 w144 rfl
            show Rl _ _ _ _ _ [iv z143] _ _
            have R64 := lpx_r l19 B52 H52 M52 S52 (by omega) (by omega) A52 (N52 (by omega)) F52 s64
            have E64 : z143 ≠ 0 → ACYX S T12 a noun (8 - dd).toNat 1 := fun q => (if e : Xi T12 904 162 = 0 then acy_f (R64.1 e (Or.inr ⟨q, by decide⟩)) (fun V _ => eqy_1) else acy_f (lpx_ed (R64.2 (Or.inl e)) e) (fun V h => eqy_c h e))
            refine l_if_eq rfl rfl (by unfold rg; omega) (fun w145 => ?_) (fun w146 => ?_)
            · refine l_iinc rfl rfl rfl rfl ?_
              refine l_goto rfl rfl ?_
              exact Rl_weak (ih19 _ (by omega) T12 hHT12 hFT12 (v4) ((v5 + 1)) (by omega) (by omega) (by first | assumption | exact (by assumption : TXM T12)) (by first | assumption | exact (by assumption : WYM T12)) (by first | exact hv19 | (intro q; first | exact hn q | (exfalso; omega))) (by omega) (by first | exact ak161 | exact ak138 | exact ak81 | exact ak78 | exact ak19 | exact ako_y (by omega) (by have := h2 (by omega); have := hn (by omega); omega) hkd | exact ako_n (by omega)) (by first | exact (R64.2 (Or.inr ⟨by decide, Or.inl (by omega)⟩)) | exact J52 (by omega) | exact lpa_0) rfl) (And.intro rfl (And.intro rfl (And.intro rfl (And.intro rfl (And.intro rfl (And.intro rfl (True.intro)))))))
            · refine l_iconst rfl ?_
              refine l_ireturn rfl rfl ?_
              exact ⟨hHT12, hFT12, _, rfl, ⟨by omega, by omega⟩, (by first | assumption | exact (by assumption : TXM T12)), (by first | assumption | exact (by assumption : WYM T12)), (by first | (have t := E64; exact acx_i (fun _ => E64 (by omega))) | (have t := E126; exact acx_i (fun _ => E126)) | (have t := E206; exact acx_i (fun d => E206 d (by omega))) | (have t := D150z; exact acx_i (fun d => D150z d (by omega))) | (have t := l161; exact acx_i (fun d => acy_f (lpx_e (l161 d) (ABV_FR hFT12 rfl hB) q165 (by omega)) (fun V _ => eqy_0))) | exact acx_i (fun _ => acy_f l138 (fun V h => eqy_d h (by omega))))⟩
  refine l_aload_n rfl rfl ?_
  refine l_gfr rfl rfl rfl rfl rfl (hH.r 904 50 942 rfl) ?_
  refine l_iload_n rfl rfl ?_
  refine l_iaload (n := 12) rfl rfl (by omega) (by omega) (by unfold rg; omega) ?_
  have w147 : -2 ≤ (Xi S 942 ((a).toNat)) ∧ (Xi S 942 ((a).toNat)) ≤ 15 := hH.c _ _
  refine l_if_lt rfl rfl (by unfold rg; omega) (fun w148 => ?_) (fun w149 => ?_)
  · refine l_iconst rfl ?_
    refine l_istore rfl rfl rfl ?_
    refine l_iconst rfl ?_
    refine l_istore rfl rfl rfl ?_
    exact Rl_weak (C19 _ S hH hF ((-1)) (0) (by omega) (by omega) (by first | assumption | exact (by assumption : TXM S)) (by first | assumption | exact (by assumption : WYM S)) (by first | exact hv19 | (intro q; first | exact hn q | (exfalso; omega))) (by omega) (by first | exact ak161 | exact ak138 | exact ak81 | exact ak78 | exact ak19 | exact ako_y (by omega) (by have := h2 (by omega); have := hn (by omega); omega) hkd | exact ako_n (by omega)) (by first | exact (R64.2 (Or.inr ⟨by decide, Or.inl (by omega)⟩)) | exact J52 (by omega) | exact lpa_0) rfl) (And.intro rfl (And.intro rfl (And.intro rfl (And.intro rfl (And.intro rfl (And.intro rfl (True.intro)))))))
  · refine l_iload_n rfl rfl ?_
    refine l_goto rfl rfl ?_
    refine l_istore rfl rfl rfl ?_
    refine l_iconst rfl ?_
    refine l_istore rfl rfl rfl ?_
    exact Rl_weak (C19 _ S hH hF (noun) (0) (by omega) (by omega) (by first | assumption | exact (by assumption : TXM S)) (by first | assumption | exact (by assumption : WYM S)) (by first | exact hv19 | (intro q; first | exact hn q | (exfalso; omega))) (by omega) (by first | exact ak161 | exact ak138 | exact ak81 | exact ak78 | exact ak19 | exact ako_y (by omega) (by have := h2 (by omega); have := hn (by omega); omega) hkd | exact ako_n (by omega)) (by first | exact (R64.2 (Or.inr ⟨by decide, Or.inl (by omega)⟩)) | exact J52 (by omega) | exact lpa_0) rfl) (And.intro rfl (And.intro rfl (And.intro rfl (And.intro rfl (And.intro rfl (And.intro rfl (True.intro)))))))
theorem k_mrs (n : Nat) : ∀ (d : Nat) {S : sS} (_ : HI S) (q : Int) (noun : Int) (dq : Int) (hq : 0 ≤ q ∧ q ≤ 2399) (hnoun : -1 ≤ noun ∧ noun ≤ 23) (hdq : 0 ≤ dq ∧ dq ≤ 8) (hk : 0 ≤ Xi S 972 q.toNat ∧ Xi S 972 q.toNat < Xi S 904 49) (hg : Xi S 970 q.toNat ≠ 0 → Xi S 942 (Xi S 972 q.toNat).toNat < 0) (ht : Xi S 970 q.toNat = 0 → thK S False (0 ≤ noun) (Xi S 971 q.toNat)) (h2 : noun < Xi S 904 19) (hX : TXM S) (hD : DEFM S) (hR : RULM S) (hB : ABV S) (hM : LXM S) (hW : WYM S) (hA : AKR S) (hnw : NMWD S) (hdy : DR0 S), (8 - dq).toNat = n → Mt lay0 (d + 3 * n + 30) m_mo_tries [.ref 904, iv q, iv noun, iv dq] S (Q_mo_tries__s S q noun dq) := by
  induction n with
  | zero => intro d S hH q noun dq hq hnoun hdq hk hg ht h2 hX hD hR hB hM hW hA hnw hdy hm; exact u_mo_tries__s hH q noun dq hq hnoun hdq hk hg ht h2 hX hD hR hB hM hW hA hnw hdy d (fun {_} _ _ _ _ _ _ _ _ _ _ _ _ _ _ _ _ _ _ _ _ hlt => absurd hlt.1 (by omega))
  | succ n ih =>
    intro d S hH q noun dq hq hnoun hdq hk hg ht h2 hX hD hR hB hM hW hA hnw hdy hm
    have t := u_mo_tries__s hH q noun dq hq hnoun hdq hk hg ht h2 hX hD hR hB hM hW hA hnw hdy (d + 3 * n + 3) (fun {S} hH xa xnoun xdd xha xhnoun xhdd xhn xh2 xhX xhD xhR xhB xhM xhW xhA xhnw xhdy xhkd xha49 hlt => u_mo_action__s hH xa xnoun xdd xha xhnoun xhdd xhn xh2 xhX xhD xhR xhB xhM xhW xhA xhnw xhdy xhkd xha49 (d + 3 * n) (fun {S} hH yri ynoun ydr yhri yhnoun yhdr yhr yhn yh2 yhX yhD yhR yhB yhM yhW yhA yhnw yhdy he => u_mo_runs__s hH yri ynoun ydr yhri yhnoun yhdr yhr yhn yh2 yhX yhD yhR yhB yhM yhW yhA yhnw yhdy (d + 3 * n) (fun {S} hH zq znoun zdq zhq zhnoun zhdq zhk zhg zht zh2 zhX zhD zhR zhB zhM zhW zhA zhnw zhdy he2 => ih d hH zq znoun zdq zhq zhnoun zhdq zhk zhg zht zh2 zhX zhD zhR zhB zhM zhW zhA zhnw zhdy (by omega))))
    rw [show d + 3 * n + 3 + 30 = d + 3 * (n + 1) + 30 by omega] at t
    exact t
theorem t_mo_tries__s {S : sS} (hH : HI S) (q : Int) (noun : Int) (dq : Int) (hq : 0 ≤ q ∧ q ≤ 2399) (hnoun : -1 ≤ noun ∧ noun ≤ 23) (hdq : 0 ≤ dq ∧ dq ≤ 8) (hk : 0 ≤ Xi S 972 q.toNat ∧ Xi S 972 q.toNat < Xi S 904 49) (hg : Xi S 970 q.toNat ≠ 0 → Xi S 942 (Xi S 972 q.toNat).toNat < 0) (ht : Xi S 970 q.toNat = 0 → thK S False (0 ≤ noun) (Xi S 971 q.toNat)) (h2 : noun < Xi S 904 19) (hX : TXM S) (hD : DEFM S) (hR : RULM S) (hB : ABV S) (hM : LXM S) (hW : WYM S) (hA : AKR S) (hnw : NMWD S) (hdy : DR0 S) (d : Nat) : Mt lay0 (d + 54) m_mo_tries [.ref 904, iv q, iv noun, iv dq] S (Q_mo_tries__s S q noun dq) := by
  have t := k_mrs (8 - dq).toNat (d + (24 - 3 * (8 - dq).toNat)) hH q noun dq hq hnoun hdq hk hg ht h2 hX hD hR hB hM hW hA hnw hdy rfl
  rw [show d + (24 - 3 * (8 - dq).toNat) + 3 * (8 - dq).toNat + 30 = d + 54 by omega] at t
  exact t
theorem t_mo_runs__s {S : sS} (hH : HI S) (ri : Int) (noun : Int) (dr : Int) (hri : 0 ≤ ri ∧ ri ≤ 23) (hnoun : -1 ≤ noun ∧ noun ≤ 23) (hdr : 0 ≤ dr ∧ dr ≤ 8) (hr : ri < Xi S 904 130) (hn : nM S ri.toNat → 0 ≤ noun) (h2 : noun < Xi S 904 19) (hX : TXM S) (hD : DEFM S) (hR : RULM S) (hB : ABV S) (hM : LXM S) (hW : WYM S) (hA : AKR S) (hnw : NMWD S) (hdy : DR0 S) (d : Nat) : Mt lay0 (d + 55) m_mo_runs [.ref 904, iv ri, iv noun, iv dr] S (Q_mo_runs__s S ri noun dr) :=
  u_mo_runs__s hH ri noun dr hri hnoun hdr hr hn h2 hX hD hR hB hM hW hA hnw hdy (d + 24) (fun {S} hH2 zq znoun zdq zhq zhnoun zhdq zhk zhg zht zh2 zhX zhD zhR zhB zhM zhW zhA zhnw zhdy he => t_mo_tries__s hH2 zq znoun zdq zhq zhnoun zhdq zhk zhg zht zh2 zhX zhD zhR zhB zhM zhW zhA zhnw zhdy d)
theorem t_mo_action__s {S : sS} (hH : HI S) (a : Int) (noun : Int) (dd : Int) (ha : 0 ≤ a ∧ a ≤ 11) (hnoun : -1 ≤ noun ∧ noun ≤ 23) (hdd : 0 ≤ dd ∧ dd ≤ 8) (hn : 0 ≤ Xi S 942 a.toNat → 0 ≤ noun) (h2 : 0 ≤ Xi S 942 a.toNat → noun < Xi S 904 19) (hX : TXM S) (hD : DEFM S) (hR : RULM S) (hB : ABV S) (hM : LXM S) (hW : WYM S) (hA : AKR S) (hnw : NMWD S) (hdy : DR0 S) (hkd : 0 ≤ Xi S 942 a.toNat → blR S (Xi S 918 noun.toNat) (Xi S 942 a.toNat) ≠ 0) (ha49 : a < Xi S 904 49) (d : Nat) : Mt lay0 (d + 56) m_mo_action [.ref 904, iv a, iv noun, iv dd] S (Q_mo_action__s S a noun dd) :=
  u_mo_action__s hH a noun dd ha hnoun hdd hn h2 hX hD hR hB hM hW hA hnw hdy hkd ha49 (d + 24) (fun {S} hH2 yri ynoun ydr yhri yhnoun yhdr yhr yhn yh2 yhX yhD yhR yhB yhM yhW yhA yhnw yhdy he => t_mo_runs__s hH2 yri ynoun ydr yhri yhnoun yhdr yhr yhn yh2 yhX yhD yhR yhB yhM yhW yhA yhnw yhdy d)
end
section
/-! a TURN, in both -/
def RTB (U S : sS) : Prop := RLB U S ∧ EQO U S ∧ Xi S 904 157 = 0 ∧ STC U S
def rsS (S : sS) : sS := uI (uI S 904 161 (Int32.ofInt 0)) 904 162 (Int32.ofInt 0)
theorem rs_fr {S : sS} : FR [(904, 905, 161, 163)] S (rsS S) := FR.wI (FR.wI FR.rf rfl) rfl
theorem rt_b {U S : sS} (h : RTB U S) : RT (ttI U) (rsS S) ∧ KEP cBU cBv U (ttI U) := by
  obtain ⟨a, ⟨e1, e2⟩, d, s⟩ := h
  have F : FR [(900, 901, 5, 7)] U (ttI U) := by unfold ttI; exact FR.wI (FR.wI FR.rf rfl) rfl
  have G := rs_fr (S := S)
  have p4 : Xi (ttI U) 900 4 = Xi U 900 4 := F.x 900 4 rfl
  have a6 : Xi (rsS S) 904 156 = Xi S 904 156 := G.x 904 156 rfl
  have p6 : Xi (ttI U) 900 6 = 0 := by unfold ttI; exact Xi_same (by unfold rg; omega)
  have p5 : Xi (ttI U) 900 5 = 0 := by unfold ttI; rw [Xi_ne (by omega)]; exact Xi_same (by unfold rg; omega)
  have a2 : Xi (rsS S) 904 162 = 0 := by unfold rsS; exact Xi_same (by unfold rg; omega)
  have a1 : Xi (rsS S) 904 161 = 0 := by unfold rsS; rw [Xi_ne (by omega)]; exact Xi_same (by unfold rg; omega)
  refine ⟨⟨rlb_z a (F.kep rfl) (G.kep rfl), ⟨by rw [p4, a6]; exact e1, fun j hj => ?_⟩, ⟨by rw [p6, a2], fun _ => by rw [p5, a1]⟩, by rw [G.x 904 157 rfl]; exact d, s.k (F.kep rfl) (G.kep rfl)⟩, F.kep rfl⟩
  rw [(F.cx 901 rfl j).1, (G.cx 993 rfl j).1]
  exact e2 j (by rw [← p4]; exact hj)
def GOODA (S : sS) (a n : Int) : Prop := (0 ≤ a ∧ a < Xi S 904 49) ∧ ((Xi S 942 a.toNat = -1 ∧ n = -1) ∨ (Xi S 942 a.toNat = -2 ∧ 0 ≤ n ∧ n ≤ 5) ∨ (0 ≤ Xi S 942 a.toNat ∧ (0 ≤ n ∧ n < Xi S 904 19) ∧ blR S (Xi S 918 n.toNat) (Xi S 942 a.toNat) ≠ 0))
theorem good_k {S : sS} {a n : Int} (h : GOODA S a n) : (0 ≤ Xi (rsS S) 942 a.toNat → blR (rsS S) (Xi (rsS S) 918 n.toNat) (Xi (rsS S) 942 a.toNat) ≠ 0) ∧ HD6 (rsS S) a n := by
  have G : KEP cBS2 cBw S (rsS S) := rs_fr.kep rfl
  unfold HD6
  rw [G.x 942 rfl, G.x 918 rfl, blR_k (G.x 917 rfl)]
  refine ⟨fun q => ?_, fun q => ?_⟩
  · rcases h.2 with x | x | x
    · omega
    · omega
    · exact x.2.2
  · rcases h.2 with x | x | x <;> omega
noncomputable def tFn (a o : Int) (U : sS) : sS × Int := tt1 (doC (trC 7) U a o)
noncomputable def tC3 (y : Int) (P : sS × Int) : sS × Int := (P.1, if Xi P.1 900 6 ≠ 0 then 5 else y)
theorem tt_5 {P : sS × Int} (h : Xi (tt1 P).1 900 6 ≠ 0) : (tt1 P).2 = 5 := by
  unfold tt1 at h ⊢
  by_cases q : Xi P.1 900 6 ≠ 0
  · rw [if_pos q]
  · rw [if_neg q] at h ⊢
    show (if Xi (rrA (trC 8) 3 (-1) (-1) P.1).1 900 6 ≠ 0 then (5 : Int) else P.2) = 5
    rw [if_pos h]
theorem lpt_0 {A T : sS} {a o z : Int} (h : ACX A T a o 7 z) (hd : HD6 A a o) : LPX A T (tFn a o) (tC3 z) 8 3 (-1) (-1) 0 := fun U u => by
  obtain ⟨V, y, v1, v2, v3, v4⟩ := h U u hd
  refine ⟨V, 0, v2, v3, ?_, ⟨Int.le_refl _, by have := v2.1.2.2.2.1.2.2.2.1; omega⟩, rfl⟩
  show EQY (tt1 (doC (trC 7) U a o)) (tC3 z (rrA (trC 8) 3 (-1) (-1) V))
  rw [v1]
  refine eqy_e ?_
  by_cases e : Xi V 900 6 = 0
  · rw [v4 e]
    unfold tt1 tC3
    rw [if_neg (fun x => x e)]
  · have r : rrA (trC 8) 3 (-1) (-1) V = (V, 0) := rr_e (Or.inr e)
    rw [r]
    unfold tt1 tC3
    rw [if_pos e, if_pos e]
/-- a turn that both take, from outside -/
def ATX (S T : sS) (a n z : Int) : Prop := (GOODA S a n → ∀ U : sS, RTB U S → ∃ V : sS, ttC U a n = (V, z) ∧ RTB V T ∧ KEP cBU cBv U V) ∧ (¬ GOODA S a n → z = -1 ∧ T = S)
theorem atx_i {S T : sS} {a n z y : Int} (g : GOODA S a n) (h : LPF (rsS S) T (tFn a n) (tC3 y) 0) (hz : (Xi T 904 162 ≠ 0 ∧ z = 5) ∨ (Xi T 904 162 = 0 ∧ z = y)) : ATX S T a n z := ⟨fun _ U u => by
  obtain ⟨r1, r2⟩ := rt_b u
  obtain ⟨V, v1, v2, v3⟩ := h (ttI U) r1
  have e1 : (ttC U a n).1 = V := v3.1
  refine ⟨V, Prod.ext e1 ?_, ⟨v1.1, v1.2.1, v1.2.2.2.1, v1.2.2.2.2⟩, r2.tr v2⟩
  show (tt1 (doC (trC 7) (ttI U) a n)).2 = z
  by_cases e : Xi V 900 6 = 0
  · have t := v3.2 (by rw [v3.1]; exact e)
    have t2 : (tt1 (doC (trC 7) (ttI U) a n)).2 = (if Xi V 900 6 ≠ 0 then (5 : Int) else y) := t
    rw [if_neg (fun x => x e)] at t2
    rw [t2]
    have := v1.2.2.1.1.1 e
    omega
  · have t := tt_5 (P := doC (trC 7) (ttI U) a n) (by rw [show (tt1 (doC (trC 7) (ttI U) a n)).1 = V from e1]; exact e)
    rw [t]
    have : Xi T 904 162 ≠ 0 := fun q => e (v1.2.2.1.1.2 q)
    omega, fun q => absurd g q⟩

def md_mo_act__s : List rec := [(904, 905, 154, 155), (904, 905, 156, 157), (904, 905, 158, 159), (904, 905, 160, 161), (904, 905, 161, 162), (904, 905, 162, 163), (919, 920, 0, 100000), (920, 921, 0, 100000), (925, 926, 0, 100000), (930, 931, 0, 100000), (931, 932, 0, 100000), (932, 933, 0, 100000), (940, 941, 0, 100000), (993, 994, 0, 100000), (994, 995, 0, 100000)]
abbrev Q_mo_act__s (S : sS) (a : Int) (noun : Int) : pst := fun r S1 => HI S1 ∧ FR md_mo_act__s S S1 ∧ (∃ z : Int, r = some (iv z) ∧ (-1 ≤ z ∧ z ≤ 5) ∧ (TXM S1) ∧ (WYM S1) ∧ (ATX S S1 a noun z))
set_option maxRecDepth 100000 in
theorem t_mo_act__s {S : sS} (hH : HI S) (a : Int) (noun : Int) (ha : -2147483648 ≤ a ∧ a ≤ 2147483647) (hnoun : -2147483648 ≤ noun ∧ noun ≤ 2147483647) (hX : TXM S) (hD : DEFM S) (hR : RULM S) (hB : ABV S) (hM : LXM S) (hW : WYM S) (hA : AKR S) (hnw : NMWD S) (hdy : DR0 S) (d : Nat) : Mt lay0 (d + 57) m_mo_act [.ref 904, iv a, iv noun] S (Q_mo_act__s S a noun) := by
  refine Mt_R rfl rfl ?_
  have hF : FR md_mo_act__s S S := FR.rf
  have w1 : 0 ≤ Xi S 904 19 ∧ Xi S 904 19 ≤ 24 := hH.c _ _
  have w2 : 0 ≤ Xi S 904 49 ∧ Xi S 904 49 ≤ 12 := hH.c _ _
  have hc3 : 0 ≤ Xi S 904 23 ∧ Xi S 904 23 ≤ 24 := hH.c _ _
  have hc19 : 0 ≤ Xi S 904 19 ∧ Xi S 904 19 ≤ 24 := hH.c _ _
  have hc32 : 0 ≤ Xi S 904 32 ∧ Xi S 904 32 ≤ 12 := hH.c _ _
  have hc49 : 0 ≤ Xi S 904 49 ∧ Xi S 904 49 ≤ 12 := hH.c _ _
  have C98 : (0 ≤ a ∧ a < Xi S 904 49) → (-1 ≤ noun ∧ noun ≤ 23) → (0 ≤ Xi S 942 a.toNat → 0 ≤ noun ∧ noun < Xi S 904 19) → (GOODA S a noun) → Rl lay0 (d + 56) m_mo_act 98 [(0, .ref 904), (1, iv a), (2, iv noun)] [] S (Q_mo_act__s S a noun) := by
    intro w3 w4 hg98 g98
    have C120 : ∀ (n120 : Nat) (T1 : sS) (_ : HI T1) (_ : FR md_mo_act__s S T1) (v5 : Int) (v6 : Int), (0 ≤ v5 ∧ v5 ≤ 5) → (0 ≤ v6 ∧ v6 ≤ 25) → (TXM T1) → (WYM T1) → (GOODA S a noun) → (LPX (rsS S) T1 (tFn a noun) (tC3 v5) 8 3 (-1) (-1) v6) → n120 = (26 - v6).toNat → Rl lay0 (d + 56) m_mo_act 120 [(0, .ref 904), (1, iv a), (5, iv v5), (6, iv v6)] [] T1 (Q_mo_act__s S a noun) := by
      intro n120
      induction n120 using Nat.strongRecOn with
      | ind n120 ih120 =>
        intro T1 hHT1 hFT1 v5 v6 w5 w6 hX120 hW120 g120 l120 hm120
        have w7 : Xi T1 904 130 = Xi S 904 130 := hFT1.x _ _ rfl
        have w8 : Xi T1 904 19 = Xi S 904 19 := hFT1.x _ _ rfl
        have w9 : Xi T1 904 49 = Xi S 904 49 := hFT1.x _ _ rfl
        have C173 : ∀  (T2 : sS) (_ : HI T2) (_ : FR md_mo_act__s S T2) (v5 : Int), (0 ≤ v5 ∧ v5 ≤ 5) → (TXM T2) → (WYM T2) → (GOODA S a noun) → (LPF (rsS S) T2 (tFn a noun) (tC3 v5) 0) → Rl lay0 (d + 56) m_mo_act 173 [(0, .ref 904), (5, iv v5)] [] T2 (Q_mo_act__s S a noun) := by
          intro T2 hHT2 hFT2 v5 w10 hX173 hW173 g173 l173
          have w11 : Xi T2 904 130 = Xi S 904 130 := hFT2.x _ _ rfl
          have w12 : Xi T2 904 19 = Xi S 904 19 := hFT2.x _ _ rfl
          have w13 : Xi T2 904 49 = Xi S 904 49 := hFT2.x _ _ rfl
          refine l_aload_n rfl rfl ?_
          refine l_gfi rfl rfl rfl rfl rfl ?_
          have w14 : 0 ≤ (Xi T2 904 162) ∧ (Xi T2 904 162) ≤ 1 := hHT2.c _ _
          refine l_if_eq rfl rfl (by unfold rg; omega) (fun w15 => ?_) (fun w16 => ?_)
          · refine l_iload rfl rfl ?_
            refine l_ireturn rfl rfl ?_
            exact ⟨hHT2, hFT2, _, rfl, ⟨by omega, by omega⟩, (by first | assumption | exact (by assumption : TXM T2)), (by first | assumption | exact (by assumption : WYM T2)), (by first | (have t := l173; exact atx_i g173 l173 (by omega)) | exact ⟨fun g => absurd g (fun g => by obtain ⟨g1, g2⟩ := g; rcases g2 with g2 | g2 | g2 <;> first | omega | (rw [← f78] at g2; omega)), fun _ => ⟨rfl, rfl⟩⟩)⟩
          · refine l_iconst rfl ?_
            refine l_goto rfl rfl ?_
            refine l_ireturn rfl rfl ?_
            exact ⟨hHT2, hFT2, _, rfl, ⟨by omega, by omega⟩, (by first | assumption | exact (by assumption : TXM T2)), (by first | assumption | exact (by assumption : WYM T2)), (by first | (have t := l173; exact atx_i g173 l173 (by omega)) | exact ⟨fun g => absurd g (fun g => by obtain ⟨g1, g2⟩ := g; rcases g2 with g2 | g2 | g2 <;> first | omega | (rw [← f78] at g2; omega)), fun _ => ⟨rfl, rfl⟩⟩)⟩
        refine l_aload_n rfl rfl ?_
        refine l_iconst rfl ?_
        refine l_iload rfl rfl ?_
        have w17 : 0 ≤ Xi T1 904 130 ∧ Xi T1 904 130 ≤ 24 := hHT1.c _ _
        refine l_callV rfl rfl rfl (Mt_d (t_mo_ruleAt__q hHT1 3 v6 ⟨by omega, by omega⟩ ⟨by omega, by omega⟩ (by first | assumption | exact (ABV_FR hFT1 rfl (by assumption : ABV S))) _)) ?_
        rintro _ _ ⟨⟨rfl, z21, rfl, w21, w18, w19, w20, q124⟩, hd124⟩
        show Rl _ _ _ _ _ [iv z21] _ _
        refine l_iconst rfl ?_
        refine l_icmp_eq rfl rfl (by unfold rg; omega) (by unfold rg; omega) (fun w22 => ?_) (fun w23 => ?_)
        · exact Rl_weak (C173 T1 hHT1 hFT1 (v5) (by omega) (by first | assumption | exact (by assumption : TXM T1)) (by first | assumption | exact (by assumption : WYM T1)) (g120) (lpx_e l120 (ABV_FR hFT1 rfl hB) q124 (by omega))) (And.intro rfl (And.intro rfl (True.intro)))
        · refine l_aload_n rfl rfl ?_
          refine l_gfi rfl rfl rfl rfl rfl ?_
          have w24 : 0 ≤ (Xi T1 904 162) ∧ (Xi T1 904 162) ≤ 1 := hHT1.c _ _
          refine l_if_ne rfl rfl (by unfold rg; omega) (fun w25 => ?_) (fun w26 => ?_)
          · exact Rl_weak (C173 T1 hHT1 hFT1 (v5) (by omega) (by first | assumption | exact (by assumption : TXM T1)) (by first | assumption | exact (by assumption : WYM T1)) (g120) (lpx_e l120 (ABV_FR hFT1 rfl hB) q124 (by omega))) (And.intro rfl (And.intro rfl (True.intro)))
          · refine l_aload_n rfl rfl ?_
            refine l_iconst rfl ?_
            refine l_iload rfl rfl ?_
            refine l_callV rfl rfl rfl (Mt_d (t_mo_ruleAt__q hHT1 3 v6 ⟨by omega, by omega⟩ ⟨by omega, by omega⟩ (by first | assumption | exact (ABV_FR hFT1 rfl (by assumption : ABV S))) _)) ?_
            rintro _ _ ⟨⟨rfl, z31, rfl, w31, w28, w29, w30, q142⟩, hd142⟩
            show Rl _ _ _ _ _ [iv z31] _ _
            have e142 := dv_i hd124 hd142 (by unfold rg; omega) (by unfold rg; omega)
            have s142 : z31 ≠ -1 → Xi S 978 (z31).toNat = 3 := fun q => by rw [← (hFT1.cx 978 rfl _).1]; exact (by assumption : z31 ≠ -1 → Xi T1 978 (z31).toNat = 3) q
            have p142 : Xi T1 904 130 = Xi S 904 130 := hFT1.x 904 130 rfl
            refine l_istore rfl rfl rfl ?_
            refine l_aload_n rfl rfl ?_
            refine l_iload rfl rfl ?_
            refine l_iload_n rfl rfl ?_
            refine l_iconst rfl ?_
            have w33 : 0 ≤ Xi T1 904 19 ∧ Xi T1 904 19 ≤ 24 := hHT1.c _ _
            refine l_callV rfl rfl rfl (t_mo_applies__q hHT1 z31 a (-1) ⟨by omega, by omega⟩ ⟨by omega, by omega⟩ ⟨by omega, by omega⟩ (by first | assumption | omega) (by first | assumption | exact (RULM_FR hFT1 rfl (by assumption : RULM S))) (by first | assumption | exact (DEFM_FR hFT1 rfl (by assumption : DEFM S))) (by first | assumption | exact (ABV_FR hFT1 rfl (by assumption : ABV S))) (by first | assumption | exact (by assumption : TXM T1)) (fun q => absurd q (by omega)) (by omega) _) ?_
            rintro _ T3 ⟨hHT3, w36, z35, rfl, w35, w34, f152⟩
            have hFT3 : FR md_mo_act__s S T3 := FR.tr hFT1 w36 rfl
            show Rl _ _ _ _ _ [iv z35] _ _
            have q152 : nM S (z31).toNat → 0 ≤ (-1 : Int) := fun h => absurd h.1 (by have t := (hR (z31).toNat (by omega)).1.2.2.2 (by omega); omega)
            have F152 : FR [(904, 905, 154, 155)] T1 T3 := by assumption
            have A152 : ASK T1 3 (-1) a (-1) (-1) := Or.inr ⟨rfl, rfl, rfl, rfl⟩
            have H152 : ∀ j : Nat, 0 ≤ Xi T1 940 j ∧ Xi T1 940 j ≤ 1 := fun j => hHT1.c 940 j
            have B152 : ABV T1 := ABV_FR hFT1 rfl hB
            have M152 : RULM T1 := RULM_FR hFT1 rfl hR
            have S152 : RSP T1 3 v6 (z31) := q142
            have J152 : z35 = 0 → LPX (rsS S) T3 (tFn a noun) (tC3 v5) 8 3 (-1) (-1) (v6 + 1) := fun q => lpx_j l120 B152 H152 M152 S152 (by omega) (by omega) A152 (by rw [← f152]; exact q) F152
            have N152 : z35 ≠ 0 → apR T1 (z31) a (-1) ≠ 0 := fun q => by rw [← f152]; exact q
            refine l_if_eq rfl rfl (by unfold rg; omega) (fun w37 => ?_) (fun w38 => ?_)
            · refine l_iinc rfl rfl rfl rfl ?_
              refine l_goto rfl rfl ?_
              exact Rl_weak (ih120 _ (by omega) T3 hHT3 hFT3 (v5) ((v6 + 1)) (by omega) (by omega) (by first | assumption | exact (TXM_FR w36 rfl (by assumption : TXM T1))) (by first | assumption | exact (WYM_FR w36 rfl (by assumption : WYM T1))) (by first | exact g120 | exact g98) (by first | exact R163 | exact J152 (by omega) | exact L112) rfl) (And.intro rfl (And.intro rfl (And.intro rfl (And.intro rfl (True.intro)))))
            · refine l_aload_n rfl rfl ?_
              refine l_iload rfl rfl ?_
              refine l_iconst rfl ?_
              refine l_iconst rfl ?_
              have w39 : Xi T3 904 130 = Xi T1 904 130 := (show Xi T3 904 130 = Xi T1 904 130 from w36.x _ _ rfl)
              have w41 : Xi T3 904 19 = Xi T1 904 19 := (show Xi T3 904 19 = Xi T1 904 19 from w36.x _ _ rfl)
              refine l_callV rfl rfl rfl (t_mo_runs__s hHT3 z31 (-1) 0 ⟨by omega, by omega⟩ ⟨by omega, by omega⟩ ⟨by omega, by omega⟩ (by first | assumption | omega) (fun h => q152 (nm_b hFT3 rfl h)) (by omega) (by first | assumption | exact (TXM_FR w36 rfl (by assumption : TXM T1))) (by first | assumption | exact (DEFM_FR hFT3 rfl (by assumption : DEFM S))) (by first | assumption | exact (RULM_FR hFT3 rfl (by assumption : RULM S))) (by first | assumption | exact (ABV_FR hFT3 rfl (by assumption : ABV S))) (by first | assumption | exact (LXM_FR hFT3 rfl (by assumption : LXM S))) (by first | assumption | exact (WYM_FR w36 rfl (by assumption : WYM T1))) (by first | assumption | exact (AKR_FR hFT3 rfl (by assumption : AKR S))) (by first | assumption | exact (NMWD_FR hFT3 rfl (by assumption : NMWD S))) (by first | assumption | exact (DR0_FR hFT3 rfl (by assumption : DR0 S))) _) ?_
              rintro _ T4 ⟨hHT4, w46, z45, rfl, w45, w43, w44, s163⟩
              have hFT4 : FR md_mo_act__s S T4 := FR.tr hFT3 w46 rfl
              show Rl _ _ _ _ _ [iv z45] _ _
              have R163 : LPX (rsS S) T4 (tFn a noun) (tC3 v5) 8 3 (-1) (-1) (v6 + 1) := (lpx_r l120 B152 H152 M152 S152 (by omega) (by omega) A152 (N152 (by omega)) F152 s163).2 (Or.inr ⟨by decide, Or.inr rfl⟩)
              refine l_pop rfl rfl ?_
              refine l_iinc rfl rfl rfl rfl ?_
              refine l_goto rfl rfl ?_
              exact Rl_weak (ih120 _ (by omega) T4 hHT4 hFT4 (v5) ((v6 + 1)) (by omega) (by omega) (by first | assumption | exact (by assumption : TXM T4)) (by first | assumption | exact (by assumption : WYM T4)) (by first | exact g120 | exact g98) (by first | exact R163 | exact J152 (by omega) | exact L112) rfl) (And.intro rfl (And.intro rfl (And.intro rfl (And.intro rfl (True.intro)))))
    refine l_aload_n rfl rfl ?_
    refine l_iconst rfl ?_
    refine l_pfi rfl rfl rfl rfl ?_
    obtain ⟨U5, eU5⟩ : ∃ T : sS, T = uI S 904 161 (Int32.ofInt 0) := ⟨_, rfl⟩
    rw [← eU5]
    have hHU5 : HI U5 := by rw [eU5]; exact HI_w hH (show 0 ≤ 0 by omega) (show 0 ≤ 300 by omega)
    have hFU5 : FR md_mo_act__s S U5 := by rw [eU5]; exact FR.wI hF (mdf_i (r := (904, 905, 161, 162)) (List.mem_of_getElem? (i := 4) rfl) (inR_i (by omega) (by omega) (by omega) (by omega)))
    have w47 : Xi U5 904 161 = 0 := by rw [eU5]; exact Xi_same (by unfold rg; omega)
    refine l_aload_n rfl rfl ?_
    refine l_iconst rfl ?_
    refine l_pfz rfl rfl rfl rfl (by omega) ?_
    obtain ⟨U6, eU6⟩ : ∃ T : sS, T = uI U5 904 162 (Int32.ofInt 0) := ⟨_, rfl⟩
    rw [← eU6]
    have hHU6 : HI U6 := by rw [eU6]; exact HI_w hHU5 (show 0 ≤ 0 by omega) (show 0 ≤ 1 by omega)
    have hFU6 : FR md_mo_act__s S U6 := by rw [eU6]; exact FR.wI hFU5 (mdf_i (r := (904, 905, 162, 163)) (List.mem_of_getElem? (i := 5) rfl) (inR_i (by omega) (by omega) (by omega) (by omega)))
    have w48 : Xi U6 904 162 = 0 := by rw [eU6]; exact Xi_same (by unfold rg; omega)
    have E105 : U6 = rsS S := by rw [eU6, eU5]; rfl
    refine l_aload_n rfl rfl ?_
    refine l_iload_n rfl rfl ?_
    refine l_iload_n rfl rfl ?_
    refine l_iconst rfl ?_
    have w49 : Xi U6 904 19 = Xi S 904 19 := (show Xi U6 904 19 = Xi U5 904 19 from by rw [eU6]; exact Xi_ne (by omega)).trans ((show Xi U5 904 19 = Xi S 904 19 from by rw [eU5]; exact Xi_ne (by omega)))
    have w51 : Xi U6 904 49 = Xi S 904 49 := (show Xi U6 904 49 = Xi U5 904 49 from by rw [eU6]; exact Xi_ne (by omega)).trans ((show Xi U5 904 49 = Xi S 904 49 from by rw [eU5]; exact Xi_ne (by omega)))
    refine l_callV rfl rfl rfl (t_mo_action__s hHU6 a noun 1 ⟨by omega, by omega⟩ ⟨by omega, by omega⟩ ⟨by omega, by omega⟩ (fun q => by rw [(hFU6.cx 942 rfl _).1] at q; exact (hg98 q).1) (fun q => by rw [(hFU6.cx 942 rfl _).1] at q; have := (hg98 q).2; omega) (by first | assumption | exact (TXM_FR (FR_e eU6) rfl (TXM_FR (FR_e eU5) rfl (by assumption : TXM S)))) (by first | assumption | exact (DEFM_FR hFU6 rfl (by assumption : DEFM S))) (by first | assumption | exact (RULM_FR hFU6 rfl (by assumption : RULM S))) (by first | assumption | exact (ABV_FR hFU6 rfl (by assumption : ABV S))) (by first | assumption | exact (LXM_FR hFU6 rfl (by assumption : LXM S))) (by first | assumption | exact (WYM_FR (FR_e eU6) rfl (WYM_FR (FR_e eU5) rfl (by assumption : WYM S)))) (by first | assumption | exact (AKR_FR hFU6 rfl (by assumption : AKR S))) (by first | assumption | exact (NMWD_FR hFU6 rfl (by assumption : NMWD S))) (by first | assumption | exact (DR0_FR hFU6 rfl (by assumption : DR0 S))) (by rw [E105]; exact (good_k g98).1) (by have := hFU6.x 904 49 rfl; omega) _) ?_
    rintro _ T7 ⟨hHT7, w56, z55, rfl, w55, w53, w54, s112⟩
    have hFT7 : FR md_mo_act__s S T7 := FR.tr hFU6 w56 rfl
    show Rl _ _ _ _ _ [iv z55] _ _
    have L112 : LPX (rsS S) T7 (tFn a noun) (tC3 z55) 8 3 (-1) (-1) 0 := lpt_0 (by rw [← E105]; exact s112) (good_k g98).2
    refine l_istore rfl rfl rfl ?_
    refine l_iconst rfl ?_
    refine l_istore rfl rfl rfl ?_
    exact Rl_weak (C120 _ T7 hHT7 hFT7 (z55) (0) (by omega) (by omega) (by first | assumption | exact (by assumption : TXM T7)) (by first | assumption | exact (by assumption : WYM T7)) (by first | exact g120 | exact g98) (by first | exact R163 | exact J152 (by omega) | exact L112) rfl) (And.intro rfl (And.intro rfl (And.intro rfl (And.intro rfl (True.intro)))))
  refine l_iload_n rfl rfl ?_
  refine l_iconst rfl ?_
  refine l_aload_n rfl rfl ?_
  refine l_gfi rfl rfl rfl rfl rfl ?_
  refine l_iconst rfl ?_
  refine l_isub rfl ?_
  refine l_callS rfl rfl (by decide) rfl (t_mo_in hH a 0 ((Xi S 904 49) - 1) ⟨by omega, by omega⟩ ⟨by omega, by omega⟩ ⟨by omega, by omega⟩ _) ?_
  rintro _ _ ⟨rfl, z58, rfl, w58, w57⟩
  show Rl _ _ _ _ _ [iv z58] _ _
  refine l_if_ne rfl rfl (by unfold rg; omega) (fun w59 => ?_) (fun w60 => ?_)
  · refine l_aload_n rfl rfl ?_
    refine l_gfr rfl rfl rfl rfl rfl (hH.r 904 50 942 rfl) ?_
    refine l_iload_n rfl rfl ?_
    refine l_iaload (n := 12) rfl rfl (by omega) (by omega) (by unfold rg; omega) ?_
    have w61 : -2 ≤ (Xi S 942 ((a).toNat)) ∧ (Xi S 942 ((a).toNat)) ≤ 15 := hH.c _ _
    refine l_istore_n rfl rfl rfl ?_
    refine l_iload_n rfl rfl ?_
    refine l_iconst rfl ?_
    refine l_icmp_ne rfl rfl (by unfold rg; omega) (by unfold rg; omega) (fun w62 => ?_) (fun w63 => ?_)
    · refine l_iload_n rfl rfl ?_
      refine l_bipush rfl rfl ?_
      refine l_icmp_ne rfl rfl (by unfold rg; omega) (by unfold rg; omega) (fun w64 => ?_) (fun w65 => ?_)
      · refine l_iload_n rfl rfl ?_
        refine l_iconst rfl ?_
        refine l_aload_n rfl rfl ?_
        refine l_gfi rfl rfl rfl rfl rfl ?_
        refine l_iconst rfl ?_
        refine l_isub rfl ?_
        refine l_callS rfl rfl (by decide) rfl (t_mo_in hH noun 0 ((Xi S 904 19) - 1) ⟨by omega, by omega⟩ ⟨by omega, by omega⟩ ⟨by omega, by omega⟩ _) ?_
        rintro _ _ ⟨rfl, z67, rfl, w67, w66⟩
        show Rl _ _ _ _ _ [iv z67] _ _
        refine l_if_eq rfl rfl (by unfold rg; omega) (fun w68 => ?_) (fun w69 => ?_)
        · refine l_iconst rfl ?_
          refine l_istore rfl rfl rfl ?_
          refine l_iload rfl rfl ?_
          refine l_if_ne rfl rfl (by unfold rg; omega) (fun w70 => absurd w70 (by omega)) (fun w71 => ?_)
          · refine l_iconst rfl ?_
            refine l_ireturn rfl rfl ?_
            exact ⟨hH, hF, _, rfl, ⟨by omega, by omega⟩, (by first | assumption | exact (by assumption : TXM S)), (by first | assumption | exact (by assumption : WYM S)), (by first | (have t := l173; exact atx_i g173 l173 (by omega)) | exact ⟨fun g => absurd g (fun g => by obtain ⟨g1, g2⟩ := g; rcases g2 with g2 | g2 | g2 <;> first | omega | (rw [← f78] at g2; omega)), fun _ => ⟨rfl, rfl⟩⟩)⟩
        · refine l_aload_n rfl rfl ?_
          refine l_aload_n rfl rfl ?_
          refine l_gfr rfl rfl rfl rfl rfl (hH.r 904 20 918 rfl) ?_
          refine l_iload_n rfl rfl ?_
          refine l_iaload (n := 24) rfl rfl (by omega) (by omega) (by unfold rg; omega) ?_
          have w72 : 0 ≤ (Xi S 918 ((noun).toNat)) ∧ (Xi S 918 ((noun).toNat)) ≤ 15 := hH.c _ _
          refine l_iload_n rfl rfl ?_
          refine l_callV rfl rfl rfl (t_mo_isBelow__2 hH (Xi S 918 ((noun).toNat)) (Xi S 942 ((a).toNat)) ⟨by omega, by omega⟩ ⟨by omega, by omega⟩ (by first | assumption | exact (ABV_FR hF rfl (by assumption : ABV S))) _) ?_
          rintro _ _ ⟨rfl, z74, rfl, w74, w73, f78⟩
          show Rl _ _ _ _ _ [iv z74] _ _
          refine l_if_eq rfl rfl (by unfold rg; omega) (fun w75 => ?_) (fun w76 => ?_)
          · refine l_iconst rfl ?_
            refine l_istore rfl rfl rfl ?_
            refine l_iload rfl rfl ?_
            refine l_if_ne rfl rfl (by unfold rg; omega) (fun w77 => absurd w77 (by omega)) (fun w78 => ?_)
            · refine l_iconst rfl ?_
              refine l_ireturn rfl rfl ?_
              exact ⟨hH, hF, _, rfl, ⟨by omega, by omega⟩, (by first | assumption | exact (by assumption : TXM S)), (by first | assumption | exact (by assumption : WYM S)), (by first | (have t := l173; exact atx_i g173 l173 (by omega)) | exact ⟨fun g => absurd g (fun g => by obtain ⟨g1, g2⟩ := g; rcases g2 with g2 | g2 | g2 <;> first | omega | (rw [← f78] at g2; omega)), fun _ => ⟨rfl, rfl⟩⟩)⟩
          · refine l_iconst rfl ?_
            refine l_goto rfl rfl ?_
            refine l_istore rfl rfl rfl ?_
            refine l_iload rfl rfl ?_
            refine l_if_ne rfl rfl (by unfold rg; omega) (fun w79 => ?_) (fun w80 => absurd w80 (by omega))
            · exact Rl_weak (C98  (by omega) (by omega) (by first | assumption | omega) (by first | (have t := f78; exact ⟨by omega, Or.inr (Or.inr ⟨by omega, by omega, by rw [← f78]; omega⟩)⟩) | exact ⟨by omega, Or.inl ⟨by omega, by omega⟩⟩ | exact ⟨by omega, Or.inr (Or.inl ⟨by omega, by omega⟩)⟩)) (And.intro rfl (And.intro rfl (And.intro rfl (True.intro))))
      · refine l_iload_n rfl rfl ?_
        refine l_iconst rfl ?_
        refine l_iconst rfl ?_
        refine l_callS rfl rfl (by decide) rfl (t_mo_in hH noun 0 5 ⟨by omega, by omega⟩ ⟨by omega, by omega⟩ ⟨by omega, by omega⟩ _) ?_
        rintro _ _ ⟨rfl, z82, rfl, w82, w81⟩
        show Rl _ _ _ _ _ [iv z82] _ _
        refine l_goto rfl rfl ?_
        refine l_istore rfl rfl rfl ?_
        refine l_iload rfl rfl ?_
        refine l_if_ne rfl rfl (by unfold rg; omega) (fun w83 => ?_) (fun w84 => ?_)
        · exact Rl_weak (C98  (by omega) (by omega) (by first | assumption | omega) (by first | (have t := f78; exact ⟨by omega, Or.inr (Or.inr ⟨by omega, by omega, by rw [← f78]; omega⟩)⟩) | exact ⟨by omega, Or.inl ⟨by omega, by omega⟩⟩ | exact ⟨by omega, Or.inr (Or.inl ⟨by omega, by omega⟩)⟩)) (And.intro rfl (And.intro rfl (And.intro rfl (True.intro))))
        · refine l_iconst rfl ?_
          refine l_ireturn rfl rfl ?_
          exact ⟨hH, hF, _, rfl, ⟨by omega, by omega⟩, (by first | assumption | exact (by assumption : TXM S)), (by first | assumption | exact (by assumption : WYM S)), (by first | (have t := l173; exact atx_i g173 l173 (by omega)) | exact ⟨fun g => absurd g (fun g => by obtain ⟨g1, g2⟩ := g; rcases g2 with g2 | g2 | g2 <;> first | omega | (rw [← f78] at g2; omega)), fun _ => ⟨rfl, rfl⟩⟩)⟩
    · refine l_iload_n rfl rfl ?_
      refine l_iconst rfl ?_
      refine l_icmp_ne rfl rfl (by unfold rg; omega) (by unfold rg; omega) (fun w85 => ?_) (fun w86 => ?_)
      · refine l_iconst rfl ?_
        refine l_goto rfl rfl ?_
        refine l_istore rfl rfl rfl ?_
        refine l_iload rfl rfl ?_
        refine l_if_ne rfl rfl (by unfold rg; omega) (fun w87 => absurd w87 (by omega)) (fun w88 => ?_)
        · refine l_iconst rfl ?_
          refine l_ireturn rfl rfl ?_
          exact ⟨hH, hF, _, rfl, ⟨by omega, by omega⟩, (by first | assumption | exact (by assumption : TXM S)), (by first | assumption | exact (by assumption : WYM S)), (by first | (have t := l173; exact atx_i g173 l173 (by omega)) | exact ⟨fun g => absurd g (fun g => by obtain ⟨g1, g2⟩ := g; rcases g2 with g2 | g2 | g2 <;> first | omega | (rw [← f78] at g2; omega)), fun _ => ⟨rfl, rfl⟩⟩)⟩
      · refine l_iconst rfl ?_
        refine l_goto rfl rfl ?_
        refine l_istore rfl rfl rfl ?_
        refine l_iload rfl rfl ?_
        refine l_if_ne rfl rfl (by unfold rg; omega) (fun w89 => ?_) (fun w90 => absurd w90 (by omega))
        · exact Rl_weak (C98  (by omega) (by omega) (by first | assumption | omega) (by first | (have t := f78; exact ⟨by omega, Or.inr (Or.inr ⟨by omega, by omega, by rw [← f78]; omega⟩)⟩) | exact ⟨by omega, Or.inl ⟨by omega, by omega⟩⟩ | exact ⟨by omega, Or.inr (Or.inl ⟨by omega, by omega⟩)⟩)) (And.intro rfl (And.intro rfl (And.intro rfl (True.intro))))
  · refine l_iconst rfl ?_
    refine l_ireturn rfl rfl ?_
    exact ⟨hH, hF, _, rfl, ⟨by omega, by omega⟩, (by first | assumption | exact (by assumption : TXM S)), (by first | assumption | exact (by assumption : WYM S)), (by first | (have t := l173; exact atx_i g173 l173 (by omega)) | exact ⟨fun g => absurd g (fun g => by obtain ⟨g1, g2⟩ := g; rcases g2 with g2 | g2 | g2 <;> first | omega | (rw [← f78] at g2; omega)), fun _ => ⟨rfl, rfl⟩⟩)⟩
end
