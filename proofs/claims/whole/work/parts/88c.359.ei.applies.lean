section
/-! TURNS of the reference: added numbers, whether a rule applies -/
def ADR (S S1 : sS) (i : Nat) (v : Int) : Prop := (Xi S1 930 i = 1 ∧ Xi S1 931 i = v) ∧ ∀ j : Nat, j ≠ i → Xi S1 930 j = Xi S 930 j ∧ Xi S1 931 j = Xi S 931 j
theorem clw_rg {c : Int} : -999999 ≤ clW c ∧ clW c ≤ 999999 := by unfold clW; refine ⟨?_, ?_⟩ <;> (split <;> (try split) <;> omega)
theorem adr_i {S T U W : sS} {o p z c b : Int} (X : XE S T) (e1 : U = uI T 930 (12 * o + p).toNat (Int32.ofInt 1)) (e2 : W = uI U 931 (12 * o + p).toNat (Int32.ofInt (clW c))) (hz : z = nuR S o p) (hc : c = adW z b) : ADR S W (12 * o + p).toNat (clW (adW (nuR S o p) b)) := by
  have r := clw_rg (c := c)
  refine ⟨⟨?_, ?_⟩, fun j hj => ⟨?_, ?_⟩⟩
  · rw [e2, Xi_ne (by omega), e1]; exact Xi_same (by unfold rg; omega)
  · rw [e2, Xi_same (by unfold rg; omega), hc, hz]
  · rw [e2, Xi_ne (by omega), e1, Xi_ne (by omega), X 930 j (by omega)]
  · rw [e2, Xi_ne (by omega), e1, Xi_ne (by omega), X 931 j (by omega)]
def apG (S : sS) (ri a o : Int) : Int := if Xi S 979 ri.toNat ≠ a ∨ (Xi S 980 ri.toNat ≠ -1 ∧ Xi S 980 ri.toNat ≠ o) ∨ (Xi S 981 ri.toNat ≠ -1 ∧ blR S (Xi S 918 o.toNat) (Xi S 981 ri.toNat) = 0) then 0 else alT (fun i => hoR S 8 o (Xi S 983 (6 * ri.toNat + i))) (Xi S 982 ri.toNat - 0).toNat 0
theorem apg_0 {S : sS} {ri a o : Int} (h : Xi S 979 ri.toNat ≠ a ∨ (Xi S 980 ri.toNat ≠ -1 ∧ Xi S 980 ri.toNat ≠ o) ∨ (Xi S 981 ri.toNat ≠ -1 ∧ blR S (Xi S 918 o.toNat) (Xi S 981 ri.toNat) = 0)) : apG S ri a o = 0 := by unfold apG; rw [if_pos h]
theorem apg_1 {S : sS} {ri a o : Int} (h1 : Xi S 979 ri.toNat = a) (h2 : Xi S 980 ri.toNat = -1 ∨ Xi S 980 ri.toNat = o) (h3 : Xi S 981 ri.toNat = -1 ∨ blR S (Xi S 918 o.toNat) (Xi S 981 ri.toNat) ≠ 0) : apG S ri a o = alT (fun i => hoR S 8 o (Xi S 983 (6 * ri.toNat + i))) (Xi S 982 ri.toNat - 0).toNat (0 : Int).toNat := by
  unfold apG; rw [if_neg (by omega)]; rfl
def apR (S : sS) (ri a o : Int) : Int := if Xi S 978 ri.toNat < 3 ∧ apG S ri a o = 0 then 0 else alT (fun i => teR (hoR S 8) S ((Xi S 984 ri.toNat).toNat + i) (-1) o) (Xi S 985 ri.toNat - 0).toNat 0
theorem apr_0 {S : sS} {ri a o : Int} (h : Xi S 978 ri.toNat < 3) (g : apG S ri a o = 0) : apR S ri a o = 0 := by unfold apR; rw [if_pos ⟨h, g⟩]
theorem apr_1 {S : sS} {ri a o : Int} (h : ¬ Xi S 978 ri.toNat < 3 ∨ apG S ri a o ≠ 0) : apR S ri a o = alT (fun i => teR (hoR S 8) S ((Xi S 984 ri.toNat).toNat + i) (-1) o) (Xi S 985 ri.toNat - 0).toNat (0 : Int).toNat := by
  unfold apR; rw [if_neg (fun q => h.elim (fun x => x q.1) (fun x => x q.2))]; rfl
def md_mo_adds__q : List rec := [(904, 905, 154, 155), (930, 931, 0, 100000), (931, 932, 0, 100000)]
abbrev Q_mo_adds__q (S : sS) (q : Int) (noun : Int) (by_ : Int) : pst := fun r S1 => HI S1 ∧ FR md_mo_adds__q S S1 ∧ (r = none ∧ (TXM S1) ∧ (ADR S S1 (12 * thR (-1) noun (Xi S 971 q.toNat) + Xi S 972 q.toNat).toNat (clW (adW (nuR S (thR (-1) noun (Xi S 971 q.toNat)) (Xi S 972 q.toNat)) by_))))
set_option maxRecDepth 100000 in
theorem t_mo_adds__q {S : sS} (hH : HI S) (q : Int) (noun : Int) (by_ : Int) (hq : 0 ≤ q ∧ q ≤ 2399) (hnoun : -1 ≤ noun ∧ noun ≤ 23) (hby_ : -2147483648 ≤ by_ ∧ by_ ≤ 2147483647) (hk : thK S False (0 ≤ noun) (Xi S 971 q.toNat)) (hp : 0 ≤ Xi S 972 q.toNat ∧ Xi S 972 q.toNat < Xi S 904 32 ∧ Xi S 928 (Xi S 972 q.toNat).toNat ≠ 1) (h2 : noun < Xi S 904 19) (hB : ABV S) (hX : TXM S) (d : Nat) : Mt lay0 (d + 2) m_mo_adds [.ref 904, iv q, iv noun, iv by_] S (Q_mo_adds__q S q noun by_) := by
  refine Mt_R rfl rfl ?_
  have hF : FR md_mo_adds__q S S := FR.rf
  have w1 : 0 ≤ Xi S 904 19 ∧ Xi S 904 19 ≤ 24 := hH.c _ _
  have w2 : 0 ≤ Xi S 904 32 ∧ Xi S 904 32 ≤ 12 := hH.c _ _
  have hc3 : 0 ≤ Xi S 904 23 ∧ Xi S 904 23 ≤ 24 := hH.c _ _
  have hc19 : 0 ≤ Xi S 904 19 ∧ Xi S 904 19 ≤ 24 := hH.c _ _
  have hc32 : 0 ≤ Xi S 904 32 ∧ Xi S 904 32 ≤ 12 := hH.c _ _
  refine l_aload_n rfl rfl ?_
  refine l_gfr rfl rfl rfl rfl rfl (hH.r 904 120 971 rfl) ?_
  refine l_iload_n rfl rfl ?_
  refine l_iaload (n := 2400) rfl rfl (by omega) (by omega) (by unfold rg; omega) ?_
  have w3 : -9 ≤ (Xi S 971 ((q).toNat)) ∧ (Xi S 971 ((q).toNat)) ≤ 23 := hH.c _ _
  refine l_iconst rfl ?_
  refine l_iload_n rfl rfl ?_
  refine l_callS rfl rfl (by decide) rfl (t_mo_thingIs hH (Xi S 971 ((q).toNat)) (-1) noun ⟨by omega, by omega⟩ ⟨by omega, by omega⟩ ⟨by omega, by omega⟩ _) ?_
  rintro _ _ ⟨rfl, z4, rfl, w4, p8⟩
  show Rl _ _ _ _ _ [iv z4] _ _
  have o8 : 0 ≤ z4 ∧ z4 < Xi S 904 19 := thk_i (it := -1) (noun := noun) hk (fun h => absurd h (fun f => f)) (fun h => h) (by omega) h2 (by assumption)
  have W8 : thR (-1) noun (Xi S 971 q.toNat) = z4 := thR_i p8
  refine l_istore rfl rfl rfl ?_
  refine l_aload_n rfl rfl ?_
  refine l_gfr rfl rfl rfl rfl rfl (hH.r 904 121 972 rfl) ?_
  refine l_iload_n rfl rfl ?_
  refine l_iaload (n := 2400) rfl rfl (by omega) (by omega) (by unfold rg; omega) ?_
  have w5 : -1 ≤ (Xi S 972 ((q).toNat)) ∧ (Xi S 972 ((q).toNat)) ≤ 11 := hH.c _ _
  refine l_istore rfl rfl rfl ?_
  refine l_aload_n rfl rfl ?_
  refine l_iload rfl rfl ?_
  refine l_iload rfl rfl ?_
  refine l_callV rfl rfl rfl (t_mo_numberOf__q hH z4 (Xi S 972 ((q).toNat)) ⟨by omega, by omega⟩ ⟨by omega, by omega⟩ (by first | assumption | exact (ABV_FR hF rfl (by assumption : ABV S))) (by first | assumption | exact (by assumption : TXM S)) (by first | assumption | omega) _) ?_
  rintro _ T1 ⟨hHT1, w10, z9, rfl, w9, w7, q26, w8⟩
  have hFT1 : FR md_mo_adds__q S T1 := FR.tr hF w10 rfl
  show Rl _ _ _ _ _ [iv z9] _ _
  have x26 : TXM T1 := TXM_FR (by assumption : FR md_mo_numberOf S T1) rfl hX
  have y26 : Xi T1 904 32 = Xi S 904 32 ∧ Xi T1 928 (Xi S 972 q.toNat).toNat = Xi S 928 (Xi S 972 q.toNat).toNat := ⟨hFT1.x 904 32 rfl, (hFT1.cx 928 rfl _).1⟩
  refine l_iload_n rfl rfl ?_
  refine l_iaddG rfl (fun c11 w11 w11d => ?_)
  refine l_istore rfl rfl rfl ?_
  refine l_aload_n rfl rfl ?_
  refine l_gfr rfl rfl rfl rfl rfl (hHT1.r 904 35 930 rfl) ?_
  refine l_bipush rfl rfl ?_
  refine l_iload rfl rfl ?_
  refine l_imul rfl ?_
  refine l_iload rfl rfl ?_
  refine l_iadd rfl ?_
  refine l_iconst rfl ?_
  refine l_bastoreZ1 (n := 288) rfl rfl (by omega) (by omega) (by unfold rg; omega) ⟨by omega, by omega⟩ ?_
  obtain ⟨U2, eU2⟩ : ∃ T : sS, T = uI T1 930 ((((12 * z4) + (Xi S 972 ((q).toNat)))).toNat) (Int32.ofInt 1) := ⟨_, rfl⟩
  rw [← eU2]
  have hHU2 : HI U2 := by rw [eU2]; exact HI_w hHT1 (show 0 ≤ 1 by omega) (show 1 ≤ 1 by omega)
  have hFU2 : FR md_mo_adds__q S U2 := by rw [eU2]; exact FR.wI hFT1 (mdf_i (r := (930, 931, 0, 100000)) (List.mem_of_getElem? (i := 1) rfl) (inR_i (by omega) (by omega) (by omega) (by omega)))
  have w12 : Xi U2 930 ((((12 * z4) + (Xi S 972 ((q).toNat)))).toNat) = 1 := by rw [eU2]; exact Xi_same (by unfold rg; omega)
  refine l_aload_n rfl rfl ?_
  refine l_gfr rfl rfl rfl rfl rfl (hHU2.r 904 36 931 rfl) ?_
  refine l_bipush rfl rfl ?_
  refine l_iload rfl rfl ?_
  refine l_imul rfl ?_
  refine l_iload rfl rfl ?_
  refine l_iadd rfl ?_
  refine l_ldcw (z := (-999999)) rfl rfl ?_
  refine l_ldcw (z := 999999) rfl rfl ?_
  refine l_iload rfl rfl ?_
  refine l_min rfl rfl rfl (by unfold rg; omega) (by unfold rg; omega) ?_
  refine l_max rfl rfl rfl (by unfold rg; omega) (by unfold rg; omega) ?_
  have m70 : -999999 ≤ (if (-999999) < (if c11 < 999999 then c11 else 999999) then (if c11 < 999999 then c11 else 999999) else (-999999)) ∧ (if (-999999) < (if c11 < 999999 then c11 else 999999) then (if c11 < 999999 then c11 else 999999) else (-999999)) ≤ 999999 := by refine ⟨?_, ?_⟩ <;> (split <;> (try split) <;> omega)
  refine l_iastore (n := 288) rfl rfl (by omega) (by omega) (by unfold rg; omega) ?_
  obtain ⟨U3, eU3⟩ : ∃ T : sS, T = uI U2 931 ((((12 * z4) + (Xi S 972 ((q).toNat)))).toNat) (Int32.ofInt (if (-999999) < (if c11 < 999999 then c11 else 999999) then (if c11 < 999999 then c11 else 999999) else (-999999))) := ⟨_, rfl⟩
  rw [← eU3]
  have hHU3 : HI U3 := by rw [eU3]; exact HI_any hHU2 (rfl)
  have hFU3 : FR md_mo_adds__q S U3 := by rw [eU3]; exact FR.wI hFU2 (mdf_i (r := (931, 932, 0, 100000)) (List.mem_of_getElem? (i := 2) rfl) (inR_i (by omega) (by omega) (by omega) (by omega)))
  have w13 : Xi U3 931 ((((12 * z4) + (Xi S 972 ((q).toNat)))).toNat) = (if (-999999) < (if c11 < 999999 then c11 else 999999) then (if c11 < 999999 then c11 else 999999) else (-999999)) := by rw [eU3]; exact Xi_same (by unfold rg; omega)
  have x73 : TXM U3 := txm_a (o := z4) (p := (Xi S 972 ((q).toNat))) eU2 eU3 rfl (by omega) (by omega) (by omega) (by omega) (by unfold rg; omega) (by omega) x26
  refine l_return rfl rfl ?_
  exact ⟨hHU3, hFU3, rfl, (x73), (by rw [W8]; exact adr_i (XE.f (by assumption : FR md_mo_numberOf__q S _) rfl) eU2 eU3 q26 (by assumption))⟩
def md_mo_applies__q : List rec := [(904, 905, 154, 155)]
abbrev Q_mo_applies__q (S : sS) (ri : Int) (action : Int) (noun : Int) : pst := fun r S1 => HI S1 ∧ FR md_mo_applies__q S S1 ∧ (∃ z : Int, r = some (iv z) ∧ (0 ≤ z ∧ z ≤ 1) ∧ (z = 1 → Xi S 978 ri.toNat < 3 → Xi S 979 ri.toNat = action) ∧ (z = apR S ri action noun))
set_option maxRecDepth 100000 in
theorem t_mo_applies__q {S : sS} (hH : HI S) (ri : Int) (action : Int) (noun : Int) (hri : 0 ≤ ri ∧ ri ≤ 23) (haction : -1 ≤ action ∧ action ≤ 11) (hnoun : -1 ≤ noun ∧ noun ≤ 23) (hr : ri < Xi S 904 130) (hR : RULM S) (hD : DEFM S) (hB : ABV S) (hX : TXM S) (hn : Xi S 978 ri.toNat < 3 → 0 ≤ action → 0 ≤ Xi S 942 action.toNat → 0 ≤ noun) (h2 : noun < Xi S 904 19) (d : Nat) : Mt lay0 (d + 27) m_mo_applies [.ref 904, iv ri, iv action, iv noun] S (Q_mo_applies__q S ri action noun) := by
  refine Mt_R rfl rfl ?_
  have hF : FR md_mo_applies__q S S := FR.rf
  have w1 : 0 ≤ Xi S 904 130 ∧ Xi S 904 130 ≤ 24 := hH.c _ _
  have w2 : 0 ≤ Xi S 904 19 ∧ Xi S 904 19 ≤ 24 := hH.c _ _
  have hc3 : 0 ≤ Xi S 904 23 ∧ Xi S 904 23 ≤ 24 := hH.c _ _
  have hc19 : 0 ≤ Xi S 904 19 ∧ Xi S 904 19 ≤ 24 := hH.c _ _
  have hc32 : 0 ≤ Xi S 904 32 ∧ Xi S 904 32 ≤ 12 := hH.c _ _
  have hr0 := hR ri.toNat (by omega)
  have hr1 := hr0.1
  have h984 : 0 ≤ Xi S 984 ri.toNat ∧ Xi S 984 ri.toNat ≤ 480 := hH.c 984 ri.toNat
  have h978 : 0 ≤ Xi S 978 ri.toNat ∧ Xi S 978 ri.toNat ≤ 3 := hH.c 978 ri.toNat
  have hnn : Xi S 978 ri.toNat < 3 → Xi S 979 ri.toNat = action → nM S ri.toNat → 0 ≤ noun := fun q e h => hn q (by rw [← e]; exact h.1) (by rw [← e]; exact h.2)
  have hkk : Xi S 978 ri.toNat < 3 → Xi S 979 ri.toNat = action → Xi S 981 ri.toNat ≠ -1 → 0 ≤ noun := fun q e h => hnn q e (hr0.2.1 h)
  have hn3 : Xi S 978 ri.toNat = 3 → nM S ri.toNat → 0 ≤ noun := fun e h => absurd h.1 (by have := hr1.2.2.2 e; omega)
  clear hr0
  have C140 : ∀  (T1 : sS) (_ : HI T1) (_ : FR md_mo_applies__q S T1), (Xi S 978 ri.toNat < 3 → Xi S 979 ri.toNat = action) → (apR S ri action noun = alT (fun i => teR (hoR S 8) S ((Xi S 984 ri.toNat).toNat + i) (-1) noun) (Xi S 985 ri.toNat - 0).toNat (0 : Int).toNat) → Rl lay0 (d + 26) m_mo_applies 140 [(0, .ref 904), (1, iv ri), (3, iv noun)] [] T1 (Q_mo_applies__q S ri action noun) := by
    intro T1 hHT1 hFT1 w3 g140
    have w4 : Xi T1 904 130 = Xi S 904 130 := hFT1.x _ _ rfl
    have w5 : Xi T1 904 19 = Xi S 904 19 := hFT1.x _ _ rfl
    have C143 : ∀ (n143 : Nat) (T2 : sS) (_ : HI T2) (_ : FR md_mo_applies__q S T2) (v4 : Int), (0 ≤ v4 ∧ v4 ≤ 6) → (Xi S 978 ri.toNat < 3 → Xi S 979 ri.toNat = action) → (apR S ri action noun = alT (fun i => teR (hoR S 8) S ((Xi S 984 ri.toNat).toNat + i) (-1) noun) (Xi S 985 ri.toNat - v4).toNat v4.toNat) → n143 = (7 - v4).toNat → Rl lay0 (d + 26) m_mo_applies 143 [(0, .ref 904), (1, iv ri), (3, iv noun), (4, iv v4)] [] T2 (Q_mo_applies__q S ri action noun) := by
      intro n143
      induction n143 using Nat.strongRecOn with
      | ind n143 ih143 =>
        intro T2 hHT2 hFT2 v4 w6 w7 g143 hm143
        have w8 : Xi T2 904 130 = Xi S 904 130 := hFT2.x _ _ rfl
        have w9 : Xi T2 904 19 = Xi S 904 19 := hFT2.x _ _ rfl
        refine l_iload rfl rfl ?_
        refine l_aload_n rfl rfl ?_
        refine l_gfr rfl rfl rfl rfl rfl (hHT2.r 904 138 985 rfl) ?_
        refine l_iload_n rfl rfl ?_
        refine l_iaload (n := 24) rfl rfl (by omega) (by omega) (by unfold rg; omega) ?_
        have w10 : 0 ≤ (Xi T2 985 ((ri).toNat)) ∧ (Xi T2 985 ((ri).toNat)) ≤ 6 := hHT2.c _ _
        have e150 : (Xi T2 985 ((ri).toNat)) = Xi S 985 ri.toNat := by first | rfl | exact (hFT2.cx 985 rfl _).1
        refine l_icmp_ge rfl rfl (by unfold rg; omega) (by unfold rg; omega) (fun w11 => ?_) (fun w12 => ?_)
        · refine l_iconst rfl ?_
          refine l_ireturn rfl rfl ?_
          exact ⟨hHT2, hFT2, _, rfl, ⟨by omega, by omega⟩, (by first | assumption | omega), (by first | (have t := Z173; rw [g143]; exact (alT_0 (by omega) (by show teR _ S _ (-1) noun = 0; rw [← Q167]; omega)).symm) | (have t := g143; rw [g143]; exact (alT_e (by omega)).symm) | exact (apr_0 (by omega) (g133.1 (by omega))).symm)⟩
        · refine l_aload_n rfl rfl ?_
          refine l_aload_n rfl rfl ?_
          refine l_gfr rfl rfl rfl rfl rfl (hHT2.r 904 137 984 rfl) ?_
          refine l_iload_n rfl rfl ?_
          refine l_iaload (n := 24) rfl rfl (by omega) (by omega) (by unfold rg; omega) ?_
          have w13 : 0 ≤ (Xi T2 984 ((ri).toNat)) ∧ (Xi T2 984 ((ri).toNat)) ≤ 480 := hHT2.c _ _
          have e160 : (Xi T2 984 ((ri).toNat)) = Xi S 984 ri.toNat := by first | rfl | exact (hFT2.cx 984 rfl _).1
          refine l_iload rfl rfl ?_
          refine l_iadd rfl ?_
          refine l_iconst rfl ?_
          refine l_iload_n rfl rfl ?_
          refine l_iconst rfl ?_
          have w14 : 0 ≤ Xi T2 904 19 ∧ Xi T2 904 19 ≤ 24 := hHT2.c _ _
          refine l_callV rfl rfl rfl (t_mo_tested__q hHT2 ((Xi T2 984 ((ri).toNat)) + v4) (-1) noun 0 ⟨by omega, by omega⟩ ⟨by omega, by omega⟩ ⟨by omega, by omega⟩ ⟨by omega, by omega⟩ (TQ_FR hFT2 rfl (rul_ts hR (r := ri) (i := v4) (by omega) hr (by omega) (by omega) (by omega) (by omega) (fun h => (Int.lt_or_le (Xi S 978 ri.toNat) 3).elim (fun q => hnn q (by omega) h) (fun q => hn3 (by omega) h)))) (by first | assumption | exact (ABV_FR hFT2 rfl (by assumption : ABV S))) (by first | assumption | exact (TXM_FR hFT2 rfl (by assumption : TXM S))) (by first | assumption | exact (DEFM_FR hFT2 rfl (by assumption : DEFM S))) (by first | assumption | omega) (by first | assumption | omega) _) ?_
          rintro _ T3 ⟨hHT3, w16, z15, rfl, w15, q167⟩
          have hFT3 : FR md_mo_applies__q S T3 := FR.tr hFT2 w16 rfl
          show Rl _ _ _ _ _ [iv z15] _ _
          have Q167 : z15 = teR (hoR S 8) S ((Xi S 984 ri.toNat).toNat + v4.toNat) (-1) noun := by rw [q167, show (8 - (0 : Int)).toNat = 8 by rfl, teR_x (XE.f hFT2 rfl) (hoR_x (XE.f hFT2 rfl) _), e160, show (Xi S 984 ri.toNat + v4).toNat = (Xi S 984 ri.toNat).toNat + v4.toNat by omega]
          refine l_if_ne rfl rfl (by unfold rg; omega) (fun w17 => ?_) (fun w18 => ?_)
          · refine l_iinc rfl rfl rfl rfl ?_
            refine l_goto rfl rfl ?_
            exact Rl_weak (ih143 _ (by omega) T3 hHT3 hFT3 ((v4 + 1)) (by omega) (by omega) (by first | (have t := Q167; exact g143.trans (alT_s (by omega) (by show teR _ S _ (-1) noun ≠ 0; rw [← Q167]; omega))) | exact g140) rfl) (And.intro rfl (And.intro rfl (And.intro rfl (And.intro rfl (True.intro)))))
          · refine l_iconst rfl ?_
            have Z173 : True := trivial
            refine l_ireturn rfl rfl ?_
            exact ⟨hHT3, hFT3, _, rfl, ⟨by omega, by omega⟩, (by first | assumption | omega), (by first | (have t := Z173; rw [g143]; exact (alT_0 (by omega) (by show teR _ S _ (-1) noun = 0; rw [← Q167]; omega)).symm) | (have t := g143; rw [g143]; exact (alT_e (by omega)).symm) | exact (apr_0 (by omega) (g133.1 (by omega))).symm)⟩
    refine l_iconst rfl ?_
    refine l_istore rfl rfl rfl ?_
    exact Rl_weak (C143 _ T1 hHT1 hFT1 (0) (by omega) (by omega) (by first | (have t := Q167; exact g143.trans (alT_s (by omega) (by show teR _ S _ (-1) noun ≠ 0; rw [← Q167]; omega))) | exact g140) rfl) (And.intro rfl (And.intro rfl (And.intro rfl (And.intro rfl (True.intro)))))
  have C91 : ∀ (n91 : Nat) (T4 : sS) (_ : HI T4) (_ : FR md_mo_applies__q S T4) (v4 : Int) (v5 : Int), (0 ≤ v4 ∧ v4 ≤ 1) → (0 ≤ v5 ∧ v5 ≤ 6) → (v4 = 1 → Xi S 979 ri.toNat = action) → (Xi S 978 ri.toNat < 3) → ((v4 = 0 → apG S ri action noun = 0) ∧ (v4 ≠ 0 → apG S ri action noun = alT (fun i => hoR S 8 noun (Xi S 983 (6 * ri.toNat + i))) (Xi S 982 ri.toNat - v5).toNat v5.toNat)) → n91 = (7 - v5).toNat → Rl lay0 (d + 26) m_mo_applies 91 [(0, .ref 904), (1, iv ri), (3, iv noun), (4, iv v4), (5, iv v5)] [] T4 (Q_mo_applies__q S ri action noun) := by
    intro n91
    induction n91 using Nat.strongRecOn with
    | ind n91 ih91 =>
      intro T4 hHT4 hFT4 v4 v5 w19 w20 w21 w22 g91 hm91
      have w23 : Xi T4 904 130 = Xi S 904 130 := hFT4.x _ _ rfl
      have w24 : Xi T4 904 19 = Xi S 904 19 := hFT4.x _ _ rfl
      have C133 : ∀  (T5 : sS) (_ : HI T5) (_ : FR md_mo_applies__q S T5) (v4 : Int), (0 ≤ v4 ∧ v4 ≤ 1) → (v4 = 1 → Xi S 979 ri.toNat = action) → (Xi S 978 ri.toNat < 3) → ((v4 = 0 → apG S ri action noun = 0) ∧ (v4 ≠ 0 → apG S ri action noun ≠ 0)) → Rl lay0 (d + 26) m_mo_applies 133 [(0, .ref 904), (1, iv ri), (3, iv noun), (4, iv v4)] [] T5 (Q_mo_applies__q S ri action noun) := by
        intro T5 hHT5 hFT5 v4 w25 w26 w27 g133
        have w28 : Xi T5 904 130 = Xi S 904 130 := hFT5.x _ _ rfl
        have w29 : Xi T5 904 19 = Xi S 904 19 := hFT5.x _ _ rfl
        refine l_iload rfl rfl ?_
        refine l_if_ne rfl rfl (by unfold rg; omega) (fun w30 => ?_) (fun w31 => ?_)
        · exact Rl_weak (C140 T5 hHT5 hFT5  (by omega) (by first | (have t := g133; exact apr_1 (Or.inr (g133.2 (by omega)))) | exact apr_1 (Or.inl (by omega)))) (And.intro rfl (And.intro rfl (And.intro rfl (True.intro))))
        · refine l_iconst rfl ?_
          refine l_ireturn rfl rfl ?_
          exact ⟨hHT5, hFT5, _, rfl, ⟨by omega, by omega⟩, (by first | assumption | omega), (by first | (have t := Z173; rw [g143]; exact (alT_0 (by omega) (by show teR _ S _ (-1) noun = 0; rw [← Q167]; omega)).symm) | (have t := g143; rw [g143]; exact (alT_e (by omega)).symm) | exact (apr_0 (by omega) (g133.1 (by omega))).symm)⟩
      refine l_iload rfl rfl ?_
      refine l_aload_n rfl rfl ?_
      refine l_gfr rfl rfl rfl rfl rfl (hHT4.r 904 135 982 rfl) ?_
      refine l_iload_n rfl rfl ?_
      refine l_iaload (n := 24) rfl rfl (by omega) (by omega) (by unfold rg; omega) ?_
      have w32 : 0 ≤ (Xi T4 982 ((ri).toNat)) ∧ (Xi T4 982 ((ri).toNat)) ≤ 6 := hHT4.c _ _
      have e98 : (Xi T4 982 ((ri).toNat)) = Xi S 982 ri.toNat := by first | rfl | exact (hFT4.cx 982 rfl _).1
      refine l_icmp_ge rfl rfl (by unfold rg; omega) (by unfold rg; omega) (fun w33 => ?_) (fun w34 => ?_)
      · exact Rl_weak (C133 T4 hHT4 hFT4 (v4) (by omega) (by omega) (by omega) (⟨g91.1, fun q => by rw [g91.2 q, alT_e (by omega)]; decide⟩)) (And.intro rfl (And.intro rfl (And.intro rfl (And.intro rfl (True.intro)))))
      · refine l_iload rfl rfl ?_
        refine l_if_eq rfl rfl (by unfold rg; omega) (fun w35 => ?_) (fun w36 => ?_)
        · exact Rl_weak (C133 T4 hHT4 hFT4 (v4) (by omega) (by omega) (by omega) (⟨g91.1, fun q => by rw [g91.2 q, alT_e (by omega)]; decide⟩)) (And.intro rfl (And.intro rfl (And.intro rfl (And.intro rfl (True.intro)))))
        · refine l_aload_n rfl rfl ?_
          refine l_iload_n rfl rfl ?_
          refine l_aload_n rfl rfl ?_
          refine l_gfr rfl rfl rfl rfl rfl (hHT4.r 904 136 983 rfl) ?_
          refine l_bipush rfl rfl ?_
          refine l_iload_n rfl rfl ?_
          refine l_imul rfl ?_
          refine l_iload rfl rfl ?_
          refine l_iadd rfl ?_
          refine l_iaload (n := 144) rfl rfl (by omega) (by omega) (by unfold rg; omega) ?_
          have w37 : -1 ≤ (Xi T4 983 ((((6 * ri) + v5)).toNat)) ∧ (Xi T4 983 ((((6 * ri) + v5)).toNat)) ≤ 6411 := hHT4.c _ _
          have j120 : nM S ri.toNat ∧ ADM S (Xi S 983 (6 * ri + v5).toNat) := rul_ad hR (by omega) hr (i := v5) (by omega) (by omega) rfl
          have k120 : 0 ≤ noun := hnn (by omega) (by omega) j120.1
          have e120 : (Xi T4 983 ((((6 * ri) + v5)).toNat)) = Xi S 983 (6 * ri + v5).toNat := by first | rfl | exact (hFT4.cx 983 rfl _).1
          have a120 : (0 ≤ Xi S 983 (6 * ri + v5).toNat ∧ Xi S 983 (6 * ri + v5).toNat < Xi S 904 23) ∨ (100 ≤ Xi S 983 (6 * ri + v5).toNat ∧ Xi S 983 (6 * ri + v5).toNat % 100 < Xi S 904 32 ∧ Xi S 983 (6 * ri + v5).toNat ≤ 6411) := j120.2
          refine l_iconst rfl ?_
          have w38 : 0 ≤ Xi T4 904 19 ∧ Xi T4 904 19 ≤ 24 := hHT4.c _ _
          refine l_callV rfl rfl rfl (t_mo_holds__q hHT4 noun (Xi T4 983 ((((6 * ri) + v5)).toNat)) 0 ⟨by omega, by omega⟩ ⟨by omega, by omega⟩ ⟨by omega, by omega⟩ (by rw [e120]; unfold ADM; rw [hFT4.x 904 23 rfl, hFT4.x 904 32 rfl]; exact a120) (by first | assumption | exact (ABV_FR hFT4 rfl (by assumption : ABV S))) (by first | assumption | exact (TXM_FR hFT4 rfl (by assumption : TXM S))) (by first | assumption | exact (DEFM_FR hFT4 rfl (by assumption : DEFM S))) (by first | assumption | omega) _) ?_
          rintro _ T6 ⟨hHT6, w40, z39, rfl, w39, q122⟩
          have hFT6 : FR md_mo_applies__q S T6 := FR.tr hFT4 w40 rfl
          show Rl _ _ _ _ _ [iv z39] _ _
          have Q122 : z39 = hoR S 8 noun (Xi S 983 (6 * ri.toNat + v5.toNat)) := by rw [q122, hoR_x (XE.f hFT4 rfl) _, e120, show (6 * ri + v5).toNat = 6 * ri.toNat + v5.toNat by omega, show (8 - (0 : Int)).toNat = 8 by rfl]
          refine l_istore rfl rfl rfl ?_
          refine l_iinc rfl rfl rfl rfl ?_
          refine l_goto rfl rfl ?_
          exact Rl_weak (ih91 _ (by omega) T6 hHT6 hFT6 (z39) ((v5 + 1)) (by omega) (by omega) (by omega) (by omega) (by first | (have t := Q122; exact ⟨fun q => (g91.2 (by omega)).trans (alT_0 (by omega) (by show hoR S 8 noun _ = 0; rw [← Q122]; exact q)), fun q => (g91.2 (by omega)).trans (alT_s (by omega) (by show hoR S 8 noun _ ≠ 0; rw [← Q122]; exact q))⟩) | exact ⟨fun q => absurd q (by omega), fun _ => apg_1 (by omega) (by omega) (by omega)⟩ | exact ⟨fun _ => apg_0 (by omega), fun q => absurd rfl q⟩) rfl) (And.intro rfl (And.intro rfl (And.intro rfl (And.intro rfl (And.intro rfl (True.intro))))))
  refine l_aload_n rfl rfl ?_
  refine l_gfr rfl rfl rfl rfl rfl (hH.r 904 131 978 rfl) ?_
  refine l_iload_n rfl rfl ?_
  refine l_iaload (n := 24) rfl rfl (by omega) (by omega) (by unfold rg; omega) ?_
  have w41 : 0 ≤ (Xi S 978 ((ri).toNat)) ∧ (Xi S 978 ((ri).toNat)) ≤ 3 := hH.c _ _
  refine l_iconst rfl ?_
  refine l_icmp_ge rfl rfl (by unfold rg; omega) (by unfold rg; omega) (fun w42 => ?_) (fun w43 => ?_)
  · exact Rl_weak (C140 S hH hF  (by omega) (by first | (have t := g133; exact apr_1 (Or.inr (g133.2 (by omega)))) | exact apr_1 (Or.inl (by omega)))) (And.intro rfl (And.intro rfl (And.intro rfl (True.intro))))
  · refine l_aload_n rfl rfl ?_
    refine l_gfr rfl rfl rfl rfl rfl (hH.r 904 132 979 rfl) ?_
    refine l_iload_n rfl rfl ?_
    refine l_iaload (n := 24) rfl rfl (by omega) (by omega) (by unfold rg; omega) ?_
    have w44 : -1 ≤ (Xi S 979 ((ri).toNat)) ∧ (Xi S 979 ((ri).toNat)) ≤ 11 := hH.c _ _
    refine l_iload_n rfl rfl ?_
    refine l_icmp_ne rfl rfl (by unfold rg; omega) (by unfold rg; omega) (fun w45 => ?_) (fun w46 => ?_)
    · refine l_iconst rfl ?_
      refine l_istore rfl rfl rfl ?_
      refine l_iload rfl rfl ?_
      refine l_if_eq rfl rfl (by unfold rg; omega) (fun w47 => ?_) (fun w48 => absurd w48 (by omega))
      · refine l_iconst rfl ?_
        refine l_istore rfl rfl rfl ?_
        refine l_iconst rfl ?_
        refine l_istore rfl rfl rfl ?_
        exact Rl_weak (C91 _ S hH hF (0) (0) (by omega) (by omega) (by omega) (by omega) (by first | (have t := Q122; exact ⟨fun q => (g91.2 (by omega)).trans (alT_0 (by omega) (by show hoR S 8 noun _ = 0; rw [← Q122]; exact q)), fun q => (g91.2 (by omega)).trans (alT_s (by omega) (by show hoR S 8 noun _ ≠ 0; rw [← Q122]; exact q))⟩) | exact ⟨fun q => absurd q (by omega), fun _ => apg_1 (by omega) (by omega) (by omega)⟩ | exact ⟨fun _ => apg_0 (by omega), fun q => absurd rfl q⟩) rfl) (And.intro rfl (And.intro rfl (And.intro rfl (And.intro rfl (And.intro rfl (True.intro))))))
    · refine l_aload_n rfl rfl ?_
      refine l_gfr rfl rfl rfl rfl rfl (hH.r 904 133 980 rfl) ?_
      refine l_iload_n rfl rfl ?_
      refine l_iaload (n := 24) rfl rfl (by omega) (by omega) (by unfold rg; omega) ?_
      have w49 : -1 ≤ (Xi S 980 ((ri).toNat)) ∧ (Xi S 980 ((ri).toNat)) ≤ 23 := hH.c _ _
      refine l_iconst rfl ?_
      refine l_icmp_eq rfl rfl (by unfold rg; omega) (by unfold rg; omega) (fun w50 => ?_) (fun w51 => ?_)
      · refine l_iconst rfl ?_
        refine l_goto rfl rfl ?_
        refine l_istore rfl rfl rfl ?_
        refine l_iload rfl rfl ?_
        refine l_if_eq rfl rfl (by unfold rg; omega) (fun w52 => absurd w52 (by omega)) (fun w53 => ?_)
        · refine l_aload_n rfl rfl ?_
          refine l_gfr rfl rfl rfl rfl rfl (hH.r 904 134 981 rfl) ?_
          refine l_iload_n rfl rfl ?_
          refine l_iaload (n := 24) rfl rfl (by omega) (by omega) (by unfold rg; omega) ?_
          have w54 : -1 ≤ (Xi S 981 ((ri).toNat)) ∧ (Xi S 981 ((ri).toNat)) ≤ 15 := hH.c _ _
          refine l_iconst rfl ?_
          refine l_icmp_eq rfl rfl (by unfold rg; omega) (by unfold rg; omega) (fun w55 => ?_) (fun w56 => ?_)
          · refine l_iconst rfl ?_
            refine l_goto rfl rfl ?_
            refine l_istore rfl rfl rfl ?_
            refine l_iconst rfl ?_
            refine l_istore rfl rfl rfl ?_
            exact Rl_weak (C91 _ S hH hF (1) (0) (by omega) (by omega) (by omega) (by omega) (by first | (have t := Q122; exact ⟨fun q => (g91.2 (by omega)).trans (alT_0 (by omega) (by show hoR S 8 noun _ = 0; rw [← Q122]; exact q)), fun q => (g91.2 (by omega)).trans (alT_s (by omega) (by show hoR S 8 noun _ ≠ 0; rw [← Q122]; exact q))⟩) | exact ⟨fun q => absurd q (by omega), fun _ => apg_1 (by omega) (by omega) (by omega)⟩ | exact ⟨fun _ => apg_0 (by omega), fun q => absurd rfl q⟩) rfl) (And.intro rfl (And.intro rfl (And.intro rfl (And.intro rfl (And.intro rfl (True.intro))))))
          · refine l_aload_n rfl rfl ?_
            refine l_aload_n rfl rfl ?_
            refine l_gfr rfl rfl rfl rfl rfl (hH.r 904 20 918 rfl) ?_
            refine l_iload_n rfl rfl ?_
            refine l_iaload (n := 24) rfl rfl (by omega) (by omega) (by unfold rg; omega) ?_
            have w57 : 0 ≤ (Xi S 918 ((noun).toNat)) ∧ (Xi S 918 ((noun).toNat)) ≤ 15 := hH.c _ _
            refine l_aload_n rfl rfl ?_
            refine l_gfr rfl rfl rfl rfl rfl (hH.r 904 134 981 rfl) ?_
            refine l_iload_n rfl rfl ?_
            refine l_iaload (n := 24) rfl rfl (by omega) (by omega) (by unfold rg; omega) ?_
            refine l_callV rfl rfl rfl (t_mo_isBelow__2 hH (Xi S 918 ((noun).toNat)) (Xi S 981 ((ri).toNat)) ⟨by omega, by omega⟩ ⟨by omega, by omega⟩ (by first | assumption | exact (ABV_FR hF rfl (by assumption : ABV S))) _) ?_
            rintro _ _ ⟨rfl, z59, rfl, w59, w58, f75⟩
            show Rl _ _ _ _ _ [iv z59] _ _
            have b75 : blR S (Xi S 918 noun.toNat) (Xi S 981 ri.toNat) = z59 := f75.symm
            refine l_if_eq rfl rfl (by unfold rg; omega) (fun w60 => ?_) (fun w61 => ?_)
            · refine l_iconst rfl ?_
              refine l_istore rfl rfl rfl ?_
              refine l_iconst rfl ?_
              refine l_istore rfl rfl rfl ?_
              exact Rl_weak (C91 _ S hH hF (0) (0) (by omega) (by omega) (by omega) (by omega) (by first | (have t := Q122; exact ⟨fun q => (g91.2 (by omega)).trans (alT_0 (by omega) (by show hoR S 8 noun _ = 0; rw [← Q122]; exact q)), fun q => (g91.2 (by omega)).trans (alT_s (by omega) (by show hoR S 8 noun _ ≠ 0; rw [← Q122]; exact q))⟩) | exact ⟨fun q => absurd q (by omega), fun _ => apg_1 (by omega) (by omega) (by omega)⟩ | exact ⟨fun _ => apg_0 (by omega), fun q => absurd rfl q⟩) rfl) (And.intro rfl (And.intro rfl (And.intro rfl (And.intro rfl (And.intro rfl (True.intro))))))
            · refine l_iconst rfl ?_
              refine l_goto rfl rfl ?_
              refine l_istore rfl rfl rfl ?_
              refine l_iconst rfl ?_
              refine l_istore rfl rfl rfl ?_
              exact Rl_weak (C91 _ S hH hF (1) (0) (by omega) (by omega) (by omega) (by omega) (by first | (have t := Q122; exact ⟨fun q => (g91.2 (by omega)).trans (alT_0 (by omega) (by show hoR S 8 noun _ = 0; rw [← Q122]; exact q)), fun q => (g91.2 (by omega)).trans (alT_s (by omega) (by show hoR S 8 noun _ ≠ 0; rw [← Q122]; exact q))⟩) | exact ⟨fun q => absurd q (by omega), fun _ => apg_1 (by omega) (by omega) (by omega)⟩ | exact ⟨fun _ => apg_0 (by omega), fun q => absurd rfl q⟩) rfl) (And.intro rfl (And.intro rfl (And.intro rfl (And.intro rfl (And.intro rfl (True.intro))))))
      · refine l_aload_n rfl rfl ?_
        refine l_gfr rfl rfl rfl rfl rfl (hH.r 904 133 980 rfl) ?_
        refine l_iload_n rfl rfl ?_
        refine l_iaload (n := 24) rfl rfl (by omega) (by omega) (by unfold rg; omega) ?_
        refine l_iload_n rfl rfl ?_
        refine l_icmp_ne rfl rfl (by unfold rg; omega) (by unfold rg; omega) (fun w62 => ?_) (fun w63 => ?_)
        · refine l_iconst rfl ?_
          refine l_istore rfl rfl rfl ?_
          refine l_iload rfl rfl ?_
          refine l_if_eq rfl rfl (by unfold rg; omega) (fun w64 => ?_) (fun w65 => absurd w65 (by omega))
          · refine l_iconst rfl ?_
            refine l_istore rfl rfl rfl ?_
            refine l_iconst rfl ?_
            refine l_istore rfl rfl rfl ?_
            exact Rl_weak (C91 _ S hH hF (0) (0) (by omega) (by omega) (by omega) (by omega) (by first | (have t := Q122; exact ⟨fun q => (g91.2 (by omega)).trans (alT_0 (by omega) (by show hoR S 8 noun _ = 0; rw [← Q122]; exact q)), fun q => (g91.2 (by omega)).trans (alT_s (by omega) (by show hoR S 8 noun _ ≠ 0; rw [← Q122]; exact q))⟩) | exact ⟨fun q => absurd q (by omega), fun _ => apg_1 (by omega) (by omega) (by omega)⟩ | exact ⟨fun _ => apg_0 (by omega), fun q => absurd rfl q⟩) rfl) (And.intro rfl (And.intro rfl (And.intro rfl (And.intro rfl (And.intro rfl (True.intro))))))
        · refine l_iconst rfl ?_
          refine l_goto rfl rfl ?_
          refine l_istore rfl rfl rfl ?_
          refine l_iload rfl rfl ?_
          refine l_if_eq rfl rfl (by unfold rg; omega) (fun w66 => absurd w66 (by omega)) (fun w67 => ?_)
          · refine l_aload_n rfl rfl ?_
            refine l_gfr rfl rfl rfl rfl rfl (hH.r 904 134 981 rfl) ?_
            refine l_iload_n rfl rfl ?_
            refine l_iaload (n := 24) rfl rfl (by omega) (by omega) (by unfold rg; omega) ?_
            have w68 : -1 ≤ (Xi S 981 ((ri).toNat)) ∧ (Xi S 981 ((ri).toNat)) ≤ 15 := hH.c _ _
            refine l_iconst rfl ?_
            refine l_icmp_eq rfl rfl (by unfold rg; omega) (by unfold rg; omega) (fun w69 => ?_) (fun w70 => ?_)
            · refine l_iconst rfl ?_
              refine l_goto rfl rfl ?_
              refine l_istore rfl rfl rfl ?_
              refine l_iconst rfl ?_
              refine l_istore rfl rfl rfl ?_
              exact Rl_weak (C91 _ S hH hF (1) (0) (by omega) (by omega) (by omega) (by omega) (by first | (have t := Q122; exact ⟨fun q => (g91.2 (by omega)).trans (alT_0 (by omega) (by show hoR S 8 noun _ = 0; rw [← Q122]; exact q)), fun q => (g91.2 (by omega)).trans (alT_s (by omega) (by show hoR S 8 noun _ ≠ 0; rw [← Q122]; exact q))⟩) | exact ⟨fun q => absurd q (by omega), fun _ => apg_1 (by omega) (by omega) (by omega)⟩ | exact ⟨fun _ => apg_0 (by omega), fun q => absurd rfl q⟩) rfl) (And.intro rfl (And.intro rfl (And.intro rfl (And.intro rfl (And.intro rfl (True.intro))))))
            · refine l_aload_n rfl rfl ?_
              refine l_aload_n rfl rfl ?_
              refine l_gfr rfl rfl rfl rfl rfl (hH.r 904 20 918 rfl) ?_
              refine l_iload_n rfl rfl ?_
              refine l_iaload (n := 24) rfl rfl (by omega) (by omega) (by unfold rg; omega) ?_
              have w71 : 0 ≤ (Xi S 918 ((noun).toNat)) ∧ (Xi S 918 ((noun).toNat)) ≤ 15 := hH.c _ _
              refine l_aload_n rfl rfl ?_
              refine l_gfr rfl rfl rfl rfl rfl (hH.r 904 134 981 rfl) ?_
              refine l_iload_n rfl rfl ?_
              refine l_iaload (n := 24) rfl rfl (by omega) (by omega) (by unfold rg; omega) ?_
              refine l_callV rfl rfl rfl (t_mo_isBelow__2 hH (Xi S 918 ((noun).toNat)) (Xi S 981 ((ri).toNat)) ⟨by omega, by omega⟩ ⟨by omega, by omega⟩ (by first | assumption | exact (ABV_FR hF rfl (by assumption : ABV S))) _) ?_
              rintro _ _ ⟨rfl, z73, rfl, w73, w72, f75⟩
              show Rl _ _ _ _ _ [iv z73] _ _
              have b75 : blR S (Xi S 918 noun.toNat) (Xi S 981 ri.toNat) = z73 := f75.symm
              refine l_if_eq rfl rfl (by unfold rg; omega) (fun w74 => ?_) (fun w75 => ?_)
              · refine l_iconst rfl ?_
                refine l_istore rfl rfl rfl ?_
                refine l_iconst rfl ?_
                refine l_istore rfl rfl rfl ?_
                exact Rl_weak (C91 _ S hH hF (0) (0) (by omega) (by omega) (by omega) (by omega) (by first | (have t := Q122; exact ⟨fun q => (g91.2 (by omega)).trans (alT_0 (by omega) (by show hoR S 8 noun _ = 0; rw [← Q122]; exact q)), fun q => (g91.2 (by omega)).trans (alT_s (by omega) (by show hoR S 8 noun _ ≠ 0; rw [← Q122]; exact q))⟩) | exact ⟨fun q => absurd q (by omega), fun _ => apg_1 (by omega) (by omega) (by omega)⟩ | exact ⟨fun _ => apg_0 (by omega), fun q => absurd rfl q⟩) rfl) (And.intro rfl (And.intro rfl (And.intro rfl (And.intro rfl (And.intro rfl (True.intro))))))
              · refine l_iconst rfl ?_
                refine l_goto rfl rfl ?_
                refine l_istore rfl rfl rfl ?_
                refine l_iconst rfl ?_
                refine l_istore rfl rfl rfl ?_
                exact Rl_weak (C91 _ S hH hF (1) (0) (by omega) (by omega) (by omega) (by omega) (by first | (have t := Q122; exact ⟨fun q => (g91.2 (by omega)).trans (alT_0 (by omega) (by show hoR S 8 noun _ = 0; rw [← Q122]; exact q)), fun q => (g91.2 (by omega)).trans (alT_s (by omega) (by show hoR S 8 noun _ ≠ 0; rw [← Q122]; exact q))⟩) | exact ⟨fun q => absurd q (by omega), fun _ => apg_1 (by omega) (by omega) (by omega)⟩ | exact ⟨fun _ => apg_0 (by omega), fun q => absurd rfl q⟩) rfl) (And.intro rfl (And.intro rfl (And.intro rfl (And.intro rfl (And.intro rfl (True.intro))))))
end
section
/-! TURNS of the reference: what now makes so -/
def RNI (S T : sS) (r o b k m f g : Int) : Prop := ∀ x y : Int, 0 ≤ x → x < 24 → 0 ≤ y → y < 24 → ((y = b ∧ x < k ∧ f ≠ 0 ∧ x ≠ o) ∨ (x = o ∧ y < m ∧ g ≠ 0 ∧ y ≠ b) → Xi T 940 (576 * r + 24 * x + y).toNat = 0) ∧ (¬ ((y = b ∧ x < k ∧ f ≠ 0 ∧ x ≠ o) ∨ (x = o ∧ y < m ∧ g ≠ 0 ∧ y ≠ b)) → Xi T 940 (576 * r + 24 * x + y).toNat = Xi S 940 (576 * r + 24 * x + y).toNat)
def RNO (S T : sS) (r : Int) : Prop := (∀ j : Nat, (j : Int) < 576 * r ∨ 576 * r + 576 ≤ (j : Int) → Xi T 940 j = Xi S 940 j) ∧ FR [(940, 941, 0, 100000)] S T
theorem rni_0 {S : sS} {r o b f g : Int} : RNI S S r o b 0 0 f g := fun x y h1 h2 h3 h4 => ⟨fun q => by omega, fun _ => rfl⟩
theorem rno_0 {S : sS} {r : Int} : RNO S S r := ⟨fun _ _ => rfl, FR.rf⟩
theorem rno_w {S T U : sS} {r i v : Int} (h : RNO S T r) (e : U = uI T 940 i.toNat (Int32.ofInt v)) (hr : 0 ≤ r ∧ r ≤ 5) (hi : 576 * r ≤ i ∧ i < 576 * r + 576) : RNO S U r := ⟨fun j hj => by
  rw [e, Xi_ne (by omega)]; exact h.1 j hj, by rw [e]; exact FR.wI h.2 (by unfold mdf inR; simp; omega)⟩
theorem rni_a {S T U : sS} {r o b k m f g v : Int} (h : RNI S T r o b k m f g) (hr : 0 ≤ r) (hk : 0 ≤ k ∧ k < 24) (hb : 0 ≤ b ∧ b < 24) (h01 : ∀ j : Nat, 0 ≤ Xi T 940 j ∧ Xi T 940 j ≤ 1)
    (e1 : U = uI T 940 (576 * r + 24 * k + b).toNat (Int32.ofInt v)) (hv : (v = 1 ∧ Xi T 940 (576 * r + 24 * k + b).toNat ≠ 0 ∧ (f = 0 ∨ k = o)) ∨ (v = 0 ∧ (Xi T 940 (576 * r + 24 * k + b).toNat = 0 ∨ (f ≠ 0 ∧ k ≠ o)))) : RNI S U r o b (k + 1) m f g := by
  intro x y h1 h2 h3 h4
  obtain ⟨a1, a2⟩ := h x y h1 h2 h3 h4
  clear h
  by_cases q1 : x = k ∧ y = b
  · obtain ⟨rfl, rfl⟩ := q1
    have d : Xi U 940 (576 * r + 24 * x + y).toNat = v := by clear a1 a2; rw [e1]; exact Xi_same (by unfold rg; omega)
    rw [d]
    have z := h01 (576 * r + 24 * x + y).toNat
    clear h01 e1 d a1
    by_cases c : f ≠ 0 ∧ x ≠ o
    · clear a2; exact ⟨fun _ => by omega, fun q => absurd (Or.inl ⟨rfl, by omega, c.1, c.2⟩) q⟩
    · have d3 := a2 (by clear a2 hv; omega)
      clear a2
      exact ⟨fun q => by exfalso; clear hv d3; omega, fun _ => by omega⟩
  · have d : Xi U 940 (576 * r + 24 * x + y).toNat = Xi T 940 (576 * r + 24 * x + y).toNat := by clear a1 a2 hv; rw [e1, Xi_ne (by omega)]
    rw [d]
    exact ⟨fun q => a1 (by clear a1 a2 hv h01 e1 d; omega), fun q => a2 (by clear a1 a2 hv h01 e1 d; omega)⟩
theorem rni_b {S T U : sS} {r o b k m f g v : Int} (h : RNI S T r o b k m f g) (hr : 0 ≤ r) (hk : 0 ≤ m ∧ m < 24) (ho : 0 ≤ o ∧ o < 24) (h01 : ∀ j : Nat, 0 ≤ Xi T 940 j ∧ Xi T 940 j ≤ 1)
    (e1 : U = uI T 940 (576 * r + 24 * o + m).toNat (Int32.ofInt v)) (hv : (v = 1 ∧ Xi T 940 (576 * r + 24 * o + m).toNat ≠ 0 ∧ (g = 0 ∨ m = b)) ∨ (v = 0 ∧ (Xi T 940 (576 * r + 24 * o + m).toNat = 0 ∨ (g ≠ 0 ∧ m ≠ b)))) : RNI S U r o b k (m + 1) f g := by
  intro x y h1 h2 h3 h4
  obtain ⟨a1, a2⟩ := h x y h1 h2 h3 h4
  clear h
  by_cases q1 : x = o ∧ y = m
  · obtain ⟨rfl, rfl⟩ := q1
    have d : Xi U 940 (576 * r + 24 * x + y).toNat = v := by clear a1 a2; rw [e1]; exact Xi_same (by unfold rg; omega)
    rw [d]
    have z := h01 (576 * r + 24 * x + y).toNat
    clear h01 e1 d a1
    by_cases c : g ≠ 0 ∧ y ≠ b
    · clear a2; exact ⟨fun _ => by omega, fun q => absurd (Or.inr ⟨rfl, by omega, c.1, c.2⟩) q⟩
    · have d3 := a2 (by clear a2 hv; omega)
      clear a2
      exact ⟨fun q => by exfalso; clear hv d3; omega, fun _ => by omega⟩
  · have d : Xi U 940 (576 * r + 24 * x + y).toNat = Xi T 940 (576 * r + 24 * x + y).toNat := by clear a1 a2 hv; rw [e1, Xi_ne (by omega)]
    rw [d]
    exact ⟨fun q => a1 (by clear a1 a2 hv h01 e1 d; omega), fun q => a2 (by clear a1 a2 hv h01 e1 d; omega)⟩
def RNZ (S W : sS) (r o b n f g : Int) : Prop := ∃ T : sS, RNI S T r o b n n f g ∧ RNO S T r ∧ W = uI T 940 (576 * r + 24 * o + b).toNat (Int32.ofInt 1)
def saR (S : sS) (o a nt : Int) : sS := uI (uI S 925 (24 * o + a).toNat (Int32.ofInt (if nt = 0 then 1 else 2))) 925 (24 * o + Xi S 922 a.toNat).toNat (Int32.ofInt (if nt = 0 then 2 else 1))
theorem sar_i {S U W : sS} {o a nt c v w : Int} (e1 : U = uI S 925 (24 * o + a).toNat (Int32.ofInt v)) (e2 : W = uI U 925 (24 * o + c).toNat (Int32.ofInt w)) (hc : c = Xi S 922 a.toNat) (h : (nt = 0 ∧ v = 1 ∧ w = 2) ∨ (nt ≠ 0 ∧ v = 2 ∧ w = 1)) : W = saR S o a nt := by
  unfold saR; rw [e2, e1, hc]
  rcases h with ⟨x, y, z⟩ | ⟨x, y, z⟩
  · rw [if_pos x, if_pos x, y, z]
  · rw [if_neg x, if_neg x, y, z]
def spR (S : sS) (o p v n : Int) : sS := uI (uI (uI S 930 (12 * o + p).toNat (Int32.ofInt 1)) 931 (12 * o + p).toNat (Int32.ofInt v)) 932 (12 * o + p).toNat (Int32.ofInt n)
theorem spr_i {S T U W : sS} {o p v n p2 v2 n2 : Int} (e1 : T = uI S 930 (12 * o + p).toNat (Int32.ofInt 1)) (e2 : U = uI T 931 (12 * o + p).toNat (Int32.ofInt v)) (e3 : W = uI U 932 (12 * o + p).toNat (Int32.ofInt n)) (hp : p = p2) (hv : v = v2) (hn : n = n2) : W = spR S o p2 v2 n2 := by unfold spR; rw [e3, e2, e1, hv, hn, hp]
/-- what now makes so: relation; adjective; value as an adjective; property -/
def NOW (S W : sS) (q : Nat) (noun : Int) : Prop := (Xi S 969 q = 5 ∧ RNZ S W (Xi S 972 q) (thR (-1) noun (Xi S 971 q)) (thR (-1) noun (Xi S 975 q)) (Xi S 904 19) (Xi S 938 (Xi S 972 q).toNat) (Xi S 939 (Xi S 972 q).toNat)) ∨
  (Xi S 969 q = 3 ∧ Xi S 973 q < 100 ∧ W = saR S (thR (-1) noun (Xi S 971 q)) (Xi S 973 q) (Xi S 970 q)) ∨
  (Xi S 969 q = 3 ∧ 100 ≤ Xi S 973 q ∧ W = spR S (thR (-1) noun (Xi S 971 q)) (Xi S 973 q % 100) (Xi S 973 q / 100 - 1) 0) ∨
  (Xi S 969 q ≠ 5 ∧ Xi S 969 q ≠ 3 ∧ W = spR S (thR (-1) noun (Xi S 971 q)) (Xi S 972 q) (Xi S 973 q) (Xi S 974 q))

def md_mo_nows__q : List rec := [(925, 926, 0, 100000), (930, 931, 0, 100000), (931, 932, 0, 100000), (932, 933, 0, 100000), (940, 941, 0, 100000)]
abbrev Q_mo_nows__q (S : sS) (q : Int) (noun : Int) : pst := fun r S1 => HI S1 ∧ FR md_mo_nows__q S S1 ∧ (r = none ∧ (TXM S1) ∧ (NOW S S1 q.toNat noun))
set_option maxRecDepth 100000 in
theorem t_mo_nows__q {S : sS} (hH : HI S) (q : Int) (noun : Int) (hq : 0 ≤ q ∧ q ≤ 2399) (hnoun : -1 ≤ noun ∧ noun ≤ 23) (hk : NQ S (0 ≤ noun) q.toNat) (h2 : noun < Xi S 904 19) (hX : TXM S) (d : Nat) : Mt lay0 (d + 2) m_mo_nows [.ref 904, iv q, iv noun] S (Q_mo_nows__q S q noun) := by
  refine Mt_R rfl rfl ?_
  have hF : FR md_mo_nows__q S S := FR.rf
  have w1 : 0 ≤ Xi S 904 19 ∧ Xi S 904 19 ≤ 24 := hH.c _ _
  have hc3 : 0 ≤ Xi S 904 23 ∧ Xi S 904 23 ≤ 24 := hH.c _ _
  have hc19 : 0 ≤ Xi S 904 19 ∧ Xi S 904 19 ≤ 24 := hH.c _ _
  have hc32 : 0 ≤ Xi S 904 32 ∧ Xi S 904 32 ≤ 12 := hH.c _ _
  have hk1 := hk.1
  have hk2 := hk.2.1
  have hpr : Xi S 969 q.toNat ≤ 2 → 0 ≤ Xi S 972 q.toNat ∧ Xi S 972 q.toNat < Xi S 904 32 := hk1.2.2.2.1
  have had : Xi S 969 q.toNat = 3 → (0 ≤ Xi S 973 q.toNat ∧ Xi S 973 q.toNat < Xi S 904 23) ∨ (100 ≤ Xi S 973 q.toNat ∧ Xi S 973 q.toNat % 100 < Xi S 904 32 ∧ Xi S 973 q.toNat ≤ 6411) := hk1.2.2.1
  have hct : Xi S 969 q.toNat = 3 → Xi S 973 q.toNat < 100 → Xi S 922 (Xi S 973 q.toNat).toNat ≠ -1 := hk.2.2
  have C46 : ∀ (n46 : Nat) (T1 : sS) (_ : HI T1) (_ : FR md_mo_nows__q S T1) (v3 : Int) (v4 : Int) (v5 : Int) (v6 : Int), (0 ≤ v3 ∧ v3 ≤ 23) → (0 ≤ v4 ∧ v4 ≤ 5) → (0 ≤ v5 ∧ v5 ≤ 23) → (0 ≤ v6 ∧ v6 ≤ 24) → (TXM T1) → (RNI S T1 v4 v3 v5 v6 v6 (Xi S 938 v4.toNat) (Xi S 939 v4.toNat)) → (RNO S T1 v4) → (Xi S 969 q.toNat = 5) → (v6 ≤ Xi S 904 19) → (thR (-1) noun (Xi S 971 q.toNat) = v3) → (thR (-1) noun (Xi S 975 q.toNat) = v5) → (v4 = Xi S 972 q.toNat) → n46 = (25 - v6).toNat → Rl lay0 (d + 1) m_mo_nows 46 [(0, .ref 904), (3, iv v3), (4, iv v4), (5, iv v5), (6, iv v6)] [] T1 (Q_mo_nows__q S q noun) := by
    intro n46
    induction n46 using Nat.strongRecOn with
    | ind n46 ih46 =>
      intro T1 hHT1 hFT1 v3 v4 v5 v6 w2 w3 w4 w5 hX46 rn46 o46 w6 w7 tw46 u46 r46 hm46
      have w8 : Xi T1 904 19 = Xi S 904 19 := hFT1.x _ _ rfl
      refine l_iload rfl rfl ?_
      refine l_aload_n rfl rfl ?_
      refine l_gfi rfl rfl rfl rfl rfl ?_
      refine l_icmp_ge rfl rfl (by unfold rg; omega) (by unfold rg; omega) (fun w9 => ?_) (fun w10 => ?_)
      · refine l_aload_n rfl rfl ?_
        refine l_gfr rfl rfl rfl rfl rfl (hHT1.r 904 46 940 rfl) ?_
        refine l_sipush rfl rfl ?_
        refine l_iload rfl rfl ?_
        refine l_imul rfl ?_
        refine l_bipush rfl rfl ?_
        refine l_iload_n rfl rfl ?_
        refine l_imul rfl ?_
        refine l_iadd rfl ?_
        refine l_iload rfl rfl ?_
        refine l_iadd rfl ?_
        refine l_iconst rfl ?_
        refine l_bastoreZ1 (n := 3456) rfl rfl (by omega) (by omega) (by unfold rg; omega) ⟨by omega, by omega⟩ ?_
        obtain ⟨U2, eU2⟩ : ∃ T : sS, T = uI T1 940 (((((576 * v4) + (24 * v3)) + v5)).toNat) (Int32.ofInt 1) := ⟨_, rfl⟩
        rw [← eU2]
        have hHU2 : HI U2 := by rw [eU2]; exact HI_w hHT1 (show 0 ≤ 1 by omega) (show 1 ≤ 1 by omega)
        have hFU2 : FR md_mo_nows__q S U2 := by rw [eU2]; exact FR.wI hFT1 (mdf_i (r := (940, 941, 0, 100000)) (List.mem_of_getElem? (i := 4) rfl) (inR_i (by omega) (by omega) (by omega) (by omega)))
        have w11 : Xi U2 940 (((((576 * v4) + (24 * v3)) + v5)).toNat) = 1 := by rw [eU2]; exact Xi_same (by unfold rg; omega)
        have K207 : True := trivial
        have N207 : NOW S U2 q.toNat noun := Or.inl ⟨by omega, by rw [tw46, u46, ← r46, show Xi S 904 19 = v6 by omega]; exact ⟨_, rn46, o46, eU2⟩⟩
        refine l_goto rfl rfl ?_
        refine l_return rfl rfl ?_
        exact ⟨hHU2, hFU2, rfl, (by first | exact x416 | assumption | exact TXM_FR (FR_e eU2) rfl (by first | assumption | exact TXM_FR (FR_e ) rfl hX)), (by first | (have t := K207; exact N207) | (have t := K296; exact N296) | (have t := K416; exact N416))⟩
      · refine l_aload_n rfl rfl ?_
        refine l_gfr rfl rfl rfl rfl rfl (hHT1.r 904 46 940 rfl) ?_
        refine l_sipush rfl rfl ?_
        refine l_iload rfl rfl ?_
        refine l_imul rfl ?_
        refine l_bipush rfl rfl ?_
        refine l_iload rfl rfl ?_
        refine l_imul rfl ?_
        refine l_iadd rfl ?_
        refine l_iload rfl rfl ?_
        refine l_iadd rfl ?_
        refine l_aload_n rfl rfl ?_
        refine l_gfr rfl rfl rfl rfl rfl (hHT1.r 904 46 940 rfl) ?_
        refine l_sipush rfl rfl ?_
        refine l_iload rfl rfl ?_
        refine l_imul rfl ?_
        refine l_bipush rfl rfl ?_
        refine l_iload rfl rfl ?_
        refine l_imul rfl ?_
        refine l_iadd rfl ?_
        refine l_iload rfl rfl ?_
        refine l_iadd rfl ?_
        refine l_baload (n := 3456) rfl rfl rfl (by decide) (by omega) (by omega) (by unfold rg; omega) ?_
        have w12 : 0 ≤ (Xi T1 940 (((((576 * v4) + (24 * v6)) + v5)).toNat)) ∧ (Xi T1 940 (((((576 * v4) + (24 * v6)) + v5)).toNat)) ≤ 1 := hHT1.c _ _
        refine l_if_eq rfl rfl (by unfold rg; omega) (fun w13 => ?_) (fun w14 => ?_)
        · refine l_iconst rfl ?_
          refine l_bastoreZ1 (n := 3456) rfl rfl (by omega) (by omega) (by unfold rg; omega) ⟨by omega, by omega⟩ ?_
          obtain ⟨U3, eU3⟩ : ∃ T : sS, T = uI T1 940 (((((576 * v4) + (24 * v6)) + v5)).toNat) (Int32.ofInt 0) := ⟨_, rfl⟩
          rw [← eU3]
          have hHU3 : HI U3 := by rw [eU3]; exact HI_w hHT1 (show 0 ≤ 0 by omega) (show 0 ≤ 1 by omega)
          have hFU3 : FR md_mo_nows__q S U3 := by rw [eU3]; exact FR.wI hFT1 (mdf_i (r := (940, 941, 0, 100000)) (List.mem_of_getElem? (i := 4) rfl) (inR_i (by omega) (by omega) (by omega) (by omega)))
          have w15 : Xi U3 940 (((((576 * v4) + (24 * v6)) + v5)).toNat) = 0 := by rw [eU3]; exact Xi_same (by unfold rg; omega)
          have A118 : RNI S U3 v4 v3 v5 (v6 + 1) v6 (Xi S 938 v4.toNat) (Xi S 939 v4.toNat) := rni_a rn46 (by omega) (by omega) (by omega) (fun j => hHT1.c 940 j) eU3 (by omega)
          have O118 : RNO S U3 v4 := rno_w o46 eU3 (by omega) (by omega)
          refine l_aload_n rfl rfl ?_
          refine l_gfr rfl rfl rfl rfl rfl (hHU3.r 904 46 940 rfl) ?_
          refine l_sipush rfl rfl ?_
          refine l_iload rfl rfl ?_
          refine l_imul rfl ?_
          refine l_bipush rfl rfl ?_
          refine l_iload_n rfl rfl ?_
          refine l_imul rfl ?_
          refine l_iadd rfl ?_
          refine l_iload rfl rfl ?_
          refine l_iadd rfl ?_
          refine l_aload_n rfl rfl ?_
          refine l_gfr rfl rfl rfl rfl rfl (hHU3.r 904 46 940 rfl) ?_
          refine l_sipush rfl rfl ?_
          refine l_iload rfl rfl ?_
          refine l_imul rfl ?_
          refine l_bipush rfl rfl ?_
          refine l_iload_n rfl rfl ?_
          refine l_imul rfl ?_
          refine l_iadd rfl ?_
          refine l_iload rfl rfl ?_
          refine l_iadd rfl ?_
          refine l_baload (n := 3456) rfl rfl rfl (by decide) (by omega) (by omega) (by unfold rg; omega) ?_
          have w16 : 0 ≤ (Xi U3 940 (((((576 * v4) + (24 * v3)) + v6)).toNat)) ∧ (Xi U3 940 (((((576 * v4) + (24 * v3)) + v6)).toNat)) ≤ 1 := hHU3.c _ _
          refine l_if_eq rfl rfl (by unfold rg; omega) (fun w17 => ?_) (fun w18 => ?_)
          · refine l_iconst rfl ?_
            refine l_bastoreZ1 (n := 3456) rfl rfl (by omega) (by omega) (by unfold rg; omega) ⟨by omega, by omega⟩ ?_
            obtain ⟨U4, eU4⟩ : ∃ T : sS, T = uI U3 940 (((((576 * v4) + (24 * v3)) + v6)).toNat) (Int32.ofInt 0) := ⟨_, rfl⟩
            rw [← eU4]
            have hHU4 : HI U4 := by rw [eU4]; exact HI_w hHU3 (show 0 ≤ 0 by omega) (show 0 ≤ 1 by omega)
            have hFU4 : FR md_mo_nows__q S U4 := by rw [eU4]; exact FR.wI hFU3 (mdf_i (r := (940, 941, 0, 100000)) (List.mem_of_getElem? (i := 4) rfl) (inR_i (by omega) (by omega) (by omega) (by omega)))
            have w19 : Xi U4 940 (((((576 * v4) + (24 * v3)) + v6)).toNat) = 0 := by rw [eU4]; exact Xi_same (by unfold rg; omega)
            have A181 : RNI S U4 v4 v3 v5 (v6 + 1) (v6 + 1) (Xi S 938 v4.toNat) (Xi S 939 v4.toNat) := rni_b A118 (by omega) (by omega) (by omega) (fun j => hHU3.c 940 j) eU4 (by omega)
            have O181 : RNO S U4 v4 := rno_w O118 eU4 (by omega) (by omega)
            refine l_iinc rfl rfl rfl rfl ?_
            refine l_goto rfl rfl ?_
            exact Rl_weak (ih46 _ (by omega) U4 hHU4 hFU4 (v3) (v4) (v5) ((v6 + 1)) (by omega) (by omega) (by omega) (by omega) (by first | assumption | exact (TXM_FR (FR_e eU4) rfl (TXM_FR (FR_e eU3) rfl (by assumption : TXM T1)))) (by first | exact A181 | exact rni_0) (by first | exact O181 | exact rno_0) (by omega) (by omega) (by first | exact tw46 | exact W8) (by first | exact u46 | exact W38) (by first | exact r46 | rfl) rfl) (And.intro rfl (And.intro rfl (And.intro rfl (And.intro rfl (And.intro rfl (True.intro))))))
          · refine l_aload_n rfl rfl ?_
            refine l_gfr rfl rfl rfl rfl rfl (hHU3.r 904 45 939 rfl) ?_
            refine l_iload rfl rfl ?_
            refine l_baload (n := 6) rfl rfl rfl (by decide) (by omega) (by omega) (by unfold rg; omega) ?_
            have w20 : 0 ≤ (Xi U3 939 ((v4).toNat)) ∧ (Xi U3 939 ((v4).toNat)) ≤ 1 := hHU3.c _ _
            have f165 : (Xi U3 939 ((v4).toNat)) = Xi S 939 v4.toNat := (hFU3.cx 939 rfl _).1
            refine l_if_eq rfl rfl (by unfold rg; omega) (fun w21 => ?_) (fun w22 => ?_)
            · refine l_iconst rfl ?_
              refine l_goto rfl rfl ?_
              refine l_bastoreZ1 (n := 3456) rfl rfl (by omega) (by omega) (by unfold rg; omega) ⟨by omega, by omega⟩ ?_
              obtain ⟨U5, eU5⟩ : ∃ T : sS, T = uI U3 940 (((((576 * v4) + (24 * v3)) + v6)).toNat) (Int32.ofInt 1) := ⟨_, rfl⟩
              rw [← eU5]
              have hHU5 : HI U5 := by rw [eU5]; exact HI_w hHU3 (show 0 ≤ 1 by omega) (show 1 ≤ 1 by omega)
              have hFU5 : FR md_mo_nows__q S U5 := by rw [eU5]; exact FR.wI hFU3 (mdf_i (r := (940, 941, 0, 100000)) (List.mem_of_getElem? (i := 4) rfl) (inR_i (by omega) (by omega) (by omega) (by omega)))
              have w23 : Xi U5 940 (((((576 * v4) + (24 * v3)) + v6)).toNat) = 1 := by rw [eU5]; exact Xi_same (by unfold rg; omega)
              have A181 : RNI S U5 v4 v3 v5 (v6 + 1) (v6 + 1) (Xi S 938 v4.toNat) (Xi S 939 v4.toNat) := rni_b A118 (by omega) (by omega) (by omega) (fun j => hHU3.c 940 j) eU5 (by omega)
              have O181 : RNO S U5 v4 := rno_w O118 eU5 (by omega) (by omega)
              refine l_iinc rfl rfl rfl rfl ?_
              refine l_goto rfl rfl ?_
              exact Rl_weak (ih46 _ (by omega) U5 hHU5 hFU5 (v3) (v4) (v5) ((v6 + 1)) (by omega) (by omega) (by omega) (by omega) (by first | assumption | exact (TXM_FR (FR_e eU5) rfl (TXM_FR (FR_e eU3) rfl (by assumption : TXM T1)))) (by first | exact A181 | exact rni_0) (by first | exact O181 | exact rno_0) (by omega) (by omega) (by first | exact tw46 | exact W8) (by first | exact u46 | exact W38) (by first | exact r46 | rfl) rfl) (And.intro rfl (And.intro rfl (And.intro rfl (And.intro rfl (And.intro rfl (True.intro))))))
            · refine l_iload rfl rfl ?_
              refine l_iload rfl rfl ?_
              refine l_icmp_ne rfl rfl (by unfold rg; omega) (by unfold rg; omega) (fun w24 => ?_) (fun w25 => ?_)
              · refine l_iconst rfl ?_
                refine l_bastoreZ1 (n := 3456) rfl rfl (by omega) (by omega) (by unfold rg; omega) ⟨by omega, by omega⟩ ?_
                obtain ⟨U6, eU6⟩ : ∃ T : sS, T = uI U3 940 (((((576 * v4) + (24 * v3)) + v6)).toNat) (Int32.ofInt 0) := ⟨_, rfl⟩
                rw [← eU6]
                have hHU6 : HI U6 := by rw [eU6]; exact HI_w hHU3 (show 0 ≤ 0 by omega) (show 0 ≤ 1 by omega)
                have hFU6 : FR md_mo_nows__q S U6 := by rw [eU6]; exact FR.wI hFU3 (mdf_i (r := (940, 941, 0, 100000)) (List.mem_of_getElem? (i := 4) rfl) (inR_i (by omega) (by omega) (by omega) (by omega)))
                have w26 : Xi U6 940 (((((576 * v4) + (24 * v3)) + v6)).toNat) = 0 := by rw [eU6]; exact Xi_same (by unfold rg; omega)
                have A181 : RNI S U6 v4 v3 v5 (v6 + 1) (v6 + 1) (Xi S 938 v4.toNat) (Xi S 939 v4.toNat) := rni_b A118 (by omega) (by omega) (by omega) (fun j => hHU3.c 940 j) eU6 (by omega)
                have O181 : RNO S U6 v4 := rno_w O118 eU6 (by omega) (by omega)
                refine l_iinc rfl rfl rfl rfl ?_
                refine l_goto rfl rfl ?_
                exact Rl_weak (ih46 _ (by omega) U6 hHU6 hFU6 (v3) (v4) (v5) ((v6 + 1)) (by omega) (by omega) (by omega) (by omega) (by first | assumption | exact (TXM_FR (FR_e eU6) rfl (TXM_FR (FR_e eU3) rfl (by assumption : TXM T1)))) (by first | exact A181 | exact rni_0) (by first | exact O181 | exact rno_0) (by omega) (by omega) (by first | exact tw46 | exact W8) (by first | exact u46 | exact W38) (by first | exact r46 | rfl) rfl) (And.intro rfl (And.intro rfl (And.intro rfl (And.intro rfl (And.intro rfl (True.intro))))))
              · refine l_iconst rfl ?_
                refine l_goto rfl rfl ?_
                refine l_bastoreZ1 (n := 3456) rfl rfl (by omega) (by omega) (by unfold rg; omega) ⟨by omega, by omega⟩ ?_
                obtain ⟨U7, eU7⟩ : ∃ T : sS, T = uI U3 940 (((((576 * v4) + (24 * v3)) + v6)).toNat) (Int32.ofInt 1) := ⟨_, rfl⟩
                rw [← eU7]
                have hHU7 : HI U7 := by rw [eU7]; exact HI_w hHU3 (show 0 ≤ 1 by omega) (show 1 ≤ 1 by omega)
                have hFU7 : FR md_mo_nows__q S U7 := by rw [eU7]; exact FR.wI hFU3 (mdf_i (r := (940, 941, 0, 100000)) (List.mem_of_getElem? (i := 4) rfl) (inR_i (by omega) (by omega) (by omega) (by omega)))
                have w27 : Xi U7 940 (((((576 * v4) + (24 * v3)) + v6)).toNat) = 1 := by rw [eU7]; exact Xi_same (by unfold rg; omega)
                have A181 : RNI S U7 v4 v3 v5 (v6 + 1) (v6 + 1) (Xi S 938 v4.toNat) (Xi S 939 v4.toNat) := rni_b A118 (by omega) (by omega) (by omega) (fun j => hHU3.c 940 j) eU7 (by omega)
                have O181 : RNO S U7 v4 := rno_w O118 eU7 (by omega) (by omega)
                refine l_iinc rfl rfl rfl rfl ?_
                refine l_goto rfl rfl ?_
                exact Rl_weak (ih46 _ (by omega) U7 hHU7 hFU7 (v3) (v4) (v5) ((v6 + 1)) (by omega) (by omega) (by omega) (by omega) (by first | assumption | exact (TXM_FR (FR_e eU7) rfl (TXM_FR (FR_e eU3) rfl (by assumption : TXM T1)))) (by first | exact A181 | exact rni_0) (by first | exact O181 | exact rno_0) (by omega) (by omega) (by first | exact tw46 | exact W8) (by first | exact u46 | exact W38) (by first | exact r46 | rfl) rfl) (And.intro rfl (And.intro rfl (And.intro rfl (And.intro rfl (And.intro rfl (True.intro))))))
        · refine l_aload_n rfl rfl ?_
          refine l_gfr rfl rfl rfl rfl rfl (hHT1.r 904 44 938 rfl) ?_
          refine l_iload rfl rfl ?_
          refine l_baload (n := 6) rfl rfl rfl (by decide) (by omega) (by omega) (by unfold rg; omega) ?_
          have w28 : 0 ≤ (Xi T1 938 ((v4).toNat)) ∧ (Xi T1 938 ((v4).toNat)) ≤ 1 := hHT1.c _ _
          have f103 : (Xi T1 938 ((v4).toNat)) = Xi S 938 v4.toNat := (hFT1.cx 938 rfl _).1
          refine l_if_eq rfl rfl (by unfold rg; omega) (fun w29 => ?_) (fun w30 => ?_)
          · refine l_iconst rfl ?_
            refine l_goto rfl rfl ?_
            refine l_bastoreZ1 (n := 3456) rfl rfl (by omega) (by omega) (by unfold rg; omega) ⟨by omega, by omega⟩ ?_
            obtain ⟨U8, eU8⟩ : ∃ T : sS, T = uI T1 940 (((((576 * v4) + (24 * v6)) + v5)).toNat) (Int32.ofInt 1) := ⟨_, rfl⟩
            rw [← eU8]
            have hHU8 : HI U8 := by rw [eU8]; exact HI_w hHT1 (show 0 ≤ 1 by omega) (show 1 ≤ 1 by omega)
            have hFU8 : FR md_mo_nows__q S U8 := by rw [eU8]; exact FR.wI hFT1 (mdf_i (r := (940, 941, 0, 100000)) (List.mem_of_getElem? (i := 4) rfl) (inR_i (by omega) (by omega) (by omega) (by omega)))
            have w31 : Xi U8 940 (((((576 * v4) + (24 * v6)) + v5)).toNat) = 1 := by rw [eU8]; exact Xi_same (by unfold rg; omega)
            have A118 : RNI S U8 v4 v3 v5 (v6 + 1) v6 (Xi S 938 v4.toNat) (Xi S 939 v4.toNat) := rni_a rn46 (by omega) (by omega) (by omega) (fun j => hHT1.c 940 j) eU8 (by omega)
            have O118 : RNO S U8 v4 := rno_w o46 eU8 (by omega) (by omega)
            refine l_aload_n rfl rfl ?_
            refine l_gfr rfl rfl rfl rfl rfl (hHU8.r 904 46 940 rfl) ?_
            refine l_sipush rfl rfl ?_
            refine l_iload rfl rfl ?_
            refine l_imul rfl ?_
            refine l_bipush rfl rfl ?_
            refine l_iload_n rfl rfl ?_
            refine l_imul rfl ?_
            refine l_iadd rfl ?_
            refine l_iload rfl rfl ?_
            refine l_iadd rfl ?_
            refine l_aload_n rfl rfl ?_
            refine l_gfr rfl rfl rfl rfl rfl (hHU8.r 904 46 940 rfl) ?_
            refine l_sipush rfl rfl ?_
            refine l_iload rfl rfl ?_
            refine l_imul rfl ?_
            refine l_bipush rfl rfl ?_
            refine l_iload_n rfl rfl ?_
            refine l_imul rfl ?_
            refine l_iadd rfl ?_
            refine l_iload rfl rfl ?_
            refine l_iadd rfl ?_
            refine l_baload (n := 3456) rfl rfl rfl (by decide) (by omega) (by omega) (by unfold rg; omega) ?_
            have w32 : 0 ≤ (Xi U8 940 (((((576 * v4) + (24 * v3)) + v6)).toNat)) ∧ (Xi U8 940 (((((576 * v4) + (24 * v3)) + v6)).toNat)) ≤ 1 := hHU8.c _ _
            refine l_if_eq rfl rfl (by unfold rg; omega) (fun w33 => ?_) (fun w34 => ?_)
            · refine l_iconst rfl ?_
              refine l_bastoreZ1 (n := 3456) rfl rfl (by omega) (by omega) (by unfold rg; omega) ⟨by omega, by omega⟩ ?_
              obtain ⟨U9, eU9⟩ : ∃ T : sS, T = uI U8 940 (((((576 * v4) + (24 * v3)) + v6)).toNat) (Int32.ofInt 0) := ⟨_, rfl⟩
              rw [← eU9]
              have hHU9 : HI U9 := by rw [eU9]; exact HI_w hHU8 (show 0 ≤ 0 by omega) (show 0 ≤ 1 by omega)
              have hFU9 : FR md_mo_nows__q S U9 := by rw [eU9]; exact FR.wI hFU8 (mdf_i (r := (940, 941, 0, 100000)) (List.mem_of_getElem? (i := 4) rfl) (inR_i (by omega) (by omega) (by omega) (by omega)))
              have w35 : Xi U9 940 (((((576 * v4) + (24 * v3)) + v6)).toNat) = 0 := by rw [eU9]; exact Xi_same (by unfold rg; omega)
              have A181 : RNI S U9 v4 v3 v5 (v6 + 1) (v6 + 1) (Xi S 938 v4.toNat) (Xi S 939 v4.toNat) := rni_b A118 (by omega) (by omega) (by omega) (fun j => hHU8.c 940 j) eU9 (by omega)
              have O181 : RNO S U9 v4 := rno_w O118 eU9 (by omega) (by omega)
              refine l_iinc rfl rfl rfl rfl ?_
              refine l_goto rfl rfl ?_
              exact Rl_weak (ih46 _ (by omega) U9 hHU9 hFU9 (v3) (v4) (v5) ((v6 + 1)) (by omega) (by omega) (by omega) (by omega) (by first | assumption | exact (TXM_FR (FR_e eU9) rfl (TXM_FR (FR_e eU8) rfl (by assumption : TXM T1)))) (by first | exact A181 | exact rni_0) (by first | exact O181 | exact rno_0) (by omega) (by omega) (by first | exact tw46 | exact W8) (by first | exact u46 | exact W38) (by first | exact r46 | rfl) rfl) (And.intro rfl (And.intro rfl (And.intro rfl (And.intro rfl (And.intro rfl (True.intro))))))
            · refine l_aload_n rfl rfl ?_
              refine l_gfr rfl rfl rfl rfl rfl (hHU8.r 904 45 939 rfl) ?_
              refine l_iload rfl rfl ?_
              refine l_baload (n := 6) rfl rfl rfl (by decide) (by omega) (by omega) (by unfold rg; omega) ?_
              have w36 : 0 ≤ (Xi U8 939 ((v4).toNat)) ∧ (Xi U8 939 ((v4).toNat)) ≤ 1 := hHU8.c _ _
              have f165 : (Xi U8 939 ((v4).toNat)) = Xi S 939 v4.toNat := (hFU8.cx 939 rfl _).1
              refine l_if_eq rfl rfl (by unfold rg; omega) (fun w37 => ?_) (fun w38 => ?_)
              · refine l_iconst rfl ?_
                refine l_goto rfl rfl ?_
                refine l_bastoreZ1 (n := 3456) rfl rfl (by omega) (by omega) (by unfold rg; omega) ⟨by omega, by omega⟩ ?_
                obtain ⟨U10, eU10⟩ : ∃ T : sS, T = uI U8 940 (((((576 * v4) + (24 * v3)) + v6)).toNat) (Int32.ofInt 1) := ⟨_, rfl⟩
                rw [← eU10]
                have hHU10 : HI U10 := by rw [eU10]; exact HI_w hHU8 (show 0 ≤ 1 by omega) (show 1 ≤ 1 by omega)
                have hFU10 : FR md_mo_nows__q S U10 := by rw [eU10]; exact FR.wI hFU8 (mdf_i (r := (940, 941, 0, 100000)) (List.mem_of_getElem? (i := 4) rfl) (inR_i (by omega) (by omega) (by omega) (by omega)))
                have w39 : Xi U10 940 (((((576 * v4) + (24 * v3)) + v6)).toNat) = 1 := by rw [eU10]; exact Xi_same (by unfold rg; omega)
                have A181 : RNI S U10 v4 v3 v5 (v6 + 1) (v6 + 1) (Xi S 938 v4.toNat) (Xi S 939 v4.toNat) := rni_b A118 (by omega) (by omega) (by omega) (fun j => hHU8.c 940 j) eU10 (by omega)
                have O181 : RNO S U10 v4 := rno_w O118 eU10 (by omega) (by omega)
                refine l_iinc rfl rfl rfl rfl ?_
                refine l_goto rfl rfl ?_
                exact Rl_weak (ih46 _ (by omega) U10 hHU10 hFU10 (v3) (v4) (v5) ((v6 + 1)) (by omega) (by omega) (by omega) (by omega) (by first | assumption | exact (TXM_FR (FR_e eU10) rfl (TXM_FR (FR_e eU8) rfl (by assumption : TXM T1)))) (by first | exact A181 | exact rni_0) (by first | exact O181 | exact rno_0) (by omega) (by omega) (by first | exact tw46 | exact W8) (by first | exact u46 | exact W38) (by first | exact r46 | rfl) rfl) (And.intro rfl (And.intro rfl (And.intro rfl (And.intro rfl (And.intro rfl (True.intro))))))
              · refine l_iload rfl rfl ?_
                refine l_iload rfl rfl ?_
                refine l_icmp_ne rfl rfl (by unfold rg; omega) (by unfold rg; omega) (fun w40 => ?_) (fun w41 => ?_)
                · refine l_iconst rfl ?_
                  refine l_bastoreZ1 (n := 3456) rfl rfl (by omega) (by omega) (by unfold rg; omega) ⟨by omega, by omega⟩ ?_
                  obtain ⟨U11, eU11⟩ : ∃ T : sS, T = uI U8 940 (((((576 * v4) + (24 * v3)) + v6)).toNat) (Int32.ofInt 0) := ⟨_, rfl⟩
                  rw [← eU11]
                  have hHU11 : HI U11 := by rw [eU11]; exact HI_w hHU8 (show 0 ≤ 0 by omega) (show 0 ≤ 1 by omega)
                  have hFU11 : FR md_mo_nows__q S U11 := by rw [eU11]; exact FR.wI hFU8 (mdf_i (r := (940, 941, 0, 100000)) (List.mem_of_getElem? (i := 4) rfl) (inR_i (by omega) (by omega) (by omega) (by omega)))
                  have w42 : Xi U11 940 (((((576 * v4) + (24 * v3)) + v6)).toNat) = 0 := by rw [eU11]; exact Xi_same (by unfold rg; omega)
                  have A181 : RNI S U11 v4 v3 v5 (v6 + 1) (v6 + 1) (Xi S 938 v4.toNat) (Xi S 939 v4.toNat) := rni_b A118 (by omega) (by omega) (by omega) (fun j => hHU8.c 940 j) eU11 (by omega)
                  have O181 : RNO S U11 v4 := rno_w O118 eU11 (by omega) (by omega)
                  refine l_iinc rfl rfl rfl rfl ?_
                  refine l_goto rfl rfl ?_
                  exact Rl_weak (ih46 _ (by omega) U11 hHU11 hFU11 (v3) (v4) (v5) ((v6 + 1)) (by omega) (by omega) (by omega) (by omega) (by first | assumption | exact (TXM_FR (FR_e eU11) rfl (TXM_FR (FR_e eU8) rfl (by assumption : TXM T1)))) (by first | exact A181 | exact rni_0) (by first | exact O181 | exact rno_0) (by omega) (by omega) (by first | exact tw46 | exact W8) (by first | exact u46 | exact W38) (by first | exact r46 | rfl) rfl) (And.intro rfl (And.intro rfl (And.intro rfl (And.intro rfl (And.intro rfl (True.intro))))))
                · refine l_iconst rfl ?_
                  refine l_goto rfl rfl ?_
                  refine l_bastoreZ1 (n := 3456) rfl rfl (by omega) (by omega) (by unfold rg; omega) ⟨by omega, by omega⟩ ?_
                  obtain ⟨U12, eU12⟩ : ∃ T : sS, T = uI U8 940 (((((576 * v4) + (24 * v3)) + v6)).toNat) (Int32.ofInt 1) := ⟨_, rfl⟩
                  rw [← eU12]
                  have hHU12 : HI U12 := by rw [eU12]; exact HI_w hHU8 (show 0 ≤ 1 by omega) (show 1 ≤ 1 by omega)
                  have hFU12 : FR md_mo_nows__q S U12 := by rw [eU12]; exact FR.wI hFU8 (mdf_i (r := (940, 941, 0, 100000)) (List.mem_of_getElem? (i := 4) rfl) (inR_i (by omega) (by omega) (by omega) (by omega)))
                  have w43 : Xi U12 940 (((((576 * v4) + (24 * v3)) + v6)).toNat) = 1 := by rw [eU12]; exact Xi_same (by unfold rg; omega)
                  have A181 : RNI S U12 v4 v3 v5 (v6 + 1) (v6 + 1) (Xi S 938 v4.toNat) (Xi S 939 v4.toNat) := rni_b A118 (by omega) (by omega) (by omega) (fun j => hHU8.c 940 j) eU12 (by omega)
                  have O181 : RNO S U12 v4 := rno_w O118 eU12 (by omega) (by omega)
                  refine l_iinc rfl rfl rfl rfl ?_
                  refine l_goto rfl rfl ?_
                  exact Rl_weak (ih46 _ (by omega) U12 hHU12 hFU12 (v3) (v4) (v5) ((v6 + 1)) (by omega) (by omega) (by omega) (by omega) (by first | assumption | exact (TXM_FR (FR_e eU12) rfl (TXM_FR (FR_e eU8) rfl (by assumption : TXM T1)))) (by first | exact A181 | exact rni_0) (by first | exact O181 | exact rno_0) (by omega) (by omega) (by first | exact tw46 | exact W8) (by first | exact u46 | exact W38) (by first | exact r46 | rfl) rfl) (And.intro rfl (And.intro rfl (And.intro rfl (And.intro rfl (And.intro rfl (True.intro))))))
          · refine l_iload rfl rfl ?_
            refine l_iload_n rfl rfl ?_
            refine l_icmp_ne rfl rfl (by unfold rg; omega) (by unfold rg; omega) (fun w44 => ?_) (fun w45 => ?_)
            · refine l_iconst rfl ?_
              refine l_bastoreZ1 (n := 3456) rfl rfl (by omega) (by omega) (by unfold rg; omega) ⟨by omega, by omega⟩ ?_
              obtain ⟨U13, eU13⟩ : ∃ T : sS, T = uI T1 940 (((((576 * v4) + (24 * v6)) + v5)).toNat) (Int32.ofInt 0) := ⟨_, rfl⟩
              rw [← eU13]
              have hHU13 : HI U13 := by rw [eU13]; exact HI_w hHT1 (show 0 ≤ 0 by omega) (show 0 ≤ 1 by omega)
              have hFU13 : FR md_mo_nows__q S U13 := by rw [eU13]; exact FR.wI hFT1 (mdf_i (r := (940, 941, 0, 100000)) (List.mem_of_getElem? (i := 4) rfl) (inR_i (by omega) (by omega) (by omega) (by omega)))
              have w46 : Xi U13 940 (((((576 * v4) + (24 * v6)) + v5)).toNat) = 0 := by rw [eU13]; exact Xi_same (by unfold rg; omega)
              have A118 : RNI S U13 v4 v3 v5 (v6 + 1) v6 (Xi S 938 v4.toNat) (Xi S 939 v4.toNat) := rni_a rn46 (by omega) (by omega) (by omega) (fun j => hHT1.c 940 j) eU13 (by omega)
              have O118 : RNO S U13 v4 := rno_w o46 eU13 (by omega) (by omega)
              refine l_aload_n rfl rfl ?_
              refine l_gfr rfl rfl rfl rfl rfl (hHU13.r 904 46 940 rfl) ?_
              refine l_sipush rfl rfl ?_
              refine l_iload rfl rfl ?_
              refine l_imul rfl ?_
              refine l_bipush rfl rfl ?_
              refine l_iload_n rfl rfl ?_
              refine l_imul rfl ?_
              refine l_iadd rfl ?_
              refine l_iload rfl rfl ?_
              refine l_iadd rfl ?_
              refine l_aload_n rfl rfl ?_
              refine l_gfr rfl rfl rfl rfl rfl (hHU13.r 904 46 940 rfl) ?_
              refine l_sipush rfl rfl ?_
              refine l_iload rfl rfl ?_
              refine l_imul rfl ?_
              refine l_bipush rfl rfl ?_
              refine l_iload_n rfl rfl ?_
              refine l_imul rfl ?_
              refine l_iadd rfl ?_
              refine l_iload rfl rfl ?_
              refine l_iadd rfl ?_
              refine l_baload (n := 3456) rfl rfl rfl (by decide) (by omega) (by omega) (by unfold rg; omega) ?_
              have w47 : 0 ≤ (Xi U13 940 (((((576 * v4) + (24 * v3)) + v6)).toNat)) ∧ (Xi U13 940 (((((576 * v4) + (24 * v3)) + v6)).toNat)) ≤ 1 := hHU13.c _ _
              refine l_if_eq rfl rfl (by unfold rg; omega) (fun w48 => ?_) (fun w49 => ?_)
              · refine l_iconst rfl ?_
                refine l_bastoreZ1 (n := 3456) rfl rfl (by omega) (by omega) (by unfold rg; omega) ⟨by omega, by omega⟩ ?_
                obtain ⟨U14, eU14⟩ : ∃ T : sS, T = uI U13 940 (((((576 * v4) + (24 * v3)) + v6)).toNat) (Int32.ofInt 0) := ⟨_, rfl⟩
                rw [← eU14]
                have hHU14 : HI U14 := by rw [eU14]; exact HI_w hHU13 (show 0 ≤ 0 by omega) (show 0 ≤ 1 by omega)
                have hFU14 : FR md_mo_nows__q S U14 := by rw [eU14]; exact FR.wI hFU13 (mdf_i (r := (940, 941, 0, 100000)) (List.mem_of_getElem? (i := 4) rfl) (inR_i (by omega) (by omega) (by omega) (by omega)))
                have w50 : Xi U14 940 (((((576 * v4) + (24 * v3)) + v6)).toNat) = 0 := by rw [eU14]; exact Xi_same (by unfold rg; omega)
                have A181 : RNI S U14 v4 v3 v5 (v6 + 1) (v6 + 1) (Xi S 938 v4.toNat) (Xi S 939 v4.toNat) := rni_b A118 (by omega) (by omega) (by omega) (fun j => hHU13.c 940 j) eU14 (by omega)
                have O181 : RNO S U14 v4 := rno_w O118 eU14 (by omega) (by omega)
                refine l_iinc rfl rfl rfl rfl ?_
                refine l_goto rfl rfl ?_
                exact Rl_weak (ih46 _ (by omega) U14 hHU14 hFU14 (v3) (v4) (v5) ((v6 + 1)) (by omega) (by omega) (by omega) (by omega) (by first | assumption | exact (TXM_FR (FR_e eU14) rfl (TXM_FR (FR_e eU13) rfl (by assumption : TXM T1)))) (by first | exact A181 | exact rni_0) (by first | exact O181 | exact rno_0) (by omega) (by omega) (by first | exact tw46 | exact W8) (by first | exact u46 | exact W38) (by first | exact r46 | rfl) rfl) (And.intro rfl (And.intro rfl (And.intro rfl (And.intro rfl (And.intro rfl (True.intro))))))
              · refine l_aload_n rfl rfl ?_
                refine l_gfr rfl rfl rfl rfl rfl (hHU13.r 904 45 939 rfl) ?_
                refine l_iload rfl rfl ?_
                refine l_baload (n := 6) rfl rfl rfl (by decide) (by omega) (by omega) (by unfold rg; omega) ?_
                have w51 : 0 ≤ (Xi U13 939 ((v4).toNat)) ∧ (Xi U13 939 ((v4).toNat)) ≤ 1 := hHU13.c _ _
                have f165 : (Xi U13 939 ((v4).toNat)) = Xi S 939 v4.toNat := (hFU13.cx 939 rfl _).1
                refine l_if_eq rfl rfl (by unfold rg; omega) (fun w52 => ?_) (fun w53 => ?_)
                · refine l_iconst rfl ?_
                  refine l_goto rfl rfl ?_
                  refine l_bastoreZ1 (n := 3456) rfl rfl (by omega) (by omega) (by unfold rg; omega) ⟨by omega, by omega⟩ ?_
                  obtain ⟨U15, eU15⟩ : ∃ T : sS, T = uI U13 940 (((((576 * v4) + (24 * v3)) + v6)).toNat) (Int32.ofInt 1) := ⟨_, rfl⟩
                  rw [← eU15]
                  have hHU15 : HI U15 := by rw [eU15]; exact HI_w hHU13 (show 0 ≤ 1 by omega) (show 1 ≤ 1 by omega)
                  have hFU15 : FR md_mo_nows__q S U15 := by rw [eU15]; exact FR.wI hFU13 (mdf_i (r := (940, 941, 0, 100000)) (List.mem_of_getElem? (i := 4) rfl) (inR_i (by omega) (by omega) (by omega) (by omega)))
                  have w54 : Xi U15 940 (((((576 * v4) + (24 * v3)) + v6)).toNat) = 1 := by rw [eU15]; exact Xi_same (by unfold rg; omega)
                  have A181 : RNI S U15 v4 v3 v5 (v6 + 1) (v6 + 1) (Xi S 938 v4.toNat) (Xi S 939 v4.toNat) := rni_b A118 (by omega) (by omega) (by omega) (fun j => hHU13.c 940 j) eU15 (by omega)
                  have O181 : RNO S U15 v4 := rno_w O118 eU15 (by omega) (by omega)
                  refine l_iinc rfl rfl rfl rfl ?_
                  refine l_goto rfl rfl ?_
                  exact Rl_weak (ih46 _ (by omega) U15 hHU15 hFU15 (v3) (v4) (v5) ((v6 + 1)) (by omega) (by omega) (by omega) (by omega) (by first | assumption | exact (TXM_FR (FR_e eU15) rfl (TXM_FR (FR_e eU13) rfl (by assumption : TXM T1)))) (by first | exact A181 | exact rni_0) (by first | exact O181 | exact rno_0) (by omega) (by omega) (by first | exact tw46 | exact W8) (by first | exact u46 | exact W38) (by first | exact r46 | rfl) rfl) (And.intro rfl (And.intro rfl (And.intro rfl (And.intro rfl (And.intro rfl (True.intro))))))
                · refine l_iload rfl rfl ?_
                  refine l_iload rfl rfl ?_
                  refine l_icmp_ne rfl rfl (by unfold rg; omega) (by unfold rg; omega) (fun w55 => ?_) (fun w56 => ?_)
                  · refine l_iconst rfl ?_
                    refine l_bastoreZ1 (n := 3456) rfl rfl (by omega) (by omega) (by unfold rg; omega) ⟨by omega, by omega⟩ ?_
                    obtain ⟨U16, eU16⟩ : ∃ T : sS, T = uI U13 940 (((((576 * v4) + (24 * v3)) + v6)).toNat) (Int32.ofInt 0) := ⟨_, rfl⟩
                    rw [← eU16]
                    have hHU16 : HI U16 := by rw [eU16]; exact HI_w hHU13 (show 0 ≤ 0 by omega) (show 0 ≤ 1 by omega)
                    have hFU16 : FR md_mo_nows__q S U16 := by rw [eU16]; exact FR.wI hFU13 (mdf_i (r := (940, 941, 0, 100000)) (List.mem_of_getElem? (i := 4) rfl) (inR_i (by omega) (by omega) (by omega) (by omega)))
                    have w57 : Xi U16 940 (((((576 * v4) + (24 * v3)) + v6)).toNat) = 0 := by rw [eU16]; exact Xi_same (by unfold rg; omega)
                    have A181 : RNI S U16 v4 v3 v5 (v6 + 1) (v6 + 1) (Xi S 938 v4.toNat) (Xi S 939 v4.toNat) := rni_b A118 (by omega) (by omega) (by omega) (fun j => hHU13.c 940 j) eU16 (by omega)
                    have O181 : RNO S U16 v4 := rno_w O118 eU16 (by omega) (by omega)
                    refine l_iinc rfl rfl rfl rfl ?_
                    refine l_goto rfl rfl ?_
                    exact Rl_weak (ih46 _ (by omega) U16 hHU16 hFU16 (v3) (v4) (v5) ((v6 + 1)) (by omega) (by omega) (by omega) (by omega) (by first | assumption | exact (TXM_FR (FR_e eU16) rfl (TXM_FR (FR_e eU13) rfl (by assumption : TXM T1)))) (by first | exact A181 | exact rni_0) (by first | exact O181 | exact rno_0) (by omega) (by omega) (by first | exact tw46 | exact W8) (by first | exact u46 | exact W38) (by first | exact r46 | rfl) rfl) (And.intro rfl (And.intro rfl (And.intro rfl (And.intro rfl (And.intro rfl (True.intro))))))
                  · refine l_iconst rfl ?_
                    refine l_goto rfl rfl ?_
                    refine l_bastoreZ1 (n := 3456) rfl rfl (by omega) (by omega) (by unfold rg; omega) ⟨by omega, by omega⟩ ?_
                    obtain ⟨U17, eU17⟩ : ∃ T : sS, T = uI U13 940 (((((576 * v4) + (24 * v3)) + v6)).toNat) (Int32.ofInt 1) := ⟨_, rfl⟩
                    rw [← eU17]
                    have hHU17 : HI U17 := by rw [eU17]; exact HI_w hHU13 (show 0 ≤ 1 by omega) (show 1 ≤ 1 by omega)
                    have hFU17 : FR md_mo_nows__q S U17 := by rw [eU17]; exact FR.wI hFU13 (mdf_i (r := (940, 941, 0, 100000)) (List.mem_of_getElem? (i := 4) rfl) (inR_i (by omega) (by omega) (by omega) (by omega)))
                    have w58 : Xi U17 940 (((((576 * v4) + (24 * v3)) + v6)).toNat) = 1 := by rw [eU17]; exact Xi_same (by unfold rg; omega)
                    have A181 : RNI S U17 v4 v3 v5 (v6 + 1) (v6 + 1) (Xi S 938 v4.toNat) (Xi S 939 v4.toNat) := rni_b A118 (by omega) (by omega) (by omega) (fun j => hHU13.c 940 j) eU17 (by omega)
                    have O181 : RNO S U17 v4 := rno_w O118 eU17 (by omega) (by omega)
                    refine l_iinc rfl rfl rfl rfl ?_
                    refine l_goto rfl rfl ?_
                    exact Rl_weak (ih46 _ (by omega) U17 hHU17 hFU17 (v3) (v4) (v5) ((v6 + 1)) (by omega) (by omega) (by omega) (by omega) (by first | assumption | exact (TXM_FR (FR_e eU17) rfl (TXM_FR (FR_e eU13) rfl (by assumption : TXM T1)))) (by first | exact A181 | exact rni_0) (by first | exact O181 | exact rno_0) (by omega) (by omega) (by first | exact tw46 | exact W8) (by first | exact u46 | exact W38) (by first | exact r46 | rfl) rfl) (And.intro rfl (And.intro rfl (And.intro rfl (And.intro rfl (And.intro rfl (True.intro))))))
            · refine l_iconst rfl ?_
              refine l_goto rfl rfl ?_
              refine l_bastoreZ1 (n := 3456) rfl rfl (by omega) (by omega) (by unfold rg; omega) ⟨by omega, by omega⟩ ?_
              obtain ⟨U18, eU18⟩ : ∃ T : sS, T = uI T1 940 (((((576 * v4) + (24 * v6)) + v5)).toNat) (Int32.ofInt 1) := ⟨_, rfl⟩
              rw [← eU18]
              have hHU18 : HI U18 := by rw [eU18]; exact HI_w hHT1 (show 0 ≤ 1 by omega) (show 1 ≤ 1 by omega)
              have hFU18 : FR md_mo_nows__q S U18 := by rw [eU18]; exact FR.wI hFT1 (mdf_i (r := (940, 941, 0, 100000)) (List.mem_of_getElem? (i := 4) rfl) (inR_i (by omega) (by omega) (by omega) (by omega)))
              have w59 : Xi U18 940 (((((576 * v4) + (24 * v6)) + v5)).toNat) = 1 := by rw [eU18]; exact Xi_same (by unfold rg; omega)
              have A118 : RNI S U18 v4 v3 v5 (v6 + 1) v6 (Xi S 938 v4.toNat) (Xi S 939 v4.toNat) := rni_a rn46 (by omega) (by omega) (by omega) (fun j => hHT1.c 940 j) eU18 (by omega)
              have O118 : RNO S U18 v4 := rno_w o46 eU18 (by omega) (by omega)
              refine l_aload_n rfl rfl ?_
              refine l_gfr rfl rfl rfl rfl rfl (hHU18.r 904 46 940 rfl) ?_
              refine l_sipush rfl rfl ?_
              refine l_iload rfl rfl ?_
              refine l_imul rfl ?_
              refine l_bipush rfl rfl ?_
              refine l_iload_n rfl rfl ?_
              refine l_imul rfl ?_
              refine l_iadd rfl ?_
              refine l_iload rfl rfl ?_
              refine l_iadd rfl ?_
              refine l_aload_n rfl rfl ?_
              refine l_gfr rfl rfl rfl rfl rfl (hHU18.r 904 46 940 rfl) ?_
              refine l_sipush rfl rfl ?_
              refine l_iload rfl rfl ?_
              refine l_imul rfl ?_
              refine l_bipush rfl rfl ?_
              refine l_iload_n rfl rfl ?_
              refine l_imul rfl ?_
              refine l_iadd rfl ?_
              refine l_iload rfl rfl ?_
              refine l_iadd rfl ?_
              refine l_baload (n := 3456) rfl rfl rfl (by decide) (by omega) (by omega) (by unfold rg; omega) ?_
              have w60 : 0 ≤ (Xi U18 940 (((((576 * v4) + (24 * v3)) + v6)).toNat)) ∧ (Xi U18 940 (((((576 * v4) + (24 * v3)) + v6)).toNat)) ≤ 1 := hHU18.c _ _
              refine l_if_eq rfl rfl (by unfold rg; omega) (fun w61 => ?_) (fun w62 => ?_)
              · refine l_iconst rfl ?_
                refine l_bastoreZ1 (n := 3456) rfl rfl (by omega) (by omega) (by unfold rg; omega) ⟨by omega, by omega⟩ ?_
                obtain ⟨U19, eU19⟩ : ∃ T : sS, T = uI U18 940 (((((576 * v4) + (24 * v3)) + v6)).toNat) (Int32.ofInt 0) := ⟨_, rfl⟩
                rw [← eU19]
                have hHU19 : HI U19 := by rw [eU19]; exact HI_w hHU18 (show 0 ≤ 0 by omega) (show 0 ≤ 1 by omega)
                have hFU19 : FR md_mo_nows__q S U19 := by rw [eU19]; exact FR.wI hFU18 (mdf_i (r := (940, 941, 0, 100000)) (List.mem_of_getElem? (i := 4) rfl) (inR_i (by omega) (by omega) (by omega) (by omega)))
                have w63 : Xi U19 940 (((((576 * v4) + (24 * v3)) + v6)).toNat) = 0 := by rw [eU19]; exact Xi_same (by unfold rg; omega)
                have A181 : RNI S U19 v4 v3 v5 (v6 + 1) (v6 + 1) (Xi S 938 v4.toNat) (Xi S 939 v4.toNat) := rni_b A118 (by omega) (by omega) (by omega) (fun j => hHU18.c 940 j) eU19 (by omega)
                have O181 : RNO S U19 v4 := rno_w O118 eU19 (by omega) (by omega)
                refine l_iinc rfl rfl rfl rfl ?_
                refine l_goto rfl rfl ?_
                exact Rl_weak (ih46 _ (by omega) U19 hHU19 hFU19 (v3) (v4) (v5) ((v6 + 1)) (by omega) (by omega) (by omega) (by omega) (by first | assumption | exact (TXM_FR (FR_e eU19) rfl (TXM_FR (FR_e eU18) rfl (by assumption : TXM T1)))) (by first | exact A181 | exact rni_0) (by first | exact O181 | exact rno_0) (by omega) (by omega) (by first | exact tw46 | exact W8) (by first | exact u46 | exact W38) (by first | exact r46 | rfl) rfl) (And.intro rfl (And.intro rfl (And.intro rfl (And.intro rfl (And.intro rfl (True.intro))))))
              · refine l_aload_n rfl rfl ?_
                refine l_gfr rfl rfl rfl rfl rfl (hHU18.r 904 45 939 rfl) ?_
                refine l_iload rfl rfl ?_
                refine l_baload (n := 6) rfl rfl rfl (by decide) (by omega) (by omega) (by unfold rg; omega) ?_
                have w64 : 0 ≤ (Xi U18 939 ((v4).toNat)) ∧ (Xi U18 939 ((v4).toNat)) ≤ 1 := hHU18.c _ _
                have f165 : (Xi U18 939 ((v4).toNat)) = Xi S 939 v4.toNat := (hFU18.cx 939 rfl _).1
                refine l_if_eq rfl rfl (by unfold rg; omega) (fun w65 => ?_) (fun w66 => ?_)
                · refine l_iconst rfl ?_
                  refine l_goto rfl rfl ?_
                  refine l_bastoreZ1 (n := 3456) rfl rfl (by omega) (by omega) (by unfold rg; omega) ⟨by omega, by omega⟩ ?_
                  obtain ⟨U20, eU20⟩ : ∃ T : sS, T = uI U18 940 (((((576 * v4) + (24 * v3)) + v6)).toNat) (Int32.ofInt 1) := ⟨_, rfl⟩
                  rw [← eU20]
                  have hHU20 : HI U20 := by rw [eU20]; exact HI_w hHU18 (show 0 ≤ 1 by omega) (show 1 ≤ 1 by omega)
                  have hFU20 : FR md_mo_nows__q S U20 := by rw [eU20]; exact FR.wI hFU18 (mdf_i (r := (940, 941, 0, 100000)) (List.mem_of_getElem? (i := 4) rfl) (inR_i (by omega) (by omega) (by omega) (by omega)))
                  have w67 : Xi U20 940 (((((576 * v4) + (24 * v3)) + v6)).toNat) = 1 := by rw [eU20]; exact Xi_same (by unfold rg; omega)
                  have A181 : RNI S U20 v4 v3 v5 (v6 + 1) (v6 + 1) (Xi S 938 v4.toNat) (Xi S 939 v4.toNat) := rni_b A118 (by omega) (by omega) (by omega) (fun j => hHU18.c 940 j) eU20 (by omega)
                  have O181 : RNO S U20 v4 := rno_w O118 eU20 (by omega) (by omega)
                  refine l_iinc rfl rfl rfl rfl ?_
                  refine l_goto rfl rfl ?_
                  exact Rl_weak (ih46 _ (by omega) U20 hHU20 hFU20 (v3) (v4) (v5) ((v6 + 1)) (by omega) (by omega) (by omega) (by omega) (by first | assumption | exact (TXM_FR (FR_e eU20) rfl (TXM_FR (FR_e eU18) rfl (by assumption : TXM T1)))) (by first | exact A181 | exact rni_0) (by first | exact O181 | exact rno_0) (by omega) (by omega) (by first | exact tw46 | exact W8) (by first | exact u46 | exact W38) (by first | exact r46 | rfl) rfl) (And.intro rfl (And.intro rfl (And.intro rfl (And.intro rfl (And.intro rfl (True.intro))))))
                · refine l_iload rfl rfl ?_
                  refine l_iload rfl rfl ?_
                  refine l_icmp_ne rfl rfl (by unfold rg; omega) (by unfold rg; omega) (fun w68 => ?_) (fun w69 => ?_)
                  · refine l_iconst rfl ?_
                    refine l_bastoreZ1 (n := 3456) rfl rfl (by omega) (by omega) (by unfold rg; omega) ⟨by omega, by omega⟩ ?_
                    obtain ⟨U21, eU21⟩ : ∃ T : sS, T = uI U18 940 (((((576 * v4) + (24 * v3)) + v6)).toNat) (Int32.ofInt 0) := ⟨_, rfl⟩
                    rw [← eU21]
                    have hHU21 : HI U21 := by rw [eU21]; exact HI_w hHU18 (show 0 ≤ 0 by omega) (show 0 ≤ 1 by omega)
                    have hFU21 : FR md_mo_nows__q S U21 := by rw [eU21]; exact FR.wI hFU18 (mdf_i (r := (940, 941, 0, 100000)) (List.mem_of_getElem? (i := 4) rfl) (inR_i (by omega) (by omega) (by omega) (by omega)))
                    have w70 : Xi U21 940 (((((576 * v4) + (24 * v3)) + v6)).toNat) = 0 := by rw [eU21]; exact Xi_same (by unfold rg; omega)
                    have A181 : RNI S U21 v4 v3 v5 (v6 + 1) (v6 + 1) (Xi S 938 v4.toNat) (Xi S 939 v4.toNat) := rni_b A118 (by omega) (by omega) (by omega) (fun j => hHU18.c 940 j) eU21 (by omega)
                    have O181 : RNO S U21 v4 := rno_w O118 eU21 (by omega) (by omega)
                    refine l_iinc rfl rfl rfl rfl ?_
                    refine l_goto rfl rfl ?_
                    exact Rl_weak (ih46 _ (by omega) U21 hHU21 hFU21 (v3) (v4) (v5) ((v6 + 1)) (by omega) (by omega) (by omega) (by omega) (by first | assumption | exact (TXM_FR (FR_e eU21) rfl (TXM_FR (FR_e eU18) rfl (by assumption : TXM T1)))) (by first | exact A181 | exact rni_0) (by first | exact O181 | exact rno_0) (by omega) (by omega) (by first | exact tw46 | exact W8) (by first | exact u46 | exact W38) (by first | exact r46 | rfl) rfl) (And.intro rfl (And.intro rfl (And.intro rfl (And.intro rfl (And.intro rfl (True.intro))))))
                  · refine l_iconst rfl ?_
                    refine l_goto rfl rfl ?_
                    refine l_bastoreZ1 (n := 3456) rfl rfl (by omega) (by omega) (by unfold rg; omega) ⟨by omega, by omega⟩ ?_
                    obtain ⟨U22, eU22⟩ : ∃ T : sS, T = uI U18 940 (((((576 * v4) + (24 * v3)) + v6)).toNat) (Int32.ofInt 1) := ⟨_, rfl⟩
                    rw [← eU22]
                    have hHU22 : HI U22 := by rw [eU22]; exact HI_w hHU18 (show 0 ≤ 1 by omega) (show 1 ≤ 1 by omega)
                    have hFU22 : FR md_mo_nows__q S U22 := by rw [eU22]; exact FR.wI hFU18 (mdf_i (r := (940, 941, 0, 100000)) (List.mem_of_getElem? (i := 4) rfl) (inR_i (by omega) (by omega) (by omega) (by omega)))
                    have w71 : Xi U22 940 (((((576 * v4) + (24 * v3)) + v6)).toNat) = 1 := by rw [eU22]; exact Xi_same (by unfold rg; omega)
                    have A181 : RNI S U22 v4 v3 v5 (v6 + 1) (v6 + 1) (Xi S 938 v4.toNat) (Xi S 939 v4.toNat) := rni_b A118 (by omega) (by omega) (by omega) (fun j => hHU18.c 940 j) eU22 (by omega)
                    have O181 : RNO S U22 v4 := rno_w O118 eU22 (by omega) (by omega)
                    refine l_iinc rfl rfl rfl rfl ?_
                    refine l_goto rfl rfl ?_
                    exact Rl_weak (ih46 _ (by omega) U22 hHU22 hFU22 (v3) (v4) (v5) ((v6 + 1)) (by omega) (by omega) (by omega) (by omega) (by first | assumption | exact (TXM_FR (FR_e eU22) rfl (TXM_FR (FR_e eU18) rfl (by assumption : TXM T1)))) (by first | exact A181 | exact rni_0) (by first | exact O181 | exact rno_0) (by omega) (by omega) (by first | exact tw46 | exact W8) (by first | exact u46 | exact W38) (by first | exact r46 | rfl) rfl) (And.intro rfl (And.intro rfl (And.intro rfl (And.intro rfl (And.intro rfl (True.intro))))))
  refine l_aload_n rfl rfl ?_
  refine l_gfr rfl rfl rfl rfl rfl (hH.r 904 120 971 rfl) ?_
  refine l_iload_n rfl rfl ?_
  refine l_iaload (n := 2400) rfl rfl (by omega) (by omega) (by unfold rg; omega) ?_
  have w72 : -9 ≤ (Xi S 971 ((q).toNat)) ∧ (Xi S 971 ((q).toNat)) ≤ 23 := hH.c _ _
  refine l_iconst rfl ?_
  refine l_iload_n rfl rfl ?_
  refine l_callS rfl rfl (by decide) rfl (t_mo_thingIs hH (Xi S 971 ((q).toNat)) (-1) noun ⟨by omega, by omega⟩ ⟨by omega, by omega⟩ ⟨by omega, by omega⟩ _) ?_
  rintro _ _ ⟨rfl, z73, rfl, w73, p8⟩
  show Rl _ _ _ _ _ [iv z73] _ _
  have o8 : 0 ≤ z73 ∧ z73 < Xi S 904 19 := thk_i (it := -1) (noun := noun) hk1.1 (fun h => absurd h (fun f => f)) (fun h => h) (by omega) h2 (by assumption)
  have W8 : thR (-1) noun (Xi S 971 q.toNat) = z73 := thR_i p8
  refine l_istore_n rfl rfl rfl ?_
  refine l_aload_n rfl rfl ?_
  refine l_gfr rfl rfl rfl rfl rfl (hH.r 904 118 969 rfl) ?_
  refine l_iload_n rfl rfl ?_
  refine l_iaload (n := 2400) rfl rfl (by omega) (by omega) (by unfold rg; omega) ?_
  have w74 : 0 ≤ (Xi S 969 ((q).toNat)) ∧ (Xi S 969 ((q).toNat)) ≤ 5 := hH.c _ _
  refine l_iconst rfl ?_
  refine l_icmp_ne rfl rfl (by unfold rg; omega) (by unfold rg; omega) (fun w75 => ?_) (fun w76 => ?_)
  · refine l_aload_n rfl rfl ?_
    refine l_gfr rfl rfl rfl rfl rfl (hH.r 904 118 969 rfl) ?_
    refine l_iload_n rfl rfl ?_
    refine l_iaload (n := 2400) rfl rfl (by omega) (by omega) (by unfold rg; omega) ?_
    refine l_iconst rfl ?_
    refine l_icmp_ne rfl rfl (by unfold rg; omega) (by unfold rg; omega) (fun w77 => ?_) (fun w78 => ?_)
    · refine l_aload_n rfl rfl ?_
      refine l_gfr rfl rfl rfl rfl rfl (hH.r 904 118 969 rfl) ?_
      refine l_iload_n rfl rfl ?_
      refine l_iaload (n := 2400) rfl rfl (by omega) (by omega) (by unfold rg; omega) ?_
      refine l_iconst rfl ?_
      refine l_icmp_ne rfl rfl (by unfold rg; omega) (by unfold rg; omega) (fun w79 => ?_) (fun w80 => ?_)
      · refine l_aload_n rfl rfl ?_
        refine l_gfr rfl rfl rfl rfl rfl (hH.r 904 121 972 rfl) ?_
        refine l_iload_n rfl rfl ?_
        refine l_iaload (n := 2400) rfl rfl (by omega) (by omega) (by unfold rg; omega) ?_
        have w81 : -1 ≤ (Xi S 972 ((q).toNat)) ∧ (Xi S 972 ((q).toNat)) ≤ 11 := hH.c _ _
        refine l_istore rfl rfl rfl ?_
        refine l_aload_n rfl rfl ?_
        refine l_gfr rfl rfl rfl rfl rfl (hH.r 904 35 930 rfl) ?_
        refine l_bipush rfl rfl ?_
        refine l_iload_n rfl rfl ?_
        refine l_imul rfl ?_
        refine l_iload rfl rfl ?_
        refine l_iadd rfl ?_
        refine l_iconst rfl ?_
        refine l_bastoreZ1 (n := 288) rfl rfl (by omega) (by omega) (by unfold rg; omega) ⟨by omega, by omega⟩ ?_
        obtain ⟨U23, eU23⟩ : ∃ T : sS, T = uI S 930 ((((12 * z73) + (Xi S 972 ((q).toNat)))).toNat) (Int32.ofInt 1) := ⟨_, rfl⟩
        rw [← eU23]
        have hHU23 : HI U23 := by rw [eU23]; exact HI_w hH (show 0 ≤ 1 by omega) (show 1 ≤ 1 by omega)
        have hFU23 : FR md_mo_nows__q S U23 := by rw [eU23]; exact FR.wI hF (mdf_i (r := (930, 931, 0, 100000)) (List.mem_of_getElem? (i := 1) rfl) (inR_i (by omega) (by omega) (by omega) (by omega)))
        have w82 : Xi U23 930 ((((12 * z73) + (Xi S 972 ((q).toNat)))).toNat) = 1 := by rw [eU23]; exact Xi_same (by unfold rg; omega)
        refine l_aload_n rfl rfl ?_
        refine l_gfr rfl rfl rfl rfl rfl (hHU23.r 904 36 931 rfl) ?_
        refine l_bipush rfl rfl ?_
        refine l_iload_n rfl rfl ?_
        refine l_imul rfl ?_
        refine l_iload rfl rfl ?_
        refine l_iadd rfl ?_
        refine l_aload_n rfl rfl ?_
        refine l_gfr rfl rfl rfl rfl rfl (hHU23.r 904 118 969 rfl) ?_
        refine l_iload_n rfl rfl ?_
        refine l_iaload (n := 2400) rfl rfl (by omega) (by omega) (by unfold rg; omega) ?_
        have w83 : (Xi U23 969 ((q).toNat)) = (Xi S 969 ((q).toNat)) := (show Xi U23 969 ((q).toNat) = Xi S 969 ((q).toNat) from by rw [eU23]; exact Xi_ne (by omega))
        rw [w83]
        refine l_iconst rfl ?_
        refine l_icmp_ne rfl rfl (by unfold rg; omega) (by unfold rg; omega) (fun w84 => ?_) (fun w85 => ?_)
        · refine l_aload_n rfl rfl ?_
          refine l_gfr rfl rfl rfl rfl rfl (hHU23.r 904 122 973 rfl) ?_
          refine l_iload_n rfl rfl ?_
          refine l_iaload (n := 2400) rfl rfl (by omega) (by omega) (by unfold rg; omega) ?_
          have w86 : -2147483648 ≤ (Xi U23 973 ((q).toNat)) ∧ (Xi U23 973 ((q).toNat)) ≤ 2147483647 := Xi_rgI
          have e383 : (Xi U23 973 ((q).toNat)) = Xi S 973 q.toNat := by first | rfl | exact (hFU23.cx 973 rfl _).1
          refine l_iastore (n := 288) rfl rfl (by omega) (by omega) (by unfold rg; omega) ?_
          obtain ⟨U24, eU24⟩ : ∃ T : sS, T = uI U23 931 ((((12 * z73) + (Xi S 972 ((q).toNat)))).toNat) (Int32.ofInt (Xi U23 973 ((q).toNat))) := ⟨_, rfl⟩
          rw [← eU24]
          have hHU24 : HI U24 := by rw [eU24]; exact HI_any hHU23 (rfl)
          have hFU24 : FR md_mo_nows__q S U24 := by rw [eU24]; exact FR.wI hFU23 (mdf_i (r := (931, 932, 0, 100000)) (List.mem_of_getElem? (i := 2) rfl) (inR_i (by omega) (by omega) (by omega) (by omega)))
          have w87 : Xi U24 931 ((((12 * z73) + (Xi S 972 ((q).toNat)))).toNat) = (Xi U23 973 ((q).toNat)) := by rw [eU24]; exact Xi_same (by unfold rg; omega)
          refine l_aload_n rfl rfl ?_
          refine l_gfr rfl rfl rfl rfl rfl (hHU24.r 904 37 932 rfl) ?_
          refine l_bipush rfl rfl ?_
          refine l_iload_n rfl rfl ?_
          refine l_imul rfl ?_
          refine l_iload rfl rfl ?_
          refine l_iadd rfl ?_
          refine l_aload_n rfl rfl ?_
          refine l_gfr rfl rfl rfl rfl rfl (hHU24.r 904 118 969 rfl) ?_
          refine l_iload_n rfl rfl ?_
          refine l_iaload (n := 2400) rfl rfl (by omega) (by omega) (by unfold rg; omega) ?_
          have w88 : (Xi U24 969 ((q).toNat)) = (Xi S 969 ((q).toNat)) := (show Xi U24 969 ((q).toNat) = Xi U23 969 ((q).toNat) from by rw [eU24]; exact Xi_ne (by omega)).trans ((show Xi U23 969 ((q).toNat) = Xi S 969 ((q).toNat) from by rw [eU23]; exact Xi_ne (by omega)))
          rw [w88]
          refine l_iconst rfl ?_
          refine l_icmp_ne rfl rfl (by unfold rg; omega) (by unfold rg; omega) (fun w89 => ?_) (fun w90 => ?_)
          · refine l_aload_n rfl rfl ?_
            refine l_gfr rfl rfl rfl rfl rfl (hHU24.r 904 123 974 rfl) ?_
            refine l_iload_n rfl rfl ?_
            refine l_iaload (n := 2400) rfl rfl (by omega) (by omega) (by unfold rg; omega) ?_
            have w91 : -2147483648 ≤ (Xi U24 974 ((q).toNat)) ∧ (Xi U24 974 ((q).toNat)) ≤ 2147483647 := Xi_rgI
            have e415 : (Xi U24 974 ((q).toNat)) = Xi S 974 q.toNat := by first | rfl | exact (hFU24.cx 974 rfl _).1
            refine l_iastore (n := 288) rfl rfl (by omega) (by omega) (by unfold rg; omega) ?_
            obtain ⟨U25, eU25⟩ : ∃ T : sS, T = uI U24 932 ((((12 * z73) + (Xi S 972 ((q).toNat)))).toNat) (Int32.ofInt (Xi U24 974 ((q).toNat))) := ⟨_, rfl⟩
            rw [← eU25]
            have hHU25 : HI U25 := by rw [eU25]; exact HI_any hHU24 (rfl)
            have hFU25 : FR md_mo_nows__q S U25 := by rw [eU25]; exact FR.wI hFU24 (mdf_i (r := (932, 933, 0, 100000)) (List.mem_of_getElem? (i := 3) rfl) (inR_i (by omega) (by omega) (by omega) (by omega)))
            have w92 : Xi U25 932 ((((12 * z73) + (Xi S 972 ((q).toNat)))).toNat) = (Xi U24 974 ((q).toNat)) := by rw [eU25]; exact Xi_same (by unfold rg; omega)
            have x416 : TXM U25 := txm_w (o := z73) (p := (Xi S 972 ((q).toNat))) eU23 eU24 eU25 rfl (by omega) (by omega) (by omega) (by omega) (by unfold rg; omega) (by unfold rg; omega) (fun _ => by first | exact Or.inl (by omega) | exact okt_2 (hk1.2.2.2.2 (by omega)) (by omega) (by omega)) hX
            have K416 : True := trivial
            have N416 : NOW S U25 q.toNat noun := by first | exact Or.inr (Or.inr (Or.inl ⟨by omega, by omega, by rw [W8]; exact spr_i eU23 eU24 eU25 (by omega) (by omega) (by omega)⟩)) | exact Or.inr (Or.inr (Or.inr ⟨by omega, by omega, by rw [W8]; exact spr_i eU23 eU24 eU25 (by omega) (by omega) (by omega)⟩))
            refine l_return rfl rfl ?_
            exact ⟨hHU25, hFU25, rfl, (by first | exact x416 | assumption | exact TXM_FR (FR_e eU25) rfl (by first | assumption | exact TXM_FR (FR_e eU24) rfl hX)), (by first | (have t := K207; exact N207) | (have t := K296; exact N296) | (have t := K416; exact N416))⟩
          · refine l_iconst rfl ?_
            refine l_goto rfl rfl ?_
            refine l_iastore (n := 288) rfl rfl (by omega) (by omega) (by unfold rg; omega) ?_
            obtain ⟨U26, eU26⟩ : ∃ T : sS, T = uI U24 932 ((((12 * z73) + (Xi S 972 ((q).toNat)))).toNat) (Int32.ofInt 0) := ⟨_, rfl⟩
            rw [← eU26]
            have hHU26 : HI U26 := by rw [eU26]; exact HI_any hHU24 (rfl)
            have hFU26 : FR md_mo_nows__q S U26 := by rw [eU26]; exact FR.wI hFU24 (mdf_i (r := (932, 933, 0, 100000)) (List.mem_of_getElem? (i := 3) rfl) (inR_i (by omega) (by omega) (by omega) (by omega)))
            have w93 : Xi U26 932 ((((12 * z73) + (Xi S 972 ((q).toNat)))).toNat) = 0 := by rw [eU26]; exact Xi_same (by unfold rg; omega)
            have x416 : TXM U26 := txm_w (o := z73) (p := (Xi S 972 ((q).toNat))) eU23 eU24 eU26 rfl (by omega) (by omega) (by omega) (by omega) (by unfold rg; omega) (by unfold rg; omega) (fun _ => by first | exact Or.inl (by omega) | exact okt_2 (hk1.2.2.2.2 (by omega)) (by omega) (by omega)) hX
            have K416 : True := trivial
            have N416 : NOW S U26 q.toNat noun := by first | exact Or.inr (Or.inr (Or.inl ⟨by omega, by omega, by rw [W8]; exact spr_i eU23 eU24 eU26 (by omega) (by omega) (by omega)⟩)) | exact Or.inr (Or.inr (Or.inr ⟨by omega, by omega, by rw [W8]; exact spr_i eU23 eU24 eU26 (by omega) (by omega) (by omega)⟩))
            refine l_return rfl rfl ?_
            exact ⟨hHU26, hFU26, rfl, (by first | exact x416 | assumption | exact TXM_FR (FR_e eU26) rfl (by first | assumption | exact TXM_FR (FR_e eU24) rfl hX)), (by first | (have t := K207; exact N207) | (have t := K296; exact N296) | (have t := K416; exact N416))⟩
        · refine l_aload_n rfl rfl ?_
          refine l_gfr rfl rfl rfl rfl rfl (hHU23.r 904 122 973 rfl) ?_
          refine l_iload_n rfl rfl ?_
          refine l_iaload (n := 2400) rfl rfl (by omega) (by omega) (by unfold rg; omega) ?_
          have w94 : -2147483648 ≤ (Xi U23 973 ((q).toNat)) ∧ (Xi U23 973 ((q).toNat)) ≤ 2147483647 := Xi_rgI
          refine l_bipush rfl rfl ?_
          refine l_idivP rfl (by omega) (by omega) (by unfold rg; omega) (by unfold rg; omega) ?_
          refine l_iconst rfl ?_
          refine l_isub rfl ?_
          refine l_goto rfl rfl ?_
          refine l_iastore (n := 288) rfl rfl (by omega) (by omega) (by unfold rg; omega) ?_
          obtain ⟨U27, eU27⟩ : ∃ T : sS, T = uI U23 931 ((((12 * z73) + (Xi S 972 ((q).toNat)))).toNat) (Int32.ofInt (((Xi U23 973 ((q).toNat)) / 100) - 1)) := ⟨_, rfl⟩
          rw [← eU27]
          have hHU27 : HI U27 := by rw [eU27]; exact HI_any hHU23 (rfl)
          have hFU27 : FR md_mo_nows__q S U27 := by rw [eU27]; exact FR.wI hFU23 (mdf_i (r := (931, 932, 0, 100000)) (List.mem_of_getElem? (i := 2) rfl) (inR_i (by omega) (by omega) (by omega) (by omega)))
          have w96 : Xi U27 931 ((((12 * z73) + (Xi S 972 ((q).toNat)))).toNat) = (((Xi U23 973 ((q).toNat)) / 100) - 1) := by rw [eU27]; exact Xi_same (by unfold rg; omega)
          refine l_aload_n rfl rfl ?_
          refine l_gfr rfl rfl rfl rfl rfl (hHU27.r 904 37 932 rfl) ?_
          refine l_bipush rfl rfl ?_
          refine l_iload_n rfl rfl ?_
          refine l_imul rfl ?_
          refine l_iload rfl rfl ?_
          refine l_iadd rfl ?_
          refine l_aload_n rfl rfl ?_
          refine l_gfr rfl rfl rfl rfl rfl (hHU27.r 904 118 969 rfl) ?_
          refine l_iload_n rfl rfl ?_
          refine l_iaload (n := 2400) rfl rfl (by omega) (by omega) (by unfold rg; omega) ?_
          have w97 : (Xi U27 969 ((q).toNat)) = (Xi S 969 ((q).toNat)) := (show Xi U27 969 ((q).toNat) = Xi U23 969 ((q).toNat) from by rw [eU27]; exact Xi_ne (by omega)).trans ((show Xi U23 969 ((q).toNat) = Xi S 969 ((q).toNat) from by rw [eU23]; exact Xi_ne (by omega)))
          rw [w97]
          refine l_iconst rfl ?_
          refine l_icmp_ne rfl rfl (by unfold rg; omega) (by unfold rg; omega) (fun w98 => ?_) (fun w99 => ?_)
          · refine l_aload_n rfl rfl ?_
            refine l_gfr rfl rfl rfl rfl rfl (hHU27.r 904 123 974 rfl) ?_
            refine l_iload_n rfl rfl ?_
            refine l_iaload (n := 2400) rfl rfl (by omega) (by omega) (by unfold rg; omega) ?_
            have w100 : -2147483648 ≤ (Xi U27 974 ((q).toNat)) ∧ (Xi U27 974 ((q).toNat)) ≤ 2147483647 := Xi_rgI
            have e415 : (Xi U27 974 ((q).toNat)) = Xi S 974 q.toNat := by first | rfl | exact (hFU27.cx 974 rfl _).1
            refine l_iastore (n := 288) rfl rfl (by omega) (by omega) (by unfold rg; omega) ?_
            obtain ⟨U28, eU28⟩ : ∃ T : sS, T = uI U27 932 ((((12 * z73) + (Xi S 972 ((q).toNat)))).toNat) (Int32.ofInt (Xi U27 974 ((q).toNat))) := ⟨_, rfl⟩
            rw [← eU28]
            have hHU28 : HI U28 := by rw [eU28]; exact HI_any hHU27 (rfl)
            have hFU28 : FR md_mo_nows__q S U28 := by rw [eU28]; exact FR.wI hFU27 (mdf_i (r := (932, 933, 0, 100000)) (List.mem_of_getElem? (i := 3) rfl) (inR_i (by omega) (by omega) (by omega) (by omega)))
            have w101 : Xi U28 932 ((((12 * z73) + (Xi S 972 ((q).toNat)))).toNat) = (Xi U27 974 ((q).toNat)) := by rw [eU28]; exact Xi_same (by unfold rg; omega)
            have x416 : TXM U28 := txm_w (o := z73) (p := (Xi S 972 ((q).toNat))) eU23 eU27 eU28 rfl (by omega) (by omega) (by omega) (by omega) (by unfold rg; omega) (by unfold rg; omega) (fun _ => by first | exact Or.inl (by omega) | exact okt_2 (hk1.2.2.2.2 (by omega)) (by omega) (by omega)) hX
            have K416 : True := trivial
            have N416 : NOW S U28 q.toNat noun := by first | exact Or.inr (Or.inr (Or.inl ⟨by omega, by omega, by rw [W8]; exact spr_i eU23 eU27 eU28 (by omega) (by omega) (by omega)⟩)) | exact Or.inr (Or.inr (Or.inr ⟨by omega, by omega, by rw [W8]; exact spr_i eU23 eU27 eU28 (by omega) (by omega) (by omega)⟩))
            refine l_return rfl rfl ?_
            exact ⟨hHU28, hFU28, rfl, (by first | exact x416 | assumption | exact TXM_FR (FR_e eU28) rfl (by first | assumption | exact TXM_FR (FR_e eU27) rfl hX)), (by first | (have t := K207; exact N207) | (have t := K296; exact N296) | (have t := K416; exact N416))⟩
          · refine l_iconst rfl ?_
            refine l_goto rfl rfl ?_
            refine l_iastore (n := 288) rfl rfl (by omega) (by omega) (by unfold rg; omega) ?_
            obtain ⟨U29, eU29⟩ : ∃ T : sS, T = uI U27 932 ((((12 * z73) + (Xi S 972 ((q).toNat)))).toNat) (Int32.ofInt 0) := ⟨_, rfl⟩
            rw [← eU29]
            have hHU29 : HI U29 := by rw [eU29]; exact HI_any hHU27 (rfl)
            have hFU29 : FR md_mo_nows__q S U29 := by rw [eU29]; exact FR.wI hFU27 (mdf_i (r := (932, 933, 0, 100000)) (List.mem_of_getElem? (i := 3) rfl) (inR_i (by omega) (by omega) (by omega) (by omega)))
            have w102 : Xi U29 932 ((((12 * z73) + (Xi S 972 ((q).toNat)))).toNat) = 0 := by rw [eU29]; exact Xi_same (by unfold rg; omega)
            have x416 : TXM U29 := txm_w (o := z73) (p := (Xi S 972 ((q).toNat))) eU23 eU27 eU29 rfl (by omega) (by omega) (by omega) (by omega) (by unfold rg; omega) (by unfold rg; omega) (fun _ => by first | exact Or.inl (by omega) | exact okt_2 (hk1.2.2.2.2 (by omega)) (by omega) (by omega)) hX
            have K416 : True := trivial
            have N416 : NOW S U29 q.toNat noun := by first | exact Or.inr (Or.inr (Or.inl ⟨by omega, by omega, by rw [W8]; exact spr_i eU23 eU27 eU29 (by omega) (by omega) (by omega)⟩)) | exact Or.inr (Or.inr (Or.inr ⟨by omega, by omega, by rw [W8]; exact spr_i eU23 eU27 eU29 (by omega) (by omega) (by omega)⟩))
            refine l_return rfl rfl ?_
            exact ⟨hHU29, hFU29, rfl, (by first | exact x416 | assumption | exact TXM_FR (FR_e eU29) rfl (by first | assumption | exact TXM_FR (FR_e eU27) rfl hX)), (by first | (have t := K207; exact N207) | (have t := K296; exact N296) | (have t := K416; exact N416))⟩
      · refine l_aload_n rfl rfl ?_
        refine l_gfr rfl rfl rfl rfl rfl (hH.r 904 122 973 rfl) ?_
        refine l_iload_n rfl rfl ?_
        refine l_iaload (n := 2400) rfl rfl (by omega) (by omega) (by unfold rg; omega) ?_
        have w103 : -2147483648 ≤ (Xi S 973 ((q).toNat)) ∧ (Xi S 973 ((q).toNat)) ≤ 2147483647 := Xi_rgI
        refine l_bipush rfl rfl ?_
        refine l_iremA rfl (by omega) (by unfold rg; omega) (by unfold rg; omega) (fun c104 w104 w104b w104c => ?_)
        refine l_goto rfl rfl ?_
        refine l_istore rfl rfl rfl ?_
        refine l_aload_n rfl rfl ?_
        refine l_gfr rfl rfl rfl rfl rfl (hH.r 904 35 930 rfl) ?_
        refine l_bipush rfl rfl ?_
        refine l_iload_n rfl rfl ?_
        refine l_imul rfl ?_
        refine l_iload rfl rfl ?_
        refine l_iadd rfl ?_
        refine l_iconst rfl ?_
        refine l_bastoreZ1 (n := 288) rfl rfl (by omega) (by omega) (by unfold rg; omega) ⟨by omega, by omega⟩ ?_
        obtain ⟨U30, eU30⟩ : ∃ T : sS, T = uI S 930 ((((12 * z73) + c104)).toNat) (Int32.ofInt 1) := ⟨_, rfl⟩
        rw [← eU30]
        have hHU30 : HI U30 := by rw [eU30]; exact HI_w hH (show 0 ≤ 1 by omega) (show 1 ≤ 1 by omega)
        have hFU30 : FR md_mo_nows__q S U30 := by rw [eU30]; exact FR.wI hF (mdf_i (r := (930, 931, 0, 100000)) (List.mem_of_getElem? (i := 1) rfl) (inR_i (by omega) (by omega) (by omega) (by omega)))
        have w105 : Xi U30 930 ((((12 * z73) + c104)).toNat) = 1 := by rw [eU30]; exact Xi_same (by unfold rg; omega)
        refine l_aload_n rfl rfl ?_
        refine l_gfr rfl rfl rfl rfl rfl (hHU30.r 904 36 931 rfl) ?_
        refine l_bipush rfl rfl ?_
        refine l_iload_n rfl rfl ?_
        refine l_imul rfl ?_
        refine l_iload rfl rfl ?_
        refine l_iadd rfl ?_
        refine l_aload_n rfl rfl ?_
        refine l_gfr rfl rfl rfl rfl rfl (hHU30.r 904 118 969 rfl) ?_
        refine l_iload_n rfl rfl ?_
        refine l_iaload (n := 2400) rfl rfl (by omega) (by omega) (by unfold rg; omega) ?_
        have w106 : (Xi U30 969 ((q).toNat)) = (Xi S 969 ((q).toNat)) := (show Xi U30 969 ((q).toNat) = Xi S 969 ((q).toNat) from by rw [eU30]; exact Xi_ne (by omega))
        rw [w106]
        refine l_iconst rfl ?_
        refine l_icmp_ne rfl rfl (by unfold rg; omega) (by unfold rg; omega) (fun w107 => ?_) (fun w108 => ?_)
        · refine l_aload_n rfl rfl ?_
          refine l_gfr rfl rfl rfl rfl rfl (hHU30.r 904 122 973 rfl) ?_
          refine l_iload_n rfl rfl ?_
          refine l_iaload (n := 2400) rfl rfl (by omega) (by omega) (by unfold rg; omega) ?_
          have w109 : (Xi U30 973 ((q).toNat)) = (Xi S 973 ((q).toNat)) := (show Xi U30 973 ((q).toNat) = Xi S 973 ((q).toNat) from by rw [eU30]; exact Xi_ne (by omega))
          rw [w109]
          have e383 : (Xi S 973 ((q).toNat)) = Xi S 973 q.toNat := by first | rfl | exact (hFU30.cx 973 rfl _).1
          refine l_iastore (n := 288) rfl rfl (by omega) (by omega) (by unfold rg; omega) ?_
          obtain ⟨U31, eU31⟩ : ∃ T : sS, T = uI U30 931 ((((12 * z73) + c104)).toNat) (Int32.ofInt (Xi S 973 ((q).toNat))) := ⟨_, rfl⟩
          rw [← eU31]
          have hHU31 : HI U31 := by rw [eU31]; exact HI_any hHU30 (rfl)
          have hFU31 : FR md_mo_nows__q S U31 := by rw [eU31]; exact FR.wI hFU30 (mdf_i (r := (931, 932, 0, 100000)) (List.mem_of_getElem? (i := 2) rfl) (inR_i (by omega) (by omega) (by omega) (by omega)))
          have w110 : Xi U31 931 ((((12 * z73) + c104)).toNat) = (Xi S 973 ((q).toNat)) := by rw [eU31]; exact Xi_same (by unfold rg; omega)
          refine l_aload_n rfl rfl ?_
          refine l_gfr rfl rfl rfl rfl rfl (hHU31.r 904 37 932 rfl) ?_
          refine l_bipush rfl rfl ?_
          refine l_iload_n rfl rfl ?_
          refine l_imul rfl ?_
          refine l_iload rfl rfl ?_
          refine l_iadd rfl ?_
          refine l_aload_n rfl rfl ?_
          refine l_gfr rfl rfl rfl rfl rfl (hHU31.r 904 118 969 rfl) ?_
          refine l_iload_n rfl rfl ?_
          refine l_iaload (n := 2400) rfl rfl (by omega) (by omega) (by unfold rg; omega) ?_
          have w111 : (Xi U31 969 ((q).toNat)) = (Xi S 969 ((q).toNat)) := (show Xi U31 969 ((q).toNat) = Xi U30 969 ((q).toNat) from by rw [eU31]; exact Xi_ne (by omega)).trans ((show Xi U30 969 ((q).toNat) = Xi S 969 ((q).toNat) from by rw [eU30]; exact Xi_ne (by omega)))
          rw [w111]
          refine l_iconst rfl ?_
          refine l_icmp_ne rfl rfl (by unfold rg; omega) (by unfold rg; omega) (fun w112 => ?_) (fun w113 => ?_)
          · refine l_aload_n rfl rfl ?_
            refine l_gfr rfl rfl rfl rfl rfl (hHU31.r 904 123 974 rfl) ?_
            refine l_iload_n rfl rfl ?_
            refine l_iaload (n := 2400) rfl rfl (by omega) (by omega) (by unfold rg; omega) ?_
            have w114 : -2147483648 ≤ (Xi U31 974 ((q).toNat)) ∧ (Xi U31 974 ((q).toNat)) ≤ 2147483647 := Xi_rgI
            have e415 : (Xi U31 974 ((q).toNat)) = Xi S 974 q.toNat := by first | rfl | exact (hFU31.cx 974 rfl _).1
            refine l_iastore (n := 288) rfl rfl (by omega) (by omega) (by unfold rg; omega) ?_
            obtain ⟨U32, eU32⟩ : ∃ T : sS, T = uI U31 932 ((((12 * z73) + c104)).toNat) (Int32.ofInt (Xi U31 974 ((q).toNat))) := ⟨_, rfl⟩
            rw [← eU32]
            have hHU32 : HI U32 := by rw [eU32]; exact HI_any hHU31 (rfl)
            have hFU32 : FR md_mo_nows__q S U32 := by rw [eU32]; exact FR.wI hFU31 (mdf_i (r := (932, 933, 0, 100000)) (List.mem_of_getElem? (i := 3) rfl) (inR_i (by omega) (by omega) (by omega) (by omega)))
            have w115 : Xi U32 932 ((((12 * z73) + c104)).toNat) = (Xi U31 974 ((q).toNat)) := by rw [eU32]; exact Xi_same (by unfold rg; omega)
            have x416 : TXM U32 := txm_w (o := z73) (p := c104) eU30 eU31 eU32 rfl (by omega) (by omega) (by omega) (by omega) (by unfold rg; omega) (by unfold rg; omega) (fun _ => by first | exact Or.inl (by omega) | exact okt_2 (hk1.2.2.2.2 (by omega)) (by omega) (by omega)) hX
            have K416 : True := trivial
            have N416 : NOW S U32 q.toNat noun := by first | exact Or.inr (Or.inr (Or.inl ⟨by omega, by omega, by rw [W8]; exact spr_i eU30 eU31 eU32 (by omega) (by omega) (by omega)⟩)) | exact Or.inr (Or.inr (Or.inr ⟨by omega, by omega, by rw [W8]; exact spr_i eU30 eU31 eU32 (by omega) (by omega) (by omega)⟩))
            refine l_return rfl rfl ?_
            exact ⟨hHU32, hFU32, rfl, (by first | exact x416 | assumption | exact TXM_FR (FR_e eU32) rfl (by first | assumption | exact TXM_FR (FR_e eU31) rfl hX)), (by first | (have t := K207; exact N207) | (have t := K296; exact N296) | (have t := K416; exact N416))⟩
          · refine l_iconst rfl ?_
            refine l_goto rfl rfl ?_
            refine l_iastore (n := 288) rfl rfl (by omega) (by omega) (by unfold rg; omega) ?_
            obtain ⟨U33, eU33⟩ : ∃ T : sS, T = uI U31 932 ((((12 * z73) + c104)).toNat) (Int32.ofInt 0) := ⟨_, rfl⟩
            rw [← eU33]
            have hHU33 : HI U33 := by rw [eU33]; exact HI_any hHU31 (rfl)
            have hFU33 : FR md_mo_nows__q S U33 := by rw [eU33]; exact FR.wI hFU31 (mdf_i (r := (932, 933, 0, 100000)) (List.mem_of_getElem? (i := 3) rfl) (inR_i (by omega) (by omega) (by omega) (by omega)))
            have w116 : Xi U33 932 ((((12 * z73) + c104)).toNat) = 0 := by rw [eU33]; exact Xi_same (by unfold rg; omega)
            have x416 : TXM U33 := txm_w (o := z73) (p := c104) eU30 eU31 eU33 rfl (by omega) (by omega) (by omega) (by omega) (by unfold rg; omega) (by unfold rg; omega) (fun _ => by first | exact Or.inl (by omega) | exact okt_2 (hk1.2.2.2.2 (by omega)) (by omega) (by omega)) hX
            have K416 : True := trivial
            have N416 : NOW S U33 q.toNat noun := by first | exact Or.inr (Or.inr (Or.inl ⟨by omega, by omega, by rw [W8]; exact spr_i eU30 eU31 eU33 (by omega) (by omega) (by omega)⟩)) | exact Or.inr (Or.inr (Or.inr ⟨by omega, by omega, by rw [W8]; exact spr_i eU30 eU31 eU33 (by omega) (by omega) (by omega)⟩))
            refine l_return rfl rfl ?_
            exact ⟨hHU33, hFU33, rfl, (by first | exact x416 | assumption | exact TXM_FR (FR_e eU33) rfl (by first | assumption | exact TXM_FR (FR_e eU31) rfl hX)), (by first | (have t := K207; exact N207) | (have t := K296; exact N296) | (have t := K416; exact N416))⟩
        · refine l_aload_n rfl rfl ?_
          refine l_gfr rfl rfl rfl rfl rfl (hHU30.r 904 122 973 rfl) ?_
          refine l_iload_n rfl rfl ?_
          refine l_iaload (n := 2400) rfl rfl (by omega) (by omega) (by unfold rg; omega) ?_
          have w117 : (Xi U30 973 ((q).toNat)) = (Xi S 973 ((q).toNat)) := (show Xi U30 973 ((q).toNat) = Xi S 973 ((q).toNat) from by rw [eU30]; exact Xi_ne (by omega))
          rw [w117]
          refine l_bipush rfl rfl ?_
          refine l_idivP rfl (by omega) (by omega) (by unfold rg; omega) (by unfold rg; omega) ?_
          refine l_iconst rfl ?_
          refine l_isub rfl ?_
          refine l_goto rfl rfl ?_
          refine l_iastore (n := 288) rfl rfl (by omega) (by omega) (by unfold rg; omega) ?_
          obtain ⟨U34, eU34⟩ : ∃ T : sS, T = uI U30 931 ((((12 * z73) + c104)).toNat) (Int32.ofInt (((Xi S 973 ((q).toNat)) / 100) - 1)) := ⟨_, rfl⟩
          rw [← eU34]
          have hHU34 : HI U34 := by rw [eU34]; exact HI_any hHU30 (rfl)
          have hFU34 : FR md_mo_nows__q S U34 := by rw [eU34]; exact FR.wI hFU30 (mdf_i (r := (931, 932, 0, 100000)) (List.mem_of_getElem? (i := 2) rfl) (inR_i (by omega) (by omega) (by omega) (by omega)))
          have w119 : Xi U34 931 ((((12 * z73) + c104)).toNat) = (((Xi S 973 ((q).toNat)) / 100) - 1) := by rw [eU34]; exact Xi_same (by unfold rg; omega)
          refine l_aload_n rfl rfl ?_
          refine l_gfr rfl rfl rfl rfl rfl (hHU34.r 904 37 932 rfl) ?_
          refine l_bipush rfl rfl ?_
          refine l_iload_n rfl rfl ?_
          refine l_imul rfl ?_
          refine l_iload rfl rfl ?_
          refine l_iadd rfl ?_
          refine l_aload_n rfl rfl ?_
          refine l_gfr rfl rfl rfl rfl rfl (hHU34.r 904 118 969 rfl) ?_
          refine l_iload_n rfl rfl ?_
          refine l_iaload (n := 2400) rfl rfl (by omega) (by omega) (by unfold rg; omega) ?_
          have w120 : (Xi U34 969 ((q).toNat)) = (Xi S 969 ((q).toNat)) := (show Xi U34 969 ((q).toNat) = Xi U30 969 ((q).toNat) from by rw [eU34]; exact Xi_ne (by omega)).trans ((show Xi U30 969 ((q).toNat) = Xi S 969 ((q).toNat) from by rw [eU30]; exact Xi_ne (by omega)))
          rw [w120]
          refine l_iconst rfl ?_
          refine l_icmp_ne rfl rfl (by unfold rg; omega) (by unfold rg; omega) (fun w121 => ?_) (fun w122 => ?_)
          · refine l_aload_n rfl rfl ?_
            refine l_gfr rfl rfl rfl rfl rfl (hHU34.r 904 123 974 rfl) ?_
            refine l_iload_n rfl rfl ?_
            refine l_iaload (n := 2400) rfl rfl (by omega) (by omega) (by unfold rg; omega) ?_
            have w123 : -2147483648 ≤ (Xi U34 974 ((q).toNat)) ∧ (Xi U34 974 ((q).toNat)) ≤ 2147483647 := Xi_rgI
            have e415 : (Xi U34 974 ((q).toNat)) = Xi S 974 q.toNat := by first | rfl | exact (hFU34.cx 974 rfl _).1
            refine l_iastore (n := 288) rfl rfl (by omega) (by omega) (by unfold rg; omega) ?_
            obtain ⟨U35, eU35⟩ : ∃ T : sS, T = uI U34 932 ((((12 * z73) + c104)).toNat) (Int32.ofInt (Xi U34 974 ((q).toNat))) := ⟨_, rfl⟩
            rw [← eU35]
            have hHU35 : HI U35 := by rw [eU35]; exact HI_any hHU34 (rfl)
            have hFU35 : FR md_mo_nows__q S U35 := by rw [eU35]; exact FR.wI hFU34 (mdf_i (r := (932, 933, 0, 100000)) (List.mem_of_getElem? (i := 3) rfl) (inR_i (by omega) (by omega) (by omega) (by omega)))
            have w124 : Xi U35 932 ((((12 * z73) + c104)).toNat) = (Xi U34 974 ((q).toNat)) := by rw [eU35]; exact Xi_same (by unfold rg; omega)
            have x416 : TXM U35 := txm_w (o := z73) (p := c104) eU30 eU34 eU35 rfl (by omega) (by omega) (by omega) (by omega) (by unfold rg; omega) (by unfold rg; omega) (fun _ => by first | exact Or.inl (by omega) | exact okt_2 (hk1.2.2.2.2 (by omega)) (by omega) (by omega)) hX
            have K416 : True := trivial
            have N416 : NOW S U35 q.toNat noun := by first | exact Or.inr (Or.inr (Or.inl ⟨by omega, by omega, by rw [W8]; exact spr_i eU30 eU34 eU35 (by omega) (by omega) (by omega)⟩)) | exact Or.inr (Or.inr (Or.inr ⟨by omega, by omega, by rw [W8]; exact spr_i eU30 eU34 eU35 (by omega) (by omega) (by omega)⟩))
            refine l_return rfl rfl ?_
            exact ⟨hHU35, hFU35, rfl, (by first | exact x416 | assumption | exact TXM_FR (FR_e eU35) rfl (by first | assumption | exact TXM_FR (FR_e eU34) rfl hX)), (by first | (have t := K207; exact N207) | (have t := K296; exact N296) | (have t := K416; exact N416))⟩
          · refine l_iconst rfl ?_
            refine l_goto rfl rfl ?_
            refine l_iastore (n := 288) rfl rfl (by omega) (by omega) (by unfold rg; omega) ?_
            obtain ⟨U36, eU36⟩ : ∃ T : sS, T = uI U34 932 ((((12 * z73) + c104)).toNat) (Int32.ofInt 0) := ⟨_, rfl⟩
            rw [← eU36]
            have hHU36 : HI U36 := by rw [eU36]; exact HI_any hHU34 (rfl)
            have hFU36 : FR md_mo_nows__q S U36 := by rw [eU36]; exact FR.wI hFU34 (mdf_i (r := (932, 933, 0, 100000)) (List.mem_of_getElem? (i := 3) rfl) (inR_i (by omega) (by omega) (by omega) (by omega)))
            have w125 : Xi U36 932 ((((12 * z73) + c104)).toNat) = 0 := by rw [eU36]; exact Xi_same (by unfold rg; omega)
            have x416 : TXM U36 := txm_w (o := z73) (p := c104) eU30 eU34 eU36 rfl (by omega) (by omega) (by omega) (by omega) (by unfold rg; omega) (by unfold rg; omega) (fun _ => by first | exact Or.inl (by omega) | exact okt_2 (hk1.2.2.2.2 (by omega)) (by omega) (by omega)) hX
            have K416 : True := trivial
            have N416 : NOW S U36 q.toNat noun := by first | exact Or.inr (Or.inr (Or.inl ⟨by omega, by omega, by rw [W8]; exact spr_i eU30 eU34 eU36 (by omega) (by omega) (by omega)⟩)) | exact Or.inr (Or.inr (Or.inr ⟨by omega, by omega, by rw [W8]; exact spr_i eU30 eU34 eU36 (by omega) (by omega) (by omega)⟩))
            refine l_return rfl rfl ?_
            exact ⟨hHU36, hFU36, rfl, (by first | exact x416 | assumption | exact TXM_FR (FR_e eU36) rfl (by first | assumption | exact TXM_FR (FR_e eU34) rfl hX)), (by first | (have t := K207; exact N207) | (have t := K296; exact N296) | (have t := K416; exact N416))⟩
    · refine l_aload_n rfl rfl ?_
      refine l_gfr rfl rfl rfl rfl rfl (hH.r 904 122 973 rfl) ?_
      refine l_iload_n rfl rfl ?_
      refine l_iaload (n := 2400) rfl rfl (by omega) (by omega) (by unfold rg; omega) ?_
      have w126 : -2147483648 ≤ (Xi S 973 ((q).toNat)) ∧ (Xi S 973 ((q).toNat)) ≤ 2147483647 := Xi_rgI
      refine l_bipush rfl rfl ?_
      refine l_icmp_ge rfl rfl (by unfold rg; omega) (by unfold rg; omega) (fun w127 => ?_) (fun w128 => ?_)
      · refine l_aload_n rfl rfl ?_
        refine l_gfr rfl rfl rfl rfl rfl (hH.r 904 118 969 rfl) ?_
        refine l_iload_n rfl rfl ?_
        refine l_iaload (n := 2400) rfl rfl (by omega) (by omega) (by unfold rg; omega) ?_
        refine l_iconst rfl ?_
        refine l_icmp_ne rfl rfl (by unfold rg; omega) (by unfold rg; omega) (fun w129 => ?_) (fun w130 => ?_)
        · refine l_aload_n rfl rfl ?_
          refine l_gfr rfl rfl rfl rfl rfl (hH.r 904 121 972 rfl) ?_
          refine l_iload_n rfl rfl ?_
          refine l_iaload (n := 2400) rfl rfl (by omega) (by omega) (by unfold rg; omega) ?_
          have w131 : -1 ≤ (Xi S 972 ((q).toNat)) ∧ (Xi S 972 ((q).toNat)) ≤ 11 := hH.c _ _
          refine l_istore rfl rfl rfl ?_
          refine l_aload_n rfl rfl ?_
          refine l_gfr rfl rfl rfl rfl rfl (hH.r 904 35 930 rfl) ?_
          refine l_bipush rfl rfl ?_
          refine l_iload_n rfl rfl ?_
          refine l_imul rfl ?_
          refine l_iload rfl rfl ?_
          refine l_iadd rfl ?_
          refine l_iconst rfl ?_
          refine l_bastoreZ1 (n := 288) rfl rfl (by omega) (by omega) (by unfold rg; omega) ⟨by omega, by omega⟩ ?_
          obtain ⟨U37, eU37⟩ : ∃ T : sS, T = uI S 930 ((((12 * z73) + (Xi S 972 ((q).toNat)))).toNat) (Int32.ofInt 1) := ⟨_, rfl⟩
          rw [← eU37]
          have hHU37 : HI U37 := by rw [eU37]; exact HI_w hH (show 0 ≤ 1 by omega) (show 1 ≤ 1 by omega)
          have hFU37 : FR md_mo_nows__q S U37 := by rw [eU37]; exact FR.wI hF (mdf_i (r := (930, 931, 0, 100000)) (List.mem_of_getElem? (i := 1) rfl) (inR_i (by omega) (by omega) (by omega) (by omega)))
          have w132 : Xi U37 930 ((((12 * z73) + (Xi S 972 ((q).toNat)))).toNat) = 1 := by rw [eU37]; exact Xi_same (by unfold rg; omega)
          refine l_aload_n rfl rfl ?_
          refine l_gfr rfl rfl rfl rfl rfl (hHU37.r 904 36 931 rfl) ?_
          refine l_bipush rfl rfl ?_
          refine l_iload_n rfl rfl ?_
          refine l_imul rfl ?_
          refine l_iload rfl rfl ?_
          refine l_iadd rfl ?_
          refine l_aload_n rfl rfl ?_
          refine l_gfr rfl rfl rfl rfl rfl (hHU37.r 904 118 969 rfl) ?_
          refine l_iload_n rfl rfl ?_
          refine l_iaload (n := 2400) rfl rfl (by omega) (by omega) (by unfold rg; omega) ?_
          have w133 : (Xi U37 969 ((q).toNat)) = (Xi S 969 ((q).toNat)) := (show Xi U37 969 ((q).toNat) = Xi S 969 ((q).toNat) from by rw [eU37]; exact Xi_ne (by omega))
          rw [w133]
          refine l_iconst rfl ?_
          refine l_icmp_ne rfl rfl (by unfold rg; omega) (by unfold rg; omega) (fun w134 => ?_) (fun w135 => ?_)
          · refine l_aload_n rfl rfl ?_
            refine l_gfr rfl rfl rfl rfl rfl (hHU37.r 904 122 973 rfl) ?_
            refine l_iload_n rfl rfl ?_
            refine l_iaload (n := 2400) rfl rfl (by omega) (by omega) (by unfold rg; omega) ?_
            have w136 : (Xi U37 973 ((q).toNat)) = (Xi S 973 ((q).toNat)) := (show Xi U37 973 ((q).toNat) = Xi S 973 ((q).toNat) from by rw [eU37]; exact Xi_ne (by omega))
            rw [w136]
            have e383 : (Xi S 973 ((q).toNat)) = Xi S 973 q.toNat := by first | rfl | exact (hFU37.cx 973 rfl _).1
            refine l_iastore (n := 288) rfl rfl (by omega) (by omega) (by unfold rg; omega) ?_
            obtain ⟨U38, eU38⟩ : ∃ T : sS, T = uI U37 931 ((((12 * z73) + (Xi S 972 ((q).toNat)))).toNat) (Int32.ofInt (Xi S 973 ((q).toNat))) := ⟨_, rfl⟩
            rw [← eU38]
            have hHU38 : HI U38 := by rw [eU38]; exact HI_any hHU37 (rfl)
            have hFU38 : FR md_mo_nows__q S U38 := by rw [eU38]; exact FR.wI hFU37 (mdf_i (r := (931, 932, 0, 100000)) (List.mem_of_getElem? (i := 2) rfl) (inR_i (by omega) (by omega) (by omega) (by omega)))
            have w137 : Xi U38 931 ((((12 * z73) + (Xi S 972 ((q).toNat)))).toNat) = (Xi S 973 ((q).toNat)) := by rw [eU38]; exact Xi_same (by unfold rg; omega)
            refine l_aload_n rfl rfl ?_
            refine l_gfr rfl rfl rfl rfl rfl (hHU38.r 904 37 932 rfl) ?_
            refine l_bipush rfl rfl ?_
            refine l_iload_n rfl rfl ?_
            refine l_imul rfl ?_
            refine l_iload rfl rfl ?_
            refine l_iadd rfl ?_
            refine l_aload_n rfl rfl ?_
            refine l_gfr rfl rfl rfl rfl rfl (hHU38.r 904 118 969 rfl) ?_
            refine l_iload_n rfl rfl ?_
            refine l_iaload (n := 2400) rfl rfl (by omega) (by omega) (by unfold rg; omega) ?_
            have w138 : (Xi U38 969 ((q).toNat)) = (Xi S 969 ((q).toNat)) := (show Xi U38 969 ((q).toNat) = Xi U37 969 ((q).toNat) from by rw [eU38]; exact Xi_ne (by omega)).trans ((show Xi U37 969 ((q).toNat) = Xi S 969 ((q).toNat) from by rw [eU37]; exact Xi_ne (by omega)))
            rw [w138]
            refine l_iconst rfl ?_
            refine l_icmp_ne rfl rfl (by unfold rg; omega) (by unfold rg; omega) (fun w139 => ?_) (fun w140 => ?_)
            · refine l_aload_n rfl rfl ?_
              refine l_gfr rfl rfl rfl rfl rfl (hHU38.r 904 123 974 rfl) ?_
              refine l_iload_n rfl rfl ?_
              refine l_iaload (n := 2400) rfl rfl (by omega) (by omega) (by unfold rg; omega) ?_
              have w141 : -2147483648 ≤ (Xi U38 974 ((q).toNat)) ∧ (Xi U38 974 ((q).toNat)) ≤ 2147483647 := Xi_rgI
              have e415 : (Xi U38 974 ((q).toNat)) = Xi S 974 q.toNat := by first | rfl | exact (hFU38.cx 974 rfl _).1
              refine l_iastore (n := 288) rfl rfl (by omega) (by omega) (by unfold rg; omega) ?_
              obtain ⟨U39, eU39⟩ : ∃ T : sS, T = uI U38 932 ((((12 * z73) + (Xi S 972 ((q).toNat)))).toNat) (Int32.ofInt (Xi U38 974 ((q).toNat))) := ⟨_, rfl⟩
              rw [← eU39]
              have hHU39 : HI U39 := by rw [eU39]; exact HI_any hHU38 (rfl)
              have hFU39 : FR md_mo_nows__q S U39 := by rw [eU39]; exact FR.wI hFU38 (mdf_i (r := (932, 933, 0, 100000)) (List.mem_of_getElem? (i := 3) rfl) (inR_i (by omega) (by omega) (by omega) (by omega)))
              have w142 : Xi U39 932 ((((12 * z73) + (Xi S 972 ((q).toNat)))).toNat) = (Xi U38 974 ((q).toNat)) := by rw [eU39]; exact Xi_same (by unfold rg; omega)
              have x416 : TXM U39 := txm_w (o := z73) (p := (Xi S 972 ((q).toNat))) eU37 eU38 eU39 rfl (by omega) (by omega) (by omega) (by omega) (by unfold rg; omega) (by unfold rg; omega) (fun _ => by first | exact Or.inl (by omega) | exact okt_2 (hk1.2.2.2.2 (by omega)) (by omega) (by omega)) hX
              have K416 : True := trivial
              have N416 : NOW S U39 q.toNat noun := by first | exact Or.inr (Or.inr (Or.inl ⟨by omega, by omega, by rw [W8]; exact spr_i eU37 eU38 eU39 (by omega) (by omega) (by omega)⟩)) | exact Or.inr (Or.inr (Or.inr ⟨by omega, by omega, by rw [W8]; exact spr_i eU37 eU38 eU39 (by omega) (by omega) (by omega)⟩))
              refine l_return rfl rfl ?_
              exact ⟨hHU39, hFU39, rfl, (by first | exact x416 | assumption | exact TXM_FR (FR_e eU39) rfl (by first | assumption | exact TXM_FR (FR_e eU38) rfl hX)), (by first | (have t := K207; exact N207) | (have t := K296; exact N296) | (have t := K416; exact N416))⟩
            · refine l_iconst rfl ?_
              refine l_goto rfl rfl ?_
              refine l_iastore (n := 288) rfl rfl (by omega) (by omega) (by unfold rg; omega) ?_
              obtain ⟨U40, eU40⟩ : ∃ T : sS, T = uI U38 932 ((((12 * z73) + (Xi S 972 ((q).toNat)))).toNat) (Int32.ofInt 0) := ⟨_, rfl⟩
              rw [← eU40]
              have hHU40 : HI U40 := by rw [eU40]; exact HI_any hHU38 (rfl)
              have hFU40 : FR md_mo_nows__q S U40 := by rw [eU40]; exact FR.wI hFU38 (mdf_i (r := (932, 933, 0, 100000)) (List.mem_of_getElem? (i := 3) rfl) (inR_i (by omega) (by omega) (by omega) (by omega)))
              have w143 : Xi U40 932 ((((12 * z73) + (Xi S 972 ((q).toNat)))).toNat) = 0 := by rw [eU40]; exact Xi_same (by unfold rg; omega)
              have x416 : TXM U40 := txm_w (o := z73) (p := (Xi S 972 ((q).toNat))) eU37 eU38 eU40 rfl (by omega) (by omega) (by omega) (by omega) (by unfold rg; omega) (by unfold rg; omega) (fun _ => by first | exact Or.inl (by omega) | exact okt_2 (hk1.2.2.2.2 (by omega)) (by omega) (by omega)) hX
              have K416 : True := trivial
              have N416 : NOW S U40 q.toNat noun := by first | exact Or.inr (Or.inr (Or.inl ⟨by omega, by omega, by rw [W8]; exact spr_i eU37 eU38 eU40 (by omega) (by omega) (by omega)⟩)) | exact Or.inr (Or.inr (Or.inr ⟨by omega, by omega, by rw [W8]; exact spr_i eU37 eU38 eU40 (by omega) (by omega) (by omega)⟩))
              refine l_return rfl rfl ?_
              exact ⟨hHU40, hFU40, rfl, (by first | exact x416 | assumption | exact TXM_FR (FR_e eU40) rfl (by first | assumption | exact TXM_FR (FR_e eU38) rfl hX)), (by first | (have t := K207; exact N207) | (have t := K296; exact N296) | (have t := K416; exact N416))⟩
          · refine l_aload_n rfl rfl ?_
            refine l_gfr rfl rfl rfl rfl rfl (hHU37.r 904 122 973 rfl) ?_
            refine l_iload_n rfl rfl ?_
            refine l_iaload (n := 2400) rfl rfl (by omega) (by omega) (by unfold rg; omega) ?_
            have w144 : (Xi U37 973 ((q).toNat)) = (Xi S 973 ((q).toNat)) := (show Xi U37 973 ((q).toNat) = Xi S 973 ((q).toNat) from by rw [eU37]; exact Xi_ne (by omega))
            rw [w144]
            refine l_bipush rfl rfl ?_
            refine l_idivP rfl (by omega) (by omega) (by unfold rg; omega) (by unfold rg; omega) ?_
            refine l_iconst rfl ?_
            refine l_isub rfl ?_
            refine l_goto rfl rfl ?_
            refine l_iastore (n := 288) rfl rfl (by omega) (by omega) (by unfold rg; omega) ?_
            obtain ⟨U41, eU41⟩ : ∃ T : sS, T = uI U37 931 ((((12 * z73) + (Xi S 972 ((q).toNat)))).toNat) (Int32.ofInt (((Xi S 973 ((q).toNat)) / 100) - 1)) := ⟨_, rfl⟩
            rw [← eU41]
            have hHU41 : HI U41 := by rw [eU41]; exact HI_any hHU37 (rfl)
            have hFU41 : FR md_mo_nows__q S U41 := by rw [eU41]; exact FR.wI hFU37 (mdf_i (r := (931, 932, 0, 100000)) (List.mem_of_getElem? (i := 2) rfl) (inR_i (by omega) (by omega) (by omega) (by omega)))
            have w146 : Xi U41 931 ((((12 * z73) + (Xi S 972 ((q).toNat)))).toNat) = (((Xi S 973 ((q).toNat)) / 100) - 1) := by rw [eU41]; exact Xi_same (by unfold rg; omega)
            refine l_aload_n rfl rfl ?_
            refine l_gfr rfl rfl rfl rfl rfl (hHU41.r 904 37 932 rfl) ?_
            refine l_bipush rfl rfl ?_
            refine l_iload_n rfl rfl ?_
            refine l_imul rfl ?_
            refine l_iload rfl rfl ?_
            refine l_iadd rfl ?_
            refine l_aload_n rfl rfl ?_
            refine l_gfr rfl rfl rfl rfl rfl (hHU41.r 904 118 969 rfl) ?_
            refine l_iload_n rfl rfl ?_
            refine l_iaload (n := 2400) rfl rfl (by omega) (by omega) (by unfold rg; omega) ?_
            have w147 : (Xi U41 969 ((q).toNat)) = (Xi S 969 ((q).toNat)) := (show Xi U41 969 ((q).toNat) = Xi U37 969 ((q).toNat) from by rw [eU41]; exact Xi_ne (by omega)).trans ((show Xi U37 969 ((q).toNat) = Xi S 969 ((q).toNat) from by rw [eU37]; exact Xi_ne (by omega)))
            rw [w147]
            refine l_iconst rfl ?_
            refine l_icmp_ne rfl rfl (by unfold rg; omega) (by unfold rg; omega) (fun w148 => ?_) (fun w149 => ?_)
            · refine l_aload_n rfl rfl ?_
              refine l_gfr rfl rfl rfl rfl rfl (hHU41.r 904 123 974 rfl) ?_
              refine l_iload_n rfl rfl ?_
              refine l_iaload (n := 2400) rfl rfl (by omega) (by omega) (by unfold rg; omega) ?_
              have w150 : -2147483648 ≤ (Xi U41 974 ((q).toNat)) ∧ (Xi U41 974 ((q).toNat)) ≤ 2147483647 := Xi_rgI
              have e415 : (Xi U41 974 ((q).toNat)) = Xi S 974 q.toNat := by first | rfl | exact (hFU41.cx 974 rfl _).1
              refine l_iastore (n := 288) rfl rfl (by omega) (by omega) (by unfold rg; omega) ?_
              obtain ⟨U42, eU42⟩ : ∃ T : sS, T = uI U41 932 ((((12 * z73) + (Xi S 972 ((q).toNat)))).toNat) (Int32.ofInt (Xi U41 974 ((q).toNat))) := ⟨_, rfl⟩
              rw [← eU42]
              have hHU42 : HI U42 := by rw [eU42]; exact HI_any hHU41 (rfl)
              have hFU42 : FR md_mo_nows__q S U42 := by rw [eU42]; exact FR.wI hFU41 (mdf_i (r := (932, 933, 0, 100000)) (List.mem_of_getElem? (i := 3) rfl) (inR_i (by omega) (by omega) (by omega) (by omega)))
              have w151 : Xi U42 932 ((((12 * z73) + (Xi S 972 ((q).toNat)))).toNat) = (Xi U41 974 ((q).toNat)) := by rw [eU42]; exact Xi_same (by unfold rg; omega)
              have x416 : TXM U42 := txm_w (o := z73) (p := (Xi S 972 ((q).toNat))) eU37 eU41 eU42 rfl (by omega) (by omega) (by omega) (by omega) (by unfold rg; omega) (by unfold rg; omega) (fun _ => by first | exact Or.inl (by omega) | exact okt_2 (hk1.2.2.2.2 (by omega)) (by omega) (by omega)) hX
              have K416 : True := trivial
              have N416 : NOW S U42 q.toNat noun := by first | exact Or.inr (Or.inr (Or.inl ⟨by omega, by omega, by rw [W8]; exact spr_i eU37 eU41 eU42 (by omega) (by omega) (by omega)⟩)) | exact Or.inr (Or.inr (Or.inr ⟨by omega, by omega, by rw [W8]; exact spr_i eU37 eU41 eU42 (by omega) (by omega) (by omega)⟩))
              refine l_return rfl rfl ?_
              exact ⟨hHU42, hFU42, rfl, (by first | exact x416 | assumption | exact TXM_FR (FR_e eU42) rfl (by first | assumption | exact TXM_FR (FR_e eU41) rfl hX)), (by first | (have t := K207; exact N207) | (have t := K296; exact N296) | (have t := K416; exact N416))⟩
            · refine l_iconst rfl ?_
              refine l_goto rfl rfl ?_
              refine l_iastore (n := 288) rfl rfl (by omega) (by omega) (by unfold rg; omega) ?_
              obtain ⟨U43, eU43⟩ : ∃ T : sS, T = uI U41 932 ((((12 * z73) + (Xi S 972 ((q).toNat)))).toNat) (Int32.ofInt 0) := ⟨_, rfl⟩
              rw [← eU43]
              have hHU43 : HI U43 := by rw [eU43]; exact HI_any hHU41 (rfl)
              have hFU43 : FR md_mo_nows__q S U43 := by rw [eU43]; exact FR.wI hFU41 (mdf_i (r := (932, 933, 0, 100000)) (List.mem_of_getElem? (i := 3) rfl) (inR_i (by omega) (by omega) (by omega) (by omega)))
              have w152 : Xi U43 932 ((((12 * z73) + (Xi S 972 ((q).toNat)))).toNat) = 0 := by rw [eU43]; exact Xi_same (by unfold rg; omega)
              have x416 : TXM U43 := txm_w (o := z73) (p := (Xi S 972 ((q).toNat))) eU37 eU41 eU43 rfl (by omega) (by omega) (by omega) (by omega) (by unfold rg; omega) (by unfold rg; omega) (fun _ => by first | exact Or.inl (by omega) | exact okt_2 (hk1.2.2.2.2 (by omega)) (by omega) (by omega)) hX
              have K416 : True := trivial
              have N416 : NOW S U43 q.toNat noun := by first | exact Or.inr (Or.inr (Or.inl ⟨by omega, by omega, by rw [W8]; exact spr_i eU37 eU41 eU43 (by omega) (by omega) (by omega)⟩)) | exact Or.inr (Or.inr (Or.inr ⟨by omega, by omega, by rw [W8]; exact spr_i eU37 eU41 eU43 (by omega) (by omega) (by omega)⟩))
              refine l_return rfl rfl ?_
              exact ⟨hHU43, hFU43, rfl, (by first | exact x416 | assumption | exact TXM_FR (FR_e eU43) rfl (by first | assumption | exact TXM_FR (FR_e eU41) rfl hX)), (by first | (have t := K207; exact N207) | (have t := K296; exact N296) | (have t := K416; exact N416))⟩
        · refine l_aload_n rfl rfl ?_
          refine l_gfr rfl rfl rfl rfl rfl (hH.r 904 122 973 rfl) ?_
          refine l_iload_n rfl rfl ?_
          refine l_iaload (n := 2400) rfl rfl (by omega) (by omega) (by unfold rg; omega) ?_
          refine l_bipush rfl rfl ?_
          refine l_iremA rfl (by omega) (by unfold rg; omega) (by unfold rg; omega) (fun c153 w153 w153b w153c => ?_)
          refine l_goto rfl rfl ?_
          refine l_istore rfl rfl rfl ?_
          refine l_aload_n rfl rfl ?_
          refine l_gfr rfl rfl rfl rfl rfl (hH.r 904 35 930 rfl) ?_
          refine l_bipush rfl rfl ?_
          refine l_iload_n rfl rfl ?_
          refine l_imul rfl ?_
          refine l_iload rfl rfl ?_
          refine l_iadd rfl ?_
          refine l_iconst rfl ?_
          refine l_bastoreZ1 (n := 288) rfl rfl (by omega) (by omega) (by unfold rg; omega) ⟨by omega, by omega⟩ ?_
          obtain ⟨U44, eU44⟩ : ∃ T : sS, T = uI S 930 ((((12 * z73) + c153)).toNat) (Int32.ofInt 1) := ⟨_, rfl⟩
          rw [← eU44]
          have hHU44 : HI U44 := by rw [eU44]; exact HI_w hH (show 0 ≤ 1 by omega) (show 1 ≤ 1 by omega)
          have hFU44 : FR md_mo_nows__q S U44 := by rw [eU44]; exact FR.wI hF (mdf_i (r := (930, 931, 0, 100000)) (List.mem_of_getElem? (i := 1) rfl) (inR_i (by omega) (by omega) (by omega) (by omega)))
          have w154 : Xi U44 930 ((((12 * z73) + c153)).toNat) = 1 := by rw [eU44]; exact Xi_same (by unfold rg; omega)
          refine l_aload_n rfl rfl ?_
          refine l_gfr rfl rfl rfl rfl rfl (hHU44.r 904 36 931 rfl) ?_
          refine l_bipush rfl rfl ?_
          refine l_iload_n rfl rfl ?_
          refine l_imul rfl ?_
          refine l_iload rfl rfl ?_
          refine l_iadd rfl ?_
          refine l_aload_n rfl rfl ?_
          refine l_gfr rfl rfl rfl rfl rfl (hHU44.r 904 118 969 rfl) ?_
          refine l_iload_n rfl rfl ?_
          refine l_iaload (n := 2400) rfl rfl (by omega) (by omega) (by unfold rg; omega) ?_
          have w155 : (Xi U44 969 ((q).toNat)) = (Xi S 969 ((q).toNat)) := (show Xi U44 969 ((q).toNat) = Xi S 969 ((q).toNat) from by rw [eU44]; exact Xi_ne (by omega))
          rw [w155]
          refine l_iconst rfl ?_
          refine l_icmp_ne rfl rfl (by unfold rg; omega) (by unfold rg; omega) (fun w156 => ?_) (fun w157 => ?_)
          · refine l_aload_n rfl rfl ?_
            refine l_gfr rfl rfl rfl rfl rfl (hHU44.r 904 122 973 rfl) ?_
            refine l_iload_n rfl rfl ?_
            refine l_iaload (n := 2400) rfl rfl (by omega) (by omega) (by unfold rg; omega) ?_
            have w158 : (Xi U44 973 ((q).toNat)) = (Xi S 973 ((q).toNat)) := (show Xi U44 973 ((q).toNat) = Xi S 973 ((q).toNat) from by rw [eU44]; exact Xi_ne (by omega))
            rw [w158]
            have e383 : (Xi S 973 ((q).toNat)) = Xi S 973 q.toNat := by first | rfl | exact (hFU44.cx 973 rfl _).1
            refine l_iastore (n := 288) rfl rfl (by omega) (by omega) (by unfold rg; omega) ?_
            obtain ⟨U45, eU45⟩ : ∃ T : sS, T = uI U44 931 ((((12 * z73) + c153)).toNat) (Int32.ofInt (Xi S 973 ((q).toNat))) := ⟨_, rfl⟩
            rw [← eU45]
            have hHU45 : HI U45 := by rw [eU45]; exact HI_any hHU44 (rfl)
            have hFU45 : FR md_mo_nows__q S U45 := by rw [eU45]; exact FR.wI hFU44 (mdf_i (r := (931, 932, 0, 100000)) (List.mem_of_getElem? (i := 2) rfl) (inR_i (by omega) (by omega) (by omega) (by omega)))
            have w159 : Xi U45 931 ((((12 * z73) + c153)).toNat) = (Xi S 973 ((q).toNat)) := by rw [eU45]; exact Xi_same (by unfold rg; omega)
            refine l_aload_n rfl rfl ?_
            refine l_gfr rfl rfl rfl rfl rfl (hHU45.r 904 37 932 rfl) ?_
            refine l_bipush rfl rfl ?_
            refine l_iload_n rfl rfl ?_
            refine l_imul rfl ?_
            refine l_iload rfl rfl ?_
            refine l_iadd rfl ?_
            refine l_aload_n rfl rfl ?_
            refine l_gfr rfl rfl rfl rfl rfl (hHU45.r 904 118 969 rfl) ?_
            refine l_iload_n rfl rfl ?_
            refine l_iaload (n := 2400) rfl rfl (by omega) (by omega) (by unfold rg; omega) ?_
            have w160 : (Xi U45 969 ((q).toNat)) = (Xi S 969 ((q).toNat)) := (show Xi U45 969 ((q).toNat) = Xi U44 969 ((q).toNat) from by rw [eU45]; exact Xi_ne (by omega)).trans ((show Xi U44 969 ((q).toNat) = Xi S 969 ((q).toNat) from by rw [eU44]; exact Xi_ne (by omega)))
            rw [w160]
            refine l_iconst rfl ?_
            refine l_icmp_ne rfl rfl (by unfold rg; omega) (by unfold rg; omega) (fun w161 => ?_) (fun w162 => ?_)
            · refine l_aload_n rfl rfl ?_
              refine l_gfr rfl rfl rfl rfl rfl (hHU45.r 904 123 974 rfl) ?_
              refine l_iload_n rfl rfl ?_
              refine l_iaload (n := 2400) rfl rfl (by omega) (by omega) (by unfold rg; omega) ?_
              have w163 : -2147483648 ≤ (Xi U45 974 ((q).toNat)) ∧ (Xi U45 974 ((q).toNat)) ≤ 2147483647 := Xi_rgI
              have e415 : (Xi U45 974 ((q).toNat)) = Xi S 974 q.toNat := by first | rfl | exact (hFU45.cx 974 rfl _).1
              refine l_iastore (n := 288) rfl rfl (by omega) (by omega) (by unfold rg; omega) ?_
              obtain ⟨U46, eU46⟩ : ∃ T : sS, T = uI U45 932 ((((12 * z73) + c153)).toNat) (Int32.ofInt (Xi U45 974 ((q).toNat))) := ⟨_, rfl⟩
              rw [← eU46]
              have hHU46 : HI U46 := by rw [eU46]; exact HI_any hHU45 (rfl)
              have hFU46 : FR md_mo_nows__q S U46 := by rw [eU46]; exact FR.wI hFU45 (mdf_i (r := (932, 933, 0, 100000)) (List.mem_of_getElem? (i := 3) rfl) (inR_i (by omega) (by omega) (by omega) (by omega)))
              have w164 : Xi U46 932 ((((12 * z73) + c153)).toNat) = (Xi U45 974 ((q).toNat)) := by rw [eU46]; exact Xi_same (by unfold rg; omega)
              have x416 : TXM U46 := txm_w (o := z73) (p := c153) eU44 eU45 eU46 rfl (by omega) (by omega) (by omega) (by omega) (by unfold rg; omega) (by unfold rg; omega) (fun _ => by first | exact Or.inl (by omega) | exact okt_2 (hk1.2.2.2.2 (by omega)) (by omega) (by omega)) hX
              have K416 : True := trivial
              have N416 : NOW S U46 q.toNat noun := by first | exact Or.inr (Or.inr (Or.inl ⟨by omega, by omega, by rw [W8]; exact spr_i eU44 eU45 eU46 (by omega) (by omega) (by omega)⟩)) | exact Or.inr (Or.inr (Or.inr ⟨by omega, by omega, by rw [W8]; exact spr_i eU44 eU45 eU46 (by omega) (by omega) (by omega)⟩))
              refine l_return rfl rfl ?_
              exact ⟨hHU46, hFU46, rfl, (by first | exact x416 | assumption | exact TXM_FR (FR_e eU46) rfl (by first | assumption | exact TXM_FR (FR_e eU45) rfl hX)), (by first | (have t := K207; exact N207) | (have t := K296; exact N296) | (have t := K416; exact N416))⟩
            · refine l_iconst rfl ?_
              refine l_goto rfl rfl ?_
              refine l_iastore (n := 288) rfl rfl (by omega) (by omega) (by unfold rg; omega) ?_
              obtain ⟨U47, eU47⟩ : ∃ T : sS, T = uI U45 932 ((((12 * z73) + c153)).toNat) (Int32.ofInt 0) := ⟨_, rfl⟩
              rw [← eU47]
              have hHU47 : HI U47 := by rw [eU47]; exact HI_any hHU45 (rfl)
              have hFU47 : FR md_mo_nows__q S U47 := by rw [eU47]; exact FR.wI hFU45 (mdf_i (r := (932, 933, 0, 100000)) (List.mem_of_getElem? (i := 3) rfl) (inR_i (by omega) (by omega) (by omega) (by omega)))
              have w165 : Xi U47 932 ((((12 * z73) + c153)).toNat) = 0 := by rw [eU47]; exact Xi_same (by unfold rg; omega)
              have x416 : TXM U47 := txm_w (o := z73) (p := c153) eU44 eU45 eU47 rfl (by omega) (by omega) (by omega) (by omega) (by unfold rg; omega) (by unfold rg; omega) (fun _ => by first | exact Or.inl (by omega) | exact okt_2 (hk1.2.2.2.2 (by omega)) (by omega) (by omega)) hX
              have K416 : True := trivial
              have N416 : NOW S U47 q.toNat noun := by first | exact Or.inr (Or.inr (Or.inl ⟨by omega, by omega, by rw [W8]; exact spr_i eU44 eU45 eU47 (by omega) (by omega) (by omega)⟩)) | exact Or.inr (Or.inr (Or.inr ⟨by omega, by omega, by rw [W8]; exact spr_i eU44 eU45 eU47 (by omega) (by omega) (by omega)⟩))
              refine l_return rfl rfl ?_
              exact ⟨hHU47, hFU47, rfl, (by first | exact x416 | assumption | exact TXM_FR (FR_e eU47) rfl (by first | assumption | exact TXM_FR (FR_e eU45) rfl hX)), (by first | (have t := K207; exact N207) | (have t := K296; exact N296) | (have t := K416; exact N416))⟩
          · refine l_aload_n rfl rfl ?_
            refine l_gfr rfl rfl rfl rfl rfl (hHU44.r 904 122 973 rfl) ?_
            refine l_iload_n rfl rfl ?_
            refine l_iaload (n := 2400) rfl rfl (by omega) (by omega) (by unfold rg; omega) ?_
            have w166 : (Xi U44 973 ((q).toNat)) = (Xi S 973 ((q).toNat)) := (show Xi U44 973 ((q).toNat) = Xi S 973 ((q).toNat) from by rw [eU44]; exact Xi_ne (by omega))
            rw [w166]
            refine l_bipush rfl rfl ?_
            refine l_idivP rfl (by omega) (by omega) (by unfold rg; omega) (by unfold rg; omega) ?_
            refine l_iconst rfl ?_
            refine l_isub rfl ?_
            refine l_goto rfl rfl ?_
            refine l_iastore (n := 288) rfl rfl (by omega) (by omega) (by unfold rg; omega) ?_
            obtain ⟨U48, eU48⟩ : ∃ T : sS, T = uI U44 931 ((((12 * z73) + c153)).toNat) (Int32.ofInt (((Xi S 973 ((q).toNat)) / 100) - 1)) := ⟨_, rfl⟩
            rw [← eU48]
            have hHU48 : HI U48 := by rw [eU48]; exact HI_any hHU44 (rfl)
            have hFU48 : FR md_mo_nows__q S U48 := by rw [eU48]; exact FR.wI hFU44 (mdf_i (r := (931, 932, 0, 100000)) (List.mem_of_getElem? (i := 2) rfl) (inR_i (by omega) (by omega) (by omega) (by omega)))
            have w168 : Xi U48 931 ((((12 * z73) + c153)).toNat) = (((Xi S 973 ((q).toNat)) / 100) - 1) := by rw [eU48]; exact Xi_same (by unfold rg; omega)
            refine l_aload_n rfl rfl ?_
            refine l_gfr rfl rfl rfl rfl rfl (hHU48.r 904 37 932 rfl) ?_
            refine l_bipush rfl rfl ?_
            refine l_iload_n rfl rfl ?_
            refine l_imul rfl ?_
            refine l_iload rfl rfl ?_
            refine l_iadd rfl ?_
            refine l_aload_n rfl rfl ?_
            refine l_gfr rfl rfl rfl rfl rfl (hHU48.r 904 118 969 rfl) ?_
            refine l_iload_n rfl rfl ?_
            refine l_iaload (n := 2400) rfl rfl (by omega) (by omega) (by unfold rg; omega) ?_
            have w169 : (Xi U48 969 ((q).toNat)) = (Xi S 969 ((q).toNat)) := (show Xi U48 969 ((q).toNat) = Xi U44 969 ((q).toNat) from by rw [eU48]; exact Xi_ne (by omega)).trans ((show Xi U44 969 ((q).toNat) = Xi S 969 ((q).toNat) from by rw [eU44]; exact Xi_ne (by omega)))
            rw [w169]
            refine l_iconst rfl ?_
            refine l_icmp_ne rfl rfl (by unfold rg; omega) (by unfold rg; omega) (fun w170 => ?_) (fun w171 => ?_)
            · refine l_aload_n rfl rfl ?_
              refine l_gfr rfl rfl rfl rfl rfl (hHU48.r 904 123 974 rfl) ?_
              refine l_iload_n rfl rfl ?_
              refine l_iaload (n := 2400) rfl rfl (by omega) (by omega) (by unfold rg; omega) ?_
              have w172 : -2147483648 ≤ (Xi U48 974 ((q).toNat)) ∧ (Xi U48 974 ((q).toNat)) ≤ 2147483647 := Xi_rgI
              have e415 : (Xi U48 974 ((q).toNat)) = Xi S 974 q.toNat := by first | rfl | exact (hFU48.cx 974 rfl _).1
              refine l_iastore (n := 288) rfl rfl (by omega) (by omega) (by unfold rg; omega) ?_
              obtain ⟨U49, eU49⟩ : ∃ T : sS, T = uI U48 932 ((((12 * z73) + c153)).toNat) (Int32.ofInt (Xi U48 974 ((q).toNat))) := ⟨_, rfl⟩
              rw [← eU49]
              have hHU49 : HI U49 := by rw [eU49]; exact HI_any hHU48 (rfl)
              have hFU49 : FR md_mo_nows__q S U49 := by rw [eU49]; exact FR.wI hFU48 (mdf_i (r := (932, 933, 0, 100000)) (List.mem_of_getElem? (i := 3) rfl) (inR_i (by omega) (by omega) (by omega) (by omega)))
              have w173 : Xi U49 932 ((((12 * z73) + c153)).toNat) = (Xi U48 974 ((q).toNat)) := by rw [eU49]; exact Xi_same (by unfold rg; omega)
              have x416 : TXM U49 := txm_w (o := z73) (p := c153) eU44 eU48 eU49 rfl (by omega) (by omega) (by omega) (by omega) (by unfold rg; omega) (by unfold rg; omega) (fun _ => by first | exact Or.inl (by omega) | exact okt_2 (hk1.2.2.2.2 (by omega)) (by omega) (by omega)) hX
              have K416 : True := trivial
              have N416 : NOW S U49 q.toNat noun := by first | exact Or.inr (Or.inr (Or.inl ⟨by omega, by omega, by rw [W8]; exact spr_i eU44 eU48 eU49 (by omega) (by omega) (by omega)⟩)) | exact Or.inr (Or.inr (Or.inr ⟨by omega, by omega, by rw [W8]; exact spr_i eU44 eU48 eU49 (by omega) (by omega) (by omega)⟩))
              refine l_return rfl rfl ?_
              exact ⟨hHU49, hFU49, rfl, (by first | exact x416 | assumption | exact TXM_FR (FR_e eU49) rfl (by first | assumption | exact TXM_FR (FR_e eU48) rfl hX)), (by first | (have t := K207; exact N207) | (have t := K296; exact N296) | (have t := K416; exact N416))⟩
            · refine l_iconst rfl ?_
              refine l_goto rfl rfl ?_
              refine l_iastore (n := 288) rfl rfl (by omega) (by omega) (by unfold rg; omega) ?_
              obtain ⟨U50, eU50⟩ : ∃ T : sS, T = uI U48 932 ((((12 * z73) + c153)).toNat) (Int32.ofInt 0) := ⟨_, rfl⟩
              rw [← eU50]
              have hHU50 : HI U50 := by rw [eU50]; exact HI_any hHU48 (rfl)
              have hFU50 : FR md_mo_nows__q S U50 := by rw [eU50]; exact FR.wI hFU48 (mdf_i (r := (932, 933, 0, 100000)) (List.mem_of_getElem? (i := 3) rfl) (inR_i (by omega) (by omega) (by omega) (by omega)))
              have w174 : Xi U50 932 ((((12 * z73) + c153)).toNat) = 0 := by rw [eU50]; exact Xi_same (by unfold rg; omega)
              have x416 : TXM U50 := txm_w (o := z73) (p := c153) eU44 eU48 eU50 rfl (by omega) (by omega) (by omega) (by omega) (by unfold rg; omega) (by unfold rg; omega) (fun _ => by first | exact Or.inl (by omega) | exact okt_2 (hk1.2.2.2.2 (by omega)) (by omega) (by omega)) hX
              have K416 : True := trivial
              have N416 : NOW S U50 q.toNat noun := by first | exact Or.inr (Or.inr (Or.inl ⟨by omega, by omega, by rw [W8]; exact spr_i eU44 eU48 eU50 (by omega) (by omega) (by omega)⟩)) | exact Or.inr (Or.inr (Or.inr ⟨by omega, by omega, by rw [W8]; exact spr_i eU44 eU48 eU50 (by omega) (by omega) (by omega)⟩))
              refine l_return rfl rfl ?_
              exact ⟨hHU50, hFU50, rfl, (by first | exact x416 | assumption | exact TXM_FR (FR_e eU50) rfl (by first | assumption | exact TXM_FR (FR_e eU48) rfl hX)), (by first | (have t := K207; exact N207) | (have t := K296; exact N296) | (have t := K416; exact N416))⟩
      · refine l_aload_n rfl rfl ?_
        refine l_gfr rfl rfl rfl rfl rfl (hH.r 904 122 973 rfl) ?_
        refine l_iload_n rfl rfl ?_
        refine l_iaload (n := 2400) rfl rfl (by omega) (by omega) (by unfold rg; omega) ?_
        refine l_istore rfl rfl rfl ?_
        refine l_aload_n rfl rfl ?_
        refine l_gfr rfl rfl rfl rfl rfl (hH.r 904 28 925 rfl) ?_
        refine l_bipush rfl rfl ?_
        refine l_iload_n rfl rfl ?_
        refine l_imul rfl ?_
        refine l_iload rfl rfl ?_
        refine l_iadd rfl ?_
        refine l_aload_n rfl rfl ?_
        refine l_gfr rfl rfl rfl rfl rfl (hH.r 904 119 970 rfl) ?_
        refine l_iload_n rfl rfl ?_
        refine l_baload (n := 2400) rfl rfl rfl (by decide) (by omega) (by omega) (by unfold rg; omega) ?_
        have w175 : 0 ≤ (Xi S 970 ((q).toNat)) ∧ (Xi S 970 ((q).toNat)) ≤ 1 := hH.c _ _
        refine l_if_eq rfl rfl (by unfold rg; omega) (fun w176 => ?_) (fun w177 => ?_)
        · refine l_iconst rfl ?_
          refine l_iastore (n := 576) rfl rfl (by omega) (by omega) (by unfold rg; omega) ?_
          obtain ⟨U51, eU51⟩ : ∃ T : sS, T = uI S 925 ((((24 * z73) + (Xi S 973 ((q).toNat)))).toNat) (Int32.ofInt 1) := ⟨_, rfl⟩
          rw [← eU51]
          have hHU51 : HI U51 := by rw [eU51]; exact HI_w hH (show 0 ≤ 1 by omega) (show 1 ≤ 2 by omega)
          have hFU51 : FR md_mo_nows__q S U51 := by rw [eU51]; exact FR.wI hF (mdf_i (r := (925, 926, 0, 100000)) (List.mem_of_getElem? (i := 0) rfl) (inR_i (by omega) (by omega) (by omega) (by omega)))
          have w178 : Xi U51 925 ((((24 * z73) + (Xi S 973 ((q).toNat)))).toNat) = 1 := by rw [eU51]; exact Xi_same (by unfold rg; omega)
          refine l_aload_n rfl rfl ?_
          refine l_gfr rfl rfl rfl rfl rfl (hHU51.r 904 28 925 rfl) ?_
          refine l_bipush rfl rfl ?_
          refine l_iload_n rfl rfl ?_
          refine l_imul rfl ?_
          refine l_aload_n rfl rfl ?_
          refine l_gfr rfl rfl rfl rfl rfl (hHU51.r 904 25 922 rfl) ?_
          refine l_iload rfl rfl ?_
          refine l_iaload (n := 24) rfl rfl (by omega) (by omega) (by unfold rg; omega) ?_
          have w179 : -1 ≤ (Xi U51 922 (((Xi S 973 ((q).toNat))).toNat)) ∧ (Xi U51 922 (((Xi S 973 ((q).toNat))).toNat)) ≤ 23 := hHU51.c _ _
          have e280 : (Xi U51 922 (((Xi S 973 ((q).toNat))).toNat)) = Xi S 922 (Xi S 973 q.toNat).toNat := by first | rfl | exact (hFU51.cx 922 rfl _).1
          refine l_iadd rfl ?_
          refine l_aload_n rfl rfl ?_
          refine l_gfr rfl rfl rfl rfl rfl (hHU51.r 904 119 970 rfl) ?_
          refine l_iload_n rfl rfl ?_
          refine l_baload (n := 2400) rfl rfl rfl (by decide) (by omega) (by omega) (by unfold rg; omega) ?_
          have w180 : (Xi U51 970 ((q).toNat)) = (Xi S 970 ((q).toNat)) := (show Xi U51 970 ((q).toNat) = Xi S 970 ((q).toNat) from by rw [eU51]; exact Xi_ne (by omega))
          rw [w180]
          refine l_if_eq rfl rfl (by unfold rg; omega) (fun w181 => ?_) (fun w182 => ?_)
          · refine l_iconst rfl ?_
            refine l_iastore (n := 576) rfl rfl (by omega) (by omega) (by unfold rg; omega) ?_
            obtain ⟨U52, eU52⟩ : ∃ T : sS, T = uI U51 925 ((((24 * z73) + (Xi U51 922 (((Xi S 973 ((q).toNat))).toNat)))).toNat) (Int32.ofInt 2) := ⟨_, rfl⟩
            rw [← eU52]
            have hHU52 : HI U52 := by rw [eU52]; exact HI_w hHU51 (show 0 ≤ 2 by omega) (show 2 ≤ 2 by omega)
            have hFU52 : FR md_mo_nows__q S U52 := by rw [eU52]; exact FR.wI hFU51 (mdf_i (r := (925, 926, 0, 100000)) (List.mem_of_getElem? (i := 0) rfl) (inR_i (by omega) (by omega) (by omega) (by omega)))
            have w183 : Xi U52 925 ((((24 * z73) + (Xi U51 922 (((Xi S 973 ((q).toNat))).toNat)))).toNat) = 2 := by rw [eU52]; exact Xi_same (by unfold rg; omega)
            have K296 : True := trivial
            have N296 : NOW S U52 q.toNat noun := Or.inr (Or.inl ⟨by omega, by omega, by rw [W8]; exact sar_i eU51 eU52 (by omega) (by omega)⟩)
            refine l_goto rfl rfl ?_
            refine l_return rfl rfl ?_
            exact ⟨hHU52, hFU52, rfl, (by first | exact x416 | assumption | exact TXM_FR (FR_e eU52) rfl (by first | assumption | exact TXM_FR (FR_e eU51) rfl hX)), (by first | (have t := K207; exact N207) | (have t := K296; exact N296) | (have t := K416; exact N416))⟩
          · refine l_iconst rfl ?_
            refine l_goto rfl rfl ?_
            refine l_iastore (n := 576) rfl rfl (by omega) (by omega) (by unfold rg; omega) ?_
            obtain ⟨U53, eU53⟩ : ∃ T : sS, T = uI U51 925 ((((24 * z73) + (Xi U51 922 (((Xi S 973 ((q).toNat))).toNat)))).toNat) (Int32.ofInt 1) := ⟨_, rfl⟩
            rw [← eU53]
            have hHU53 : HI U53 := by rw [eU53]; exact HI_w hHU51 (show 0 ≤ 1 by omega) (show 1 ≤ 2 by omega)
            have hFU53 : FR md_mo_nows__q S U53 := by rw [eU53]; exact FR.wI hFU51 (mdf_i (r := (925, 926, 0, 100000)) (List.mem_of_getElem? (i := 0) rfl) (inR_i (by omega) (by omega) (by omega) (by omega)))
            have w184 : Xi U53 925 ((((24 * z73) + (Xi U51 922 (((Xi S 973 ((q).toNat))).toNat)))).toNat) = 1 := by rw [eU53]; exact Xi_same (by unfold rg; omega)
            have K296 : True := trivial
            have N296 : NOW S U53 q.toNat noun := Or.inr (Or.inl ⟨by omega, by omega, by rw [W8]; exact sar_i eU51 eU53 (by omega) (by omega)⟩)
            refine l_goto rfl rfl ?_
            refine l_return rfl rfl ?_
            exact ⟨hHU53, hFU53, rfl, (by first | exact x416 | assumption | exact TXM_FR (FR_e eU53) rfl (by first | assumption | exact TXM_FR (FR_e eU51) rfl hX)), (by first | (have t := K207; exact N207) | (have t := K296; exact N296) | (have t := K416; exact N416))⟩
        · refine l_iconst rfl ?_
          refine l_goto rfl rfl ?_
          refine l_iastore (n := 576) rfl rfl (by omega) (by omega) (by unfold rg; omega) ?_
          obtain ⟨U54, eU54⟩ : ∃ T : sS, T = uI S 925 ((((24 * z73) + (Xi S 973 ((q).toNat)))).toNat) (Int32.ofInt 2) := ⟨_, rfl⟩
          rw [← eU54]
          have hHU54 : HI U54 := by rw [eU54]; exact HI_w hH (show 0 ≤ 2 by omega) (show 2 ≤ 2 by omega)
          have hFU54 : FR md_mo_nows__q S U54 := by rw [eU54]; exact FR.wI hF (mdf_i (r := (925, 926, 0, 100000)) (List.mem_of_getElem? (i := 0) rfl) (inR_i (by omega) (by omega) (by omega) (by omega)))
          have w185 : Xi U54 925 ((((24 * z73) + (Xi S 973 ((q).toNat)))).toNat) = 2 := by rw [eU54]; exact Xi_same (by unfold rg; omega)
          refine l_aload_n rfl rfl ?_
          refine l_gfr rfl rfl rfl rfl rfl (hHU54.r 904 28 925 rfl) ?_
          refine l_bipush rfl rfl ?_
          refine l_iload_n rfl rfl ?_
          refine l_imul rfl ?_
          refine l_aload_n rfl rfl ?_
          refine l_gfr rfl rfl rfl rfl rfl (hHU54.r 904 25 922 rfl) ?_
          refine l_iload rfl rfl ?_
          refine l_iaload (n := 24) rfl rfl (by omega) (by omega) (by unfold rg; omega) ?_
          have w186 : -1 ≤ (Xi U54 922 (((Xi S 973 ((q).toNat))).toNat)) ∧ (Xi U54 922 (((Xi S 973 ((q).toNat))).toNat)) ≤ 23 := hHU54.c _ _
          have e280 : (Xi U54 922 (((Xi S 973 ((q).toNat))).toNat)) = Xi S 922 (Xi S 973 q.toNat).toNat := by first | rfl | exact (hFU54.cx 922 rfl _).1
          refine l_iadd rfl ?_
          refine l_aload_n rfl rfl ?_
          refine l_gfr rfl rfl rfl rfl rfl (hHU54.r 904 119 970 rfl) ?_
          refine l_iload_n rfl rfl ?_
          refine l_baload (n := 2400) rfl rfl rfl (by decide) (by omega) (by omega) (by unfold rg; omega) ?_
          have w187 : (Xi U54 970 ((q).toNat)) = (Xi S 970 ((q).toNat)) := (show Xi U54 970 ((q).toNat) = Xi S 970 ((q).toNat) from by rw [eU54]; exact Xi_ne (by omega))
          rw [w187]
          refine l_if_eq rfl rfl (by unfold rg; omega) (fun w188 => ?_) (fun w189 => ?_)
          · refine l_iconst rfl ?_
            refine l_iastore (n := 576) rfl rfl (by omega) (by omega) (by unfold rg; omega) ?_
            obtain ⟨U55, eU55⟩ : ∃ T : sS, T = uI U54 925 ((((24 * z73) + (Xi U54 922 (((Xi S 973 ((q).toNat))).toNat)))).toNat) (Int32.ofInt 2) := ⟨_, rfl⟩
            rw [← eU55]
            have hHU55 : HI U55 := by rw [eU55]; exact HI_w hHU54 (show 0 ≤ 2 by omega) (show 2 ≤ 2 by omega)
            have hFU55 : FR md_mo_nows__q S U55 := by rw [eU55]; exact FR.wI hFU54 (mdf_i (r := (925, 926, 0, 100000)) (List.mem_of_getElem? (i := 0) rfl) (inR_i (by omega) (by omega) (by omega) (by omega)))
            have w190 : Xi U55 925 ((((24 * z73) + (Xi U54 922 (((Xi S 973 ((q).toNat))).toNat)))).toNat) = 2 := by rw [eU55]; exact Xi_same (by unfold rg; omega)
            have K296 : True := trivial
            have N296 : NOW S U55 q.toNat noun := Or.inr (Or.inl ⟨by omega, by omega, by rw [W8]; exact sar_i eU54 eU55 (by omega) (by omega)⟩)
            refine l_goto rfl rfl ?_
            refine l_return rfl rfl ?_
            exact ⟨hHU55, hFU55, rfl, (by first | exact x416 | assumption | exact TXM_FR (FR_e eU55) rfl (by first | assumption | exact TXM_FR (FR_e eU54) rfl hX)), (by first | (have t := K207; exact N207) | (have t := K296; exact N296) | (have t := K416; exact N416))⟩
          · refine l_iconst rfl ?_
            refine l_goto rfl rfl ?_
            refine l_iastore (n := 576) rfl rfl (by omega) (by omega) (by unfold rg; omega) ?_
            obtain ⟨U56, eU56⟩ : ∃ T : sS, T = uI U54 925 ((((24 * z73) + (Xi U54 922 (((Xi S 973 ((q).toNat))).toNat)))).toNat) (Int32.ofInt 1) := ⟨_, rfl⟩
            rw [← eU56]
            have hHU56 : HI U56 := by rw [eU56]; exact HI_w hHU54 (show 0 ≤ 1 by omega) (show 1 ≤ 2 by omega)
            have hFU56 : FR md_mo_nows__q S U56 := by rw [eU56]; exact FR.wI hFU54 (mdf_i (r := (925, 926, 0, 100000)) (List.mem_of_getElem? (i := 0) rfl) (inR_i (by omega) (by omega) (by omega) (by omega)))
            have w191 : Xi U56 925 ((((24 * z73) + (Xi U54 922 (((Xi S 973 ((q).toNat))).toNat)))).toNat) = 1 := by rw [eU56]; exact Xi_same (by unfold rg; omega)
            have K296 : True := trivial
            have N296 : NOW S U56 q.toNat noun := Or.inr (Or.inl ⟨by omega, by omega, by rw [W8]; exact sar_i eU54 eU56 (by omega) (by omega)⟩)
            refine l_goto rfl rfl ?_
            refine l_return rfl rfl ?_
            exact ⟨hHU56, hFU56, rfl, (by first | exact x416 | assumption | exact TXM_FR (FR_e eU56) rfl (by first | assumption | exact TXM_FR (FR_e eU54) rfl hX)), (by first | (have t := K207; exact N207) | (have t := K296; exact N296) | (have t := K416; exact N416))⟩
  · refine l_aload_n rfl rfl ?_
    refine l_gfr rfl rfl rfl rfl rfl (hH.r 904 121 972 rfl) ?_
    refine l_iload_n rfl rfl ?_
    refine l_iaload (n := 2400) rfl rfl (by omega) (by omega) (by unfold rg; omega) ?_
    have w192 : -1 ≤ (Xi S 972 ((q).toNat)) ∧ (Xi S 972 ((q).toNat)) ≤ 11 := hH.c _ _
    refine l_istore rfl rfl rfl ?_
    refine l_aload_n rfl rfl ?_
    refine l_gfr rfl rfl rfl rfl rfl (hH.r 904 124 975 rfl) ?_
    refine l_iload_n rfl rfl ?_
    refine l_iaload (n := 2400) rfl rfl (by omega) (by omega) (by unfold rg; omega) ?_
    have w193 : -9 ≤ (Xi S 975 ((q).toNat)) ∧ (Xi S 975 ((q).toNat)) ≤ 23 := hH.c _ _
    refine l_iconst rfl ?_
    refine l_iload_n rfl rfl ?_
    refine l_callS rfl rfl (by decide) rfl (t_mo_thingIs hH (Xi S 975 ((q).toNat)) (-1) noun ⟨by omega, by omega⟩ ⟨by omega, by omega⟩ ⟨by omega, by omega⟩ _) ?_
    rintro _ _ ⟨rfl, z194, rfl, w194, p38s⟩
    show Rl _ _ _ _ _ [iv z194] _ _
    have o38 : 0 ≤ z194 ∧ z194 < Xi S 904 19 := thk_i (it := -1) (noun := noun) (hk1.2.1 (by omega)).1 (fun h => absurd h (fun f => f)) (fun h => h) (by omega) h2 (by assumption)
    have p38 : 0 ≤ Xi S 972 q.toNat ∧ Xi S 972 q.toNat ≤ 5 := (hk1.2.1 (by omega)).2
    have W38 : thR (-1) noun (Xi S 975 q.toNat) = z194 := thR_i p38s
    refine l_istore rfl rfl rfl ?_
    refine l_iconst rfl ?_
    refine l_istore rfl rfl rfl ?_
    exact Rl_weak (C46 _ S hH hF (z73) ((Xi S 972 ((q).toNat))) (z194) (0) (by omega) (by omega) (by omega) (by omega) (by first | assumption | exact (by assumption : TXM S)) (by first | exact A181 | exact rni_0) (by first | exact O181 | exact rno_0) (by omega) (by omega) (by first | exact tw46 | exact W8) (by first | exact u46 | exact W38) (by first | exact r46 | rfl) rfl) (And.intro rfl (And.intro rfl (And.intro rfl (And.intro rfl (And.intro rfl (True.intro))))))
end
