/-! SAFETY of methods: printed by wip/safe (vc.py, decl.py) -/
def md_mo_tested : List rec := [(904, 905, 154, 155)]
abbrev Q_mo_tested (S : sS) (q : Int) (it : Int) (noun : Int) (depth : Int) : pst := fun r S1 => HI S1 ∧ FR md_mo_tested S S1 ∧ (∃ z : Int, r = some (iv z) ∧ (0 ≤ z ∧ z ≤ 1))
def md_mo_holds : List rec := [(904, 905, 154, 155)]
abbrev Q_mo_holds (S : sS) (o : Int) (a : Int) (dp : Int) : pst := fun r S1 => HI S1 ∧ FR md_mo_holds S S1 ∧ (∃ z : Int, r = some (iv z) ∧ (0 ≤ z ∧ z ≤ 1))
set_option maxRecDepth 100000 in
theorem u_mo_holds {S : sS} (hH : HI S) (o : Int) (a : Int) (dp : Int) (ho : 0 ≤ o ∧ o ≤ 23) (ha : 0 ≤ a ∧ a ≤ 6411) (hdp : 0 ≤ dp ∧ dp ≤ 8) (haa : ADM S a) (hB : ABV S) (hX : TXM S) (hD : DEFM S) (hoo : o < Xi S 904 19) (d : Nat) (hrec : ∀ {S : sS} (_ : HI S) (q : Int) (it : Int) (noun : Int) (depth : Int) (hq : 0 ≤ q ∧ q ≤ 2399) (hit : -1 ≤ it ∧ it ≤ 23) (hnoun : -1 ≤ noun ∧ noun ≤ 23) (hdepth : 0 ≤ depth ∧ depth ≤ 8) (hk : TQ S (0 ≤ it) (0 ≤ noun) q.toNat) (hB : ABV S) (hX : TXM S) (hD : DEFM S) (h1 : it < Xi S 904 19) (h2 : noun < Xi S 904 19), (dp < 8 ∧ depth = dp + 1) → Mt lay0 (d + 8) m_mo_tested [.ref 904, iv q, iv it, iv noun, iv depth] S (Q_mo_tested S q it noun depth)) : Mt lay0 (d + 9) m_mo_holds [.ref 904, iv o, iv a, iv dp] S (Q_mo_holds S o a dp) := by
  refine Mt_R rfl rfl ?_
  have hF : FR md_mo_holds S S := FR.rf
  have w1 : 0 ≤ Xi S 904 19 ∧ Xi S 904 19 ≤ 24 := hH.c _ _
  have hc3 : 0 ≤ Xi S 904 23 ∧ Xi S 904 23 ≤ 24 := hH.c _ _
  have hc19 : 0 ≤ Xi S 904 19 ∧ Xi S 904 19 ≤ 24 := hH.c _ _
  have hc32 : 0 ≤ Xi S 904 32 ∧ Xi S 904 32 ≤ 12 := hH.c _ _
  have ha2 : (0 ≤ a ∧ a < Xi S 904 23) ∨ (100 ≤ a ∧ a % 100 < Xi S 904 32 ∧ a ≤ 6411) := haa
  have hdb : a < 100 → 0 < Xi S 924 a.toNat → Xi S 923 a.toNat + Xi S 924 a.toNat ≤ 2400 := fun h1 h2 => (hD a.toNat (by omega) h2).1
  have hf0 : 0 ≤ Xi S 923 a.toNat ∧ Xi S 923 a.toNat ≤ 480 := hH.c 923 a.toNat
  have C74 : ∀ (n74 : Nat) (T1 : sS) (_ : HI T1) (_ : FR md_mo_holds S T1) (v4 : Int) (v5 : Int), (0 ≤ v4 ∧ v4 ≤ 1) → (0 ≤ v5 ∧ v5 ≤ 6) → (a < 100) → (0 < Xi S 924 a.toNat) → (v4 = 1 → dp < 8) → n74 = (7 - v5).toNat → Rl lay0 (d + 8) m_mo_holds 74 [(0, .ref 904), (1, iv o), (2, iv a), (3, iv dp), (4, iv v4), (5, iv v5)] [] T1 (Q_mo_holds S o a dp) := by
    intro n74
    induction n74 using Nat.strongRecOn with
    | ind n74 ih74 =>
      intro T1 hHT1 hFT1 v4 v5 w2 w3 w4 w5 w6 hm74
      have w7 : Xi T1 904 19 = Xi S 904 19 := hFT1.x _ _ rfl
      refine l_iload rfl rfl ?_
      refine l_aload_n rfl rfl ?_
      refine l_gfr rfl rfl rfl rfl rfl (hHT1.r 904 27 924 rfl) ?_
      refine l_iload_n rfl rfl ?_
      refine l_iaload (n := 24) rfl rfl (by omega) (by omega) (by unfold rg; omega) ?_
      have w8 : 0 ≤ (Xi T1 924 ((a).toNat)) ∧ (Xi T1 924 ((a).toNat)) ≤ 6 := hHT1.c _ _
      have e81 : (Xi T1 924 ((a).toNat)) = Xi S 924 a.toNat := (hFT1.cx 924 rfl _).1
      refine l_icmp_ge rfl rfl (by unfold rg; omega) (by unfold rg; omega) (fun w9 => ?_) (fun w10 => ?_)
      · refine l_iload rfl rfl ?_
        refine l_ireturn rfl (retI_z (by omega)) ?_
        exact ⟨hHT1, hFT1, _, rfl, ⟨by omega, by omega⟩⟩
      · refine l_iload rfl rfl ?_
        refine l_if_eq rfl rfl (by unfold rg; omega) (fun w11 => ?_) (fun w12 => ?_)
        · refine l_iload rfl rfl ?_
          refine l_ireturn rfl (retI_z (by omega)) ?_
          exact ⟨hHT1, hFT1, _, rfl, ⟨by omega, by omega⟩⟩
        · refine l_aload_n rfl rfl ?_
          refine l_aload_n rfl rfl ?_
          refine l_gfr rfl rfl rfl rfl rfl (hHT1.r 904 26 923 rfl) ?_
          refine l_iload_n rfl rfl ?_
          refine l_iaload (n := 24) rfl rfl (by omega) (by omega) (by unfold rg; omega) ?_
          have w13 : 0 ≤ (Xi T1 923 ((a).toNat)) ∧ (Xi T1 923 ((a).toNat)) ≤ 480 := hHT1.c _ _
          have e96 : (Xi T1 923 ((a).toNat)) = Xi S 923 a.toNat := (hFT1.cx 923 rfl _).1
          refine l_iload rfl rfl ?_
          refine l_iadd rfl ?_
          refine l_iload_n rfl rfl ?_
          refine l_iconst rfl ?_
          refine l_iload_n rfl rfl ?_
          refine l_iconst rfl ?_
          refine l_iadd rfl ?_
          have w14 : 0 ≤ Xi T1 904 19 ∧ Xi T1 904 19 ≤ 24 := hHT1.c _ _
          refine l_callV rfl rfl rfl (hrec hHT1 ((Xi T1 923 ((a).toNat)) + v5) o (-1) (dp + 1) ⟨by omega, by omega⟩ ⟨by omega, by omega⟩ ⟨by omega, by omega⟩ ⟨by omega, by omega⟩ (TQ_FR hFT1 rfl (tq_at hD (a := a) (i := v5) (by omega) (by omega) (by omega) (by omega) (by omega) (by omega) (by omega) (by omega))) (by first | assumption | exact (ABV_FR hFT1 rfl (by assumption : ABV S))) (by first | assumption | exact (TXM_FR hFT1 rfl (by assumption : TXM S))) (by first | assumption | exact (DEFM_FR hFT1 rfl (by assumption : DEFM S))) (by first | assumption | omega) (by first | assumption | omega) (by omega)) ?_
          rintro _ T2 ⟨hHT2, w16, z15, rfl, w15⟩
          have hFT2 : FR md_mo_holds S T2 := FR.tr hFT1 w16 rfl
          show Rl _ _ _ _ _ [iv z15] _ _
          refine l_istore rfl rfl rfl ?_
          refine l_iinc rfl rfl rfl rfl ?_
          refine l_goto rfl rfl ?_
          exact Rl_weak (ih74 _ (by omega) T2 hHT2 hFT2 (z15) ((v5 + 1)) (by omega) (by omega) (by omega) (by omega) (by omega) rfl) (And.intro rfl (And.intro rfl (And.intro rfl (And.intro rfl (And.intro rfl (And.intro rfl (True.intro)))))))
  have C162 : ∀ (n162 : Nat) (v4 : Int), (-1 ≤ v4 ∧ v4 ≤ 15) → (a < 100) → n162 = (v4 + 1).toNat → Rl lay0 (d + 8) m_mo_holds 162 [(0, .ref 904), (2, iv a), (4, iv v4)] [] S (Q_mo_holds S o a dp) := by
    intro n162
    induction n162 using Nat.strongRecOn with
    | ind n162 ih162 =>
      intro v4 w17 w18 hm162
      refine l_iload rfl rfl ?_
      refine l_if_lt rfl rfl (by unfold rg; omega) (fun w19 => ?_) (fun w20 => ?_)
      · refine l_aload_n rfl rfl ?_
        refine l_gfr rfl rfl rfl rfl rfl (hH.r 904 25 922 rfl) ?_
        refine l_iload_n rfl rfl ?_
        refine l_iaload (n := 24) rfl rfl (by omega) (by omega) (by unfold rg; omega) ?_
        have w21 : -1 ≤ (Xi S 922 ((a).toNat)) ∧ (Xi S 922 ((a).toNat)) ≤ 23 := hH.c _ _
        refine l_iconst rfl ?_
        refine l_icmp_eq rfl rfl (by unfold rg; omega) (by unfold rg; omega) (fun w22 => ?_) (fun w23 => ?_)
        · refine l_iconst rfl ?_
          refine l_ireturn rfl rfl ?_
          exact ⟨hH, hF, _, rfl, ⟨by omega, by omega⟩⟩
        · refine l_aload_n rfl rfl ?_
          refine l_gfr rfl rfl rfl rfl rfl (hH.r 904 25 922 rfl) ?_
          refine l_iload_n rfl rfl ?_
          refine l_iaload (n := 24) rfl rfl (by omega) (by omega) (by unfold rg; omega) ?_
          refine l_iload_n rfl rfl ?_
          refine l_icmp_ge rfl rfl (by unfold rg; omega) (by unfold rg; omega) (fun w24 => ?_) (fun w25 => ?_)
          · refine l_iconst rfl ?_
            refine l_ireturn rfl rfl ?_
            exact ⟨hH, hF, _, rfl, ⟨by omega, by omega⟩⟩
          · refine l_iconst rfl ?_
            refine l_goto rfl rfl ?_
            refine l_ireturn rfl rfl ?_
            exact ⟨hH, hF, _, rfl, ⟨by omega, by omega⟩⟩
      · refine l_aload_n rfl rfl ?_
        refine l_gfr rfl rfl rfl rfl rfl (hH.r 904 29 926 rfl) ?_
        refine l_bipush rfl rfl ?_
        refine l_iload rfl rfl ?_
        refine l_imul rfl ?_
        refine l_iload_n rfl rfl ?_
        refine l_iadd rfl ?_
        refine l_iaload (n := 384) rfl rfl (by omega) (by omega) (by unfold rg; omega) ?_
        have w26 : 0 ≤ (Xi S 926 ((((24 * v4) + a)).toNat)) ∧ (Xi S 926 ((((24 * v4) + a)).toNat)) ≤ 2 := hH.c _ _
        refine l_if_eq rfl rfl (by unfold rg; omega) (fun w27 => ?_) (fun w28 => ?_)
        · refine l_aload_n rfl rfl ?_
          refine l_gfr rfl rfl rfl rfl rfl (hH.r 904 17 917 rfl) ?_
          refine l_iload rfl rfl ?_
          refine l_iaload (n := 16) rfl rfl (by omega) (by omega) (by unfold rg; omega) ?_
          have w29 : -1 ≤ (Xi S 917 ((v4).toNat)) ∧ (Xi S 917 ((v4).toNat)) ≤ 15 := hH.c _ _
          have b210 : (Xi S 917 ((v4).toNat)) < v4 := by have t := hB (v4).toNat (by omega); omega
          refine l_istore rfl rfl rfl ?_
          refine l_goto rfl rfl ?_
          exact Rl_weak (ih162 _ (by omega) ((Xi S 917 ((v4).toNat))) (by omega) (by omega) rfl) (And.intro rfl (And.intro rfl (And.intro rfl (True.intro))))
        · refine l_aload_n rfl rfl ?_
          refine l_gfr rfl rfl rfl rfl rfl (hH.r 904 29 926 rfl) ?_
          refine l_bipush rfl rfl ?_
          refine l_iload rfl rfl ?_
          refine l_imul rfl ?_
          refine l_iload_n rfl rfl ?_
          refine l_iadd rfl ?_
          refine l_iaload (n := 384) rfl rfl (by omega) (by omega) (by unfold rg; omega) ?_
          refine l_iconst rfl ?_
          refine l_icmp_ne rfl rfl (by unfold rg; omega) (by unfold rg; omega) (fun w30 => ?_) (fun w31 => ?_)
          · refine l_iconst rfl ?_
            refine l_ireturn rfl rfl ?_
            exact ⟨hH, hF, _, rfl, ⟨by omega, by omega⟩⟩
          · refine l_iconst rfl ?_
            refine l_goto rfl rfl ?_
            refine l_ireturn rfl rfl ?_
            exact ⟨hH, hF, _, rfl, ⟨by omega, by omega⟩⟩
  refine l_iload_n rfl rfl ?_
  refine l_bipush rfl rfl ?_
  refine l_icmp_lt rfl rfl (by unfold rg; omega) (by unfold rg; omega) (fun w32 => ?_) (fun w33 => ?_)
  · refine l_aload_n rfl rfl ?_
    refine l_gfr rfl rfl rfl rfl rfl (hH.r 904 27 924 rfl) ?_
    refine l_iload_n rfl rfl ?_
    refine l_iaload (n := 24) rfl rfl (by omega) (by omega) (by unfold rg; omega) ?_
    have w34 : 0 ≤ (Xi S 924 ((a).toNat)) ∧ (Xi S 924 ((a).toNat)) ≤ 6 := hH.c _ _
    refine l_if_le rfl rfl (by unfold rg; omega) (fun w35 => ?_) (fun w36 => ?_)
    · refine l_aload_n rfl rfl ?_
      refine l_gfr rfl rfl rfl rfl rfl (hH.r 904 28 925 rfl) ?_
      refine l_bipush rfl rfl ?_
      refine l_iload_n rfl rfl ?_
      refine l_imul rfl ?_
      refine l_iload_n rfl rfl ?_
      refine l_iadd rfl ?_
      refine l_iaload (n := 576) rfl rfl (by omega) (by omega) (by unfold rg; omega) ?_
      have w37 : 0 ≤ (Xi S 925 ((((24 * o) + a)).toNat)) ∧ (Xi S 925 ((((24 * o) + a)).toNat)) ≤ 2 := hH.c _ _
      refine l_if_eq rfl rfl (by unfold rg; omega) (fun w38 => ?_) (fun w39 => ?_)
      · refine l_aload_n rfl rfl ?_
        refine l_gfr rfl rfl rfl rfl rfl (hH.r 904 20 918 rfl) ?_
        refine l_iload_n rfl rfl ?_
        refine l_iaload (n := 24) rfl rfl (by omega) (by omega) (by unfold rg; omega) ?_
        have w40 : 0 ≤ (Xi S 918 ((o).toNat)) ∧ (Xi S 918 ((o).toNat)) ≤ 15 := hH.c _ _
        refine l_istore rfl rfl rfl ?_
        exact Rl_weak (C162 _ ((Xi S 918 ((o).toNat))) (by omega) (by omega) rfl) (And.intro rfl (And.intro rfl (And.intro rfl (True.intro))))
      · refine l_aload_n rfl rfl ?_
        refine l_gfr rfl rfl rfl rfl rfl (hH.r 904 28 925 rfl) ?_
        refine l_bipush rfl rfl ?_
        refine l_iload_n rfl rfl ?_
        refine l_imul rfl ?_
        refine l_iload_n rfl rfl ?_
        refine l_iadd rfl ?_
        refine l_iaload (n := 576) rfl rfl (by omega) (by omega) (by unfold rg; omega) ?_
        refine l_iconst rfl ?_
        refine l_icmp_ne rfl rfl (by unfold rg; omega) (by unfold rg; omega) (fun w41 => ?_) (fun w42 => ?_)
        · refine l_iconst rfl ?_
          refine l_ireturn rfl rfl ?_
          exact ⟨hH, hF, _, rfl, ⟨by omega, by omega⟩⟩
        · refine l_iconst rfl ?_
          refine l_goto rfl rfl ?_
          refine l_ireturn rfl rfl ?_
          exact ⟨hH, hF, _, rfl, ⟨by omega, by omega⟩⟩
    · refine l_iload_n rfl rfl ?_
      refine l_bipush rfl rfl ?_
      refine l_icmp_ge rfl rfl (by unfold rg; omega) (by unfold rg; omega) (fun w43 => ?_) (fun w44 => ?_)
      · refine l_iconst rfl ?_
        refine l_istore rfl rfl rfl ?_
        refine l_iconst rfl ?_
        refine l_istore rfl rfl rfl ?_
        exact Rl_weak (C74 _ S hH hF (0) (0) (by omega) (by omega) (by omega) (by omega) (by omega) rfl) (And.intro rfl (And.intro rfl (And.intro rfl (And.intro rfl (And.intro rfl (And.intro rfl (True.intro)))))))
      · refine l_aload_n rfl rfl ?_
        refine l_aload_n rfl rfl ?_
        refine l_gfr rfl rfl rfl rfl rfl (hH.r 904 20 918 rfl) ?_
        refine l_iload_n rfl rfl ?_
        refine l_iaload (n := 24) rfl rfl (by omega) (by omega) (by unfold rg; omega) ?_
        have w45 : 0 ≤ (Xi S 918 ((o).toNat)) ∧ (Xi S 918 ((o).toNat)) ≤ 15 := hH.c _ _
        refine l_aload_n rfl rfl ?_
        refine l_gfr rfl rfl rfl rfl rfl (hH.r 904 24 921 rfl) ?_
        refine l_iload_n rfl rfl ?_
        refine l_iaload (n := 24) rfl rfl (by omega) (by omega) (by unfold rg; omega) ?_
        have w46 : 0 ≤ (Xi S 921 ((a).toNat)) ∧ (Xi S 921 ((a).toNat)) ≤ 15 := hH.c _ _
        refine l_callV rfl rfl rfl (t_mo_isBelow hH (Xi S 918 ((o).toNat)) (Xi S 921 ((a).toNat)) ⟨by omega, by omega⟩ ⟨by omega, by omega⟩ (by first | assumption | exact (ABV_FR hF rfl (by assumption : ABV S))) _) ?_
        rintro _ _ ⟨rfl, z48, rfl, w48, w47⟩
        show Rl _ _ _ _ _ [iv z48] _ _
        refine l_if_eq rfl rfl (by unfold rg; omega) (fun w49 => ?_) (fun w50 => ?_)
        · refine l_iconst rfl ?_
          refine l_istore rfl rfl rfl ?_
          refine l_iconst rfl ?_
          refine l_istore rfl rfl rfl ?_
          exact Rl_weak (C74 _ S hH hF (0) (0) (by omega) (by omega) (by omega) (by omega) (by omega) rfl) (And.intro rfl (And.intro rfl (And.intro rfl (And.intro rfl (And.intro rfl (And.intro rfl (True.intro)))))))
        · refine l_iconst rfl ?_
          refine l_goto rfl rfl ?_
          refine l_istore rfl rfl rfl ?_
          refine l_iconst rfl ?_
          refine l_istore rfl rfl rfl ?_
          exact Rl_weak (C74 _ S hH hF (1) (0) (by omega) (by omega) (by omega) (by omega) (by omega) rfl) (And.intro rfl (And.intro rfl (And.intro rfl (And.intro rfl (And.intro rfl (And.intro rfl (True.intro)))))))
  · refine l_aload_n rfl rfl ?_
    refine l_iload_n rfl rfl ?_
    refine l_iload_n rfl rfl ?_
    refine l_bipush rfl rfl ?_
    refine l_iremP rfl (by omega) (by omega) (by unfold rg; omega) (by unfold rg; omega) ?_
    have w52 : 0 ≤ Xi S 904 19 ∧ Xi S 904 19 ≤ 24 := hH.c _ _
    refine l_callV rfl rfl rfl (t_mo_numberOf hH o (a % 100) ⟨by omega, by omega⟩ ⟨by omega, by omega⟩ (by first | assumption | exact (ABV_FR hF rfl (by assumption : ABV S))) (by first | assumption | exact (TXM_FR hF rfl (by assumption : TXM S))) (by first | assumption | omega) _) ?_
    rintro _ T3 ⟨hHT3, w55, z54, rfl, w54, w53⟩
    have hFT3 : FR md_mo_holds S T3 := FR.tr hF w55 rfl
    show Rl _ _ _ _ _ [iv z54] _ _
    refine l_iload_n rfl rfl ?_
    refine l_bipush rfl rfl ?_
    refine l_idivP rfl (by omega) (by omega) (by unfold rg; omega) (by unfold rg; omega) ?_
    refine l_iconst rfl ?_
    refine l_isub rfl ?_
    refine l_icmp_ne rfl rfl (by unfold rg; omega) (by unfold rg; omega) (fun w57 => ?_) (fun w58 => ?_)
    · refine l_iconst rfl ?_
      refine l_ireturn rfl rfl ?_
      exact ⟨hHT3, hFT3, _, rfl, ⟨by omega, by omega⟩⟩
    · refine l_iconst rfl ?_
      refine l_goto rfl rfl ?_
      refine l_ireturn rfl rfl ?_
      exact ⟨hHT3, hFT3, _, rfl, ⟨by omega, by omega⟩⟩
set_option maxRecDepth 100000 in
theorem u_mo_tested {S : sS} (hH : HI S) (q : Int) (it : Int) (noun : Int) (depth : Int) (hq : 0 ≤ q ∧ q ≤ 2399) (hit : -1 ≤ it ∧ it ≤ 23) (hnoun : -1 ≤ noun ∧ noun ≤ 23) (hdepth : 0 ≤ depth ∧ depth ≤ 8) (hk : TQ S (0 ≤ it) (0 ≤ noun) q.toNat) (hB : ABV S) (hX : TXM S) (hD : DEFM S) (h1 : it < Xi S 904 19) (h2 : noun < Xi S 904 19) (d : Nat) (hrec : ∀ {S : sS} (_ : HI S) (o : Int) (a : Int) (dp : Int) (ho : 0 ≤ o ∧ o ≤ 23) (ha : 0 ≤ a ∧ a ≤ 6411) (hdp : 0 ≤ dp ∧ dp ≤ 8) (haa : ADM S a) (hB : ABV S) (hX : TXM S) (hD : DEFM S) (hoo : o < Xi S 904 19), (dp = depth) → Mt lay0 (d + 7) m_mo_holds [.ref 904, iv o, iv a, iv dp] S (Q_mo_holds S o a dp)) : Mt lay0 (d + 8) m_mo_tested [.ref 904, iv q, iv it, iv noun, iv depth] S (Q_mo_tested S q it noun depth) := by
  refine Mt_R rfl rfl ?_
  have hF : FR md_mo_tested S S := FR.rf
  have w1 : 0 ≤ Xi S 904 19 ∧ Xi S 904 19 ≤ 24 := hH.c _ _
  have hc3 : 0 ≤ Xi S 904 23 ∧ Xi S 904 23 ≤ 24 := hH.c _ _
  have hc19 : 0 ≤ Xi S 904 19 ∧ Xi S 904 19 ≤ 24 := hH.c _ _
  have hc32 : 0 ≤ Xi S 904 32 ∧ Xi S 904 32 ≤ 12 := hH.c _ _
  have C288 : ∀  (T1 : sS) (_ : HI T1) (_ : FR md_mo_tested S T1) (v6 : Int), (0 ≤ v6 ∧ v6 ≤ 1) → Rl lay0 (d + 7) m_mo_tested 288 [(0, .ref 904), (1, iv q), (6, iv v6)] [] T1 (Q_mo_tested S q it noun depth) := by
    intro T1 hHT1 hFT1 v6 w2
    have w3 : Xi T1 904 19 = Xi S 904 19 := hFT1.x _ _ rfl
    refine l_iload rfl rfl ?_
    refine l_aload_n rfl rfl ?_
    refine l_gfr rfl rfl rfl rfl rfl (hHT1.r 904 119 970 rfl) ?_
    refine l_iload_n rfl rfl ?_
    refine l_baload (n := 2400) rfl rfl rfl (by decide) (by omega) (by omega) (by unfold rg; omega) ?_
    have w4 : 0 ≤ (Xi T1 970 ((q).toNat)) ∧ (Xi T1 970 ((q).toNat)) ≤ 1 := hHT1.c _ _
    refine l_icmp_eq rfl rfl (by unfold rg; omega) (by unfold rg; omega) (fun w5 => ?_) (fun w6 => ?_)
    · refine l_iconst rfl ?_
      refine l_ireturn rfl rfl ?_
      exact ⟨hHT1, hFT1, _, rfl, ⟨by omega, by omega⟩⟩
    · refine l_iconst rfl ?_
      refine l_goto rfl rfl ?_
      refine l_ireturn rfl rfl ?_
      exact ⟨hHT1, hFT1, _, rfl, ⟨by omega, by omega⟩⟩
  refine l_aload_n rfl rfl ?_
  refine l_gfr rfl rfl rfl rfl rfl (hH.r 904 120 971 rfl) ?_
  refine l_iload_n rfl rfl ?_
  refine l_iaload (n := 2400) rfl rfl (by omega) (by omega) (by unfold rg; omega) ?_
  have w7 : -9 ≤ (Xi S 971 ((q).toNat)) ∧ (Xi S 971 ((q).toNat)) ≤ 23 := hH.c _ _
  refine l_iload_n rfl rfl ?_
  refine l_iload_n rfl rfl ?_
  refine l_callS rfl rfl (by decide) rfl (t_mo_thingIs hH (Xi S 971 ((q).toNat)) it noun ⟨by omega, by omega⟩ ⟨by omega, by omega⟩ ⟨by omega, by omega⟩ _) ?_
  rintro _ _ ⟨rfl, z9, rfl, w9, w8⟩
  show Rl _ _ _ _ _ [iv z9] _ _
  have o8 : 0 ≤ z9 ∧ z9 < Xi S 904 19 := thk_i hk.1 (fun h => h) (fun h => h) h1 h2 (by assumption)
  refine l_istore rfl rfl rfl ?_
  refine l_iconst rfl ?_
  refine l_istore rfl rfl rfl ?_
  refine l_aload_n rfl rfl ?_
  refine l_gfr rfl rfl rfl rfl rfl (hH.r 904 118 969 rfl) ?_
  refine l_iload_n rfl rfl ?_
  refine l_iaload (n := 2400) rfl rfl (by omega) (by omega) (by unfold rg; omega) ?_
  have w10 : 0 ≤ (Xi S 969 ((q).toNat)) ∧ (Xi S 969 ((q).toNat)) ≤ 5 := hH.c _ _
  refine l_iconst rfl ?_
  refine l_icmp_ne rfl rfl (by unfold rg; omega) (by unfold rg; omega) (fun w11 => ?_) (fun w12 => ?_)
  · refine l_aload_n rfl rfl ?_
    refine l_gfr rfl rfl rfl rfl rfl (hH.r 904 118 969 rfl) ?_
    refine l_iload_n rfl rfl ?_
    refine l_iaload (n := 2400) rfl rfl (by omega) (by omega) (by unfold rg; omega) ?_
    refine l_iconst rfl ?_
    refine l_icmp_ne rfl rfl (by unfold rg; omega) (by unfold rg; omega) (fun w13 => ?_) (fun w14 => ?_)
    · refine l_aload_n rfl rfl ?_
      refine l_gfr rfl rfl rfl rfl rfl (hH.r 904 118 969 rfl) ?_
      refine l_iload_n rfl rfl ?_
      refine l_iaload (n := 2400) rfl rfl (by omega) (by omega) (by unfold rg; omega) ?_
      refine l_iconst rfl ?_
      refine l_icmp_ne rfl rfl (by unfold rg; omega) (by unfold rg; omega) (fun w15 => ?_) (fun w16 => ?_)
      · refine l_aload_n rfl rfl ?_
        refine l_iload rfl rfl ?_
        refine l_aload_n rfl rfl ?_
        refine l_gfr rfl rfl rfl rfl rfl (hH.r 904 121 972 rfl) ?_
        refine l_iload_n rfl rfl ?_
        refine l_iaload (n := 2400) rfl rfl (by omega) (by omega) (by unfold rg; omega) ?_
        have w17 : -1 ≤ (Xi S 972 ((q).toNat)) ∧ (Xi S 972 ((q).toNat)) ≤ 11 := hH.c _ _
        have p154 : 0 ≤ (Xi S 972 ((q).toNat)) ∧ (Xi S 972 ((q).toNat)) < Xi S 904 32 := hk.2.2.2.1 (by omega)
        have w18 : 0 ≤ Xi S 904 19 ∧ Xi S 904 19 ≤ 24 := hH.c _ _
        refine l_callV rfl rfl rfl (t_mo_numberOf hH z9 (Xi S 972 ((q).toNat)) ⟨by omega, by omega⟩ ⟨by omega, by omega⟩ (by first | assumption | exact (ABV_FR hF rfl (by assumption : ABV S))) (by first | assumption | exact (TXM_FR hF rfl (by assumption : TXM S))) (by first | assumption | omega) _) ?_
        rintro _ T2 ⟨hHT2, w21, z20, rfl, w20, w19⟩
        have hFT2 : FR md_mo_tested S T2 := FR.tr hF w21 rfl
        show Rl _ _ _ _ _ [iv z20] _ _
        refine l_istore rfl rfl rfl ?_
        refine l_aload_n rfl rfl ?_
        refine l_gfr rfl rfl rfl rfl rfl (hHT2.r 904 33 928 rfl) ?_
        refine l_aload_n rfl rfl ?_
        refine l_gfr rfl rfl rfl rfl rfl (hHT2.r 904 121 972 rfl) ?_
        refine l_iload_n rfl rfl ?_
        refine l_iaload (n := 2400) rfl rfl (by omega) (by omega) (by unfold rg; omega) ?_
        have w22 : (Xi T2 972 ((q).toNat)) = (Xi S 972 ((q).toNat)) := (show Xi T2 972 ((q).toNat) = Xi S 972 ((q).toNat) from w21.x _ _ rfl)
        rw [w22]
        have e169 : (Xi S 972 ((q).toNat)) = Xi S 972 q.toNat := by first | rfl | exact (hFT2.cx 972 rfl _).1
        refine l_iaload (n := 12) rfl rfl (by omega) (by omega) (by unfold rg; omega) ?_
        have w23 : 0 ≤ (Xi T2 928 (((Xi S 972 ((q).toNat))).toNat)) ∧ (Xi T2 928 (((Xi S 972 ((q).toNat))).toNat)) ≤ 7 := hHT2.c _ _
        have e170 : (Xi T2 928 (((Xi S 972 ((q).toNat))).toNat)) = Xi S 928 (Xi S 972 q.toNat).toNat := by first | exact (hFT2.cx 928 rfl _).1 | (rw [(hFT2.cx 928 rfl _).1, (hFT2.cx 972 rfl _).1])
        refine l_iconst rfl ?_
        refine l_icmp_ne rfl rfl (by unfold rg; omega) (by unfold rg; omega) (fun w24 => ?_) (fun w25 => ?_)
        · refine l_iconst rfl ?_
          refine l_istore rfl rfl rfl ?_
          refine l_aload_n rfl rfl ?_
          refine l_gfr rfl rfl rfl rfl rfl (hHT2.r 904 118 969 rfl) ?_
          refine l_iload_n rfl rfl ?_
          refine l_iaload (n := 2400) rfl rfl (by omega) (by omega) (by unfold rg; omega) ?_
          have w26 : (Xi T2 969 ((q).toNat)) = (Xi S 969 ((q).toNat)) := (show Xi T2 969 ((q).toNat) = Xi S 969 ((q).toNat) from w21.x _ _ rfl)
          rw [w26]
          have e187 : (Xi S 969 ((q).toNat)) = Xi S 969 q.toNat := by first | rfl | exact (hFT2.cx 969 rfl _).1
          refine l_iconst rfl ?_
          refine l_icmp_ne rfl rfl (by unfold rg; omega) (by unfold rg; omega) (fun w27 => ?_) (fun w28 => ?_)
          · refine l_aload_n rfl rfl ?_
            refine l_gfr rfl rfl rfl rfl rfl (hHT2.r 904 118 969 rfl) ?_
            refine l_iload_n rfl rfl ?_
            refine l_iaload (n := 2400) rfl rfl (by omega) (by omega) (by unfold rg; omega) ?_
            have w29 : (Xi T2 969 ((q).toNat)) = (Xi S 969 ((q).toNat)) := (show Xi T2 969 ((q).toNat) = Xi S 969 ((q).toNat) from w21.x _ _ rfl)
            rw [w29]
            have e216 : (Xi S 969 ((q).toNat)) = Xi S 969 q.toNat := by first | rfl | exact (hFT2.cx 969 rfl _).1
            refine l_iconst rfl ?_
            refine l_icmp_ne rfl rfl (by unfold rg; omega) (by unfold rg; omega) (fun w30 => ?_) (fun w31 => ?_)
            · refine l_iload rfl rfl ?_
              refine l_if_eq rfl rfl (by unfold rg; omega) (fun w32 => ?_) (fun w33 => absurd w33 (by omega))
              · refine l_iload rfl rfl ?_
                refine l_aload_n rfl rfl ?_
                refine l_gfr rfl rfl rfl rfl rfl (hHT2.r 904 122 973 rfl) ?_
                refine l_iload_n rfl rfl ?_
                refine l_iaload (n := 2400) rfl rfl (by omega) (by omega) (by unfold rg; omega) ?_
                have w34 : -2147483648 ≤ (Xi T2 973 ((q).toNat)) ∧ (Xi T2 973 ((q).toNat)) ≤ 2147483647 := Xi_rgI
                refine l_icmp_ne rfl rfl (by unfold rg; omega) (by unfold rg; omega) (fun w35 => ?_) (fun w36 => ?_)
                · refine l_iconst rfl ?_
                  refine l_istore rfl rfl rfl ?_
                  exact Rl_weak (C288 T2 hHT2 hFT2 (0) (by omega)) (And.intro rfl (And.intro rfl (And.intro rfl (True.intro))))
                · refine l_iconst rfl ?_
                  refine l_goto rfl rfl ?_
                  refine l_istore rfl rfl rfl ?_
                  exact Rl_weak (C288 T2 hHT2 hFT2 (1) (by omega)) (And.intro rfl (And.intro rfl (And.intro rfl (True.intro))))
            · refine l_iload rfl rfl ?_
              refine l_aload_n rfl rfl ?_
              refine l_gfr rfl rfl rfl rfl rfl (hHT2.r 904 122 973 rfl) ?_
              refine l_iload_n rfl rfl ?_
              refine l_iaload (n := 2400) rfl rfl (by omega) (by omega) (by unfold rg; omega) ?_
              have w37 : -2147483648 ≤ (Xi T2 973 ((q).toNat)) ∧ (Xi T2 973 ((q).toNat)) ≤ 2147483647 := Xi_rgI
              refine l_icmp_le rfl rfl (by unfold rg; omega) (by unfold rg; omega) (fun w38 => ?_) (fun w39 => ?_)
              · refine l_iconst rfl ?_
                refine l_goto rfl rfl ?_
                refine l_istore rfl rfl rfl ?_
                exact Rl_weak (C288 T2 hHT2 hFT2 (0) (by omega)) (And.intro rfl (And.intro rfl (And.intro rfl (True.intro))))
              · refine l_iconst rfl ?_
                refine l_goto rfl rfl ?_
                refine l_istore rfl rfl rfl ?_
                exact Rl_weak (C288 T2 hHT2 hFT2 (1) (by omega)) (And.intro rfl (And.intro rfl (And.intro rfl (True.intro))))
          · refine l_iload rfl rfl ?_
            refine l_aload_n rfl rfl ?_
            refine l_gfr rfl rfl rfl rfl rfl (hHT2.r 904 122 973 rfl) ?_
            refine l_iload_n rfl rfl ?_
            refine l_iaload (n := 2400) rfl rfl (by omega) (by omega) (by unfold rg; omega) ?_
            have w40 : -2147483648 ≤ (Xi T2 973 ((q).toNat)) ∧ (Xi T2 973 ((q).toNat)) ≤ 2147483647 := Xi_rgI
            refine l_icmp_ge rfl rfl (by unfold rg; omega) (by unfold rg; omega) (fun w41 => ?_) (fun w42 => ?_)
            · refine l_iconst rfl ?_
              refine l_goto rfl rfl ?_
              refine l_istore rfl rfl rfl ?_
              exact Rl_weak (C288 T2 hHT2 hFT2 (0) (by omega)) (And.intro rfl (And.intro rfl (And.intro rfl (True.intro))))
            · refine l_iconst rfl ?_
              refine l_goto rfl rfl ?_
              refine l_istore rfl rfl rfl ?_
              exact Rl_weak (C288 T2 hHT2 hFT2 (1) (by omega)) (And.intro rfl (And.intro rfl (And.intro rfl (True.intro))))
        · refine l_iconst rfl ?_
          refine l_goto rfl rfl ?_
          refine l_istore rfl rfl rfl ?_
          refine l_aload_n rfl rfl ?_
          refine l_gfr rfl rfl rfl rfl rfl (hHT2.r 904 118 969 rfl) ?_
          refine l_iload_n rfl rfl ?_
          refine l_iaload (n := 2400) rfl rfl (by omega) (by omega) (by unfold rg; omega) ?_
          have w43 : (Xi T2 969 ((q).toNat)) = (Xi S 969 ((q).toNat)) := (show Xi T2 969 ((q).toNat) = Xi S 969 ((q).toNat) from w21.x _ _ rfl)
          rw [w43]
          have e187 : (Xi S 969 ((q).toNat)) = Xi S 969 q.toNat := by first | rfl | exact (hFT2.cx 969 rfl _).1
          refine l_iconst rfl ?_
          refine l_icmp_ne rfl rfl (by unfold rg; omega) (by unfold rg; omega) (fun w44 => ?_) (fun w45 => ?_)
          · refine l_aload_n rfl rfl ?_
            refine l_gfr rfl rfl rfl rfl rfl (hHT2.r 904 118 969 rfl) ?_
            refine l_iload_n rfl rfl ?_
            refine l_iaload (n := 2400) rfl rfl (by omega) (by omega) (by unfold rg; omega) ?_
            have w46 : (Xi T2 969 ((q).toNat)) = (Xi S 969 ((q).toNat)) := (show Xi T2 969 ((q).toNat) = Xi S 969 ((q).toNat) from w21.x _ _ rfl)
            rw [w46]
            have e216 : (Xi S 969 ((q).toNat)) = Xi S 969 q.toNat := by first | rfl | exact (hFT2.cx 969 rfl _).1
            refine l_iconst rfl ?_
            refine l_icmp_ne rfl rfl (by unfold rg; omega) (by unfold rg; omega) (fun w47 => ?_) (fun w48 => ?_)
            · refine l_iload rfl rfl ?_
              refine l_if_eq rfl rfl (by unfold rg; omega) (fun w49 => absurd w49 (by omega)) (fun w50 => ?_)
              · refine l_aload_n rfl rfl ?_
                refine l_iload rfl rfl ?_
                refine l_aload_n rfl rfl ?_
                refine l_gfi rfl rfl rfl rfl rfl ?_
                have w51 : -2147483648 ≤ (Xi T2 904 154) ∧ (Xi T2 904 154) ≤ 2147483647 := Xi_rgI
                refine l_aload_n rfl rfl ?_
                refine l_gfr rfl rfl rfl rfl rfl (hHT2.r 904 122 973 rfl) ?_
                refine l_iload_n rfl rfl ?_
                refine l_iaload (n := 2400) rfl rfl (by omega) (by omega) (by unfold rg; omega) ?_
                have w52 : -2147483648 ≤ (Xi T2 973 ((q).toNat)) ∧ (Xi T2 973 ((q).toNat)) ≤ 2147483647 := Xi_rgI
                refine l_aload_n rfl rfl ?_
                refine l_gfr rfl rfl rfl rfl rfl (hHT2.r 904 123 974 rfl) ?_
                refine l_iload_n rfl rfl ?_
                refine l_iaload (n := 2400) rfl rfl (by omega) (by omega) (by unfold rg; omega) ?_
                have w53 : -2147483648 ≤ (Xi T2 974 ((q).toNat)) ∧ (Xi T2 974 ((q).toNat)) ≤ 2147483647 := Xi_rgI
                refine l_callV rfl rfl rfl (t_mo_isSameText hHT2 z20 (Xi T2 904 154) (Xi T2 973 ((q).toNat)) (Xi T2 974 ((q).toNat)) ⟨by omega, by omega⟩ ⟨by omega, by omega⟩ ⟨by omega, by omega⟩ ⟨by omega, by omega⟩ ((by assumption : _ → OKT _ _) (by omega)) (okt_2 (hk.2.2.2.2 (by omega)) (hFT2.cx 973 rfl _).1 (hFT2.cx 974 rfl _).1) _) ?_
                rintro _ _ ⟨rfl, z54, rfl, w54⟩
                show Rl _ _ _ _ _ [iv z54] _ _
                refine l_goto rfl rfl ?_
                refine l_istore rfl rfl rfl ?_
                exact Rl_weak (C288 T2 hHT2 hFT2 (z54) (by omega)) (And.intro rfl (And.intro rfl (And.intro rfl (True.intro))))
            · refine l_iload rfl rfl ?_
              refine l_aload_n rfl rfl ?_
              refine l_gfr rfl rfl rfl rfl rfl (hHT2.r 904 122 973 rfl) ?_
              refine l_iload_n rfl rfl ?_
              refine l_iaload (n := 2400) rfl rfl (by omega) (by omega) (by unfold rg; omega) ?_
              have w55 : -2147483648 ≤ (Xi T2 973 ((q).toNat)) ∧ (Xi T2 973 ((q).toNat)) ≤ 2147483647 := Xi_rgI
              refine l_icmp_le rfl rfl (by unfold rg; omega) (by unfold rg; omega) (fun w56 => ?_) (fun w57 => ?_)
              · refine l_iconst rfl ?_
                refine l_goto rfl rfl ?_
                refine l_istore rfl rfl rfl ?_
                exact Rl_weak (C288 T2 hHT2 hFT2 (0) (by omega)) (And.intro rfl (And.intro rfl (And.intro rfl (True.intro))))
              · refine l_iconst rfl ?_
                refine l_goto rfl rfl ?_
                refine l_istore rfl rfl rfl ?_
                exact Rl_weak (C288 T2 hHT2 hFT2 (1) (by omega)) (And.intro rfl (And.intro rfl (And.intro rfl (True.intro))))
          · refine l_iload rfl rfl ?_
            refine l_aload_n rfl rfl ?_
            refine l_gfr rfl rfl rfl rfl rfl (hHT2.r 904 122 973 rfl) ?_
            refine l_iload_n rfl rfl ?_
            refine l_iaload (n := 2400) rfl rfl (by omega) (by omega) (by unfold rg; omega) ?_
            have w58 : -2147483648 ≤ (Xi T2 973 ((q).toNat)) ∧ (Xi T2 973 ((q).toNat)) ≤ 2147483647 := Xi_rgI
            refine l_icmp_ge rfl rfl (by unfold rg; omega) (by unfold rg; omega) (fun w59 => ?_) (fun w60 => ?_)
            · refine l_iconst rfl ?_
              refine l_goto rfl rfl ?_
              refine l_istore rfl rfl rfl ?_
              exact Rl_weak (C288 T2 hHT2 hFT2 (0) (by omega)) (And.intro rfl (And.intro rfl (And.intro rfl (True.intro))))
            · refine l_iconst rfl ?_
              refine l_goto rfl rfl ?_
              refine l_istore rfl rfl rfl ?_
              exact Rl_weak (C288 T2 hHT2 hFT2 (1) (by omega)) (And.intro rfl (And.intro rfl (And.intro rfl (True.intro))))
      · refine l_aload_n rfl rfl ?_
        refine l_gfr rfl rfl rfl rfl rfl (hH.r 904 21 919 rfl) ?_
        refine l_iload rfl rfl ?_
        refine l_iaload (n := 24) rfl rfl (by omega) (by omega) (by unfold rg; omega) ?_
        have w61 : 0 ≤ (Xi S 919 ((z9).toNat)) ∧ (Xi S 919 ((z9).toNat)) ≤ 5 := hH.c _ _
        refine l_aload_n rfl rfl ?_
        refine l_gfr rfl rfl rfl rfl rfl (hH.r 904 122 973 rfl) ?_
        refine l_iload_n rfl rfl ?_
        refine l_iaload (n := 2400) rfl rfl (by omega) (by omega) (by unfold rg; omega) ?_
        have w62 : -2147483648 ≤ (Xi S 973 ((q).toNat)) ∧ (Xi S 973 ((q).toNat)) ≤ 2147483647 := Xi_rgI
        refine l_icmp_ne rfl rfl (by unfold rg; omega) (by unfold rg; omega) (fun w63 => ?_) (fun w64 => ?_)
        · refine l_iconst rfl ?_
          refine l_istore rfl rfl rfl ?_
          refine l_goto rfl rfl ?_
          exact Rl_weak (C288 S hH hF (0) (by omega)) (And.intro rfl (And.intro rfl (And.intro rfl (True.intro))))
        · refine l_aload_n rfl rfl ?_
          refine l_gfr rfl rfl rfl rfl rfl (hH.r 904 22 920 rfl) ?_
          refine l_iload rfl rfl ?_
          refine l_iaload (n := 24) rfl rfl (by omega) (by omega) (by unfold rg; omega) ?_
          have w65 : -1 ≤ (Xi S 920 ((z9).toNat)) ∧ (Xi S 920 ((z9).toNat)) ≤ 23 := hH.c _ _
          refine l_aload_n rfl rfl ?_
          refine l_gfr rfl rfl rfl rfl rfl (hH.r 904 124 975 rfl) ?_
          refine l_iload_n rfl rfl ?_
          refine l_iaload (n := 2400) rfl rfl (by omega) (by omega) (by unfold rg; omega) ?_
          have w66 : -9 ≤ (Xi S 975 ((q).toNat)) ∧ (Xi S 975 ((q).toNat)) ≤ 23 := hH.c _ _
          refine l_iload_n rfl rfl ?_
          refine l_iload_n rfl rfl ?_
          refine l_callS rfl rfl (by decide) rfl (t_mo_thingIs hH (Xi S 975 ((q).toNat)) it noun ⟨by omega, by omega⟩ ⟨by omega, by omega⟩ ⟨by omega, by omega⟩ _) ?_
          rintro _ _ ⟨rfl, z68, rfl, w68, w67⟩
          show Rl _ _ _ _ _ [iv z68, iv (Xi S 920 ((z9).toNat))] _ _
          refine l_icmp_ne rfl rfl (by unfold rg; omega) (by unfold rg; omega) (fun w69 => ?_) (fun w70 => ?_)
          · refine l_iconst rfl ?_
            refine l_istore rfl rfl rfl ?_
            refine l_goto rfl rfl ?_
            exact Rl_weak (C288 S hH hF (0) (by omega)) (And.intro rfl (And.intro rfl (And.intro rfl (True.intro))))
          · refine l_iconst rfl ?_
            refine l_goto rfl rfl ?_
            refine l_istore rfl rfl rfl ?_
            refine l_goto rfl rfl ?_
            exact Rl_weak (C288 S hH hF (1) (by omega)) (And.intro rfl (And.intro rfl (And.intro rfl (True.intro))))
    · refine l_aload_n rfl rfl ?_
      refine l_iload rfl rfl ?_
      refine l_aload_n rfl rfl ?_
      refine l_gfr rfl rfl rfl rfl rfl (hH.r 904 122 973 rfl) ?_
      refine l_iload_n rfl rfl ?_
      refine l_iaload (n := 2400) rfl rfl (by omega) (by omega) (by unfold rg; omega) ?_
      have w71 : -2147483648 ≤ (Xi S 973 ((q).toNat)) ∧ (Xi S 973 ((q).toNat)) ≤ 2147483647 := Xi_rgI
      have a78 : (0 ≤ (Xi S 973 ((q).toNat)) ∧ (Xi S 973 ((q).toNat)) < Xi S 904 23) ∨ (100 ≤ (Xi S 973 ((q).toNat)) ∧ (Xi S 973 ((q).toNat)) % 100 < Xi S 904 32 ∧ (Xi S 973 ((q).toNat)) ≤ 6411) := hk.2.2.1 (by omega)
      refine l_iload rfl rfl ?_
      have w72 : 0 ≤ Xi S 904 19 ∧ Xi S 904 19 ≤ 24 := hH.c _ _
      refine l_callV rfl rfl rfl (hrec hH z9 (Xi S 973 ((q).toNat)) depth ⟨by omega, by omega⟩ ⟨by omega, by omega⟩ ⟨by omega, by omega⟩ (hk.2.2.1 (by omega)) (by first | assumption | exact (ABV_FR hF rfl (by assumption : ABV S))) (by first | assumption | exact (TXM_FR hF rfl (by assumption : TXM S))) (by first | assumption | exact (DEFM_FR hF rfl (by assumption : DEFM S))) (by first | assumption | omega) (by omega)) ?_
      rintro _ T3 ⟨hHT3, w74, z73, rfl, w73⟩
      have hFT3 : FR md_mo_tested S T3 := FR.tr hF w74 rfl
      show Rl _ _ _ _ _ [iv z73] _ _
      refine l_istore rfl rfl rfl ?_
      refine l_goto rfl rfl ?_
      exact Rl_weak (C288 T3 hHT3 hFT3 (z73) (by omega)) (And.intro rfl (And.intro rfl (And.intro rfl (True.intro))))
  · refine l_aload_n rfl rfl ?_
    refine l_gfr rfl rfl rfl rfl rfl (hH.r 904 46 940 rfl) ?_
    refine l_sipush rfl rfl ?_
    refine l_aload_n rfl rfl ?_
    refine l_gfr rfl rfl rfl rfl rfl (hH.r 904 121 972 rfl) ?_
    refine l_iload_n rfl rfl ?_
    refine l_iaload (n := 2400) rfl rfl (by omega) (by omega) (by unfold rg; omega) ?_
    have w75 : -1 ≤ (Xi S 972 ((q).toNat)) ∧ (Xi S 972 ((q).toNat)) ≤ 11 := hH.c _ _
    refine l_imul rfl ?_
    refine l_bipush rfl rfl ?_
    refine l_iload rfl rfl ?_
    refine l_imul rfl ?_
    refine l_iadd rfl ?_
    refine l_aload_n rfl rfl ?_
    refine l_gfr rfl rfl rfl rfl rfl (hH.r 904 124 975 rfl) ?_
    refine l_iload_n rfl rfl ?_
    refine l_iaload (n := 2400) rfl rfl (by omega) (by omega) (by unfold rg; omega) ?_
    have w76 : -9 ≤ (Xi S 975 ((q).toNat)) ∧ (Xi S 975 ((q).toNat)) ≤ 23 := hH.c _ _
    refine l_iload_n rfl rfl ?_
    refine l_iload_n rfl rfl ?_
    refine l_callS rfl rfl (by decide) rfl (t_mo_thingIs hH (Xi S 975 ((q).toNat)) it noun ⟨by omega, by omega⟩ ⟨by omega, by omega⟩ ⟨by omega, by omega⟩ _) ?_
    rintro _ _ ⟨rfl, z78, rfl, w78, w77⟩
    show Rl _ _ _ _ _ [iv z78, iv ((576 * (Xi S 972 ((q).toNat))) + (24 * z9)), .ref 940] _ _
    have o54 : 0 ≤ z78 ∧ z78 < Xi S 904 19 := thk_i (hk.2.1 (by omega)).1 (fun h => h) (fun h => h) h1 h2 (by assumption)
    have p54 : 0 ≤ Xi S 972 q.toNat ∧ Xi S 972 q.toNat ≤ 5 := (hk.2.1 (by omega)).2
    refine l_iadd rfl ?_
    refine l_baload (n := 3456) rfl rfl rfl (by decide) (by omega) (by omega) (by unfold rg; omega) ?_
    have w79 : 0 ≤ (Xi S 940 (((((576 * (Xi S 972 ((q).toNat))) + (24 * z9)) + z78)).toNat)) ∧ (Xi S 940 (((((576 * (Xi S 972 ((q).toNat))) + (24 * z9)) + z78)).toNat)) ≤ 1 := hH.c _ _
    refine l_ireturn rfl (retI_z (by omega)) ?_
    exact ⟨hH, hF, _, rfl, ⟨by omega, by omega⟩⟩
theorem k_mh (n : Nat) : ∀ (d : Nat) {S : sS} (_ : HI S) (o : Int) (a : Int) (dp : Int) (ho : 0 ≤ o ∧ o ≤ 23) (ha : 0 ≤ a ∧ a ≤ 6411) (hdp : 0 ≤ dp ∧ dp ≤ 8) (haa : ADM S a) (hB : ABV S) (hX : TXM S) (hD : DEFM S) (hoo : o < Xi S 904 19), (8 - dp).toNat = n → Mt lay0 (d + 2 * n + 9) m_mo_holds [.ref 904, iv o, iv a, iv dp] S (Q_mo_holds S o a dp) := by
  induction n with
  | zero => intro d S hH o a dp ho ha hdp haa hB hX hD hoo hm; exact u_mo_holds hH o a dp ho ha hdp haa hB hX hD hoo d (fun {_} _ _ _ _ _ _ _ _ _ _ _ _ _ _ _ hlt => absurd hlt.1 (by omega))
  | succ n ih =>
    intro d S hH o a dp ho ha hdp haa hB hX hD hoo hm
    have t := u_mo_holds hH o a dp ho ha hdp haa hB hX hD hoo (d + 2 * n + 2) (fun {S} hH xq xit xnoun xdepth xhq xhit xhnoun xhdepth xhk xhB xhX xhD xh1 xh2 hlt => u_mo_tested hH xq xit xnoun xdepth xhq xhit xhnoun xhdepth xhk xhB xhX xhD xh1 xh2 (d + 2 * n + 2) (fun {S} hH2 yo ya ydp yho yha yhdp yhaa yhB yhX yhD yhoo he => by
      have t := ih d hH2 yo ya ydp yho yha yhdp yhaa yhB yhX yhD yhoo (by omega)
      rw [show d + 2 * n + 9 = d + 2 * n + 2 + 7 by omega] at t
      exact t))
    rw [show d + 2 * n + 2 + 9 = d + 2 * (n + 1) + 9 by omega] at t
    exact t
theorem t_mo_holds {S : sS} (hH : HI S) (o : Int) (a : Int) (dp : Int) (ho : 0 ≤ o ∧ o ≤ 23) (ha : 0 ≤ a ∧ a ≤ 6411) (hdp : 0 ≤ dp ∧ dp ≤ 8) (haa : ADM S a) (hB : ABV S) (hX : TXM S) (hD : DEFM S) (hoo : o < Xi S 904 19) (d : Nat) : Mt lay0 (d + 25) m_mo_holds [.ref 904, iv o, iv a, iv dp] S (Q_mo_holds S o a dp) := by
  have t := k_mh (8 - dp).toNat (d + (16 - 2 * (8 - dp).toNat)) hH o a dp ho ha hdp haa hB hX hD hoo rfl
  rw [show d + (16 - 2 * (8 - dp).toNat) + 2 * (8 - dp).toNat + 9 = d + 25 by omega] at t
  exact t
theorem t_mo_tested {S : sS} (hH : HI S) (q : Int) (it : Int) (noun : Int) (depth : Int) (hq : 0 ≤ q ∧ q ≤ 2399) (hit : -1 ≤ it ∧ it ≤ 23) (hnoun : -1 ≤ noun ∧ noun ≤ 23) (hdepth : 0 ≤ depth ∧ depth ≤ 8) (hk : TQ S (0 ≤ it) (0 ≤ noun) q.toNat) (hB : ABV S) (hX : TXM S) (hD : DEFM S) (h1 : it < Xi S 904 19) (h2 : noun < Xi S 904 19) (d : Nat) : Mt lay0 (d + 26) m_mo_tested [.ref 904, iv q, iv it, iv noun, iv depth] S (Q_mo_tested S q it noun depth) :=
  u_mo_tested hH q it noun depth hq hit hnoun hdepth hk hB hX hD h1 h2 (d + 18) (fun {S} hH2 yo ya ydp yho yha yhdp yhaa yhB yhX yhD yhoo he => t_mo_holds hH2 yo ya ydp yho yha yhdp yhaa yhB yhX yhD yhoo d)

/-! SAFETY of the reference: rules as turns want them -/
def nM (S : sS) (r : Nat) : Prop := 0 ≤ Xi S 979 r ∧ 0 ≤ Xi S 942 (Xi S 979 r).toNat
def NQ (S : sS) (c : Prop) (q : Nat) : Prop := TQ S False c q ∧ (Xi S 969 q = 0 ∨ Xi S 969 q = 3 ∨ Xi S 969 q = 5) ∧ (Xi S 969 q = 3 → Xi S 973 q < 100 → Xi S 922 (Xi S 973 q).toNat ≠ -1)
def PQ (S : sS) (c : Prop) (i : Nat) : Prop := Xi S 977 i < 2400 ∧ (Xi S 976 i = 0 → 0 ≤ Xi S 973 (Xi S 977 i).toNat ∧ 0 ≤ Xi S 974 (Xi S 977 i).toNat ∧ Xi S 973 (Xi S 977 i).toNat + Xi S 974 (Xi S 977 i).toNat ≤ 5000) ∧ (Xi S 976 i = 1 → NQ S c (Xi S 977 i).toNat) ∧
  (Xi S 976 i = 2 → thK S False c (Xi S 971 (Xi S 977 i).toNat) ∧ thK S False c (Xi S 975 (Xi S 977 i).toNat)) ∧
  (Xi S 976 i = 3 ∨ Xi S 976 i = 4 → thK S False c (Xi S 971 (Xi S 977 i).toNat) ∧ 0 ≤ Xi S 972 (Xi S 977 i).toNat ∧ Xi S 972 (Xi S 977 i).toNat < Xi S 904 32 ∧ Xi S 928 (Xi S 972 (Xi S 977 i).toNat).toNat ≠ 1) ∧
  (Xi S 976 i = 5 → (0 ≤ Xi S 972 (Xi S 977 i).toNat ∧ Xi S 972 (Xi S 977 i).toNat < Xi S 904 49) ∧ (Xi S 970 (Xi S 977 i).toNat = 0 → thK S False c (Xi S 971 (Xi S 977 i).toNat)) ∧ (Xi S 970 (Xi S 977 i).toNat ≠ 0 → Xi S 942 (Xi S 972 (Xi S 977 i).toNat).toNat < 0))
def RULM (S : sS) : Prop := ∀ r : Nat, (r : Int) < Xi S 904 130 → (Xi S 984 r + Xi S 985 r ≤ 2400 ∧ Xi S 986 r + Xi S 987 r ≤ 2000 ∧ Xi S 979 r < Xi S 904 49 ∧ (Xi S 978 r = 3 → Xi S 979 r = -1)) ∧ (Xi S 981 r ≠ -1 → nM S r) ∧
  (∀ k : Nat, (k : Int) < Xi S 982 r → nM S r ∧ ADM S (Xi S 983 (6 * r + k))) ∧ (∀ k : Nat, (k : Int) < Xi S 985 r → TQ S False (nM S r) ((Xi S 984 r).toNat + k)) ∧ (∀ k : Nat, (k : Int) < Xi S 987 r → PQ S (nM S r) ((Xi S 986 r).toNat + k))
def kR : List (Nat × Nat) := [(969, 988), (942, 943), (922, 925), (928, 929)]
theorem RULM_FR {l : List rec} {S T : sS} (h : FR l S T) (e : (kdis l kR && mD l [19, 23, 32, 49, 130]) = true) (hR : RULM S) : RULM T := by
  rw [Bool.and_eq_true] at e
  have k := h.smk e.1
  unfold RULM PQ NQ TQ nM ADM thK
  simp only [k.x 969 rfl, k.x 970 rfl, k.x 971 rfl, k.x 972 rfl, k.x 973 rfl, k.x 974 rfl, k.x 975 rfl, k.x 976 rfl, k.x 977 rfl, k.x 978 rfl, k.x 979 rfl, k.x 981 rfl, k.x 982 rfl, k.x 983 rfl, k.x 984 rfl, k.x 985 rfl, k.x 986 rfl, k.x 987 rfl, k.x 942 rfl, k.x 922 rfl, k.x 928 rfl, mD_x h e.2 19 (by decide), mD_x h e.2 23 (by decide), mD_x h e.2 32 (by decide), mD_x h e.2 49 (by decide), mD_x h e.2 130 (by decide)]
  exact hR
theorem PQ_FR {l : List rec} {S T : sS} {c : Prop} {i : Nat} (h : FR l S T) (e : (kdis l kR && mD l [19, 23, 32, 49, 130]) = true) (hp : PQ S c i) : PQ T c i := by
  rw [Bool.and_eq_true] at e
  have k := h.smk e.1
  unfold PQ NQ TQ ADM thK
  simp only [k.x 969 rfl, k.x 970 rfl, k.x 971 rfl, k.x 972 rfl, k.x 973 rfl, k.x 974 rfl, k.x 975 rfl, k.x 976 rfl, k.x 977 rfl, k.x 942 rfl, k.x 922 rfl, k.x 928 rfl, mD_x h e.2 19 (by decide), mD_x h e.2 23 (by decide), mD_x h e.2 32 (by decide), mD_x h e.2 49 (by decide)]
  exact hp
theorem rul_ts {S : sS} {b : Prop} {r i q : Int} (h : RULM S) (h0 : 0 ≤ r) (hr : r < Xi S 904 130) (hi : 0 ≤ i) (hi2 : i < Xi S 985 r.toNat) (hf : 0 ≤ Xi S 984 r.toNat) (hq : q = Xi S 984 r.toNat + i) (hb : nM S r.toNat → b) {a : Prop} : TQ S a b q.toNat := by
  have t := (h r.toNat (by omega)).2.2.2.1 i.toNat (by omega)
  rw [show (Xi S 984 r.toNat).toNat + i.toNat = q.toNat by omega] at t
  exact t.mono (fun f => f.elim) hb
theorem rul_ad {S : sS} {r i q : Int} (h : RULM S) (h0 : 0 ≤ r) (hr : r < Xi S 904 130) (hi : 0 ≤ i) (hi2 : i < Xi S 982 r.toNat) (hq : q = 6 * r + i) : nM S r.toNat ∧ ADM S (Xi S 983 q.toNat) := by
  have t := (h r.toNat (by omega)).2.2.1 i.toNat (by omega)
  rw [show 6 * r.toNat + i.toNat = q.toNat by omega] at t
  exact t
theorem rul_ph {S : sS} {r i q : Int} (h : RULM S) (h0 : 0 ≤ r) (hr : r < Xi S 904 130) (hi : 0 ≤ i) (hi2 : i < Xi S 987 r.toNat) (hf : 0 ≤ Xi S 986 r.toNat) (hq : q = Xi S 986 r.toNat + i) : PQ S (nM S r.toNat) q.toNat := by
  have t := (h r.toNat (by omega)).2.2.2.2 i.toNat (by omega)
  rw [show (Xi S 986 r.toNat).toNat + i.toNat = q.toNat by omega] at t
  exact t
def WYM (S : sS) : Prop := ∀ o : Nat, o < 24 → Xi S 919 o ≠ 0 → 0 ≤ Xi S 920 o
theorem WYM_FR {l : List rec} {S T : sS} (h : FR l S T) (e : kdis l [(919, 921)] = true) (hW : WYM S) : WYM T := fun o ho => by rw [(h.smk e).x 919 rfl, (h.smk e).x 920 rfl]; exact hW o ho
theorem wym_w {S U1 U2 : sS} {n : Nat} {a b : Int32} (e1 : U1 = uI S 919 n a) (e2 : U2 = uI U1 920 n b) (h : Xi U2 919 n ≠ 0 → 0 ≤ Xi U2 920 n) (hW : WYM S) : WYM U2 := fun o ho q => by
  by_cases e : o = n
  · rw [e] at q ⊢; exact h q
  · have x : Xi U2 919 o = Xi S 919 o := by rw [e2, Xi_ne (by omega), e1, Xi_ne (by omega)]
    have y : Xi U2 920 o = Xi S 920 o := by rw [e2, Xi_ne (by omega), e1, Xi_ne (by omega)]
    rw [x] at q
    rw [y]
    exact hW o ho q
theorem wym_t {S U : sS} {n : Nat} {v : Int} (e : U = uI S 920 n (Int32.ofInt v)) (hv : 0 ≤ v ∧ v ≤ 23) (hW : WYM S) : WYM U := fun o ho q => by
  rw [e, Xi_ne (by omega)] at q
  by_cases c : o = n
  · rw [c, e, Xi_same ⟨by omega, by omega⟩]; exact hv.1
  · rw [e, Xi_ne (by omega)]; exact hW o ho q
/-- a property of an object is told -/
theorem txm_w {S U1 U2 U3 : sS} {o p v n : Int} {i : Nat} {w : Int32} (e1 : U1 = uI S 930 i w) (e2 : U2 = uI U1 931 i (Int32.ofInt v)) (e3 : U3 = uI U2 932 i (Int32.ofInt n)) (hi : i = (12 * o + p).toNat) (h0 : 0 ≤ o) (hp : 0 ≤ p) (hp2 : p < Xi S 904 32) (hp3 : p < 12) (hv : rg v) (hn : rg n) (hk : Xi S 928 p.toNat = 1 → OKT v n) (hX : TXM S) : TXM U3 := by
  have x : ∀ k j, k ≠ 930 → k ≠ 931 → k ≠ 932 → Xi U3 k j = Xi S k j := fun k j a b c => by rw [e3, Xi_ne (by omega), e2, Xi_ne (by omega), e1, Xi_ne (by omega)]
  refine ⟨fun a h1 h2 => ?_, fun a b h1 h2 h3 h4 h5 => ?_, fun a b h1 h2 h3 h4 h5 => ?_⟩
  · rw [x 904 19 (by decide) (by decide) (by decide)] at h2
    rw [x 918 _ (by decide) (by decide) (by decide), x 904 16 (by decide) (by decide) (by decide)]
    exact hX.1 a h1 h2
  · rw [x 904 19 (by decide) (by decide) (by decide)] at h2
    rw [x 904 32 (by decide) (by decide) (by decide), x 928 _ (by decide) (by decide) (by decide)]
    by_cases q : (12 * a + b).toNat = i
    · have eb : b = p := by omega
      subst eb
      refine ⟨hp2, fun z => ?_⟩
      have y1 : Xi U3 931 (12 * a + b).toNat = v := by rw [q, e3, Xi_ne (by omega), e2]; exact Xi_same hv
      have y2 : Xi U3 932 (12 * a + b).toNat = n := by rw [q, e3]; exact Xi_same hn
      rw [y1, y2]
      exact hk z
    · have y0 : Xi U3 930 (12 * a + b).toNat = Xi S 930 (12 * a + b).toNat := by rw [e3, Xi_ne (by omega), e2, Xi_ne (by omega), e1, Xi_ne (by omega)]
      have y1 : Xi U3 931 (12 * a + b).toNat = Xi S 931 (12 * a + b).toNat := by rw [e3, Xi_ne (by omega), e2, Xi_ne (by omega), e1, Xi_ne (by omega)]
      have y2 : Xi U3 932 (12 * a + b).toNat = Xi S 932 (12 * a + b).toNat := by rw [e3, Xi_ne (by omega), e2, Xi_ne (by omega), e1, Xi_ne (by omega)]
      rw [y0] at h5
      rw [y1, y2]
      exact hX.2.1 a b h1 h2 h3 h4 h5
  · rw [x 904 16 (by decide) (by decide) (by decide)] at h2
    rw [x 933 _ (by decide) (by decide) (by decide)] at h5
    rw [x 904 32 (by decide) (by decide) (by decide), x 928 _ (by decide) (by decide) (by decide), x 934 _ (by decide) (by decide) (by decide), x 935 _ (by decide) (by decide) (by decide)]
    exact hX.2.2 a b h1 h2 h3 h4 h5
theorem txm_a {S U1 U2 : sS} {o p v : Int} {i : Nat} {w : Int32} (e1 : U1 = uI S 930 i w) (e2 : U2 = uI U1 931 i (Int32.ofInt v)) (hi : i = (12 * o + p).toNat) (h0 : 0 ≤ o) (hp : 0 ≤ p) (hp2 : p < Xi S 904 32) (hp3 : p < 12) (hv : rg v) (hk : Xi S 928 p.toNat ≠ 1) (hX : TXM S) : TXM U2 :=
  txm_w (n := Xi U2 932 i) e1 e2 (U3 := U2) (by
    have e : uI U2 932 i (Int32.ofInt (Xi U2 932 i)) = U2 := by
      show (va_up U2.1 932 (va_up (U2.1 932) i (Int32.ofInt (U2.1 932 i).toInt)), U2.2.1, U2.2.2) = U2
      rw [ofI_toI]
      have f : va_up U2.1 932 (va_up (U2.1 932) i (U2.1 932 i)) = U2.1 := by
        funext k
        unfold va_up
        by_cases c : k = 932
        · subst c; simp only [if_true]; funext j; by_cases g : j = i
          · subst g; simp
          · simp [g]
        · simp [c]
      rw [f]
    exact e.symm) hi h0 hp hp2 hp3 hv Xi_rg (fun z => absurd z hk) hX
theorem thK.mono {S : sS} {b c c2 : Prop} {x : Int} (hc : c → c2) (h : thK S b c x) : thK S b c2 x := h.elim Or.inl (fun u => u.elim (fun v => Or.inr (Or.inl v)) (fun v => Or.inr (Or.inr ⟨v.1, hc v.2⟩)))
theorem NQ.mono {S : sS} {c c2 : Prop} {q : Nat} (hc : c → c2) (h : NQ S c q) : NQ S c2 q := ⟨h.1.mono (fun f => f) hc, h.2⟩
/-- the first actions, adjectives, properties -/
def AKR (S : sS) : Prop := 5 ≤ Xi S 904 49 ∧ Xi S 942 0 = -1 ∧ Xi S 942 1 = 0 ∧ Xi S 942 2 = 0 ∧ Xi S 942 3 = 0 ∧ Xi S 942 4 = -2 ∧ 2 ≤ Xi S 904 23 ∧ 1 ≤ Xi S 904 32
theorem AKR_FR {l : List rec} {S T : sS} (h : FR l S T) (e : (kdis l [(942, 943)] && mD l [23, 32, 49]) = true) (hA : AKR S) : AKR T := by
  rw [Bool.and_eq_true] at e
  have k := h.smk e.1
  unfold AKR
  rw [k.x 942 rfl, k.x 942 rfl, k.x 942 rfl, k.x 942 rfl, k.x 942 rfl, mD_x h e.2 23 (by decide), mD_x h e.2 32 (by decide), mD_x h e.2 49 (by decide)]
  exact hA
theorem akr_n {S : sS} {a noun : Int} (hA : AKR S) (hn : 0 ≤ Xi S 942 a.toNat → 0 ≤ noun) : 1 ≤ a → a ≤ 3 → 0 ≤ noun := fun h1 h3 => hn (by
  obtain ⟨_, _, x1, x2, x3, _⟩ := hA
  rcases (by omega : a = 1 ∨ a = 2 ∨ a = 3) with e | e | e
  · rw [e]; show 0 ≤ Xi S 942 1; omega
  · rw [e]; show 0 ≤ Xi S 942 2; omega
  · rw [e]; show 0 ≤ Xi S 942 3; omega)
/-! the same question again -/
def dv (lay : Nat → Nat × Nat) (d : Nat) (q : mT) (av : List Value) (S : sS) (r : Option Value) (S1 : sS) : Prop := ∃ N : Nat, ∀ G, N ≤ G → evd lay G d q av S = some (r, S1)
theorem Mt_d {lay : Nat → Nat × Nat} {d : Nat} {q : mT} {av : List Value} {S : sS} {Q : pst} (h : Mt lay d q av S Q) : Mt lay d q av S (fun r S1 => Q r S1 ∧ dv lay d q av S r S1) := by
  obtain ⟨N, r, S1, h1, h2⟩ := h
  exact ⟨N, r, S1, h1, h2, N, h1⟩
theorem dv_i {lay : Nat → Nat × Nat} {d : Nat} {q : mT} {av : List Value} {S S1 S2 : sS} {z z2 : Int} (h : dv lay d q av S (some (iv z)) S1) (h2 : dv lay d q av S (some (iv z2)) S2) (hz : rg z) (hz2 : rg z2) : z2 = z := by
  obtain ⟨N, a⟩ := h
  obtain ⟨M, b⟩ := h2
  have e := (a (N + M) (by omega)).symm.trans (b (N + M) (by omega))
  injection e with e
  injection e with e _
  injection e with e
  unfold iv at e
  injection e with e
  have t := congrArg Int32.toInt e
  rw [toI hz, toI hz2] at t
  exact t.symm
def md_mo_applies : List rec := [(904, 905, 154, 155)]
abbrev Q_mo_applies (S : sS) (ri : Int) (action : Int) (noun : Int) : pst := fun r S1 => HI S1 ∧ FR md_mo_applies S S1 ∧ (∃ z : Int, r = some (iv z) ∧ (0 ≤ z ∧ z ≤ 1) ∧ (z = 1 → Xi S 978 ri.toNat < 3 → Xi S 979 ri.toNat = action))
set_option maxRecDepth 100000 in
theorem t_mo_applies {S : sS} (hH : HI S) (ri : Int) (action : Int) (noun : Int) (hri : 0 ≤ ri ∧ ri ≤ 23) (haction : -1 ≤ action ∧ action ≤ 11) (hnoun : -1 ≤ noun ∧ noun ≤ 23) (hr : ri < Xi S 904 130) (hR : RULM S) (hD : DEFM S) (hB : ABV S) (hX : TXM S) (hn : Xi S 978 ri.toNat < 3 → 0 ≤ action → 0 ≤ Xi S 942 action.toNat → 0 ≤ noun) (h2 : noun < Xi S 904 19) (d : Nat) : Mt lay0 (d + 27) m_mo_applies [.ref 904, iv ri, iv action, iv noun] S (Q_mo_applies S ri action noun) := by
  refine Mt_R rfl rfl ?_
  have hF : FR md_mo_applies S S := FR.rf
  have w1 : 0 ≤ Xi S 904 130 ∧ Xi S 904 130 ≤ 24 := hH.c _ _
  have w2 : 0 ≤ Xi S 904 19 ∧ Xi S 904 19 ≤ 24 := hH.c _ _
  have hc3 : 0 ≤ Xi S 904 23 ∧ Xi S 904 23 ≤ 24 := hH.c _ _
  have hc19 : 0 ≤ Xi S 904 19 ∧ Xi S 904 19 ≤ 24 := hH.c _ _
  have hc32 : 0 ≤ Xi S 904 32 ∧ Xi S 904 32 ≤ 12 := hH.c _ _
  have hr0 := hR ri.toNat (by omega)
  have hr1 := hr0.1
  have h984 : 0 ≤ Xi S 984 ri.toNat ∧ Xi S 984 ri.toNat ≤ 480 := hH.c 984 ri.toNat
  have h978 : 0 ≤ Xi S 978 ri.toNat ∧ Xi S 978 ri.toNat ≤ 3 := hH.c 978 ri.toNat
  have hnn : Xi S 978 ri.toNat < 3 → Xi S 979 ri.toNat = action → nM S ri.toNat → 0 ≤ noun := fun q e h => hn q (by rw [← e]; exact h.1) (by rw [← e]; exact h.2)
  have hkk : Xi S 978 ri.toNat < 3 → Xi S 979 ri.toNat = action → Xi S 981 ri.toNat ≠ -1 → 0 ≤ noun := fun q e h => hnn q e (hr0.2.1 h)
  have hn3 : Xi S 978 ri.toNat = 3 → nM S ri.toNat → 0 ≤ noun := fun e h => absurd h.1 (by have := hr1.2.2.2 e; omega)
  clear hr0
  have C140 : ∀  (T1 : sS) (_ : HI T1) (_ : FR md_mo_applies S T1), (Xi S 978 ri.toNat < 3 → Xi S 979 ri.toNat = action) → Rl lay0 (d + 26) m_mo_applies 140 [(0, .ref 904), (1, iv ri), (3, iv noun)] [] T1 (Q_mo_applies S ri action noun) := by
    intro T1 hHT1 hFT1 w3
    have w4 : Xi T1 904 130 = Xi S 904 130 := hFT1.x _ _ rfl
    have w5 : Xi T1 904 19 = Xi S 904 19 := hFT1.x _ _ rfl
    have C143 : ∀ (n143 : Nat) (T2 : sS) (_ : HI T2) (_ : FR md_mo_applies S T2) (v4 : Int), (0 ≤ v4 ∧ v4 ≤ 6) → (Xi S 978 ri.toNat < 3 → Xi S 979 ri.toNat = action) → n143 = (7 - v4).toNat → Rl lay0 (d + 26) m_mo_applies 143 [(0, .ref 904), (1, iv ri), (3, iv noun), (4, iv v4)] [] T2 (Q_mo_applies S ri action noun) := by
      intro n143
      induction n143 using Nat.strongRecOn with
      | ind n143 ih143 =>
        intro T2 hHT2 hFT2 v4 w6 w7 hm143
        have w8 : Xi T2 904 130 = Xi S 904 130 := hFT2.x _ _ rfl
        have w9 : Xi T2 904 19 = Xi S 904 19 := hFT2.x _ _ rfl
        refine l_iload rfl rfl ?_
        refine l_aload_n rfl rfl ?_
        refine l_gfr rfl rfl rfl rfl rfl (hHT2.r 904 138 985 rfl) ?_
        refine l_iload_n rfl rfl ?_
        refine l_iaload (n := 24) rfl rfl (by omega) (by omega) (by unfold rg; omega) ?_
        have w10 : 0 ≤ (Xi T2 985 ((ri).toNat)) ∧ (Xi T2 985 ((ri).toNat)) ≤ 6 := hHT2.c _ _
        have e150 : (Xi T2 985 ((ri).toNat)) = Xi S 985 ri.toNat := by first | rfl | exact (hFT2.cx 985 rfl _).1
        refine l_icmp_ge rfl rfl (by unfold rg; omega) (by unfold rg; omega) (fun w11 => ?_) (fun w12 => ?_)
        · refine l_iconst rfl ?_
          refine l_ireturn rfl rfl ?_
          exact ⟨hHT2, hFT2, _, rfl, ⟨by omega, by omega⟩, (by first | assumption | omega)⟩
        · refine l_aload_n rfl rfl ?_
          refine l_aload_n rfl rfl ?_
          refine l_gfr rfl rfl rfl rfl rfl (hHT2.r 904 137 984 rfl) ?_
          refine l_iload_n rfl rfl ?_
          refine l_iaload (n := 24) rfl rfl (by omega) (by omega) (by unfold rg; omega) ?_
          have w13 : 0 ≤ (Xi T2 984 ((ri).toNat)) ∧ (Xi T2 984 ((ri).toNat)) ≤ 480 := hHT2.c _ _
          have e160 : (Xi T2 984 ((ri).toNat)) = Xi S 984 ri.toNat := by first | rfl | exact (hFT2.cx 984 rfl _).1
          refine l_iload rfl rfl ?_
          refine l_iadd rfl ?_
          refine l_iconst rfl ?_
          refine l_iload_n rfl rfl ?_
          refine l_iconst rfl ?_
          have w14 : 0 ≤ Xi T2 904 19 ∧ Xi T2 904 19 ≤ 24 := hHT2.c _ _
          refine l_callV rfl rfl rfl (t_mo_tested hHT2 ((Xi T2 984 ((ri).toNat)) + v4) (-1) noun 0 ⟨by omega, by omega⟩ ⟨by omega, by omega⟩ ⟨by omega, by omega⟩ ⟨by omega, by omega⟩ (TQ_FR hFT2 rfl (rul_ts hR (r := ri) (i := v4) (by omega) hr (by omega) (by omega) (by omega) (by omega) (fun h => (Int.lt_or_le (Xi S 978 ri.toNat) 3).elim (fun q => hnn q (by omega) h) (fun q => hn3 (by omega) h)))) (by first | assumption | exact (ABV_FR hFT2 rfl (by assumption : ABV S))) (by first | assumption | exact (TXM_FR hFT2 rfl (by assumption : TXM S))) (by first | assumption | exact (DEFM_FR hFT2 rfl (by assumption : DEFM S))) (by first | assumption | omega) (by first | assumption | omega) _) ?_
          rintro _ T3 ⟨hHT3, w16, z15, rfl, w15⟩
          have hFT3 : FR md_mo_applies S T3 := FR.tr hFT2 w16 rfl
          show Rl _ _ _ _ _ [iv z15] _ _
          refine l_if_ne rfl rfl (by unfold rg; omega) (fun w17 => ?_) (fun w18 => ?_)
          · refine l_iinc rfl rfl rfl rfl ?_
            refine l_goto rfl rfl ?_
            exact Rl_weak (ih143 _ (by omega) T3 hHT3 hFT3 ((v4 + 1)) (by omega) (by omega) rfl) (And.intro rfl (And.intro rfl (And.intro rfl (And.intro rfl (True.intro)))))
          · refine l_iconst rfl ?_
            refine l_ireturn rfl rfl ?_
            exact ⟨hHT3, hFT3, _, rfl, ⟨by omega, by omega⟩, (by first | assumption | omega)⟩
    refine l_iconst rfl ?_
    refine l_istore rfl rfl rfl ?_
    exact Rl_weak (C143 _ T1 hHT1 hFT1 (0) (by omega) (by omega) rfl) (And.intro rfl (And.intro rfl (And.intro rfl (And.intro rfl (True.intro)))))
  have C91 : ∀ (n91 : Nat) (T4 : sS) (_ : HI T4) (_ : FR md_mo_applies S T4) (v4 : Int) (v5 : Int), (0 ≤ v4 ∧ v4 ≤ 1) → (0 ≤ v5 ∧ v5 ≤ 6) → (v4 = 1 → Xi S 979 ri.toNat = action) → (Xi S 978 ri.toNat < 3) → n91 = (7 - v5).toNat → Rl lay0 (d + 26) m_mo_applies 91 [(0, .ref 904), (1, iv ri), (3, iv noun), (4, iv v4), (5, iv v5)] [] T4 (Q_mo_applies S ri action noun) := by
    intro n91
    induction n91 using Nat.strongRecOn with
    | ind n91 ih91 =>
      intro T4 hHT4 hFT4 v4 v5 w19 w20 w21 w22 hm91
      have w23 : Xi T4 904 130 = Xi S 904 130 := hFT4.x _ _ rfl
      have w24 : Xi T4 904 19 = Xi S 904 19 := hFT4.x _ _ rfl
      have C133 : ∀  (T5 : sS) (_ : HI T5) (_ : FR md_mo_applies S T5) (v4 : Int), (0 ≤ v4 ∧ v4 ≤ 1) → (v4 = 1 → Xi S 979 ri.toNat = action) → (Xi S 978 ri.toNat < 3) → Rl lay0 (d + 26) m_mo_applies 133 [(0, .ref 904), (1, iv ri), (3, iv noun), (4, iv v4)] [] T5 (Q_mo_applies S ri action noun) := by
        intro T5 hHT5 hFT5 v4 w25 w26 w27
        have w28 : Xi T5 904 130 = Xi S 904 130 := hFT5.x _ _ rfl
        have w29 : Xi T5 904 19 = Xi S 904 19 := hFT5.x _ _ rfl
        refine l_iload rfl rfl ?_
        refine l_if_ne rfl rfl (by unfold rg; omega) (fun w30 => ?_) (fun w31 => ?_)
        · exact Rl_weak (C140 T5 hHT5 hFT5  (by omega)) (And.intro rfl (And.intro rfl (And.intro rfl (True.intro))))
        · refine l_iconst rfl ?_
          refine l_ireturn rfl rfl ?_
          exact ⟨hHT5, hFT5, _, rfl, ⟨by omega, by omega⟩, (by first | assumption | omega)⟩
      refine l_iload rfl rfl ?_
      refine l_aload_n rfl rfl ?_
      refine l_gfr rfl rfl rfl rfl rfl (hHT4.r 904 135 982 rfl) ?_
      refine l_iload_n rfl rfl ?_
      refine l_iaload (n := 24) rfl rfl (by omega) (by omega) (by unfold rg; omega) ?_
      have w32 : 0 ≤ (Xi T4 982 ((ri).toNat)) ∧ (Xi T4 982 ((ri).toNat)) ≤ 6 := hHT4.c _ _
      have e98 : (Xi T4 982 ((ri).toNat)) = Xi S 982 ri.toNat := by first | rfl | exact (hFT4.cx 982 rfl _).1
      refine l_icmp_ge rfl rfl (by unfold rg; omega) (by unfold rg; omega) (fun w33 => ?_) (fun w34 => ?_)
      · exact Rl_weak (C133 T4 hHT4 hFT4 (v4) (by omega) (by omega) (by omega)) (And.intro rfl (And.intro rfl (And.intro rfl (And.intro rfl (True.intro)))))
      · refine l_iload rfl rfl ?_
        refine l_if_eq rfl rfl (by unfold rg; omega) (fun w35 => ?_) (fun w36 => ?_)
        · exact Rl_weak (C133 T4 hHT4 hFT4 (v4) (by omega) (by omega) (by omega)) (And.intro rfl (And.intro rfl (And.intro rfl (And.intro rfl (True.intro)))))
        · refine l_aload_n rfl rfl ?_
          refine l_iload_n rfl rfl ?_
          refine l_aload_n rfl rfl ?_
          refine l_gfr rfl rfl rfl rfl rfl (hHT4.r 904 136 983 rfl) ?_
          refine l_bipush rfl rfl ?_
          refine l_iload_n rfl rfl ?_
          refine l_imul rfl ?_
          refine l_iload rfl rfl ?_
          refine l_iadd rfl ?_
          refine l_iaload (n := 144) rfl rfl (by omega) (by omega) (by unfold rg; omega) ?_
          have w37 : -1 ≤ (Xi T4 983 ((((6 * ri) + v5)).toNat)) ∧ (Xi T4 983 ((((6 * ri) + v5)).toNat)) ≤ 6411 := hHT4.c _ _
          have j120 : nM S ri.toNat ∧ ADM S (Xi S 983 (6 * ri + v5).toNat) := rul_ad hR (by omega) hr (i := v5) (by omega) (by omega) rfl
          have k120 : 0 ≤ noun := hnn (by omega) (by omega) j120.1
          have e120 : (Xi T4 983 ((((6 * ri) + v5)).toNat)) = Xi S 983 (6 * ri + v5).toNat := by first | rfl | exact (hFT4.cx 983 rfl _).1
          have a120 : (0 ≤ Xi S 983 (6 * ri + v5).toNat ∧ Xi S 983 (6 * ri + v5).toNat < Xi S 904 23) ∨ (100 ≤ Xi S 983 (6 * ri + v5).toNat ∧ Xi S 983 (6 * ri + v5).toNat % 100 < Xi S 904 32 ∧ Xi S 983 (6 * ri + v5).toNat ≤ 6411) := j120.2
          refine l_iconst rfl ?_
          have w38 : 0 ≤ Xi T4 904 19 ∧ Xi T4 904 19 ≤ 24 := hHT4.c _ _
          refine l_callV rfl rfl rfl (t_mo_holds hHT4 noun (Xi T4 983 ((((6 * ri) + v5)).toNat)) 0 ⟨by omega, by omega⟩ ⟨by omega, by omega⟩ ⟨by omega, by omega⟩ (by rw [e120]; unfold ADM; rw [hFT4.x 904 23 rfl, hFT4.x 904 32 rfl]; exact a120) (by first | assumption | exact (ABV_FR hFT4 rfl (by assumption : ABV S))) (by first | assumption | exact (TXM_FR hFT4 rfl (by assumption : TXM S))) (by first | assumption | exact (DEFM_FR hFT4 rfl (by assumption : DEFM S))) (by first | assumption | omega) _) ?_
          rintro _ T6 ⟨hHT6, w40, z39, rfl, w39⟩
          have hFT6 : FR md_mo_applies S T6 := FR.tr hFT4 w40 rfl
          show Rl _ _ _ _ _ [iv z39] _ _
          refine l_istore rfl rfl rfl ?_
          refine l_iinc rfl rfl rfl rfl ?_
          refine l_goto rfl rfl ?_
          exact Rl_weak (ih91 _ (by omega) T6 hHT6 hFT6 (z39) ((v5 + 1)) (by omega) (by omega) (by omega) (by omega) rfl) (And.intro rfl (And.intro rfl (And.intro rfl (And.intro rfl (And.intro rfl (True.intro))))))
  refine l_aload_n rfl rfl ?_
  refine l_gfr rfl rfl rfl rfl rfl (hH.r 904 131 978 rfl) ?_
  refine l_iload_n rfl rfl ?_
  refine l_iaload (n := 24) rfl rfl (by omega) (by omega) (by unfold rg; omega) ?_
  have w41 : 0 ≤ (Xi S 978 ((ri).toNat)) ∧ (Xi S 978 ((ri).toNat)) ≤ 3 := hH.c _ _
  refine l_iconst rfl ?_
  refine l_icmp_ge rfl rfl (by unfold rg; omega) (by unfold rg; omega) (fun w42 => ?_) (fun w43 => ?_)
  · exact Rl_weak (C140 S hH hF  (by omega)) (And.intro rfl (And.intro rfl (And.intro rfl (True.intro))))
  · refine l_aload_n rfl rfl ?_
    refine l_gfr rfl rfl rfl rfl rfl (hH.r 904 132 979 rfl) ?_
    refine l_iload_n rfl rfl ?_
    refine l_iaload (n := 24) rfl rfl (by omega) (by omega) (by unfold rg; omega) ?_
    have w44 : -1 ≤ (Xi S 979 ((ri).toNat)) ∧ (Xi S 979 ((ri).toNat)) ≤ 11 := hH.c _ _
    refine l_iload_n rfl rfl ?_
    refine l_icmp_ne rfl rfl (by unfold rg; omega) (by unfold rg; omega) (fun w45 => ?_) (fun w46 => ?_)
    · refine l_iconst rfl ?_
      refine l_istore rfl rfl rfl ?_
      refine l_iload rfl rfl ?_
      refine l_if_eq rfl rfl (by unfold rg; omega) (fun w47 => ?_) (fun w48 => absurd w48 (by omega))
      · refine l_iconst rfl ?_
        refine l_istore rfl rfl rfl ?_
        refine l_iconst rfl ?_
        refine l_istore rfl rfl rfl ?_
        exact Rl_weak (C91 _ S hH hF (0) (0) (by omega) (by omega) (by omega) (by omega) rfl) (And.intro rfl (And.intro rfl (And.intro rfl (And.intro rfl (And.intro rfl (True.intro))))))
    · refine l_aload_n rfl rfl ?_
      refine l_gfr rfl rfl rfl rfl rfl (hH.r 904 133 980 rfl) ?_
      refine l_iload_n rfl rfl ?_
      refine l_iaload (n := 24) rfl rfl (by omega) (by omega) (by unfold rg; omega) ?_
      have w49 : -1 ≤ (Xi S 980 ((ri).toNat)) ∧ (Xi S 980 ((ri).toNat)) ≤ 23 := hH.c _ _
      refine l_iconst rfl ?_
      refine l_icmp_eq rfl rfl (by unfold rg; omega) (by unfold rg; omega) (fun w50 => ?_) (fun w51 => ?_)
      · refine l_iconst rfl ?_
        refine l_goto rfl rfl ?_
        refine l_istore rfl rfl rfl ?_
        refine l_iload rfl rfl ?_
        refine l_if_eq rfl rfl (by unfold rg; omega) (fun w52 => absurd w52 (by omega)) (fun w53 => ?_)
        · refine l_aload_n rfl rfl ?_
          refine l_gfr rfl rfl rfl rfl rfl (hH.r 904 134 981 rfl) ?_
          refine l_iload_n rfl rfl ?_
          refine l_iaload (n := 24) rfl rfl (by omega) (by omega) (by unfold rg; omega) ?_
          have w54 : -1 ≤ (Xi S 981 ((ri).toNat)) ∧ (Xi S 981 ((ri).toNat)) ≤ 15 := hH.c _ _
          refine l_iconst rfl ?_
          refine l_icmp_eq rfl rfl (by unfold rg; omega) (by unfold rg; omega) (fun w55 => ?_) (fun w56 => ?_)
          · refine l_iconst rfl ?_
            refine l_goto rfl rfl ?_
            refine l_istore rfl rfl rfl ?_
            refine l_iconst rfl ?_
            refine l_istore rfl rfl rfl ?_
            exact Rl_weak (C91 _ S hH hF (1) (0) (by omega) (by omega) (by omega) (by omega) rfl) (And.intro rfl (And.intro rfl (And.intro rfl (And.intro rfl (And.intro rfl (True.intro))))))
          · refine l_aload_n rfl rfl ?_
            refine l_aload_n rfl rfl ?_
            refine l_gfr rfl rfl rfl rfl rfl (hH.r 904 20 918 rfl) ?_
            refine l_iload_n rfl rfl ?_
            refine l_iaload (n := 24) rfl rfl (by omega) (by omega) (by unfold rg; omega) ?_
            have w57 : 0 ≤ (Xi S 918 ((noun).toNat)) ∧ (Xi S 918 ((noun).toNat)) ≤ 15 := hH.c _ _
            refine l_aload_n rfl rfl ?_
            refine l_gfr rfl rfl rfl rfl rfl (hH.r 904 134 981 rfl) ?_
            refine l_iload_n rfl rfl ?_
            refine l_iaload (n := 24) rfl rfl (by omega) (by omega) (by unfold rg; omega) ?_
            refine l_callV rfl rfl rfl (t_mo_isBelow hH (Xi S 918 ((noun).toNat)) (Xi S 981 ((ri).toNat)) ⟨by omega, by omega⟩ ⟨by omega, by omega⟩ (by first | assumption | exact (ABV_FR hF rfl (by assumption : ABV S))) _) ?_
            rintro _ _ ⟨rfl, z59, rfl, w59, w58⟩
            show Rl _ _ _ _ _ [iv z59] _ _
            refine l_if_eq rfl rfl (by unfold rg; omega) (fun w60 => ?_) (fun w61 => ?_)
            · refine l_iconst rfl ?_
              refine l_istore rfl rfl rfl ?_
              refine l_iconst rfl ?_
              refine l_istore rfl rfl rfl ?_
              exact Rl_weak (C91 _ S hH hF (0) (0) (by omega) (by omega) (by omega) (by omega) rfl) (And.intro rfl (And.intro rfl (And.intro rfl (And.intro rfl (And.intro rfl (True.intro))))))
            · refine l_iconst rfl ?_
              refine l_goto rfl rfl ?_
              refine l_istore rfl rfl rfl ?_
              refine l_iconst rfl ?_
              refine l_istore rfl rfl rfl ?_
              exact Rl_weak (C91 _ S hH hF (1) (0) (by omega) (by omega) (by omega) (by omega) rfl) (And.intro rfl (And.intro rfl (And.intro rfl (And.intro rfl (And.intro rfl (True.intro))))))
      · refine l_aload_n rfl rfl ?_
        refine l_gfr rfl rfl rfl rfl rfl (hH.r 904 133 980 rfl) ?_
        refine l_iload_n rfl rfl ?_
        refine l_iaload (n := 24) rfl rfl (by omega) (by omega) (by unfold rg; omega) ?_
        refine l_iload_n rfl rfl ?_
        refine l_icmp_ne rfl rfl (by unfold rg; omega) (by unfold rg; omega) (fun w62 => ?_) (fun w63 => ?_)
        · refine l_iconst rfl ?_
          refine l_istore rfl rfl rfl ?_
          refine l_iload rfl rfl ?_
          refine l_if_eq rfl rfl (by unfold rg; omega) (fun w64 => ?_) (fun w65 => absurd w65 (by omega))
          · refine l_iconst rfl ?_
            refine l_istore rfl rfl rfl ?_
            refine l_iconst rfl ?_
            refine l_istore rfl rfl rfl ?_
            exact Rl_weak (C91 _ S hH hF (0) (0) (by omega) (by omega) (by omega) (by omega) rfl) (And.intro rfl (And.intro rfl (And.intro rfl (And.intro rfl (And.intro rfl (True.intro))))))
        · refine l_iconst rfl ?_
          refine l_goto rfl rfl ?_
          refine l_istore rfl rfl rfl ?_
          refine l_iload rfl rfl ?_
          refine l_if_eq rfl rfl (by unfold rg; omega) (fun w66 => absurd w66 (by omega)) (fun w67 => ?_)
          · refine l_aload_n rfl rfl ?_
            refine l_gfr rfl rfl rfl rfl rfl (hH.r 904 134 981 rfl) ?_
            refine l_iload_n rfl rfl ?_
            refine l_iaload (n := 24) rfl rfl (by omega) (by omega) (by unfold rg; omega) ?_
            have w68 : -1 ≤ (Xi S 981 ((ri).toNat)) ∧ (Xi S 981 ((ri).toNat)) ≤ 15 := hH.c _ _
            refine l_iconst rfl ?_
            refine l_icmp_eq rfl rfl (by unfold rg; omega) (by unfold rg; omega) (fun w69 => ?_) (fun w70 => ?_)
            · refine l_iconst rfl ?_
              refine l_goto rfl rfl ?_
              refine l_istore rfl rfl rfl ?_
              refine l_iconst rfl ?_
              refine l_istore rfl rfl rfl ?_
              exact Rl_weak (C91 _ S hH hF (1) (0) (by omega) (by omega) (by omega) (by omega) rfl) (And.intro rfl (And.intro rfl (And.intro rfl (And.intro rfl (And.intro rfl (True.intro))))))
            · refine l_aload_n rfl rfl ?_
              refine l_aload_n rfl rfl ?_
              refine l_gfr rfl rfl rfl rfl rfl (hH.r 904 20 918 rfl) ?_
              refine l_iload_n rfl rfl ?_
              refine l_iaload (n := 24) rfl rfl (by omega) (by omega) (by unfold rg; omega) ?_
              have w71 : 0 ≤ (Xi S 918 ((noun).toNat)) ∧ (Xi S 918 ((noun).toNat)) ≤ 15 := hH.c _ _
              refine l_aload_n rfl rfl ?_
              refine l_gfr rfl rfl rfl rfl rfl (hH.r 904 134 981 rfl) ?_
              refine l_iload_n rfl rfl ?_
              refine l_iaload (n := 24) rfl rfl (by omega) (by omega) (by unfold rg; omega) ?_
              refine l_callV rfl rfl rfl (t_mo_isBelow hH (Xi S 918 ((noun).toNat)) (Xi S 981 ((ri).toNat)) ⟨by omega, by omega⟩ ⟨by omega, by omega⟩ (by first | assumption | exact (ABV_FR hF rfl (by assumption : ABV S))) _) ?_
              rintro _ _ ⟨rfl, z73, rfl, w73, w72⟩
              show Rl _ _ _ _ _ [iv z73] _ _
              refine l_if_eq rfl rfl (by unfold rg; omega) (fun w74 => ?_) (fun w75 => ?_)
              · refine l_iconst rfl ?_
                refine l_istore rfl rfl rfl ?_
                refine l_iconst rfl ?_
                refine l_istore rfl rfl rfl ?_
                exact Rl_weak (C91 _ S hH hF (0) (0) (by omega) (by omega) (by omega) (by omega) rfl) (And.intro rfl (And.intro rfl (And.intro rfl (And.intro rfl (And.intro rfl (True.intro))))))
              · refine l_iconst rfl ?_
                refine l_goto rfl rfl ?_
                refine l_istore rfl rfl rfl ?_
                refine l_iconst rfl ?_
                refine l_istore rfl rfl rfl ?_
                exact Rl_weak (C91 _ S hH hF (1) (0) (by omega) (by omega) (by omega) (by omega) rfl) (And.intro rfl (And.intro rfl (And.intro rfl (And.intro rfl (And.intro rfl (True.intro))))))
def md_mo_words : List rec := [(904, 905, 160, 161), (994, 995, 0, 100000)]
abbrev Q_mo_words (S : sS) (from_ : Int) (end_ : Int) : pst := fun r S1 => HI S1 ∧ FR md_mo_words S S1 ∧ (∃ z : Int, r = some (iv z) ∧ (-1 ≤ z ∧ z ≤ 5000) ∧ (z ≠ -1 → from_ < z ∧ z ≤ end_))
set_option maxRecDepth 100000 in
theorem t_mo_words {S : sS} (hH : HI S) (from_ : Int) (end_ : Int) (hfrom_ : 0 ≤ from_ ∧ from_ ≤ 5000) (hend_ : 0 ≤ end_ ∧ end_ ≤ 5000) (d : Nat) : Mt lay0 (d + 4) m_mo_words [.ref 904, iv from_, iv end_] S (Q_mo_words S from_ end_) := by
  refine Mt_R rfl rfl ?_
  have hF : FR md_mo_words S S := FR.rf
  have C7 : ∀ (n7 : Nat) (T1 : sS) (_ : HI T1) (_ : FR md_mo_words S T1) (v3 : Int), (0 ≤ v3 ∧ v3 ≤ 5000) → (from_ ≤ v3) → n7 = (5001 - v3).toNat → Rl lay0 (d + 3) m_mo_words 7 [(0, .ref 904), (2, iv end_), (3, iv v3)] [] T1 (Q_mo_words S from_ end_) := by
    intro n7
    induction n7 using Nat.strongRecOn with
    | ind n7 ih7 =>
      intro T1 hHT1 hFT1 v3 w1 w2 hm7
      have C55 : ∀ (n55 : Nat) (T2 : sS) (_ : HI T2) (_ : FR md_mo_words S T2) (v3 : Int) (v4 : Int), (0 ≤ v3 ∧ v3 ≤ 4999) → (0 ≤ v4 ∧ v4 ≤ 5000) → (from_ ≤ v3) → (v3 ≤ v4) → (v3 < end_) → (v4 ≤ end_) → (v4 = v3 → ltr (Xi S 906 (v4).toNat) = 1) → ((5001 - v3).toNat ≤ n7) → n55 = (5001 - v4).toNat → Rl lay0 (d + 3) m_mo_words 55 [(0, .ref 904), (2, iv end_), (3, iv v3), (4, iv v4)] [] T2 (Q_mo_words S from_ end_) := by
        intro n55
        induction n55 using Nat.strongRecOn with
        | ind n55 ih55 =>
          intro T2 hHT2 hFT2 v3 v4 w3 w4 w5 w6 w7 w8 hl55 w9 hm55
          have C80 : ∀  (T3 : sS) (_ : HI T3) (_ : FR md_mo_words S T3) (v3 : Int) (v4 : Int), (0 ≤ v3 ∧ v3 ≤ 4999) → (0 ≤ v4 ∧ v4 ≤ 5000) → (from_ ≤ v3) → (v3 ≤ v4) → (v3 < end_) → (v4 ≤ end_) → (v3 < v4) → ((5001 - v3).toNat ≤ n7) → Rl lay0 (d + 3) m_mo_words 80 [(0, .ref 904), (2, iv end_), (3, iv v3), (4, iv v4)] [] T3 (Q_mo_words S from_ end_) := by
            intro T3 hHT3 hFT3 v3 v4 w10 w11 w12 w13 w14 w15 w16 w17
            refine l_iload rfl rfl ?_
            refine l_iload_n rfl rfl ?_
            refine l_isub rfl ?_
            refine l_bipush rfl rfl ?_
            refine l_icmp_gt rfl rfl (by unfold rg; omega) (by unfold rg; omega) (fun w18 => ?_) (fun w19 => ?_)
            · refine l_iconst rfl ?_
              refine l_ireturn rfl rfl ?_
              exact ⟨hHT3, hFT3, _, rfl, ⟨by omega, by omega⟩, (by first | assumption | omega)⟩
            · refine l_aload_n rfl rfl ?_
              refine l_gfi rfl rfl rfl rfl rfl ?_
              have w20 : 0 ≤ (Xi T3 904 160) ∧ (Xi T3 904 160) ≤ 64 := hHT3.c _ _
              refine l_bipush rfl rfl ?_
              refine l_icmp_ne rfl rfl (by unfold rg; omega) (by unfold rg; omega) (fun w21 => ?_) (fun w22 => ?_)
              · refine l_aload_n rfl rfl ?_
                refine l_gfr rfl rfl rfl rfl rfl (hHT3.r 904 159 994 rfl) ?_
                refine l_aload_n rfl rfl ?_
                refine l_gfi rfl rfl rfl rfl rfl ?_
                refine l_aload_n rfl rfl ?_
                refine l_gfr rfl rfl rfl rfl rfl (hHT3.r 904 2 906 rfl) ?_
                refine l_iload_n rfl rfl ?_
                refine l_iload rfl rfl ?_
                refine l_iload_n rfl rfl ?_
                refine l_isub rfl ?_
                refine l_callS rfl rfl (by decide) rfl (t_mo_wordOf hHT3 906 v3 (v4 - v3) (Or.inr rfl) ⟨by omega, by omega⟩ ⟨by omega, by omega⟩ (by first | assumption | omega) _) ?_
                rintro _ _ ⟨rfl, z23, rfl⟩
                show Rl _ _ _ _ _ [jw z23, iv (Xi T3 904 160), .ref 994] _ _
                refine l_lastore (n := 64) rfl rfl (by omega) (by omega) (by unfold rg; omega) ?_
                obtain ⟨U4, eU4⟩ : ∃ T : sS, T = uJ T3 994 (((Xi T3 904 160)).toNat) (Int64.ofInt z23) := ⟨_, rfl⟩
                rw [← eU4]
                have hHU4 : HI U4 := by rw [eU4]; exact HI_J hHT3
                have hFU4 : FR md_mo_words S U4 := by rw [eU4]; exact FR.wJ hFT3 (mdf_i (r := (994, 995, 0, 100000)) (List.mem_of_getElem? (i := 1) rfl) (inR_i (by omega) (by omega) (by omega) (by omega)))
                refine l_aload_n rfl rfl ?_
                refine l_dup rfl rfl ?_
                refine l_gfi rfl rfl rfl rfl rfl ?_
                have w24 : (Xi U4 904 160) = (Xi T3 904 160) := (show Xi U4 904 160 = Xi T3 904 160 from by rw [eU4]; rfl)
                rw [w24]
                refine l_iconst rfl ?_
                refine l_iadd rfl ?_
                refine l_pfi rfl rfl rfl rfl ?_
                obtain ⟨U5, eU5⟩ : ∃ T : sS, T = uI U4 904 160 (Int32.ofInt ((Xi T3 904 160) + 1)) := ⟨_, rfl⟩
                rw [← eU5]
                have hHU5 : HI U5 := by rw [eU5]; exact HI_w hHU4 (show 0 ≤ ((Xi T3 904 160) + 1) by omega) (show ((Xi T3 904 160) + 1) ≤ 64 by omega)
                have hFU5 : FR md_mo_words S U5 := by rw [eU5]; exact FR.wI hFU4 (mdf_i (r := (904, 905, 160, 161)) (List.mem_of_getElem? (i := 0) rfl) (inR_i (by omega) (by omega) (by omega) (by omega)))
                have w25 : Xi U5 904 160 = ((Xi T3 904 160) + 1) := by rw [eU5]; exact Xi_same (by unfold rg; omega)
                refine l_iload rfl rfl ?_
                refine l_istore_n rfl rfl rfl ?_
                refine l_goto rfl rfl ?_
                exact Rl_weak (ih7 _ (by omega) U5 hHU5 hFU5 (v4) (by omega) (by omega) rfl) (And.intro rfl (And.intro rfl (And.intro rfl (True.intro))))
              · refine l_iconst rfl ?_
                refine l_ireturn rfl rfl ?_
                exact ⟨hHT3, hFT3, _, rfl, ⟨by omega, by omega⟩, (by first | assumption | omega)⟩
          refine l_iload rfl rfl ?_
          refine l_iload_n rfl rfl ?_
          refine l_icmp_ge rfl rfl (by unfold rg; omega) (by unfold rg; omega) (fun w26 => ?_) (fun w27 => ?_)
          · exact Rl_weak (C80 T2 hHT2 hFT2 (v3) (v4) (by omega) (by omega) (by omega) (by omega) (by omega) (by omega) (by omega) (by omega)) (And.intro rfl (And.intro rfl (And.intro rfl (And.intro rfl (True.intro)))))
          · refine l_aload_n rfl rfl ?_
            refine l_gfr rfl rfl rfl rfl rfl (hHT2.r 904 2 906 rfl) ?_
            refine l_iload rfl rfl ?_
            refine l_baload (n := 5000) rfl rfl rfl (by decide) (by omega) (by omega) (by unfold rg; omega) ?_
            have w28 : -128 ≤ (Xi T2 906 ((v4).toNat)) ∧ (Xi T2 906 ((v4).toNat)) ≤ 127 := hHT2.c _ _
            have e67 : (Xi T2 906 ((v4).toNat)) = Xi S 906 (v4).toNat := by first | rfl | exact (hFT2.cx 906 rfl _).1
            refine l_callS rfl rfl (by decide) rfl (t_mo_isLetter hHT2 (Xi T2 906 ((v4).toNat)) ⟨by omega, by omega⟩ _) ?_
            rintro _ _ ⟨rfl, z30, rfl, w30, w29⟩
            show Rl _ _ _ _ _ [iv z30] _ _
            have l68 : v4 = v3 → z30 = 1 := fun q => by rw [(by assumption : z30 = ltr _), e67]; exact hl55 q
            refine l_if_eq rfl rfl (by unfold rg; omega) (fun w31 => ?_) (fun w32 => ?_)
            · exact Rl_weak (C80 T2 hHT2 hFT2 (v3) (v4) (by omega) (by omega) (by omega) (by omega) (by omega) (by omega) (by omega) (by omega)) (And.intro rfl (And.intro rfl (And.intro rfl (And.intro rfl (True.intro)))))
            · refine l_iinc rfl rfl rfl rfl ?_
              refine l_goto rfl rfl ?_
              exact Rl_weak (ih55 _ (by omega) T2 hHT2 hFT2 (v3) ((v4 + 1)) (by omega) (by omega) (by omega) (by omega) (by omega) (by omega) (by first | exact fun _ => by omega | exact fun q => by omega) (by omega) rfl) (And.intro rfl (And.intro rfl (And.intro rfl (And.intro rfl (True.intro)))))
      have C139 : ∀  (T6 : sS) (_ : HI T6) (_ : FR md_mo_words S T6) (v3 : Int), (0 ≤ v3 ∧ v3 ≤ 5000) → (from_ ≤ v3) → Rl lay0 (d + 3) m_mo_words 139 [(2, iv end_), (3, iv v3)] [] T6 (Q_mo_words S from_ end_) := by
        intro T6 hHT6 hFT6 v3 w33 w34
        refine l_iload_n rfl rfl ?_
        refine l_iload_n rfl rfl ?_
        refine l_icmp_ge rfl rfl (by unfold rg; omega) (by unfold rg; omega) (fun w35 => ?_) (fun w36 => ?_)
        · refine l_iconst rfl ?_
          refine l_ireturn rfl rfl ?_
          exact ⟨hHT6, hFT6, _, rfl, ⟨by omega, by omega⟩, (by first | assumption | omega)⟩
        · refine l_iload_n rfl rfl ?_
          refine l_iconst rfl ?_
          refine l_iadd rfl ?_
          refine l_goto rfl rfl ?_
          refine l_ireturn rfl rfl ?_
          exact ⟨hHT6, hFT6, _, rfl, ⟨by omega, by omega⟩, (by first | assumption | omega)⟩
      refine l_iload_n rfl rfl ?_
      refine l_iload_n rfl rfl ?_
      refine l_icmp_ge rfl rfl (by unfold rg; omega) (by unfold rg; omega) (fun w37 => ?_) (fun w38 => ?_)
      · exact Rl_weak (C139 T1 hHT1 hFT1 (v3) (by omega) (by omega)) (And.intro rfl (And.intro rfl (True.intro)))
      · refine l_aload_n rfl rfl ?_
        refine l_gfr rfl rfl rfl rfl rfl (hHT1.r 904 2 906 rfl) ?_
        refine l_iload_n rfl rfl ?_
        refine l_baload (n := 5000) rfl rfl rfl (by decide) (by omega) (by omega) (by unfold rg; omega) ?_
        have w39 : -128 ≤ (Xi T1 906 ((v3).toNat)) ∧ (Xi T1 906 ((v3).toNat)) ≤ 127 := hHT1.c _ _
        refine l_bipush rfl rfl ?_
        refine l_icmp_eq rfl rfl (by unfold rg; omega) (by unfold rg; omega) (fun w40 => ?_) (fun w41 => ?_)
        · exact Rl_weak (C139 T1 hHT1 hFT1 (v3) (by omega) (by omega)) (And.intro rfl (And.intro rfl (True.intro)))
        · refine l_aload_n rfl rfl ?_
          refine l_gfr rfl rfl rfl rfl rfl (hHT1.r 904 2 906 rfl) ?_
          refine l_iload_n rfl rfl ?_
          refine l_baload (n := 5000) rfl rfl rfl (by decide) (by omega) (by omega) (by unfold rg; omega) ?_
          refine l_bipush rfl rfl ?_
          refine l_icmp_ne rfl rfl (by unfold rg; omega) (by unfold rg; omega) (fun w42 => ?_) (fun w43 => ?_)
          · refine l_aload_n rfl rfl ?_
            refine l_gfr rfl rfl rfl rfl rfl (hHT1.r 904 2 906 rfl) ?_
            refine l_iload_n rfl rfl ?_
            refine l_baload (n := 5000) rfl rfl rfl (by decide) (by omega) (by omega) (by unfold rg; omega) ?_
            have e45 : (Xi T1 906 ((v3).toNat)) = Xi S 906 (v3).toNat := by first | rfl | exact (hFT1.cx 906 rfl _).1
            refine l_callS rfl rfl (by decide) rfl (t_mo_isLetter hHT1 (Xi T1 906 ((v3).toNat)) ⟨by omega, by omega⟩ _) ?_
            rintro _ _ ⟨rfl, z45, rfl, w45, w44⟩
            show Rl _ _ _ _ _ [iv z45] _ _
            have l46 : z45 = ltr (Xi S 906 (v3).toNat) := by rw [← e45]; assumption
            refine l_if_eq rfl rfl (by unfold rg; omega) (fun w46 => ?_) (fun w47 => ?_)
            · refine l_iconst rfl ?_
              refine l_ireturn rfl rfl ?_
              exact ⟨hHT1, hFT1, _, rfl, ⟨by omega, by omega⟩, (by first | assumption | omega)⟩
            · refine l_iload_n rfl rfl ?_
              refine l_istore rfl rfl rfl ?_
              exact Rl_weak (C55 _ T1 hHT1 hFT1 (v3) (v3) (by omega) (by omega) (by omega) (by omega) (by omega) (by omega) (by first | exact fun _ => by omega | exact fun q => by omega) (by omega) rfl) (And.intro rfl (And.intro rfl (And.intro rfl (And.intro rfl (True.intro)))))
          · refine l_iinc rfl rfl rfl rfl ?_
            refine l_goto rfl rfl ?_
            exact Rl_weak (ih7 _ (by omega) T1 hHT1 hFT1 ((v3 + 1)) (by omega) (by omega) rfl) (And.intro rfl (And.intro rfl (And.intro rfl (True.intro))))
  refine l_iload_n rfl rfl ?_
  refine l_istore_n rfl rfl rfl ?_
  refine l_aload_n rfl rfl ?_
  refine l_iconst rfl ?_
  refine l_pfi rfl rfl rfl rfl ?_
  obtain ⟨U7, eU7⟩ : ∃ T : sS, T = uI S 904 160 (Int32.ofInt 0) := ⟨_, rfl⟩
  rw [← eU7]
  have hHU7 : HI U7 := by rw [eU7]; exact HI_w hH (show 0 ≤ 0 by omega) (show 0 ≤ 64 by omega)
  have hFU7 : FR md_mo_words S U7 := by rw [eU7]; exact FR.wI hF (mdf_i (r := (904, 905, 160, 161)) (List.mem_of_getElem? (i := 0) rfl) (inR_i (by omega) (by omega) (by omega) (by omega)))
  have w48 : Xi U7 904 160 = 0 := by rw [eU7]; exact Xi_same (by unfold rg; omega)
  exact Rl_weak (C7 _ U7 hHU7 hFU7 (from_) (by omega) (by omega) rfl) (And.intro rfl (And.intro rfl (And.intro rfl (True.intro))))
def md_mo_written : List rec := [(904, 905, 154, 155), (904, 905, 156, 157), (904, 905, 160, 161), (993, 994, 0, 100000), (994, 995, 0, 100000)]
abbrev Q_mo_written (S : sS) (from_ : Int) (n : Int) : pst := fun r S1 => HI S1 ∧ FR md_mo_written S S1 ∧ (∃ z : Int, r = some (iv z) ∧ (0 ≤ z ∧ z ≤ 1))
set_option maxRecDepth 100000 in
theorem t_mo_written {S : sS} (hH : HI S) (from_ : Int) (n : Int) (hfrom_ : 0 ≤ from_ ∧ from_ ≤ 5000) (hn : 0 ≤ n ∧ n ≤ 5000) (hA : from_ + n ≤ 5000) (hM : LXM S) (hB : ABV S) (hX : TXM S) (hno : Xi S 904 158 < Xi S 904 19) (d : Nat) : Mt lay0 (d + 6) m_mo_written [.ref 904, iv from_, iv n] S (Q_mo_written S from_ n) := by
  refine Mt_R rfl rfl ?_
  have hF : FR md_mo_written S S := FR.rf
  have w1 : -1 ≤ Xi S 904 158 ∧ Xi S 904 158 ≤ 23 := hH.c _ _
  have w2 : 0 ≤ Xi S 904 19 ∧ Xi S 904 19 ≤ 24 := hH.c _ _
  have C7 : ∀ (n7 : Nat) (T1 : sS) (_ : HI T1) (_ : FR md_mo_written S T1) (v3 : Int) (v4 : Int), (0 ≤ v3 ∧ v3 ≤ 5000) → (0 ≤ v4 ∧ v4 ≤ 5000) → (from_ ≤ v3) → (v4 = from_ + n) → n7 = (5001 - v3).toNat → Rl lay0 (d + 5) m_mo_written 7 [(0, .ref 904), (3, iv v3), (4, iv v4)] [] T1 (Q_mo_written S from_ n) := by
    intro n7
    induction n7 using Nat.strongRecOn with
    | ind n7 ih7 =>
      intro T1 hHT1 hFT1 v3 v4 w3 w4 w5 w6 hm7
      have w7 : Xi T1 904 158 = Xi S 904 158 := hFT1.x _ _ rfl
      have w8 : Xi T1 904 19 = Xi S 904 19 := hFT1.x _ _ rfl
      refine l_iload_n rfl rfl ?_
      refine l_iload rfl rfl ?_
      refine l_icmp_ge rfl rfl (by unfold rg; omega) (by unfold rg; omega) (fun w9 => ?_) (fun w10 => ?_)
      · refine l_iconst rfl ?_
        refine l_ireturn rfl rfl ?_
        exact ⟨hHT1, hFT1, _, rfl, ⟨by omega, by omega⟩⟩
      · refine l_aload_n rfl rfl ?_
        refine l_gfr rfl rfl rfl rfl rfl (hHT1.r 904 2 906 rfl) ?_
        refine l_iload_n rfl rfl ?_
        refine l_baload (n := 5000) rfl rfl rfl (by decide) (by omega) (by omega) (by unfold rg; omega) ?_
        have w11 : -128 ≤ (Xi T1 906 ((v3).toNat)) ∧ (Xi T1 906 ((v3).toNat)) ≤ 127 := hHT1.c _ _
        refine l_bipush rfl rfl ?_
        refine l_icmp_ne rfl rfl (by unfold rg; omega) (by unfold rg; omega) (fun w12 => ?_) (fun w13 => ?_)
        · refine l_aload_n rfl rfl ?_
          refine l_gfr rfl rfl rfl rfl rfl (hHT1.r 904 2 906 rfl) ?_
          refine l_iload_n rfl rfl ?_
          refine l_baload (n := 5000) rfl rfl rfl (by decide) (by omega) (by omega) (by unfold rg; omega) ?_
          refine l_bipush rfl rfl ?_
          refine l_icmp_ne rfl rfl (by unfold rg; omega) (by unfold rg; omega) (fun w14 => ?_) (fun w15 => ?_)
          · refine l_aload_n rfl rfl ?_
            refine l_aload_n rfl rfl ?_
            refine l_gfr rfl rfl rfl rfl rfl (hHT1.r 904 2 906 rfl) ?_
            refine l_iload_n rfl rfl ?_
            refine l_baload (n := 5000) rfl rfl rfl (by decide) (by omega) (by omega) (by unfold rg; omega) ?_
            refine l_callV rfl rfl rfl (t_mo_put hHT1 (Xi T1 906 ((v3).toNat)) ⟨by omega, by omega⟩ _) ?_
            rintro _ T2 ⟨hHT2, w17, rfl⟩
            have hFT2 : FR md_mo_written S T2 := FR.tr hFT1 w17 rfl
            show Rl _ _ _ _ _ [] _ _
            refine l_iinc rfl rfl rfl rfl ?_
            refine l_goto rfl rfl ?_
            exact Rl_weak (ih7 _ (by omega) T2 hHT2 hFT2 ((v3 + 1)) (v4) (by omega) (by omega) (by omega) (by omega) rfl) (And.intro rfl (And.intro rfl (And.intro rfl (True.intro))))
          · refine l_aload_n rfl rfl ?_
            refine l_iload_n rfl rfl ?_
            refine l_iconst rfl ?_
            refine l_iadd rfl ?_
            refine l_iload rfl rfl ?_
            refine l_callV rfl rfl rfl (t_mo_words hHT1 (v3 + 1) v4 ⟨by omega, by omega⟩ ⟨by omega, by omega⟩ _) ?_
            rintro _ T3 ⟨hHT3, w20, z19, rfl, w19, w18⟩
            have hFT3 : FR md_mo_written S T3 := FR.tr hFT1 w20 rfl
            show Rl _ _ _ _ _ [iv z19] _ _
            refine l_istore_n rfl rfl rfl ?_
            refine l_iload_n rfl rfl ?_
            refine l_iconst rfl ?_
            refine l_icmp_eq rfl rfl (by unfold rg; omega) (by unfold rg; omega) (fun w21 => ?_) (fun w22 => ?_)
            · refine l_iconst rfl ?_
              refine l_ireturn rfl rfl ?_
              exact ⟨hHT3, hFT3, _, rfl, ⟨by omega, by omega⟩⟩
            · refine l_aload_n rfl rfl ?_
              have w23 : Xi T3 904 158 = Xi T1 904 158 := (show Xi T3 904 158 = Xi T1 904 158 from w20.x _ _ rfl)
              have w24 : -1 ≤ Xi T1 904 158 ∧ Xi T1 904 158 ≤ 23 := hHT1.c _ _
              have w25 : Xi T3 904 19 = Xi T1 904 19 := (show Xi T3 904 19 = Xi T1 904 19 from w20.x _ _ rfl)
              have w26 : 0 ≤ Xi T1 904 19 ∧ Xi T1 904 19 ≤ 24 := hHT1.c _ _
              refine l_callV rfl rfl rfl (t_mo_saysInside hHT3 (by first | assumption | exact (LXM_FR hFT3 rfl (by assumption : LXM S))) (by first | assumption | exact (ABV_FR hFT3 rfl (by assumption : ABV S))) (by first | assumption | exact (TXM_FR hFT3 rfl (by assumption : TXM S))) (by first | assumption | omega) _) ?_
              rintro _ T4 ⟨hHT4, w28, z27, rfl, w27⟩
              have hFT4 : FR md_mo_written S T4 := FR.tr hFT3 w28 rfl
              show Rl _ _ _ _ _ [iv z27] _ _
              refine l_if_ne rfl rfl (by unfold rg; omega) (fun w29 => ?_) (fun w30 => ?_)
              · exact Rl_weak (ih7 _ (by omega) T4 hHT4 hFT4 (z19) (v4) (by omega) (by omega) (by omega) (by omega) rfl) (And.intro rfl (And.intro rfl (And.intro rfl (True.intro))))
              · refine l_iconst rfl ?_
                refine l_ireturn rfl rfl ?_
                exact ⟨hHT4, hFT4, _, rfl, ⟨by omega, by omega⟩⟩
        · refine l_iconst rfl ?_
          refine l_ireturn rfl rfl ?_
          exact ⟨hHT1, hFT1, _, rfl, ⟨by omega, by omega⟩⟩
  refine l_iload_n rfl rfl ?_
  refine l_istore_n rfl rfl rfl ?_
  refine l_iload_n rfl rfl ?_
  refine l_iload_n rfl rfl ?_
  refine l_iadd rfl ?_
  refine l_istore rfl rfl rfl ?_
  exact Rl_weak (C7 _ S hH hF (from_) ((from_ + n)) (by omega) (by omega) (by omega) (by omega) rfl) (And.intro rfl (And.intro rfl (And.intro rfl (True.intro))))
def md_mo_moves : List rec := [(919, 920, 0, 100000), (920, 921, 0, 100000)]
abbrev Q_mo_moves (S : sS) (a : Int) (b : Int) : pst := fun r S1 => HI S1 ∧ FR md_mo_moves S S1 ∧ (r = none ∧ (WYM S1))
set_option maxRecDepth 100000 in
theorem t_mo_moves {S : sS} (hH : HI S) (a : Int) (b : Int) (ha : 0 ≤ a ∧ a ≤ 23) (hb : 0 ≤ b ∧ b ≤ 23) (hB : ABV S) (hW : WYM S) (d : Nat) : Mt lay0 (d + 3) m_mo_moves [.ref 904, iv a, iv b] S (Q_mo_moves S a b) := by
  refine Mt_R rfl rfl ?_
  have hF : FR md_mo_moves S S := FR.rf
  refine l_aload_n rfl rfl ?_
  refine l_aload_n rfl rfl ?_
  refine l_gfr rfl rfl rfl rfl rfl (hH.r 904 20 918 rfl) ?_
  refine l_iload_n rfl rfl ?_
  refine l_iaload (n := 24) rfl rfl (by omega) (by omega) (by unfold rg; omega) ?_
  have w1 : 0 ≤ (Xi S 918 ((a).toNat)) ∧ (Xi S 918 ((a).toNat)) ≤ 15 := hH.c _ _
  refine l_iconst rfl ?_
  refine l_callV rfl rfl rfl (t_mo_isBelow hH (Xi S 918 ((a).toNat)) 0 ⟨by omega, by omega⟩ ⟨by omega, by omega⟩ (by first | assumption | exact (ABV_FR hF rfl (by assumption : ABV S))) _) ?_
  rintro _ _ ⟨rfl, z3, rfl, w3, w2⟩
  show Rl _ _ _ _ _ [iv z3] _ _
  refine l_if_eq rfl rfl (by unfold rg; omega) (fun w4 => ?_) (fun w5 => ?_)
  · refine l_return rfl rfl ?_
    exact ⟨hH, hF, rfl, (by first | assumption | exact wym_w  rfl (fun _ => by rw [rfl, Xi_same (by unfold rg; omega)]; omega) hW)⟩
  · refine l_aload_n rfl rfl ?_
    refine l_iload_n rfl rfl ?_
    refine l_iload_n rfl rfl ?_
    refine l_callV rfl rfl rfl (t_mo_isWithin hH b a ⟨by omega, by omega⟩ ⟨by omega, by omega⟩ _) ?_
    rintro _ _ ⟨rfl, z6, rfl, w6⟩
    show Rl _ _ _ _ _ [iv z6] _ _
    refine l_if_eq rfl rfl (by unfold rg; omega) (fun w7 => ?_) (fun w8 => ?_)
    · refine l_aload_n rfl rfl ?_
      refine l_gfr rfl rfl rfl rfl rfl (hH.r 904 21 919 rfl) ?_
      refine l_iload_n rfl rfl ?_
      refine l_aload_n rfl rfl ?_
      refine l_iconst rfl ?_
      refine l_aload_n rfl rfl ?_
      refine l_gfr rfl rfl rfl rfl rfl (hH.r 904 20 918 rfl) ?_
      refine l_iload_n rfl rfl ?_
      refine l_iaload (n := 24) rfl rfl (by omega) (by omega) (by unfold rg; omega) ?_
      have w9 : 0 ≤ (Xi S 918 ((b).toNat)) ∧ (Xi S 918 ((b).toNat)) ≤ 15 := hH.c _ _
      refine l_callV rfl rfl rfl (t_mo_mayHold hH 1 (Xi S 918 ((b).toNat)) ⟨by omega, by omega⟩ ⟨by omega, by omega⟩ (by first | assumption | exact (ABV_FR hF rfl (by assumption : ABV S))) _) ?_
      rintro _ _ ⟨rfl, z10, rfl, w10⟩
      show Rl _ _ _ _ _ [iv z10, iv a, .ref 919] _ _
      refine l_if_eq rfl rfl (by unfold rg; omega) (fun w11 => ?_) (fun w12 => ?_)
      · refine l_aload_n rfl rfl ?_
        refine l_iconst rfl ?_
        refine l_aload_n rfl rfl ?_
        refine l_gfr rfl rfl rfl rfl rfl (hH.r 904 20 918 rfl) ?_
        refine l_iload_n rfl rfl ?_
        refine l_iaload (n := 24) rfl rfl (by omega) (by omega) (by unfold rg; omega) ?_
        refine l_callV rfl rfl rfl (t_mo_mayHold hH 2 (Xi S 918 ((b).toNat)) ⟨by omega, by omega⟩ ⟨by omega, by omega⟩ (by first | assumption | exact (ABV_FR hF rfl (by assumption : ABV S))) _) ?_
        rintro _ _ ⟨rfl, z13, rfl, w13⟩
        show Rl _ _ _ _ _ [iv z13, iv a, .ref 919] _ _
        refine l_if_eq rfl rfl (by unfold rg; omega) (fun w14 => ?_) (fun w15 => ?_)
        · refine l_aload_n rfl rfl ?_
          refine l_iconst rfl ?_
          refine l_aload_n rfl rfl ?_
          refine l_gfr rfl rfl rfl rfl rfl (hH.r 904 20 918 rfl) ?_
          refine l_iload_n rfl rfl ?_
          refine l_iaload (n := 24) rfl rfl (by omega) (by omega) (by unfold rg; omega) ?_
          refine l_callV rfl rfl rfl (t_mo_mayHold hH 4 (Xi S 918 ((b).toNat)) ⟨by omega, by omega⟩ ⟨by omega, by omega⟩ (by first | assumption | exact (ABV_FR hF rfl (by assumption : ABV S))) _) ?_
          rintro _ _ ⟨rfl, z16, rfl, w16⟩
          show Rl _ _ _ _ _ [iv z16, iv a, .ref 919] _ _
          refine l_if_eq rfl rfl (by unfold rg; omega) (fun w17 => ?_) (fun w18 => ?_)
          · refine l_iconst rfl ?_
            refine l_iastore (n := 24) rfl rfl (by omega) (by omega) (by unfold rg; omega) ?_
            obtain ⟨U1, eU1⟩ : ∃ T : sS, T = uI S 919 ((a).toNat) (Int32.ofInt 3) := ⟨_, rfl⟩
            rw [← eU1]
            have hHU1 : HI U1 := by rw [eU1]; exact HI_w hH (show 0 ≤ 3 by omega) (show 3 ≤ 5 by omega)
            have hFU1 : FR md_mo_moves S U1 := by rw [eU1]; exact FR.wI hF (mdf_i (r := (919, 920, 0, 100000)) (List.mem_of_getElem? (i := 0) rfl) (inR_i (by omega) (by omega) (by omega) (by omega)))
            have w19 : Xi U1 919 ((a).toNat) = 3 := by rw [eU1]; exact Xi_same (by unfold rg; omega)
            refine l_aload_n rfl rfl ?_
            refine l_gfr rfl rfl rfl rfl rfl (hHU1.r 904 22 920 rfl) ?_
            refine l_iload_n rfl rfl ?_
            refine l_iload_n rfl rfl ?_
            refine l_iastore (n := 24) rfl rfl (by omega) (by omega) (by unfold rg; omega) ?_
            obtain ⟨U2, eU2⟩ : ∃ T : sS, T = uI U1 920 ((a).toNat) (Int32.ofInt b) := ⟨_, rfl⟩
            rw [← eU2]
            have hHU2 : HI U2 := by rw [eU2]; exact HI_w hHU1 (show -1 ≤ b by omega) (show b ≤ 23 by omega)
            have hFU2 : FR md_mo_moves S U2 := by rw [eU2]; exact FR.wI hFU1 (mdf_i (r := (920, 921, 0, 100000)) (List.mem_of_getElem? (i := 1) rfl) (inR_i (by omega) (by omega) (by omega) (by omega)))
            have w20 : Xi U2 920 ((a).toNat) = b := by rw [eU2]; exact Xi_same (by unfold rg; omega)
            refine l_return rfl rfl ?_
            exact ⟨hHU2, hFU2, rfl, (by first | assumption | exact wym_w eU1 eU2 (fun _ => by rw [eU2, Xi_same (by unfold rg; omega)]; omega) hW)⟩
          · refine l_iconst rfl ?_
            refine l_goto rfl rfl ?_
            refine l_iastore (n := 24) rfl rfl (by omega) (by omega) (by unfold rg; omega) ?_
            obtain ⟨U3, eU3⟩ : ∃ T : sS, T = uI S 919 ((a).toNat) (Int32.ofInt 4) := ⟨_, rfl⟩
            rw [← eU3]
            have hHU3 : HI U3 := by rw [eU3]; exact HI_w hH (show 0 ≤ 4 by omega) (show 4 ≤ 5 by omega)
            have hFU3 : FR md_mo_moves S U3 := by rw [eU3]; exact FR.wI hF (mdf_i (r := (919, 920, 0, 100000)) (List.mem_of_getElem? (i := 0) rfl) (inR_i (by omega) (by omega) (by omega) (by omega)))
            have w21 : Xi U3 919 ((a).toNat) = 4 := by rw [eU3]; exact Xi_same (by unfold rg; omega)
            refine l_aload_n rfl rfl ?_
            refine l_gfr rfl rfl rfl rfl rfl (hHU3.r 904 22 920 rfl) ?_
            refine l_iload_n rfl rfl ?_
            refine l_iload_n rfl rfl ?_
            refine l_iastore (n := 24) rfl rfl (by omega) (by omega) (by unfold rg; omega) ?_
            obtain ⟨U4, eU4⟩ : ∃ T : sS, T = uI U3 920 ((a).toNat) (Int32.ofInt b) := ⟨_, rfl⟩
            rw [← eU4]
            have hHU4 : HI U4 := by rw [eU4]; exact HI_w hHU3 (show -1 ≤ b by omega) (show b ≤ 23 by omega)
            have hFU4 : FR md_mo_moves S U4 := by rw [eU4]; exact FR.wI hFU3 (mdf_i (r := (920, 921, 0, 100000)) (List.mem_of_getElem? (i := 1) rfl) (inR_i (by omega) (by omega) (by omega) (by omega)))
            have w22 : Xi U4 920 ((a).toNat) = b := by rw [eU4]; exact Xi_same (by unfold rg; omega)
            refine l_return rfl rfl ?_
            exact ⟨hHU4, hFU4, rfl, (by first | assumption | exact wym_w eU3 eU4 (fun _ => by rw [eU4, Xi_same (by unfold rg; omega)]; omega) hW)⟩
        · refine l_iconst rfl ?_
          refine l_goto rfl rfl ?_
          refine l_iastore (n := 24) rfl rfl (by omega) (by omega) (by unfold rg; omega) ?_
          obtain ⟨U5, eU5⟩ : ∃ T : sS, T = uI S 919 ((a).toNat) (Int32.ofInt 2) := ⟨_, rfl⟩
          rw [← eU5]
          have hHU5 : HI U5 := by rw [eU5]; exact HI_w hH (show 0 ≤ 2 by omega) (show 2 ≤ 5 by omega)
          have hFU5 : FR md_mo_moves S U5 := by rw [eU5]; exact FR.wI hF (mdf_i (r := (919, 920, 0, 100000)) (List.mem_of_getElem? (i := 0) rfl) (inR_i (by omega) (by omega) (by omega) (by omega)))
          have w23 : Xi U5 919 ((a).toNat) = 2 := by rw [eU5]; exact Xi_same (by unfold rg; omega)
          refine l_aload_n rfl rfl ?_
          refine l_gfr rfl rfl rfl rfl rfl (hHU5.r 904 22 920 rfl) ?_
          refine l_iload_n rfl rfl ?_
          refine l_iload_n rfl rfl ?_
          refine l_iastore (n := 24) rfl rfl (by omega) (by omega) (by unfold rg; omega) ?_
          obtain ⟨U6, eU6⟩ : ∃ T : sS, T = uI U5 920 ((a).toNat) (Int32.ofInt b) := ⟨_, rfl⟩
          rw [← eU6]
          have hHU6 : HI U6 := by rw [eU6]; exact HI_w hHU5 (show -1 ≤ b by omega) (show b ≤ 23 by omega)
          have hFU6 : FR md_mo_moves S U6 := by rw [eU6]; exact FR.wI hFU5 (mdf_i (r := (920, 921, 0, 100000)) (List.mem_of_getElem? (i := 1) rfl) (inR_i (by omega) (by omega) (by omega) (by omega)))
          have w24 : Xi U6 920 ((a).toNat) = b := by rw [eU6]; exact Xi_same (by unfold rg; omega)
          refine l_return rfl rfl ?_
          exact ⟨hHU6, hFU6, rfl, (by first | assumption | exact wym_w eU5 eU6 (fun _ => by rw [eU6, Xi_same (by unfold rg; omega)]; omega) hW)⟩
      · refine l_iconst rfl ?_
        refine l_goto rfl rfl ?_
        refine l_iastore (n := 24) rfl rfl (by omega) (by omega) (by unfold rg; omega) ?_
        obtain ⟨U7, eU7⟩ : ∃ T : sS, T = uI S 919 ((a).toNat) (Int32.ofInt 1) := ⟨_, rfl⟩
        rw [← eU7]
        have hHU7 : HI U7 := by rw [eU7]; exact HI_w hH (show 0 ≤ 1 by omega) (show 1 ≤ 5 by omega)
        have hFU7 : FR md_mo_moves S U7 := by rw [eU7]; exact FR.wI hF (mdf_i (r := (919, 920, 0, 100000)) (List.mem_of_getElem? (i := 0) rfl) (inR_i (by omega) (by omega) (by omega) (by omega)))
        have w25 : Xi U7 919 ((a).toNat) = 1 := by rw [eU7]; exact Xi_same (by unfold rg; omega)
        refine l_aload_n rfl rfl ?_
        refine l_gfr rfl rfl rfl rfl rfl (hHU7.r 904 22 920 rfl) ?_
        refine l_iload_n rfl rfl ?_
        refine l_iload_n rfl rfl ?_
        refine l_iastore (n := 24) rfl rfl (by omega) (by omega) (by unfold rg; omega) ?_
        obtain ⟨U8, eU8⟩ : ∃ T : sS, T = uI U7 920 ((a).toNat) (Int32.ofInt b) := ⟨_, rfl⟩
        rw [← eU8]
        have hHU8 : HI U8 := by rw [eU8]; exact HI_w hHU7 (show -1 ≤ b by omega) (show b ≤ 23 by omega)
        have hFU8 : FR md_mo_moves S U8 := by rw [eU8]; exact FR.wI hFU7 (mdf_i (r := (920, 921, 0, 100000)) (List.mem_of_getElem? (i := 1) rfl) (inR_i (by omega) (by omega) (by omega) (by omega)))
        have w26 : Xi U8 920 ((a).toNat) = b := by rw [eU8]; exact Xi_same (by unfold rg; omega)
        refine l_return rfl rfl ?_
        exact ⟨hHU8, hFU8, rfl, (by first | assumption | exact wym_w eU7 eU8 (fun _ => by rw [eU8, Xi_same (by unfold rg; omega)]; omega) hW)⟩
    · refine l_return rfl rfl ?_
      exact ⟨hH, hF, rfl, (by first | assumption | exact wym_w  rfl (fun _ => by rw [rfl, Xi_same (by unfold rg; omega)]; omega) hW)⟩
def md_mo_adds : List rec := [(904, 905, 154, 155), (930, 931, 0, 100000), (931, 932, 0, 100000)]
abbrev Q_mo_adds (S : sS) (q : Int) (noun : Int) (by_ : Int) : pst := fun r S1 => HI S1 ∧ FR md_mo_adds S S1 ∧ (r = none ∧ (TXM S1))
set_option maxRecDepth 100000 in
theorem t_mo_adds {S : sS} (hH : HI S) (q : Int) (noun : Int) (by_ : Int) (hq : 0 ≤ q ∧ q ≤ 2399) (hnoun : -1 ≤ noun ∧ noun ≤ 23) (hby_ : -2147483648 ≤ by_ ∧ by_ ≤ 2147483647) (hk : thK S False (0 ≤ noun) (Xi S 971 q.toNat)) (hp : 0 ≤ Xi S 972 q.toNat ∧ Xi S 972 q.toNat < Xi S 904 32 ∧ Xi S 928 (Xi S 972 q.toNat).toNat ≠ 1) (h2 : noun < Xi S 904 19) (hB : ABV S) (hX : TXM S) (d : Nat) : Mt lay0 (d + 2) m_mo_adds [.ref 904, iv q, iv noun, iv by_] S (Q_mo_adds S q noun by_) := by
  refine Mt_R rfl rfl ?_
  have hF : FR md_mo_adds S S := FR.rf
  have w1 : 0 ≤ Xi S 904 19 ∧ Xi S 904 19 ≤ 24 := hH.c _ _
  have w2 : 0 ≤ Xi S 904 32 ∧ Xi S 904 32 ≤ 12 := hH.c _ _
  have hc3 : 0 ≤ Xi S 904 23 ∧ Xi S 904 23 ≤ 24 := hH.c _ _
  have hc19 : 0 ≤ Xi S 904 19 ∧ Xi S 904 19 ≤ 24 := hH.c _ _
  have hc32 : 0 ≤ Xi S 904 32 ∧ Xi S 904 32 ≤ 12 := hH.c _ _
  refine l_aload_n rfl rfl ?_
  refine l_gfr rfl rfl rfl rfl rfl (hH.r 904 120 971 rfl) ?_
  refine l_iload_n rfl rfl ?_
  refine l_iaload (n := 2400) rfl rfl (by omega) (by omega) (by unfold rg; omega) ?_
  have w3 : -9 ≤ (Xi S 971 ((q).toNat)) ∧ (Xi S 971 ((q).toNat)) ≤ 23 := hH.c _ _
  refine l_iconst rfl ?_
  refine l_iload_n rfl rfl ?_
  refine l_callS rfl rfl (by decide) rfl (t_mo_thingIs hH (Xi S 971 ((q).toNat)) (-1) noun ⟨by omega, by omega⟩ ⟨by omega, by omega⟩ ⟨by omega, by omega⟩ _) ?_
  rintro _ _ ⟨rfl, z5, rfl, w5, w4⟩
  show Rl _ _ _ _ _ [iv z5] _ _
  have o8 : 0 ≤ z5 ∧ z5 < Xi S 904 19 := thk_i (it := -1) (noun := noun) hk (fun h => absurd h (fun f => f)) (fun h => h) (by omega) h2 (by assumption)
  refine l_istore rfl rfl rfl ?_
  refine l_aload_n rfl rfl ?_
  refine l_gfr rfl rfl rfl rfl rfl (hH.r 904 121 972 rfl) ?_
  refine l_iload_n rfl rfl ?_
  refine l_iaload (n := 2400) rfl rfl (by omega) (by omega) (by unfold rg; omega) ?_
  have w6 : -1 ≤ (Xi S 972 ((q).toNat)) ∧ (Xi S 972 ((q).toNat)) ≤ 11 := hH.c _ _
  refine l_istore rfl rfl rfl ?_
  refine l_aload_n rfl rfl ?_
  refine l_iload rfl rfl ?_
  refine l_iload rfl rfl ?_
  have w7 : 0 ≤ Xi S 904 19 ∧ Xi S 904 19 ≤ 24 := hH.c _ _
  refine l_callV rfl rfl rfl (t_mo_numberOf hH z5 (Xi S 972 ((q).toNat)) ⟨by omega, by omega⟩ ⟨by omega, by omega⟩ (by first | assumption | exact (ABV_FR hF rfl (by assumption : ABV S))) (by first | assumption | exact (by assumption : TXM S)) (by first | assumption | omega) _) ?_
  rintro _ T1 ⟨hHT1, w10, z9, rfl, w9, w8⟩
  have hFT1 : FR md_mo_adds S T1 := FR.tr hF w10 rfl
  show Rl _ _ _ _ _ [iv z9] _ _
  have x26 : TXM T1 := TXM_FR (by assumption : FR md_mo_numberOf S T1) rfl hX
  have y26 : Xi T1 904 32 = Xi S 904 32 ∧ Xi T1 928 (Xi S 972 q.toNat).toNat = Xi S 928 (Xi S 972 q.toNat).toNat := ⟨hFT1.x 904 32 rfl, (hFT1.cx 928 rfl _).1⟩
  refine l_iload_n rfl rfl ?_
  refine l_iaddW rfl (fun c11 w11 => ?_)
  refine l_istore rfl rfl rfl ?_
  refine l_aload_n rfl rfl ?_
  refine l_gfr rfl rfl rfl rfl rfl (hHT1.r 904 35 930 rfl) ?_
  refine l_bipush rfl rfl ?_
  refine l_iload rfl rfl ?_
  refine l_imul rfl ?_
  refine l_iload rfl rfl ?_
  refine l_iadd rfl ?_
  refine l_iconst rfl ?_
  refine l_bastoreZ1 (n := 288) rfl rfl (by omega) (by omega) (by unfold rg; omega) ⟨by omega, by omega⟩ ?_
  obtain ⟨U2, eU2⟩ : ∃ T : sS, T = uI T1 930 ((((12 * z5) + (Xi S 972 ((q).toNat)))).toNat) (Int32.ofInt 1) := ⟨_, rfl⟩
  rw [← eU2]
  have hHU2 : HI U2 := by rw [eU2]; exact HI_w hHT1 (show 0 ≤ 1 by omega) (show 1 ≤ 1 by omega)
  have hFU2 : FR md_mo_adds S U2 := by rw [eU2]; exact FR.wI hFT1 (mdf_i (r := (930, 931, 0, 100000)) (List.mem_of_getElem? (i := 1) rfl) (inR_i (by omega) (by omega) (by omega) (by omega)))
  have w12 : Xi U2 930 ((((12 * z5) + (Xi S 972 ((q).toNat)))).toNat) = 1 := by rw [eU2]; exact Xi_same (by unfold rg; omega)
  refine l_aload_n rfl rfl ?_
  refine l_gfr rfl rfl rfl rfl rfl (hHU2.r 904 36 931 rfl) ?_
  refine l_bipush rfl rfl ?_
  refine l_iload rfl rfl ?_
  refine l_imul rfl ?_
  refine l_iload rfl rfl ?_
  refine l_iadd rfl ?_
  refine l_ldcw (z := (-999999)) rfl rfl ?_
  refine l_ldcw (z := 999999) rfl rfl ?_
  refine l_iload rfl rfl ?_
  refine l_min rfl rfl rfl (by unfold rg; omega) (by unfold rg; omega) ?_
  refine l_max rfl rfl rfl (by unfold rg; omega) (by unfold rg; omega) ?_
  have m70 : -999999 ≤ (if (-999999) < (if c11 < 999999 then c11 else 999999) then (if c11 < 999999 then c11 else 999999) else (-999999)) ∧ (if (-999999) < (if c11 < 999999 then c11 else 999999) then (if c11 < 999999 then c11 else 999999) else (-999999)) ≤ 999999 := by refine ⟨?_, ?_⟩ <;> (split <;> (try split) <;> omega)
  refine l_iastore (n := 288) rfl rfl (by omega) (by omega) (by unfold rg; omega) ?_
  obtain ⟨U3, eU3⟩ : ∃ T : sS, T = uI U2 931 ((((12 * z5) + (Xi S 972 ((q).toNat)))).toNat) (Int32.ofInt (if (-999999) < (if c11 < 999999 then c11 else 999999) then (if c11 < 999999 then c11 else 999999) else (-999999))) := ⟨_, rfl⟩
  rw [← eU3]
  have hHU3 : HI U3 := by rw [eU3]; exact HI_any hHU2 (rfl)
  have hFU3 : FR md_mo_adds S U3 := by rw [eU3]; exact FR.wI hFU2 (mdf_i (r := (931, 932, 0, 100000)) (List.mem_of_getElem? (i := 2) rfl) (inR_i (by omega) (by omega) (by omega) (by omega)))
  have w13 : Xi U3 931 ((((12 * z5) + (Xi S 972 ((q).toNat)))).toNat) = (if (-999999) < (if c11 < 999999 then c11 else 999999) then (if c11 < 999999 then c11 else 999999) else (-999999)) := by rw [eU3]; exact Xi_same (by unfold rg; omega)
  have x73 : TXM U3 := txm_a (o := z5) (p := (Xi S 972 ((q).toNat))) eU2 eU3 rfl (by omega) (by omega) (by omega) (by omega) (by unfold rg; omega) (by omega) x26
  refine l_return rfl rfl ?_
  exact ⟨hHU3, hFU3, rfl, (x73)⟩

