/-! SAFETY of methods: printed by wip/safe (vc.py, decl.py) -/
def md_re_startAgain : List rec := [(891, 892, 10, 11)]
abbrev Q_re_startAgain (S : sS) : pst := fun r S1 => HI S1 ∧ FR md_re_startAgain S S1 ∧ (r = none)
set_option maxRecDepth 100000 in
theorem t_re_startAgain {S : sS} (hH : HI S) (d : Nat) : Mt lay0 (d + 1) m_re_startAgain [.ref 891] S (Q_re_startAgain S) := by
  refine Mt_R rfl rfl ?_
  have hF : FR md_re_startAgain S S := FR.rf
  refine l_aload_n rfl rfl ?_
  refine l_iconst rfl ?_
  refine l_pfi rfl rfl rfl rfl ?_
  obtain ⟨U1, eU1⟩ : ∃ T : sS, T = uI S 891 10 (Int32.ofInt (-1)) := ⟨_, rfl⟩
  rw [← eU1]
  have hHU1 : HI U1 := by rw [eU1]; exact HI_w hH (show -1 ≤ (-1) by omega) (show (-1) ≤ 23 by omega)
  have hFU1 : FR md_re_startAgain S U1 := by rw [eU1]; exact FR.wI hF (mdf_i (r := (891, 892, 10, 11)) (List.mem_of_getElem? (i := 0) rfl) (inR_i (by omega) (by omega) (by omega) (by omega)))
  have w1 : Xi U1 891 10 = (-1) := by rw [eU1]; exact Xi_same (by unfold rg; omega)
  refine l_return rfl rfl ?_
  exact ⟨hHU1, hFU1, rfl⟩
def md_me_startSelf : List rec := [(895, 896, 3, 4), (895, 896, 4, 5)]
abbrev Q_me_startSelf (S : sS) (key : Int) (kind : Int) : pst := fun r S1 => HI S1 ∧ FR md_me_startSelf S S1 ∧ (r = none ∧ (Xi S1 895 3 = key ∧ Xi S1 895 4 = kind))
set_option maxRecDepth 100000 in
theorem t_me_startSelf {S : sS} (hH : HI S) (key : Int) (kind : Int) (hkey : -2147483648 ≤ key ∧ key ≤ 2147483647) (hkind : -1 ≤ kind ∧ kind ≤ 15) (d : Nat) : Mt lay0 (d + 1) m_me_startSelf [.ref 895, iv key, iv kind] S (Q_me_startSelf S key kind) := by
  refine Mt_R rfl rfl ?_
  have hF : FR md_me_startSelf S S := FR.rf
  refine l_aload_n rfl rfl ?_
  refine l_iload_n rfl rfl ?_
  refine l_pfi rfl rfl rfl rfl ?_
  obtain ⟨U1, eU1⟩ : ∃ T : sS, T = uI S 895 3 (Int32.ofInt key) := ⟨_, rfl⟩
  rw [← eU1]
  have hHU1 : HI U1 := by rw [eU1]; exact HI_any hH (rfl)
  have hFU1 : FR md_me_startSelf S U1 := by rw [eU1]; exact FR.wI hF (mdf_i (r := (895, 896, 3, 4)) (List.mem_of_getElem? (i := 0) rfl) (inR_i (by omega) (by omega) (by omega) (by omega)))
  have w1 : Xi U1 895 3 = key := by rw [eU1]; exact Xi_same (by unfold rg; omega)
  refine l_aload_n rfl rfl ?_
  refine l_iload_n rfl rfl ?_
  refine l_pfi rfl rfl rfl rfl ?_
  obtain ⟨U2, eU2⟩ : ∃ T : sS, T = uI U1 895 4 (Int32.ofInt kind) := ⟨_, rfl⟩
  rw [← eU2]
  have hHU2 : HI U2 := by rw [eU2]; exact HI_w hHU1 (show -1 ≤ kind by omega) (show kind ≤ 15 by omega)
  have hFU2 : FR md_me_startSelf S U2 := by rw [eU2]; exact FR.wI hFU1 (mdf_i (r := (895, 896, 4, 5)) (List.mem_of_getElem? (i := 1) rfl) (inR_i (by omega) (by omega) (by omega) (by omega)))
  have w2 : Xi U2 895 4 = kind := by rw [eU2]; exact Xi_same (by unfold rg; omega)
  refine l_return rfl rfl ?_
  have w3 : Xi U2 895 3 = Xi U1 895 3 := (show Xi U2 895 3 = Xi U1 895 3 from by rw [eU2]; exact Xi_ne (by omega))
  have w4 : -1 ≤ Xi U2 895 4 ∧ Xi U2 895 4 ≤ 15 := hHU2.c _ _
  exact ⟨hHU2, hFU2, rfl, (by first | assumption | omega)⟩
abbrev Q_rr_sortOfRule (S : sS) (s : Int) : pst := fun r S1 => S = S1 ∧ (∃ z : Int, r = some (iv z) ∧ (0 ≤ z ∧ z ≤ 3))
set_option maxRecDepth 100000 in
theorem t_rr_sortOfRule {S : sS} (hH : HI S) (s : Int) (hs : -2147483648 ≤ s ∧ s ≤ 2147483647) (d : Nat) : Mt lay0 (d + 1) m_rr_sortOfRule [iv s] S (Q_rr_sortOfRule S s) := by
  refine Mt_R rfl rfl ?_
  refine l_iload_n rfl rfl ?_
  refine l_tsw rfl rfl rfl rfl (by unfold rg; omega) (fun w1 => ?_) (fun ii tt hii w1 => ?_)
  · refine l_iconst rfl ?_
    refine l_ireturn rfl rfl ?_
    exact ⟨rfl, _, rfl, ⟨by omega, by omega⟩⟩
  · match ii, hii with
    | 0, hii =>
      cases hii
      have w2 : s = 3 := by simpa using w1
      refine l_iconst rfl ?_
      refine l_ireturn rfl rfl ?_
      exact ⟨rfl, _, rfl, ⟨by omega, by omega⟩⟩
    | 1, hii =>
      cases hii
      have w3 : s = 4 := by simpa using w1
      refine l_iconst rfl ?_
      refine l_ireturn rfl rfl ?_
      exact ⟨rfl, _, rfl, ⟨by omega, by omega⟩⟩
    | 2, hii =>
      cases hii
      have w4 : s = 5 := by simpa using w1
      refine l_iconst rfl ?_
      refine l_ireturn rfl rfl ?_
      exact ⟨rfl, _, rfl, ⟨by omega, by omega⟩⟩
    | n + 3, hii => exact absurd hii (by simp)
abbrev Q_rr_wayOf (S : sS) (key : Int) : pst := fun r S1 => S = S1 ∧ (∃ z : Int, r = some (iv z) ∧ (1 ≤ z ∧ z ≤ 5))
set_option maxRecDepth 100000 in
theorem t_rr_wayOf {S : sS} (hH : HI S) (key : Int) (hkey : -2147483648 ≤ key ∧ key ≤ 2147483647) (d : Nat) : Mt lay0 (d + 1) m_rr_wayOf [iv key] S (Q_rr_wayOf S key) := by
  refine Mt_R rfl rfl ?_
  refine l_iload_n rfl rfl ?_
  refine l_lsw rfl rfl (by unfold rg; omega) ?_
  refine And.intro (fun w1 => ⟨_, rfl, ?_⟩) (fun w2 => ?_)
  · refine l_iconst rfl ?_
    refine l_ireturn rfl rfl ?_
    exact ⟨rfl, _, rfl, ⟨by omega, by omega⟩⟩
  refine And.intro (fun w3 => ⟨_, rfl, ?_⟩) (fun w4 => ?_)
  · refine l_iconst rfl ?_
    refine l_ireturn rfl rfl ?_
    exact ⟨rfl, _, rfl, ⟨by omega, by omega⟩⟩
  refine And.intro (fun w5 => ⟨_, rfl, ?_⟩) (fun w6 => ?_)
  · refine l_iconst rfl ?_
    refine l_ireturn rfl rfl ?_
    exact ⟨rfl, _, rfl, ⟨by omega, by omega⟩⟩
  refine And.intro (fun w7 => ⟨_, rfl, ?_⟩) (fun w8 => ?_)
  · refine l_iconst rfl ?_
    refine l_ireturn rfl rfl ?_
    exact ⟨rfl, _, rfl, ⟨by omega, by omega⟩⟩
  refine ⟨_, rfl, ?_⟩
  refine l_iconst rfl ?_
  refine l_ireturn rfl rfl ?_
  exact ⟨rfl, _, rfl, ⟨by omega, by omega⟩⟩
abbrev Q_rr_whenEnd (S : sS) : pst := fun r S1 => S = S1 ∧ (∃ z : Int, r = some (iv z) ∧ (-1 ≤ z ∧ z ≤ 5132))
set_option maxRecDepth 100000 in
theorem t_rr_whenEnd {S : sS} (hH : HI S) (d : Nat) : Mt lay0 (d + 2) m_rr_whenEnd [.ref 899] S (Q_rr_whenEnd S) := by
  refine Mt_R rfl rfl ?_
  refine l_aload_n rfl rfl ?_
  refine l_gfr rfl rfl rfl rfl rfl (hH.r 899 0 876 rfl) ?_
  refine l_aload_n rfl rfl ?_
  refine l_gfi rfl rfl rfl rfl rfl ?_
  have w1 : -1 ≤ (Xi S 899 5) ∧ (Xi S 899 5) ≤ 5131 := hH.c _ _
  have w2 : 0 ≤ Xi S 876 7 ∧ Xi S 876 7 ≤ 5125 := hH.c _ _
  refine l_callV rfl rfl rfl (t_to_typeAt hH (Xi S 899 5) ⟨by omega, by omega⟩ _) ?_
  rintro _ _ ⟨rfl, z6, rfl, w6, w3, w4, w5⟩
  show Rl _ _ _ _ _ [iv z6] _ _
  refine l_bipush rfl rfl ?_
  refine l_icmp_ne rfl rfl (by unfold rg; omega) (by unfold rg; omega) (fun w7 => ?_) (fun w8 => ?_)
  · refine l_iconst rfl ?_
    refine l_ireturn rfl rfl ?_
    exact ⟨rfl, _, rfl, ⟨by omega, by omega⟩⟩
  · refine l_aload_n rfl rfl ?_
    refine l_gfi rfl rfl rfl rfl rfl ?_
    refine l_iconst rfl ?_
    refine l_iadd rfl ?_
    refine l_goto rfl rfl ?_
    refine l_ireturn rfl rfl ?_
    exact ⟨rfl, _, rfl, ⟨by omega, by omega⟩⟩
abbrev Q_co_wordEnd (S : sS) (t : Nat) (from_ : Int) (to : Int) : pst := fun r S1 => S = S1 ∧ (∃ z : Int, r = some (iv z) ∧ (0 ≤ z ∧ z ≤ 5000) ∧ (from_ ≤ z ∧ (z ≤ to ∨ z = from_)))
set_option maxRecDepth 100000 in
theorem t_co_wordEnd {S : sS} (hH : HI S) (t : Nat) (from_ : Int) (to : Int) (ht : tp t) (hfrom_ : 0 ≤ from_ ∧ from_ ≤ 5000) (hto : 0 ≤ to ∧ to ≤ 5000) (d : Nat) : Mt lay0 (d + 2) m_co_wordEnd [.ref t, iv from_, iv to] S (Q_co_wordEnd S t from_ to) := by
  refine Mt_R rfl rfl ?_
  have C2 : ∀ (n2 : Nat) (v3 : Int), (0 ≤ v3 ∧ v3 ≤ 5000) → (from_ ≤ v3 ∧ (v3 ≤ to ∨ v3 = from_)) → n2 = (5001 - v3).toNat → Rl lay0 (d + 1) m_co_wordEnd 2 [(0, .ref t), (2, iv to), (3, iv v3)] [] S (Q_co_wordEnd S t from_ to) := by
    intro n2
    induction n2 using Nat.strongRecOn with
    | ind n2 ih2 =>
      intro v3 w1 w2 hm2
      have C22 : ∀  (v3 : Int), (0 ≤ v3 ∧ v3 ≤ 5000) → (from_ ≤ v3 ∧ (v3 ≤ to ∨ v3 = from_)) → Rl lay0 (d + 1) m_co_wordEnd 22 [(3, iv v3)] [] S (Q_co_wordEnd S t from_ to) := by
        intro v3 w3 w4
        refine l_iload_n rfl rfl ?_
        refine l_ireturn rfl rfl ?_
        exact ⟨rfl, _, rfl, ⟨by omega, by omega⟩, (by first | assumption | omega)⟩
      refine l_iload_n rfl rfl ?_
      refine l_iload_n rfl rfl ?_
      refine l_icmp_ge rfl rfl (by unfold rg; omega) (by unfold rg; omega) (fun w5 => ?_) (fun w6 => ?_)
      · exact Rl_weak (C22 (v3) (by omega) (by omega)) (And.intro rfl (True.intro))
      · refine l_aload_n rfl rfl ?_
        refine l_iload_n rfl rfl ?_
        refine l_baload (n := 5000) rfl (tp_sv (by assumption)) (lay_tp (by assumption)) (by decide) (by omega) (by omega) (by unfold rg; omega) ?_
        have w7 : -128 ≤ (Xi S t ((v3).toNat)) ∧ (Xi S t ((v3).toNat)) ≤ 127 := tpc hH (by assumption)
        refine l_callS rfl rfl (by decide) rfl (t_rs_letterOf hH (Xi S t ((v3).toNat)) ⟨by omega, by omega⟩ _) ?_
        rintro _ _ ⟨rfl, z8, rfl, w8⟩
        show Rl _ _ _ _ _ [iv z8] _ _
        refine l_if_le rfl rfl (by unfold rg; omega) (fun w9 => ?_) (fun w10 => ?_)
        · exact Rl_weak (C22 (v3) (by omega) (by omega)) (And.intro rfl (True.intro))
        · refine l_iinc rfl rfl rfl rfl ?_
          refine l_goto rfl rfl ?_
          exact Rl_weak (ih2 _ (by omega) ((v3 + 1)) (by omega) (by omega) rfl) (And.intro rfl (And.intro rfl (And.intro rfl (True.intro))))
  refine l_iload_n rfl rfl ?_
  refine l_istore_n rfl rfl rfl ?_
  exact Rl_weak (C2 _ (from_) (by omega) (by omega) rfl) (And.intro rfl (And.intro rfl (And.intro rfl (True.intro))))
abbrev Q_co_codeOf (S : sS) (t : Nat) (from_ : Int) (to : Int) : pst := fun r S1 => S = S1 ∧ (∃ z : Int, r = some (jw z))
set_option maxRecDepth 100000 in
theorem t_co_codeOf {S : sS} (hH : HI S) (t : Nat) (from_ : Int) (to : Int) (ht : tp t) (hfrom_ : 0 ≤ from_ ∧ from_ ≤ 5000) (hto : 0 ≤ to ∧ to ≤ 5000) (d : Nat) : Mt lay0 (d + 2) m_co_codeOf [.ref t, iv from_, iv to] S (Q_co_codeOf S t from_ to) := by
  refine Mt_R rfl rfl ?_
  have C5 : ∀ (n5 : Nat) (v3 : Int) (v5 : Int), (0 ≤ v5 ∧ v5 ≤ 5000) → n5 = (5001 - v5).toNat → Rl lay0 (d + 1) m_co_codeOf 5 [(0, .ref t), (1, iv from_), (2, iv to), (3, jw v3), (5, iv v5)] [] S (Q_co_codeOf S t from_ to) := by
    intro n5
    induction n5 using Nat.strongRecOn with
    | ind n5 ih5 =>
      intro v3 v5 w1 hm5
      refine l_iload rfl rfl ?_
      refine l_iload_n rfl rfl ?_
      refine l_icmp_ge rfl rfl (by unfold rg; omega) (by unfold rg; omega) (fun w2 => ?_) (fun w3 => ?_)
      · refine l_lload_n rfl rfl ?_
        refine l_lreturn rfl rfl ?_
        exact ⟨rfl, _, rfl⟩
      · refine l_iload rfl rfl ?_
        refine l_iload_n rfl rfl ?_
        refine l_isub rfl ?_
        refine l_bipush rfl rfl ?_
        refine l_icmp_ge rfl rfl (by unfold rg; omega) (by unfold rg; omega) (fun w4 => ?_) (fun w5 => ?_)
        · refine l_lload_n rfl rfl ?_
          refine l_lreturn rfl rfl ?_
          exact ⟨rfl, _, rfl⟩
        · refine l_lload_n rfl rfl ?_
          refine l_ldc2 (z := 27) rfl rfl ?_
          refine l_lmul rfl ?_
          refine l_aload_n rfl rfl ?_
          refine l_iload rfl rfl ?_
          refine l_baload (n := 5000) rfl (tp_sv (by assumption)) (lay_tp (by assumption)) (by decide) (by omega) (by omega) (by unfold rg; omega) ?_
          have w6 : -128 ≤ (Xi S t ((v5).toNat)) ∧ (Xi S t ((v5).toNat)) ≤ 127 := tpc hH (by assumption)
          refine l_callS rfl rfl (by decide) rfl (t_rs_letterOf hH (Xi S t ((v5).toNat)) ⟨by omega, by omega⟩ _) ?_
          rintro _ _ ⟨rfl, z7, rfl, w7⟩
          show Rl _ _ _ _ _ [iv z7, jw (v3 * 27)] _ _
          refine l_i2l rfl (by unfold rg; omega) ?_
          refine l_ladd rfl ?_
          refine l_lstore_n rfl rfl rfl rfl ?_
          refine l_iinc rfl rfl rfl rfl ?_
          refine l_goto rfl rfl ?_
          exact Rl_weak (ih5 _ (by omega) (((v3 * 27) + z7)) ((v5 + 1)) (by omega) rfl) (And.intro rfl (And.intro rfl (And.intro rfl (And.intro rfl (And.intro rfl (True.intro))))))
  refine l_lconst (z := 0) rfl rfl ?_
  refine l_lstore_n rfl rfl rfl rfl ?_
  refine l_iload_n rfl rfl ?_
  refine l_istore rfl rfl rfl ?_
  exact Rl_weak (C5 _ (0) (from_) (by omega) rfl) (And.intro rfl (And.intro rfl (And.intro rfl (And.intro rfl (And.intro rfl (True.intro))))))
def md_co_takeTyped : List rec := [(882, 883, 12, 13), (889, 890, 0, 100000)]
abbrev Q_co_takeTyped (S : sS) (t : Nat) (length : Int) : pst := fun r S1 => HI S1 ∧ FR md_co_takeTyped S S1 ∧ (∃ z : Int, r = some (iv z) ∧ (0 ≤ z ∧ z ≤ 1))
set_option maxRecDepth 100000 in
theorem t_co_takeTyped {S : sS} (hH : HI S) (t : Nat) (length : Int) (ht : tp t) (hlength : 0 ≤ length ∧ length ≤ 5000) (d : Nat) : Mt lay0 (d + 3) m_co_takeTyped [.ref 882, .ref t, iv length] S (Q_co_takeTyped S t length) := by
  refine Mt_R rfl rfl ?_
  have hF : FR md_co_takeTyped S S := FR.rf
  have C7 : ∀ (n7 : Nat) (T1 : sS) (_ : HI T1) (_ : FR md_co_takeTyped S T1) (v3 : Int), (0 ≤ v3 ∧ v3 ≤ 5000) → (v3 ≤ length) → n7 = (5001 - v3).toNat → Rl lay0 (d + 2) m_co_takeTyped 7 [(0, .ref 882), (1, .ref t), (2, iv length), (3, iv v3)] [] T1 (Q_co_takeTyped S t length) := by
    intro n7
    induction n7 using Nat.strongRecOn with
    | ind n7 ih7 =>
      intro T1 hHT1 hFT1 v3 w1 w2 hm7
      refine l_iload_n rfl rfl ?_
      refine l_iload_n rfl rfl ?_
      refine l_icmp_ge rfl rfl (by unfold rg; omega) (by unfold rg; omega) (fun w3 => ?_) (fun w4 => ?_)
      · refine l_iconst rfl ?_
        refine l_ireturn rfl rfl ?_
        exact ⟨hHT1, hFT1, _, rfl, ⟨by omega, by omega⟩⟩
      · refine l_aload_n rfl rfl ?_
        refine l_iload_n rfl rfl ?_
        refine l_baload (n := 5000) rfl (tp_sv (by assumption)) (lay_tp (by assumption)) (by decide) (by omega) (by omega) (by unfold rg; omega) ?_
        have w5 : -128 ≤ (Xi T1 t ((v3).toNat)) ∧ (Xi T1 t ((v3).toNat)) ≤ 127 := tpc hHT1 (by assumption)
        refine l_bipush rfl rfl ?_
        refine l_icmp_ne rfl rfl (by unfold rg; omega) (by unfold rg; omega) (fun w6 => ?_) (fun w7 => ?_)
        · refine l_aload_n rfl rfl ?_
          refine l_iload_n rfl rfl ?_
          refine l_iload_n rfl rfl ?_
          refine l_callS rfl rfl (by decide) rfl (t_co_wordEnd hHT1 t v3 length ht ⟨by omega, by omega⟩ ⟨by omega, by omega⟩ _) ?_
          rintro _ _ ⟨rfl, z9, rfl, w9, w8⟩
          show Rl _ _ _ _ _ [iv z9] _ _
          refine l_istore rfl rfl rfl ?_
          refine l_iload rfl rfl ?_
          refine l_iload_n rfl rfl ?_
          refine l_icmp_eq rfl rfl (by unfold rg; omega) (by unfold rg; omega) (fun w10 => ?_) (fun w11 => ?_)
          · refine l_iconst rfl ?_
            refine l_ireturn rfl rfl ?_
            exact ⟨hHT1, hFT1, _, rfl, ⟨by omega, by omega⟩⟩
          · refine l_aload_n rfl rfl ?_
            refine l_gfi rfl rfl rfl rfl rfl ?_
            have w12 : 0 ≤ (Xi T1 882 12) ∧ (Xi T1 882 12) ≤ 50 := hHT1.c _ _
            refine l_bipush rfl rfl ?_
            refine l_icmp_ne rfl rfl (by unfold rg; omega) (by unfold rg; omega) (fun w13 => ?_) (fun w14 => ?_)
            · refine l_aload_n rfl rfl ?_
              refine l_gfr rfl rfl rfl rfl rfl (hHT1.r 882 11 889 rfl) ?_
              refine l_aload_n rfl rfl ?_
              refine l_gfi rfl rfl rfl rfl rfl ?_
              refine l_iload rfl rfl ?_
              refine l_iload_n rfl rfl ?_
              refine l_isub rfl ?_
              refine l_bipush rfl rfl ?_
              refine l_icmp_le rfl rfl (by unfold rg; omega) (by unfold rg; omega) (fun w15 => ?_) (fun w16 => ?_)
              · refine l_aload_n rfl rfl ?_
                refine l_iload_n rfl rfl ?_
                refine l_iload rfl rfl ?_
                refine l_callS rfl rfl (by decide) rfl (t_co_codeOf hHT1 t v3 z9 ht ⟨by omega, by omega⟩ ⟨by omega, by omega⟩ _) ?_
                rintro _ _ ⟨rfl, z17, rfl⟩
                show Rl _ _ _ _ _ [jw z17, iv (Xi T1 882 12), .ref 889] _ _
                refine l_lastore (n := 50) rfl rfl (by omega) (by omega) (by unfold rg; omega) ?_
                obtain ⟨U2, eU2⟩ : ∃ T : sS, T = uJ T1 889 (((Xi T1 882 12)).toNat) (Int64.ofInt z17) := ⟨_, rfl⟩
                rw [← eU2]
                have hHU2 : HI U2 := by rw [eU2]; exact HI_J hHT1
                have hFU2 : FR md_co_takeTyped S U2 := by rw [eU2]; exact FR.wJ hFT1 (mdf_i (r := (889, 890, 0, 100000)) (List.mem_of_getElem? (i := 1) rfl) (inR_i (by omega) (by omega) (by omega) (by omega)))
                refine l_aload_n rfl rfl ?_
                refine l_dup rfl rfl ?_
                refine l_gfi rfl rfl rfl rfl rfl ?_
                have w18 : (Xi U2 882 12) = (Xi T1 882 12) := (show Xi U2 882 12 = Xi T1 882 12 from by rw [eU2]; rfl)
                rw [w18]
                refine l_iconst rfl ?_
                refine l_iadd rfl ?_
                refine l_pfi rfl rfl rfl rfl ?_
                obtain ⟨U3, eU3⟩ : ∃ T : sS, T = uI U2 882 12 (Int32.ofInt ((Xi T1 882 12) + 1)) := ⟨_, rfl⟩
                rw [← eU3]
                have hHU3 : HI U3 := by rw [eU3]; exact HI_w hHU2 (show 0 ≤ ((Xi T1 882 12) + 1) by omega) (show ((Xi T1 882 12) + 1) ≤ 50 by omega)
                have hFU3 : FR md_co_takeTyped S U3 := by rw [eU3]; exact FR.wI hFU2 (mdf_i (r := (882, 883, 12, 13)) (List.mem_of_getElem? (i := 0) rfl) (inR_i (by omega) (by omega) (by omega) (by omega)))
                have w19 : Xi U3 882 12 = ((Xi T1 882 12) + 1) := by rw [eU3]; exact Xi_same (by unfold rg; omega)
                refine l_iload rfl rfl ?_
                refine l_istore_n rfl rfl rfl ?_
                refine l_goto rfl rfl ?_
                exact Rl_weak (ih7 _ (by omega) U3 hHU3 hFU3 (z9) (by omega) (by omega) rfl) (And.intro rfl (And.intro rfl (And.intro rfl (And.intro rfl (True.intro)))))
              · refine l_ldc2 (z := (-1)) rfl rfl ?_
                refine l_goto rfl rfl ?_
                refine l_lastore (n := 50) rfl rfl (by omega) (by omega) (by unfold rg; omega) ?_
                obtain ⟨U4, eU4⟩ : ∃ T : sS, T = uJ T1 889 (((Xi T1 882 12)).toNat) (Int64.ofInt (-1)) := ⟨_, rfl⟩
                rw [← eU4]
                have hHU4 : HI U4 := by rw [eU4]; exact HI_J hHT1
                have hFU4 : FR md_co_takeTyped S U4 := by rw [eU4]; exact FR.wJ hFT1 (mdf_i (r := (889, 890, 0, 100000)) (List.mem_of_getElem? (i := 1) rfl) (inR_i (by omega) (by omega) (by omega) (by omega)))
                refine l_aload_n rfl rfl ?_
                refine l_dup rfl rfl ?_
                refine l_gfi rfl rfl rfl rfl rfl ?_
                have w20 : (Xi U4 882 12) = (Xi T1 882 12) := (show Xi U4 882 12 = Xi T1 882 12 from by rw [eU4]; rfl)
                rw [w20]
                refine l_iconst rfl ?_
                refine l_iadd rfl ?_
                refine l_pfi rfl rfl rfl rfl ?_
                obtain ⟨U5, eU5⟩ : ∃ T : sS, T = uI U4 882 12 (Int32.ofInt ((Xi T1 882 12) + 1)) := ⟨_, rfl⟩
                rw [← eU5]
                have hHU5 : HI U5 := by rw [eU5]; exact HI_w hHU4 (show 0 ≤ ((Xi T1 882 12) + 1) by omega) (show ((Xi T1 882 12) + 1) ≤ 50 by omega)
                have hFU5 : FR md_co_takeTyped S U5 := by rw [eU5]; exact FR.wI hFU4 (mdf_i (r := (882, 883, 12, 13)) (List.mem_of_getElem? (i := 0) rfl) (inR_i (by omega) (by omega) (by omega) (by omega)))
                have w21 : Xi U5 882 12 = ((Xi T1 882 12) + 1) := by rw [eU5]; exact Xi_same (by unfold rg; omega)
                refine l_iload rfl rfl ?_
                refine l_istore_n rfl rfl rfl ?_
                refine l_goto rfl rfl ?_
                exact Rl_weak (ih7 _ (by omega) U5 hHU5 hFU5 (z9) (by omega) (by omega) rfl) (And.intro rfl (And.intro rfl (And.intro rfl (And.intro rfl (True.intro)))))
            · refine l_iconst rfl ?_
              refine l_ireturn rfl rfl ?_
              exact ⟨hHT1, hFT1, _, rfl, ⟨by omega, by omega⟩⟩
        · refine l_iinc rfl rfl rfl rfl ?_
          refine l_goto rfl rfl ?_
          exact Rl_weak (ih7 _ (by omega) T1 hHT1 hFT1 ((v3 + 1)) (by omega) (by omega) rfl) (And.intro rfl (And.intro rfl (And.intro rfl (And.intro rfl (True.intro)))))
  refine l_iconst rfl ?_
  refine l_istore_n rfl rfl rfl ?_
  refine l_aload_n rfl rfl ?_
  refine l_iconst rfl ?_
  refine l_pfi rfl rfl rfl rfl ?_
  obtain ⟨U6, eU6⟩ : ∃ T : sS, T = uI S 882 12 (Int32.ofInt 0) := ⟨_, rfl⟩
  rw [← eU6]
  have hHU6 : HI U6 := by rw [eU6]; exact HI_w hH (show 0 ≤ 0 by omega) (show 0 ≤ 50 by omega)
  have hFU6 : FR md_co_takeTyped S U6 := by rw [eU6]; exact FR.wI hF (mdf_i (r := (882, 883, 12, 13)) (List.mem_of_getElem? (i := 0) rfl) (inR_i (by omega) (by omega) (by omega) (by omega)))
  have w22 : Xi U6 882 12 = 0 := by rw [eU6]; exact Xi_same (by unfold rg; omega)
  exact Rl_weak (C7 _ U6 hHU6 hFU6 (0) (by omega) (by omega) rfl) (And.intro rfl (And.intro rfl (And.intro rfl (And.intro rfl (True.intro)))))
def md_co_takeGap : List rec := [(882, 883, 10, 11), (888, 889, 0, 100000)]
abbrev Q_co_takeGap (S : sS) (t : Nat) (from_ : Int) (to : Int) : pst := fun r S1 => HI S1 ∧ FR md_co_takeGap S S1 ∧ (∃ z : Int, r = some (iv z) ∧ (-1 ≤ z ∧ z ≤ 5000) ∧ (z = -1 ∨ (from_ < z ∧ z ≤ to)))
set_option maxRecDepth 100000 in
theorem t_co_takeGap {S : sS} (hH : HI S) (t : Nat) (from_ : Int) (to : Int) (ht : tp t) (hfrom_ : 0 ≤ from_ ∧ from_ ≤ 5000) (hto : 0 ≤ to ∧ to ≤ 5000) (d : Nat) : Mt lay0 (d + 3) m_co_takeGap [.ref 882, .ref t, iv from_, iv to] S (Q_co_takeGap S t from_ to) := by
  refine Mt_R rfl rfl ?_
  have hF : FR md_co_takeGap S S := FR.rf
  have w1 : 0 ≤ Xi S 882 10 ∧ Xi S 882 10 ≤ 5000 := hH.c _ _
  have C8 : ∀ (n8 : Nat) (T1 : sS) (_ : HI T1) (_ : FR md_co_takeGap S T1) (v4 : Int), (0 ≤ v4 ∧ v4 ≤ 5000) → (from_ ≤ v4 ∧ (v4 ≤ to ∨ v4 = from_)) → (0 ≤ Xi T1 882 10 ∧ Xi T1 882 10 ≤ v4) → n8 = (5001 - v4).toNat → Rl lay0 (d + 2) m_co_takeGap 8 [(0, .ref 882), (1, .ref t), (3, iv to), (4, iv v4)] [] T1 (Q_co_takeGap S t from_ to) := by
    intro n8
    induction n8 using Nat.strongRecOn with
    | ind n8 ih8 =>
      intro T1 hHT1 hFT1 v4 w2 w3 w4 hm8
      have w5 : 0 ≤ Xi T1 882 10 ∧ Xi T1 882 10 ≤ 5000 := hHT1.c _ _
      refine l_iload rfl rfl ?_
      refine l_iload_n rfl rfl ?_
      refine l_icmp_ge rfl rfl (by unfold rg; omega) (by unfold rg; omega) (fun w6 => ?_) (fun w7 => ?_)
      · refine l_iconst rfl ?_
        refine l_ireturn rfl rfl ?_
        exact ⟨hHT1, hFT1, _, rfl, ⟨by omega, by omega⟩, (by first | assumption | omega)⟩
      · refine l_aload_n rfl rfl ?_
        refine l_iload rfl rfl ?_
        refine l_baload (n := 5000) rfl (tp_sv (by assumption)) (lay_tp (by assumption)) (by decide) (by omega) (by omega) (by unfold rg; omega) ?_
        have w8 : -128 ≤ (Xi T1 t ((v4).toNat)) ∧ (Xi T1 t ((v4).toNat)) ≤ 127 := tpc hHT1 (by assumption)
        refine l_bipush rfl rfl ?_
        refine l_icmp_ne rfl rfl (by unfold rg; omega) (by unfold rg; omega) (fun w9 => ?_) (fun w10 => ?_)
        · refine l_aload_n rfl rfl ?_
          refine l_iload rfl rfl ?_
          refine l_baload (n := 5000) rfl (tp_sv (by assumption)) (lay_tp (by assumption)) (by decide) (by omega) (by omega) (by unfold rg; omega) ?_
          refine l_bipush rfl rfl ?_
          refine l_icmp_ne rfl rfl (by unfold rg; omega) (by unfold rg; omega) (fun w11 => ?_) (fun w12 => ?_)
          · refine l_aload_n rfl rfl ?_
            refine l_iload rfl rfl ?_
            refine l_iload_n rfl rfl ?_
            refine l_callS rfl rfl (by decide) rfl (t_co_wordEnd hHT1 t v4 to ht ⟨by omega, by omega⟩ ⟨by omega, by omega⟩ _) ?_
            rintro _ _ ⟨rfl, z14, rfl, w14, w13⟩
            show Rl _ _ _ _ _ [iv z14] _ _
            refine l_istore rfl rfl rfl ?_
            refine l_aload_n rfl rfl ?_
            refine l_iload rfl rfl ?_
            refine l_iload rfl rfl ?_
            refine l_callS rfl rfl (by decide) rfl (t_co_codeOf hHT1 t v4 z14 ht ⟨by omega, by omega⟩ ⟨by omega, by omega⟩ _) ?_
            rintro _ _ ⟨rfl, z15, rfl⟩
            show Rl _ _ _ _ _ [jw z15] _ _
            refine l_lstore rfl rfl rfl rfl ?_
            refine l_iload rfl rfl ?_
            refine l_iload rfl rfl ?_
            refine l_icmp_eq rfl rfl (by unfold rg; omega) (by unfold rg; omega) (fun w16 => ?_) (fun w17 => ?_)
            · refine l_iconst rfl ?_
              refine l_ireturn rfl rfl ?_
              exact ⟨hHT1, hFT1, _, rfl, ⟨by omega, by omega⟩, (by first | assumption | omega)⟩
            · refine l_iload rfl rfl ?_
              refine l_iload rfl rfl ?_
              refine l_isub rfl ?_
              refine l_bipush rfl rfl ?_
              refine l_icmp_gt rfl rfl (by unfold rg; omega) (by unfold rg; omega) (fun w18 => ?_) (fun w19 => ?_)
              · refine l_iconst rfl ?_
                refine l_ireturn rfl rfl ?_
                exact ⟨hHT1, hFT1, _, rfl, ⟨by omega, by omega⟩, (by first | assumption | omega)⟩
              · refine l_aload_n rfl rfl ?_
                refine l_gfr rfl rfl rfl rfl rfl (hHT1.r 882 0 876 rfl) ?_
                refine l_lload rfl rfl ?_
                refine l_callV rfl rfl rfl (t_to_keyOf hHT1 z15 _) ?_
                rintro _ _ ⟨rfl, z20, rfl, w20⟩
                show Rl _ _ _ _ _ [iv z20] _ _
                refine l_bipush rfl rfl ?_
                refine l_icmp_eq rfl rfl (by unfold rg; omega) (by unfold rg; omega) (fun w21 => ?_) (fun w22 => ?_)
                · refine l_aload_n rfl rfl ?_
                  refine l_gfi rfl rfl rfl rfl rfl ?_
                  refine l_iconst rfl ?_
                  refine l_icmp_ge rfl rfl (by unfold rg; omega) (by unfold rg; omega) (fun w23 => ?_) (fun w24 => ?_)
                  · refine l_aload_n rfl rfl ?_
                    refine l_dup rfl rfl ?_
                    refine l_gfi rfl rfl rfl rfl rfl ?_
                    refine l_iconst rfl ?_
                    refine l_iadd rfl ?_
                    refine l_pfi rfl rfl rfl rfl ?_
                    obtain ⟨U2, eU2⟩ : ∃ T : sS, T = uI T1 882 10 (Int32.ofInt ((Xi T1 882 10) + 1)) := ⟨_, rfl⟩
                    rw [← eU2]
                    have hHU2 : HI U2 := by rw [eU2]; exact HI_w hHT1 (show 0 ≤ ((Xi T1 882 10) + 1) by omega) (show ((Xi T1 882 10) + 1) ≤ 5000 by omega)
                    have hFU2 : FR md_co_takeGap S U2 := by rw [eU2]; exact FR.wI hFT1 (mdf_i (r := (882, 883, 10, 11)) (List.mem_of_getElem? (i := 0) rfl) (inR_i (by omega) (by omega) (by omega) (by omega)))
                    have w25 : Xi U2 882 10 = ((Xi T1 882 10) + 1) := by rw [eU2]; exact Xi_same (by unfold rg; omega)
                    refine l_iload rfl rfl ?_
                    refine l_istore rfl rfl rfl ?_
                    refine l_goto rfl rfl ?_
                    have w26 : 0 ≤ Xi U2 882 10 ∧ Xi U2 882 10 ≤ 5000 := hHU2.c _ _
                    exact Rl_weak (ih8 _ (by omega) U2 hHU2 hFU2 (z14) (by omega) (by omega) (by omega) rfl) (And.intro rfl (And.intro rfl (And.intro rfl (And.intro rfl (True.intro)))))
                  · refine l_aload_n rfl rfl ?_
                    refine l_gfr rfl rfl rfl rfl rfl (hHT1.r 882 9 888 rfl) ?_
                    refine l_aload_n rfl rfl ?_
                    refine l_gfi rfl rfl rfl rfl rfl ?_
                    refine l_lload rfl rfl ?_
                    refine l_lastore (n := 3) rfl rfl (by omega) (by omega) (by unfold rg; omega) ?_
                    obtain ⟨U3, eU3⟩ : ∃ T : sS, T = uJ T1 888 (((Xi T1 882 10)).toNat) (Int64.ofInt z15) := ⟨_, rfl⟩
                    rw [← eU3]
                    have hHU3 : HI U3 := by rw [eU3]; exact HI_J hHT1
                    have hFU3 : FR md_co_takeGap S U3 := by rw [eU3]; exact FR.wJ hFT1 (mdf_i (r := (888, 889, 0, 100000)) (List.mem_of_getElem? (i := 1) rfl) (inR_i (by omega) (by omega) (by omega) (by omega)))
                    refine l_aload_n rfl rfl ?_
                    refine l_dup rfl rfl ?_
                    refine l_gfi rfl rfl rfl rfl rfl ?_
                    have w27 : (Xi U3 882 10) = (Xi T1 882 10) := (show Xi U3 882 10 = Xi T1 882 10 from by rw [eU3]; rfl)
                    rw [w27]
                    refine l_iconst rfl ?_
                    refine l_iadd rfl ?_
                    refine l_pfi rfl rfl rfl rfl ?_
                    obtain ⟨U4, eU4⟩ : ∃ T : sS, T = uI U3 882 10 (Int32.ofInt ((Xi T1 882 10) + 1)) := ⟨_, rfl⟩
                    rw [← eU4]
                    have hHU4 : HI U4 := by rw [eU4]; exact HI_w hHU3 (show 0 ≤ ((Xi T1 882 10) + 1) by omega) (show ((Xi T1 882 10) + 1) ≤ 5000 by omega)
                    have hFU4 : FR md_co_takeGap S U4 := by rw [eU4]; exact FR.wI hFU3 (mdf_i (r := (882, 883, 10, 11)) (List.mem_of_getElem? (i := 0) rfl) (inR_i (by omega) (by omega) (by omega) (by omega)))
                    have w28 : Xi U4 882 10 = ((Xi T1 882 10) + 1) := by rw [eU4]; exact Xi_same (by unfold rg; omega)
                    refine l_iload rfl rfl ?_
                    refine l_istore rfl rfl rfl ?_
                    refine l_goto rfl rfl ?_
                    have w29 : 0 ≤ Xi U4 882 10 ∧ Xi U4 882 10 ≤ 5000 := hHU4.c _ _
                    exact Rl_weak (ih8 _ (by omega) U4 hHU4 hFU4 (z14) (by omega) (by omega) (by omega) rfl) (And.intro rfl (And.intro rfl (And.intro rfl (And.intro rfl (True.intro)))))
                · refine l_iconst rfl ?_
                  refine l_ireturn rfl rfl ?_
                  exact ⟨hHT1, hFT1, _, rfl, ⟨by omega, by omega⟩, (by first | assumption | omega)⟩
          · refine l_iinc rfl rfl rfl rfl ?_
            refine l_goto rfl rfl ?_
            have w30 : 0 ≤ Xi T1 882 10 ∧ Xi T1 882 10 ≤ 5000 := hHT1.c _ _
            exact Rl_weak (ih8 _ (by omega) T1 hHT1 hFT1 ((v4 + 1)) (by omega) (by omega) (by omega) rfl) (And.intro rfl (And.intro rfl (And.intro rfl (And.intro rfl (True.intro)))))
        · refine l_aload_n rfl rfl ?_
          refine l_gfi rfl rfl rfl rfl rfl ?_
          refine l_if_le rfl rfl (by unfold rg; omega) (fun w31 => ?_) (fun w32 => ?_)
          · refine l_iconst rfl ?_
            refine l_ireturn rfl rfl ?_
            exact ⟨hHT1, hFT1, _, rfl, ⟨by omega, by omega⟩, (by first | assumption | omega)⟩
          · refine l_iload rfl rfl ?_
            refine l_iconst rfl ?_
            refine l_iadd rfl ?_
            refine l_goto rfl rfl ?_
            refine l_ireturn rfl rfl ?_
            exact ⟨hHT1, hFT1, _, rfl, ⟨by omega, by omega⟩, (by first | assumption | omega)⟩
  refine l_iload_n rfl rfl ?_
  refine l_istore rfl rfl rfl ?_
  refine l_aload_n rfl rfl ?_
  refine l_iconst rfl ?_
  refine l_pfi rfl rfl rfl rfl ?_
  obtain ⟨U5, eU5⟩ : ∃ T : sS, T = uI S 882 10 (Int32.ofInt 0) := ⟨_, rfl⟩
  rw [← eU5]
  have hHU5 : HI U5 := by rw [eU5]; exact HI_w hH (show 0 ≤ 0 by omega) (show 0 ≤ 5000 by omega)
  have hFU5 : FR md_co_takeGap S U5 := by rw [eU5]; exact FR.wI hF (mdf_i (r := (882, 883, 10, 11)) (List.mem_of_getElem? (i := 0) rfl) (inR_i (by omega) (by omega) (by omega) (by omega)))
  have w33 : Xi U5 882 10 = 0 := by rw [eU5]; exact Xi_same (by unfold rg; omega)
  have w34 : 0 ≤ Xi U5 882 10 ∧ Xi U5 882 10 ≤ 5000 := hHU5.c _ _
  exact Rl_weak (C8 _ U5 hHU5 hFU5 (from_) (by omega) (by omega) (by omega) rfl) (And.intro rfl (And.intro rfl (And.intro rfl (And.intro rfl (True.intro)))))
abbrev Q_rs_told (S : sS) (w : Int) : pst := fun r S1 => S = S1 ∧ (∃ z : Int, r = some (iv z) ∧ (-1 ≤ z ∧ z ≤ 64))
set_option maxRecDepth 100000 in
theorem t_rs_told {S : sS} (hH : HI S) (w : Int) (hw : -2147483648 ≤ w ∧ w ≤ 2147483647) (d : Nat) : Mt lay0 (d + 2) m_rs_told [.ref 0, iv w] S (Q_rs_told S w) := by
  refine Mt_R rfl rfl ?_
  refine l_iload_n rfl rfl ?_
  refine l_bipush rfl rfl ?_
  refine l_icmp_ne rfl rfl (by unfold rg; omega) (by unfold rg; omega) (fun w1 => ?_) (fun w2 => ?_)
  · refine l_iload_n rfl rfl ?_
    refine l_bipush rfl rfl ?_
    refine l_icmp_ne rfl rfl (by unfold rg; omega) (by unfold rg; omega) (fun w3 => ?_) (fun w4 => ?_)
    · refine l_aload_n rfl rfl ?_
      refine l_gfr rfl rfl rfl rfl rfl (hH.r 0 0 1 rfl) ?_
      refine l_iload_n rfl rfl ?_
      refine l_callV rfl rfl rfl (t_vo_countOf hH w ⟨by omega, by omega⟩ _) ?_
      rintro _ _ ⟨rfl, z8, rfl, w8, w5, w6, w7⟩
      show Rl _ _ _ _ _ [iv z8] _ _
      refine l_ireturn rfl rfl ?_
      exact ⟨rfl, _, rfl, ⟨by omega, by omega⟩⟩
    · refine l_aload_n rfl rfl ?_
      refine l_gfr rfl rfl rfl rfl rfl (hH.r 0 3 882 rfl) ?_
      refine l_gfi rfl rfl rfl rfl rfl ?_
      have w9 : 0 ≤ (Xi S 882 3) ∧ (Xi S 882 3) ≤ 20 := hH.c _ _
      refine l_ireturn rfl rfl ?_
      exact ⟨rfl, _, rfl, ⟨by omega, by omega⟩⟩
  · refine l_aload_n rfl rfl ?_
    refine l_gfr rfl rfl rfl rfl rfl (hH.r 0 2 246 rfl) ?_
    refine l_gfi rfl rfl rfl rfl rfl ?_
    have w10 : 0 ≤ (Xi S 246 2) ∧ (Xi S 246 2) ≤ 24 := hH.c _ _
    refine l_ireturn rfl rfl ?_
    exact ⟨rfl, _, rfl, ⟨by omega, by omega⟩⟩
abbrev Q_rs_object (S : sS) (i : Int) (w : Int) : pst := fun r S1 => S = S1 ∧ (∃ z : Int, r = some (iv z) ∧ (-1 ≤ z ∧ z ≤ 23))
set_option maxRecDepth 100000 in
theorem t_rs_object {S : sS} (hH : HI S) (i : Int) (w : Int) (hi : -2147483648 ≤ i ∧ i ≤ 2147483647) (hw : -2147483648 ≤ w ∧ w ≤ 2147483647) (d : Nat) : Mt lay0 (d + 3) m_rs_object [.ref 0, iv i, iv w] S (Q_rs_object S i w) := by
  refine Mt_R rfl rfl ?_
  refine l_aload_n rfl rfl ?_
  refine l_iload_n rfl rfl ?_
  refine l_callV rfl rfl rfl (t_rs_isObject hH i ⟨by omega, by omega⟩ _) ?_
  rintro _ _ ⟨rfl, z2, rfl, w2, w1⟩
  show Rl _ _ _ _ _ [iv z2] _ _
  refine l_if_ne rfl rfl (by unfold rg; omega) (fun w3 => ?_) (fun w4 => ?_)
  · refine l_iload_n rfl rfl ?_
    refine l_tsw rfl rfl rfl rfl (by unfold rg; omega) (fun w5 => ?_) (fun ii tt hii w5 => ?_)
    · refine l_iconst rfl ?_
      refine l_ireturn rfl rfl ?_
      exact ⟨rfl, _, rfl, ⟨by omega, by omega⟩⟩
    · match ii, hii with
      | 0, hii =>
        cases hii
        have w6 : w = 0 := by simpa using w5
        refine l_aload_n rfl rfl ?_
        refine l_gfr rfl rfl rfl rfl rfl (hH.r 0 1 20 rfl) ?_
        refine l_gfr rfl rfl rfl rfl rfl (hH.r 20 2 21 rfl) ?_
        refine l_iload_n rfl rfl ?_
        refine l_iaload (n := 24) rfl rfl (by omega) (by omega) (by unfold rg; omega) ?_
        have w7 : 0 ≤ (Xi S 21 ((i).toNat)) ∧ (Xi S 21 ((i).toNat)) ≤ 15 := hH.c _ _
        refine l_ireturn rfl rfl ?_
        exact ⟨rfl, _, rfl, ⟨by omega, by omega⟩⟩
      | 1, hii =>
        cases hii
        have w8 : w = 1 := by simpa using w5
        refine l_aload_n rfl rfl ?_
        refine l_gfr rfl rfl rfl rfl rfl (hH.r 0 1 20 rfl) ?_
        refine l_gfr rfl rfl rfl rfl rfl (hH.r 20 3 22 rfl) ?_
        refine l_iload_n rfl rfl ?_
        refine l_iaload (n := 24) rfl rfl (by omega) (by omega) (by unfold rg; omega) ?_
        have w9 : 0 ≤ (Xi S 22 ((i).toNat)) ∧ (Xi S 22 ((i).toNat)) ≤ 5 := hH.c _ _
        refine l_ireturn rfl rfl ?_
        exact ⟨rfl, _, rfl, ⟨by omega, by omega⟩⟩
      | 2, hii =>
        cases hii
        have w10 : w = 2 := by simpa using w5
        refine l_aload_n rfl rfl ?_
        refine l_gfr rfl rfl rfl rfl rfl (hH.r 0 1 20 rfl) ?_
        refine l_gfr rfl rfl rfl rfl rfl (hH.r 20 4 23 rfl) ?_
        refine l_iload_n rfl rfl ?_
        refine l_iaload (n := 24) rfl rfl (by omega) (by omega) (by unfold rg; omega) ?_
        have w11 : -1 ≤ (Xi S 23 ((i).toNat)) ∧ (Xi S 23 ((i).toNat)) ≤ 23 := hH.c _ _
        refine l_ireturn rfl rfl ?_
        exact ⟨rfl, _, rfl, ⟨by omega, by omega⟩⟩
      | n + 3, hii => exact absurd hii (by simp)
  · refine l_iconst rfl ?_
    refine l_ireturn rfl rfl ?_
    exact ⟨rfl, _, rfl, ⟨by omega, by omega⟩⟩
abbrev Q_rs_leads (S : sS) (room : Int) (dir : Int) : pst := fun r S1 => S = S1 ∧ (∃ z : Int, r = some (iv z) ∧ (-1 ≤ z ∧ z ≤ 23))
set_option maxRecDepth 100000 in
theorem t_rs_leads {S : sS} (hH : HI S) (room : Int) (dir : Int) (hroom : -2147483648 ≤ room ∧ room ≤ 2147483647) (hdir : -2147483648 ≤ dir ∧ dir ≤ 2147483647) (d : Nat) : Mt lay0 (d + 3) m_rs_leads [.ref 0, iv room, iv dir] S (Q_rs_leads S room dir) := by
  refine Mt_R rfl rfl ?_
  refine l_aload_n rfl rfl ?_
  refine l_iload_n rfl rfl ?_
  refine l_callV rfl rfl rfl (t_rs_isObject hH room ⟨by omega, by omega⟩ _) ?_
  rintro _ _ ⟨rfl, z2, rfl, w2, w1⟩
  show Rl _ _ _ _ _ [iv z2] _ _
  refine l_if_eq rfl rfl (by unfold rg; omega) (fun w3 => ?_) (fun w4 => ?_)
  · refine l_iconst rfl ?_
    refine l_ireturn rfl rfl ?_
    exact ⟨rfl, _, rfl, ⟨by omega, by omega⟩⟩
  · refine l_iload_n rfl rfl ?_
    refine l_if_lt rfl rfl (by unfold rg; omega) (fun w5 => ?_) (fun w6 => ?_)
    · refine l_iconst rfl ?_
      refine l_ireturn rfl rfl ?_
      exact ⟨rfl, _, rfl, ⟨by omega, by omega⟩⟩
    · refine l_iload_n rfl rfl ?_
      refine l_bipush rfl rfl ?_
      refine l_icmp_lt rfl rfl (by unfold rg; omega) (by unfold rg; omega) (fun w7 => ?_) (fun w8 => ?_)
      · refine l_aload_n rfl rfl ?_
        refine l_gfr rfl rfl rfl rfl rfl (hH.r 0 1 20 rfl) ?_
        refine l_iload_n rfl rfl ?_
        refine l_iload_n rfl rfl ?_
        refine l_callV rfl rfl rfl (t_wo_roomBehind hH room dir ⟨by omega, by omega⟩ ⟨by omega, by omega⟩ _) ?_
        rintro _ _ ⟨rfl, z10, rfl, w10, w9⟩
        show Rl _ _ _ _ _ [iv z10] _ _
        refine l_ireturn rfl rfl ?_
        exact ⟨rfl, _, rfl, ⟨by omega, by omega⟩⟩
      · refine l_iconst rfl ?_
        refine l_ireturn rfl rfl ?_
        exact ⟨rfl, _, rfl, ⟨by omega, by omega⟩⟩
abbrev Q_rs_related (S : sS) (rl : Int) (a : Int) (b : Int) : pst := fun r S1 => S = S1 ∧ (∃ z : Int, r = some (iv z) ∧ (0 ≤ z ∧ z ≤ 1))
set_option maxRecDepth 100000 in
theorem t_rs_related {S : sS} (hH : HI S) (rl : Int) (a : Int) (b : Int) (hrl : -2147483648 ≤ rl ∧ rl ≤ 2147483647) (ha : -2147483648 ≤ a ∧ a ≤ 2147483647) (hb : -2147483648 ≤ b ∧ b ≤ 2147483647) (d : Nat) : Mt lay0 (d + 3) m_rs_related [.ref 0, iv rl, iv a, iv b] S (Q_rs_related S rl a b) := by
  refine Mt_R rfl rfl ?_
  refine l_iload_n rfl rfl ?_
  refine l_if_lt rfl rfl (by unfold rg; omega) (fun w1 => ?_) (fun w2 => ?_)
  · refine l_iconst rfl ?_
    refine l_ireturn rfl rfl ?_
    exact ⟨rfl, _, rfl, ⟨by omega, by omega⟩⟩
  · refine l_iload_n rfl rfl ?_
    refine l_aload_n rfl rfl ?_
    refine l_gfr rfl rfl rfl rfl rfl (hH.r 0 0 1 rfl) ?_
    refine l_bipush rfl rfl ?_
    refine l_callV rfl rfl rfl (t_vo_countOf hH 6 ⟨by omega, by omega⟩ _) ?_
    rintro _ _ ⟨rfl, z6, rfl, w6, w3, w4, w5⟩
    have w7 : z6 = Xi S 5 6 ∧ 0 ≤ Xi S 5 6 ∧ Xi S 5 6 ≤ 6 := ⟨(w3 (by omega) (by omega)).1, hH.c 5 6⟩
    clear w3 w4 w5
    show Rl _ _ _ _ _ [iv z6, iv rl] _ _
    refine l_icmp_ge rfl rfl (by unfold rg; omega) (by unfold rg; omega) (fun w8 => ?_) (fun w9 => ?_)
    · refine l_iconst rfl ?_
      refine l_ireturn rfl rfl ?_
      exact ⟨rfl, _, rfl, ⟨by omega, by omega⟩⟩
    · refine l_aload_n rfl rfl ?_
      refine l_iload_n rfl rfl ?_
      refine l_callV rfl rfl rfl (t_rs_isObject hH a ⟨by omega, by omega⟩ _) ?_
      rintro _ _ ⟨rfl, z11, rfl, w11, w10⟩
      show Rl _ _ _ _ _ [iv z11] _ _
      refine l_if_eq rfl rfl (by unfold rg; omega) (fun w12 => ?_) (fun w13 => ?_)
      · refine l_iconst rfl ?_
        refine l_ireturn rfl rfl ?_
        exact ⟨rfl, _, rfl, ⟨by omega, by omega⟩⟩
      · refine l_aload_n rfl rfl ?_
        refine l_iload_n rfl rfl ?_
        refine l_callV rfl rfl rfl (t_rs_isObject hH b ⟨by omega, by omega⟩ _) ?_
        rintro _ _ ⟨rfl, z15, rfl, w15, w14⟩
        show Rl _ _ _ _ _ [iv z15] _ _
        refine l_if_eq rfl rfl (by unfold rg; omega) (fun w16 => ?_) (fun w17 => ?_)
        · refine l_iconst rfl ?_
          refine l_ireturn rfl rfl ?_
          exact ⟨rfl, _, rfl, ⟨by omega, by omega⟩⟩
        · refine l_aload_n rfl rfl ?_
          refine l_gfr rfl rfl rfl rfl rfl (hH.r 0 1 20 rfl) ?_
          refine l_iload_n rfl rfl ?_
          refine l_iload_n rfl rfl ?_
          refine l_iload_n rfl rfl ?_
          refine l_callV rfl rfl rfl (t_wo_isRelated hH rl a b ⟨by omega, by omega⟩ ⟨by omega, by omega⟩ ⟨by omega, by omega⟩ _) ?_
          rintro _ _ ⟨rfl, z19, rfl, w19, w18⟩
          show Rl _ _ _ _ _ [iv z19] _ _
          refine l_if_eq rfl rfl (by unfold rg; omega) (fun w20 => ?_) (fun w21 => ?_)
          · refine l_iconst rfl ?_
            refine l_ireturn rfl rfl ?_
            exact ⟨rfl, _, rfl, ⟨by omega, by omega⟩⟩
          · refine l_iconst rfl ?_
            refine l_goto rfl rfl ?_
            refine l_ireturn rfl rfl ?_
            exact ⟨rfl, _, rfl, ⟨by omega, by omega⟩⟩
abbrev Q_rs_hasProperty (S : sS) (o : Int) (p : Int) : pst := fun r S1 => S = S1 ∧ (∃ z : Int, r = some (iv z) ∧ (0 ≤ z ∧ z ≤ 1) ∧ (z = 1 → 0 ≤ o ∧ o ≤ 23 ∧ 0 ≤ p ∧ p ≤ 11))
set_option maxRecDepth 100000 in
theorem t_rs_hasProperty {S : sS} (hH : HI S) (o : Int) (p : Int) (ho : -2147483648 ≤ o ∧ o ≤ 2147483647) (hp : -2147483648 ≤ p ∧ p ≤ 2147483647) (d : Nat) : Mt lay0 (d + 3) m_rs_hasProperty [.ref 0, iv o, iv p] S (Q_rs_hasProperty S o p) := by
  refine Mt_R rfl rfl ?_
  refine l_aload_n rfl rfl ?_
  refine l_iload_n rfl rfl ?_
  refine l_callV rfl rfl rfl (t_rs_isObject hH o ⟨by omega, by omega⟩ _) ?_
  rintro _ _ ⟨rfl, z2, rfl, w2, w1⟩
  show Rl _ _ _ _ _ [iv z2] _ _
  refine l_if_eq rfl rfl (by unfold rg; omega) (fun w3 => ?_) (fun w4 => ?_)
  · refine l_iconst rfl ?_
    refine l_ireturn rfl rfl ?_
    exact ⟨rfl, _, rfl, ⟨by omega, by omega⟩, (by first | assumption | omega)⟩
  · refine l_iload_n rfl rfl ?_
    refine l_if_lt rfl rfl (by unfold rg; omega) (fun w5 => ?_) (fun w6 => ?_)
    · refine l_iconst rfl ?_
      refine l_ireturn rfl rfl ?_
      exact ⟨rfl, _, rfl, ⟨by omega, by omega⟩, (by first | assumption | omega)⟩
    · refine l_iload_n rfl rfl ?_
      refine l_aload_n rfl rfl ?_
      refine l_gfr rfl rfl rfl rfl rfl (hH.r 0 0 1 rfl) ?_
      refine l_iconst rfl ?_
      refine l_callV rfl rfl rfl (t_vo_countOf hH 5 ⟨by omega, by omega⟩ _) ?_
      rintro _ _ ⟨rfl, z10, rfl, w10, w7, w8, w9⟩
      have w11 : z10 = Xi S 5 5 ∧ 0 ≤ Xi S 5 5 ∧ Xi S 5 5 ≤ 12 := ⟨(w7 (by omega) (by omega)).1, hH.c 5 5⟩
      clear w7 w8 w9
      show Rl _ _ _ _ _ [iv z10, iv p] _ _
      refine l_icmp_ge rfl rfl (by unfold rg; omega) (by unfold rg; omega) (fun w12 => ?_) (fun w13 => ?_)
      · refine l_iconst rfl ?_
        refine l_ireturn rfl rfl ?_
        exact ⟨rfl, _, rfl, ⟨by omega, by omega⟩, (by first | assumption | omega)⟩
      · refine l_aload_n rfl rfl ?_
        refine l_gfr rfl rfl rfl rfl rfl (hH.r 0 0 1 rfl) ?_
        refine l_aload_n rfl rfl ?_
        refine l_gfr rfl rfl rfl rfl rfl (hH.r 0 1 20 rfl) ?_
        refine l_gfr rfl rfl rfl rfl rfl (hH.r 20 2 21 rfl) ?_
        refine l_iload_n rfl rfl ?_
        refine l_iaload (n := 24) rfl rfl (by omega) (by omega) (by unfold rg; omega) ?_
        have w14 : 0 ≤ (Xi S 21 ((o).toNat)) ∧ (Xi S 21 ((o).toNat)) ≤ 15 := hH.c _ _
        refine l_callV rfl rfl rfl (t_vo_propertiesOf hH (Xi S 21 ((o).toNat)) ⟨by omega, by omega⟩ _) ?_
        rintro _ _ ⟨rfl, z16, rfl, w16, w15⟩
        show Rl _ _ _ _ _ [iv z16] _ _
        refine l_iload_n rfl rfl ?_
        refine l_ishrF rfl ?_
        have w17 : -2147483648 ≤ (ishrF z16 p) ∧ (ishrF z16 p) ≤ 2147483647 := ishrF_rg
        refine l_iconst rfl ?_
        refine l_iandF rfl ?_
        have w18 : 0 ≤ (iandF (ishrF z16 p) 1) ∧ (iandF (ishrF z16 p) 1) ≤ 1 := iandF_le (by omega) (by unfold rg; omega)
        refine l_iconst rfl ?_
        refine l_icmp_ne rfl rfl (by unfold rg; omega) (by unfold rg; omega) (fun w19 => ?_) (fun w20 => ?_)
        · refine l_iconst rfl ?_
          refine l_ireturn rfl rfl ?_
          exact ⟨rfl, _, rfl, ⟨by omega, by omega⟩, (by first | assumption | omega)⟩
        · refine l_iconst rfl ?_
          refine l_goto rfl rfl ?_
          refine l_ireturn rfl rfl ?_
          exact ⟨rfl, _, rfl, ⟨by omega, by omega⟩, (by first | assumption | omega)⟩
abbrev Q_rs_property (S : sS) (o : Int) (p : Int) : pst := fun r S1 => S = S1 ∧ (∃ z : Int, r = some (iv z) ∧ (-2147483648 ≤ z ∧ z ≤ 2147483647))
set_option maxRecDepth 100000 in
theorem t_rs_property {S : sS} (hH : HI S) (o : Int) (p : Int) (ho : -2147483648 ≤ o ∧ o ≤ 2147483647) (hp : -2147483648 ≤ p ∧ p ≤ 2147483647) (d : Nat) : Mt lay0 (d + 4) m_rs_property [.ref 0, iv o, iv p] S (Q_rs_property S o p) := by
  refine Mt_R rfl rfl ?_
  refine l_aload_n rfl rfl ?_
  refine l_iload_n rfl rfl ?_
  refine l_iload_n rfl rfl ?_
  refine l_callV rfl rfl rfl (t_rs_hasProperty hH o p ⟨by omega, by omega⟩ ⟨by omega, by omega⟩ _) ?_
  rintro _ _ ⟨rfl, z2, rfl, w2, w1⟩
  show Rl _ _ _ _ _ [iv z2] _ _
  refine l_if_ne rfl rfl (by unfold rg; omega) (fun w3 => ?_) (fun w4 => ?_)
  · refine l_aload_n rfl rfl ?_
    refine l_gfr rfl rfl rfl rfl rfl (hH.r 0 0 1 rfl) ?_
    refine l_gfr rfl rfl rfl rfl rfl (hH.r 1 8 9 rfl) ?_
    refine l_iload_n rfl rfl ?_
    refine l_iaload (n := 12) rfl rfl (by omega) (by omega) (by unfold rg; omega) ?_
    have w5 : 0 ≤ (Xi S 9 ((p).toNat)) ∧ (Xi S 9 ((p).toNat)) ≤ 7 := hH.c _ _
    refine l_iconst rfl ?_
    refine l_icmp_ne rfl rfl (by unfold rg; omega) (by unfold rg; omega) (fun w6 => ?_) (fun w7 => ?_)
    · refine l_aload_n rfl rfl ?_
      refine l_gfr rfl rfl rfl rfl rfl (hH.r 0 1 20 rfl) ?_
      refine l_iload_n rfl rfl ?_
      refine l_iload_n rfl rfl ?_
      refine l_callV rfl rfl rfl (t_wo_valueOf hH o p ⟨by omega, by omega⟩ ⟨by omega, by omega⟩ _) ?_
      rintro _ _ ⟨rfl, z9, rfl, w9, w8⟩
      show Rl _ _ _ _ _ [iv z9] _ _
      refine l_ireturn rfl rfl ?_
      exact ⟨rfl, _, rfl, ⟨by omega, by omega⟩⟩
    · refine l_aload_n rfl rfl ?_
      refine l_gfr rfl rfl rfl rfl rfl (hH.r 0 1 20 rfl) ?_
      refine l_iload_n rfl rfl ?_
      refine l_iload_n rfl rfl ?_
      refine l_callV rfl rfl rfl (t_wo_lengthOf hH o p ⟨by omega, by omega⟩ ⟨by omega, by omega⟩ _) ?_
      rintro _ _ ⟨rfl, z11, rfl, w11, w10⟩
      show Rl _ _ _ _ _ [iv z11] _ _
      refine l_goto rfl rfl ?_
      refine l_ireturn rfl rfl ?_
      exact ⟨rfl, _, rfl, ⟨by omega, by omega⟩⟩
  · refine l_iconst rfl ?_
    refine l_ireturn rfl rfl ?_
    exact ⟨rfl, _, rfl, ⟨by omega, by omega⟩⟩
abbrev Q_rs_out (S : sS) (i : Int) : pst := fun r S1 => S = S1 ∧ (∃ z : Int, r = some (iv z) ∧ (-1 ≤ z ∧ z ≤ 255))
set_option maxRecDepth 100000 in
theorem t_rs_out {S : sS} (hH : HI S) (i : Int) (hi : -2147483648 ≤ i ∧ i ≤ 2147483647) (d : Nat) : Mt lay0 (d + 1) m_rs_out [.ref 0, iv i] S (Q_rs_out S i) := by
  refine Mt_R rfl rfl ?_
  refine l_iload_n rfl rfl ?_
  refine l_if_lt rfl rfl (by unfold rg; omega) (fun w1 => ?_) (fun w2 => ?_)
  · refine l_iconst rfl ?_
    refine l_ireturn rfl rfl ?_
    exact ⟨rfl, _, rfl, ⟨by omega, by omega⟩⟩
  · refine l_iload_n rfl rfl ?_
    refine l_aload_n rfl rfl ?_
    refine l_gfr rfl rfl rfl rfl rfl (hH.r 0 7 900 rfl) ?_
    refine l_gfi rfl rfl rfl rfl rfl ?_
    have w3 : 0 ≤ (Xi S 900 4) ∧ (Xi S 900 4) ≤ 2000 := hH.c _ _
    refine l_icmp_ge rfl rfl (by unfold rg; omega) (by unfold rg; omega) (fun w4 => ?_) (fun w5 => ?_)
    · refine l_iconst rfl ?_
      refine l_ireturn rfl rfl ?_
      exact ⟨rfl, _, rfl, ⟨by omega, by omega⟩⟩
    · refine l_aload_n rfl rfl ?_
      refine l_gfr rfl rfl rfl rfl rfl (hH.r 0 7 900 rfl) ?_
      refine l_gfr rfl rfl rfl rfl rfl (hH.r 900 3 901 rfl) ?_
      refine l_iload_n rfl rfl ?_
      refine l_baload (n := 2000) rfl rfl rfl (by decide) (by omega) (by omega) (by unfold rg; omega) ?_
      have w6 : -128 ≤ (Xi S 901 ((i).toNat)) ∧ (Xi S 901 ((i).toNat)) ≤ 127 := hH.c _ _
      refine l_sipush rfl rfl ?_
      refine l_iand255 rfl (by unfold rg; omega) ?_
      refine l_goto rfl rfl ?_
      refine l_ireturn rfl rfl ?_
      exact ⟨rfl, _, rfl, ⟨by omega, by omega⟩⟩
abbrev Q_bo_placeInOrder (S : sS) (i : Int) : pst := fun r S1 => S = S1 ∧ (∃ z : Int, r = some (iv z) ∧ (0 ≤ z ∧ z ≤ 24))
set_option maxRecDepth 100000 in
theorem t_bo_placeInOrder {S : sS} (hH : HI S) (i : Int) (hi : 0 ≤ i ∧ i ≤ 23) (d : Nat) : Mt lay0 (d + 1) m_bo_placeInOrder [.ref 246, iv i] S (Q_bo_placeInOrder S i) := by
  refine Mt_R rfl rfl ?_
  have w1 : 0 ≤ Xi S 246 2 ∧ Xi S 246 2 ≤ 24 := hH.c _ _
  have C4 : ∀ (n4 : Nat) (v2 : Int) (v3 : Int), (-2147483648 ≤ v2 ∧ v2 ≤ 2147483647) → (0 ≤ v3 ∧ v3 ≤ 24) → (0 ≤ v2 ∧ v2 ≤ v3) → n4 = (25 - v3).toNat → Rl lay0 (d + 0) m_bo_placeInOrder 4 [(0, .ref 246), (1, iv i), (2, iv v2), (3, iv v3)] [] S (Q_bo_placeInOrder S i) := by
    intro n4
    induction n4 using Nat.strongRecOn with
    | ind n4 ih4 =>
      intro v2 v3 w2 w3 w4 hm4
      have C49 : ∀  (v2 : Int) (v3 : Int), (-2147483648 ≤ v2 ∧ v2 ≤ 2147483647) → (0 ≤ v3 ∧ v3 ≤ 23) → (0 ≤ v2 ∧ v2 ≤ v3 + 1) → (v3 < Xi S 246 2) → ((25 - v3).toNat ≤ n4) → Rl lay0 (d + 0) m_bo_placeInOrder 49 [(0, .ref 246), (1, iv i), (2, iv v2), (3, iv v3)] [] S (Q_bo_placeInOrder S i) := by
        intro v2 v3 w5 w6 w7 w8 w9
        refine l_iinc rfl rfl rfl rfl ?_
        refine l_goto rfl rfl ?_
        exact Rl_weak (ih4 _ (by omega) (v2) ((v3 + 1)) (by omega) (by omega) (by omega) rfl) (And.intro rfl (And.intro rfl (And.intro rfl (And.intro rfl (True.intro)))))
      have C55 : ∀  (v2 : Int), (-2147483648 ≤ v2 ∧ v2 ≤ 2147483647) → (0 ≤ v2 ∧ v2 ≤ 24) → Rl lay0 (d + 0) m_bo_placeInOrder 55 [(2, iv v2)] [] S (Q_bo_placeInOrder S i) := by
        intro v2 w10 w11
        refine l_iload_n rfl rfl ?_
        refine l_ireturn rfl rfl ?_
        exact ⟨rfl, _, rfl, ⟨by omega, by omega⟩⟩
      refine l_iload_n rfl rfl ?_
      refine l_aload_n rfl rfl ?_
      refine l_gfi rfl rfl rfl rfl rfl ?_
      refine l_icmp_ge rfl rfl (by unfold rg; omega) (by unfold rg; omega) (fun w12 => ?_) (fun w13 => ?_)
      · exact Rl_weak (C55 (v2) (by omega) (by omega)) (And.intro rfl (True.intro))
      · refine l_aload_n rfl rfl ?_
        refine l_gfr rfl rfl rfl rfl rfl (hH.r 246 3 272 rfl) ?_
        refine l_iload_n rfl rfl ?_
        refine l_iaload (n := 24) rfl rfl (by omega) (by omega) (by unfold rg; omega) ?_
        have w14 : 0 ≤ (Xi S 272 ((v3).toNat)) ∧ (Xi S 272 ((v3).toNat)) ≤ 23 := hH.c _ _
        refine l_iload_n rfl rfl ?_
        refine l_icmp_eq rfl rfl (by unfold rg; omega) (by unfold rg; omega) (fun w15 => ?_) (fun w16 => ?_)
        · exact Rl_weak (C55 (v2) (by omega) (by omega)) (And.intro rfl (True.intro))
        · refine l_aload_n rfl rfl ?_
          refine l_gfr rfl rfl rfl rfl rfl (hH.r 246 1 247 rfl) ?_
          refine l_aload_n rfl rfl ?_
          refine l_gfr rfl rfl rfl rfl rfl (hH.r 246 3 272 rfl) ?_
          refine l_iload_n rfl rfl ?_
          refine l_iaload (n := 24) rfl rfl (by omega) (by omega) (by unfold rg; omega) ?_
          refine l_aaload (n := 24) (a := 248 + ((Xi S 272 ((v3).toNat))).toNat) rfl rfl (by decide) (by omega) (by omega) (by unfold rg; omega) (RW_247 hH (by omega)) ?_
          refine l_iconst rfl ?_
          refine l_iaload (n := 8) rfl (lay_248 (by omega)) (by omega) (by omega) (by unfold rg; omega) ?_
          have w17 : 0 ≤ (Xi S (248 + ((Xi S 272 ((v3).toNat))).toNat) ((0 : Int).toNat)) ∧ (Xi S (248 + ((Xi S 272 ((v3).toNat))).toNat) ((0 : Int).toNat)) ≤ 3 := ruc0 hH (by omega)
          have w18 : (Xi S (248 + ((Xi S 272 ((v3).toNat))).toNat) ((0 : Int).toNat)) = Xi S (248 + ((Xi S 272 ((v3).toNat))).toNat) 0 := rfl
          refine l_aload_n rfl rfl ?_
          refine l_gfr rfl rfl rfl rfl rfl (hH.r 246 1 247 rfl) ?_
          refine l_iload_n rfl rfl ?_
          refine l_aaload (n := 24) (a := 248 + (i).toNat) rfl rfl (by decide) (by omega) (by omega) (by unfold rg; omega) (RW_247 hH (by omega)) ?_
          refine l_iconst rfl ?_
          refine l_iaload (n := 8) rfl (lay_248 (by omega)) (by omega) (by omega) (by unfold rg; omega) ?_
          have w19 : 0 ≤ (Xi S (248 + (i).toNat) ((0 : Int).toNat)) ∧ (Xi S (248 + (i).toNat) ((0 : Int).toNat)) ≤ 3 := ruc0 hH (by omega)
          have w20 : (Xi S (248 + (i).toNat) ((0 : Int).toNat)) = Xi S (248 + (i).toNat) 0 := rfl
          refine l_icmp_ne rfl rfl (by unfold rg; omega) (by unfold rg; omega) (fun w21 => ?_) (fun w22 => ?_)
          · exact Rl_weak (C49 (v2) (v3) (by omega) (by omega) (by omega) (by omega) (by omega)) (And.intro rfl (And.intro rfl (And.intro rfl (And.intro rfl (True.intro)))))
          · refine l_iinc rfl rfl rfl rfl ?_
            exact Rl_weak (C49 ((v2 + 1)) (v3) (by omega) (by omega) (by omega) (by omega) (by omega)) (And.intro rfl (And.intro rfl (And.intro rfl (And.intro rfl (True.intro)))))
  refine l_iconst rfl ?_
  refine l_istore_n rfl rfl rfl ?_
  refine l_iconst rfl ?_
  refine l_istore_n rfl rfl rfl ?_
  exact Rl_weak (C4 _ (0) (0) (by omega) (by omega) (by omega) rfl) (And.intro rfl (And.intro rfl (And.intro rfl (And.intro rfl (True.intro)))))
abbrev Q_bo_comesFirst (S : sS) (a : Nat) (b : Nat) : pst := fun r S1 => S = S1 ∧ (∃ z : Int, r = some (iv z) ∧ (0 ≤ z ∧ z ≤ 1))
set_option maxRecDepth 100000 in
theorem t_bo_comesFirst {S : sS} (hH : HI S) (a : Nat) (b : Nat) (ha : a < 24) (hb : b < 24) (d : Nat) : Mt lay0 (d + 2) m_bo_comesFirst [.ref 246, .ref (248 + a), .ref (248 + b)] S (Q_bo_comesFirst S a b) := by
  refine Mt_R rfl rfl ?_
  refine l_aload_n rfl rfl ?_
  refine l_callS rfl rfl (by decide) rfl (t_bo_rank hH a (by omega) _) ?_
  rintro _ _ ⟨rfl, z1, rfl, w1⟩
  show Rl _ _ _ _ _ [iv z1] _ _
  refine l_aload_n rfl rfl ?_
  refine l_callS rfl rfl (by decide) rfl (t_bo_rank hH b (by omega) _) ?_
  rintro _ _ ⟨rfl, z2, rfl, w2⟩
  show Rl _ _ _ _ _ [iv z2, iv z1] _ _
  refine l_isub rfl ?_
  refine l_istore_n rfl rfl rfl ?_
  refine l_iload_n rfl rfl ?_
  refine l_if_eq rfl rfl (by unfold rg; omega) (fun w3 => ?_) (fun w4 => ?_)
  · refine l_aload_n rfl rfl ?_
    refine l_iconst rfl ?_
    refine l_iaload (n := 8) rfl (lay_248 (by omega)) (by omega) (by omega) (by unfold rg; omega) ?_
    have w5 : -1 ≤ (Xi S (248 + a) ((3 : Int).toNat)) ∧ (Xi S (248 + a) ((3 : Int).toNat)) ≤ 15 := ruc3 hH (by omega)
    have w6 : (Xi S (248 + a) ((3 : Int).toNat)) = Xi S (248 + a) 3 := rfl
    refine l_iconst rfl ?_
    refine l_icmp_eq rfl rfl (by unfold rg; omega) (by unfold rg; omega) (fun w7 => ?_) (fun w8 => ?_)
    · refine l_aload_n rfl rfl ?_
      refine l_iconst rfl ?_
      refine l_iaload (n := 8) rfl (lay_248 (by omega)) (by omega) (by omega) (by unfold rg; omega) ?_
      have w9 : 0 ≤ (Xi S (248 + a) ((5 : Int).toNat)) ∧ (Xi S (248 + a) ((5 : Int).toNat)) ≤ 6 := ruc5 hH (by omega)
      have w10 : (Xi S (248 + a) ((5 : Int).toNat)) = Xi S (248 + a) 5 := rfl
      refine l_aload_n rfl rfl ?_
      refine l_iconst rfl ?_
      refine l_iaload (n := 8) rfl (lay_248 (by omega)) (by omega) (by omega) (by unfold rg; omega) ?_
      have w11 : 0 ≤ (Xi S (248 + b) ((5 : Int).toNat)) ∧ (Xi S (248 + b) ((5 : Int).toNat)) ≤ 6 := ruc5 hH (by omega)
      have w12 : (Xi S (248 + b) ((5 : Int).toNat)) = Xi S (248 + b) 5 := rfl
      refine l_icmp_le rfl rfl (by unfold rg; omega) (by unfold rg; omega) (fun w13 => ?_) (fun w14 => ?_)
      · refine l_iconst rfl ?_
        refine l_ireturn rfl rfl ?_
        exact ⟨rfl, _, rfl, ⟨by omega, by omega⟩⟩
      · refine l_iconst rfl ?_
        refine l_goto rfl rfl ?_
        refine l_ireturn rfl rfl ?_
        exact ⟨rfl, _, rfl, ⟨by omega, by omega⟩⟩
    · refine l_aload_n rfl rfl ?_
      refine l_iconst rfl ?_
      refine l_iaload (n := 8) rfl (lay_248 (by omega)) (by omega) (by omega) (by unfold rg; omega) ?_
      have w15 : -1 ≤ (Xi S (248 + b) ((3 : Int).toNat)) ∧ (Xi S (248 + b) ((3 : Int).toNat)) ≤ 15 := ruc3 hH (by omega)
      have w16 : (Xi S (248 + b) ((3 : Int).toNat)) = Xi S (248 + b) 3 := rfl
      refine l_iconst rfl ?_
      refine l_icmp_eq rfl rfl (by unfold rg; omega) (by unfold rg; omega) (fun w17 => ?_) (fun w18 => ?_)
      · refine l_aload_n rfl rfl ?_
        refine l_iconst rfl ?_
        refine l_iaload (n := 8) rfl (lay_248 (by omega)) (by omega) (by omega) (by unfold rg; omega) ?_
        have w19 : 0 ≤ (Xi S (248 + a) ((5 : Int).toNat)) ∧ (Xi S (248 + a) ((5 : Int).toNat)) ≤ 6 := ruc5 hH (by omega)
        have w20 : (Xi S (248 + a) ((5 : Int).toNat)) = Xi S (248 + a) 5 := rfl
        refine l_aload_n rfl rfl ?_
        refine l_iconst rfl ?_
        refine l_iaload (n := 8) rfl (lay_248 (by omega)) (by omega) (by omega) (by unfold rg; omega) ?_
        have w21 : 0 ≤ (Xi S (248 + b) ((5 : Int).toNat)) ∧ (Xi S (248 + b) ((5 : Int).toNat)) ≤ 6 := ruc5 hH (by omega)
        have w22 : (Xi S (248 + b) ((5 : Int).toNat)) = Xi S (248 + b) 5 := rfl
        refine l_icmp_le rfl rfl (by unfold rg; omega) (by unfold rg; omega) (fun w23 => ?_) (fun w24 => ?_)
        · refine l_iconst rfl ?_
          refine l_ireturn rfl rfl ?_
          exact ⟨rfl, _, rfl, ⟨by omega, by omega⟩⟩
        · refine l_iconst rfl ?_
          refine l_goto rfl rfl ?_
          refine l_ireturn rfl rfl ?_
          exact ⟨rfl, _, rfl, ⟨by omega, by omega⟩⟩
      · refine l_aload_n rfl rfl ?_
        refine l_gfr rfl rfl rfl rfl rfl (hH.r 246 0 1 rfl) ?_
        refine l_aload_n rfl rfl ?_
        refine l_iconst rfl ?_
        refine l_iaload (n := 8) rfl (lay_248 (by omega)) (by omega) (by omega) (by unfold rg; omega) ?_
        refine l_callV rfl rfl rfl (t_vo_kindsAbove hH (Xi S (248 + a) ((3 : Int).toNat)) ⟨by omega, by omega⟩ _) ?_
        rintro _ _ ⟨rfl, z26, rfl, w26, w25⟩
        show Rl _ _ _ _ _ [iv z26] _ _
        refine l_aload_n rfl rfl ?_
        refine l_gfr rfl rfl rfl rfl rfl (hH.r 246 0 1 rfl) ?_
        refine l_aload_n rfl rfl ?_
        refine l_iconst rfl ?_
        refine l_iaload (n := 8) rfl (lay_248 (by omega)) (by omega) (by omega) (by unfold rg; omega) ?_
        refine l_callV rfl rfl rfl (t_vo_kindsAbove hH (Xi S (248 + b) ((3 : Int).toNat)) ⟨by omega, by omega⟩ _) ?_
        rintro _ _ ⟨rfl, z28, rfl, w28, w27⟩
        show Rl _ _ _ _ _ [iv z28, iv z26] _ _
        refine l_isub rfl ?_
        refine l_istore rfl rfl rfl ?_
        refine l_iload rfl rfl ?_
        refine l_if_eq rfl rfl (by unfold rg; omega) (fun w29 => ?_) (fun w30 => ?_)
        · refine l_aload_n rfl rfl ?_
          refine l_iconst rfl ?_
          refine l_iaload (n := 8) rfl (lay_248 (by omega)) (by omega) (by omega) (by unfold rg; omega) ?_
          have w31 : 0 ≤ (Xi S (248 + a) ((4 : Int).toNat)) ∧ (Xi S (248 + a) ((4 : Int).toNat)) ≤ 5 := ruc4 hH (by omega)
          have w32 : (Xi S (248 + a) ((4 : Int).toNat)) = Xi S (248 + a) 4 := rfl
          refine l_aload_n rfl rfl ?_
          refine l_iconst rfl ?_
          refine l_iaload (n := 8) rfl (lay_248 (by omega)) (by omega) (by omega) (by unfold rg; omega) ?_
          have w33 : 0 ≤ (Xi S (248 + b) ((4 : Int).toNat)) ∧ (Xi S (248 + b) ((4 : Int).toNat)) ≤ 5 := ruc4 hH (by omega)
          have w34 : (Xi S (248 + b) ((4 : Int).toNat)) = Xi S (248 + b) 4 := rfl
          refine l_icmp_eq rfl rfl (by unfold rg; omega) (by unfold rg; omega) (fun w35 => ?_) (fun w36 => ?_)
          · refine l_aload_n rfl rfl ?_
            refine l_iconst rfl ?_
            refine l_iaload (n := 8) rfl (lay_248 (by omega)) (by omega) (by omega) (by unfold rg; omega) ?_
            have w37 : 0 ≤ (Xi S (248 + a) ((5 : Int).toNat)) ∧ (Xi S (248 + a) ((5 : Int).toNat)) ≤ 6 := ruc5 hH (by omega)
            have w38 : (Xi S (248 + a) ((5 : Int).toNat)) = Xi S (248 + a) 5 := rfl
            refine l_aload_n rfl rfl ?_
            refine l_iconst rfl ?_
            refine l_iaload (n := 8) rfl (lay_248 (by omega)) (by omega) (by omega) (by unfold rg; omega) ?_
            have w39 : 0 ≤ (Xi S (248 + b) ((5 : Int).toNat)) ∧ (Xi S (248 + b) ((5 : Int).toNat)) ≤ 6 := ruc5 hH (by omega)
            have w40 : (Xi S (248 + b) ((5 : Int).toNat)) = Xi S (248 + b) 5 := rfl
            refine l_icmp_le rfl rfl (by unfold rg; omega) (by unfold rg; omega) (fun w41 => ?_) (fun w42 => ?_)
            · refine l_iconst rfl ?_
              refine l_ireturn rfl rfl ?_
              exact ⟨rfl, _, rfl, ⟨by omega, by omega⟩⟩
            · refine l_iconst rfl ?_
              refine l_goto rfl rfl ?_
              refine l_ireturn rfl rfl ?_
              exact ⟨rfl, _, rfl, ⟨by omega, by omega⟩⟩
          · refine l_aload_n rfl rfl ?_
            refine l_iconst rfl ?_
            refine l_iaload (n := 8) rfl (lay_248 (by omega)) (by omega) (by omega) (by unfold rg; omega) ?_
            refine l_aload_n rfl rfl ?_
            refine l_iconst rfl ?_
            refine l_iaload (n := 8) rfl (lay_248 (by omega)) (by omega) (by omega) (by unfold rg; omega) ?_
            refine l_icmp_le rfl rfl (by unfold rg; omega) (by unfold rg; omega) (fun w43 => ?_) (fun w44 => ?_)
            · refine l_iconst rfl ?_
              refine l_ireturn rfl rfl ?_
              exact ⟨rfl, _, rfl, ⟨by omega, by omega⟩⟩
            · refine l_iconst rfl ?_
              refine l_goto rfl rfl ?_
              refine l_ireturn rfl rfl ?_
              exact ⟨rfl, _, rfl, ⟨by omega, by omega⟩⟩
        · refine l_iload rfl rfl ?_
          refine l_if_le rfl rfl (by unfold rg; omega) (fun w45 => ?_) (fun w46 => ?_)
          · refine l_iconst rfl ?_
            refine l_ireturn rfl rfl ?_
            exact ⟨rfl, _, rfl, ⟨by omega, by omega⟩⟩
          · refine l_iconst rfl ?_
            refine l_goto rfl rfl ?_
            refine l_ireturn rfl rfl ?_
            exact ⟨rfl, _, rfl, ⟨by omega, by omega⟩⟩
  · refine l_iload_n rfl rfl ?_
    refine l_if_ge rfl rfl (by unfold rg; omega) (fun w47 => ?_) (fun w48 => ?_)
    · refine l_iconst rfl ?_
      refine l_ireturn rfl rfl ?_
      exact ⟨rfl, _, rfl, ⟨by omega, by omega⟩⟩
    · refine l_iconst rfl ?_
      refine l_goto rfl rfl ?_
      refine l_ireturn rfl rfl ?_
      exact ⟨rfl, _, rfl, ⟨by omega, by omega⟩⟩
def md_bo_putInOrder : List rec := [(272, 273, 0, 100000)]
abbrev Q_bo_putInOrder (S : sS) : pst := fun r S1 => HI S1 ∧ FR md_bo_putInOrder S S1 ∧ (r = none ∧ (ORD S1))
set_option maxRecDepth 100000 in
theorem t_bo_putInOrder {S : sS} (hH : HI S) (d : Nat) : Mt lay0 (d + 3) m_bo_putInOrder [.ref 246] S (Q_bo_putInOrder S) := by
  refine Mt_R rfl rfl ?_
  have hF : FR md_bo_putInOrder S S := FR.rf
  have w1 : 0 ≤ Xi S 246 2 ∧ Xi S 246 2 ≤ 24 := hH.c _ _
  have C2 : ∀ (n2 : Nat) (T1 : sS) (_ : HI T1) (_ : FR md_bo_putInOrder S T1) (v1 : Int), (0 ≤ v1 ∧ v1 ≤ 24) → (v1 ≤ Xi T1 246 2) → (∀ i : Nat, (i : Int) < v1 → Xi T1 272 i < v1) → n2 = (25 - v1).toNat → Rl lay0 (d + 2) m_bo_putInOrder 2 [(0, .ref 246), (1, iv v1)] [] T1 (Q_bo_putInOrder S) := by
    intro n2
    induction n2 using Nat.strongRecOn with
    | ind n2 ih2 =>
      intro T1 hHT1 hFT1 v1 w2 w3 ho2 hm2
      have w4 : Xi T1 246 2 = Xi S 246 2 := hFT1.x _ _ rfl
      have w5 : 0 ≤ Xi T1 246 2 ∧ Xi T1 246 2 ≤ 24 := hHT1.c _ _
      have C12 : ∀ (n12 : Nat) (T2 : sS) (_ : HI T2) (_ : FR md_bo_putInOrder S T2) (v1 : Int) (v2 : Int), (0 ≤ v1 ∧ v1 ≤ 23) → (0 ≤ v2 ∧ v2 ≤ 23) → (0 ≤ v2 ∧ v2 ≤ v1) → (v1 < Xi T2 246 2) → (∀ i : Nat, (i : Int) ≤ v1 → (i : Int) ≠ v2 → Xi T2 272 i < v1) → ((25 - v1).toNat ≤ n2) → n12 = (v2 - (-1)).toNat → Rl lay0 (d + 2) m_bo_putInOrder 12 [(0, .ref 246), (1, iv v1), (2, iv v2)] [] T2 (Q_bo_putInOrder S) := by
        intro n12
        induction n12 using Nat.strongRecOn with
        | ind n12 ih12 =>
          intro T2 hHT2 hFT2 v1 v2 w6 w7 w8 w9 ho12 w10 hm12
          have w11 : Xi T2 246 2 = Xi S 246 2 := hFT2.x _ _ rfl
          have w12 : 0 ≤ Xi T2 246 2 ∧ Xi T2 246 2 ≤ 24 := hHT2.c _ _
          have C62 : ∀  (T3 : sS) (_ : HI T3) (_ : FR md_bo_putInOrder S T3) (v1 : Int) (v2 : Int), (0 ≤ v1 ∧ v1 ≤ 23) → (0 ≤ v2 ∧ v2 ≤ 23) → (0 ≤ v2 ∧ v2 ≤ v1) → (v1 < Xi T3 246 2) → (∀ i : Nat, (i : Int) ≤ v1 → (i : Int) ≠ v2 → Xi T3 272 i < v1) → ((25 - v1).toNat ≤ n2) → Rl lay0 (d + 2) m_bo_putInOrder 62 [(0, .ref 246), (1, iv v1), (2, iv v2)] [] T3 (Q_bo_putInOrder S) := by
            intro T3 hHT3 hFT3 v1 v2 w13 w14 w15 w16 ho62 w17
            have w18 : Xi T3 246 2 = Xi S 246 2 := hFT3.x _ _ rfl
            have w19 : 0 ≤ Xi T3 246 2 ∧ Xi T3 246 2 ≤ 24 := hHT3.c _ _
            refine l_aload_n rfl rfl ?_
            refine l_gfr rfl rfl rfl rfl rfl (hHT3.r 246 3 272 rfl) ?_
            refine l_iload_n rfl rfl ?_
            refine l_iload_n rfl rfl ?_
            refine l_iastore (n := 24) rfl rfl (by omega) (by omega) (by unfold rg; omega) ?_
            obtain ⟨U4, eU4⟩ : ∃ T : sS, T = uI T3 272 ((v2).toNat) (Int32.ofInt v1) := ⟨_, rfl⟩
            rw [← eU4]
            have hHU4 : HI U4 := by rw [eU4]; exact HI_w hHT3 (show 0 ≤ v1 by omega) (show v1 ≤ 23 by omega)
            have hFU4 : FR md_bo_putInOrder S U4 := by rw [eU4]; exact FR.wI hFT3 (mdf_i (r := (272, 273, 0, 100000)) (List.mem_of_getElem? (i := 0) rfl) (inR_i (by omega) (by omega) (by omega) (by omega)))
            have w20 : Xi U4 272 ((v2).toNat) = v1 := by rw [eU4]; exact Xi_same (by unfold rg; omega)
            refine l_iinc rfl rfl rfl rfl ?_
            refine l_goto rfl rfl ?_
            have w21 : Xi U4 246 2 = Xi T3 246 2 := (show Xi U4 246 2 = Xi T3 246 2 from by rw [eU4]; exact Xi_ne (by omega))
            have w22 : 0 ≤ Xi T3 246 2 ∧ Xi T3 246 2 ≤ 24 := hHT3.c _ _
            exact Rl_weak (ih2 _ (by omega) U4 hHU4 hFU4 ((v1 + 1)) (by omega) (by omega) (by first | (intro i hi; omega) | exact ord_put eU4 ho62 (by omega) (by omega)) rfl) (And.intro rfl (And.intro rfl (True.intro)))
          refine l_iload_n rfl rfl ?_
          refine l_if_le rfl rfl (by unfold rg; omega) (fun w23 => ?_) (fun w24 => ?_)
          · have w25 : 0 ≤ Xi T2 246 2 ∧ Xi T2 246 2 ≤ 24 := hHT2.c _ _
            exact Rl_weak (C62 T2 hHT2 hFT2 (v1) (v2) (by omega) (by omega) (by omega) (by omega) (by first | assumption | omega) (by omega)) (And.intro rfl (And.intro rfl (And.intro rfl (True.intro))))
          · refine l_aload_n rfl rfl ?_
            refine l_aload_n rfl rfl ?_
            refine l_gfr rfl rfl rfl rfl rfl (hHT2.r 246 1 247 rfl) ?_
            refine l_iload_n rfl rfl ?_
            refine l_aaload (n := 24) (a := 248 + (v1).toNat) rfl rfl (by decide) (by omega) (by omega) (by unfold rg; omega) (RW_247 hHT2 (by omega)) ?_
            refine l_aload_n rfl rfl ?_
            refine l_gfr rfl rfl rfl rfl rfl (hHT2.r 246 1 247 rfl) ?_
            refine l_aload_n rfl rfl ?_
            refine l_gfr rfl rfl rfl rfl rfl (hHT2.r 246 3 272 rfl) ?_
            refine l_iload_n rfl rfl ?_
            refine l_iconst rfl ?_
            refine l_isub rfl ?_
            refine l_iaload (n := 24) rfl rfl (by omega) (by omega) (by unfold rg; omega) ?_
            have w26 : 0 ≤ (Xi T2 272 (((v2 - 1)).toNat)) ∧ (Xi T2 272 (((v2 - 1)).toNat)) ≤ 23 := hHT2.c _ _
            refine l_aaload (n := 24) (a := 248 + ((Xi T2 272 (((v2 - 1)).toNat))).toNat) rfl rfl (by decide) (by omega) (by omega) (by unfold rg; omega) (RW_247 hHT2 (by omega)) ?_
            refine l_callV rfl rfl rfl (t_bo_comesFirst hHT2 ((v1).toNat) (((Xi T2 272 (((v2 - 1)).toNat))).toNat) (by omega) (by omega) _) ?_
            rintro _ _ ⟨rfl, z27, rfl, w27⟩
            show Rl _ _ _ _ _ [iv z27] _ _
            refine l_if_eq rfl rfl (by unfold rg; omega) (fun w28 => ?_) (fun w29 => ?_)
            · have w30 : 0 ≤ Xi T2 246 2 ∧ Xi T2 246 2 ≤ 24 := hHT2.c _ _
              exact Rl_weak (C62 T2 hHT2 hFT2 (v1) (v2) (by omega) (by omega) (by omega) (by omega) (by first | assumption | omega) (by omega)) (And.intro rfl (And.intro rfl (And.intro rfl (True.intro))))
            · refine l_aload_n rfl rfl ?_
              refine l_gfr rfl rfl rfl rfl rfl (hHT2.r 246 3 272 rfl) ?_
              refine l_iload_n rfl rfl ?_
              refine l_aload_n rfl rfl ?_
              refine l_gfr rfl rfl rfl rfl rfl (hHT2.r 246 3 272 rfl) ?_
              refine l_iload_n rfl rfl ?_
              refine l_iconst rfl ?_
              refine l_isub rfl ?_
              refine l_iaload (n := 24) rfl rfl (by omega) (by omega) (by unfold rg; omega) ?_
              refine l_iastore (n := 24) rfl rfl (by omega) (by omega) (by unfold rg; omega) ?_
              obtain ⟨U5, eU5⟩ : ∃ T : sS, T = uI T2 272 ((v2).toNat) (Int32.ofInt (Xi T2 272 (((v2 - 1)).toNat))) := ⟨_, rfl⟩
              rw [← eU5]
              have hHU5 : HI U5 := by rw [eU5]; exact HI_w hHT2 (show 0 ≤ (Xi T2 272 (((v2 - 1)).toNat)) by omega) (show (Xi T2 272 (((v2 - 1)).toNat)) ≤ 23 by omega)
              have hFU5 : FR md_bo_putInOrder S U5 := by rw [eU5]; exact FR.wI hFT2 (mdf_i (r := (272, 273, 0, 100000)) (List.mem_of_getElem? (i := 0) rfl) (inR_i (by omega) (by omega) (by omega) (by omega)))
              have w31 : Xi U5 272 ((v2).toNat) = (Xi T2 272 (((v2 - 1)).toNat)) := by rw [eU5]; exact Xi_same (by unfold rg; omega)
              refine l_iinc rfl rfl rfl rfl ?_
              refine l_goto rfl rfl ?_
              have w32 : Xi U5 246 2 = Xi T2 246 2 := (show Xi U5 246 2 = Xi T2 246 2 from by rw [eU5]; exact Xi_ne (by omega))
              have w33 : 0 ≤ Xi T2 246 2 ∧ Xi T2 246 2 ≤ 24 := hHT2.c _ _
              exact Rl_weak (ih12 _ (by omega) U5 hHU5 hFU5 (v1) ((v2 + (-1))) (by omega) (by omega) (by omega) (by omega) (by first | exact ord_in ho2 | exact ord_mv eU5 ho12 (by omega) (by omega)) (by omega) rfl) (And.intro rfl (And.intro rfl (And.intro rfl (True.intro))))
      refine l_iload_n rfl rfl ?_
      refine l_aload_n rfl rfl ?_
      refine l_gfi rfl rfl rfl rfl rfl ?_
      refine l_icmp_ge rfl rfl (by unfold rg; omega) (by unfold rg; omega) (fun w34 => ?_) (fun w35 => ?_)
      · refine l_return rfl rfl ?_
        exact ⟨hHT1, hFT1, rfl, (ord_end ho2 (by omega))⟩
      · refine l_iload_n rfl rfl ?_
        refine l_istore_n rfl rfl rfl ?_
        have w36 : 0 ≤ Xi T1 246 2 ∧ Xi T1 246 2 ≤ 24 := hHT1.c _ _
        exact Rl_weak (C12 _ T1 hHT1 hFT1 (v1) (v1) (by omega) (by omega) (by omega) (by omega) (by first | exact ord_in ho2 | exact ord_mv rfl ho12 (by omega) (by omega)) (by omega) rfl) (And.intro rfl (And.intro rfl (And.intro rfl (True.intro))))
  refine l_iconst rfl ?_
  refine l_istore_n rfl rfl rfl ?_
  have w37 : 0 ≤ Xi S 246 2 ∧ Xi S 246 2 ≤ 24 := hH.c _ _
  exact Rl_weak (C2 _ S hH hF (0) (by omega) (by omega) (by first | (intro i hi; omega) | exact ord_put rfl ho62 (by omega) (by omega)) rfl) (And.intro rfl (And.intro rfl (True.intro)))

