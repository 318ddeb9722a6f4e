/-! SAFETY of methods: printed by wip/safe (vc.py, decl.py) -/
def md_re_startAgain : List rec := [(891, 892, 10, 11)]
abbrev Q_re_startAgain (S : sS) : pst := fun r S1 => HI S1 ∧ FR md_re_startAgain S S1 ∧ (r = none)
set_option maxRecDepth 100000 in
theorem t_re_startAgain {S : sS} (hH : HI S) (d : Nat) : Mt lay0 (d + 1) m_re_startAgain [.ref 891] S (Q_re_startAgain S) := by
  refine Mt_R rfl rfl ?_
  have hF : FR md_re_startAgain S S := FR.rf
  refine l_aload_n rfl rfl ?_
  refine l_iconst rfl ?_
  refine l_pfi rfl rfl rfl rfl ?_
  obtain ⟨U1, eU1⟩ : ∃ T : sS, T = uI S 891 10 (Int32.ofInt (-1)) := ⟨_, rfl⟩
  rw [← eU1]
  have hHU1 : HI U1 := by rw [eU1]; exact HI_w hH (show -1 ≤ (-1) by omega) (show (-1) ≤ 23 by omega)
  have hFU1 : FR md_re_startAgain S U1 := by rw [eU1]; exact FR.wI hF (mdf_i (r := (891, 892, 10, 11)) (List.mem_of_getElem? (i := 0) rfl) (inR_i (by omega) (by omega) (by omega) (by omega)))
  have w1 : Xi U1 891 10 = (-1) := by rw [eU1]; exact Xi_same (by unfold rg; omega)
  refine l_return rfl rfl ?_
  exact ⟨hHU1, hFU1, rfl⟩
def md_me_startSelf : List rec := [(895, 896, 3, 4), (895, 896, 4, 5)]
abbrev Q_me_startSelf (S : sS) (key : Int) (kind : Int) : pst := fun r S1 => HI S1 ∧ FR md_me_startSelf S S1 ∧ (r = none ∧ (Xi S1 895 3 = key ∧ Xi S1 895 4 = kind))
set_option maxRecDepth 100000 in
theorem t_me_startSelf {S : sS} (hH : HI S) (key : Int) (kind : Int) (hkey : -2147483648 ≤ key ∧ key ≤ 2147483647) (hkind : -1 ≤ kind ∧ kind ≤ 15) (d : Nat) : Mt lay0 (d + 1) m_me_startSelf [.ref 895, iv key, iv kind] S (Q_me_startSelf S key kind) := by
  refine Mt_R rfl rfl ?_
  have hF : FR md_me_startSelf S S := FR.rf
  refine l_aload_n rfl rfl ?_
  refine l_iload_n rfl rfl ?_
  refine l_pfi rfl rfl rfl rfl ?_
  obtain ⟨U1, eU1⟩ : ∃ T : sS, T = uI S 895 3 (Int32.ofInt key) := ⟨_, rfl⟩
  rw [← eU1]
  have hHU1 : HI U1 := by rw [eU1]; exact HI_any hH (rfl)
  have hFU1 : FR md_me_startSelf S U1 := by rw [eU1]; exact FR.wI hF (mdf_i (r := (895, 896, 3, 4)) (List.mem_of_getElem? (i := 0) rfl) (inR_i (by omega) (by omega) (by omega) (by omega)))
  have w1 : Xi U1 895 3 = key := by rw [eU1]; exact Xi_same (by unfold rg; omega)
  refine l_aload_n rfl rfl ?_
  refine l_iload_n rfl rfl ?_
  refine l_pfi rfl rfl rfl rfl ?_
  obtain ⟨U2, eU2⟩ : ∃ T : sS, T = uI U1 895 4 (Int32.ofInt kind) := ⟨_, rfl⟩
  rw [← eU2]
  have hHU2 : HI U2 := by rw [eU2]; exact HI_w hHU1 (show -1 ≤ kind by omega) (show kind ≤ 15 by omega)
  have hFU2 : FR md_me_startSelf S U2 := by rw [eU2]; exact FR.wI hFU1 (mdf_i (r := (895, 896, 4, 5)) (List.mem_of_getElem? (i := 1) rfl) (inR_i (by omega) (by omega) (by omega) (by omega)))
  have w2 : Xi U2 895 4 = kind := by rw [eU2]; exact Xi_same (by unfold rg; omega)
  refine l_return rfl rfl ?_
  have w3 : Xi U2 895 3 = Xi U1 895 3 := (show Xi U2 895 3 = Xi U1 895 3 from by rw [eU2]; exact Xi_ne (by omega))
  have w4 : -1 ≤ Xi U2 895 4 ∧ Xi U2 895 4 ≤ 15 := hHU2.c _ _
  exact ⟨hHU2, hFU2, rfl, (by first | assumption | omega)⟩
abbrev Q_rr_sortOfRule (S : sS) (s : Int) : pst := fun r S1 => S = S1 ∧ (∃ z : Int, r = some (iv z) ∧ (0 ≤ z ∧ z ≤ 3))
set_option maxRecDepth 100000 in
theorem t_rr_sortOfRule {S : sS} (hH : HI S) (s : Int) (hs : -2147483648 ≤ s ∧ s ≤ 2147483647) (d : Nat) : Mt lay0 (d + 1) m_rr_sortOfRule [iv s] S (Q_rr_sortOfRule S s) := by
  refine Mt_R rfl rfl ?_
  refine l_iload_n rfl rfl ?_
  refine l_tsw rfl rfl rfl rfl (by unfold rg; omega) (fun w1 => ?_) (fun ii tt hii w1 => ?_)
  · refine l_iconst rfl ?_
    refine l_ireturn rfl rfl ?_
    exact ⟨rfl, _, rfl, ⟨by omega, by omega⟩⟩
  · match ii, hii with
    | 0, hii =>
      cases hii
      have w2 : s = 3 := by simpa using w1
      refine l_iconst rfl ?_
      refine l_ireturn rfl rfl ?_
      exact ⟨rfl, _, rfl, ⟨by omega, by omega⟩⟩
    | 1, hii =>
      cases hii
      have w3 : s = 4 := by simpa using w1
      refine l_iconst rfl ?_
      refine l_ireturn rfl rfl ?_
      exact ⟨rfl, _, rfl, ⟨by omega, by omega⟩⟩
    | 2, hii =>
      cases hii
      have w4 : s = 5 := by simpa using w1
      refine l_iconst rfl ?_
      refine l_ireturn rfl rfl ?_
      exact ⟨rfl, _, rfl, ⟨by omega, by omega⟩⟩
    | n + 3, hii => exact absurd hii (by simp)
abbrev Q_rr_wayOf (S : sS) (key : Int) : pst := fun r S1 => S = S1 ∧ (∃ z : Int, r = some (iv z) ∧ (1 ≤ z ∧ z ≤ 5))
set_option maxRecDepth 100000 in
theorem t_rr_wayOf {S : sS} (hH : HI S) (key : Int) (hkey : -2147483648 ≤ key ∧ key ≤ 2147483647) (d : Nat) : Mt lay0 (d + 1) m_rr_wayOf [iv key] S (Q_rr_wayOf S key) := by
  refine Mt_R rfl rfl ?_
  refine l_iload_n rfl rfl ?_
  refine l_lsw rfl rfl (by unfold rg; omega) ?_
  refine And.intro (fun w1 => ⟨_, rfl, ?_⟩) (fun w2 => ?_)
  · refine l_iconst rfl ?_
    refine l_ireturn rfl rfl ?_
    exact ⟨rfl, _, rfl, ⟨by omega, by omega⟩⟩
  refine And.intro (fun w3 => ⟨_, rfl, ?_⟩) (fun w4 => ?_)
  · refine l_iconst rfl ?_
    refine l_ireturn rfl rfl ?_
    exact ⟨rfl, _, rfl, ⟨by omega, by omega⟩⟩
  refine And.intro (fun w5 => ⟨_, rfl, ?_⟩) (fun w6 => ?_)
  · refine l_iconst rfl ?_
    refine l_ireturn rfl rfl ?_
    exact ⟨rfl, _, rfl, ⟨by omega, by omega⟩⟩
  refine And.intro (fun w7 => ⟨_, rfl, ?_⟩) (fun w8 => ?_)
  · refine l_iconst rfl ?_
    refine l_ireturn rfl rfl ?_
    exact ⟨rfl, _, rfl, ⟨by omega, by omega⟩⟩
  refine ⟨_, rfl, ?_⟩
  refine l_iconst rfl ?_
  refine l_ireturn rfl rfl ?_
  exact ⟨rfl, _, rfl, ⟨by omega, by omega⟩⟩
abbrev Q_rr_whenEnd (S : sS) : pst := fun r S1 => S = S1 ∧ (∃ z : Int, r = some (iv z) ∧ (-1 ≤ z ∧ z ≤ 5132))
set_option maxRecDepth 100000 in
theorem t_rr_whenEnd {S : sS} (hH : HI S) (d : Nat) : Mt lay0 (d + 2) m_rr_whenEnd [.ref 899] S (Q_rr_whenEnd S) := by
  refine Mt_R rfl rfl ?_
  refine l_aload_n rfl rfl ?_
  refine l_gfr rfl rfl rfl rfl rfl (hH.r 899 0 876 rfl) ?_
  refine l_aload_n rfl rfl ?_
  refine l_gfi rfl rfl rfl rfl rfl ?_
  have w1 : -1 ≤ (Xi S 899 5) ∧ (Xi S 899 5) ≤ 5131 := hH.c _ _
  have w2 : 0 ≤ Xi S 876 7 ∧ Xi S 876 7 ≤ 5125 := hH.c _ _
  refine l_callV rfl rfl rfl (t_to_typeAt hH (Xi S 899 5) ⟨by omega, by omega⟩ _) ?_
  rintro _ _ ⟨rfl, z6, rfl, w6, w3, w4, w5⟩
  show Rl _ _ _ _ _ [iv z6] _ _
  refine l_bipush rfl rfl ?_
  refine l_icmp_ne rfl rfl (by unfold rg; omega) (by unfold rg; omega) (fun w7 => ?_) (fun w8 => ?_)
  · refine l_iconst rfl ?_
    refine l_ireturn rfl rfl ?_
    exact ⟨rfl, _, rfl, ⟨by omega, by omega⟩⟩
  · refine l_aload_n rfl rfl ?_
    refine l_gfi rfl rfl rfl rfl rfl ?_
    refine l_iconst rfl ?_
    refine l_iadd rfl ?_
    refine l_goto rfl rfl ?_
    refine l_ireturn rfl rfl ?_
    exact ⟨rfl, _, rfl, ⟨by omega, by omega⟩⟩
abbrev Q_co_wordEnd (S : sS) (t : Nat) (from_ : Int) (to : Int) : pst := fun r S1 => S = S1 ∧ (∃ z : Int, r = some (iv z) ∧ (0 ≤ z ∧ z ≤ 5000) ∧ (from_ ≤ z ∧ (z ≤ to ∨ z = from_)))
set_option maxRecDepth 100000 in
theorem t_co_wordEnd {S : sS} (hH : HI S) (t : Nat) (from_ : Int) (to : Int) (ht : tp t) (hfrom_ : 0 ≤ from_ ∧ from_ ≤ 5000) (hto : 0 ≤ to ∧ to ≤ 5000) (d : Nat) : Mt lay0 (d + 2) m_co_wordEnd [.ref t, iv from_, iv to] S (Q_co_wordEnd S t from_ to) := by
  refine Mt_R rfl rfl ?_
  have C2 : ∀ (n2 : Nat) (v3 : Int), (0 ≤ v3 ∧ v3 ≤ 5000) → (from_ ≤ v3 ∧ (v3 ≤ to ∨ v3 = from_)) → n2 = (5001 - v3).toNat → Rl lay0 (d + 1) m_co_wordEnd 2 [(0, .ref t), (2, iv to), (3, iv v3)] [] S (Q_co_wordEnd S t from_ to) := by
    intro n2
    induction n2 using Nat.strongRecOn with
    | ind n2 ih2 =>
      intro v3 w1 w2 hm2
      have C22 : ∀  (v3 : Int), (0 ≤ v3 ∧ v3 ≤ 5000) → (from_ ≤ v3 ∧ (v3 ≤ to ∨ v3 = from_)) → Rl lay0 (d + 1) m_co_wordEnd 22 [(3, iv v3)] [] S (Q_co_wordEnd S t from_ to) := by
        intro v3 w3 w4
        refine l_iload_n rfl rfl ?_
        refine l_ireturn rfl rfl ?_
        exact ⟨rfl, _, rfl, ⟨by omega, by omega⟩, (by first | assumption | omega)⟩
      refine l_iload_n rfl rfl ?_
      refine l_iload_n rfl rfl ?_
      refine l_icmp_ge rfl rfl (by unfold rg; omega) (by unfold rg; omega) (fun w5 => ?_) (fun w6 => ?_)
      · exact Rl_weak (C22 (v3) (by omega) (by omega)) (And.intro rfl (True.intro))
      · refine l_aload_n rfl rfl ?_
        refine l_iload_n rfl rfl ?_
        refine l_baload (n := 5000) rfl (tp_sv (by assumption)) (lay_tp (by assumption)) (by decide) (by omega) (by omega) (by unfold rg; omega) ?_
        have w7 : -128 ≤ (Xi S t ((v3).toNat)) ∧ (Xi S t ((v3).toNat)) ≤ 127 := tpc hH (by assumption)
        refine l_callS rfl rfl (by decide) rfl (t_rs_letterOf hH (Xi S t ((v3).toNat)) ⟨by omega, by omega⟩ _) ?_
        rintro _ _ ⟨rfl, z8, rfl, w8⟩
        show Rl _ _ _ _ _ [iv z8] _ _
        refine l_if_le rfl rfl (by unfold rg; omega) (fun w9 => ?_) (fun w10 => ?_)
        · exact Rl_weak (C22 (v3) (by omega) (by omega)) (And.intro rfl (True.intro))
        · refine l_iinc rfl rfl rfl rfl ?_
          refine l_goto rfl rfl ?_
          exact Rl_weak (ih2 _ (by omega) ((v3 + 1)) (by omega) (by omega) rfl) (And.intro rfl (And.intro rfl (And.intro rfl (True.intro))))
  refine l_iload_n rfl rfl ?_
  refine l_istore_n rfl rfl rfl ?_
  exact Rl_weak (C2 _ (from_) (by omega) (by omega) rfl) (And.intro rfl (And.intro rfl (And.intro rfl (True.intro))))
abbrev Q_co_codeOf (S : sS) (t : Nat) (from_ : Int) (to : Int) : pst := fun r S1 => S = S1 ∧ (∃ z : Int, r = some (jw z))
set_option maxRecDepth 100000 in
theorem t_co_codeOf {S : sS} (hH : HI S) (t : Nat) (from_ : Int) (to : Int) (ht : tp t) (hfrom_ : 0 ≤ from_ ∧ from_ ≤ 5000) (hto : 0 ≤ to ∧ to ≤ 5000) (d : Nat) : Mt lay0 (d + 2) m_co_codeOf [.ref t, iv from_, iv to] S (Q_co_codeOf S t from_ to) := by
  refine Mt_R rfl rfl ?_
  have C5 : ∀ (n5 : Nat) (v3 : Int) (v5 : Int), (0 ≤ v5 ∧ v5 ≤ 5000) → n5 = (5001 - v5).toNat → Rl lay0 (d + 1) m_co_codeOf 5 [(0, .ref t), (1, iv from_), (2, iv to), (3, jw v3), (5, iv v5)] [] S (Q_co_codeOf S t from_ to) := by
    intro n5
    induction n5 using Nat.strongRecOn with
    | ind n5 ih5 =>
      intro v3 v5 w1 hm5
      refine l_iload rfl rfl ?_
      refine l_iload_n rfl rfl ?_
      refine l_icmp_ge rfl rfl (by unfold rg; omega) (by unfold rg; omega) (fun w2 => ?_) (fun w3 => ?_)
      · refine l_lload_n rfl rfl ?_
        refine l_lreturn rfl rfl ?_
        exact ⟨rfl, _, rfl⟩
      · refine l_iload rfl rfl ?_
        refine l_iload_n rfl rfl ?_
        refine l_isub rfl ?_
        refine l_bipush rfl rfl ?_
        refine l_icmp_ge rfl rfl (by unfold rg; omega) (by unfold rg; omega) (fun w4 => ?_) (fun w5 => ?_)
        · refine l_lload_n rfl rfl ?_
          refine l_lreturn rfl rfl ?_
          exact ⟨rfl, _, rfl⟩
        · refine l_lload_n rfl rfl ?_
          refine l_ldc2 (z := 27) rfl rfl ?_
          refine l_lmul rfl ?_
          refine l_aload_n rfl rfl ?_
          refine l_iload rfl rfl ?_
          refine l_baload (n := 5000) rfl (tp_sv (by assumption)) (lay_tp (by assumption)) (by decide) (by omega) (by omega) (by unfold rg; omega) ?_
          have w6 : -128 ≤ (Xi S t ((v5).toNat)) ∧ (Xi S t ((v5).toNat)) ≤ 127 := tpc hH (by assumption)
          refine l_callS rfl rfl (by decide) rfl (t_rs_letterOf hH (Xi S t ((v5).toNat)) ⟨by omega, by omega⟩ _) ?_
          rintro _ _ ⟨rfl, z7, rfl, w7⟩
          show Rl _ _ _ _ _ [iv z7, jw (v3 * 27)] _ _
          refine l_i2l rfl (by unfold rg; omega) ?_
          refine l_ladd rfl ?_
          refine l_lstore_n rfl rfl rfl rfl ?_
          refine l_iinc rfl rfl rfl rfl ?_
          refine l_goto rfl rfl ?_
          exact Rl_weak (ih5 _ (by omega) (((v3 * 27) + z7)) ((v5 + 1)) (by omega) rfl) (And.intro rfl (And.intro rfl (And.intro rfl (And.intro rfl (And.intro rfl (True.intro))))))
  refine l_lconst (z := 0) rfl rfl ?_
  refine l_lstore_n rfl rfl rfl rfl ?_
  refine l_iload_n rfl rfl ?_
  refine l_istore rfl rfl rfl ?_
  exact Rl_weak (C5 _ (0) (from_) (by omega) rfl) (And.intro rfl (And.intro rfl (And.intro rfl (And.intro rfl (And.intro rfl (True.intro))))))
def md_co_takeTyped : List rec := [(882, 883, 12, 13), (889, 890, 0, 100000)]
abbrev Q_co_takeTyped (S : sS) (t : Nat) (length : Int) : pst := fun r S1 => HI S1 ∧ FR md_co_takeTyped S S1 ∧ (∃ z : Int, r = some (iv z) ∧ (0 ≤ z ∧ z ≤ 1))
set_option maxRecDepth 100000 in
theorem t_co_takeTyped {S : sS} (hH : HI S) (t : Nat) (length : Int) (ht : tp t) (hlength : 0 ≤ length ∧ length ≤ 5000) (d : Nat) : Mt lay0 (d + 3) m_co_takeTyped [.ref 882, .ref t, iv length] S (Q_co_takeTyped S t length) := by
  refine Mt_R rfl rfl ?_
  have hF : FR md_co_takeTyped S S := FR.rf
  have C7 : ∀ (n7 : Nat) (T1 : sS) (_ : HI T1) (_ : FR md_co_takeTyped S T1) (v3 : Int), (0 ≤ v3 ∧ v3 ≤ 5000) → (v3 ≤ length) → n7 = (5001 - v3).toNat → Rl lay0 (d + 2) m_co_takeTyped 7 [(0, .ref 882), (1, .ref t), (2, iv length), (3, iv v3)] [] T1 (Q_co_takeTyped S t length) := by
    intro n7
    induction n7 using Nat.strongRecOn with
    | ind n7 ih7 =>
      intro T1 hHT1 hFT1 v3 w1 w2 hm7
      refine l_iload_n rfl rfl ?_
      refine l_iload_n rfl rfl ?_
      refine l_icmp_ge rfl rfl (by unfold rg; omega) (by unfold rg; omega) (fun w3 => ?_) (fun w4 => ?_)
      · refine l_iconst rfl ?_
        refine l_ireturn rfl rfl ?_
        exact ⟨hHT1, hFT1, _, rfl, ⟨by omega, by omega⟩⟩
      · refine l_aload_n rfl rfl ?_
        refine l_iload_n rfl rfl ?_
        refine l_baload (n := 5000) rfl (tp_sv (by assumption)) (lay_tp (by assumption)) (by decide) (by omega) (by omega) (by unfold rg; omega) ?_
        have w5 : -128 ≤ (Xi T1 t ((v3).toNat)) ∧ (Xi T1 t ((v3).toNat)) ≤ 127 := tpc hHT1 (by assumption)
        refine l_bipush rfl rfl ?_
        refine l_icmp_ne rfl rfl (by unfold rg; omega) (by unfold rg; omega) (fun w6 => ?_) (fun w7 => ?_)
        · refine l_aload_n rfl rfl ?_
          refine l_iload_n rfl rfl ?_
          refine l_iload_n rfl rfl ?_
          refine l_callS rfl rfl (by decide) rfl (t_co_wordEnd hHT1 t v3 length ht ⟨by omega, by omega⟩ ⟨by omega, by omega⟩ _) ?_
          rintro _ _ ⟨rfl, z9, rfl, w9, w8⟩
          show Rl _ _ _ _ _ [iv z9] _ _
          refine l_istore rfl rfl rfl ?_
          refine l_iload rfl rfl ?_
          refine l_iload_n rfl rfl ?_
          refine l_icmp_eq rfl rfl (by unfold rg; omega) (by unfold rg; omega) (fun w10 => ?_) (fun w11 => ?_)
          · refine l_iconst rfl ?_
            refine l_ireturn rfl rfl ?_
            exact ⟨hHT1, hFT1, _, rfl, ⟨by omega, by omega⟩⟩
          · refine l_aload_n rfl rfl ?_
            refine l_gfi rfl rfl rfl rfl rfl ?_
            have w12 : 0 ≤ (Xi T1 882 12) ∧ (Xi T1 882 12) ≤ 50 := hHT1.c _ _
            refine l_bipush rfl rfl ?_
            refine l_icmp_ne rfl rfl (by unfold rg; omega) (by unfold rg; omega) (fun w13 => ?_) (fun w14 => ?_)
            · refine l_aload_n rfl rfl ?_
              refine l_gfr rfl rfl rfl rfl rfl (hHT1.r 882 11 889 rfl) ?_
              refine l_aload_n rfl rfl ?_
              refine l_gfi rfl rfl rfl rfl rfl ?_
              refine l_iload rfl rfl ?_
              refine l_iload_n rfl rfl ?_
              refine l_isub rfl ?_
              refine l_bipush rfl rfl ?_
              refine l_icmp_le rfl rfl (by unfold rg; omega) (by unfold rg; omega) (fun w15 => ?_) (fun w16 => ?_)
              · refine l_aload_n rfl rfl ?_
                refine l_iload_n rfl rfl ?_
                refine l_iload rfl rfl ?_
                refine l_callS rfl rfl (by decide) rfl (t_co_codeOf hHT1 t v3 z9 ht ⟨by omega, by omega⟩ ⟨by omega, by omega⟩ _) ?_
                rintro _ _ ⟨rfl, z17, rfl⟩
                show Rl _ _ _ _ _ [jw z17, iv (Xi T1 882 12), .ref 889] _ _
                refine l_lastore (n := 50) rfl rfl (by omega) (by omega) (by unfold rg; omega) ?_
                obtain ⟨U2, eU2⟩ : ∃ T : sS, T = uJ T1 889 (((Xi T1 882 12)).toNat) (Int64.ofInt z17) := ⟨_, rfl⟩
                rw [← eU2]
                have hHU2 : HI U2 := by rw [eU2]; exact HI_J hHT1
                have hFU2 : FR md_co_takeTyped S U2 := by rw [eU2]; exact FR.wJ hFT1 (mdf_i (r := (889, 890, 0, 100000)) (List.mem_of_getElem? (i := 1) rfl) (inR_i (by omega) (by omega) (by omega) (by omega)))
                refine l_aload_n rfl rfl ?_
                refine l_dup rfl rfl ?_
                refine l_gfi rfl rfl rfl rfl rfl ?_
                have w18 : (Xi U2 882 12) = (Xi T1 882 12) := (show Xi U2 882 12 = Xi T1 882 12 from by rw [eU2]; rfl)
                rw [w18]
                refine l_iconst rfl ?_
                refine l_iadd rfl ?_
                refine l_pfi rfl rfl rfl rfl ?_
                obtain ⟨U3, eU3⟩ : ∃ T : sS, T = uI U2 882 12 (Int32.ofInt ((Xi T1 882 12) + 1)) := ⟨_, rfl⟩
                rw [← eU3]
                have hHU3 : HI U3 := by rw [eU3]; exact HI_w hHU2 (show 0 ≤ ((Xi T1 882 12) + 1) by omega) (show ((Xi T1 882 12) + 1) ≤ 50 by omega)
                have hFU3 : FR md_co_takeTyped S U3 := by rw [eU3]; exact FR.wI hFU2 (mdf_i (r := (882, 883, 12, 13)) (List.mem_of_getElem? (i := 0) rfl) (inR_i (by omega) (by omega) (by omega) (by omega)))
                have w19 : Xi U3 882 12 = ((Xi T1 882 12) + 1) := by rw [eU3]; exact Xi_same (by unfold rg; omega)
                refine l_iload rfl rfl ?_
                refine l_istore_n rfl rfl rfl ?_
                refine l_goto rfl rfl ?_
                exact Rl_weak (ih7 _ (by omega) U3 hHU3 hFU3 (z9) (by omega) (by omega) rfl) (And.intro rfl (And.intro rfl (And.intro rfl (And.intro rfl (True.intro)))))
              · refine l_ldc2 (z := (-1)) rfl rfl ?_
                refine l_goto rfl rfl ?_
                refine l_lastore (n := 50) rfl rfl (by omega) (by omega) (by unfold rg; omega) ?_
                obtain ⟨U4, eU4⟩ : ∃ T : sS, T = uJ T1 889 (((Xi T1 882 12)).toNat) (Int64.ofInt (-1)) := ⟨_, rfl⟩
                rw [← eU4]
                have hHU4 : HI U4 := by rw [eU4]; exact HI_J hHT1
                have hFU4 : FR md_co_takeTyped S U4 := by rw [eU4]; exact FR.wJ hFT1 (mdf_i (r := (889, 890, 0, 100000)) (List.mem_of_getElem? (i := 1) rfl) (inR_i (by omega) (by omega) (by omega) (by omega)))
                refine l_aload_n rfl rfl ?_
                refine l_dup rfl rfl ?_
                refine l_gfi rfl rfl rfl rfl rfl ?_
                have w20 : (Xi U4 882 12) = (Xi T1 882 12) := (show Xi U4 882 12 = Xi T1 882 12 from by rw [eU4]; rfl)
                rw [w20]
                refine l_iconst rfl ?_
                refine l_iadd rfl ?_
                refine l_pfi rfl rfl rfl rfl ?_
                obtain ⟨U5, eU5⟩ : ∃ T : sS, T = uI U4 882 12 (Int32.ofInt ((Xi T1 882 12) + 1)) := ⟨_, rfl⟩
                rw [← eU5]
                have hHU5 : HI U5 := by rw [eU5]; exact HI_w hHU4 (show 0 ≤ ((Xi T1 882 12) + 1) by omega) (show ((Xi T1 882 12) + 1) ≤ 50 by omega)
                have hFU5 : FR md_co_takeTyped S U5 := by rw [eU5]; exact FR.wI hFU4 (mdf_i (r := (882, 883, 12, 13)) (List.mem_of_getElem? (i := 0) rfl) (inR_i (by omega) (by omega) (by omega) (by omega)))
                have w21 : Xi U5 882 12 = ((Xi T1 882 12) + 1) := by rw [eU5]; exact Xi_same (by unfold rg; omega)
                refine l_iload rfl rfl ?_
                refine l_istore_n rfl rfl rfl ?_
                refine l_goto rfl rfl ?_
                exact Rl_weak (ih7 _ (by omega) U5 hHU5 hFU5 (z9) (by omega) (by omega) rfl) (And.intro rfl (And.intro rfl (And.intro rfl (And.intro rfl (True.intro)))))
            · refine l_iconst rfl ?_
              refine l_ireturn rfl rfl ?_
              exact ⟨hHT1, hFT1, _, rfl, ⟨by omega, by omega⟩⟩
        · refine l_iinc rfl rfl rfl rfl ?_
          refine l_goto rfl rfl ?_
          exact Rl_weak (ih7 _ (by omega) T1 hHT1 hFT1 ((v3 + 1)) (by omega) (by omega) rfl) (And.intro rfl (And.intro rfl (And.intro rfl (And.intro rfl (True.intro)))))
  refine l_iconst rfl ?_
  refine l_istore_n rfl rfl rfl ?_
  refine l_aload_n rfl rfl ?_
  refine l_iconst rfl ?_
  refine l_pfi rfl rfl rfl rfl ?_
  obtain ⟨U6, eU6⟩ : ∃ T : sS, T = uI S 882 12 (Int32.ofInt 0) := ⟨_, rfl⟩
  rw [← eU6]
  have hHU6 : HI U6 := by rw [eU6]; exact HI_w hH (show 0 ≤ 0 by omega) (show 0 ≤ 50 by omega)
  have hFU6 : FR md_co_takeTyped S U6 := by rw [eU6]; exact FR.wI hF (mdf_i (r := (882, 883, 12, 13)) (List.mem_of_getElem? (i := 0) rfl) (inR_i (by omega) (by omega) (by omega) (by omega)))
  have w22 : Xi U6 882 12 = 0 := by rw [eU6]; exact Xi_same (by unfold rg; omega)
  exact Rl_weak (C7 _ U6 hHU6 hFU6 (0) (by omega) (by omega) rfl) (And.intro rfl (And.intro rfl (And.intro rfl (And.intro rfl (True.intro)))))
def md_co_takeGap : List rec := [(882, 883, 10, 11), (888, 889, 0, 100000)]
abbrev Q_co_takeGap (S : sS) (t : Nat) (from_ : Int) (to : Int) : pst := fun r S1 => HI S1 ∧ FR md_co_takeGap S S1 ∧ (∃ z : Int, r = some (iv z) ∧ (-1 ≤ z ∧ z ≤ 5000) ∧ (z = -1 ∨ (from_ < z ∧ z ≤ to)))
set_option maxRecDepth 100000 in
theorem t_co_takeGap {S : sS} (hH : HI S) (t : Nat) (from_ : Int) (to : Int) (ht : tp t) (hfrom_ : 0 ≤ from_ ∧ from_ ≤ 5000) (hto : 0 ≤ to ∧ to ≤ 5000) (d : Nat) : Mt lay0 (d + 3) m_co_takeGap [.ref 882, .ref t, iv from_, iv to] S (Q_co_takeGap S t from_ to) := by
  refine Mt_R rfl rfl ?_
  have hF : FR md_co_takeGap S S := FR.rf
  have w1 : 0 ≤ Xi S 882 10 ∧ Xi S 882 10 ≤ 5000 := hH.c _ _
  have C8 : ∀ (n8 : Nat) (T1 : sS) (_ : HI T1) (_ : FR md_co_takeGap S T1) (v4 : Int), (0 ≤ v4 ∧ v4 ≤ 5000) → (from_ ≤ v4 ∧ (v4 ≤ to ∨ v4 = from_)) → (0 ≤ Xi T1 882 10 ∧ Xi T1 882 10 ≤ v4) → n8 = (5001 - v4).toNat → Rl lay0 (d + 2) m_co_takeGap 8 [(0, .ref 882), (1, .ref t), (3, iv to), (4, iv v4)] [] T1 (Q_co_takeGap S t from_ to) := by
    intro n8
    induction n8 using Nat.strongRecOn with
    | ind n8 ih8 =>
      intro T1 hHT1 hFT1 v4 w2 w3 w4 hm8
      have w5 : 0 ≤ Xi T1 882 10 ∧ Xi T1 882 10 ≤ 5000 := hHT1.c _ _
      refine l_iload rfl rfl ?_
      refine l_iload_n rfl rfl ?_
      refine l_icmp_ge rfl rfl (by unfold rg; omega) (by unfold rg; omega) (fun w6 => ?_) (fun w7 => ?_)
      · refine l_iconst rfl ?_
        refine l_ireturn rfl rfl ?_
        exact ⟨hHT1, hFT1, _, rfl, ⟨by omega, by omega⟩, (by first | assumption | omega)⟩
      · refine l_aload_n rfl rfl ?_
        refine l_iload rfl rfl ?_
        refine l_baload (n := 5000) rfl (tp_sv (by assumption)) (lay_tp (by assumption)) (by decide) (by omega) (by omega) (by unfold rg; omega) ?_
        have w8 : -128 ≤ (Xi T1 t ((v4).toNat)) ∧ (Xi T1 t ((v4).toNat)) ≤ 127 := tpc hHT1 (by assumption)
        refine l_bipush rfl rfl ?_
        refine l_icmp_ne rfl rfl (by unfold rg; omega) (by unfold rg; omega) (fun w9 => ?_) (fun w10 => ?_)
        · refine l_aload_n rfl rfl ?_
          refine l_iload rfl rfl ?_
          refine l_baload (n := 5000) rfl (tp_sv (by assumption)) (lay_tp (by assumption)) (by decide) (by omega) (by omega) (by unfold rg; omega) ?_
          refine l_bipush rfl rfl ?_
          refine l_icmp_ne rfl rfl (by unfold rg; omega) (by unfold rg; omega) (fun w11 => ?_) (fun w12 => ?_)
          · refine l_aload_n rfl rfl ?_
            refine l_iload rfl rfl ?_
            refine l_iload_n rfl rfl ?_
            refine l_callS rfl rfl (by decide) rfl (t_co_wordEnd hHT1 t v4 to ht ⟨by omega, by omega⟩ ⟨by omega, by omega⟩ _) ?_
            rintro _ _ ⟨rfl, z14, rfl, w14, w13⟩
            show Rl _ _ _ _ _ [iv z14] _ _
            refine l_istore rfl rfl rfl ?_
            refine l_aload_n rfl rfl ?_
            refine l_iload rfl rfl ?_
            refine l_iload rfl rfl ?_
            refine l_callS rfl rfl (by decide) rfl (t_co_codeOf hHT1 t v4 z14 ht ⟨by omega, by omega⟩ ⟨by omega, by omega⟩ _) ?_
            rintro _ _ ⟨rfl, z15, rfl⟩
            show Rl _ _ _ _ _ [jw z15] _ _
            refine l_lstore rfl rfl rfl rfl ?_
            refine l_iload rfl rfl ?_
            refine l_iload rfl rfl ?_
            refine l_icmp_eq rfl rfl (by unfold rg; omega) (by unfold rg; omega) (fun w16 => ?_) (fun w17 => ?_)
            · refine l_iconst rfl ?_
              refine l_ireturn rfl rfl ?_
              exact ⟨hHT1, hFT1, _, rfl, ⟨by omega, by omega⟩, (by first | assumption | omega)⟩
            · refine l_iload rfl rfl ?_
              refine l_iload rfl rfl ?_
              refine l_isub rfl ?_
              refine l_bipush rfl rfl ?_
              refine l_icmp_gt rfl rfl (by unfold rg; omega) (by unfold rg; omega) (fun w18 => ?_) (fun w19 => ?_)
              · refine l_iconst rfl ?_
                refine l_ireturn rfl rfl ?_
                exact ⟨hHT1, hFT1, _, rfl, ⟨by omega, by omega⟩, (by first | assumption | omega)⟩
              · refine l_aload_n rfl rfl ?_
                refine l_gfr rfl rfl rfl rfl rfl (hHT1.r 882 0 876 rfl) ?_
                refine l_lload rfl rfl ?_
                refine l_callV rfl rfl rfl (t_to_keyOf hHT1 z15 _) ?_
                rintro _ _ ⟨rfl, z20, rfl, w20⟩
                show Rl _ _ _ _ _ [iv z20] _ _
                refine l_bipush rfl rfl ?_
                refine l_icmp_eq rfl rfl (by unfold rg; omega) (by unfold rg; omega) (fun w21 => ?_) (fun w22 => ?_)
                · refine l_aload_n rfl rfl ?_
                  refine l_gfi rfl rfl rfl rfl rfl ?_
                  refine l_iconst rfl ?_
                  refine l_icmp_ge rfl rfl (by unfold rg; omega) (by unfold rg; omega) (fun w23 => ?_) (fun w24 => ?_)
                  · refine l_aload_n rfl rfl ?_
                    refine l_dup rfl rfl ?_
                    refine l_gfi rfl rfl rfl rfl rfl ?_
                    refine l_iconst rfl ?_
                    refine l_iadd rfl ?_
                    refine l_pfi rfl rfl rfl rfl ?_
                    obtain ⟨U2, eU2⟩ : ∃ T : sS, T = uI T1 882 10 (Int32.ofInt ((Xi T1 882 10) + 1)) := ⟨_, rfl⟩
                    rw [← eU2]
                    have hHU2 : HI U2 := by rw [eU2]; exact HI_w hHT1 (show 0 ≤ ((Xi T1 882 10) + 1) by omega) (show ((Xi T1 882 10) + 1) ≤ 5000 by omega)
                    have hFU2 : FR md_co_takeGap S U2 := by rw [eU2]; exact FR.wI hFT1 (mdf_i (r := (882, 883, 10, 11)) (List.mem_of_getElem? (i := 0) rfl) (inR_i (by omega) (by omega) (by omega) (by omega)))
                    have w25 : Xi U2 882 10 = ((Xi T1 882 10) + 1) := by rw [eU2]; exact Xi_same (by unfold rg; omega)
                    refine l_iload rfl rfl ?_
                    refine l_istore rfl rfl rfl ?_
                    refine l_goto rfl rfl ?_
                    have w26 : 0 ≤ Xi U2 882 10 ∧ Xi U2 882 10 ≤ 5000 := hHU2.c _ _
                    exact Rl_weak (ih8 _ (by omega) U2 hHU2 hFU2 (z14) (by omega) (by omega) (by omega) rfl) (And.intro rfl (And.intro rfl (And.intro rfl (And.intro rfl (True.intro)))))
                  · refine l_aload_n rfl rfl ?_
                    refine l_gfr rfl rfl rfl rfl rfl (hHT1.r 882 9 888 rfl) ?_
                    refine l_aload_n rfl rfl ?_
                    refine l_gfi rfl rfl rfl rfl rfl ?_
                    refine l_lload rfl rfl ?_
                    refine l_lastore (n := 3) rfl rfl (by omega) (by omega) (by unfold rg; omega) ?_
                    obtain ⟨U3, eU3⟩ : ∃ T : sS, T = uJ T1 888 (((Xi T1 882 10)).toNat) (Int64.ofInt z15) := ⟨_, rfl⟩
                    rw [← eU3]
                    have hHU3 : HI U3 := by rw [eU3]; exact HI_J hHT1
                    have hFU3 : FR md_co_takeGap S U3 := by rw [eU3]; exact FR.wJ hFT1 (mdf_i (r := (888, 889, 0, 100000)) (List.mem_of_getElem? (i := 1) rfl) (inR_i (by omega) (by omega) (by omega) (by omega)))
                    refine l_aload_n rfl rfl ?_
                    refine l_dup rfl rfl ?_
                    refine l_gfi rfl rfl rfl rfl rfl ?_
                    have w27 : (Xi U3 882 10) = (Xi T1 882 10) := (show Xi U3 882 10 = Xi T1 882 10 from by rw [eU3]; rfl)
                    rw [w27]
                    refine l_iconst rfl ?_
                    refine l_iadd rfl ?_
                    refine l_pfi rfl rfl rfl rfl ?_
                    obtain ⟨U4, eU4⟩ : ∃ T : sS, T = uI U3 882 10 (Int32.ofInt ((Xi T1 882 10) + 1)) := ⟨_, rfl⟩
                    rw [← eU4]
                    have hHU4 : HI U4 := by rw [eU4]; exact HI_w hHU3 (show 0 ≤ ((Xi T1 882 10) + 1) by omega) (show ((Xi T1 882 10) + 1) ≤ 5000 by omega)
                    have hFU4 : FR md_co_takeGap S U4 := by rw [eU4]; exact FR.wI hFU3 (mdf_i (r := (882, 883, 10, 11)) (List.mem_of_getElem? (i := 0) rfl) (inR_i (by omega) (by omega) (by omega) (by omega)))
                    have w28 : Xi U4 882 10 = ((Xi T1 882 10) + 1) := by rw [eU4]; exact Xi_same (by unfold rg; omega)
                    refine l_iload rfl rfl ?_
                    refine l_istore rfl rfl rfl ?_
                    refine l_goto rfl rfl ?_
                    have w29 : 0 ≤ Xi U4 882 10 ∧ Xi U4 882 10 ≤ 5000 := hHU4.c _ _
                    exact Rl_weak (ih8 _ (by omega) U4 hHU4 hFU4 (z14) (by omega) (by omega) (by omega) rfl) (And.intro rfl (And.intro rfl (And.intro rfl (And.intro rfl (True.intro)))))
                · refine l_iconst rfl ?_
                  refine l_ireturn rfl rfl ?_
                  exact ⟨hHT1, hFT1, _, rfl, ⟨by omega, by omega⟩, (by first | assumption | omega)⟩
          · refine l_iinc rfl rfl rfl rfl ?_
            refine l_goto rfl rfl ?_
            exact Rl_weak (ih8 _ (by omega) T1 hHT1 hFT1 ((v4 + 1)) (by omega) (by omega) (by omega) rfl) (And.intro rfl (And.intro rfl (And.intro rfl (And.intro rfl (True.intro)))))
        · refine l_aload_n rfl rfl ?_
          refine l_gfi rfl rfl rfl rfl rfl ?_
          refine l_if_le rfl rfl (by unfold rg; omega) (fun w31 => ?_) (fun w32 => ?_)
          · refine l_iconst rfl ?_
            refine l_ireturn rfl rfl ?_
            exact ⟨hHT1, hFT1, _, rfl, ⟨by omega, by omega⟩, (by first | assumption | omega)⟩
          · refine l_iload rfl rfl ?_
            refine l_iconst rfl ?_
            refine l_iadd rfl ?_
            refine l_goto rfl rfl ?_
            refine l_ireturn rfl rfl ?_
            exact ⟨hHT1, hFT1, _, rfl, ⟨by omega, by omega⟩, (by first | assumption | omega)⟩
  refine l_iload_n rfl rfl ?_
  refine l_istore rfl rfl rfl ?_
  refine l_aload_n rfl rfl ?_
  refine l_iconst rfl ?_
  refine l_pfi rfl rfl rfl rfl ?_
  obtain ⟨U5, eU5⟩ : ∃ T : sS, T = uI S 882 10 (Int32.ofInt 0) := ⟨_, rfl⟩
  rw [← eU5]
  have hHU5 : HI U5 := by rw [eU5]; exact HI_w hH (show 0 ≤ 0 by omega) (show 0 ≤ 5000 by omega)
  have hFU5 : FR md_co_takeGap S U5 := by rw [eU5]; exact FR.wI hF (mdf_i (r := (882, 883, 10, 11)) (List.mem_of_getElem? (i := 0) rfl) (inR_i (by omega) (by omega) (by omega) (by omega)))
  have w33 : Xi U5 882 10 = 0 := by rw [eU5]; exact Xi_same (by unfold rg; omega)
  have w34 : 0 ≤ Xi U5 882 10 ∧ Xi U5 882 10 ≤ 5000 := hHU5.c _ _
  exact Rl_weak (C8 _ U5 hHU5 hFU5 (from_) (by omega) (by omega) (by omega) rfl) (And.intro rfl (And.intro rfl (And.intro rfl (And.intro rfl (True.intro)))))
abbrev Q_bo_comesFirst (S : sS) (a : Nat) (b : Nat) : pst := fun r S1 => S = S1 ∧ (∃ z : Int, r = some (iv z) ∧ (0 ≤ z ∧ z ≤ 1))
set_option maxRecDepth 100000 in
theorem t_bo_comesFirst {S : sS} (hH : HI S) (a : Nat) (b : Nat) (ha : a < 24) (hb : b < 24) (d : Nat) : Mt lay0 (d + 2) m_bo_comesFirst [.ref 246, .ref (248 + a), .ref (248 + b)] S (Q_bo_comesFirst S a b) := by
  refine Mt_R rfl rfl ?_
  refine l_aload_n rfl rfl ?_
  refine l_callS rfl rfl (by decide) rfl (t_bo_rank hH a (by omega) _) ?_
  rintro _ _ ⟨rfl, z1, rfl, w1⟩
  show Rl _ _ _ _ _ [iv z1] _ _
  refine l_aload_n rfl rfl ?_
  refine l_callS rfl rfl (by decide) rfl (t_bo_rank hH b (by omega) _) ?_
  rintro _ _ ⟨rfl, z2, rfl, w2⟩
  show Rl _ _ _ _ _ [iv z2, iv z1] _ _
  refine l_isub rfl ?_
  refine l_istore_n rfl rfl rfl ?_
  refine l_iload_n rfl rfl ?_
  refine l_if_eq rfl rfl (by unfold rg; omega) (fun w3 => ?_) (fun w4 => ?_)
  · refine l_aload_n rfl rfl ?_
    refine l_iconst rfl ?_
    refine l_iaload (n := 8) rfl (lay_248 (by omega)) (by omega) (by omega) (by unfold rg; omega) ?_
    have w5 : -1 ≤ (Xi S (248 + a) ((3 : Int).toNat)) ∧ (Xi S (248 + a) ((3 : Int).toNat)) ≤ 15 := ruc3 hH (by omega)
    have w6 : (Xi S (248 + a) ((3 : Int).toNat)) = Xi S (248 + a) 3 := rfl
    refine l_iconst rfl ?_
    refine l_icmp_eq rfl rfl (by unfold rg; omega) (by unfold rg; omega) (fun w7 => ?_) (fun w8 => ?_)
    · refine l_aload_n rfl rfl ?_
      refine l_iconst rfl ?_
      refine l_iaload (n := 8) rfl (lay_248 (by omega)) (by omega) (by omega) (by unfold rg; omega) ?_
      have w9 : 0 ≤ (Xi S (248 + a) ((5 : Int).toNat)) ∧ (Xi S (248 + a) ((5 : Int).toNat)) ≤ 6 := ruc5 hH (by omega)
      have w10 : (Xi S (248 + a) ((5 : Int).toNat)) = Xi S (248 + a) 5 := rfl
      refine l_aload_n rfl rfl ?_
      refine l_iconst rfl ?_
      refine l_iaload (n := 8) rfl (lay_248 (by omega)) (by omega) (by omega) (by unfold rg; omega) ?_
      have w11 : 0 ≤ (Xi S (248 + b) ((5 : Int).toNat)) ∧ (Xi S (248 + b) ((5 : Int).toNat)) ≤ 6 := ruc5 hH (by omega)
      have w12 : (Xi S (248 + b) ((5 : Int).toNat)) = Xi S (248 + b) 5 := rfl
      refine l_icmp_le rfl rfl (by unfold rg; omega) (by unfold rg; omega) (fun w13 => ?_) (fun w14 => ?_)
      · refine l_iconst rfl ?_
        refine l_ireturn rfl rfl ?_
        exact ⟨rfl, _, rfl, ⟨by omega, by omega⟩⟩
      · refine l_iconst rfl ?_
        refine l_goto rfl rfl ?_
        refine l_ireturn rfl rfl ?_
        exact ⟨rfl, _, rfl, ⟨by omega, by omega⟩⟩
    · refine l_aload_n rfl rfl ?_
      refine l_iconst rfl ?_
      refine l_iaload (n := 8) rfl (lay_248 (by omega)) (by omega) (by omega) (by unfold rg; omega) ?_
      have w15 : -1 ≤ (Xi S (248 + b) ((3 : Int).toNat)) ∧ (Xi S (248 + b) ((3 : Int).toNat)) ≤ 15 := ruc3 hH (by omega)
      have w16 : (Xi S (248 + b) ((3 : Int).toNat)) = Xi S (248 + b) 3 := rfl
      refine l_iconst rfl ?_
      refine l_icmp_eq rfl rfl (by unfold rg; omega) (by unfold rg; omega) (fun w17 => ?_) (fun w18 => ?_)
      · refine l_aload_n rfl rfl ?_
        refine l_iconst rfl ?_
        refine l_iaload (n := 8) rfl (lay_248 (by omega)) (by omega) (by omega) (by unfold rg; omega) ?_
        have w19 : 0 ≤ (Xi S (248 + a) ((5 : Int).toNat)) ∧ (Xi S (248 + a) ((5 : Int).toNat)) ≤ 6 := ruc5 hH (by omega)
        have w20 : (Xi S (248 + a) ((5 : Int).toNat)) = Xi S (248 + a) 5 := rfl
        refine l_aload_n rfl rfl ?_
        refine l_iconst rfl ?_
        refine l_iaload (n := 8) rfl (lay_248 (by omega)) (by omega) (by omega) (by unfold rg; omega) ?_
        have w21 : 0 ≤ (Xi S (248 + b) ((5 : Int).toNat)) ∧ (Xi S (248 + b) ((5 : Int).toNat)) ≤ 6 := ruc5 hH (by omega)
        have w22 : (Xi S (248 + b) ((5 : Int).toNat)) = Xi S (248 + b) 5 := rfl
        refine l_icmp_le rfl rfl (by unfold rg; omega) (by unfold rg; omega) (fun w23 => ?_) (fun w24 => ?_)
        · refine l_iconst rfl ?_
          refine l_ireturn rfl rfl ?_
          exact ⟨rfl, _, rfl, ⟨by omega, by omega⟩⟩
        · refine l_iconst rfl ?_
          refine l_goto rfl rfl ?_
          refine l_ireturn rfl rfl ?_
          exact ⟨rfl, _, rfl, ⟨by omega, by omega⟩⟩
      · refine l_aload_n rfl rfl ?_
        refine l_gfr rfl rfl rfl rfl rfl (hH.r 246 0 1 rfl) ?_
        refine l_aload_n rfl rfl ?_
        refine l_iconst rfl ?_
        refine l_iaload (n := 8) rfl (lay_248 (by omega)) (by omega) (by omega) (by unfold rg; omega) ?_
        refine l_callV rfl rfl rfl (t_vo_kindsAbove hH (Xi S (248 + a) ((3 : Int).toNat)) ⟨by omega, by omega⟩ _) ?_
        rintro _ _ ⟨rfl, z26, rfl, w26, w25⟩
        show Rl _ _ _ _ _ [iv z26] _ _
        refine l_aload_n rfl rfl ?_
        refine l_gfr rfl rfl rfl rfl rfl (hH.r 246 0 1 rfl) ?_
        refine l_aload_n rfl rfl ?_
        refine l_iconst rfl ?_
        refine l_iaload (n := 8) rfl (lay_248 (by omega)) (by omega) (by omega) (by unfold rg; omega) ?_
        refine l_callV rfl rfl rfl (t_vo_kindsAbove hH (Xi S (248 + b) ((3 : Int).toNat)) ⟨by omega, by omega⟩ _) ?_
        rintro _ _ ⟨rfl, z28, rfl, w28, w27⟩
        show Rl _ _ _ _ _ [iv z28, iv z26] _ _
        refine l_isub rfl ?_
        refine l_istore rfl rfl rfl ?_
        refine l_iload rfl rfl ?_
        refine l_if_eq rfl rfl (by unfold rg; omega) (fun w29 => ?_) (fun w30 => ?_)
        · refine l_aload_n rfl rfl ?_
          refine l_iconst rfl ?_
          refine l_iaload (n := 8) rfl (lay_248 (by omega)) (by omega) (by omega) (by unfold rg; omega) ?_
          have w31 : 0 ≤ (Xi S (248 + a) ((4 : Int).toNat)) ∧ (Xi S (248 + a) ((4 : Int).toNat)) ≤ 5 := ruc4 hH (by omega)
          have w32 : (Xi S (248 + a) ((4 : Int).toNat)) = Xi S (248 + a) 4 := rfl
          refine l_aload_n rfl rfl ?_
          refine l_iconst rfl ?_
          refine l_iaload (n := 8) rfl (lay_248 (by omega)) (by omega) (by omega) (by unfold rg; omega) ?_
          have w33 : 0 ≤ (Xi S (248 + b) ((4 : Int).toNat)) ∧ (Xi S (248 + b) ((4 : Int).toNat)) ≤ 5 := ruc4 hH (by omega)
          have w34 : (Xi S (248 + b) ((4 : Int).toNat)) = Xi S (248 + b) 4 := rfl
          refine l_icmp_eq rfl rfl (by unfold rg; omega) (by unfold rg; omega) (fun w35 => ?_) (fun w36 => ?_)
          · refine l_aload_n rfl rfl ?_
            refine l_iconst rfl ?_
            refine l_iaload (n := 8) rfl (lay_248 (by omega)) (by omega) (by omega) (by unfold rg; omega) ?_
            have w37 : 0 ≤ (Xi S (248 + a) ((5 : Int).toNat)) ∧ (Xi S (248 + a) ((5 : Int).toNat)) ≤ 6 := ruc5 hH (by omega)
            have w38 : (Xi S (248 + a) ((5 : Int).toNat)) = Xi S (248 + a) 5 := rfl
            refine l_aload_n rfl rfl ?_
            refine l_iconst rfl ?_
            refine l_iaload (n := 8) rfl (lay_248 (by omega)) (by omega) (by omega) (by unfold rg; omega) ?_
            have w39 : 0 ≤ (Xi S (248 + b) ((5 : Int).toNat)) ∧ (Xi S (248 + b) ((5 : Int).toNat)) ≤ 6 := ruc5 hH (by omega)
            have w40 : (Xi S (248 + b) ((5 : Int).toNat)) = Xi S (248 + b) 5 := rfl
            refine l_icmp_le rfl rfl (by unfold rg; omega) (by unfold rg; omega) (fun w41 => ?_) (fun w42 => ?_)
            · refine l_iconst rfl ?_
              refine l_ireturn rfl rfl ?_
              exact ⟨rfl, _, rfl, ⟨by omega, by omega⟩⟩
            · refine l_iconst rfl ?_
              refine l_goto rfl rfl ?_
              refine l_ireturn rfl rfl ?_
              exact ⟨rfl, _, rfl, ⟨by omega, by omega⟩⟩
          · refine l_aload_n rfl rfl ?_
            refine l_iconst rfl ?_
            refine l_iaload (n := 8) rfl (lay_248 (by omega)) (by omega) (by omega) (by unfold rg; omega) ?_
            refine l_aload_n rfl rfl ?_
            refine l_iconst rfl ?_
            refine l_iaload (n := 8) rfl (lay_248 (by omega)) (by omega) (by omega) (by unfold rg; omega) ?_
            refine l_icmp_le rfl rfl (by unfold rg; omega) (by unfold rg; omega) (fun w43 => ?_) (fun w44 => ?_)
            · refine l_iconst rfl ?_
              refine l_ireturn rfl rfl ?_
              exact ⟨rfl, _, rfl, ⟨by omega, by omega⟩⟩
            · refine l_iconst rfl ?_
              refine l_goto rfl rfl ?_
              refine l_ireturn rfl rfl ?_
              exact ⟨rfl, _, rfl, ⟨by omega, by omega⟩⟩
        · refine l_iload rfl rfl ?_
          refine l_if_le rfl rfl (by unfold rg; omega) (fun w45 => ?_) (fun w46 => ?_)
          · refine l_iconst rfl ?_
            refine l_ireturn rfl rfl ?_
            exact ⟨rfl, _, rfl, ⟨by omega, by omega⟩⟩
          · refine l_iconst rfl ?_
            refine l_goto rfl rfl ?_
            refine l_ireturn rfl rfl ?_
            exact ⟨rfl, _, rfl, ⟨by omega, by omega⟩⟩
  · refine l_iload_n rfl rfl ?_
    refine l_if_ge rfl rfl (by unfold rg; omega) (fun w47 => ?_) (fun w48 => ?_)
    · refine l_iconst rfl ?_
      refine l_ireturn rfl rfl ?_
      exact ⟨rfl, _, rfl, ⟨by omega, by omega⟩⟩
    · refine l_iconst rfl ?_
      refine l_goto rfl rfl ?_
      refine l_ireturn rfl rfl ?_
      exact ⟨rfl, _, rfl, ⟨by omega, by omega⟩⟩
def md_bo_putInOrder : List rec := [(272, 273, 0, 100000)]
abbrev Q_bo_putInOrder (S : sS) : pst := fun r S1 => HI S1 ∧ FR md_bo_putInOrder S S1 ∧ (r = none ∧ (ORD S1))
set_option maxRecDepth 100000 in
theorem t_bo_putInOrder {S : sS} (hH : HI S) (d : Nat) : Mt lay0 (d + 3) m_bo_putInOrder [.ref 246] S (Q_bo_putInOrder S) := by
  refine Mt_R rfl rfl ?_
  have hF : FR md_bo_putInOrder S S := FR.rf
  have w1 : 0 ≤ Xi S 246 2 ∧ Xi S 246 2 ≤ 24 := hH.c _ _
  have C2 : ∀ (n2 : Nat) (T1 : sS) (_ : HI T1) (_ : FR md_bo_putInOrder S T1) (v1 : Int), (0 ≤ v1 ∧ v1 ≤ 24) → (v1 ≤ Xi T1 246 2) → (∀ i : Nat, (i : Int) < v1 → Xi T1 272 i < v1) → n2 = (25 - v1).toNat → Rl lay0 (d + 2) m_bo_putInOrder 2 [(0, .ref 246), (1, iv v1)] [] T1 (Q_bo_putInOrder S) := by
    intro n2
    induction n2 using Nat.strongRecOn with
    | ind n2 ih2 =>
      intro T1 hHT1 hFT1 v1 w2 w3 ho2 hm2
      have w4 : Xi T1 246 2 = Xi S 246 2 := hFT1.x _ _ rfl
      have w5 : 0 ≤ Xi T1 246 2 ∧ Xi T1 246 2 ≤ 24 := hHT1.c _ _
      have C12 : ∀ (n12 : Nat) (T2 : sS) (_ : HI T2) (_ : FR md_bo_putInOrder S T2) (v1 : Int) (v2 : Int), (0 ≤ v1 ∧ v1 ≤ 23) → (0 ≤ v2 ∧ v2 ≤ 23) → (0 ≤ v2 ∧ v2 ≤ v1) → (v1 < Xi T2 246 2) → (∀ i : Nat, (i : Int) ≤ v1 → (i : Int) ≠ v2 → Xi T2 272 i < v1) → ((25 - v1).toNat ≤ n2) → n12 = (v2 - (-1)).toNat → Rl lay0 (d + 2) m_bo_putInOrder 12 [(0, .ref 246), (1, iv v1), (2, iv v2)] [] T2 (Q_bo_putInOrder S) := by
        intro n12
        induction n12 using Nat.strongRecOn with
        | ind n12 ih12 =>
          intro T2 hHT2 hFT2 v1 v2 w6 w7 w8 w9 ho12 w10 hm12
          have w11 : Xi T2 246 2 = Xi S 246 2 := hFT2.x _ _ rfl
          have w12 : 0 ≤ Xi T2 246 2 ∧ Xi T2 246 2 ≤ 24 := hHT2.c _ _
          have C62 : ∀  (T3 : sS) (_ : HI T3) (_ : FR md_bo_putInOrder S T3) (v1 : Int) (v2 : Int), (0 ≤ v1 ∧ v1 ≤ 23) → (0 ≤ v2 ∧ v2 ≤ 23) → (0 ≤ v2 ∧ v2 ≤ v1) → (v1 < Xi T3 246 2) → (∀ i : Nat, (i : Int) ≤ v1 → (i : Int) ≠ v2 → Xi T3 272 i < v1) → ((25 - v1).toNat ≤ n2) → Rl lay0 (d + 2) m_bo_putInOrder 62 [(0, .ref 246), (1, iv v1), (2, iv v2)] [] T3 (Q_bo_putInOrder S) := by
            intro T3 hHT3 hFT3 v1 v2 w13 w14 w15 w16 ho62 w17
            have w18 : Xi T3 246 2 = Xi S 246 2 := hFT3.x _ _ rfl
            have w19 : 0 ≤ Xi T3 246 2 ∧ Xi T3 246 2 ≤ 24 := hHT3.c _ _
            refine l_aload_n rfl rfl ?_
            refine l_gfr rfl rfl rfl rfl rfl (hHT3.r 246 3 272 rfl) ?_
            refine l_iload_n rfl rfl ?_
            refine l_iload_n rfl rfl ?_
            refine l_iastore (n := 24) rfl rfl (by omega) (by omega) (by unfold rg; omega) ?_
            obtain ⟨U4, eU4⟩ : ∃ T : sS, T = uI T3 272 ((v2).toNat) (Int32.ofInt v1) := ⟨_, rfl⟩
            rw [← eU4]
            have hHU4 : HI U4 := by rw [eU4]; exact HI_w hHT3 (show 0 ≤ v1 by omega) (show v1 ≤ 23 by omega)
            have hFU4 : FR md_bo_putInOrder S U4 := by rw [eU4]; exact FR.wI hFT3 (mdf_i (r := (272, 273, 0, 100000)) (List.mem_of_getElem? (i := 0) rfl) (inR_i (by omega) (by omega) (by omega) (by omega)))
            have w20 : Xi U4 272 ((v2).toNat) = v1 := by rw [eU4]; exact Xi_same (by unfold rg; omega)
            refine l_iinc rfl rfl rfl rfl ?_
            refine l_goto rfl rfl ?_
            have w21 : Xi U4 246 2 = Xi T3 246 2 := (show Xi U4 246 2 = Xi T3 246 2 from by rw [eU4]; exact Xi_ne (by omega))
            exact Rl_weak (ih2 _ (by omega) U4 hHU4 hFU4 ((v1 + 1)) (by omega) (by omega) (by first | (intro i hi; omega) | exact ord_put eU4 ho62 (by omega) (by omega)) rfl) (And.intro rfl (And.intro rfl (True.intro)))
          refine l_iload_n rfl rfl ?_
          refine l_if_le rfl rfl (by unfold rg; omega) (fun w23 => ?_) (fun w24 => ?_)
          · have w25 : 0 ≤ Xi T2 246 2 ∧ Xi T2 246 2 ≤ 24 := hHT2.c _ _
            exact Rl_weak (C62 T2 hHT2 hFT2 (v1) (v2) (by omega) (by omega) (by omega) (by omega) (by first | assumption | omega) (by omega)) (And.intro rfl (And.intro rfl (And.intro rfl (True.intro))))
          · refine l_aload_n rfl rfl ?_
            refine l_aload_n rfl rfl ?_
            refine l_gfr rfl rfl rfl rfl rfl (hHT2.r 246 1 247 rfl) ?_
            refine l_iload_n rfl rfl ?_
            refine l_aaload (n := 24) (a := 248 + (v1).toNat) rfl rfl (by decide) (by omega) (by omega) (by unfold rg; omega) (RW_247 hHT2 (by omega)) ?_
            refine l_aload_n rfl rfl ?_
            refine l_gfr rfl rfl rfl rfl rfl (hHT2.r 246 1 247 rfl) ?_
            refine l_aload_n rfl rfl ?_
            refine l_gfr rfl rfl rfl rfl rfl (hHT2.r 246 3 272 rfl) ?_
            refine l_iload_n rfl rfl ?_
            refine l_iconst rfl ?_
            refine l_isub rfl ?_
            refine l_iaload (n := 24) rfl rfl (by omega) (by omega) (by unfold rg; omega) ?_
            have w26 : 0 ≤ (Xi T2 272 (((v2 - 1)).toNat)) ∧ (Xi T2 272 (((v2 - 1)).toNat)) ≤ 23 := hHT2.c _ _
            refine l_aaload (n := 24) (a := 248 + ((Xi T2 272 (((v2 - 1)).toNat))).toNat) rfl rfl (by decide) (by omega) (by omega) (by unfold rg; omega) (RW_247 hHT2 (by omega)) ?_
            refine l_callV rfl rfl rfl (t_bo_comesFirst hHT2 ((v1).toNat) (((Xi T2 272 (((v2 - 1)).toNat))).toNat) (by omega) (by omega) _) ?_
            rintro _ _ ⟨rfl, z27, rfl, w27⟩
            show Rl _ _ _ _ _ [iv z27] _ _
            refine l_if_eq rfl rfl (by unfold rg; omega) (fun w28 => ?_) (fun w29 => ?_)
            · have w30 : 0 ≤ Xi T2 246 2 ∧ Xi T2 246 2 ≤ 24 := hHT2.c _ _
              exact Rl_weak (C62 T2 hHT2 hFT2 (v1) (v2) (by omega) (by omega) (by omega) (by omega) (by first | assumption | omega) (by omega)) (And.intro rfl (And.intro rfl (And.intro rfl (True.intro))))
            · refine l_aload_n rfl rfl ?_
              refine l_gfr rfl rfl rfl rfl rfl (hHT2.r 246 3 272 rfl) ?_
              refine l_iload_n rfl rfl ?_
              refine l_aload_n rfl rfl ?_
              refine l_gfr rfl rfl rfl rfl rfl (hHT2.r 246 3 272 rfl) ?_
              refine l_iload_n rfl rfl ?_
              refine l_iconst rfl ?_
              refine l_isub rfl ?_
              refine l_iaload (n := 24) rfl rfl (by omega) (by omega) (by unfold rg; omega) ?_
              refine l_iastore (n := 24) rfl rfl (by omega) (by omega) (by unfold rg; omega) ?_
              obtain ⟨U5, eU5⟩ : ∃ T : sS, T = uI T2 272 ((v2).toNat) (Int32.ofInt (Xi T2 272 (((v2 - 1)).toNat))) := ⟨_, rfl⟩
              rw [← eU5]
              have hHU5 : HI U5 := by rw [eU5]; exact HI_w hHT2 (show 0 ≤ (Xi T2 272 (((v2 - 1)).toNat)) by omega) (show (Xi T2 272 (((v2 - 1)).toNat)) ≤ 23 by omega)
              have hFU5 : FR md_bo_putInOrder S U5 := by rw [eU5]; exact FR.wI hFT2 (mdf_i (r := (272, 273, 0, 100000)) (List.mem_of_getElem? (i := 0) rfl) (inR_i (by omega) (by omega) (by omega) (by omega)))
              have w31 : Xi U5 272 ((v2).toNat) = (Xi T2 272 (((v2 - 1)).toNat)) := by rw [eU5]; exact Xi_same (by unfold rg; omega)
              refine l_iinc rfl rfl rfl rfl ?_
              refine l_goto rfl rfl ?_
              have w32 : Xi U5 246 2 = Xi T2 246 2 := (show Xi U5 246 2 = Xi T2 246 2 from by rw [eU5]; exact Xi_ne (by omega))
              exact Rl_weak (ih12 _ (by omega) U5 hHU5 hFU5 (v1) ((v2 + (-1))) (by omega) (by omega) (by omega) (by omega) (by first | exact ord_in ho2 | exact ord_mv eU5 ho12 (by omega) (by omega)) (by omega) rfl) (And.intro rfl (And.intro rfl (And.intro rfl (True.intro))))
      refine l_iload_n rfl rfl ?_
      refine l_aload_n rfl rfl ?_
      refine l_gfi rfl rfl rfl rfl rfl ?_
      refine l_icmp_ge rfl rfl (by unfold rg; omega) (by unfold rg; omega) (fun w34 => ?_) (fun w35 => ?_)
      · refine l_return rfl rfl ?_
        exact ⟨hHT1, hFT1, rfl, (ord_end ho2 (by omega))⟩
      · refine l_iload_n rfl rfl ?_
        refine l_istore_n rfl rfl rfl ?_
        exact Rl_weak (C12 _ T1 hHT1 hFT1 (v1) (v1) (by omega) (by omega) (by omega) (by omega) (by first | exact ord_in ho2 | exact ord_mv rfl ho12 (by omega) (by omega)) (by omega) rfl) (And.intro rfl (And.intro rfl (And.intro rfl (True.intro))))
  refine l_iconst rfl ?_
  refine l_istore_n rfl rfl rfl ?_
  exact Rl_weak (C2 _ S hH hF (0) (by omega) (by omega) (by first | (intro i hi; omega) | exact ord_put rfl ho62 (by omega) (by omega)) rfl) (And.intro rfl (And.intro rfl (True.intro)))
def md_me_readThing : List rec := [(895, 896, 5, 6), (895, 896, 6, 7), (895, 896, 7, 8)]
abbrev Q_me_readThing (S : sS) (from_ : Int) (limit : Int) : pst := fun r S1 => HI S1 ∧ FR md_me_readThing S S1 ∧ (∃ z : Int, r = some (iv z) ∧ (0 ≤ z ∧ z ≤ 5142) ∧ (from_ ≤ z) ∧ (Xi S1 895 5 = -2 → 0 ≤ Xi S 895 4) ∧ (Xi S1 895 5 ≠ -1 → 0 ≤ Xi S1 895 6) ∧ (Xi S1 895 5 = -1 → Xi S1 895 6 = -1))
set_option maxRecDepth 100000 in
theorem t_me_readThing {S : sS} (hH : HI S) (from_ : Int) (limit : Int) (hfrom_ : 0 ≤ from_ ∧ from_ ≤ 5140) (hlimit : -1 ≤ limit ∧ limit ≤ 5140) (hL : LEX S) (d : Nat) : Mt lay0 (d + 2) m_me_readThing [.ref 895, iv from_, iv limit] S (Q_me_readThing S from_ limit) := by
  refine Mt_R rfl rfl ?_
  have hF : FR md_me_readThing S S := FR.rf
  have w1 : -1 ≤ Xi S 895 4 ∧ Xi S 895 4 ≤ 15 := hH.c _ _
  refine l_aload_n rfl rfl ?_
  refine l_gfr rfl rfl rfl rfl rfl (hH.r 895 0 876 rfl) ?_
  refine l_iload_n rfl rfl ?_
  have w2 : 0 ≤ Xi S 876 7 ∧ Xi S 876 7 ≤ 5125 := hH.c _ _
  refine l_callV rfl rfl rfl (t_to_typeAt hH from_ ⟨by omega, by omega⟩ _) ?_
  rintro _ _ ⟨rfl, z6, rfl, w6, w3, w4, w5⟩
  show Rl _ _ _ _ _ [iv z6] _ _
  refine l_istore_n rfl rfl rfl ?_
  refine l_iload_n rfl rfl ?_
  refine l_iconst rfl ?_
  refine l_iadd rfl ?_
  refine l_istore rfl rfl rfl ?_
  refine l_iload_n rfl rfl ?_
  refine l_iconst rfl ?_
  refine l_icmp_ne rfl rfl (by unfold rg; omega) (by unfold rg; omega) (fun w7 => ?_) (fun w8 => ?_)
  · refine l_aload_n rfl rfl ?_
    refine l_iload_n rfl rfl ?_
    refine l_pfi rfl rfl rfl rfl ?_
    obtain ⟨U1, eU1⟩ : ∃ T : sS, T = uI S 895 7 (Int32.ofInt from_) := ⟨_, rfl⟩
    rw [← eU1]
    have hHU1 : HI U1 := by rw [eU1]; exact HI_any hH (rfl)
    have hFU1 : FR md_me_readThing S U1 := by rw [eU1]; exact FR.wI hF (mdf_i (r := (895, 896, 7, 8)) (List.mem_of_getElem? (i := 2) rfl) (inR_i (by omega) (by omega) (by omega) (by omega)))
    have w9 : Xi U1 895 7 = from_ := by rw [eU1]; exact Xi_same (by unfold rg; omega)
    refine l_aload_n rfl rfl ?_
    refine l_iconst rfl ?_
    refine l_pfi rfl rfl rfl rfl ?_
    obtain ⟨U2, eU2⟩ : ∃ T : sS, T = uI U1 895 5 (Int32.ofInt (-1)) := ⟨_, rfl⟩
    rw [← eU2]
    have hHU2 : HI U2 := by rw [eU2]; exact HI_w hHU1 (show -2 ≤ (-1) by omega) (show (-1) ≤ 23 by omega)
    have hFU2 : FR md_me_readThing S U2 := by rw [eU2]; exact FR.wI hFU1 (mdf_i (r := (895, 896, 5, 6)) (List.mem_of_getElem? (i := 0) rfl) (inR_i (by omega) (by omega) (by omega) (by omega)))
    have w10 : Xi U2 895 5 = (-1) := by rw [eU2]; exact Xi_same (by unfold rg; omega)
    refine l_aload_n rfl rfl ?_
    refine l_iconst rfl ?_
    refine l_pfi rfl rfl rfl rfl ?_
    obtain ⟨U3, eU3⟩ : ∃ T : sS, T = uI U2 895 6 (Int32.ofInt (-1)) := ⟨_, rfl⟩
    rw [← eU3]
    have hHU3 : HI U3 := by rw [eU3]; exact HI_w hHU2 (show -1 ≤ (-1) by omega) (show (-1) ≤ 15 by omega)
    have hFU3 : FR md_me_readThing S U3 := by rw [eU3]; exact FR.wI hFU2 (mdf_i (r := (895, 896, 6, 7)) (List.mem_of_getElem? (i := 1) rfl) (inR_i (by omega) (by omega) (by omega) (by omega)))
    have w11 : Xi U3 895 6 = (-1) := by rw [eU3]; exact Xi_same (by unfold rg; omega)
    refine l_iload_n rfl rfl ?_
    refine l_bipush rfl rfl ?_
    refine l_icmp_eq rfl rfl (by unfold rg; omega) (by unfold rg; omega) (fun w12 => ?_) (fun w13 => ?_)
    · refine l_aload_n rfl rfl ?_
      refine l_iload_n rfl rfl ?_
      refine l_aload_n rfl rfl ?_
      refine l_gfi rfl rfl rfl rfl rfl ?_
      have w14 : -2147483648 ≤ (Xi U3 895 3) ∧ (Xi U3 895 3) ≤ 2147483647 := Xi_rgI
      refine l_icmp_ne rfl rfl (by unfold rg; omega) (by unfold rg; omega) (fun w15 => ?_) (fun w16 => ?_)
      · refine l_iconst rfl ?_
        refine l_pfi rfl rfl rfl rfl ?_
        obtain ⟨U4, eU4⟩ : ∃ T : sS, T = uI U3 895 5 (Int32.ofInt (-1)) := ⟨_, rfl⟩
        rw [← eU4]
        have hHU4 : HI U4 := by rw [eU4]; exact HI_w hHU3 (show -2 ≤ (-1) by omega) (show (-1) ≤ 23 by omega)
        have hFU4 : FR md_me_readThing S U4 := by rw [eU4]; exact FR.wI hFU3 (mdf_i (r := (895, 896, 5, 6)) (List.mem_of_getElem? (i := 0) rfl) (inR_i (by omega) (by omega) (by omega) (by omega)))
        have w17 : Xi U4 895 5 = (-1) := by rw [eU4]; exact Xi_same (by unfold rg; omega)
        refine l_aload_n rfl rfl ?_
        refine l_aload_n rfl rfl ?_
        refine l_gfi rfl rfl rfl rfl rfl ?_
        refine l_bipush rfl rfl ?_
        refine l_icmp_ne rfl rfl (by unfold rg; omega) (by unfold rg; omega) (fun w18 => ?_) (fun w19 => ?_)
        · refine l_iconst rfl ?_
          refine l_pfi rfl rfl rfl rfl ?_
          obtain ⟨U5, eU5⟩ : ∃ T : sS, T = uI U4 895 6 (Int32.ofInt (-1)) := ⟨_, rfl⟩
          rw [← eU5]
          have hHU5 : HI U5 := by rw [eU5]; exact HI_w hHU4 (show -1 ≤ (-1) by omega) (show (-1) ≤ 15 by omega)
          have hFU5 : FR md_me_readThing S U5 := by rw [eU5]; exact FR.wI hFU4 (mdf_i (r := (895, 896, 6, 7)) (List.mem_of_getElem? (i := 1) rfl) (inR_i (by omega) (by omega) (by omega) (by omega)))
          have w20 : Xi U5 895 6 = (-1) := by rw [eU5]; exact Xi_same (by unfold rg; omega)
          refine l_iload rfl rfl ?_
          refine l_ireturn rfl rfl ?_
          have w21 : Xi U5 895 5 = Xi U4 895 5 := (show Xi U5 895 5 = Xi U4 895 5 from by rw [eU5]; exact Xi_ne (by omega))
          have w22 : -2 ≤ Xi U4 895 5 ∧ Xi U4 895 5 ≤ 23 := hHU4.c _ _
          have w23 : -1 ≤ Xi U5 895 6 ∧ Xi U5 895 6 ≤ 15 := hHU5.c _ _
          exact ⟨hHU5, hFU5, _, rfl, ⟨by omega, by omega⟩, (by first | assumption | omega), (by first | assumption | omega), (by first | assumption | omega), (by first | assumption | omega)⟩
        · refine l_aload_n rfl rfl ?_
          refine l_gfi rfl rfl rfl rfl rfl ?_
          have w24 : (Xi U4 895 4) = (Xi S 895 4) := (show Xi U4 895 4 = Xi U3 895 4 from by rw [eU4]; exact Xi_ne (by omega)).trans ( (show Xi U3 895 4 = Xi U2 895 4 from by rw [eU3]; exact Xi_ne (by omega)).trans ( (show Xi U2 895 4 = Xi U1 895 4 from by rw [eU2]; exact Xi_ne (by omega)).trans ((show Xi U1 895 4 = Xi S 895 4 from by rw [eU1]; exact Xi_ne (by omega)))))
          rw [w24]
          refine l_goto rfl rfl ?_
          refine l_pfi rfl rfl rfl rfl ?_
          obtain ⟨U6, eU6⟩ : ∃ T : sS, T = uI U4 895 6 (Int32.ofInt (Xi S 895 4)) := ⟨_, rfl⟩
          rw [← eU6]
          have hHU6 : HI U6 := by rw [eU6]; exact HI_w hHU4 (show -1 ≤ (Xi S 895 4) by omega) (show (Xi S 895 4) ≤ 15 by omega)
          have hFU6 : FR md_me_readThing S U6 := by rw [eU6]; exact FR.wI hFU4 (mdf_i (r := (895, 896, 6, 7)) (List.mem_of_getElem? (i := 1) rfl) (inR_i (by omega) (by omega) (by omega) (by omega)))
          have w25 : Xi U6 895 6 = (Xi S 895 4) := by rw [eU6]; exact Xi_same (by unfold rg; omega)
          refine l_iload rfl rfl ?_
          refine l_ireturn rfl rfl ?_
          have w26 : Xi U6 895 5 = Xi U4 895 5 := (show Xi U6 895 5 = Xi U4 895 5 from by rw [eU6]; exact Xi_ne (by omega))
          have w27 : -2 ≤ Xi U4 895 5 ∧ Xi U4 895 5 ≤ 23 := hHU4.c _ _
          have w28 : -1 ≤ Xi U6 895 6 ∧ Xi U6 895 6 ≤ 15 := hHU6.c _ _
          exact ⟨hHU6, hFU6, _, rfl, ⟨by omega, by omega⟩, (by first | assumption | omega), (by first | assumption | omega), (by first | assumption | omega), (by first | assumption | omega)⟩
      · refine l_aload_n rfl rfl ?_
        refine l_gfi rfl rfl rfl rfl rfl ?_
        have w29 : (Xi U3 895 4) = (Xi S 895 4) := (show Xi U3 895 4 = Xi U2 895 4 from by rw [eU3]; exact Xi_ne (by omega)).trans ( (show Xi U2 895 4 = Xi U1 895 4 from by rw [eU2]; exact Xi_ne (by omega)).trans ((show Xi U1 895 4 = Xi S 895 4 from by rw [eU1]; exact Xi_ne (by omega))))
        rw [w29]
        refine l_iconst rfl ?_
        refine l_icmp_eq rfl rfl (by unfold rg; omega) (by unfold rg; omega) (fun w30 => ?_) (fun w31 => ?_)
        · refine l_iconst rfl ?_
          refine l_pfi rfl rfl rfl rfl ?_
          obtain ⟨U7, eU7⟩ : ∃ T : sS, T = uI U3 895 5 (Int32.ofInt (-1)) := ⟨_, rfl⟩
          rw [← eU7]
          have hHU7 : HI U7 := by rw [eU7]; exact HI_w hHU3 (show -2 ≤ (-1) by omega) (show (-1) ≤ 23 by omega)
          have hFU7 : FR md_me_readThing S U7 := by rw [eU7]; exact FR.wI hFU3 (mdf_i (r := (895, 896, 5, 6)) (List.mem_of_getElem? (i := 0) rfl) (inR_i (by omega) (by omega) (by omega) (by omega)))
          have w32 : Xi U7 895 5 = (-1) := by rw [eU7]; exact Xi_same (by unfold rg; omega)
          refine l_aload_n rfl rfl ?_
          refine l_aload_n rfl rfl ?_
          refine l_gfi rfl rfl rfl rfl rfl ?_
          refine l_bipush rfl rfl ?_
          refine l_icmp_ne rfl rfl (by unfold rg; omega) (by unfold rg; omega) (fun w33 => ?_) (fun w34 => ?_)
          · refine l_iconst rfl ?_
            refine l_pfi rfl rfl rfl rfl ?_
            obtain ⟨U8, eU8⟩ : ∃ T : sS, T = uI U7 895 6 (Int32.ofInt (-1)) := ⟨_, rfl⟩
            rw [← eU8]
            have hHU8 : HI U8 := by rw [eU8]; exact HI_w hHU7 (show -1 ≤ (-1) by omega) (show (-1) ≤ 15 by omega)
            have hFU8 : FR md_me_readThing S U8 := by rw [eU8]; exact FR.wI hFU7 (mdf_i (r := (895, 896, 6, 7)) (List.mem_of_getElem? (i := 1) rfl) (inR_i (by omega) (by omega) (by omega) (by omega)))
            have w35 : Xi U8 895 6 = (-1) := by rw [eU8]; exact Xi_same (by unfold rg; omega)
            refine l_iload rfl rfl ?_
            refine l_ireturn rfl rfl ?_
            have w36 : Xi U8 895 5 = Xi U7 895 5 := (show Xi U8 895 5 = Xi U7 895 5 from by rw [eU8]; exact Xi_ne (by omega))
            have w37 : -2 ≤ Xi U7 895 5 ∧ Xi U7 895 5 ≤ 23 := hHU7.c _ _
            have w38 : -1 ≤ Xi U8 895 6 ∧ Xi U8 895 6 ≤ 15 := hHU8.c _ _
            exact ⟨hHU8, hFU8, _, rfl, ⟨by omega, by omega⟩, (by first | assumption | omega), (by first | assumption | omega), (by first | assumption | omega), (by first | assumption | omega)⟩
          · refine l_aload_n rfl rfl ?_
            refine l_gfi rfl rfl rfl rfl rfl ?_
            have w39 : (Xi U7 895 4) = (Xi S 895 4) := (show Xi U7 895 4 = Xi U3 895 4 from by rw [eU7]; exact Xi_ne (by omega)).trans ( (show Xi U3 895 4 = Xi U2 895 4 from by rw [eU3]; exact Xi_ne (by omega)).trans ( (show Xi U2 895 4 = Xi U1 895 4 from by rw [eU2]; exact Xi_ne (by omega)).trans ((show Xi U1 895 4 = Xi S 895 4 from by rw [eU1]; exact Xi_ne (by omega)))))
            rw [w39]
            refine l_goto rfl rfl ?_
            refine l_pfi rfl rfl rfl rfl ?_
            obtain ⟨U9, eU9⟩ : ∃ T : sS, T = uI U7 895 6 (Int32.ofInt (Xi S 895 4)) := ⟨_, rfl⟩
            rw [← eU9]
            have hHU9 : HI U9 := by rw [eU9]; exact HI_w hHU7 (show -1 ≤ (Xi S 895 4) by omega) (show (Xi S 895 4) ≤ 15 by omega)
            have hFU9 : FR md_me_readThing S U9 := by rw [eU9]; exact FR.wI hFU7 (mdf_i (r := (895, 896, 6, 7)) (List.mem_of_getElem? (i := 1) rfl) (inR_i (by omega) (by omega) (by omega) (by omega)))
            have w40 : Xi U9 895 6 = (Xi S 895 4) := by rw [eU9]; exact Xi_same (by unfold rg; omega)
            refine l_iload rfl rfl ?_
            refine l_ireturn rfl rfl ?_
            have w41 : Xi U9 895 5 = Xi U7 895 5 := (show Xi U9 895 5 = Xi U7 895 5 from by rw [eU9]; exact Xi_ne (by omega))
            have w42 : -2 ≤ Xi U7 895 5 ∧ Xi U7 895 5 ≤ 23 := hHU7.c _ _
            have w43 : -1 ≤ Xi U9 895 6 ∧ Xi U9 895 6 ≤ 15 := hHU9.c _ _
            exact ⟨hHU9, hFU9, _, rfl, ⟨by omega, by omega⟩, (by first | assumption | omega), (by first | assumption | omega), (by first | assumption | omega), (by first | assumption | omega)⟩
        · refine l_bipush rfl rfl ?_
          refine l_goto rfl rfl ?_
          refine l_pfi rfl rfl rfl rfl ?_
          obtain ⟨U10, eU10⟩ : ∃ T : sS, T = uI U3 895 5 (Int32.ofInt (-2)) := ⟨_, rfl⟩
          rw [← eU10]
          have hHU10 : HI U10 := by rw [eU10]; exact HI_w hHU3 (show -2 ≤ (-2) by omega) (show (-2) ≤ 23 by omega)
          have hFU10 : FR md_me_readThing S U10 := by rw [eU10]; exact FR.wI hFU3 (mdf_i (r := (895, 896, 5, 6)) (List.mem_of_getElem? (i := 0) rfl) (inR_i (by omega) (by omega) (by omega) (by omega)))
          have w44 : Xi U10 895 5 = (-2) := by rw [eU10]; exact Xi_same (by unfold rg; omega)
          refine l_aload_n rfl rfl ?_
          refine l_aload_n rfl rfl ?_
          refine l_gfi rfl rfl rfl rfl rfl ?_
          refine l_bipush rfl rfl ?_
          refine l_icmp_ne rfl rfl (by unfold rg; omega) (by unfold rg; omega) (fun w45 => ?_) (fun w46 => ?_)
          · refine l_iconst rfl ?_
            refine l_pfi rfl rfl rfl rfl ?_
            obtain ⟨U11, eU11⟩ : ∃ T : sS, T = uI U10 895 6 (Int32.ofInt (-1)) := ⟨_, rfl⟩
            rw [← eU11]
            have hHU11 : HI U11 := by rw [eU11]; exact HI_w hHU10 (show -1 ≤ (-1) by omega) (show (-1) ≤ 15 by omega)
            have hFU11 : FR md_me_readThing S U11 := by rw [eU11]; exact FR.wI hFU10 (mdf_i (r := (895, 896, 6, 7)) (List.mem_of_getElem? (i := 1) rfl) (inR_i (by omega) (by omega) (by omega) (by omega)))
            have w47 : Xi U11 895 6 = (-1) := by rw [eU11]; exact Xi_same (by unfold rg; omega)
            refine l_iload rfl rfl ?_
            refine l_ireturn rfl rfl ?_
            have w48 : Xi U11 895 5 = Xi U10 895 5 := (show Xi U11 895 5 = Xi U10 895 5 from by rw [eU11]; exact Xi_ne (by omega))
            have w49 : -2 ≤ Xi U10 895 5 ∧ Xi U10 895 5 ≤ 23 := hHU10.c _ _
            have w50 : -1 ≤ Xi U11 895 6 ∧ Xi U11 895 6 ≤ 15 := hHU11.c _ _
            exact ⟨hHU11, hFU11, _, rfl, ⟨by omega, by omega⟩, (by first | assumption | omega), (by first | assumption | omega), (by first | assumption | omega), (by first | assumption | omega)⟩
          · refine l_aload_n rfl rfl ?_
            refine l_gfi rfl rfl rfl rfl rfl ?_
            have w51 : (Xi U10 895 4) = (Xi S 895 4) := (show Xi U10 895 4 = Xi U3 895 4 from by rw [eU10]; exact Xi_ne (by omega)).trans ( (show Xi U3 895 4 = Xi U2 895 4 from by rw [eU3]; exact Xi_ne (by omega)).trans ( (show Xi U2 895 4 = Xi U1 895 4 from by rw [eU2]; exact Xi_ne (by omega)).trans ((show Xi U1 895 4 = Xi S 895 4 from by rw [eU1]; exact Xi_ne (by omega)))))
            rw [w51]
            refine l_goto rfl rfl ?_
            refine l_pfi rfl rfl rfl rfl ?_
            obtain ⟨U12, eU12⟩ : ∃ T : sS, T = uI U10 895 6 (Int32.ofInt (Xi S 895 4)) := ⟨_, rfl⟩
            rw [← eU12]
            have hHU12 : HI U12 := by rw [eU12]; exact HI_w hHU10 (show -1 ≤ (Xi S 895 4) by omega) (show (Xi S 895 4) ≤ 15 by omega)
            have hFU12 : FR md_me_readThing S U12 := by rw [eU12]; exact FR.wI hFU10 (mdf_i (r := (895, 896, 6, 7)) (List.mem_of_getElem? (i := 1) rfl) (inR_i (by omega) (by omega) (by omega) (by omega)))
            have w52 : Xi U12 895 6 = (Xi S 895 4) := by rw [eU12]; exact Xi_same (by unfold rg; omega)
            refine l_iload rfl rfl ?_
            refine l_ireturn rfl rfl ?_
            have w53 : Xi U12 895 5 = Xi U10 895 5 := (show Xi U12 895 5 = Xi U10 895 5 from by rw [eU12]; exact Xi_ne (by omega))
            have w54 : -2 ≤ Xi U10 895 5 ∧ Xi U10 895 5 ≤ 23 := hHU10.c _ _
            have w55 : -1 ≤ Xi U12 895 6 ∧ Xi U12 895 6 ≤ 15 := hHU12.c _ _
            exact ⟨hHU12, hFU12, _, rfl, ⟨by omega, by omega⟩, (by first | assumption | omega), (by first | assumption | omega), (by first | assumption | omega), (by first | assumption | omega)⟩
    · refine l_iload_n rfl rfl ?_
      refine l_bipush rfl rfl ?_
      refine l_icmp_ne rfl rfl (by unfold rg; omega) (by unfold rg; omega) (fun w56 => ?_) (fun w57 => ?_)
      · refine l_aload_n rfl rfl ?_
        refine l_iload_n rfl rfl ?_
        refine l_callS rfl rfl (by decide) rfl (t_rs_isArt hHU3 z6 ⟨by omega, by omega⟩ _) ?_
        rintro _ _ ⟨rfl, z59, rfl, w59, w58⟩
        show Rl _ _ _ _ _ [iv z59, .ref 895] _ _
        refine l_if_eq rfl rfl (by unfold rg; omega) (fun w60 => ?_) (fun w61 => ?_)
        · refine l_iload_n rfl rfl ?_
          refine l_pfi rfl rfl rfl rfl ?_
          obtain ⟨U13, eU13⟩ : ∃ T : sS, T = uI U3 895 7 (Int32.ofInt from_) := ⟨_, rfl⟩
          rw [← eU13]
          have hHU13 : HI U13 := by rw [eU13]; exact HI_any hHU3 (rfl)
          have hFU13 : FR md_me_readThing S U13 := by rw [eU13]; exact FR.wI hFU3 (mdf_i (r := (895, 896, 7, 8)) (List.mem_of_getElem? (i := 2) rfl) (inR_i (by omega) (by omega) (by omega) (by omega)))
          have w62 : Xi U13 895 7 = from_ := by rw [eU13]; exact Xi_same (by unfold rg; omega)
          refine l_aload_n rfl rfl ?_
          refine l_gfr rfl rfl rfl rfl rfl (hHU13.r 895 0 876 rfl) ?_
          refine l_aload_n rfl rfl ?_
          refine l_gfi rfl rfl rfl rfl rfl ?_
          refine l_iload_n rfl rfl ?_
          have w63 : Xi U13 876 7 = Xi S 876 7 := (show Xi U13 876 7 = Xi U3 876 7 from by rw [eU13]; exact Xi_ne (by omega)).trans ( (show Xi U3 876 7 = Xi U2 876 7 from by rw [eU3]; exact Xi_ne (by omega)).trans ( (show Xi U2 876 7 = Xi U1 876 7 from by rw [eU2]; exact Xi_ne (by omega)).trans ((show Xi U1 876 7 = Xi S 876 7 from by rw [eU1]; exact Xi_ne (by omega)))))
          refine l_callV rfl rfl rfl (t_to_runEndUpTo hHU13 (Xi U13 895 7) limit ⟨by omega, by omega⟩ ⟨by omega, by omega⟩ _) ?_
          rintro _ _ ⟨rfl, z72, rfl, w72, w65, w66, w67, w68, w69, w70, w71⟩
          show Rl _ _ _ _ _ [iv z72] _ _
          refine l_istore rfl rfl rfl ?_
          refine l_aload_n rfl rfl ?_
          refine l_gfr rfl rfl rfl rfl rfl (hHU13.r 895 1 1 rfl) ?_
          refine l_aload_n rfl rfl ?_
          refine l_gfr rfl rfl rfl rfl rfl (hHU13.r 895 0 876 rfl) ?_
          refine l_gfr rfl rfl rfl rfl rfl (hHU13.r 876 2 879 rfl) ?_
          refine l_aload_n rfl rfl ?_
          refine l_gfi rfl rfl rfl rfl rfl ?_
          refine l_iload rfl rfl ?_
          refine l_callV rfl rfl rfl (t_vo_meaning hHU13 879 5130 (Xi U13 895 7) z72 rfl ⟨by omega, by omega⟩ ⟨by omega, by omega⟩ ⟨by omega, by omega⟩ (by first | assumption | exact (LEX_FR hFU13 rfl rfl (by assumption : LEX S))) _) ?_
          rintro _ _ ⟨rfl, z76, rfl, w76, w73, w74, w75⟩
          show Rl _ _ _ _ _ [iv z76] _ _
          have hmnz76 := mOK_n (z := z76) (by assumption)
          refine l_istore rfl rfl rfl ?_
          refine l_iload rfl rfl ?_
          refine l_bipush rfl rfl ?_
          refine l_ishr8 rfl (by unfold rg; omega) ?_
          refine l_iconst rfl ?_
          refine l_icmp_ne rfl rfl (by unfold rg; omega) (by unfold rg; omega) (fun w78 => ?_) (fun w79 => ?_)
          · refine l_iload rfl rfl ?_
            refine l_ireturn rfl rfl ?_
            have w80 : Xi U13 895 5 = Xi U2 895 5 := (show Xi U13 895 5 = Xi U3 895 5 from by rw [eU13]; exact Xi_ne (by omega)).trans ((show Xi U3 895 5 = Xi U2 895 5 from by rw [eU3]; exact Xi_ne (by omega)))
            have w81 : -2 ≤ Xi U2 895 5 ∧ Xi U2 895 5 ≤ 23 := hHU2.c _ _
            have w82 : Xi U13 895 6 = Xi U3 895 6 := (show Xi U13 895 6 = Xi U3 895 6 from by rw [eU13]; exact Xi_ne (by omega))
            have w83 : -1 ≤ Xi U3 895 6 ∧ Xi U3 895 6 ≤ 15 := hHU3.c _ _
            exact ⟨hHU13, hFU13, _, rfl, ⟨by omega, by omega⟩, (by first | assumption | omega), (by first | assumption | omega), (by first | assumption | omega), (by first | assumption | omega)⟩
          · refine l_aload_n rfl rfl ?_
            refine l_iload rfl rfl ?_
            refine l_sipush rfl rfl ?_
            refine l_iand255 rfl (by unfold rg; omega) ?_
            have w85 := fb2 hHU13 (lx (z := z76) (by assumption) (by omega) (by omega))
            refine l_pfi rfl rfl rfl rfl ?_
            obtain ⟨U14, eU14⟩ : ∃ T : sS, T = uI U13 895 5 (Int32.ofInt (z76 % 256)) := ⟨_, rfl⟩
            rw [← eU14]
            have hHU14 : HI U14 := by rw [eU14]; exact HI_w hHU13 (show -2 ≤ (z76 % 256) by omega) (show (z76 % 256) ≤ 23 by omega)
            have hFU14 : FR md_me_readThing S U14 := by rw [eU14]; exact FR.wI hFU13 (mdf_i (r := (895, 896, 5, 6)) (List.mem_of_getElem? (i := 0) rfl) (inR_i (by omega) (by omega) (by omega) (by omega)))
            have w86 : Xi U14 895 5 = (z76 % 256) := by rw [eU14]; exact Xi_same (by unfold rg; omega)
            refine l_aload_n rfl rfl ?_
            refine l_aload_n rfl rfl ?_
            refine l_gfr rfl rfl rfl rfl rfl (hHU14.r 895 2 20 rfl) ?_
            refine l_gfr rfl rfl rfl rfl rfl (hHU14.r 20 2 21 rfl) ?_
            refine l_aload_n rfl rfl ?_
            refine l_gfi rfl rfl rfl rfl rfl ?_
            refine l_iaload (n := 24) rfl rfl (by omega) (by omega) (by unfold rg; omega) ?_
            have w87 : 0 ≤ (Xi U14 21 (((Xi U14 895 5)).toNat)) ∧ (Xi U14 21 (((Xi U14 895 5)).toNat)) ≤ 15 := hHU14.c _ _
            refine l_pfi rfl rfl rfl rfl ?_
            obtain ⟨U15, eU15⟩ : ∃ T : sS, T = uI U14 895 6 (Int32.ofInt (Xi U14 21 (((Xi U14 895 5)).toNat))) := ⟨_, rfl⟩
            rw [← eU15]
            have hHU15 : HI U15 := by rw [eU15]; exact HI_w hHU14 (show -1 ≤ (Xi U14 21 (((Xi U14 895 5)).toNat)) by omega) (show (Xi U14 21 (((Xi U14 895 5)).toNat)) ≤ 15 by omega)
            have hFU15 : FR md_me_readThing S U15 := by rw [eU15]; exact FR.wI hFU14 (mdf_i (r := (895, 896, 6, 7)) (List.mem_of_getElem? (i := 1) rfl) (inR_i (by omega) (by omega) (by omega) (by omega)))
            have w88 : Xi U15 895 6 = (Xi U14 21 (((Xi U14 895 5)).toNat)) := by rw [eU15]; exact Xi_same (by unfold rg; omega)
            refine l_iload rfl rfl ?_
            refine l_ireturn rfl rfl ?_
            have w89 : Xi U15 895 5 = Xi U14 895 5 := (show Xi U15 895 5 = Xi U14 895 5 from by rw [eU15]; exact Xi_ne (by omega))
            have w90 : -2 ≤ Xi U14 895 5 ∧ Xi U14 895 5 ≤ 23 := hHU14.c _ _
            have w91 : -1 ≤ Xi U15 895 6 ∧ Xi U15 895 6 ≤ 15 := hHU15.c _ _
            exact ⟨hHU15, hFU15, _, rfl, ⟨by omega, by omega⟩, (by first | assumption | omega), (by first | assumption | omega), (by first | assumption | omega), (by first | assumption | omega)⟩
        · refine l_iload_n rfl rfl ?_
          refine l_iconst rfl ?_
          refine l_iadd rfl ?_
          refine l_goto rfl rfl ?_
          refine l_pfi rfl rfl rfl rfl ?_
          obtain ⟨U16, eU16⟩ : ∃ T : sS, T = uI U3 895 7 (Int32.ofInt (from_ + 1)) := ⟨_, rfl⟩
          rw [← eU16]
          have hHU16 : HI U16 := by rw [eU16]; exact HI_any hHU3 (rfl)
          have hFU16 : FR md_me_readThing S U16 := by rw [eU16]; exact FR.wI hFU3 (mdf_i (r := (895, 896, 7, 8)) (List.mem_of_getElem? (i := 2) rfl) (inR_i (by omega) (by omega) (by omega) (by omega)))
          have w92 : Xi U16 895 7 = (from_ + 1) := by rw [eU16]; exact Xi_same (by unfold rg; omega)
          refine l_aload_n rfl rfl ?_
          refine l_gfr rfl rfl rfl rfl rfl (hHU16.r 895 0 876 rfl) ?_
          refine l_aload_n rfl rfl ?_
          refine l_gfi rfl rfl rfl rfl rfl ?_
          refine l_iload_n rfl rfl ?_
          have w93 : Xi U16 876 7 = Xi S 876 7 := (show Xi U16 876 7 = Xi U3 876 7 from by rw [eU16]; exact Xi_ne (by omega)).trans ( (show Xi U3 876 7 = Xi U2 876 7 from by rw [eU3]; exact Xi_ne (by omega)).trans ( (show Xi U2 876 7 = Xi U1 876 7 from by rw [eU2]; exact Xi_ne (by omega)).trans ((show Xi U1 876 7 = Xi S 876 7 from by rw [eU1]; exact Xi_ne (by omega)))))
          refine l_callV rfl rfl rfl (t_to_runEndUpTo hHU16 (Xi U16 895 7) limit ⟨by omega, by omega⟩ ⟨by omega, by omega⟩ _) ?_
          rintro _ _ ⟨rfl, z102, rfl, w102, w95, w96, w97, w98, w99, w100, w101⟩
          show Rl _ _ _ _ _ [iv z102] _ _
          refine l_istore rfl rfl rfl ?_
          refine l_aload_n rfl rfl ?_
          refine l_gfr rfl rfl rfl rfl rfl (hHU16.r 895 1 1 rfl) ?_
          refine l_aload_n rfl rfl ?_
          refine l_gfr rfl rfl rfl rfl rfl (hHU16.r 895 0 876 rfl) ?_
          refine l_gfr rfl rfl rfl rfl rfl (hHU16.r 876 2 879 rfl) ?_
          refine l_aload_n rfl rfl ?_
          refine l_gfi rfl rfl rfl rfl rfl ?_
          refine l_iload rfl rfl ?_
          refine l_callV rfl rfl rfl (t_vo_meaning hHU16 879 5130 (Xi U16 895 7) z102 rfl ⟨by omega, by omega⟩ ⟨by omega, by omega⟩ ⟨by omega, by omega⟩ (by first | assumption | exact (LEX_FR hFU16 rfl rfl (by assumption : LEX S))) _) ?_
          rintro _ _ ⟨rfl, z106, rfl, w106, w103, w104, w105⟩
          show Rl _ _ _ _ _ [iv z106] _ _
          have hmnz106 := mOK_n (z := z106) (by assumption)
          refine l_istore rfl rfl rfl ?_
          refine l_iload rfl rfl ?_
          refine l_bipush rfl rfl ?_
          refine l_ishr8 rfl (by unfold rg; omega) ?_
          refine l_iconst rfl ?_
          refine l_icmp_ne rfl rfl (by unfold rg; omega) (by unfold rg; omega) (fun w108 => ?_) (fun w109 => ?_)
          · refine l_iload rfl rfl ?_
            refine l_ireturn rfl rfl ?_
            have w110 : Xi U16 895 5 = Xi U2 895 5 := (show Xi U16 895 5 = Xi U3 895 5 from by rw [eU16]; exact Xi_ne (by omega)).trans ((show Xi U3 895 5 = Xi U2 895 5 from by rw [eU3]; exact Xi_ne (by omega)))
            have w111 : -2 ≤ Xi U2 895 5 ∧ Xi U2 895 5 ≤ 23 := hHU2.c _ _
            have w112 : Xi U16 895 6 = Xi U3 895 6 := (show Xi U16 895 6 = Xi U3 895 6 from by rw [eU16]; exact Xi_ne (by omega))
            have w113 : -1 ≤ Xi U3 895 6 ∧ Xi U3 895 6 ≤ 15 := hHU3.c _ _
            exact ⟨hHU16, hFU16, _, rfl, ⟨by omega, by omega⟩, (by first | assumption | omega), (by first | assumption | omega), (by first | assumption | omega), (by first | assumption | omega)⟩
          · refine l_aload_n rfl rfl ?_
            refine l_iload rfl rfl ?_
            refine l_sipush rfl rfl ?_
            refine l_iand255 rfl (by unfold rg; omega) ?_
            have w115 := fb2 hHU16 (lx (z := z106) (by assumption) (by omega) (by omega))
            refine l_pfi rfl rfl rfl rfl ?_
            obtain ⟨U17, eU17⟩ : ∃ T : sS, T = uI U16 895 5 (Int32.ofInt (z106 % 256)) := ⟨_, rfl⟩
            rw [← eU17]
            have hHU17 : HI U17 := by rw [eU17]; exact HI_w hHU16 (show -2 ≤ (z106 % 256) by omega) (show (z106 % 256) ≤ 23 by omega)
            have hFU17 : FR md_me_readThing S U17 := by rw [eU17]; exact FR.wI hFU16 (mdf_i (r := (895, 896, 5, 6)) (List.mem_of_getElem? (i := 0) rfl) (inR_i (by omega) (by omega) (by omega) (by omega)))
            have w116 : Xi U17 895 5 = (z106 % 256) := by rw [eU17]; exact Xi_same (by unfold rg; omega)
            refine l_aload_n rfl rfl ?_
            refine l_aload_n rfl rfl ?_
            refine l_gfr rfl rfl rfl rfl rfl (hHU17.r 895 2 20 rfl) ?_
            refine l_gfr rfl rfl rfl rfl rfl (hHU17.r 20 2 21 rfl) ?_
            refine l_aload_n rfl rfl ?_
            refine l_gfi rfl rfl rfl rfl rfl ?_
            refine l_iaload (n := 24) rfl rfl (by omega) (by omega) (by unfold rg; omega) ?_
            have w117 : 0 ≤ (Xi U17 21 (((Xi U17 895 5)).toNat)) ∧ (Xi U17 21 (((Xi U17 895 5)).toNat)) ≤ 15 := hHU17.c _ _
            refine l_pfi rfl rfl rfl rfl ?_
            obtain ⟨U18, eU18⟩ : ∃ T : sS, T = uI U17 895 6 (Int32.ofInt (Xi U17 21 (((Xi U17 895 5)).toNat))) := ⟨_, rfl⟩
            rw [← eU18]
            have hHU18 : HI U18 := by rw [eU18]; exact HI_w hHU17 (show -1 ≤ (Xi U17 21 (((Xi U17 895 5)).toNat)) by omega) (show (Xi U17 21 (((Xi U17 895 5)).toNat)) ≤ 15 by omega)
            have hFU18 : FR md_me_readThing S U18 := by rw [eU18]; exact FR.wI hFU17 (mdf_i (r := (895, 896, 6, 7)) (List.mem_of_getElem? (i := 1) rfl) (inR_i (by omega) (by omega) (by omega) (by omega)))
            have w118 : Xi U18 895 6 = (Xi U17 21 (((Xi U17 895 5)).toNat)) := by rw [eU18]; exact Xi_same (by unfold rg; omega)
            refine l_iload rfl rfl ?_
            refine l_ireturn rfl rfl ?_
            have w119 : Xi U18 895 5 = Xi U17 895 5 := (show Xi U18 895 5 = Xi U17 895 5 from by rw [eU18]; exact Xi_ne (by omega))
            have w120 : -2 ≤ Xi U17 895 5 ∧ Xi U17 895 5 ≤ 23 := hHU17.c _ _
            have w121 : -1 ≤ Xi U18 895 6 ∧ Xi U18 895 6 ≤ 15 := hHU18.c _ _
            exact ⟨hHU18, hFU18, _, rfl, ⟨by omega, by omega⟩, (by first | assumption | omega), (by first | assumption | omega), (by first | assumption | omega), (by first | assumption | omega)⟩
      · refine l_aload_n rfl rfl ?_
        refine l_iload_n rfl rfl ?_
        refine l_aload_n rfl rfl ?_
        refine l_gfi rfl rfl rfl rfl rfl ?_
        have w122 : -2147483648 ≤ (Xi U3 895 3) ∧ (Xi U3 895 3) ≤ 2147483647 := Xi_rgI
        refine l_icmp_ne rfl rfl (by unfold rg; omega) (by unfold rg; omega) (fun w123 => ?_) (fun w124 => ?_)
        · refine l_iconst rfl ?_
          refine l_pfi rfl rfl rfl rfl ?_
          obtain ⟨U19, eU19⟩ : ∃ T : sS, T = uI U3 895 5 (Int32.ofInt (-1)) := ⟨_, rfl⟩
          rw [← eU19]
          have hHU19 : HI U19 := by rw [eU19]; exact HI_w hHU3 (show -2 ≤ (-1) by omega) (show (-1) ≤ 23 by omega)
          have hFU19 : FR md_me_readThing S U19 := by rw [eU19]; exact FR.wI hFU3 (mdf_i (r := (895, 896, 5, 6)) (List.mem_of_getElem? (i := 0) rfl) (inR_i (by omega) (by omega) (by omega) (by omega)))
          have w125 : Xi U19 895 5 = (-1) := by rw [eU19]; exact Xi_same (by unfold rg; omega)
          refine l_aload_n rfl rfl ?_
          refine l_aload_n rfl rfl ?_
          refine l_gfi rfl rfl rfl rfl rfl ?_
          refine l_bipush rfl rfl ?_
          refine l_icmp_ne rfl rfl (by unfold rg; omega) (by unfold rg; omega) (fun w126 => ?_) (fun w127 => ?_)
          · refine l_iconst rfl ?_
            refine l_pfi rfl rfl rfl rfl ?_
            obtain ⟨U20, eU20⟩ : ∃ T : sS, T = uI U19 895 6 (Int32.ofInt (-1)) := ⟨_, rfl⟩
            rw [← eU20]
            have hHU20 : HI U20 := by rw [eU20]; exact HI_w hHU19 (show -1 ≤ (-1) by omega) (show (-1) ≤ 15 by omega)
            have hFU20 : FR md_me_readThing S U20 := by rw [eU20]; exact FR.wI hFU19 (mdf_i (r := (895, 896, 6, 7)) (List.mem_of_getElem? (i := 1) rfl) (inR_i (by omega) (by omega) (by omega) (by omega)))
            have w128 : Xi U20 895 6 = (-1) := by rw [eU20]; exact Xi_same (by unfold rg; omega)
            refine l_iload rfl rfl ?_
            refine l_ireturn rfl rfl ?_
            have w129 : Xi U20 895 5 = Xi U19 895 5 := (show Xi U20 895 5 = Xi U19 895 5 from by rw [eU20]; exact Xi_ne (by omega))
            have w130 : -2 ≤ Xi U19 895 5 ∧ Xi U19 895 5 ≤ 23 := hHU19.c _ _
            have w131 : -1 ≤ Xi U20 895 6 ∧ Xi U20 895 6 ≤ 15 := hHU20.c _ _
            exact ⟨hHU20, hFU20, _, rfl, ⟨by omega, by omega⟩, (by first | assumption | omega), (by first | assumption | omega), (by first | assumption | omega), (by first | assumption | omega)⟩
          · refine l_aload_n rfl rfl ?_
            refine l_gfi rfl rfl rfl rfl rfl ?_
            have w132 : (Xi U19 895 4) = (Xi S 895 4) := (show Xi U19 895 4 = Xi U3 895 4 from by rw [eU19]; exact Xi_ne (by omega)).trans ( (show Xi U3 895 4 = Xi U2 895 4 from by rw [eU3]; exact Xi_ne (by omega)).trans ( (show Xi U2 895 4 = Xi U1 895 4 from by rw [eU2]; exact Xi_ne (by omega)).trans ((show Xi U1 895 4 = Xi S 895 4 from by rw [eU1]; exact Xi_ne (by omega)))))
            rw [w132]
            refine l_goto rfl rfl ?_
            refine l_pfi rfl rfl rfl rfl ?_
            obtain ⟨U21, eU21⟩ : ∃ T : sS, T = uI U19 895 6 (Int32.ofInt (Xi S 895 4)) := ⟨_, rfl⟩
            rw [← eU21]
            have hHU21 : HI U21 := by rw [eU21]; exact HI_w hHU19 (show -1 ≤ (Xi S 895 4) by omega) (show (Xi S 895 4) ≤ 15 by omega)
            have hFU21 : FR md_me_readThing S U21 := by rw [eU21]; exact FR.wI hFU19 (mdf_i (r := (895, 896, 6, 7)) (List.mem_of_getElem? (i := 1) rfl) (inR_i (by omega) (by omega) (by omega) (by omega)))
            have w133 : Xi U21 895 6 = (Xi S 895 4) := by rw [eU21]; exact Xi_same (by unfold rg; omega)
            refine l_iload rfl rfl ?_
            refine l_ireturn rfl rfl ?_
            have w134 : Xi U21 895 5 = Xi U19 895 5 := (show Xi U21 895 5 = Xi U19 895 5 from by rw [eU21]; exact Xi_ne (by omega))
            have w135 : -2 ≤ Xi U19 895 5 ∧ Xi U19 895 5 ≤ 23 := hHU19.c _ _
            have w136 : -1 ≤ Xi U21 895 6 ∧ Xi U21 895 6 ≤ 15 := hHU21.c _ _
            exact ⟨hHU21, hFU21, _, rfl, ⟨by omega, by omega⟩, (by first | assumption | omega), (by first | assumption | omega), (by first | assumption | omega), (by first | assumption | omega)⟩
        · refine l_aload_n rfl rfl ?_
          refine l_gfi rfl rfl rfl rfl rfl ?_
          have w137 : (Xi U3 895 4) = (Xi S 895 4) := (show Xi U3 895 4 = Xi U2 895 4 from by rw [eU3]; exact Xi_ne (by omega)).trans ( (show Xi U2 895 4 = Xi U1 895 4 from by rw [eU2]; exact Xi_ne (by omega)).trans ((show Xi U1 895 4 = Xi S 895 4 from by rw [eU1]; exact Xi_ne (by omega))))
          rw [w137]
          refine l_iconst rfl ?_
          refine l_icmp_eq rfl rfl (by unfold rg; omega) (by unfold rg; omega) (fun w138 => ?_) (fun w139 => ?_)
          · refine l_iconst rfl ?_
            refine l_pfi rfl rfl rfl rfl ?_
            obtain ⟨U22, eU22⟩ : ∃ T : sS, T = uI U3 895 5 (Int32.ofInt (-1)) := ⟨_, rfl⟩
            rw [← eU22]
            have hHU22 : HI U22 := by rw [eU22]; exact HI_w hHU3 (show -2 ≤ (-1) by omega) (show (-1) ≤ 23 by omega)
            have hFU22 : FR md_me_readThing S U22 := by rw [eU22]; exact FR.wI hFU3 (mdf_i (r := (895, 896, 5, 6)) (List.mem_of_getElem? (i := 0) rfl) (inR_i (by omega) (by omega) (by omega) (by omega)))
            have w140 : Xi U22 895 5 = (-1) := by rw [eU22]; exact Xi_same (by unfold rg; omega)
            refine l_aload_n rfl rfl ?_
            refine l_aload_n rfl rfl ?_
            refine l_gfi rfl rfl rfl rfl rfl ?_
            refine l_bipush rfl rfl ?_
            refine l_icmp_ne rfl rfl (by unfold rg; omega) (by unfold rg; omega) (fun w141 => ?_) (fun w142 => ?_)
            · refine l_iconst rfl ?_
              refine l_pfi rfl rfl rfl rfl ?_
              obtain ⟨U23, eU23⟩ : ∃ T : sS, T = uI U22 895 6 (Int32.ofInt (-1)) := ⟨_, rfl⟩
              rw [← eU23]
              have hHU23 : HI U23 := by rw [eU23]; exact HI_w hHU22 (show -1 ≤ (-1) by omega) (show (-1) ≤ 15 by omega)
              have hFU23 : FR md_me_readThing S U23 := by rw [eU23]; exact FR.wI hFU22 (mdf_i (r := (895, 896, 6, 7)) (List.mem_of_getElem? (i := 1) rfl) (inR_i (by omega) (by omega) (by omega) (by omega)))
              have w143 : Xi U23 895 6 = (-1) := by rw [eU23]; exact Xi_same (by unfold rg; omega)
              refine l_iload rfl rfl ?_
              refine l_ireturn rfl rfl ?_
              have w144 : Xi U23 895 5 = Xi U22 895 5 := (show Xi U23 895 5 = Xi U22 895 5 from by rw [eU23]; exact Xi_ne (by omega))
              have w145 : -2 ≤ Xi U22 895 5 ∧ Xi U22 895 5 ≤ 23 := hHU22.c _ _
              have w146 : -1 ≤ Xi U23 895 6 ∧ Xi U23 895 6 ≤ 15 := hHU23.c _ _
              exact ⟨hHU23, hFU23, _, rfl, ⟨by omega, by omega⟩, (by first | assumption | omega), (by first | assumption | omega), (by first | assumption | omega), (by first | assumption | omega)⟩
            · refine l_aload_n rfl rfl ?_
              refine l_gfi rfl rfl rfl rfl rfl ?_
              have w147 : (Xi U22 895 4) = (Xi S 895 4) := (show Xi U22 895 4 = Xi U3 895 4 from by rw [eU22]; exact Xi_ne (by omega)).trans ( (show Xi U3 895 4 = Xi U2 895 4 from by rw [eU3]; exact Xi_ne (by omega)).trans ( (show Xi U2 895 4 = Xi U1 895 4 from by rw [eU2]; exact Xi_ne (by omega)).trans ((show Xi U1 895 4 = Xi S 895 4 from by rw [eU1]; exact Xi_ne (by omega)))))
              rw [w147]
              refine l_goto rfl rfl ?_
              refine l_pfi rfl rfl rfl rfl ?_
              obtain ⟨U24, eU24⟩ : ∃ T : sS, T = uI U22 895 6 (Int32.ofInt (Xi S 895 4)) := ⟨_, rfl⟩
              rw [← eU24]
              have hHU24 : HI U24 := by rw [eU24]; exact HI_w hHU22 (show -1 ≤ (Xi S 895 4) by omega) (show (Xi S 895 4) ≤ 15 by omega)
              have hFU24 : FR md_me_readThing S U24 := by rw [eU24]; exact FR.wI hFU22 (mdf_i (r := (895, 896, 6, 7)) (List.mem_of_getElem? (i := 1) rfl) (inR_i (by omega) (by omega) (by omega) (by omega)))
              have w148 : Xi U24 895 6 = (Xi S 895 4) := by rw [eU24]; exact Xi_same (by unfold rg; omega)
              refine l_iload rfl rfl ?_
              refine l_ireturn rfl rfl ?_
              have w149 : Xi U24 895 5 = Xi U22 895 5 := (show Xi U24 895 5 = Xi U22 895 5 from by rw [eU24]; exact Xi_ne (by omega))
              have w150 : -2 ≤ Xi U22 895 5 ∧ Xi U22 895 5 ≤ 23 := hHU22.c _ _
              have w151 : -1 ≤ Xi U24 895 6 ∧ Xi U24 895 6 ≤ 15 := hHU24.c _ _
              exact ⟨hHU24, hFU24, _, rfl, ⟨by omega, by omega⟩, (by first | assumption | omega), (by first | assumption | omega), (by first | assumption | omega), (by first | assumption | omega)⟩
          · refine l_bipush rfl rfl ?_
            refine l_goto rfl rfl ?_
            refine l_pfi rfl rfl rfl rfl ?_
            obtain ⟨U25, eU25⟩ : ∃ T : sS, T = uI U3 895 5 (Int32.ofInt (-2)) := ⟨_, rfl⟩
            rw [← eU25]
            have hHU25 : HI U25 := by rw [eU25]; exact HI_w hHU3 (show -2 ≤ (-2) by omega) (show (-2) ≤ 23 by omega)
            have hFU25 : FR md_me_readThing S U25 := by rw [eU25]; exact FR.wI hFU3 (mdf_i (r := (895, 896, 5, 6)) (List.mem_of_getElem? (i := 0) rfl) (inR_i (by omega) (by omega) (by omega) (by omega)))
            have w152 : Xi U25 895 5 = (-2) := by rw [eU25]; exact Xi_same (by unfold rg; omega)
            refine l_aload_n rfl rfl ?_
            refine l_aload_n rfl rfl ?_
            refine l_gfi rfl rfl rfl rfl rfl ?_
            refine l_bipush rfl rfl ?_
            refine l_icmp_ne rfl rfl (by unfold rg; omega) (by unfold rg; omega) (fun w153 => ?_) (fun w154 => ?_)
            · refine l_iconst rfl ?_
              refine l_pfi rfl rfl rfl rfl ?_
              obtain ⟨U26, eU26⟩ : ∃ T : sS, T = uI U25 895 6 (Int32.ofInt (-1)) := ⟨_, rfl⟩
              rw [← eU26]
              have hHU26 : HI U26 := by rw [eU26]; exact HI_w hHU25 (show -1 ≤ (-1) by omega) (show (-1) ≤ 15 by omega)
              have hFU26 : FR md_me_readThing S U26 := by rw [eU26]; exact FR.wI hFU25 (mdf_i (r := (895, 896, 6, 7)) (List.mem_of_getElem? (i := 1) rfl) (inR_i (by omega) (by omega) (by omega) (by omega)))
              have w155 : Xi U26 895 6 = (-1) := by rw [eU26]; exact Xi_same (by unfold rg; omega)
              refine l_iload rfl rfl ?_
              refine l_ireturn rfl rfl ?_
              have w156 : Xi U26 895 5 = Xi U25 895 5 := (show Xi U26 895 5 = Xi U25 895 5 from by rw [eU26]; exact Xi_ne (by omega))
              have w157 : -2 ≤ Xi U25 895 5 ∧ Xi U25 895 5 ≤ 23 := hHU25.c _ _
              have w158 : -1 ≤ Xi U26 895 6 ∧ Xi U26 895 6 ≤ 15 := hHU26.c _ _
              exact ⟨hHU26, hFU26, _, rfl, ⟨by omega, by omega⟩, (by first | assumption | omega), (by first | assumption | omega), (by first | assumption | omega), (by first | assumption | omega)⟩
            · refine l_aload_n rfl rfl ?_
              refine l_gfi rfl rfl rfl rfl rfl ?_
              have w159 : (Xi U25 895 4) = (Xi S 895 4) := (show Xi U25 895 4 = Xi U3 895 4 from by rw [eU25]; exact Xi_ne (by omega)).trans ( (show Xi U3 895 4 = Xi U2 895 4 from by rw [eU3]; exact Xi_ne (by omega)).trans ( (show Xi U2 895 4 = Xi U1 895 4 from by rw [eU2]; exact Xi_ne (by omega)).trans ((show Xi U1 895 4 = Xi S 895 4 from by rw [eU1]; exact Xi_ne (by omega)))))
              rw [w159]
              refine l_goto rfl rfl ?_
              refine l_pfi rfl rfl rfl rfl ?_
              obtain ⟨U27, eU27⟩ : ∃ T : sS, T = uI U25 895 6 (Int32.ofInt (Xi S 895 4)) := ⟨_, rfl⟩
              rw [← eU27]
              have hHU27 : HI U27 := by rw [eU27]; exact HI_w hHU25 (show -1 ≤ (Xi S 895 4) by omega) (show (Xi S 895 4) ≤ 15 by omega)
              have hFU27 : FR md_me_readThing S U27 := by rw [eU27]; exact FR.wI hFU25 (mdf_i (r := (895, 896, 6, 7)) (List.mem_of_getElem? (i := 1) rfl) (inR_i (by omega) (by omega) (by omega) (by omega)))
              have w160 : Xi U27 895 6 = (Xi S 895 4) := by rw [eU27]; exact Xi_same (by unfold rg; omega)
              refine l_iload rfl rfl ?_
              refine l_ireturn rfl rfl ?_
              have w161 : Xi U27 895 5 = Xi U25 895 5 := (show Xi U27 895 5 = Xi U25 895 5 from by rw [eU27]; exact Xi_ne (by omega))
              have w162 : -2 ≤ Xi U25 895 5 ∧ Xi U25 895 5 ≤ 23 := hHU25.c _ _
              have w163 : -1 ≤ Xi U27 895 6 ∧ Xi U27 895 6 ≤ 15 := hHU27.c _ _
              exact ⟨hHU27, hFU27, _, rfl, ⟨by omega, by omega⟩, (by first | assumption | omega), (by first | assumption | omega), (by first | assumption | omega), (by first | assumption | omega)⟩
  · refine l_aload_n rfl rfl ?_
    refine l_gfr rfl rfl rfl rfl rfl (hH.r 895 0 876 rfl) ?_
    refine l_iload_n rfl rfl ?_
    refine l_iconst rfl ?_
    refine l_iadd rfl ?_
    refine l_callV rfl rfl rfl (t_to_typeAt hH (from_ + 1) ⟨by omega, by omega⟩ _) ?_
    rintro _ _ ⟨rfl, z168, rfl, w168, w165, w166, w167⟩
    show Rl _ _ _ _ _ [iv z168] _ _
    refine l_bipush rfl rfl ?_
    refine l_icmp_ne rfl rfl (by unfold rg; omega) (by unfold rg; omega) (fun w169 => ?_) (fun w170 => ?_)
    · refine l_aload_n rfl rfl ?_
      refine l_iload_n rfl rfl ?_
      refine l_pfi rfl rfl rfl rfl ?_
      obtain ⟨U28, eU28⟩ : ∃ T : sS, T = uI S 895 7 (Int32.ofInt from_) := ⟨_, rfl⟩
      rw [← eU28]
      have hHU28 : HI U28 := by rw [eU28]; exact HI_any hH (rfl)
      have hFU28 : FR md_me_readThing S U28 := by rw [eU28]; exact FR.wI hF (mdf_i (r := (895, 896, 7, 8)) (List.mem_of_getElem? (i := 2) rfl) (inR_i (by omega) (by omega) (by omega) (by omega)))
      have w171 : Xi U28 895 7 = from_ := by rw [eU28]; exact Xi_same (by unfold rg; omega)
      refine l_aload_n rfl rfl ?_
      refine l_iconst rfl ?_
      refine l_pfi rfl rfl rfl rfl ?_
      obtain ⟨U29, eU29⟩ : ∃ T : sS, T = uI U28 895 5 (Int32.ofInt (-1)) := ⟨_, rfl⟩
      rw [← eU29]
      have hHU29 : HI U29 := by rw [eU29]; exact HI_w hHU28 (show -2 ≤ (-1) by omega) (show (-1) ≤ 23 by omega)
      have hFU29 : FR md_me_readThing S U29 := by rw [eU29]; exact FR.wI hFU28 (mdf_i (r := (895, 896, 5, 6)) (List.mem_of_getElem? (i := 0) rfl) (inR_i (by omega) (by omega) (by omega) (by omega)))
      have w172 : Xi U29 895 5 = (-1) := by rw [eU29]; exact Xi_same (by unfold rg; omega)
      refine l_aload_n rfl rfl ?_
      refine l_iconst rfl ?_
      refine l_pfi rfl rfl rfl rfl ?_
      obtain ⟨U30, eU30⟩ : ∃ T : sS, T = uI U29 895 6 (Int32.ofInt (-1)) := ⟨_, rfl⟩
      rw [← eU30]
      have hHU30 : HI U30 := by rw [eU30]; exact HI_w hHU29 (show -1 ≤ (-1) by omega) (show (-1) ≤ 15 by omega)
      have hFU30 : FR md_me_readThing S U30 := by rw [eU30]; exact FR.wI hFU29 (mdf_i (r := (895, 896, 6, 7)) (List.mem_of_getElem? (i := 1) rfl) (inR_i (by omega) (by omega) (by omega) (by omega)))
      have w173 : Xi U30 895 6 = (-1) := by rw [eU30]; exact Xi_same (by unfold rg; omega)
      refine l_iload_n rfl rfl ?_
      refine l_bipush rfl rfl ?_
      refine l_icmp_eq rfl rfl (by unfold rg; omega) (by unfold rg; omega) (fun w174 => ?_) (fun w175 => ?_)
      · refine l_aload_n rfl rfl ?_
        refine l_iload_n rfl rfl ?_
        refine l_aload_n rfl rfl ?_
        refine l_gfi rfl rfl rfl rfl rfl ?_
        have w176 : -2147483648 ≤ (Xi U30 895 3) ∧ (Xi U30 895 3) ≤ 2147483647 := Xi_rgI
        refine l_icmp_ne rfl rfl (by unfold rg; omega) (by unfold rg; omega) (fun w177 => ?_) (fun w178 => ?_)
        · refine l_iconst rfl ?_
          refine l_pfi rfl rfl rfl rfl ?_
          obtain ⟨U31, eU31⟩ : ∃ T : sS, T = uI U30 895 5 (Int32.ofInt (-1)) := ⟨_, rfl⟩
          rw [← eU31]
          have hHU31 : HI U31 := by rw [eU31]; exact HI_w hHU30 (show -2 ≤ (-1) by omega) (show (-1) ≤ 23 by omega)
          have hFU31 : FR md_me_readThing S U31 := by rw [eU31]; exact FR.wI hFU30 (mdf_i (r := (895, 896, 5, 6)) (List.mem_of_getElem? (i := 0) rfl) (inR_i (by omega) (by omega) (by omega) (by omega)))
          have w179 : Xi U31 895 5 = (-1) := by rw [eU31]; exact Xi_same (by unfold rg; omega)
          refine l_aload_n rfl rfl ?_
          refine l_aload_n rfl rfl ?_
          refine l_gfi rfl rfl rfl rfl rfl ?_
          refine l_bipush rfl rfl ?_
          refine l_icmp_ne rfl rfl (by unfold rg; omega) (by unfold rg; omega) (fun w180 => ?_) (fun w181 => ?_)
          · refine l_iconst rfl ?_
            refine l_pfi rfl rfl rfl rfl ?_
            obtain ⟨U32, eU32⟩ : ∃ T : sS, T = uI U31 895 6 (Int32.ofInt (-1)) := ⟨_, rfl⟩
            rw [← eU32]
            have hHU32 : HI U32 := by rw [eU32]; exact HI_w hHU31 (show -1 ≤ (-1) by omega) (show (-1) ≤ 15 by omega)
            have hFU32 : FR md_me_readThing S U32 := by rw [eU32]; exact FR.wI hFU31 (mdf_i (r := (895, 896, 6, 7)) (List.mem_of_getElem? (i := 1) rfl) (inR_i (by omega) (by omega) (by omega) (by omega)))
            have w182 : Xi U32 895 6 = (-1) := by rw [eU32]; exact Xi_same (by unfold rg; omega)
            refine l_iload rfl rfl ?_
            refine l_ireturn rfl rfl ?_
            have w183 : Xi U32 895 5 = Xi U31 895 5 := (show Xi U32 895 5 = Xi U31 895 5 from by rw [eU32]; exact Xi_ne (by omega))
            have w184 : -2 ≤ Xi U31 895 5 ∧ Xi U31 895 5 ≤ 23 := hHU31.c _ _
            have w185 : -1 ≤ Xi U32 895 6 ∧ Xi U32 895 6 ≤ 15 := hHU32.c _ _
            exact ⟨hHU32, hFU32, _, rfl, ⟨by omega, by omega⟩, (by first | assumption | omega), (by first | assumption | omega), (by first | assumption | omega), (by first | assumption | omega)⟩
          · refine l_aload_n rfl rfl ?_
            refine l_gfi rfl rfl rfl rfl rfl ?_
            have w186 : (Xi U31 895 4) = (Xi S 895 4) := (show Xi U31 895 4 = Xi U30 895 4 from by rw [eU31]; exact Xi_ne (by omega)).trans ( (show Xi U30 895 4 = Xi U29 895 4 from by rw [eU30]; exact Xi_ne (by omega)).trans ( (show Xi U29 895 4 = Xi U28 895 4 from by rw [eU29]; exact Xi_ne (by omega)).trans ((show Xi U28 895 4 = Xi S 895 4 from by rw [eU28]; exact Xi_ne (by omega)))))
            rw [w186]
            refine l_goto rfl rfl ?_
            refine l_pfi rfl rfl rfl rfl ?_
            obtain ⟨U33, eU33⟩ : ∃ T : sS, T = uI U31 895 6 (Int32.ofInt (Xi S 895 4)) := ⟨_, rfl⟩
            rw [← eU33]
            have hHU33 : HI U33 := by rw [eU33]; exact HI_w hHU31 (show -1 ≤ (Xi S 895 4) by omega) (show (Xi S 895 4) ≤ 15 by omega)
            have hFU33 : FR md_me_readThing S U33 := by rw [eU33]; exact FR.wI hFU31 (mdf_i (r := (895, 896, 6, 7)) (List.mem_of_getElem? (i := 1) rfl) (inR_i (by omega) (by omega) (by omega) (by omega)))
            have w187 : Xi U33 895 6 = (Xi S 895 4) := by rw [eU33]; exact Xi_same (by unfold rg; omega)
            refine l_iload rfl rfl ?_
            refine l_ireturn rfl rfl ?_
            have w188 : Xi U33 895 5 = Xi U31 895 5 := (show Xi U33 895 5 = Xi U31 895 5 from by rw [eU33]; exact Xi_ne (by omega))
            have w189 : -2 ≤ Xi U31 895 5 ∧ Xi U31 895 5 ≤ 23 := hHU31.c _ _
            have w190 : -1 ≤ Xi U33 895 6 ∧ Xi U33 895 6 ≤ 15 := hHU33.c _ _
            exact ⟨hHU33, hFU33, _, rfl, ⟨by omega, by omega⟩, (by first | assumption | omega), (by first | assumption | omega), (by first | assumption | omega), (by first | assumption | omega)⟩
        · refine l_aload_n rfl rfl ?_
          refine l_gfi rfl rfl rfl rfl rfl ?_
          have w191 : (Xi U30 895 4) = (Xi S 895 4) := (show Xi U30 895 4 = Xi U29 895 4 from by rw [eU30]; exact Xi_ne (by omega)).trans ( (show Xi U29 895 4 = Xi U28 895 4 from by rw [eU29]; exact Xi_ne (by omega)).trans ((show Xi U28 895 4 = Xi S 895 4 from by rw [eU28]; exact Xi_ne (by omega))))
          rw [w191]
          refine l_iconst rfl ?_
          refine l_icmp_eq rfl rfl (by unfold rg; omega) (by unfold rg; omega) (fun w192 => ?_) (fun w193 => ?_)
          · refine l_iconst rfl ?_
            refine l_pfi rfl rfl rfl rfl ?_
            obtain ⟨U34, eU34⟩ : ∃ T : sS, T = uI U30 895 5 (Int32.ofInt (-1)) := ⟨_, rfl⟩
            rw [← eU34]
            have hHU34 : HI U34 := by rw [eU34]; exact HI_w hHU30 (show -2 ≤ (-1) by omega) (show (-1) ≤ 23 by omega)
            have hFU34 : FR md_me_readThing S U34 := by rw [eU34]; exact FR.wI hFU30 (mdf_i (r := (895, 896, 5, 6)) (List.mem_of_getElem? (i := 0) rfl) (inR_i (by omega) (by omega) (by omega) (by omega)))
            have w194 : Xi U34 895 5 = (-1) := by rw [eU34]; exact Xi_same (by unfold rg; omega)
            refine l_aload_n rfl rfl ?_
            refine l_aload_n rfl rfl ?_
            refine l_gfi rfl rfl rfl rfl rfl ?_
            refine l_bipush rfl rfl ?_
            refine l_icmp_ne rfl rfl (by unfold rg; omega) (by unfold rg; omega) (fun w195 => ?_) (fun w196 => ?_)
            · refine l_iconst rfl ?_
              refine l_pfi rfl rfl rfl rfl ?_
              obtain ⟨U35, eU35⟩ : ∃ T : sS, T = uI U34 895 6 (Int32.ofInt (-1)) := ⟨_, rfl⟩
              rw [← eU35]
              have hHU35 : HI U35 := by rw [eU35]; exact HI_w hHU34 (show -1 ≤ (-1) by omega) (show (-1) ≤ 15 by omega)
              have hFU35 : FR md_me_readThing S U35 := by rw [eU35]; exact FR.wI hFU34 (mdf_i (r := (895, 896, 6, 7)) (List.mem_of_getElem? (i := 1) rfl) (inR_i (by omega) (by omega) (by omega) (by omega)))
              have w197 : Xi U35 895 6 = (-1) := by rw [eU35]; exact Xi_same (by unfold rg; omega)
              refine l_iload rfl rfl ?_
              refine l_ireturn rfl rfl ?_
              have w198 : Xi U35 895 5 = Xi U34 895 5 := (show Xi U35 895 5 = Xi U34 895 5 from by rw [eU35]; exact Xi_ne (by omega))
              have w199 : -2 ≤ Xi U34 895 5 ∧ Xi U34 895 5 ≤ 23 := hHU34.c _ _
              have w200 : -1 ≤ Xi U35 895 6 ∧ Xi U35 895 6 ≤ 15 := hHU35.c _ _
              exact ⟨hHU35, hFU35, _, rfl, ⟨by omega, by omega⟩, (by first | assumption | omega), (by first | assumption | omega), (by first | assumption | omega), (by first | assumption | omega)⟩
            · refine l_aload_n rfl rfl ?_
              refine l_gfi rfl rfl rfl rfl rfl ?_
              have w201 : (Xi U34 895 4) = (Xi S 895 4) := (show Xi U34 895 4 = Xi U30 895 4 from by rw [eU34]; exact Xi_ne (by omega)).trans ( (show Xi U30 895 4 = Xi U29 895 4 from by rw [eU30]; exact Xi_ne (by omega)).trans ( (show Xi U29 895 4 = Xi U28 895 4 from by rw [eU29]; exact Xi_ne (by omega)).trans ((show Xi U28 895 4 = Xi S 895 4 from by rw [eU28]; exact Xi_ne (by omega)))))
              rw [w201]
              refine l_goto rfl rfl ?_
              refine l_pfi rfl rfl rfl rfl ?_
              obtain ⟨U36, eU36⟩ : ∃ T : sS, T = uI U34 895 6 (Int32.ofInt (Xi S 895 4)) := ⟨_, rfl⟩
              rw [← eU36]
              have hHU36 : HI U36 := by rw [eU36]; exact HI_w hHU34 (show -1 ≤ (Xi S 895 4) by omega) (show (Xi S 895 4) ≤ 15 by omega)
              have hFU36 : FR md_me_readThing S U36 := by rw [eU36]; exact FR.wI hFU34 (mdf_i (r := (895, 896, 6, 7)) (List.mem_of_getElem? (i := 1) rfl) (inR_i (by omega) (by omega) (by omega) (by omega)))
              have w202 : Xi U36 895 6 = (Xi S 895 4) := by rw [eU36]; exact Xi_same (by unfold rg; omega)
              refine l_iload rfl rfl ?_
              refine l_ireturn rfl rfl ?_
              have w203 : Xi U36 895 5 = Xi U34 895 5 := (show Xi U36 895 5 = Xi U34 895 5 from by rw [eU36]; exact Xi_ne (by omega))
              have w204 : -2 ≤ Xi U34 895 5 ∧ Xi U34 895 5 ≤ 23 := hHU34.c _ _
              have w205 : -1 ≤ Xi U36 895 6 ∧ Xi U36 895 6 ≤ 15 := hHU36.c _ _
              exact ⟨hHU36, hFU36, _, rfl, ⟨by omega, by omega⟩, (by first | assumption | omega), (by first | assumption | omega), (by first | assumption | omega), (by first | assumption | omega)⟩
          · refine l_bipush rfl rfl ?_
            refine l_goto rfl rfl ?_
            refine l_pfi rfl rfl rfl rfl ?_
            obtain ⟨U37, eU37⟩ : ∃ T : sS, T = uI U30 895 5 (Int32.ofInt (-2)) := ⟨_, rfl⟩
            rw [← eU37]
            have hHU37 : HI U37 := by rw [eU37]; exact HI_w hHU30 (show -2 ≤ (-2) by omega) (show (-2) ≤ 23 by omega)
            have hFU37 : FR md_me_readThing S U37 := by rw [eU37]; exact FR.wI hFU30 (mdf_i (r := (895, 896, 5, 6)) (List.mem_of_getElem? (i := 0) rfl) (inR_i (by omega) (by omega) (by omega) (by omega)))
            have w206 : Xi U37 895 5 = (-2) := by rw [eU37]; exact Xi_same (by unfold rg; omega)
            refine l_aload_n rfl rfl ?_
            refine l_aload_n rfl rfl ?_
            refine l_gfi rfl rfl rfl rfl rfl ?_
            refine l_bipush rfl rfl ?_
            refine l_icmp_ne rfl rfl (by unfold rg; omega) (by unfold rg; omega) (fun w207 => ?_) (fun w208 => ?_)
            · refine l_iconst rfl ?_
              refine l_pfi rfl rfl rfl rfl ?_
              obtain ⟨U38, eU38⟩ : ∃ T : sS, T = uI U37 895 6 (Int32.ofInt (-1)) := ⟨_, rfl⟩
              rw [← eU38]
              have hHU38 : HI U38 := by rw [eU38]; exact HI_w hHU37 (show -1 ≤ (-1) by omega) (show (-1) ≤ 15 by omega)
              have hFU38 : FR md_me_readThing S U38 := by rw [eU38]; exact FR.wI hFU37 (mdf_i (r := (895, 896, 6, 7)) (List.mem_of_getElem? (i := 1) rfl) (inR_i (by omega) (by omega) (by omega) (by omega)))
              have w209 : Xi U38 895 6 = (-1) := by rw [eU38]; exact Xi_same (by unfold rg; omega)
              refine l_iload rfl rfl ?_
              refine l_ireturn rfl rfl ?_
              have w210 : Xi U38 895 5 = Xi U37 895 5 := (show Xi U38 895 5 = Xi U37 895 5 from by rw [eU38]; exact Xi_ne (by omega))
              have w211 : -2 ≤ Xi U37 895 5 ∧ Xi U37 895 5 ≤ 23 := hHU37.c _ _
              have w212 : -1 ≤ Xi U38 895 6 ∧ Xi U38 895 6 ≤ 15 := hHU38.c _ _
              exact ⟨hHU38, hFU38, _, rfl, ⟨by omega, by omega⟩, (by first | assumption | omega), (by first | assumption | omega), (by first | assumption | omega), (by first | assumption | omega)⟩
            · refine l_aload_n rfl rfl ?_
              refine l_gfi rfl rfl rfl rfl rfl ?_
              have w213 : (Xi U37 895 4) = (Xi S 895 4) := (show Xi U37 895 4 = Xi U30 895 4 from by rw [eU37]; exact Xi_ne (by omega)).trans ( (show Xi U30 895 4 = Xi U29 895 4 from by rw [eU30]; exact Xi_ne (by omega)).trans ( (show Xi U29 895 4 = Xi U28 895 4 from by rw [eU29]; exact Xi_ne (by omega)).trans ((show Xi U28 895 4 = Xi S 895 4 from by rw [eU28]; exact Xi_ne (by omega)))))
              rw [w213]
              refine l_goto rfl rfl ?_
              refine l_pfi rfl rfl rfl rfl ?_
              obtain ⟨U39, eU39⟩ : ∃ T : sS, T = uI U37 895 6 (Int32.ofInt (Xi S 895 4)) := ⟨_, rfl⟩
              rw [← eU39]
              have hHU39 : HI U39 := by rw [eU39]; exact HI_w hHU37 (show -1 ≤ (Xi S 895 4) by omega) (show (Xi S 895 4) ≤ 15 by omega)
              have hFU39 : FR md_me_readThing S U39 := by rw [eU39]; exact FR.wI hFU37 (mdf_i (r := (895, 896, 6, 7)) (List.mem_of_getElem? (i := 1) rfl) (inR_i (by omega) (by omega) (by omega) (by omega)))
              have w214 : Xi U39 895 6 = (Xi S 895 4) := by rw [eU39]; exact Xi_same (by unfold rg; omega)
              refine l_iload rfl rfl ?_
              refine l_ireturn rfl rfl ?_
              have w215 : Xi U39 895 5 = Xi U37 895 5 := (show Xi U39 895 5 = Xi U37 895 5 from by rw [eU39]; exact Xi_ne (by omega))
              have w216 : -2 ≤ Xi U37 895 5 ∧ Xi U37 895 5 ≤ 23 := hHU37.c _ _
              have w217 : -1 ≤ Xi U39 895 6 ∧ Xi U39 895 6 ≤ 15 := hHU39.c _ _
              exact ⟨hHU39, hFU39, _, rfl, ⟨by omega, by omega⟩, (by first | assumption | omega), (by first | assumption | omega), (by first | assumption | omega), (by first | assumption | omega)⟩
      · refine l_iload_n rfl rfl ?_
        refine l_bipush rfl rfl ?_
        refine l_icmp_ne rfl rfl (by unfold rg; omega) (by unfold rg; omega) (fun w218 => ?_) (fun w219 => ?_)
        · refine l_aload_n rfl rfl ?_
          refine l_iload_n rfl rfl ?_
          refine l_callS rfl rfl (by decide) rfl (t_rs_isArt hHU30 z6 ⟨by omega, by omega⟩ _) ?_
          rintro _ _ ⟨rfl, z221, rfl, w221, w220⟩
          show Rl _ _ _ _ _ [iv z221, .ref 895] _ _
          refine l_if_eq rfl rfl (by unfold rg; omega) (fun w222 => ?_) (fun w223 => ?_)
          · refine l_iload_n rfl rfl ?_
            refine l_pfi rfl rfl rfl rfl ?_
            obtain ⟨U40, eU40⟩ : ∃ T : sS, T = uI U30 895 7 (Int32.ofInt from_) := ⟨_, rfl⟩
            rw [← eU40]
            have hHU40 : HI U40 := by rw [eU40]; exact HI_any hHU30 (rfl)
            have hFU40 : FR md_me_readThing S U40 := by rw [eU40]; exact FR.wI hFU30 (mdf_i (r := (895, 896, 7, 8)) (List.mem_of_getElem? (i := 2) rfl) (inR_i (by omega) (by omega) (by omega) (by omega)))
            have w224 : Xi U40 895 7 = from_ := by rw [eU40]; exact Xi_same (by unfold rg; omega)
            refine l_aload_n rfl rfl ?_
            refine l_gfr rfl rfl rfl rfl rfl (hHU40.r 895 0 876 rfl) ?_
            refine l_aload_n rfl rfl ?_
            refine l_gfi rfl rfl rfl rfl rfl ?_
            refine l_iload_n rfl rfl ?_
            have w225 : Xi U40 876 7 = Xi S 876 7 := (show Xi U40 876 7 = Xi U30 876 7 from by rw [eU40]; exact Xi_ne (by omega)).trans ( (show Xi U30 876 7 = Xi U29 876 7 from by rw [eU30]; exact Xi_ne (by omega)).trans ( (show Xi U29 876 7 = Xi U28 876 7 from by rw [eU29]; exact Xi_ne (by omega)).trans ((show Xi U28 876 7 = Xi S 876 7 from by rw [eU28]; exact Xi_ne (by omega)))))
            refine l_callV rfl rfl rfl (t_to_runEndUpTo hHU40 (Xi U40 895 7) limit ⟨by omega, by omega⟩ ⟨by omega, by omega⟩ _) ?_
            rintro _ _ ⟨rfl, z234, rfl, w234, w227, w228, w229, w230, w231, w232, w233⟩
            show Rl _ _ _ _ _ [iv z234] _ _
            refine l_istore rfl rfl rfl ?_
            refine l_aload_n rfl rfl ?_
            refine l_gfr rfl rfl rfl rfl rfl (hHU40.r 895 1 1 rfl) ?_
            refine l_aload_n rfl rfl ?_
            refine l_gfr rfl rfl rfl rfl rfl (hHU40.r 895 0 876 rfl) ?_
            refine l_gfr rfl rfl rfl rfl rfl (hHU40.r 876 2 879 rfl) ?_
            refine l_aload_n rfl rfl ?_
            refine l_gfi rfl rfl rfl rfl rfl ?_
            refine l_iload rfl rfl ?_
            refine l_callV rfl rfl rfl (t_vo_meaning hHU40 879 5130 (Xi U40 895 7) z234 rfl ⟨by omega, by omega⟩ ⟨by omega, by omega⟩ ⟨by omega, by omega⟩ (by first | assumption | exact (LEX_FR hFU40 rfl rfl (by assumption : LEX S))) _) ?_
            rintro _ _ ⟨rfl, z238, rfl, w238, w235, w236, w237⟩
            show Rl _ _ _ _ _ [iv z238] _ _
            have hmnz238 := mOK_n (z := z238) (by assumption)
            refine l_istore rfl rfl rfl ?_
            refine l_iload rfl rfl ?_
            refine l_bipush rfl rfl ?_
            refine l_ishr8 rfl (by unfold rg; omega) ?_
            refine l_iconst rfl ?_
            refine l_icmp_ne rfl rfl (by unfold rg; omega) (by unfold rg; omega) (fun w240 => ?_) (fun w241 => ?_)
            · refine l_iload rfl rfl ?_
              refine l_ireturn rfl rfl ?_
              have w242 : Xi U40 895 5 = Xi U29 895 5 := (show Xi U40 895 5 = Xi U30 895 5 from by rw [eU40]; exact Xi_ne (by omega)).trans ((show Xi U30 895 5 = Xi U29 895 5 from by rw [eU30]; exact Xi_ne (by omega)))
              have w243 : -2 ≤ Xi U29 895 5 ∧ Xi U29 895 5 ≤ 23 := hHU29.c _ _
              have w244 : Xi U40 895 6 = Xi U30 895 6 := (show Xi U40 895 6 = Xi U30 895 6 from by rw [eU40]; exact Xi_ne (by omega))
              have w245 : -1 ≤ Xi U30 895 6 ∧ Xi U30 895 6 ≤ 15 := hHU30.c _ _
              exact ⟨hHU40, hFU40, _, rfl, ⟨by omega, by omega⟩, (by first | assumption | omega), (by first | assumption | omega), (by first | assumption | omega), (by first | assumption | omega)⟩
            · refine l_aload_n rfl rfl ?_
              refine l_iload rfl rfl ?_
              refine l_sipush rfl rfl ?_
              refine l_iand255 rfl (by unfold rg; omega) ?_
              have w247 := fb2 hHU40 (lx (z := z238) (by assumption) (by omega) (by omega))
              refine l_pfi rfl rfl rfl rfl ?_
              obtain ⟨U41, eU41⟩ : ∃ T : sS, T = uI U40 895 5 (Int32.ofInt (z238 % 256)) := ⟨_, rfl⟩
              rw [← eU41]
              have hHU41 : HI U41 := by rw [eU41]; exact HI_w hHU40 (show -2 ≤ (z238 % 256) by omega) (show (z238 % 256) ≤ 23 by omega)
              have hFU41 : FR md_me_readThing S U41 := by rw [eU41]; exact FR.wI hFU40 (mdf_i (r := (895, 896, 5, 6)) (List.mem_of_getElem? (i := 0) rfl) (inR_i (by omega) (by omega) (by omega) (by omega)))
              have w248 : Xi U41 895 5 = (z238 % 256) := by rw [eU41]; exact Xi_same (by unfold rg; omega)
              refine l_aload_n rfl rfl ?_
              refine l_aload_n rfl rfl ?_
              refine l_gfr rfl rfl rfl rfl rfl (hHU41.r 895 2 20 rfl) ?_
              refine l_gfr rfl rfl rfl rfl rfl (hHU41.r 20 2 21 rfl) ?_
              refine l_aload_n rfl rfl ?_
              refine l_gfi rfl rfl rfl rfl rfl ?_
              refine l_iaload (n := 24) rfl rfl (by omega) (by omega) (by unfold rg; omega) ?_
              have w249 : 0 ≤ (Xi U41 21 (((Xi U41 895 5)).toNat)) ∧ (Xi U41 21 (((Xi U41 895 5)).toNat)) ≤ 15 := hHU41.c _ _
              refine l_pfi rfl rfl rfl rfl ?_
              obtain ⟨U42, eU42⟩ : ∃ T : sS, T = uI U41 895 6 (Int32.ofInt (Xi U41 21 (((Xi U41 895 5)).toNat))) := ⟨_, rfl⟩
              rw [← eU42]
              have hHU42 : HI U42 := by rw [eU42]; exact HI_w hHU41 (show -1 ≤ (Xi U41 21 (((Xi U41 895 5)).toNat)) by omega) (show (Xi U41 21 (((Xi U41 895 5)).toNat)) ≤ 15 by omega)
              have hFU42 : FR md_me_readThing S U42 := by rw [eU42]; exact FR.wI hFU41 (mdf_i (r := (895, 896, 6, 7)) (List.mem_of_getElem? (i := 1) rfl) (inR_i (by omega) (by omega) (by omega) (by omega)))
              have w250 : Xi U42 895 6 = (Xi U41 21 (((Xi U41 895 5)).toNat)) := by rw [eU42]; exact Xi_same (by unfold rg; omega)
              refine l_iload rfl rfl ?_
              refine l_ireturn rfl rfl ?_
              have w251 : Xi U42 895 5 = Xi U41 895 5 := (show Xi U42 895 5 = Xi U41 895 5 from by rw [eU42]; exact Xi_ne (by omega))
              have w252 : -2 ≤ Xi U41 895 5 ∧ Xi U41 895 5 ≤ 23 := hHU41.c _ _
              have w253 : -1 ≤ Xi U42 895 6 ∧ Xi U42 895 6 ≤ 15 := hHU42.c _ _
              exact ⟨hHU42, hFU42, _, rfl, ⟨by omega, by omega⟩, (by first | assumption | omega), (by first | assumption | omega), (by first | assumption | omega), (by first | assumption | omega)⟩
          · refine l_iload_n rfl rfl ?_
            refine l_iconst rfl ?_
            refine l_iadd rfl ?_
            refine l_goto rfl rfl ?_
            refine l_pfi rfl rfl rfl rfl ?_
            obtain ⟨U43, eU43⟩ : ∃ T : sS, T = uI U30 895 7 (Int32.ofInt (from_ + 1)) := ⟨_, rfl⟩
            rw [← eU43]
            have hHU43 : HI U43 := by rw [eU43]; exact HI_any hHU30 (rfl)
            have hFU43 : FR md_me_readThing S U43 := by rw [eU43]; exact FR.wI hFU30 (mdf_i (r := (895, 896, 7, 8)) (List.mem_of_getElem? (i := 2) rfl) (inR_i (by omega) (by omega) (by omega) (by omega)))
            have w254 : Xi U43 895 7 = (from_ + 1) := by rw [eU43]; exact Xi_same (by unfold rg; omega)
            refine l_aload_n rfl rfl ?_
            refine l_gfr rfl rfl rfl rfl rfl (hHU43.r 895 0 876 rfl) ?_
            refine l_aload_n rfl rfl ?_
            refine l_gfi rfl rfl rfl rfl rfl ?_
            refine l_iload_n rfl rfl ?_
            have w255 : Xi U43 876 7 = Xi S 876 7 := (show Xi U43 876 7 = Xi U30 876 7 from by rw [eU43]; exact Xi_ne (by omega)).trans ( (show Xi U30 876 7 = Xi U29 876 7 from by rw [eU30]; exact Xi_ne (by omega)).trans ( (show Xi U29 876 7 = Xi U28 876 7 from by rw [eU29]; exact Xi_ne (by omega)).trans ((show Xi U28 876 7 = Xi S 876 7 from by rw [eU28]; exact Xi_ne (by omega)))))
            refine l_callV rfl rfl rfl (t_to_runEndUpTo hHU43 (Xi U43 895 7) limit ⟨by omega, by omega⟩ ⟨by omega, by omega⟩ _) ?_
            rintro _ _ ⟨rfl, z264, rfl, w264, w257, w258, w259, w260, w261, w262, w263⟩
            show Rl _ _ _ _ _ [iv z264] _ _
            refine l_istore rfl rfl rfl ?_
            refine l_aload_n rfl rfl ?_
            refine l_gfr rfl rfl rfl rfl rfl (hHU43.r 895 1 1 rfl) ?_
            refine l_aload_n rfl rfl ?_
            refine l_gfr rfl rfl rfl rfl rfl (hHU43.r 895 0 876 rfl) ?_
            refine l_gfr rfl rfl rfl rfl rfl (hHU43.r 876 2 879 rfl) ?_
            refine l_aload_n rfl rfl ?_
            refine l_gfi rfl rfl rfl rfl rfl ?_
            refine l_iload rfl rfl ?_
            refine l_callV rfl rfl rfl (t_vo_meaning hHU43 879 5130 (Xi U43 895 7) z264 rfl ⟨by omega, by omega⟩ ⟨by omega, by omega⟩ ⟨by omega, by omega⟩ (by first | assumption | exact (LEX_FR hFU43 rfl rfl (by assumption : LEX S))) _) ?_
            rintro _ _ ⟨rfl, z268, rfl, w268, w265, w266, w267⟩
            show Rl _ _ _ _ _ [iv z268] _ _
            have hmnz268 := mOK_n (z := z268) (by assumption)
            refine l_istore rfl rfl rfl ?_
            refine l_iload rfl rfl ?_
            refine l_bipush rfl rfl ?_
            refine l_ishr8 rfl (by unfold rg; omega) ?_
            refine l_iconst rfl ?_
            refine l_icmp_ne rfl rfl (by unfold rg; omega) (by unfold rg; omega) (fun w270 => ?_) (fun w271 => ?_)
            · refine l_iload rfl rfl ?_
              refine l_ireturn rfl rfl ?_
              have w272 : Xi U43 895 5 = Xi U29 895 5 := (show Xi U43 895 5 = Xi U30 895 5 from by rw [eU43]; exact Xi_ne (by omega)).trans ((show Xi U30 895 5 = Xi U29 895 5 from by rw [eU30]; exact Xi_ne (by omega)))
              have w273 : -2 ≤ Xi U29 895 5 ∧ Xi U29 895 5 ≤ 23 := hHU29.c _ _
              have w274 : Xi U43 895 6 = Xi U30 895 6 := (show Xi U43 895 6 = Xi U30 895 6 from by rw [eU43]; exact Xi_ne (by omega))
              have w275 : -1 ≤ Xi U30 895 6 ∧ Xi U30 895 6 ≤ 15 := hHU30.c _ _
              exact ⟨hHU43, hFU43, _, rfl, ⟨by omega, by omega⟩, (by first | assumption | omega), (by first | assumption | omega), (by first | assumption | omega), (by first | assumption | omega)⟩
            · refine l_aload_n rfl rfl ?_
              refine l_iload rfl rfl ?_
              refine l_sipush rfl rfl ?_
              refine l_iand255 rfl (by unfold rg; omega) ?_
              have w277 := fb2 hHU43 (lx (z := z268) (by assumption) (by omega) (by omega))
              refine l_pfi rfl rfl rfl rfl ?_
              obtain ⟨U44, eU44⟩ : ∃ T : sS, T = uI U43 895 5 (Int32.ofInt (z268 % 256)) := ⟨_, rfl⟩
              rw [← eU44]
              have hHU44 : HI U44 := by rw [eU44]; exact HI_w hHU43 (show -2 ≤ (z268 % 256) by omega) (show (z268 % 256) ≤ 23 by omega)
              have hFU44 : FR md_me_readThing S U44 := by rw [eU44]; exact FR.wI hFU43 (mdf_i (r := (895, 896, 5, 6)) (List.mem_of_getElem? (i := 0) rfl) (inR_i (by omega) (by omega) (by omega) (by omega)))
              have w278 : Xi U44 895 5 = (z268 % 256) := by rw [eU44]; exact Xi_same (by unfold rg; omega)
              refine l_aload_n rfl rfl ?_
              refine l_aload_n rfl rfl ?_
              refine l_gfr rfl rfl rfl rfl rfl (hHU44.r 895 2 20 rfl) ?_
              refine l_gfr rfl rfl rfl rfl rfl (hHU44.r 20 2 21 rfl) ?_
              refine l_aload_n rfl rfl ?_
              refine l_gfi rfl rfl rfl rfl rfl ?_
              refine l_iaload (n := 24) rfl rfl (by omega) (by omega) (by unfold rg; omega) ?_
              have w279 : 0 ≤ (Xi U44 21 (((Xi U44 895 5)).toNat)) ∧ (Xi U44 21 (((Xi U44 895 5)).toNat)) ≤ 15 := hHU44.c _ _
              refine l_pfi rfl rfl rfl rfl ?_
              obtain ⟨U45, eU45⟩ : ∃ T : sS, T = uI U44 895 6 (Int32.ofInt (Xi U44 21 (((Xi U44 895 5)).toNat))) := ⟨_, rfl⟩
              rw [← eU45]
              have hHU45 : HI U45 := by rw [eU45]; exact HI_w hHU44 (show -1 ≤ (Xi U44 21 (((Xi U44 895 5)).toNat)) by omega) (show (Xi U44 21 (((Xi U44 895 5)).toNat)) ≤ 15 by omega)
              have hFU45 : FR md_me_readThing S U45 := by rw [eU45]; exact FR.wI hFU44 (mdf_i (r := (895, 896, 6, 7)) (List.mem_of_getElem? (i := 1) rfl) (inR_i (by omega) (by omega) (by omega) (by omega)))
              have w280 : Xi U45 895 6 = (Xi U44 21 (((Xi U44 895 5)).toNat)) := by rw [eU45]; exact Xi_same (by unfold rg; omega)
              refine l_iload rfl rfl ?_
              refine l_ireturn rfl rfl ?_
              have w281 : Xi U45 895 5 = Xi U44 895 5 := (show Xi U45 895 5 = Xi U44 895 5 from by rw [eU45]; exact Xi_ne (by omega))
              have w282 : -2 ≤ Xi U44 895 5 ∧ Xi U44 895 5 ≤ 23 := hHU44.c _ _
              have w283 : -1 ≤ Xi U45 895 6 ∧ Xi U45 895 6 ≤ 15 := hHU45.c _ _
              exact ⟨hHU45, hFU45, _, rfl, ⟨by omega, by omega⟩, (by first | assumption | omega), (by first | assumption | omega), (by first | assumption | omega), (by first | assumption | omega)⟩
        · refine l_aload_n rfl rfl ?_
          refine l_iload_n rfl rfl ?_
          refine l_aload_n rfl rfl ?_
          refine l_gfi rfl rfl rfl rfl rfl ?_
          have w284 : -2147483648 ≤ (Xi U30 895 3) ∧ (Xi U30 895 3) ≤ 2147483647 := Xi_rgI
          refine l_icmp_ne rfl rfl (by unfold rg; omega) (by unfold rg; omega) (fun w285 => ?_) (fun w286 => ?_)
          · refine l_iconst rfl ?_
            refine l_pfi rfl rfl rfl rfl ?_
            obtain ⟨U46, eU46⟩ : ∃ T : sS, T = uI U30 895 5 (Int32.ofInt (-1)) := ⟨_, rfl⟩
            rw [← eU46]
            have hHU46 : HI U46 := by rw [eU46]; exact HI_w hHU30 (show -2 ≤ (-1) by omega) (show (-1) ≤ 23 by omega)
            have hFU46 : FR md_me_readThing S U46 := by rw [eU46]; exact FR.wI hFU30 (mdf_i (r := (895, 896, 5, 6)) (List.mem_of_getElem? (i := 0) rfl) (inR_i (by omega) (by omega) (by omega) (by omega)))
            have w287 : Xi U46 895 5 = (-1) := by rw [eU46]; exact Xi_same (by unfold rg; omega)
            refine l_aload_n rfl rfl ?_
            refine l_aload_n rfl rfl ?_
            refine l_gfi rfl rfl rfl rfl rfl ?_
            refine l_bipush rfl rfl ?_
            refine l_icmp_ne rfl rfl (by unfold rg; omega) (by unfold rg; omega) (fun w288 => ?_) (fun w289 => ?_)
            · refine l_iconst rfl ?_
              refine l_pfi rfl rfl rfl rfl ?_
              obtain ⟨U47, eU47⟩ : ∃ T : sS, T = uI U46 895 6 (Int32.ofInt (-1)) := ⟨_, rfl⟩
              rw [← eU47]
              have hHU47 : HI U47 := by rw [eU47]; exact HI_w hHU46 (show -1 ≤ (-1) by omega) (show (-1) ≤ 15 by omega)
              have hFU47 : FR md_me_readThing S U47 := by rw [eU47]; exact FR.wI hFU46 (mdf_i (r := (895, 896, 6, 7)) (List.mem_of_getElem? (i := 1) rfl) (inR_i (by omega) (by omega) (by omega) (by omega)))
              have w290 : Xi U47 895 6 = (-1) := by rw [eU47]; exact Xi_same (by unfold rg; omega)
              refine l_iload rfl rfl ?_
              refine l_ireturn rfl rfl ?_
              have w291 : Xi U47 895 5 = Xi U46 895 5 := (show Xi U47 895 5 = Xi U46 895 5 from by rw [eU47]; exact Xi_ne (by omega))
              have w292 : -2 ≤ Xi U46 895 5 ∧ Xi U46 895 5 ≤ 23 := hHU46.c _ _
              have w293 : -1 ≤ Xi U47 895 6 ∧ Xi U47 895 6 ≤ 15 := hHU47.c _ _
              exact ⟨hHU47, hFU47, _, rfl, ⟨by omega, by omega⟩, (by first | assumption | omega), (by first | assumption | omega), (by first | assumption | omega), (by first | assumption | omega)⟩
            · refine l_aload_n rfl rfl ?_
              refine l_gfi rfl rfl rfl rfl rfl ?_
              have w294 : (Xi U46 895 4) = (Xi S 895 4) := (show Xi U46 895 4 = Xi U30 895 4 from by rw [eU46]; exact Xi_ne (by omega)).trans ( (show Xi U30 895 4 = Xi U29 895 4 from by rw [eU30]; exact Xi_ne (by omega)).trans ( (show Xi U29 895 4 = Xi U28 895 4 from by rw [eU29]; exact Xi_ne (by omega)).trans ((show Xi U28 895 4 = Xi S 895 4 from by rw [eU28]; exact Xi_ne (by omega)))))
              rw [w294]
              refine l_goto rfl rfl ?_
              refine l_pfi rfl rfl rfl rfl ?_
              obtain ⟨U48, eU48⟩ : ∃ T : sS, T = uI U46 895 6 (Int32.ofInt (Xi S 895 4)) := ⟨_, rfl⟩
              rw [← eU48]
              have hHU48 : HI U48 := by rw [eU48]; exact HI_w hHU46 (show -1 ≤ (Xi S 895 4) by omega) (show (Xi S 895 4) ≤ 15 by omega)
              have hFU48 : FR md_me_readThing S U48 := by rw [eU48]; exact FR.wI hFU46 (mdf_i (r := (895, 896, 6, 7)) (List.mem_of_getElem? (i := 1) rfl) (inR_i (by omega) (by omega) (by omega) (by omega)))
              have w295 : Xi U48 895 6 = (Xi S 895 4) := by rw [eU48]; exact Xi_same (by unfold rg; omega)
              refine l_iload rfl rfl ?_
              refine l_ireturn rfl rfl ?_
              have w296 : Xi U48 895 5 = Xi U46 895 5 := (show Xi U48 895 5 = Xi U46 895 5 from by rw [eU48]; exact Xi_ne (by omega))
              have w297 : -2 ≤ Xi U46 895 5 ∧ Xi U46 895 5 ≤ 23 := hHU46.c _ _
              have w298 : -1 ≤ Xi U48 895 6 ∧ Xi U48 895 6 ≤ 15 := hHU48.c _ _
              exact ⟨hHU48, hFU48, _, rfl, ⟨by omega, by omega⟩, (by first | assumption | omega), (by first | assumption | omega), (by first | assumption | omega), (by first | assumption | omega)⟩
          · refine l_aload_n rfl rfl ?_
            refine l_gfi rfl rfl rfl rfl rfl ?_
            have w299 : (Xi U30 895 4) = (Xi S 895 4) := (show Xi U30 895 4 = Xi U29 895 4 from by rw [eU30]; exact Xi_ne (by omega)).trans ( (show Xi U29 895 4 = Xi U28 895 4 from by rw [eU29]; exact Xi_ne (by omega)).trans ((show Xi U28 895 4 = Xi S 895 4 from by rw [eU28]; exact Xi_ne (by omega))))
            rw [w299]
            refine l_iconst rfl ?_
            refine l_icmp_eq rfl rfl (by unfold rg; omega) (by unfold rg; omega) (fun w300 => ?_) (fun w301 => ?_)
            · refine l_iconst rfl ?_
              refine l_pfi rfl rfl rfl rfl ?_
              obtain ⟨U49, eU49⟩ : ∃ T : sS, T = uI U30 895 5 (Int32.ofInt (-1)) := ⟨_, rfl⟩
              rw [← eU49]
              have hHU49 : HI U49 := by rw [eU49]; exact HI_w hHU30 (show -2 ≤ (-1) by omega) (show (-1) ≤ 23 by omega)
              have hFU49 : FR md_me_readThing S U49 := by rw [eU49]; exact FR.wI hFU30 (mdf_i (r := (895, 896, 5, 6)) (List.mem_of_getElem? (i := 0) rfl) (inR_i (by omega) (by omega) (by omega) (by omega)))
              have w302 : Xi U49 895 5 = (-1) := by rw [eU49]; exact Xi_same (by unfold rg; omega)
              refine l_aload_n rfl rfl ?_
              refine l_aload_n rfl rfl ?_
              refine l_gfi rfl rfl rfl rfl rfl ?_
              refine l_bipush rfl rfl ?_
              refine l_icmp_ne rfl rfl (by unfold rg; omega) (by unfold rg; omega) (fun w303 => ?_) (fun w304 => ?_)
              · refine l_iconst rfl ?_
                refine l_pfi rfl rfl rfl rfl ?_
                obtain ⟨U50, eU50⟩ : ∃ T : sS, T = uI U49 895 6 (Int32.ofInt (-1)) := ⟨_, rfl⟩
                rw [← eU50]
                have hHU50 : HI U50 := by rw [eU50]; exact HI_w hHU49 (show -1 ≤ (-1) by omega) (show (-1) ≤ 15 by omega)
                have hFU50 : FR md_me_readThing S U50 := by rw [eU50]; exact FR.wI hFU49 (mdf_i (r := (895, 896, 6, 7)) (List.mem_of_getElem? (i := 1) rfl) (inR_i (by omega) (by omega) (by omega) (by omega)))
                have w305 : Xi U50 895 6 = (-1) := by rw [eU50]; exact Xi_same (by unfold rg; omega)
                refine l_iload rfl rfl ?_
                refine l_ireturn rfl rfl ?_
                have w306 : Xi U50 895 5 = Xi U49 895 5 := (show Xi U50 895 5 = Xi U49 895 5 from by rw [eU50]; exact Xi_ne (by omega))
                have w307 : -2 ≤ Xi U49 895 5 ∧ Xi U49 895 5 ≤ 23 := hHU49.c _ _
                have w308 : -1 ≤ Xi U50 895 6 ∧ Xi U50 895 6 ≤ 15 := hHU50.c _ _
                exact ⟨hHU50, hFU50, _, rfl, ⟨by omega, by omega⟩, (by first | assumption | omega), (by first | assumption | omega), (by first | assumption | omega), (by first | assumption | omega)⟩
              · refine l_aload_n rfl rfl ?_
                refine l_gfi rfl rfl rfl rfl rfl ?_
                have w309 : (Xi U49 895 4) = (Xi S 895 4) := (show Xi U49 895 4 = Xi U30 895 4 from by rw [eU49]; exact Xi_ne (by omega)).trans ( (show Xi U30 895 4 = Xi U29 895 4 from by rw [eU30]; exact Xi_ne (by omega)).trans ( (show Xi U29 895 4 = Xi U28 895 4 from by rw [eU29]; exact Xi_ne (by omega)).trans ((show Xi U28 895 4 = Xi S 895 4 from by rw [eU28]; exact Xi_ne (by omega)))))
                rw [w309]
                refine l_goto rfl rfl ?_
                refine l_pfi rfl rfl rfl rfl ?_
                obtain ⟨U51, eU51⟩ : ∃ T : sS, T = uI U49 895 6 (Int32.ofInt (Xi S 895 4)) := ⟨_, rfl⟩
                rw [← eU51]
                have hHU51 : HI U51 := by rw [eU51]; exact HI_w hHU49 (show -1 ≤ (Xi S 895 4) by omega) (show (Xi S 895 4) ≤ 15 by omega)
                have hFU51 : FR md_me_readThing S U51 := by rw [eU51]; exact FR.wI hFU49 (mdf_i (r := (895, 896, 6, 7)) (List.mem_of_getElem? (i := 1) rfl) (inR_i (by omega) (by omega) (by omega) (by omega)))
                have w310 : Xi U51 895 6 = (Xi S 895 4) := by rw [eU51]; exact Xi_same (by unfold rg; omega)
                refine l_iload rfl rfl ?_
                refine l_ireturn rfl rfl ?_
                have w311 : Xi U51 895 5 = Xi U49 895 5 := (show Xi U51 895 5 = Xi U49 895 5 from by rw [eU51]; exact Xi_ne (by omega))
                have w312 : -2 ≤ Xi U49 895 5 ∧ Xi U49 895 5 ≤ 23 := hHU49.c _ _
                have w313 : -1 ≤ Xi U51 895 6 ∧ Xi U51 895 6 ≤ 15 := hHU51.c _ _
                exact ⟨hHU51, hFU51, _, rfl, ⟨by omega, by omega⟩, (by first | assumption | omega), (by first | assumption | omega), (by first | assumption | omega), (by first | assumption | omega)⟩
            · refine l_bipush rfl rfl ?_
              refine l_goto rfl rfl ?_
              refine l_pfi rfl rfl rfl rfl ?_
              obtain ⟨U52, eU52⟩ : ∃ T : sS, T = uI U30 895 5 (Int32.ofInt (-2)) := ⟨_, rfl⟩
              rw [← eU52]
              have hHU52 : HI U52 := by rw [eU52]; exact HI_w hHU30 (show -2 ≤ (-2) by omega) (show (-2) ≤ 23 by omega)
              have hFU52 : FR md_me_readThing S U52 := by rw [eU52]; exact FR.wI hFU30 (mdf_i (r := (895, 896, 5, 6)) (List.mem_of_getElem? (i := 0) rfl) (inR_i (by omega) (by omega) (by omega) (by omega)))
              have w314 : Xi U52 895 5 = (-2) := by rw [eU52]; exact Xi_same (by unfold rg; omega)
              refine l_aload_n rfl rfl ?_
              refine l_aload_n rfl rfl ?_
              refine l_gfi rfl rfl rfl rfl rfl ?_
              refine l_bipush rfl rfl ?_
              refine l_icmp_ne rfl rfl (by unfold rg; omega) (by unfold rg; omega) (fun w315 => ?_) (fun w316 => ?_)
              · refine l_iconst rfl ?_
                refine l_pfi rfl rfl rfl rfl ?_
                obtain ⟨U53, eU53⟩ : ∃ T : sS, T = uI U52 895 6 (Int32.ofInt (-1)) := ⟨_, rfl⟩
                rw [← eU53]
                have hHU53 : HI U53 := by rw [eU53]; exact HI_w hHU52 (show -1 ≤ (-1) by omega) (show (-1) ≤ 15 by omega)
                have hFU53 : FR md_me_readThing S U53 := by rw [eU53]; exact FR.wI hFU52 (mdf_i (r := (895, 896, 6, 7)) (List.mem_of_getElem? (i := 1) rfl) (inR_i (by omega) (by omega) (by omega) (by omega)))
                have w317 : Xi U53 895 6 = (-1) := by rw [eU53]; exact Xi_same (by unfold rg; omega)
                refine l_iload rfl rfl ?_
                refine l_ireturn rfl rfl ?_
                have w318 : Xi U53 895 5 = Xi U52 895 5 := (show Xi U53 895 5 = Xi U52 895 5 from by rw [eU53]; exact Xi_ne (by omega))
                have w319 : -2 ≤ Xi U52 895 5 ∧ Xi U52 895 5 ≤ 23 := hHU52.c _ _
                have w320 : -1 ≤ Xi U53 895 6 ∧ Xi U53 895 6 ≤ 15 := hHU53.c _ _
                exact ⟨hHU53, hFU53, _, rfl, ⟨by omega, by omega⟩, (by first | assumption | omega), (by first | assumption | omega), (by first | assumption | omega), (by first | assumption | omega)⟩
              · refine l_aload_n rfl rfl ?_
                refine l_gfi rfl rfl rfl rfl rfl ?_
                have w321 : (Xi U52 895 4) = (Xi S 895 4) := (show Xi U52 895 4 = Xi U30 895 4 from by rw [eU52]; exact Xi_ne (by omega)).trans ( (show Xi U30 895 4 = Xi U29 895 4 from by rw [eU30]; exact Xi_ne (by omega)).trans ( (show Xi U29 895 4 = Xi U28 895 4 from by rw [eU29]; exact Xi_ne (by omega)).trans ((show Xi U28 895 4 = Xi S 895 4 from by rw [eU28]; exact Xi_ne (by omega)))))
                rw [w321]
                refine l_goto rfl rfl ?_
                refine l_pfi rfl rfl rfl rfl ?_
                obtain ⟨U54, eU54⟩ : ∃ T : sS, T = uI U52 895 6 (Int32.ofInt (Xi S 895 4)) := ⟨_, rfl⟩
                rw [← eU54]
                have hHU54 : HI U54 := by rw [eU54]; exact HI_w hHU52 (show -1 ≤ (Xi S 895 4) by omega) (show (Xi S 895 4) ≤ 15 by omega)
                have hFU54 : FR md_me_readThing S U54 := by rw [eU54]; exact FR.wI hFU52 (mdf_i (r := (895, 896, 6, 7)) (List.mem_of_getElem? (i := 1) rfl) (inR_i (by omega) (by omega) (by omega) (by omega)))
                have w322 : Xi U54 895 6 = (Xi S 895 4) := by rw [eU54]; exact Xi_same (by unfold rg; omega)
                refine l_iload rfl rfl ?_
                refine l_ireturn rfl rfl ?_
                have w323 : Xi U54 895 5 = Xi U52 895 5 := (show Xi U54 895 5 = Xi U52 895 5 from by rw [eU54]; exact Xi_ne (by omega))
                have w324 : -2 ≤ Xi U52 895 5 ∧ Xi U52 895 5 ≤ 23 := hHU52.c _ _
                have w325 : -1 ≤ Xi U54 895 6 ∧ Xi U54 895 6 ≤ 15 := hHU54.c _ _
                exact ⟨hHU54, hFU54, _, rfl, ⟨by omega, by omega⟩, (by first | assumption | omega), (by first | assumption | omega), (by first | assumption | omega), (by first | assumption | omega)⟩
    · refine l_bipush rfl rfl ?_
      refine l_istore_n rfl rfl rfl ?_
      refine l_iload_n rfl rfl ?_
      refine l_iconst rfl ?_
      refine l_iadd rfl ?_
      refine l_istore rfl rfl rfl ?_
      refine l_aload_n rfl rfl ?_
      refine l_iload_n rfl rfl ?_
      refine l_pfi rfl rfl rfl rfl ?_
      obtain ⟨U55, eU55⟩ : ∃ T : sS, T = uI S 895 7 (Int32.ofInt from_) := ⟨_, rfl⟩
      rw [← eU55]
      have hHU55 : HI U55 := by rw [eU55]; exact HI_any hH (rfl)
      have hFU55 : FR md_me_readThing S U55 := by rw [eU55]; exact FR.wI hF (mdf_i (r := (895, 896, 7, 8)) (List.mem_of_getElem? (i := 2) rfl) (inR_i (by omega) (by omega) (by omega) (by omega)))
      have w326 : Xi U55 895 7 = from_ := by rw [eU55]; exact Xi_same (by unfold rg; omega)
      refine l_aload_n rfl rfl ?_
      refine l_iconst rfl ?_
      refine l_pfi rfl rfl rfl rfl ?_
      obtain ⟨U56, eU56⟩ : ∃ T : sS, T = uI U55 895 5 (Int32.ofInt (-1)) := ⟨_, rfl⟩
      rw [← eU56]
      have hHU56 : HI U56 := by rw [eU56]; exact HI_w hHU55 (show -2 ≤ (-1) by omega) (show (-1) ≤ 23 by omega)
      have hFU56 : FR md_me_readThing S U56 := by rw [eU56]; exact FR.wI hFU55 (mdf_i (r := (895, 896, 5, 6)) (List.mem_of_getElem? (i := 0) rfl) (inR_i (by omega) (by omega) (by omega) (by omega)))
      have w327 : Xi U56 895 5 = (-1) := by rw [eU56]; exact Xi_same (by unfold rg; omega)
      refine l_aload_n rfl rfl ?_
      refine l_iconst rfl ?_
      refine l_pfi rfl rfl rfl rfl ?_
      obtain ⟨U57, eU57⟩ : ∃ T : sS, T = uI U56 895 6 (Int32.ofInt (-1)) := ⟨_, rfl⟩
      rw [← eU57]
      have hHU57 : HI U57 := by rw [eU57]; exact HI_w hHU56 (show -1 ≤ (-1) by omega) (show (-1) ≤ 15 by omega)
      have hFU57 : FR md_me_readThing S U57 := by rw [eU57]; exact FR.wI hFU56 (mdf_i (r := (895, 896, 6, 7)) (List.mem_of_getElem? (i := 1) rfl) (inR_i (by omega) (by omega) (by omega) (by omega)))
      have w328 : Xi U57 895 6 = (-1) := by rw [eU57]; exact Xi_same (by unfold rg; omega)
      refine l_iload_n rfl rfl ?_
      refine l_bipush rfl rfl ?_
      refine l_icmp_eq rfl rfl (by unfold rg; omega) (by unfold rg; omega) (fun w329 => absurd w329 (by omega)) (fun w330 => ?_)
      · refine l_iload_n rfl rfl ?_
        refine l_bipush rfl rfl ?_
        refine l_icmp_ne rfl rfl (by unfold rg; omega) (by unfold rg; omega) (fun w331 => absurd w331 (by omega)) (fun w332 => ?_)
        · refine l_aload_n rfl rfl ?_
          refine l_iload_n rfl rfl ?_
          refine l_aload_n rfl rfl ?_
          refine l_gfi rfl rfl rfl rfl rfl ?_
          have w333 : -2147483648 ≤ (Xi U57 895 3) ∧ (Xi U57 895 3) ≤ 2147483647 := Xi_rgI
          refine l_icmp_ne rfl rfl (by unfold rg; omega) (by unfold rg; omega) (fun w334 => ?_) (fun w335 => ?_)
          · refine l_iconst rfl ?_
            refine l_pfi rfl rfl rfl rfl ?_
            obtain ⟨U58, eU58⟩ : ∃ T : sS, T = uI U57 895 5 (Int32.ofInt (-1)) := ⟨_, rfl⟩
            rw [← eU58]
            have hHU58 : HI U58 := by rw [eU58]; exact HI_w hHU57 (show -2 ≤ (-1) by omega) (show (-1) ≤ 23 by omega)
            have hFU58 : FR md_me_readThing S U58 := by rw [eU58]; exact FR.wI hFU57 (mdf_i (r := (895, 896, 5, 6)) (List.mem_of_getElem? (i := 0) rfl) (inR_i (by omega) (by omega) (by omega) (by omega)))
            have w336 : Xi U58 895 5 = (-1) := by rw [eU58]; exact Xi_same (by unfold rg; omega)
            refine l_aload_n rfl rfl ?_
            refine l_aload_n rfl rfl ?_
            refine l_gfi rfl rfl rfl rfl rfl ?_
            refine l_bipush rfl rfl ?_
            refine l_icmp_ne rfl rfl (by unfold rg; omega) (by unfold rg; omega) (fun w337 => ?_) (fun w338 => ?_)
            · refine l_iconst rfl ?_
              refine l_pfi rfl rfl rfl rfl ?_
              obtain ⟨U59, eU59⟩ : ∃ T : sS, T = uI U58 895 6 (Int32.ofInt (-1)) := ⟨_, rfl⟩
              rw [← eU59]
              have hHU59 : HI U59 := by rw [eU59]; exact HI_w hHU58 (show -1 ≤ (-1) by omega) (show (-1) ≤ 15 by omega)
              have hFU59 : FR md_me_readThing S U59 := by rw [eU59]; exact FR.wI hFU58 (mdf_i (r := (895, 896, 6, 7)) (List.mem_of_getElem? (i := 1) rfl) (inR_i (by omega) (by omega) (by omega) (by omega)))
              have w339 : Xi U59 895 6 = (-1) := by rw [eU59]; exact Xi_same (by unfold rg; omega)
              refine l_iload rfl rfl ?_
              refine l_ireturn rfl rfl ?_
              have w340 : Xi U59 895 5 = Xi U58 895 5 := (show Xi U59 895 5 = Xi U58 895 5 from by rw [eU59]; exact Xi_ne (by omega))
              have w341 : -2 ≤ Xi U58 895 5 ∧ Xi U58 895 5 ≤ 23 := hHU58.c _ _
              have w342 : -1 ≤ Xi U59 895 6 ∧ Xi U59 895 6 ≤ 15 := hHU59.c _ _
              exact ⟨hHU59, hFU59, _, rfl, ⟨by omega, by omega⟩, (by first | assumption | omega), (by first | assumption | omega), (by first | assumption | omega), (by first | assumption | omega)⟩
            · refine l_aload_n rfl rfl ?_
              refine l_gfi rfl rfl rfl rfl rfl ?_
              have w343 : (Xi U58 895 4) = (Xi S 895 4) := (show Xi U58 895 4 = Xi U57 895 4 from by rw [eU58]; exact Xi_ne (by omega)).trans ( (show Xi U57 895 4 = Xi U56 895 4 from by rw [eU57]; exact Xi_ne (by omega)).trans ( (show Xi U56 895 4 = Xi U55 895 4 from by rw [eU56]; exact Xi_ne (by omega)).trans ((show Xi U55 895 4 = Xi S 895 4 from by rw [eU55]; exact Xi_ne (by omega)))))
              rw [w343]
              refine l_goto rfl rfl ?_
              refine l_pfi rfl rfl rfl rfl ?_
              obtain ⟨U60, eU60⟩ : ∃ T : sS, T = uI U58 895 6 (Int32.ofInt (Xi S 895 4)) := ⟨_, rfl⟩
              rw [← eU60]
              have hHU60 : HI U60 := by rw [eU60]; exact HI_w hHU58 (show -1 ≤ (Xi S 895 4) by omega) (show (Xi S 895 4) ≤ 15 by omega)
              have hFU60 : FR md_me_readThing S U60 := by rw [eU60]; exact FR.wI hFU58 (mdf_i (r := (895, 896, 6, 7)) (List.mem_of_getElem? (i := 1) rfl) (inR_i (by omega) (by omega) (by omega) (by omega)))
              have w344 : Xi U60 895 6 = (Xi S 895 4) := by rw [eU60]; exact Xi_same (by unfold rg; omega)
              refine l_iload rfl rfl ?_
              refine l_ireturn rfl rfl ?_
              have w345 : Xi U60 895 5 = Xi U58 895 5 := (show Xi U60 895 5 = Xi U58 895 5 from by rw [eU60]; exact Xi_ne (by omega))
              have w346 : -2 ≤ Xi U58 895 5 ∧ Xi U58 895 5 ≤ 23 := hHU58.c _ _
              have w347 : -1 ≤ Xi U60 895 6 ∧ Xi U60 895 6 ≤ 15 := hHU60.c _ _
              exact ⟨hHU60, hFU60, _, rfl, ⟨by omega, by omega⟩, (by first | assumption | omega), (by first | assumption | omega), (by first | assumption | omega), (by first | assumption | omega)⟩
          · refine l_aload_n rfl rfl ?_
            refine l_gfi rfl rfl rfl rfl rfl ?_
            have w348 : (Xi U57 895 4) = (Xi S 895 4) := (show Xi U57 895 4 = Xi U56 895 4 from by rw [eU57]; exact Xi_ne (by omega)).trans ( (show Xi U56 895 4 = Xi U55 895 4 from by rw [eU56]; exact Xi_ne (by omega)).trans ((show Xi U55 895 4 = Xi S 895 4 from by rw [eU55]; exact Xi_ne (by omega))))
            rw [w348]
            refine l_iconst rfl ?_
            refine l_icmp_eq rfl rfl (by unfold rg; omega) (by unfold rg; omega) (fun w349 => ?_) (fun w350 => ?_)
            · refine l_iconst rfl ?_
              refine l_pfi rfl rfl rfl rfl ?_
              obtain ⟨U61, eU61⟩ : ∃ T : sS, T = uI U57 895 5 (Int32.ofInt (-1)) := ⟨_, rfl⟩
              rw [← eU61]
              have hHU61 : HI U61 := by rw [eU61]; exact HI_w hHU57 (show -2 ≤ (-1) by omega) (show (-1) ≤ 23 by omega)
              have hFU61 : FR md_me_readThing S U61 := by rw [eU61]; exact FR.wI hFU57 (mdf_i (r := (895, 896, 5, 6)) (List.mem_of_getElem? (i := 0) rfl) (inR_i (by omega) (by omega) (by omega) (by omega)))
              have w351 : Xi U61 895 5 = (-1) := by rw [eU61]; exact Xi_same (by unfold rg; omega)
              refine l_aload_n rfl rfl ?_
              refine l_aload_n rfl rfl ?_
              refine l_gfi rfl rfl rfl rfl rfl ?_
              refine l_bipush rfl rfl ?_
              refine l_icmp_ne rfl rfl (by unfold rg; omega) (by unfold rg; omega) (fun w352 => ?_) (fun w353 => ?_)
              · refine l_iconst rfl ?_
                refine l_pfi rfl rfl rfl rfl ?_
                obtain ⟨U62, eU62⟩ : ∃ T : sS, T = uI U61 895 6 (Int32.ofInt (-1)) := ⟨_, rfl⟩
                rw [← eU62]
                have hHU62 : HI U62 := by rw [eU62]; exact HI_w hHU61 (show -1 ≤ (-1) by omega) (show (-1) ≤ 15 by omega)
                have hFU62 : FR md_me_readThing S U62 := by rw [eU62]; exact FR.wI hFU61 (mdf_i (r := (895, 896, 6, 7)) (List.mem_of_getElem? (i := 1) rfl) (inR_i (by omega) (by omega) (by omega) (by omega)))
                have w354 : Xi U62 895 6 = (-1) := by rw [eU62]; exact Xi_same (by unfold rg; omega)
                refine l_iload rfl rfl ?_
                refine l_ireturn rfl rfl ?_
                have w355 : Xi U62 895 5 = Xi U61 895 5 := (show Xi U62 895 5 = Xi U61 895 5 from by rw [eU62]; exact Xi_ne (by omega))
                have w356 : -2 ≤ Xi U61 895 5 ∧ Xi U61 895 5 ≤ 23 := hHU61.c _ _
                have w357 : -1 ≤ Xi U62 895 6 ∧ Xi U62 895 6 ≤ 15 := hHU62.c _ _
                exact ⟨hHU62, hFU62, _, rfl, ⟨by omega, by omega⟩, (by first | assumption | omega), (by first | assumption | omega), (by first | assumption | omega), (by first | assumption | omega)⟩
              · refine l_aload_n rfl rfl ?_
                refine l_gfi rfl rfl rfl rfl rfl ?_
                have w358 : (Xi U61 895 4) = (Xi S 895 4) := (show Xi U61 895 4 = Xi U57 895 4 from by rw [eU61]; exact Xi_ne (by omega)).trans ( (show Xi U57 895 4 = Xi U56 895 4 from by rw [eU57]; exact Xi_ne (by omega)).trans ( (show Xi U56 895 4 = Xi U55 895 4 from by rw [eU56]; exact Xi_ne (by omega)).trans ((show Xi U55 895 4 = Xi S 895 4 from by rw [eU55]; exact Xi_ne (by omega)))))
                rw [w358]
                refine l_goto rfl rfl ?_
                refine l_pfi rfl rfl rfl rfl ?_
                obtain ⟨U63, eU63⟩ : ∃ T : sS, T = uI U61 895 6 (Int32.ofInt (Xi S 895 4)) := ⟨_, rfl⟩
                rw [← eU63]
                have hHU63 : HI U63 := by rw [eU63]; exact HI_w hHU61 (show -1 ≤ (Xi S 895 4) by omega) (show (Xi S 895 4) ≤ 15 by omega)
                have hFU63 : FR md_me_readThing S U63 := by rw [eU63]; exact FR.wI hFU61 (mdf_i (r := (895, 896, 6, 7)) (List.mem_of_getElem? (i := 1) rfl) (inR_i (by omega) (by omega) (by omega) (by omega)))
                have w359 : Xi U63 895 6 = (Xi S 895 4) := by rw [eU63]; exact Xi_same (by unfold rg; omega)
                refine l_iload rfl rfl ?_
                refine l_ireturn rfl rfl ?_
                have w360 : Xi U63 895 5 = Xi U61 895 5 := (show Xi U63 895 5 = Xi U61 895 5 from by rw [eU63]; exact Xi_ne (by omega))
                have w361 : -2 ≤ Xi U61 895 5 ∧ Xi U61 895 5 ≤ 23 := hHU61.c _ _
                have w362 : -1 ≤ Xi U63 895 6 ∧ Xi U63 895 6 ≤ 15 := hHU63.c _ _
                exact ⟨hHU63, hFU63, _, rfl, ⟨by omega, by omega⟩, (by first | assumption | omega), (by first | assumption | omega), (by first | assumption | omega), (by first | assumption | omega)⟩
            · refine l_bipush rfl rfl ?_
              refine l_goto rfl rfl ?_
              refine l_pfi rfl rfl rfl rfl ?_
              obtain ⟨U64, eU64⟩ : ∃ T : sS, T = uI U57 895 5 (Int32.ofInt (-2)) := ⟨_, rfl⟩
              rw [← eU64]
              have hHU64 : HI U64 := by rw [eU64]; exact HI_w hHU57 (show -2 ≤ (-2) by omega) (show (-2) ≤ 23 by omega)
              have hFU64 : FR md_me_readThing S U64 := by rw [eU64]; exact FR.wI hFU57 (mdf_i (r := (895, 896, 5, 6)) (List.mem_of_getElem? (i := 0) rfl) (inR_i (by omega) (by omega) (by omega) (by omega)))
              have w363 : Xi U64 895 5 = (-2) := by rw [eU64]; exact Xi_same (by unfold rg; omega)
              refine l_aload_n rfl rfl ?_
              refine l_aload_n rfl rfl ?_
              refine l_gfi rfl rfl rfl rfl rfl ?_
              refine l_bipush rfl rfl ?_
              refine l_icmp_ne rfl rfl (by unfold rg; omega) (by unfold rg; omega) (fun w364 => ?_) (fun w365 => ?_)
              · refine l_iconst rfl ?_
                refine l_pfi rfl rfl rfl rfl ?_
                obtain ⟨U65, eU65⟩ : ∃ T : sS, T = uI U64 895 6 (Int32.ofInt (-1)) := ⟨_, rfl⟩
                rw [← eU65]
                have hHU65 : HI U65 := by rw [eU65]; exact HI_w hHU64 (show -1 ≤ (-1) by omega) (show (-1) ≤ 15 by omega)
                have hFU65 : FR md_me_readThing S U65 := by rw [eU65]; exact FR.wI hFU64 (mdf_i (r := (895, 896, 6, 7)) (List.mem_of_getElem? (i := 1) rfl) (inR_i (by omega) (by omega) (by omega) (by omega)))
                have w366 : Xi U65 895 6 = (-1) := by rw [eU65]; exact Xi_same (by unfold rg; omega)
                refine l_iload rfl rfl ?_
                refine l_ireturn rfl rfl ?_
                have w367 : Xi U65 895 5 = Xi U64 895 5 := (show Xi U65 895 5 = Xi U64 895 5 from by rw [eU65]; exact Xi_ne (by omega))
                have w368 : -2 ≤ Xi U64 895 5 ∧ Xi U64 895 5 ≤ 23 := hHU64.c _ _
                have w369 : -1 ≤ Xi U65 895 6 ∧ Xi U65 895 6 ≤ 15 := hHU65.c _ _
                exact ⟨hHU65, hFU65, _, rfl, ⟨by omega, by omega⟩, (by first | assumption | omega), (by first | assumption | omega), (by first | assumption | omega), (by first | assumption | omega)⟩
              · refine l_aload_n rfl rfl ?_
                refine l_gfi rfl rfl rfl rfl rfl ?_
                have w370 : (Xi U64 895 4) = (Xi S 895 4) := (show Xi U64 895 4 = Xi U57 895 4 from by rw [eU64]; exact Xi_ne (by omega)).trans ( (show Xi U57 895 4 = Xi U56 895 4 from by rw [eU57]; exact Xi_ne (by omega)).trans ( (show Xi U56 895 4 = Xi U55 895 4 from by rw [eU56]; exact Xi_ne (by omega)).trans ((show Xi U55 895 4 = Xi S 895 4 from by rw [eU55]; exact Xi_ne (by omega)))))
                rw [w370]
                refine l_goto rfl rfl ?_
                refine l_pfi rfl rfl rfl rfl ?_
                obtain ⟨U66, eU66⟩ : ∃ T : sS, T = uI U64 895 6 (Int32.ofInt (Xi S 895 4)) := ⟨_, rfl⟩
                rw [← eU66]
                have hHU66 : HI U66 := by rw [eU66]; exact HI_w hHU64 (show -1 ≤ (Xi S 895 4) by omega) (show (Xi S 895 4) ≤ 15 by omega)
                have hFU66 : FR md_me_readThing S U66 := by rw [eU66]; exact FR.wI hFU64 (mdf_i (r := (895, 896, 6, 7)) (List.mem_of_getElem? (i := 1) rfl) (inR_i (by omega) (by omega) (by omega) (by omega)))
                have w371 : Xi U66 895 6 = (Xi S 895 4) := by rw [eU66]; exact Xi_same (by unfold rg; omega)
                refine l_iload rfl rfl ?_
                refine l_ireturn rfl rfl ?_
                have w372 : Xi U66 895 5 = Xi U64 895 5 := (show Xi U66 895 5 = Xi U64 895 5 from by rw [eU66]; exact Xi_ne (by omega))
                have w373 : -2 ≤ Xi U64 895 5 ∧ Xi U64 895 5 ≤ 23 := hHU64.c _ _
                have w374 : -1 ≤ Xi U66 895 6 ∧ Xi U66 895 6 ≤ 15 := hHU66.c _ _
                exact ⟨hHU66, hFU66, _, rfl, ⟨by omega, by omega⟩, (by first | assumption | omega), (by first | assumption | omega), (by first | assumption | omega), (by first | assumption | omega)⟩
