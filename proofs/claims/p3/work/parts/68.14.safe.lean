/-! SAFETY of methods: printed by wip/safe (vc.py, decl.py) -/
abbrev Q_ji_bitCount (S : sS) (i : Int) : pst := fun r S1 => S = S1 ∧ (∃ z : Int, r = some (iv z) ∧ (0 ≤ z ∧ z ≤ 63))
set_option maxRecDepth 100000 in
theorem t_ji_bitCount {S : sS} (hH : HI S) (i : Int) (hi : -2147483648 ≤ i ∧ i ≤ 2147483647) (d : Nat) : Mt lay0 (d + 1) m_ji_bitCount [iv i] S (Q_ji_bitCount S i) := by
  refine Mt_R rfl rfl ?_
  refine l_iload_n rfl rfl ?_
  refine l_iload_n rfl rfl ?_
  refine l_iconst rfl ?_
  refine l_iushrF rfl ?_
  have w1 : -2147483648 ≤ (iushrF i 1) ∧ (iushrF i 1) ≤ 2147483647 := iushrF_rg
  refine l_ldcw (z := 1431655765) rfl rfl ?_
  refine l_iandF rfl ?_
  have w2 : 0 ≤ (iandF (iushrF i 1) 1431655765) ∧ (iandF (iushrF i 1) 1431655765) ≤ 1431655765 := iandF_le (by omega) (by unfold rg; omega)
  refine l_isub rfl ?_
  refine l_istore_n rfl rfl rfl ?_
  refine l_iload_n rfl rfl ?_
  refine l_ldcw (z := 858993459) rfl rfl ?_
  refine l_iandF rfl ?_
  have w3 : 0 ≤ (iandF (i - (iandF (iushrF i 1) 1431655765)) 858993459) ∧ (iandF (i - (iandF (iushrF i 1) 1431655765)) 858993459) ≤ 858993459 := iandF_le (by omega) (by unfold rg; omega)
  refine l_iload_n rfl rfl ?_
  refine l_iconst rfl ?_
  refine l_iushrF rfl ?_
  have w4 : -2147483648 ≤ (iushrF (i - (iandF (iushrF i 1) 1431655765)) 2) ∧ (iushrF (i - (iandF (iushrF i 1) 1431655765)) 2) ≤ 2147483647 := iushrF_rg
  refine l_ldcw (z := 858993459) rfl rfl ?_
  refine l_iandF rfl ?_
  have w5 : 0 ≤ (iandF (iushrF (i - (iandF (iushrF i 1) 1431655765)) 2) 858993459) ∧ (iandF (iushrF (i - (iandF (iushrF i 1) 1431655765)) 2) 858993459) ≤ 858993459 := iandF_le (by omega) (by unfold rg; omega)
  refine l_iadd rfl ?_
  refine l_istore_n rfl rfl rfl ?_
  refine l_iload_n rfl rfl ?_
  refine l_iload_n rfl rfl ?_
  refine l_iconst rfl ?_
  refine l_iushrF rfl ?_
  have w6 : -2147483648 ≤ (iushrF ((iandF (i - (iandF (iushrF i 1) 1431655765)) 858993459) + (iandF (iushrF (i - (iandF (iushrF i 1) 1431655765)) 2) 858993459)) 4) ∧ (iushrF ((iandF (i - (iandF (iushrF i 1) 1431655765)) 858993459) + (iandF (iushrF (i - (iandF (iushrF i 1) 1431655765)) 2) 858993459)) 4) ≤ 2147483647 := iushrF_rg
  refine l_iadd rfl ?_
  refine l_ldcw (z := 252645135) rfl rfl ?_
  refine l_iandF rfl ?_
  have w7 : 0 ≤ (iandF (((iandF (i - (iandF (iushrF i 1) 1431655765)) 858993459) + (iandF (iushrF (i - (iandF (iushrF i 1) 1431655765)) 2) 858993459)) + (iushrF ((iandF (i - (iandF (iushrF i 1) 1431655765)) 858993459) + (iandF (iushrF (i - (iandF (iushrF i 1) 1431655765)) 2) 858993459)) 4)) 252645135) ∧ (iandF (((iandF (i - (iandF (iushrF i 1) 1431655765)) 858993459) + (iandF (iushrF (i - (iandF (iushrF i 1) 1431655765)) 2) 858993459)) + (iushrF ((iandF (i - (iandF (iushrF i 1) 1431655765)) 858993459) + (iandF (iushrF (i - (iandF (iushrF i 1) 1431655765)) 2) 858993459)) 4)) 252645135) ≤ 252645135 := iandF_le (by omega) (by unfold rg; omega)
  refine l_istore_n rfl rfl rfl ?_
  refine l_iload_n rfl rfl ?_
  refine l_iload_n rfl rfl ?_
  refine l_bipush rfl rfl ?_
  refine l_iushrF rfl ?_
  have w8 : -2147483648 ≤ (iushrF (iandF (((iandF (i - (iandF (iushrF i 1) 1431655765)) 858993459) + (iandF (iushrF (i - (iandF (iushrF i 1) 1431655765)) 2) 858993459)) + (iushrF ((iandF (i - (iandF (iushrF i 1) 1431655765)) 858993459) + (iandF (iushrF (i - (iandF (iushrF i 1) 1431655765)) 2) 858993459)) 4)) 252645135) 8) ∧ (iushrF (iandF (((iandF (i - (iandF (iushrF i 1) 1431655765)) 858993459) + (iandF (iushrF (i - (iandF (iushrF i 1) 1431655765)) 2) 858993459)) + (iushrF ((iandF (i - (iandF (iushrF i 1) 1431655765)) 858993459) + (iandF (iushrF (i - (iandF (iushrF i 1) 1431655765)) 2) 858993459)) 4)) 252645135) 8) ≤ 2147483647 := iushrF_rg
  refine l_iadd rfl ?_
  refine l_istore_n rfl rfl rfl ?_
  refine l_iload_n rfl rfl ?_
  refine l_iload_n rfl rfl ?_
  refine l_bipush rfl rfl ?_
  refine l_iushrF rfl ?_
  have w9 : -2147483648 ≤ (iushrF ((iandF (((iandF (i - (iandF (iushrF i 1) 1431655765)) 858993459) + (iandF (iushrF (i - (iandF (iushrF i 1) 1431655765)) 2) 858993459)) + (iushrF ((iandF (i - (iandF (iushrF i 1) 1431655765)) 858993459) + (iandF (iushrF (i - (iandF (iushrF i 1) 1431655765)) 2) 858993459)) 4)) 252645135) + (iushrF (iandF (((iandF (i - (iandF (iushrF i 1) 1431655765)) 858993459) + (iandF (iushrF (i - (iandF (iushrF i 1) 1431655765)) 2) 858993459)) + (iushrF ((iandF (i - (iandF (iushrF i 1) 1431655765)) 858993459) + (iandF (iushrF (i - (iandF (iushrF i 1) 1431655765)) 2) 858993459)) 4)) 252645135) 8)) 16) ∧ (iushrF ((iandF (((iandF (i - (iandF (iushrF i 1) 1431655765)) 858993459) + (iandF (iushrF (i - (iandF (iushrF i 1) 1431655765)) 2) 858993459)) + (iushrF ((iandF (i - (iandF (iushrF i 1) 1431655765)) 858993459) + (iandF (iushrF (i - (iandF (iushrF i 1) 1431655765)) 2) 858993459)) 4)) 252645135) + (iushrF (iandF (((iandF (i - (iandF (iushrF i 1) 1431655765)) 858993459) + (iandF (iushrF (i - (iandF (iushrF i 1) 1431655765)) 2) 858993459)) + (iushrF ((iandF (i - (iandF (iushrF i 1) 1431655765)) 858993459) + (iandF (iushrF (i - (iandF (iushrF i 1) 1431655765)) 2) 858993459)) 4)) 252645135) 8)) 16) ≤ 2147483647 := iushrF_rg
  refine l_iadd rfl ?_
  refine l_istore_n rfl rfl rfl ?_
  refine l_iload_n rfl rfl ?_
  refine l_bipush rfl rfl ?_
  refine l_iandF rfl ?_
  have w10 : 0 ≤ (iandF (((iandF (((iandF (i - (iandF (iushrF i 1) 1431655765)) 858993459) + (iandF (iushrF (i - (iandF (iushrF i 1) 1431655765)) 2) 858993459)) + (iushrF ((iandF (i - (iandF (iushrF i 1) 1431655765)) 858993459) + (iandF (iushrF (i - (iandF (iushrF i 1) 1431655765)) 2) 858993459)) 4)) 252645135) + (iushrF (iandF (((iandF (i - (iandF (iushrF i 1) 1431655765)) 858993459) + (iandF (iushrF (i - (iandF (iushrF i 1) 1431655765)) 2) 858993459)) + (iushrF ((iandF (i - (iandF (iushrF i 1) 1431655765)) 858993459) + (iandF (iushrF (i - (iandF (iushrF i 1) 1431655765)) 2) 858993459)) 4)) 252645135) 8)) + (iushrF ((iandF (((iandF (i - (iandF (iushrF i 1) 1431655765)) 858993459) + (iandF (iushrF (i - (iandF (iushrF i 1) 1431655765)) 2) 858993459)) + (iushrF ((iandF (i - (iandF (iushrF i 1) 1431655765)) 858993459) + (iandF (iushrF (i - (iandF (iushrF i 1) 1431655765)) 2) 858993459)) 4)) 252645135) + (iushrF (iandF (((iandF (i - (iandF (iushrF i 1) 1431655765)) 858993459) + (iandF (iushrF (i - (iandF (iushrF i 1) 1431655765)) 2) 858993459)) + (iushrF ((iandF (i - (iandF (iushrF i 1) 1431655765)) 858993459) + (iandF (iushrF (i - (iandF (iushrF i 1) 1431655765)) 2) 858993459)) 4)) 252645135) 8)) 16)) 63) ∧ (iandF (((iandF (((iandF (i - (iandF (iushrF i 1) 1431655765)) 858993459) + (iandF (iushrF (i - (iandF (iushrF i 1) 1431655765)) 2) 858993459)) + (iushrF ((iandF (i - (iandF (iushrF i 1) 1431655765)) 858993459) + (iandF (iushrF (i - (iandF (iushrF i 1) 1431655765)) 2) 858993459)) 4)) 252645135) + (iushrF (iandF (((iandF (i - (iandF (iushrF i 1) 1431655765)) 858993459) + (iandF (iushrF (i - (iandF (iushrF i 1) 1431655765)) 2) 858993459)) + (iushrF ((iandF (i - (iandF (iushrF i 1) 1431655765)) 858993459) + (iandF (iushrF (i - (iandF (iushrF i 1) 1431655765)) 2) 858993459)) 4)) 252645135) 8)) + (iushrF ((iandF (((iandF (i - (iandF (iushrF i 1) 1431655765)) 858993459) + (iandF (iushrF (i - (iandF (iushrF i 1) 1431655765)) 2) 858993459)) + (iushrF ((iandF (i - (iandF (iushrF i 1) 1431655765)) 858993459) + (iandF (iushrF (i - (iandF (iushrF i 1) 1431655765)) 2) 858993459)) 4)) 252645135) + (iushrF (iandF (((iandF (i - (iandF (iushrF i 1) 1431655765)) 858993459) + (iandF (iushrF (i - (iandF (iushrF i 1) 1431655765)) 2) 858993459)) + (iushrF ((iandF (i - (iandF (iushrF i 1) 1431655765)) 858993459) + (iandF (iushrF (i - (iandF (iushrF i 1) 1431655765)) 2) 858993459)) 4)) 252645135) 8)) 16)) 63) ≤ 63 := iandF_le (by omega) (by unfold rg; omega)
  refine l_ireturn rfl rfl ?_
  exact ⟨rfl, _, rfl, ⟨by omega, by omega⟩⟩
def md_co_fitsGap : List rec := [(882, 883, 13, 14)]
abbrev Q_co_fitsGap (S : sS) (kind : Int) (meant : Int) : pst := fun r S1 => HI S1 ∧ FR md_co_fitsGap S S1 ∧ (∃ z : Int, r = some (iv z) ∧ (0 ≤ z ∧ z ≤ 1) ∧ (z = 1 → 0 ≤ Xi S1 882 13 ∧ Xi S1 882 13 ≤ 23 ∧ (kind = -2 → Xi S1 882 13 ≤ 5)))
set_option maxRecDepth 100000 in
theorem t_co_fitsGap {S : sS} (hH : HI S) (kind : Int) (meant : Int) (hkind : -2 ≤ kind ∧ kind ≤ 255) (hmeant : -1 ≤ meant ∧ meant ≤ 3647) (hL : LEX S) (hm : mOK S meant) (d : Nat) : Mt lay0 (d + 3) m_co_fitsGap [.ref 882, iv kind, iv meant] S (Q_co_fitsGap S kind meant) := by
  refine Mt_R rfl rfl ?_
  have hF : FR md_co_fitsGap S S := FR.rf
  have hm14 : meant / 256 = 14 → 0 ≤ meant % 256 ∧ meant % 256 ≤ 5 := fun e => fb14 hH (lx hm e (by omega))
  have hm2 : meant / 256 = 2 → 0 ≤ meant % 256 ∧ meant % 256 ≤ 23 ∧ meant % 256 < Xi S 5 2 := fun e => fb2 hH (lx hm e (by omega))
  refine l_aload_n rfl rfl ?_
  refine l_iload_n rfl rfl ?_
  refine l_sipush rfl rfl ?_
  refine l_iand255 rfl (by unfold rg; omega) ?_
  refine l_pfi rfl rfl rfl rfl ?_
  obtain ⟨U1, eU1⟩ : ∃ T : sS, T = uI S 882 13 (Int32.ofInt (meant % 256)) := ⟨_, rfl⟩
  rw [← eU1]
  have hHU1 : HI U1 := by rw [eU1]; exact HI_w hH (show -1 ≤ (meant % 256) by omega) (show (meant % 256) ≤ 255 by omega)
  have hFU1 : FR md_co_fitsGap S U1 := by rw [eU1]; exact FR.wI hF (mdf_i (r := (882, 883, 13, 14)) (List.mem_of_getElem? (i := 0) rfl) (inR_i (by omega) (by omega) (by omega) (by omega)))
  have w2 : Xi U1 882 13 = (meant % 256) := by rw [eU1]; exact Xi_same (by unfold rg; omega)
  refine l_iload_n rfl rfl ?_
  refine l_bipush rfl rfl ?_
  refine l_icmp_ne rfl rfl (by unfold rg; omega) (by unfold rg; omega) (fun w3 => ?_) (fun w4 => ?_)
  · refine l_iload_n rfl rfl ?_
    refine l_bipush rfl rfl ?_
    refine l_ishr8 rfl (by unfold rg; omega) ?_
    refine l_iconst rfl ?_
    refine l_icmp_ne rfl rfl (by unfold rg; omega) (by unfold rg; omega) (fun w6 => ?_) (fun w7 => ?_)
    · refine l_iconst rfl ?_
      refine l_ireturn rfl rfl ?_
      have w8 : -1 ≤ Xi U1 882 13 ∧ Xi U1 882 13 ≤ 255 := hHU1.c _ _
      exact ⟨hHU1, hFU1, _, rfl, ⟨by omega, by omega⟩, (by first | assumption | omega)⟩
    · refine l_aload_n rfl rfl ?_
      refine l_gfr rfl rfl rfl rfl rfl (hHU1.r 882 2 20 rfl) ?_
      refine l_aload_n rfl rfl ?_
      refine l_gfi rfl rfl rfl rfl rfl ?_
      refine l_iload_n rfl rfl ?_
      refine l_callV rfl rfl rfl (t_wo_isA hHU1 (Xi U1 882 13) kind ⟨by omega, by omega⟩ ⟨by omega, by omega⟩ _) ?_
      rintro _ _ ⟨rfl, z10, rfl, w10, w9⟩
      show Rl _ _ _ _ _ [iv z10] _ _
      refine l_if_eq rfl rfl (by unfold rg; omega) (fun w11 => ?_) (fun w12 => ?_)
      · refine l_iconst rfl ?_
        refine l_ireturn rfl rfl ?_
        have w13 : -1 ≤ Xi U1 882 13 ∧ Xi U1 882 13 ≤ 255 := hHU1.c _ _
        exact ⟨hHU1, hFU1, _, rfl, ⟨by omega, by omega⟩, (by first | assumption | omega)⟩
      · refine l_iconst rfl ?_
        refine l_goto rfl rfl ?_
        refine l_ireturn rfl rfl ?_
        have w14 : -1 ≤ Xi U1 882 13 ∧ Xi U1 882 13 ≤ 255 := hHU1.c _ _
        exact ⟨hHU1, hFU1, _, rfl, ⟨by omega, by omega⟩, (by first | assumption | omega)⟩
  · refine l_iload_n rfl rfl ?_
    refine l_bipush rfl rfl ?_
    refine l_ishr8 rfl (by unfold rg; omega) ?_
    refine l_bipush rfl rfl ?_
    refine l_icmp_ne rfl rfl (by unfold rg; omega) (by unfold rg; omega) (fun w16 => ?_) (fun w17 => ?_)
    · refine l_iconst rfl ?_
      refine l_ireturn rfl rfl ?_
      have w18 : -1 ≤ Xi U1 882 13 ∧ Xi U1 882 13 ≤ 255 := hHU1.c _ _
      exact ⟨hHU1, hFU1, _, rfl, ⟨by omega, by omega⟩, (by first | assumption | omega)⟩
    · refine l_iconst rfl ?_
      refine l_goto rfl rfl ?_
      refine l_ireturn rfl rfl ?_
      have w19 : -1 ≤ Xi U1 882 13 ∧ Xi U1 882 13 ≤ 255 := hHU1.c _ _
      exact ⟨hHU1, hFU1, _, rfl, ⟨by omega, by omega⟩, (by first | assumption | omega)⟩
def md_co_fits : List rec := [(882, 883, 13, 14)]
abbrev Q_co_fits (S : sS) (i : Int) : pst := fun r S1 => HI S1 ∧ FR md_co_fits S S1 ∧ (∃ z : Int, r = some (iv z) ∧ (0 ≤ z ∧ z ≤ 1) ∧ (z = 1 → (Xi S 885 i.toNat = -1 → Xi S1 882 13 = -1) ∧ (Xi S 885 i.toNat ≠ -1 → 0 ≤ Xi S1 882 13 ∧ Xi S1 882 13 ≤ 23 ∧ (Xi S 886 i.toNat = -2 → Xi S1 882 13 ≤ 5))))
set_option maxRecDepth 100000 in
theorem t_co_fits {S : sS} (hH : HI S) (i : Int) (hi : 0 ≤ i ∧ i ≤ 19) (hL : LEX S) (d : Nat) : Mt lay0 (d + 4) m_co_fits [.ref 882, iv i] S (Q_co_fits S i) := by
  refine Mt_R rfl rfl ?_
  have hF : FR md_co_fits S S := FR.rf
  have w1 : -1 ≤ Xi S 882 13 ∧ Xi S 882 13 ≤ 255 := hH.c _ _
  have C74 : ∀ (n74 : Nat) (T1 : sS) (_ : HI T1) (_ : FR md_co_fits S T1) (v2 : Int) (v3 : Int) (v4 : Int), (0 ≤ v2 ∧ v2 ≤ 2) → (0 ≤ v3 ∧ v3 ≤ 8) → (0 ≤ v4 ∧ v4 ≤ 8) → ((Xi S 885 i.toNat = -1 → v2 = 0 ∧ v3 = Xi S 884 i.toNat) ∧ (Xi S 885 i.toNat ≠ -1 → 0 ≤ v2 ∧ v2 < 3 ∧ v3 = Xi S 885 i.toNat)) → (v2 + Xi S 884 i.toNat ≤ 50) → (Xi T1 882 13 = -1) → n74 = (9 - v4).toNat → Rl lay0 (d + 3) m_co_fits 74 [(0, .ref 882), (1, iv i), (2, iv v2), (3, iv v3), (4, iv v4)] [] T1 (Q_co_fits S i) := by
    intro n74
    induction n74 using Nat.strongRecOn with
    | ind n74 ih74 =>
      intro T1 hHT1 hFT1 v2 v3 v4 w2 w3 w4 w5 w6 w7 hm74
      have w8 : -1 ≤ Xi T1 882 13 ∧ Xi T1 882 13 ≤ 255 := hHT1.c _ _
      refine l_iload rfl rfl ?_
      have hg5 : Xi T1 885 i.toNat = Xi S 885 i.toNat := (hFT1.cx 885 rfl _).1
      have hg4 : Xi T1 884 i.toNat = Xi S 884 i.toNat := (hFT1.cx 884 rfl _).1
      have hg6 : Xi T1 886 i.toNat = Xi S 886 i.toNat := (hFT1.cx 886 rfl _).1
      refine l_aload_n rfl rfl ?_
      refine l_gfr rfl rfl rfl rfl rfl (hHT1.r 882 5 884 rfl) ?_
      refine l_iload_n rfl rfl ?_
      refine l_iaload (n := 20) rfl rfl (by omega) (by omega) (by unfold rg; omega) ?_
      have w9 : 0 ≤ (Xi T1 884 ((i).toNat)) ∧ (Xi T1 884 ((i).toNat)) ≤ 8 := hHT1.c _ _
      refine l_icmp_ge rfl rfl (by unfold rg; omega) (by unfold rg; omega) (fun w10 => ?_) (fun w11 => ?_)
      · refine l_aload_n rfl rfl ?_
        refine l_gfr rfl rfl rfl rfl rfl (hHT1.r 882 6 885 rfl) ?_
        refine l_iload_n rfl rfl ?_
        refine l_iaload (n := 20) rfl rfl (by omega) (by omega) (by unfold rg; omega) ?_
        have w12 : -1 ≤ (Xi T1 885 ((i).toNat)) ∧ (Xi T1 885 ((i).toNat)) ≤ 7 := hHT1.c _ _
        refine l_iconst rfl ?_
        refine l_icmp_eq rfl rfl (by unfold rg; omega) (by unfold rg; omega) (fun w13 => ?_) (fun w14 => ?_)
        · refine l_iconst rfl ?_
          refine l_goto rfl rfl ?_
          refine l_ireturn rfl rfl ?_
          have w15 : -1 ≤ Xi T1 882 13 ∧ Xi T1 882 13 ≤ 255 := hHT1.c _ _
          exact ⟨hHT1, hFT1, _, rfl, ⟨by omega, by omega⟩, (by first | assumption | omega)⟩
        · refine l_aload_n rfl rfl ?_
          refine l_aload_n rfl rfl ?_
          refine l_gfr rfl rfl rfl rfl rfl (hHT1.r 882 7 886 rfl) ?_
          refine l_iload_n rfl rfl ?_
          refine l_iaload (n := 20) rfl rfl (by omega) (by omega) (by unfold rg; omega) ?_
          have w16 : -2 ≤ (Xi T1 886 ((i).toNat)) ∧ (Xi T1 886 ((i).toNat)) ≤ 255 := hHT1.c _ _
          refine l_aload_n rfl rfl ?_
          refine l_gfr rfl rfl rfl rfl rfl (hHT1.r 882 1 1 rfl) ?_
          refine l_aload_n rfl rfl ?_
          refine l_gfr rfl rfl rfl rfl rfl (hHT1.r 882 11 889 rfl) ?_
          refine l_iload_n rfl rfl ?_
          refine l_iload_n rfl rfl ?_
          refine l_iload_n rfl rfl ?_
          refine l_iadd rfl ?_
          refine l_iconst rfl ?_
          refine l_iadd rfl ?_
          refine l_callV rfl rfl rfl (t_vo_meaning hHT1 889 50 v3 ((v3 + v2) + 1) rfl ⟨by omega, by omega⟩ ⟨by omega, by omega⟩ ⟨by omega, by omega⟩ (by first | assumption | exact (LEX_FR hFT1 rfl rfl (by assumption : LEX S))) _) ?_
          rintro _ _ ⟨rfl, z20, rfl, w20, w17, w18, w19⟩
          show Rl _ _ _ _ _ [iv z20, iv (Xi T1 886 ((i).toNat)), .ref 882] _ _
          have hmnz20 := mOK_n (z := z20) (by assumption)
          refine l_callV rfl rfl rfl (t_co_fitsGap hHT1 (Xi T1 886 ((i).toNat)) z20 ⟨by omega, by omega⟩ ⟨by omega, by omega⟩ (by first | assumption | exact (LEX_FR hFT1 rfl rfl (by assumption : LEX S))) (by assumption) _) ?_
          rintro _ T2 ⟨hHT2, w23, z22, rfl, w22, w21⟩
          have hFT2 : FR md_co_fits S T2 := FR.tr hFT1 w23 rfl
          show Rl _ _ _ _ _ [iv z22] _ _
          refine l_if_eq rfl rfl (by unfold rg; omega) (fun w24 => ?_) (fun w25 => ?_)
          · refine l_iconst rfl ?_
            refine l_ireturn rfl rfl ?_
            have w26 : -1 ≤ Xi T2 882 13 ∧ Xi T2 882 13 ≤ 255 := hHT2.c _ _
            exact ⟨hHT2, hFT2, _, rfl, ⟨by omega, by omega⟩, (by first | assumption | omega)⟩
          · refine l_iconst rfl ?_
            refine l_goto rfl rfl ?_
            refine l_ireturn rfl rfl ?_
            have w27 : -1 ≤ Xi T2 882 13 ∧ Xi T2 882 13 ≤ 255 := hHT2.c _ _
            exact ⟨hHT2, hFT2, _, rfl, ⟨by omega, by omega⟩, (by first | assumption | omega)⟩
      · refine l_iload rfl rfl ?_
        refine l_aload_n rfl rfl ?_
        refine l_gfr rfl rfl rfl rfl rfl (hHT1.r 882 6 885 rfl) ?_
        refine l_iload_n rfl rfl ?_
        refine l_iaload (n := 20) rfl rfl (by omega) (by omega) (by unfold rg; omega) ?_
        have w28 : -1 ≤ (Xi T1 885 ((i).toNat)) ∧ (Xi T1 885 ((i).toNat)) ≤ 7 := hHT1.c _ _
        refine l_icmp_eq rfl rfl (by unfold rg; omega) (by unfold rg; omega) (fun w29 => ?_) (fun w30 => ?_)
        · refine l_iinc rfl rfl rfl rfl ?_
          refine l_goto rfl rfl ?_
          have w31 : -1 ≤ Xi T1 882 13 ∧ Xi T1 882 13 ≤ 255 := hHT1.c _ _
          exact Rl_weak (ih74 _ (by omega) T1 hHT1 hFT1 (v2) (v3) ((v4 + 1)) (by omega) (by omega) (by omega) (by omega) (by omega) (by omega) rfl) (And.intro rfl (And.intro rfl (And.intro rfl (And.intro rfl (And.intro rfl (True.intro))))))
        · refine l_aload_n rfl rfl ?_
          refine l_gfr rfl rfl rfl rfl rfl (hHT1.r 882 8 887 rfl) ?_
          refine l_iload_n rfl rfl ?_
          refine l_bipush rfl rfl ?_
          refine l_imul rfl ?_
          refine l_iload rfl rfl ?_
          refine l_iadd rfl ?_
          refine l_laload (n := 160) rfl rfl (by omega) (by omega) (by unfold rg; omega) ?_
          have w32 : -9223372036854775808 ≤ (Xj T1 887 ((((i * 8) + v4)).toNat)) ∧ (Xj T1 887 ((((i * 8) + v4)).toNat)) < 9223372036854775808 := Xj_rg
          refine l_aload_n rfl rfl ?_
          refine l_gfr rfl rfl rfl rfl rfl (hHT1.r 882 11 889 rfl) ?_
          refine l_iload rfl rfl ?_
          refine l_iload_n rfl rfl ?_
          refine l_icmp_ge rfl rfl (by unfold rg; omega) (by unfold rg; omega) (fun w33 => ?_) (fun w34 => ?_)
          · refine l_iload rfl rfl ?_
            refine l_iload_n rfl rfl ?_
            refine l_iadd rfl ?_
            refine l_laload (n := 50) rfl rfl (by omega) (by omega) (by unfold rg; omega) ?_
            have w35 : -9223372036854775808 ≤ (Xj T1 889 (((v4 + v2)).toNat)) ∧ (Xj T1 889 (((v4 + v2)).toNat)) < 9223372036854775808 := Xj_rg
            refine l_lcmpA rfl (fun c36 w36 => ?_)
            refine l_if_eq rfl rfl (by unfold rg; omega) (fun w37 => ?_) (fun w38 => ?_)
            · refine l_iinc rfl rfl rfl rfl ?_
              refine l_goto rfl rfl ?_
              have w39 : -1 ≤ Xi T1 882 13 ∧ Xi T1 882 13 ≤ 255 := hHT1.c _ _
              exact Rl_weak (ih74 _ (by omega) T1 hHT1 hFT1 (v2) (v3) ((v4 + 1)) (by omega) (by omega) (by omega) (by omega) (by omega) (by omega) rfl) (And.intro rfl (And.intro rfl (And.intro rfl (And.intro rfl (And.intro rfl (True.intro))))))
            · refine l_iconst rfl ?_
              refine l_ireturn rfl rfl ?_
              have w40 : -1 ≤ Xi T1 882 13 ∧ Xi T1 882 13 ≤ 255 := hHT1.c _ _
              exact ⟨hHT1, hFT1, _, rfl, ⟨by omega, by omega⟩, (by first | assumption | omega)⟩
          · refine l_iload rfl rfl ?_
            refine l_goto rfl rfl ?_
            refine l_laload (n := 50) rfl rfl (by omega) (by omega) (by unfold rg; omega) ?_
            have w41 : -9223372036854775808 ≤ (Xj T1 889 ((v4).toNat)) ∧ (Xj T1 889 ((v4).toNat)) < 9223372036854775808 := Xj_rg
            refine l_lcmpA rfl (fun c42 w42 => ?_)
            refine l_if_eq rfl rfl (by unfold rg; omega) (fun w43 => ?_) (fun w44 => ?_)
            · refine l_iinc rfl rfl rfl rfl ?_
              refine l_goto rfl rfl ?_
              have w45 : -1 ≤ Xi T1 882 13 ∧ Xi T1 882 13 ≤ 255 := hHT1.c _ _
              exact Rl_weak (ih74 _ (by omega) T1 hHT1 hFT1 (v2) (v3) ((v4 + 1)) (by omega) (by omega) (by omega) (by omega) (by omega) (by omega) rfl) (And.intro rfl (And.intro rfl (And.intro rfl (And.intro rfl (And.intro rfl (True.intro))))))
            · refine l_iconst rfl ?_
              refine l_ireturn rfl rfl ?_
              have w46 : -1 ≤ Xi T1 882 13 ∧ Xi T1 882 13 ≤ 255 := hHT1.c _ _
              exact ⟨hHT1, hFT1, _, rfl, ⟨by omega, by omega⟩, (by first | assumption | omega)⟩
  refine l_aload_n rfl rfl ?_
  refine l_gfi rfl rfl rfl rfl rfl ?_
  have w47 : 0 ≤ (Xi S 882 12) ∧ (Xi S 882 12) ≤ 50 := hH.c _ _
  refine l_aload_n rfl rfl ?_
  refine l_gfr rfl rfl rfl rfl rfl (hH.r 882 5 884 rfl) ?_
  refine l_iload_n rfl rfl ?_
  refine l_iaload (n := 20) rfl rfl (by omega) (by omega) (by unfold rg; omega) ?_
  have w48 : 0 ≤ (Xi S 884 ((i).toNat)) ∧ (Xi S 884 ((i).toNat)) ≤ 8 := hH.c _ _
  refine l_isub rfl ?_
  refine l_istore_n rfl rfl rfl ?_
  refine l_aload_n rfl rfl ?_
  refine l_gfr rfl rfl rfl rfl rfl (hH.r 882 6 885 rfl) ?_
  refine l_iload_n rfl rfl ?_
  refine l_iaload (n := 20) rfl rfl (by omega) (by omega) (by unfold rg; omega) ?_
  have w49 : -1 ≤ (Xi S 885 ((i).toNat)) ∧ (Xi S 885 ((i).toNat)) ≤ 7 := hH.c _ _
  refine l_iconst rfl ?_
  refine l_icmp_ne rfl rfl (by unfold rg; omega) (by unfold rg; omega) (fun w50 => ?_) (fun w51 => ?_)
  · refine l_aload_n rfl rfl ?_
    refine l_gfr rfl rfl rfl rfl rfl (hH.r 882 6 885 rfl) ?_
    refine l_iload_n rfl rfl ?_
    refine l_iaload (n := 20) rfl rfl (by omega) (by omega) (by unfold rg; omega) ?_
    refine l_istore_n rfl rfl rfl ?_
    refine l_aload_n rfl rfl ?_
    refine l_iconst rfl ?_
    refine l_pfi rfl rfl rfl rfl ?_
    obtain ⟨U3, eU3⟩ : ∃ T : sS, T = uI S 882 13 (Int32.ofInt (-1)) := ⟨_, rfl⟩
    rw [← eU3]
    have hHU3 : HI U3 := by rw [eU3]; exact HI_w hH (show -1 ≤ (-1) by omega) (show (-1) ≤ 255 by omega)
    have hFU3 : FR md_co_fits S U3 := by rw [eU3]; exact FR.wI hF (mdf_i (r := (882, 883, 13, 14)) (List.mem_of_getElem? (i := 0) rfl) (inR_i (by omega) (by omega) (by omega) (by omega)))
    have w52 : Xi U3 882 13 = (-1) := by rw [eU3]; exact Xi_same (by unfold rg; omega)
    have hg5 : Xi U3 885 i.toNat = Xi S 885 i.toNat := (hFU3.cx 885 rfl _).1
    have hg4 : Xi U3 884 i.toNat = Xi S 884 i.toNat := (hFU3.cx 884 rfl _).1
    have hg6 : Xi U3 886 i.toNat = Xi S 886 i.toNat := (hFU3.cx 886 rfl _).1
    refine l_aload_n rfl rfl ?_
    refine l_gfr rfl rfl rfl rfl rfl (hHU3.r 882 6 885 rfl) ?_
    refine l_iload_n rfl rfl ?_
    refine l_iaload (n := 20) rfl rfl (by omega) (by omega) (by unfold rg; omega) ?_
    have w53 : (Xi U3 885 ((i).toNat)) = (Xi S 885 ((i).toNat)) := (show Xi U3 885 ((i).toNat) = Xi S 885 ((i).toNat) from by rw [eU3]; exact Xi_ne (by omega))
    rw [w53]
    refine l_iconst rfl ?_
    refine l_icmp_ne rfl rfl (by unfold rg; omega) (by unfold rg; omega) (fun w54 => ?_) (fun w55 => ?_)
    · refine l_iload_n rfl rfl ?_
      refine l_if_lt rfl rfl (by unfold rg; omega) (fun w56 => ?_) (fun w57 => ?_)
      · refine l_iconst rfl ?_
        refine l_ireturn rfl rfl ?_
        have w58 : -1 ≤ Xi U3 882 13 ∧ Xi U3 882 13 ≤ 255 := hHU3.c _ _
        exact ⟨hHU3, hFU3, _, rfl, ⟨by omega, by omega⟩, (by first | assumption | omega)⟩
      · refine l_iload_n rfl rfl ?_
        refine l_iconst rfl ?_
        refine l_icmp_lt rfl rfl (by unfold rg; omega) (by unfold rg; omega) (fun w59 => ?_) (fun w60 => ?_)
        · refine l_iconst rfl ?_
          refine l_istore rfl rfl rfl ?_
          have w61 : -1 ≤ Xi U3 882 13 ∧ Xi U3 882 13 ≤ 255 := hHU3.c _ _
          exact Rl_weak (C74 _ U3 hHU3 hFU3 (((Xi S 882 12) - (Xi S 884 ((i).toNat)))) ((Xi S 885 ((i).toNat))) (0) (by omega) (by omega) (by omega) (by omega) (by omega) (by omega) rfl) (And.intro rfl (And.intro rfl (And.intro rfl (And.intro rfl (And.intro rfl (True.intro))))))
        · refine l_iconst rfl ?_
          refine l_ireturn rfl rfl ?_
          have w62 : -1 ≤ Xi U3 882 13 ∧ Xi U3 882 13 ≤ 255 := hHU3.c _ _
          exact ⟨hHU3, hFU3, _, rfl, ⟨by omega, by omega⟩, (by first | assumption | omega)⟩
    · refine l_iload_n rfl rfl ?_
      refine l_if_eq rfl rfl (by unfold rg; omega) (fun w63 => ?_) (fun w64 => ?_)
      · refine l_iconst rfl ?_
        refine l_istore rfl rfl rfl ?_
        have w65 : -1 ≤ Xi U3 882 13 ∧ Xi U3 882 13 ≤ 255 := hHU3.c _ _
        exact Rl_weak (C74 _ U3 hHU3 hFU3 (((Xi S 882 12) - (Xi S 884 ((i).toNat)))) ((Xi S 885 ((i).toNat))) (0) (by omega) (by omega) (by omega) (by omega) (by omega) (by omega) rfl) (And.intro rfl (And.intro rfl (And.intro rfl (And.intro rfl (And.intro rfl (True.intro))))))
      · refine l_goto rfl rfl ?_
        refine l_iconst rfl ?_
        refine l_ireturn rfl rfl ?_
        have w66 : -1 ≤ Xi U3 882 13 ∧ Xi U3 882 13 ≤ 255 := hHU3.c _ _
        exact ⟨hHU3, hFU3, _, rfl, ⟨by omega, by omega⟩, (by first | assumption | omega)⟩
  · refine l_aload_n rfl rfl ?_
    refine l_gfr rfl rfl rfl rfl rfl (hH.r 882 5 884 rfl) ?_
    refine l_iload_n rfl rfl ?_
    refine l_iaload (n := 20) rfl rfl (by omega) (by omega) (by unfold rg; omega) ?_
    refine l_goto rfl rfl ?_
    refine l_istore_n rfl rfl rfl ?_
    refine l_aload_n rfl rfl ?_
    refine l_iconst rfl ?_
    refine l_pfi rfl rfl rfl rfl ?_
    obtain ⟨U4, eU4⟩ : ∃ T : sS, T = uI S 882 13 (Int32.ofInt (-1)) := ⟨_, rfl⟩
    rw [← eU4]
    have hHU4 : HI U4 := by rw [eU4]; exact HI_w hH (show -1 ≤ (-1) by omega) (show (-1) ≤ 255 by omega)
    have hFU4 : FR md_co_fits S U4 := by rw [eU4]; exact FR.wI hF (mdf_i (r := (882, 883, 13, 14)) (List.mem_of_getElem? (i := 0) rfl) (inR_i (by omega) (by omega) (by omega) (by omega)))
    have w67 : Xi U4 882 13 = (-1) := by rw [eU4]; exact Xi_same (by unfold rg; omega)
    have hg5 : Xi U4 885 i.toNat = Xi S 885 i.toNat := (hFU4.cx 885 rfl _).1
    have hg4 : Xi U4 884 i.toNat = Xi S 884 i.toNat := (hFU4.cx 884 rfl _).1
    have hg6 : Xi U4 886 i.toNat = Xi S 886 i.toNat := (hFU4.cx 886 rfl _).1
    refine l_aload_n rfl rfl ?_
    refine l_gfr rfl rfl rfl rfl rfl (hHU4.r 882 6 885 rfl) ?_
    refine l_iload_n rfl rfl ?_
    refine l_iaload (n := 20) rfl rfl (by omega) (by omega) (by unfold rg; omega) ?_
    have w68 : (Xi U4 885 ((i).toNat)) = (Xi S 885 ((i).toNat)) := (show Xi U4 885 ((i).toNat) = Xi S 885 ((i).toNat) from by rw [eU4]; exact Xi_ne (by omega))
    rw [w68]
    refine l_iconst rfl ?_
    refine l_icmp_ne rfl rfl (by unfold rg; omega) (by unfold rg; omega) (fun w69 => ?_) (fun w70 => ?_)
    · refine l_iload_n rfl rfl ?_
      refine l_if_lt rfl rfl (by unfold rg; omega) (fun w71 => ?_) (fun w72 => ?_)
      · refine l_iconst rfl ?_
        refine l_ireturn rfl rfl ?_
        have w73 : -1 ≤ Xi U4 882 13 ∧ Xi U4 882 13 ≤ 255 := hHU4.c _ _
        exact ⟨hHU4, hFU4, _, rfl, ⟨by omega, by omega⟩, (by first | assumption | omega)⟩
      · refine l_iload_n rfl rfl ?_
        refine l_iconst rfl ?_
        refine l_icmp_lt rfl rfl (by unfold rg; omega) (by unfold rg; omega) (fun w74 => ?_) (fun w75 => ?_)
        · refine l_iconst rfl ?_
          refine l_istore rfl rfl rfl ?_
          have w76 : -1 ≤ Xi U4 882 13 ∧ Xi U4 882 13 ≤ 255 := hHU4.c _ _
          exact Rl_weak (C74 _ U4 hHU4 hFU4 (((Xi S 882 12) - (Xi S 884 ((i).toNat)))) ((Xi S 884 ((i).toNat))) (0) (by omega) (by omega) (by omega) (by omega) (by omega) (by omega) rfl) (And.intro rfl (And.intro rfl (And.intro rfl (And.intro rfl (And.intro rfl (True.intro))))))
        · refine l_iconst rfl ?_
          refine l_ireturn rfl rfl ?_
          have w77 : -1 ≤ Xi U4 882 13 ∧ Xi U4 882 13 ≤ 255 := hHU4.c _ _
          exact ⟨hHU4, hFU4, _, rfl, ⟨by omega, by omega⟩, (by first | assumption | omega)⟩
    · refine l_iload_n rfl rfl ?_
      refine l_if_eq rfl rfl (by unfold rg; omega) (fun w78 => ?_) (fun w79 => ?_)
      · refine l_iconst rfl ?_
        refine l_istore rfl rfl rfl ?_
        have w80 : -1 ≤ Xi U4 882 13 ∧ Xi U4 882 13 ≤ 255 := hHU4.c _ _
        exact Rl_weak (C74 _ U4 hHU4 hFU4 (((Xi S 882 12) - (Xi S 884 ((i).toNat)))) ((Xi S 884 ((i).toNat))) (0) (by omega) (by omega) (by omega) (by omega) (by omega) (by omega) rfl) (And.intro rfl (And.intro rfl (And.intro rfl (And.intro rfl (And.intro rfl (True.intro))))))
      · refine l_goto rfl rfl ?_
        refine l_iconst rfl ?_
        refine l_ireturn rfl rfl ?_
        have w81 : -1 ≤ Xi U4 882 13 ∧ Xi U4 882 13 ≤ 255 := hHU4.c _ _
        exact ⟨hHU4, hFU4, _, rfl, ⟨by omega, by omega⟩, (by first | assumption | omega)⟩
def md_rs_act : List rec := [(22, 23, 0, 100000), (23, 24, 0, 100000), (25, 65, 0, 100000), (66, 106, 0, 100000), (107, 147, 0, 100000), (148, 188, 0, 100000), (189, 195, 0, 100000), (900, 901, 4, 5), (900, 901, 5, 6), (900, 901, 6, 7), (901, 902, 0, 100000)]
abbrev Q_rs_act (S : sS) (action : Int) (noun : Int) : pst := fun r S1 => HI S1 ∧ FR md_rs_act S S1 ∧ (∃ z : Int, r = some (iv z) ∧ (-1 ≤ z ∧ z ≤ 5) ∧ (TX S1))
set_option maxRecDepth 100000 in
theorem t_rs_act {S : sS} (hH : HI S) (action : Int) (noun : Int) (haction : -2147483648 ≤ action ∧ action ≤ 2147483647) (hnoun : -2147483648 ≤ noun ∧ noun ≤ 2147483647) (hX : TX S) (hD : DEF S) (hR : RUL S) (hO : ORD S) (hA : AK S) (d : Nat) : Mt lay0 (d + 58) m_rs_act [.ref 0, iv action, iv noun] S (Q_rs_act S action noun) := by
  refine Mt_R rfl rfl ?_
  have hF : FR md_rs_act S S := FR.rf
  have C102 : ∀  (v4 : Int), (0 ≤ v4 ∧ v4 ≤ 1) → (v4 = 1 → -1 ≤ noun ∧ noun ≤ 23) → (v4 = 1 → Xi S 19 action.toNat ≠ -1 → 0 ≤ noun) → (v4 = 1 → Xi S 19 action.toNat = -2 → noun ≤ 5) → (0 ≤ action ∧ action ≤ 11) → Rl lay0 (d + 57) m_rs_act 102 [(0, .ref 0), (1, iv action), (2, iv noun), (4, iv v4)] [] S (Q_rs_act S action noun) := by
    intro v4 w1 w2 w3 w4 w5
    refine l_iload rfl rfl ?_
    refine l_if_eq rfl rfl (by unfold rg; omega) (fun w6 => ?_) (fun w7 => ?_)
    · refine l_iconst rfl ?_
      refine l_ireturn rfl rfl ?_
      exact ⟨hH, hF, _, rfl, ⟨by omega, by omega⟩, (by first | assumption | exact (by assumption : TX S))⟩
    · refine l_aload_n rfl rfl ?_
      refine l_gfr rfl rfl rfl rfl rfl (hH.r 0 7 900 rfl) ?_
      refine l_iload_n rfl rfl ?_
      refine l_iload_n rfl rfl ?_
      refine l_callV rfl rfl rfl (t_tu_takeTurn hH action noun ⟨by omega, by omega⟩ ⟨by omega, by omega⟩ (by first | assumption | omega) (by first | assumption | omega) (by first | assumption | exact (by assumption : TX S)) (by first | assumption | exact (DEF_FR hH hF rfl rfl (by assumption : DEF S))) (by first | assumption | exact (RUL_FR hH hF rfl rfl (by assumption : RUL S))) (by first | assumption | exact (ORD_FR hF rfl (by assumption : ORD S))) (by first | assumption | exact (AK_FR hF rfl (by assumption : AK S))) _) ?_
      rintro _ T1 ⟨hHT1, w10, z9, rfl, w9, w8⟩
      have hFT1 : FR md_rs_act S T1 := FR.tr hF w10 rfl
      show Rl _ _ _ _ _ [iv z9] _ _
      refine l_goto rfl rfl ?_
      refine l_ireturn rfl rfl ?_
      exact ⟨hHT1, hFT1, _, rfl, ⟨by omega, by omega⟩, (by first | assumption | exact (by assumption : TX T1))⟩
  refine l_iload_n rfl rfl ?_
  refine l_if_lt rfl rfl (by unfold rg; omega) (fun w11 => ?_) (fun w12 => ?_)
  · refine l_iconst rfl ?_
    refine l_ireturn rfl rfl ?_
    exact ⟨hH, hF, _, rfl, ⟨by omega, by omega⟩, (by first | assumption | exact (by assumption : TX S))⟩
  · refine l_iload_n rfl rfl ?_
    refine l_aload_n rfl rfl ?_
    refine l_gfr rfl rfl rfl rfl rfl (hH.r 0 0 1 rfl) ?_
    refine l_bipush rfl rfl ?_
    refine l_callV rfl rfl rfl (t_vo_countOf hH 8 ⟨by omega, by omega⟩ _) ?_
    rintro _ _ ⟨rfl, z16, rfl, w16, w13, w14, w15⟩
    have w17 : z16 = Xi S 5 8 ∧ 0 ≤ Xi S 5 8 ∧ Xi S 5 8 ≤ 12 := ⟨(w13 (by omega) (by omega)).1, hH.c 5 8⟩
    clear w13 w14 w15
    show Rl _ _ _ _ _ [iv z16, iv action] _ _
    refine l_icmp_lt rfl rfl (by unfold rg; omega) (by unfold rg; omega) (fun w18 => ?_) (fun w19 => ?_)
    · refine l_aload_n rfl rfl ?_
      refine l_gfr rfl rfl rfl rfl rfl (hH.r 0 0 1 rfl) ?_
      refine l_gfr rfl rfl rfl rfl rfl (hH.r 1 18 19 rfl) ?_
      refine l_iload_n rfl rfl ?_
      refine l_iaload (n := 12) rfl rfl (by omega) (by omega) (by unfold rg; omega) ?_
      have w20 : -2 ≤ (Xi S 19 ((action).toNat)) ∧ (Xi S 19 ((action).toNat)) ≤ 15 := hH.c _ _
      refine l_istore_n rfl rfl rfl ?_
      refine l_iload_n rfl rfl ?_
      refine l_iconst rfl ?_
      refine l_icmp_ne rfl rfl (by unfold rg; omega) (by unfold rg; omega) (fun w21 => ?_) (fun w22 => ?_)
      · refine l_iload_n rfl rfl ?_
        refine l_bipush rfl rfl ?_
        refine l_icmp_ne rfl rfl (by unfold rg; omega) (by unfold rg; omega) (fun w23 => ?_) (fun w24 => ?_)
        · refine l_aload_n rfl rfl ?_
          refine l_iload_n rfl rfl ?_
          refine l_callV rfl rfl rfl (t_rs_isObject hH noun ⟨by omega, by omega⟩ _) ?_
          rintro _ _ ⟨rfl, z26, rfl, w26, w25⟩
          show Rl _ _ _ _ _ [iv z26] _ _
          refine l_if_eq rfl rfl (by unfold rg; omega) (fun w27 => ?_) (fun w28 => ?_)
          · refine l_iconst rfl ?_
            refine l_istore rfl rfl rfl ?_
            exact Rl_weak (C102 (0) (by omega) (by omega) (by omega) (by omega) (by omega)) (And.intro rfl (And.intro rfl (And.intro rfl (And.intro rfl (True.intro)))))
          · refine l_aload_n rfl rfl ?_
            refine l_gfr rfl rfl rfl rfl rfl (hH.r 0 1 20 rfl) ?_
            refine l_iload_n rfl rfl ?_
            refine l_iload_n rfl rfl ?_
            refine l_callV rfl rfl rfl (t_wo_isA hH noun (Xi S 19 ((action).toNat)) ⟨by omega, by omega⟩ ⟨by omega, by omega⟩ _) ?_
            rintro _ _ ⟨rfl, z30, rfl, w30, w29⟩
            show Rl _ _ _ _ _ [iv z30] _ _
            refine l_if_eq rfl rfl (by unfold rg; omega) (fun w31 => ?_) (fun w32 => ?_)
            · refine l_iconst rfl ?_
              refine l_istore rfl rfl rfl ?_
              exact Rl_weak (C102 (0) (by omega) (by omega) (by omega) (by omega) (by omega)) (And.intro rfl (And.intro rfl (And.intro rfl (And.intro rfl (True.intro)))))
            · refine l_iconst rfl ?_
              refine l_goto rfl rfl ?_
              refine l_istore rfl rfl rfl ?_
              exact Rl_weak (C102 (1) (by omega) (by omega) (by omega) (by omega) (by omega)) (And.intro rfl (And.intro rfl (And.intro rfl (And.intro rfl (True.intro)))))
        · refine l_iload_n rfl rfl ?_
          refine l_if_lt rfl rfl (by unfold rg; omega) (fun w33 => ?_) (fun w34 => ?_)
          · refine l_iconst rfl ?_
            refine l_istore rfl rfl rfl ?_
            refine l_goto rfl rfl ?_
            exact Rl_weak (C102 (0) (by omega) (by omega) (by omega) (by omega) (by omega)) (And.intro rfl (And.intro rfl (And.intro rfl (And.intro rfl (True.intro)))))
          · refine l_iload_n rfl rfl ?_
            refine l_bipush rfl rfl ?_
            refine l_icmp_ge rfl rfl (by unfold rg; omega) (by unfold rg; omega) (fun w35 => ?_) (fun w36 => ?_)
            · refine l_iconst rfl ?_
              refine l_istore rfl rfl rfl ?_
              refine l_goto rfl rfl ?_
              exact Rl_weak (C102 (0) (by omega) (by omega) (by omega) (by omega) (by omega)) (And.intro rfl (And.intro rfl (And.intro rfl (And.intro rfl (True.intro)))))
            · refine l_iconst rfl ?_
              refine l_goto rfl rfl ?_
              refine l_istore rfl rfl rfl ?_
              refine l_goto rfl rfl ?_
              exact Rl_weak (C102 (1) (by omega) (by omega) (by omega) (by omega) (by omega)) (And.intro rfl (And.intro rfl (And.intro rfl (And.intro rfl (True.intro)))))
      · refine l_iload_n rfl rfl ?_
        refine l_iconst rfl ?_
        refine l_icmp_ne rfl rfl (by unfold rg; omega) (by unfold rg; omega) (fun w37 => ?_) (fun w38 => ?_)
        · refine l_iconst rfl ?_
          refine l_istore rfl rfl rfl ?_
          refine l_goto rfl rfl ?_
          exact Rl_weak (C102 (0) (by omega) (by omega) (by omega) (by omega) (by omega)) (And.intro rfl (And.intro rfl (And.intro rfl (And.intro rfl (True.intro)))))
        · refine l_iconst rfl ?_
          refine l_goto rfl rfl ?_
          refine l_istore rfl rfl rfl ?_
          refine l_goto rfl rfl ?_
          exact Rl_weak (C102 (1) (by omega) (by omega) (by omega) (by omega) (by omega)) (And.intro rfl (And.intro rfl (And.intro rfl (And.intro rfl (True.intro)))))
    · refine l_iconst rfl ?_
      refine l_ireturn rfl rfl ?_
      exact ⟨hH, hF, _, rfl, ⟨by omega, by omega⟩, (by first | assumption | exact (by assumption : TX S))⟩
abbrev Q_rs_is (S : sS) (o : Int) (a : Int) : pst := fun r S1 => S = S1 ∧ (∃ z : Int, r = some (iv z) ∧ (-1 ≤ z ∧ z ≤ 1))
set_option maxRecDepth 100000 in
theorem t_rs_is {S : sS} (hH : HI S) (o : Int) (a : Int) (ho : -2147483648 ≤ o ∧ o ≤ 2147483647) (ha : -2147483648 ≤ a ∧ a ≤ 2147483647) (hD : DEF S) (hX : TX S) (d : Nat) : Mt lay0 (d + 26) m_rs_is [.ref 0, iv o, iv a] S (Q_rs_is S o a) := by
  refine Mt_R rfl rfl ?_
  refine l_aload_n rfl rfl ?_
  refine l_iload_n rfl rfl ?_
  refine l_callV rfl rfl rfl (t_rs_isObject hH o ⟨by omega, by omega⟩ _) ?_
  rintro _ _ ⟨rfl, z2, rfl, w2, w1⟩
  show Rl _ _ _ _ _ [iv z2] _ _
  refine l_if_eq rfl rfl (by unfold rg; omega) (fun w3 => ?_) (fun w4 => ?_)
  · refine l_iconst rfl ?_
    refine l_ireturn rfl rfl ?_
    exact ⟨rfl, _, rfl, ⟨by omega, by omega⟩⟩
  · refine l_iload_n rfl rfl ?_
    refine l_if_lt rfl rfl (by unfold rg; omega) (fun w5 => ?_) (fun w6 => ?_)
    · refine l_iconst rfl ?_
      refine l_ireturn rfl rfl ?_
      exact ⟨rfl, _, rfl, ⟨by omega, by omega⟩⟩
    · refine l_iload_n rfl rfl ?_
      refine l_aload_n rfl rfl ?_
      refine l_gfr rfl rfl rfl rfl rfl (hH.r 0 0 1 rfl) ?_
      refine l_iconst rfl ?_
      refine l_callV rfl rfl rfl (t_vo_countOf hH 3 ⟨by omega, by omega⟩ _) ?_
      rintro _ _ ⟨rfl, z10, rfl, w10, w7, w8, w9⟩
      have w11 : z10 = Xi S 5 3 ∧ 0 ≤ Xi S 5 3 ∧ Xi S 5 3 ≤ 24 := ⟨(w7 (by omega) (by omega)).1, hH.c 5 3⟩
      clear w7 w8 w9
      show Rl _ _ _ _ _ [iv z10, iv a] _ _
      refine l_icmp_ge rfl rfl (by unfold rg; omega) (by unfold rg; omega) (fun w12 => ?_) (fun w13 => ?_)
      · refine l_iconst rfl ?_
        refine l_ireturn rfl rfl ?_
        exact ⟨rfl, _, rfl, ⟨by omega, by omega⟩⟩
      · refine l_aload_n rfl rfl ?_
        refine l_gfr rfl rfl rfl rfl rfl (hH.r 0 1 20 rfl) ?_
        refine l_iload_n rfl rfl ?_
        refine l_aload_n rfl rfl ?_
        refine l_gfr rfl rfl rfl rfl rfl (hH.r 0 0 1 rfl) ?_
        refine l_gfr rfl rfl rfl rfl rfl (hH.r 1 9 10 rfl) ?_
        refine l_iload_n rfl rfl ?_
        refine l_iaload (n := 24) rfl rfl (by omega) (by omega) (by unfold rg; omega) ?_
        have w14 : 0 ≤ (Xi S 10 ((a).toNat)) ∧ (Xi S 10 ((a).toNat)) ≤ 15 := hH.c _ _
        refine l_callV rfl rfl rfl (t_wo_isA hH o (Xi S 10 ((a).toNat)) ⟨by omega, by omega⟩ ⟨by omega, by omega⟩ _) ?_
        rintro _ _ ⟨rfl, z16, rfl, w16, w15⟩
        show Rl _ _ _ _ _ [iv z16] _ _
        refine l_if_ne rfl rfl (by unfold rg; omega) (fun w17 => ?_) (fun w18 => ?_)
        · refine l_aload_n rfl rfl ?_
          refine l_gfr rfl rfl rfl rfl rfl (hH.r 0 7 900 rfl) ?_
          refine l_iload_n rfl rfl ?_
          refine l_iload_n rfl rfl ?_
          refine l_iconst rfl ?_
          have w19 : 0 ≤ Xi S 5 3 ∧ Xi S 5 3 ≤ 24 := hH.c _ _
          refine l_callV rfl rfl rfl (t_tu_adjectiveHolds hH o a 0 ⟨by omega, by omega⟩ ⟨by omega, by omega⟩ ⟨by omega, by omega⟩ (by first | assumption | omega) (by first | assumption | exact (by assumption : DEF S)) (by first | assumption | exact (by assumption : TX S)) _) ?_
          rintro _ _ ⟨rfl, z20, rfl, w20⟩
          show Rl _ _ _ _ _ [iv z20] _ _
          refine l_if_eq rfl rfl (by unfold rg; omega) (fun w21 => ?_) (fun w22 => ?_)
          · refine l_iconst rfl ?_
            refine l_ireturn rfl rfl ?_
            exact ⟨rfl, _, rfl, ⟨by omega, by omega⟩⟩
          · refine l_iconst rfl ?_
            refine l_goto rfl rfl ?_
            refine l_ireturn rfl rfl ?_
            exact ⟨rfl, _, rfl, ⟨by omega, by omega⟩⟩
        · refine l_iconst rfl ?_
          refine l_ireturn rfl rfl ?_
          exact ⟨rfl, _, rfl, ⟨by omega, by omega⟩⟩
abbrev Q_rs_kind (S : sS) (i : Int) (w : Int) : pst := fun r S1 => S = S1 ∧ (∃ z : Int, r = some (iv z) ∧ (-1 ≤ z ∧ z ≤ 63))
set_option maxRecDepth 100000 in
theorem t_rs_kind {S : sS} (hH : HI S) (i : Int) (w : Int) (hi : -2147483648 ≤ i ∧ i ≤ 2147483647) (hw : -2147483648 ≤ w ∧ w ≤ 2147483647) (d : Nat) : Mt lay0 (d + 3) m_rs_kind [.ref 0, iv i, iv w] S (Q_rs_kind S i w) := by
  refine Mt_R rfl rfl ?_
  refine l_iload_n rfl rfl ?_
  refine l_if_lt rfl rfl (by unfold rg; omega) (fun w1 => ?_) (fun w2 => ?_)
  · refine l_iconst rfl ?_
    refine l_ireturn rfl rfl ?_
    exact ⟨rfl, _, rfl, ⟨by omega, by omega⟩⟩
  · refine l_iload_n rfl rfl ?_
    refine l_aload_n rfl rfl ?_
    refine l_gfr rfl rfl rfl rfl rfl (hH.r 0 0 1 rfl) ?_
    refine l_iconst rfl ?_
    refine l_callV rfl rfl rfl (t_vo_countOf hH 0 ⟨by omega, by omega⟩ _) ?_
    rintro _ _ ⟨rfl, z6, rfl, w6, w3, w4, w5⟩
    have w7 : z6 = Xi S 5 0 ∧ 0 ≤ Xi S 5 0 ∧ Xi S 5 0 ≤ 16 := ⟨(w3 (by omega) (by omega)).1, hH.c 5 0⟩
    clear w3 w4 w5
    show Rl _ _ _ _ _ [iv z6, iv i] _ _
    refine l_icmp_lt rfl rfl (by unfold rg; omega) (by unfold rg; omega) (fun w8 => ?_) (fun w9 => ?_)
    · refine l_iload_n rfl rfl ?_
      refine l_tsw rfl rfl rfl rfl (by unfold rg; omega) (fun w10 => ?_) (fun ii tt hii w10 => ?_)
      · refine l_iconst rfl ?_
        refine l_ireturn rfl rfl ?_
        exact ⟨rfl, _, rfl, ⟨by omega, by omega⟩⟩
      · match ii, hii with
        | 0, hii =>
          cases hii
          have w11 : w = 0 := by simpa using w10
          refine l_aload_n rfl rfl ?_
          refine l_gfr rfl rfl rfl rfl rfl (hH.r 0 0 1 rfl) ?_
          refine l_gfr rfl rfl rfl rfl rfl (hH.r 1 5 6 rfl) ?_
          refine l_iload_n rfl rfl ?_
          refine l_iaload (n := 16) rfl rfl (by omega) (by omega) (by unfold rg; omega) ?_
          have w12 : -1 ≤ (Xi S 6 ((i).toNat)) ∧ (Xi S 6 ((i).toNat)) ≤ 15 := hH.c _ _
          refine l_ireturn rfl rfl ?_
          exact ⟨rfl, _, rfl, ⟨by omega, by omega⟩⟩
        | 1, hii =>
          cases hii
          have w13 : w = 1 := by simpa using w10
          refine l_aload_n rfl rfl ?_
          refine l_gfr rfl rfl rfl rfl rfl (hH.r 0 0 1 rfl) ?_
          refine l_iload_n rfl rfl ?_
          refine l_callV rfl rfl rfl (t_vo_propertiesOf hH i ⟨by omega, by omega⟩ _) ?_
          rintro _ _ ⟨rfl, z15, rfl, w15, w14⟩
          show Rl _ _ _ _ _ [iv z15] _ _
          refine l_callS rfl rfl (by decide) rfl (t_ji_bitCount hH z15 ⟨by omega, by omega⟩ _) ?_
          rintro _ _ ⟨rfl, z16, rfl, w16⟩
          show Rl _ _ _ _ _ [iv z16] _ _
          refine l_ireturn rfl rfl ?_
          exact ⟨rfl, _, rfl, ⟨by omega, by omega⟩⟩
        | 2, hii =>
          cases hii
          have w17 : w = 2 := by simpa using w10
          refine l_aload_n rfl rfl ?_
          refine l_gfr rfl rfl rfl rfl rfl (hH.r 0 0 1 rfl) ?_
          refine l_iload_n rfl rfl ?_
          refine l_callV rfl rfl rfl (t_vo_adjectivesOf hH i ⟨by omega, by omega⟩ _) ?_
          rintro _ _ ⟨rfl, z19, rfl, w19, w18⟩
          show Rl _ _ _ _ _ [iv z19] _ _
          refine l_ireturn rfl rfl ?_
          exact ⟨rfl, _, rfl, ⟨by omega, by omega⟩⟩
        | n + 3, hii => exact absurd hii (by simp)
    · refine l_iconst rfl ?_
      refine l_ireturn rfl rfl ?_
      exact ⟨rfl, _, rfl, ⟨by omega, by omega⟩⟩
abbrev Q_rs_letter (S : sS) (o : Int) (p : Int) (k : Int) : pst := fun r S1 => S = S1 ∧ (∃ z : Int, r = some (iv z) ∧ (-1 ≤ z ∧ z ≤ 255))
set_option maxRecDepth 100000 in
theorem t_rs_letter {S : sS} (hH : HI S) (o : Int) (p : Int) (k : Int) (ho : -2147483648 ≤ o ∧ o ≤ 2147483647) (hp : -2147483648 ≤ p ∧ p ≤ 2147483647) (hk : -2147483648 ≤ k ∧ k ≤ 2147483647) (hX : TX S) (d : Nat) : Mt lay0 (d + 4) m_rs_letter [.ref 0, iv o, iv p, iv k] S (Q_rs_letter S o p k) := by
  refine Mt_R rfl rfl ?_
  refine l_aload_n rfl rfl ?_
  refine l_iload_n rfl rfl ?_
  refine l_iload_n rfl rfl ?_
  refine l_callV rfl rfl rfl (t_rs_hasProperty hH o p ⟨by omega, by omega⟩ ⟨by omega, by omega⟩ _) ?_
  rintro _ _ ⟨rfl, z2, rfl, w2, w1⟩
  show Rl _ _ _ _ _ [iv z2] _ _
  refine l_if_eq rfl rfl (by unfold rg; omega) (fun w3 => ?_) (fun w4 => ?_)
  · refine l_iconst rfl ?_
    refine l_ireturn rfl rfl ?_
    exact ⟨rfl, _, rfl, ⟨by omega, by omega⟩⟩
  · refine l_aload_n rfl rfl ?_
    refine l_gfr rfl rfl rfl rfl rfl (hH.r 0 0 1 rfl) ?_
    refine l_gfr rfl rfl rfl rfl rfl (hH.r 1 8 9 rfl) ?_
    refine l_iload_n rfl rfl ?_
    refine l_iaload (n := 12) rfl rfl (by omega) (by omega) (by unfold rg; omega) ?_
    have w5 : 0 ≤ (Xi S 9 ((p).toNat)) ∧ (Xi S 9 ((p).toNat)) ≤ 7 := hH.c _ _
    refine l_iconst rfl ?_
    refine l_icmp_ne rfl rfl (by unfold rg; omega) (by unfold rg; omega) (fun w6 => ?_) (fun w7 => ?_)
    · refine l_iconst rfl ?_
      refine l_ireturn rfl rfl ?_
      exact ⟨rfl, _, rfl, ⟨by omega, by omega⟩⟩
    · refine l_iload_n rfl rfl ?_
      refine l_if_lt rfl rfl (by unfold rg; omega) (fun w8 => ?_) (fun w9 => ?_)
      · refine l_iconst rfl ?_
        refine l_ireturn rfl rfl ?_
        exact ⟨rfl, _, rfl, ⟨by omega, by omega⟩⟩
      · refine l_iload_n rfl rfl ?_
        refine l_aload_n rfl rfl ?_
        refine l_gfr rfl rfl rfl rfl rfl (hH.r 0 1 20 rfl) ?_
        refine l_iload_n rfl rfl ?_
        refine l_iload_n rfl rfl ?_
        refine l_callV rfl rfl rfl (t_wo_lengthOf hH o p ⟨by omega, by omega⟩ ⟨by omega, by omega⟩ _) ?_
        rintro _ _ ⟨rfl, z11, rfl, w11, w10⟩
        show Rl _ _ _ _ _ [iv z11, iv k] _ _
        have hxt : TXT S (vof S o p.toNat) z11 := TX_v hX hH rfl (by assumption) (by omega) (by omega) (by omega)
        have hxb := hxt.b
        refine l_icmp_lt rfl rfl (by unfold rg; omega) (by unfold rg; omega) (fun w12 => ?_) (fun w13 => ?_)
        · refine l_aload_n rfl rfl ?_
          refine l_gfr rfl rfl rfl rfl rfl (hH.r 0 1 20 rfl) ?_
          have w14 := txe (S := S) hxt (by omega)
          have w14b : tp (txr S) := w14.2
          refine l_gfr rfl rfl rfl rfl rfl w14.1 ?_
          refine l_aload_n rfl rfl ?_
          refine l_gfr rfl rfl rfl rfl rfl (hH.r 0 1 20 rfl) ?_
          refine l_iload_n rfl rfl ?_
          refine l_iload_n rfl rfl ?_
          refine l_callV rfl rfl rfl (t_wo_valueOf hH o p ⟨by omega, by omega⟩ ⟨by omega, by omega⟩ _) ?_
          rintro _ _ ⟨rfl, z16, rfl, w16, w15⟩
          show Rl _ _ _ _ _ [iv z16, .ref (txr S)] _ _
          refine l_iload_n rfl rfl ?_
          refine l_iadd rfl ?_
          refine l_baload (n := 5000) rfl (tp_sv (by assumption)) (lay_tp (by assumption)) (by decide) (by omega) (by omega) (by unfold rg; omega) ?_
          have w17 : -128 ≤ (Xi S (txr S) (((z16 + k)).toNat)) ∧ (Xi S (txr S) (((z16 + k)).toNat)) ≤ 127 := tpc hH (by assumption)
          refine l_sipush rfl rfl ?_
          refine l_iand255 rfl (by unfold rg; omega) ?_
          refine l_ireturn rfl rfl ?_
          exact ⟨rfl, _, rfl, ⟨by omega, by omega⟩⟩
        · refine l_iconst rfl ?_
          refine l_ireturn rfl rfl ?_
          exact ⟨rfl, _, rfl, ⟨by omega, by omega⟩⟩
abbrev Q_rs_name (S : sS) (w : Int) (i : Int) (k : Int) : pst := fun r S1 => S = S1 ∧ (∃ z : Int, r = some (iv z) ∧ (-2147483648 ≤ z ∧ z ≤ 2147483647))
set_option maxRecDepth 100000 in
theorem t_rs_name {S : sS} (hH : HI S) (w : Int) (i : Int) (k : Int) (hw : -2147483648 ≤ w ∧ w ≤ 2147483647) (hi : -2147483648 ≤ i ∧ i ≤ 2147483647) (hk : -2147483648 ≤ k ∧ k ≤ 2147483647) (d : Nat) : Mt lay0 (d + 2) m_rs_name [.ref 0, iv w, iv i, iv k] S (Q_rs_name S w i k) := by
  refine Mt_R rfl rfl ?_
  refine l_iload_n rfl rfl ?_
  refine l_bipush rfl rfl ?_
  refine l_icmp_ne rfl rfl (by unfold rg; omega) (by unfold rg; omega) (fun w1 => ?_) (fun w2 => ?_)
  · refine l_iconst rfl ?_
    refine l_istore rfl rfl rfl ?_
    refine l_iload_n rfl rfl ?_
    refine l_if_lt rfl rfl (by unfold rg; omega) (fun w3 => ?_) (fun w4 => ?_)
    · refine l_iconst rfl ?_
      refine l_ireturn rfl rfl ?_
      exact ⟨rfl, _, rfl, ⟨by omega, by omega⟩⟩
    · refine l_iload_n rfl rfl ?_
      refine l_aload_n rfl rfl ?_
      refine l_gfr rfl rfl rfl rfl rfl (hH.r 0 0 1 rfl) ?_
      refine l_iload rfl rfl ?_
      refine l_if_eq rfl rfl (by unfold rg; omega) (fun w5 => ?_) (fun w6 => absurd w6 (by omega))
      · refine l_iload_n rfl rfl ?_
        refine l_callV rfl rfl rfl (t_vo_countOf hH w ⟨by omega, by omega⟩ _) ?_
        rintro _ _ ⟨rfl, z10, rfl, w10, w7, w8, w9⟩
        show Rl _ _ _ _ _ [iv z10, iv i] _ _
        refine l_icmp_lt rfl rfl (by unfold rg; omega) (by unfold rg; omega) (fun w11 => ?_) (fun w12 => ?_)
        · refine l_aload_n rfl rfl ?_
          refine l_gfr rfl rfl rfl rfl rfl (hH.r 0 0 1 rfl) ?_
          refine l_iload_n rfl rfl ?_
          refine l_iload_n rfl rfl ?_
          refine l_iload_n rfl rfl ?_
          refine l_callV rfl rfl rfl (t_vo_nameByte hH w i k ⟨by omega, by omega⟩ ⟨by omega, by omega⟩ ⟨by omega, by omega⟩ _) ?_
          rintro _ _ ⟨rfl, z13, rfl, w13⟩
          show Rl _ _ _ _ _ [iv z13] _ _
          refine l_ireturn rfl rfl ?_
          exact ⟨rfl, _, rfl, ⟨by omega, by omega⟩⟩
        · refine l_iconst rfl ?_
          refine l_ireturn rfl rfl ?_
          exact ⟨rfl, _, rfl, ⟨by omega, by omega⟩⟩
  · refine l_iconst rfl ?_
    refine l_goto rfl rfl ?_
    refine l_istore rfl rfl rfl ?_
    refine l_iload_n rfl rfl ?_
    refine l_if_lt rfl rfl (by unfold rg; omega) (fun w14 => ?_) (fun w15 => ?_)
    · refine l_iconst rfl ?_
      refine l_ireturn rfl rfl ?_
      exact ⟨rfl, _, rfl, ⟨by omega, by omega⟩⟩
    · refine l_iload_n rfl rfl ?_
      refine l_aload_n rfl rfl ?_
      refine l_gfr rfl rfl rfl rfl rfl (hH.r 0 0 1 rfl) ?_
      refine l_iload rfl rfl ?_
      refine l_if_eq rfl rfl (by unfold rg; omega) (fun w16 => absurd w16 (by omega)) (fun w17 => ?_)
      · refine l_iconst rfl ?_
        refine l_goto rfl rfl ?_
        refine l_callV rfl rfl rfl (t_vo_countOf hH 0 ⟨by omega, by omega⟩ _) ?_
        rintro _ _ ⟨rfl, z21, rfl, w21, w18, w19, w20⟩
        have w22 : z21 = Xi S 5 0 ∧ 0 ≤ Xi S 5 0 ∧ Xi S 5 0 ≤ 16 := ⟨(w18 (by omega) (by omega)).1, hH.c 5 0⟩
        clear w18 w19 w20
        show Rl _ _ _ _ _ [iv z21, iv i] _ _
        refine l_icmp_lt rfl rfl (by unfold rg; omega) (by unfold rg; omega) (fun w23 => ?_) (fun w24 => ?_)
        · refine l_aload_n rfl rfl ?_
          refine l_gfr rfl rfl rfl rfl rfl (hH.r 0 0 1 rfl) ?_
          refine l_iload_n rfl rfl ?_
          refine l_iload_n rfl rfl ?_
          refine l_iload_n rfl rfl ?_
          refine l_callV rfl rfl rfl (t_vo_nameByte hH w i k ⟨by omega, by omega⟩ ⟨by omega, by omega⟩ ⟨by omega, by omega⟩ _) ?_
          rintro _ _ ⟨rfl, z25, rfl, w25⟩
          show Rl _ _ _ _ _ [iv z25] _ _
          refine l_ireturn rfl rfl ?_
          exact ⟨rfl, _, rfl, ⟨by omega, by omega⟩⟩
        · refine l_iconst rfl ?_
          refine l_ireturn rfl rfl ?_
          exact ⟨rfl, _, rfl, ⟨by omega, by omega⟩⟩
abbrev Q_rs_rule (S : sS) (i : Int) (w : Int) : pst := fun r S1 => S = S1 ∧ (∃ z : Int, r = some (iv z) ∧ (-2147483648 ≤ z ∧ z ≤ 2147483647))
set_option maxRecDepth 100000 in
theorem t_rs_rule {S : sS} (hH : HI S) (i : Int) (w : Int) (hi : -2147483648 ≤ i ∧ i ≤ 2147483647) (hw : -2147483648 ≤ w ∧ w ≤ 2147483647) (d : Nat) : Mt lay0 (d + 2) m_rs_rule [.ref 0, iv i, iv w] S (Q_rs_rule S i w) := by
  refine Mt_R rfl rfl ?_
  refine l_iload_n rfl rfl ?_
  refine l_if_lt rfl rfl (by unfold rg; omega) (fun w1 => ?_) (fun w2 => ?_)
  · refine l_iconst rfl ?_
    refine l_ireturn rfl rfl ?_
    exact ⟨rfl, _, rfl, ⟨by omega, by omega⟩⟩
  · refine l_iload_n rfl rfl ?_
    refine l_aload_n rfl rfl ?_
    refine l_gfr rfl rfl rfl rfl rfl (hH.r 0 2 246 rfl) ?_
    refine l_gfi rfl rfl rfl rfl rfl ?_
    have w3 : 0 ≤ (Xi S 246 2) ∧ (Xi S 246 2) ≤ 24 := hH.c _ _
    refine l_icmp_ge rfl rfl (by unfold rg; omega) (by unfold rg; omega) (fun w4 => ?_) (fun w5 => ?_)
    · refine l_iconst rfl ?_
      refine l_ireturn rfl rfl ?_
      exact ⟨rfl, _, rfl, ⟨by omega, by omega⟩⟩
    · refine l_iload_n rfl rfl ?_
      refine l_if_lt rfl rfl (by unfold rg; omega) (fun w6 => ?_) (fun w7 => ?_)
      · refine l_iconst rfl ?_
        refine l_ireturn rfl rfl ?_
        exact ⟨rfl, _, rfl, ⟨by omega, by omega⟩⟩
      · refine l_iload_n rfl rfl ?_
        refine l_bipush rfl rfl ?_
        refine l_icmp_le rfl rfl (by unfold rg; omega) (by unfold rg; omega) (fun w8 => ?_) (fun w9 => ?_)
        · refine l_iload_n rfl rfl ?_
          refine l_bipush rfl rfl ?_
          refine l_icmp_ne rfl rfl (by unfold rg; omega) (by unfold rg; omega) (fun w10 => ?_) (fun w11 => ?_)
          · refine l_aload_n rfl rfl ?_
            refine l_gfr rfl rfl rfl rfl rfl (hH.r 0 2 246 rfl) ?_
            refine l_gfr rfl rfl rfl rfl rfl (hH.r 246 1 247 rfl) ?_
            refine l_iload_n rfl rfl ?_
            refine l_aaload (n := 24) (a := 248 + (i).toNat) rfl rfl (by decide) (by omega) (by omega) (by unfold rg; omega) (RW_247 hH (by omega)) ?_
            refine l_iload_n rfl rfl ?_
            refine l_iaload (n := 8) rfl (lay_248 (by omega)) (by omega) (by omega) (by unfold rg; omega) ?_
            have w12 : -2147483648 ≤ (Xi S (248 + (i).toNat) ((w).toNat)) ∧ (Xi S (248 + (i).toNat) ((w).toNat)) ≤ 2147483647 := Xi_rgI
            refine l_ireturn rfl rfl ?_
            exact ⟨rfl, _, rfl, ⟨by omega, by omega⟩⟩
          · refine l_aload_n rfl rfl ?_
            refine l_gfr rfl rfl rfl rfl rfl (hH.r 0 2 246 rfl) ?_
            refine l_iload_n rfl rfl ?_
            refine l_callV rfl rfl rfl (t_bo_placeInOrder hH i ⟨by omega, by omega⟩ _) ?_
            rintro _ _ ⟨rfl, z13, rfl, w13⟩
            show Rl _ _ _ _ _ [iv z13] _ _
            refine l_goto rfl rfl ?_
            refine l_ireturn rfl rfl ?_
            exact ⟨rfl, _, rfl, ⟨by omega, by omega⟩⟩
        · refine l_iconst rfl ?_
          refine l_ireturn rfl rfl ?_
          exact ⟨rfl, _, rfl, ⟨by omega, by omega⟩⟩

