section
theorem rwk {l : List rec} {S T : sS} (F : FR l S T) (e : kdis l [(248, 272)] = true) {r j : Nat} (hr : r < 24) : Xi T (248 + r) j = Xi S (248 + r) j := (F.smk e).x _ (inK_i (a := 248) (b := 272) (by simp) (by omega) (by omega)) j

abbrev Q_ji_bitCount__q (S : sS) (i : Int) : pst := fun r S1 => S = S1 ∧ (∃ z : Int, r = some (iv z) ∧ (0 ≤ z ∧ z ≤ 63) ∧ (z = bcJ i))
set_option maxRecDepth 100000 in
theorem t_ji_bitCount__q {S : sS} (hH : HI S) (i : Int) (hi : -2147483648 ≤ i ∧ i ≤ 2147483647) (d : Nat) : Mt lay0 (d + 1) m_ji_bitCount [iv i] S (Q_ji_bitCount__q S i) := by
  refine Mt_R rfl rfl ?_
  refine l_iload_n rfl rfl ?_
  refine l_iload_n rfl rfl ?_
  refine l_iconst rfl ?_
  refine l_iushrF rfl ?_
  have w1 : -2147483648 ≤ (iushrF i 1) ∧ (iushrF i 1) ≤ 2147483647 := iushrF_rg
  refine l_ldcw (z := 1431655765) rfl rfl ?_
  refine l_iandF rfl ?_
  have w2 : 0 ≤ (iandF (iushrF i 1) 1431655765) ∧ (iandF (iushrF i 1) 1431655765) ≤ 1431655765 := iandF_le (by omega) (by unfold rg; omega)
  refine l_isub rfl ?_
  refine l_istore_n rfl rfl rfl ?_
  refine l_iload_n rfl rfl ?_
  refine l_ldcw (z := 858993459) rfl rfl ?_
  refine l_iandF rfl ?_
  have w3 : 0 ≤ (iandF (i - (iandF (iushrF i 1) 1431655765)) 858993459) ∧ (iandF (i - (iandF (iushrF i 1) 1431655765)) 858993459) ≤ 858993459 := iandF_le (by omega) (by unfold rg; omega)
  refine l_iload_n rfl rfl ?_
  refine l_iconst rfl ?_
  refine l_iushrF rfl ?_
  have w4 : -2147483648 ≤ (iushrF (i - (iandF (iushrF i 1) 1431655765)) 2) ∧ (iushrF (i - (iandF (iushrF i 1) 1431655765)) 2) ≤ 2147483647 := iushrF_rg
  refine l_ldcw (z := 858993459) rfl rfl ?_
  refine l_iandF rfl ?_
  have w5 : 0 ≤ (iandF (iushrF (i - (iandF (iushrF i 1) 1431655765)) 2) 858993459) ∧ (iandF (iushrF (i - (iandF (iushrF i 1) 1431655765)) 2) 858993459) ≤ 858993459 := iandF_le (by omega) (by unfold rg; omega)
  refine l_iadd rfl ?_
  refine l_istore_n rfl rfl rfl ?_
  refine l_iload_n rfl rfl ?_
  refine l_iload_n rfl rfl ?_
  refine l_iconst rfl ?_
  refine l_iushrF rfl ?_
  have w6 : -2147483648 ≤ (iushrF ((iandF (i - (iandF (iushrF i 1) 1431655765)) 858993459) + (iandF (iushrF (i - (iandF (iushrF i 1) 1431655765)) 2) 858993459)) 4) ∧ (iushrF ((iandF (i - (iandF (iushrF i 1) 1431655765)) 858993459) + (iandF (iushrF (i - (iandF (iushrF i 1) 1431655765)) 2) 858993459)) 4) ≤ 2147483647 := iushrF_rg
  refine l_iadd rfl ?_
  refine l_ldcw (z := 252645135) rfl rfl ?_
  refine l_iandF rfl ?_
  have w7 : 0 ≤ (iandF (((iandF (i - (iandF (iushrF i 1) 1431655765)) 858993459) + (iandF (iushrF (i - (iandF (iushrF i 1) 1431655765)) 2) 858993459)) + (iushrF ((iandF (i - (iandF (iushrF i 1) 1431655765)) 858993459) + (iandF (iushrF (i - (iandF (iushrF i 1) 1431655765)) 2) 858993459)) 4)) 252645135) ∧ (iandF (((iandF (i - (iandF (iushrF i 1) 1431655765)) 858993459) + (iandF (iushrF (i - (iandF (iushrF i 1) 1431655765)) 2) 858993459)) + (iushrF ((iandF (i - (iandF (iushrF i 1) 1431655765)) 858993459) + (iandF (iushrF (i - (iandF (iushrF i 1) 1431655765)) 2) 858993459)) 4)) 252645135) ≤ 252645135 := iandF_le (by omega) (by unfold rg; omega)
  refine l_istore_n rfl rfl rfl ?_
  refine l_iload_n rfl rfl ?_
  refine l_iload_n rfl rfl ?_
  refine l_bipush rfl rfl ?_
  refine l_iushrF rfl ?_
  have w8 : -2147483648 ≤ (iushrF (iandF (((iandF (i - (iandF (iushrF i 1) 1431655765)) 858993459) + (iandF (iushrF (i - (iandF (iushrF i 1) 1431655765)) 2) 858993459)) + (iushrF ((iandF (i - (iandF (iushrF i 1) 1431655765)) 858993459) + (iandF (iushrF (i - (iandF (iushrF i 1) 1431655765)) 2) 858993459)) 4)) 252645135) 8) ∧ (iushrF (iandF (((iandF (i - (iandF (iushrF i 1) 1431655765)) 858993459) + (iandF (iushrF (i - (iandF (iushrF i 1) 1431655765)) 2) 858993459)) + (iushrF ((iandF (i - (iandF (iushrF i 1) 1431655765)) 858993459) + (iandF (iushrF (i - (iandF (iushrF i 1) 1431655765)) 2) 858993459)) 4)) 252645135) 8) ≤ 2147483647 := iushrF_rg
  refine l_iadd rfl ?_
  refine l_istore_n rfl rfl rfl ?_
  refine l_iload_n rfl rfl ?_
  refine l_iload_n rfl rfl ?_
  refine l_bipush rfl rfl ?_
  refine l_iushrF rfl ?_
  have w9 : -2147483648 ≤ (iushrF ((iandF (((iandF (i - (iandF (iushrF i 1) 1431655765)) 858993459) + (iandF (iushrF (i - (iandF (iushrF i 1) 1431655765)) 2) 858993459)) + (iushrF ((iandF (i - (iandF (iushrF i 1) 1431655765)) 858993459) + (iandF (iushrF (i - (iandF (iushrF i 1) 1431655765)) 2) 858993459)) 4)) 252645135) + (iushrF (iandF (((iandF (i - (iandF (iushrF i 1) 1431655765)) 858993459) + (iandF (iushrF (i - (iandF (iushrF i 1) 1431655765)) 2) 858993459)) + (iushrF ((iandF (i - (iandF (iushrF i 1) 1431655765)) 858993459) + (iandF (iushrF (i - (iandF (iushrF i 1) 1431655765)) 2) 858993459)) 4)) 252645135) 8)) 16) ∧ (iushrF ((iandF (((iandF (i - (iandF (iushrF i 1) 1431655765)) 858993459) + (iandF (iushrF (i - (iandF (iushrF i 1) 1431655765)) 2) 858993459)) + (iushrF ((iandF (i - (iandF (iushrF i 1) 1431655765)) 858993459) + (iandF (iushrF (i - (iandF (iushrF i 1) 1431655765)) 2) 858993459)) 4)) 252645135) + (iushrF (iandF (((iandF (i - (iandF (iushrF i 1) 1431655765)) 858993459) + (iandF (iushrF (i - (iandF (iushrF i 1) 1431655765)) 2) 858993459)) + (iushrF ((iandF (i - (iandF (iushrF i 1) 1431655765)) 858993459) + (iandF (iushrF (i - (iandF (iushrF i 1) 1431655765)) 2) 858993459)) 4)) 252645135) 8)) 16) ≤ 2147483647 := iushrF_rg
  refine l_iadd rfl ?_
  refine l_istore_n rfl rfl rfl ?_
  refine l_iload_n rfl rfl ?_
  refine l_bipush rfl rfl ?_
  refine l_iandF rfl ?_
  have w10 : 0 ≤ (iandF (((iandF (((iandF (i - (iandF (iushrF i 1) 1431655765)) 858993459) + (iandF (iushrF (i - (iandF (iushrF i 1) 1431655765)) 2) 858993459)) + (iushrF ((iandF (i - (iandF (iushrF i 1) 1431655765)) 858993459) + (iandF (iushrF (i - (iandF (iushrF i 1) 1431655765)) 2) 858993459)) 4)) 252645135) + (iushrF (iandF (((iandF (i - (iandF (iushrF i 1) 1431655765)) 858993459) + (iandF (iushrF (i - (iandF (iushrF i 1) 1431655765)) 2) 858993459)) + (iushrF ((iandF (i - (iandF (iushrF i 1) 1431655765)) 858993459) + (iandF (iushrF (i - (iandF (iushrF i 1) 1431655765)) 2) 858993459)) 4)) 252645135) 8)) + (iushrF ((iandF (((iandF (i - (iandF (iushrF i 1) 1431655765)) 858993459) + (iandF (iushrF (i - (iandF (iushrF i 1) 1431655765)) 2) 858993459)) + (iushrF ((iandF (i - (iandF (iushrF i 1) 1431655765)) 858993459) + (iandF (iushrF (i - (iandF (iushrF i 1) 1431655765)) 2) 858993459)) 4)) 252645135) + (iushrF (iandF (((iandF (i - (iandF (iushrF i 1) 1431655765)) 858993459) + (iandF (iushrF (i - (iandF (iushrF i 1) 1431655765)) 2) 858993459)) + (iushrF ((iandF (i - (iandF (iushrF i 1) 1431655765)) 858993459) + (iandF (iushrF (i - (iandF (iushrF i 1) 1431655765)) 2) 858993459)) 4)) 252645135) 8)) 16)) 63) ∧ (iandF (((iandF (((iandF (i - (iandF (iushrF i 1) 1431655765)) 858993459) + (iandF (iushrF (i - (iandF (iushrF i 1) 1431655765)) 2) 858993459)) + (iushrF ((iandF (i - (iandF (iushrF i 1) 1431655765)) 858993459) + (iandF (iushrF (i - (iandF (iushrF i 1) 1431655765)) 2) 858993459)) 4)) 252645135) + (iushrF (iandF (((iandF (i - (iandF (iushrF i 1) 1431655765)) 858993459) + (iandF (iushrF (i - (iandF (iushrF i 1) 1431655765)) 2) 858993459)) + (iushrF ((iandF (i - (iandF (iushrF i 1) 1431655765)) 858993459) + (iandF (iushrF (i - (iandF (iushrF i 1) 1431655765)) 2) 858993459)) 4)) 252645135) 8)) + (iushrF ((iandF (((iandF (i - (iandF (iushrF i 1) 1431655765)) 858993459) + (iandF (iushrF (i - (iandF (iushrF i 1) 1431655765)) 2) 858993459)) + (iushrF ((iandF (i - (iandF (iushrF i 1) 1431655765)) 858993459) + (iandF (iushrF (i - (iandF (iushrF i 1) 1431655765)) 2) 858993459)) 4)) 252645135) + (iushrF (iandF (((iandF (i - (iandF (iushrF i 1) 1431655765)) 858993459) + (iandF (iushrF (i - (iandF (iushrF i 1) 1431655765)) 2) 858993459)) + (iushrF ((iandF (i - (iandF (iushrF i 1) 1431655765)) 858993459) + (iandF (iushrF (i - (iandF (iushrF i 1) 1431655765)) 2) 858993459)) 4)) 252645135) 8)) 16)) 63) ≤ 63 := iandF_le (by omega) (by unfold rg; omega)
  refine l_ireturn rfl rfl ?_
  exact ⟨rfl, _, rfl, ⟨by omega, by omega⟩, (rfl)⟩
abbrev Q_rs_kind__q (S : sS) (i : Int) (w : Int) : pst := fun r S1 => S = S1 ∧ (∃ z : Int, r = some (iv z) ∧ (-1 ≤ z ∧ z ≤ 63) ∧ (((i < 0 ∨ Xi S 5 0 ≤ i ∨ w < 0 ∨ 2 < w) → z = -1) ∧ (0 ≤ i → i < Xi S 5 0 → (w = 0 → z = Xi S 6 i.toNat) ∧ (w = 1 → z = bcJ (pps S i)) ∧ (w = 2 → z = adjs S i))))
set_option maxRecDepth 100000 in
theorem t_rs_kind__q {S : sS} (hH : HI S) (i : Int) (w : Int) (hi : -2147483648 ≤ i ∧ i ≤ 2147483647) (hw : -2147483648 ≤ w ∧ w ≤ 2147483647) (d : Nat) : Mt lay0 (d + 3) m_rs_kind [.ref 0, iv i, iv w] S (Q_rs_kind__q S i w) := by
  refine Mt_R rfl rfl ?_
  have w1 : 0 ≤ Xi S 5 0 ∧ Xi S 5 0 ≤ 16 := hH.c _ _
  refine l_iload_n rfl rfl ?_
  refine l_if_lt rfl rfl (by unfold rg; omega) (fun w2 => ?_) (fun w3 => ?_)
  · refine l_iconst rfl ?_
    refine l_ireturn rfl rfl ?_
    exact ⟨rfl, _, rfl, ⟨by omega, by omega⟩, (by first | omega | (have t := K62; exact ⟨fun q => absurd q (by omega), fun _ _ => ⟨fun q => absurd q (by omega), fun _ => b62, fun q => absurd q (by omega)⟩⟩))⟩
  · refine l_iload_n rfl rfl ?_
    refine l_aload_n rfl rfl ?_
    refine l_gfr rfl rfl rfl rfl rfl (hH.r 0 0 1 rfl) ?_
    refine l_iconst rfl ?_
    refine l_callV rfl rfl rfl (t_vo_countOf hH 0 ⟨by omega, by omega⟩ _) ?_
    rintro _ _ ⟨rfl, z7, rfl, w7, w4, w5, w6⟩
    have w8 : z7 = Xi S 5 0 ∧ 0 ≤ Xi S 5 0 ∧ Xi S 5 0 ≤ 16 := ⟨(w4 (by omega) (by omega)).1, hH.c 5 0⟩
    clear w4 w5 w6
    show Rl _ _ _ _ _ [iv z7, iv i] _ _
    refine l_icmp_lt rfl rfl (by unfold rg; omega) (by unfold rg; omega) (fun w9 => ?_) (fun w10 => ?_)
    · refine l_iload_n rfl rfl ?_
      refine l_tsw rfl rfl rfl rfl (by unfold rg; omega) (fun w11 => ?_) (fun ii tt hii w11 => ?_)
      · refine l_iconst rfl ?_
        refine l_ireturn rfl rfl ?_
        exact ⟨rfl, _, rfl, ⟨by omega, by omega⟩, (by first | omega | (have t := K62; exact ⟨fun q => absurd q (by omega), fun _ _ => ⟨fun q => absurd q (by omega), fun _ => b62, fun q => absurd q (by omega)⟩⟩))⟩
      · match ii, hii with
        | 0, hii =>
          cases hii
          have w12 : w = 0 := by simpa using w11
          refine l_aload_n rfl rfl ?_
          refine l_gfr rfl rfl rfl rfl rfl (hH.r 0 0 1 rfl) ?_
          refine l_gfr rfl rfl rfl rfl rfl (hH.r 1 5 6 rfl) ?_
          refine l_iload_n rfl rfl ?_
          refine l_iaload (n := 16) rfl rfl (by omega) (by omega) (by unfold rg; omega) ?_
          have w13 : -1 ≤ (Xi S 6 ((i).toNat)) ∧ (Xi S 6 ((i).toNat)) ≤ 15 := hH.c _ _
          refine l_ireturn rfl rfl ?_
          exact ⟨rfl, _, rfl, ⟨by omega, by omega⟩, (by first | omega | (have t := K62; exact ⟨fun q => absurd q (by omega), fun _ _ => ⟨fun q => absurd q (by omega), fun _ => b62, fun q => absurd q (by omega)⟩⟩))⟩
        | 1, hii =>
          cases hii
          have w14 : w = 1 := by simpa using w11
          refine l_aload_n rfl rfl ?_
          refine l_gfr rfl rfl rfl rfl rfl (hH.r 0 0 1 rfl) ?_
          refine l_iload_n rfl rfl ?_
          refine l_callV rfl rfl rfl (t_vo_propertiesOf hH i ⟨by omega, by omega⟩ _) ?_
          rintro _ _ ⟨rfl, z15, rfl, w15, p59⟩
          show Rl _ _ _ _ _ [iv z15] _ _
          refine l_callS rfl rfl (by decide) rfl (t_ji_bitCount__q hH z15 ⟨by omega, by omega⟩ _) ?_
          rintro _ _ ⟨rfl, z16, rfl, w16, q62⟩
          show Rl _ _ _ _ _ [iv z16] _ _
          have K62 : True := trivial
          have b62 : z16 = bcJ (pps S i) := by rw [q62, p59]
          refine l_ireturn rfl rfl ?_
          exact ⟨rfl, _, rfl, ⟨by omega, by omega⟩, (by first | omega | (have t := K62; exact ⟨fun q => absurd q (by omega), fun _ _ => ⟨fun q => absurd q (by omega), fun _ => b62, fun q => absurd q (by omega)⟩⟩))⟩
        | 2, hii =>
          cases hii
          have w17 : w = 2 := by simpa using w11
          refine l_aload_n rfl rfl ?_
          refine l_gfr rfl rfl rfl rfl rfl (hH.r 0 0 1 rfl) ?_
          refine l_iload_n rfl rfl ?_
          refine l_callV rfl rfl rfl (t_vo_adjectivesOf hH i ⟨by omega, by omega⟩ _) ?_
          rintro _ _ ⟨rfl, z19, rfl, w19, w18⟩
          show Rl _ _ _ _ _ [iv z19] _ _
          refine l_ireturn rfl rfl ?_
          exact ⟨rfl, _, rfl, ⟨by omega, by omega⟩, (by first | omega | (have t := K62; exact ⟨fun q => absurd q (by omega), fun _ _ => ⟨fun q => absurd q (by omega), fun _ => b62, fun q => absurd q (by omega)⟩⟩))⟩
        | n + 3, hii => exact absurd hii (by simp)
    · refine l_iconst rfl ?_
      refine l_ireturn rfl rfl ?_
      exact ⟨rfl, _, rfl, ⟨by omega, by omega⟩, (by first | omega | (have t := K62; exact ⟨fun q => absurd q (by omega), fun _ _ => ⟨fun q => absurd q (by omega), fun _ => b62, fun q => absurd q (by omega)⟩⟩))⟩
abbrev Q_bo_rank__q (S : sS) (ru : Nat) : pst := fun r S1 => S = S1 ∧ (∃ z : Int, r = some (iv z) ∧ (0 ≤ z ∧ z ≤ 2) ∧ ((Xi S (248 + ru) 2 ≠ -1 → z = 0) ∧ (Xi S (248 + ru) 2 = -1 → Xi S (248 + ru) 3 ≠ -1 → z = 1) ∧ (Xi S (248 + ru) 2 = -1 → Xi S (248 + ru) 3 = -1 → z = 2)))
set_option maxRecDepth 100000 in
theorem t_bo_rank__q {S : sS} (hH : HI S) (ru : Nat) (hru : ru < 24) (d : Nat) : Mt lay0 (d + 1) m_bo_rank [.ref (248 + ru)] S (Q_bo_rank__q S ru) := by
  refine Mt_R rfl rfl ?_
  refine l_aload_n rfl rfl ?_
  refine l_iconst rfl ?_
  refine l_iaload (n := 8) rfl (lay_248 (by omega)) (by omega) (by omega) (by unfold rg; omega) ?_
  have w1 : -1 ≤ (Xi S (248 + ru) ((2 : Int).toNat)) ∧ (Xi S (248 + ru) ((2 : Int).toNat)) ≤ 23 := ruc2 hH (by omega)
  have w2 : (Xi S (248 + ru) ((2 : Int).toNat)) = Xi S (248 + ru) 2 := rfl
  refine l_iconst rfl ?_
  refine l_icmp_eq rfl rfl (by unfold rg; omega) (by unfold rg; omega) (fun w3 => ?_) (fun w4 => ?_)
  · refine l_aload_n rfl rfl ?_
    refine l_iconst rfl ?_
    refine l_iaload (n := 8) rfl (lay_248 (by omega)) (by omega) (by omega) (by unfold rg; omega) ?_
    have w5 : -1 ≤ (Xi S (248 + ru) ((3 : Int).toNat)) ∧ (Xi S (248 + ru) ((3 : Int).toNat)) ≤ 15 := ruc3 hH (by omega)
    have w6 : (Xi S (248 + ru) ((3 : Int).toNat)) = Xi S (248 + ru) 3 := rfl
    refine l_iconst rfl ?_
    refine l_icmp_eq rfl rfl (by unfold rg; omega) (by unfold rg; omega) (fun w7 => ?_) (fun w8 => ?_)
    · refine l_iconst rfl ?_
      refine l_ireturn rfl rfl ?_
      exact ⟨rfl, _, rfl, ⟨by omega, by omega⟩, (by omega)⟩
    · refine l_iconst rfl ?_
      refine l_goto rfl rfl ?_
      refine l_ireturn rfl rfl ?_
      exact ⟨rfl, _, rfl, ⟨by omega, by omega⟩, (by omega)⟩
  · refine l_iconst rfl ?_
    refine l_ireturn rfl rfl ?_
    exact ⟨rfl, _, rfl, ⟨by omega, by omega⟩, (by omega)⟩
abbrev Q_bo_comesFirst__q (S : sS) (a : Nat) (b : Nat) : pst := fun r S1 => S = S1 ∧ (∃ z : Int, r = some (iv z) ∧ (0 ≤ z ∧ z ≤ 1) ∧ ((z = 1 → CFU S a b) ∧ (z = 0 → ¬ CFU S a b)))
set_option maxRecDepth 100000 in
theorem t_bo_comesFirst__q {S : sS} (hH : HI S) (a : Nat) (b : Nat) (ha : a < 24) (hb : b < 24) (ka : Xi S (248 + a) 2 ≠ -1 → Xi S (248 + a) 3 = -1) (kb : Xi S (248 + b) 2 ≠ -1 → Xi S (248 + b) 3 = -1) (d : Nat) : Mt lay0 (d + 2) m_bo_comesFirst [.ref 246, .ref (248 + a), .ref (248 + b)] S (Q_bo_comesFirst__q S a b) := by
  refine Mt_R rfl rfl ?_
  refine l_aload_n rfl rfl ?_
  refine l_callS rfl rfl (by decide) rfl (t_bo_rank__q hH a (by omega) _) ?_
  rintro _ _ ⟨rfl, z1, rfl, w1, r1⟩
  show Rl _ _ _ _ _ [iv z1] _ _
  have R1 : rkU S a = z1 := by have u := rkU_i (S := S) (a := a); omega
  refine l_aload_n rfl rfl ?_
  refine l_callS rfl rfl (by decide) rfl (t_bo_rank__q hH b (by omega) _) ?_
  rintro _ _ ⟨rfl, z2, rfl, w2, r5⟩
  show Rl _ _ _ _ _ [iv z2, iv z1] _ _
  have R4 : rkU S b = z2 := by have u := rkU_i (S := S) (a := b); omega
  refine l_isub rfl ?_
  refine l_istore_n rfl rfl rfl ?_
  refine l_iload_n rfl rfl ?_
  refine l_if_eq rfl rfl (by unfold rg; omega) (fun w3 => ?_) (fun w4 => ?_)
  · refine l_aload_n rfl rfl ?_
    refine l_iconst rfl ?_
    refine l_iaload (n := 8) rfl (lay_248 (by omega)) (by omega) (by omega) (by unfold rg; omega) ?_
    have w5 : -1 ≤ (Xi S (248 + a) ((3 : Int).toNat)) ∧ (Xi S (248 + a) ((3 : Int).toNat)) ≤ 15 := ruc3 hH (by omega)
    have w6 : (Xi S (248 + a) ((3 : Int).toNat)) = Xi S (248 + a) 3 := rfl
    refine l_iconst rfl ?_
    refine l_icmp_eq rfl rfl (by unfold rg; omega) (by unfold rg; omega) (fun w7 => ?_) (fun w8 => ?_)
    · refine l_aload_n rfl rfl ?_
      refine l_iconst rfl ?_
      refine l_iaload (n := 8) rfl (lay_248 (by omega)) (by omega) (by omega) (by unfold rg; omega) ?_
      have w9 : 0 ≤ (Xi S (248 + a) ((5 : Int).toNat)) ∧ (Xi S (248 + a) ((5 : Int).toNat)) ≤ 6 := ruc5 hH (by omega)
      have w10 : (Xi S (248 + a) ((5 : Int).toNat)) = Xi S (248 + a) 5 := rfl
      refine l_aload_n rfl rfl ?_
      refine l_iconst rfl ?_
      refine l_iaload (n := 8) rfl (lay_248 (by omega)) (by omega) (by omega) (by unfold rg; omega) ?_
      have w11 : 0 ≤ (Xi S (248 + b) ((5 : Int).toNat)) ∧ (Xi S (248 + b) ((5 : Int).toNat)) ≤ 6 := ruc5 hH (by omega)
      have w12 : (Xi S (248 + b) ((5 : Int).toNat)) = Xi S (248 + b) 5 := rfl
      refine l_icmp_le rfl rfl (by unfold rg; omega) (by unfold rg; omega) (fun w13 => ?_) (fun w14 => ?_)
      · refine l_iconst rfl ?_
        refine l_ireturn rfl rfl ?_
        exact ⟨rfl, _, rfl, ⟨by omega, by omega⟩, (by first | (have t := K55; exact cfu_i R1.symm R4.symm (fun _ _ => ⟨k45, k55⟩) (by omega)) | exact cfu_i (r := 0) (s := 0) R1.symm R4.symm (fun q1 q2 => absurd q2 (by have u := rkU_i (S := S) (a := a); have v := rkU_i (S := S) (a := b); omega)) (by omega))⟩
      · refine l_iconst rfl ?_
        refine l_goto rfl rfl ?_
        refine l_ireturn rfl rfl ?_
        exact ⟨rfl, _, rfl, ⟨by omega, by omega⟩, (by first | (have t := K55; exact cfu_i R1.symm R4.symm (fun _ _ => ⟨k45, k55⟩) (by omega)) | exact cfu_i (r := 0) (s := 0) R1.symm R4.symm (fun q1 q2 => absurd q2 (by have u := rkU_i (S := S) (a := a); have v := rkU_i (S := S) (a := b); omega)) (by omega))⟩
    · refine l_aload_n rfl rfl ?_
      refine l_iconst rfl ?_
      refine l_iaload (n := 8) rfl (lay_248 (by omega)) (by omega) (by omega) (by unfold rg; omega) ?_
      have w15 : -1 ≤ (Xi S (248 + b) ((3 : Int).toNat)) ∧ (Xi S (248 + b) ((3 : Int).toNat)) ≤ 15 := ruc3 hH (by omega)
      have w16 : (Xi S (248 + b) ((3 : Int).toNat)) = Xi S (248 + b) 3 := rfl
      refine l_iconst rfl ?_
      refine l_icmp_eq rfl rfl (by unfold rg; omega) (by unfold rg; omega) (fun w17 => ?_) (fun w18 => ?_)
      · refine l_aload_n rfl rfl ?_
        refine l_iconst rfl ?_
        refine l_iaload (n := 8) rfl (lay_248 (by omega)) (by omega) (by omega) (by unfold rg; omega) ?_
        have w19 : 0 ≤ (Xi S (248 + a) ((5 : Int).toNat)) ∧ (Xi S (248 + a) ((5 : Int).toNat)) ≤ 6 := ruc5 hH (by omega)
        have w20 : (Xi S (248 + a) ((5 : Int).toNat)) = Xi S (248 + a) 5 := rfl
        refine l_aload_n rfl rfl ?_
        refine l_iconst rfl ?_
        refine l_iaload (n := 8) rfl (lay_248 (by omega)) (by omega) (by omega) (by unfold rg; omega) ?_
        have w21 : 0 ≤ (Xi S (248 + b) ((5 : Int).toNat)) ∧ (Xi S (248 + b) ((5 : Int).toNat)) ≤ 6 := ruc5 hH (by omega)
        have w22 : (Xi S (248 + b) ((5 : Int).toNat)) = Xi S (248 + b) 5 := rfl
        refine l_icmp_le rfl rfl (by unfold rg; omega) (by unfold rg; omega) (fun w23 => ?_) (fun w24 => ?_)
        · refine l_iconst rfl ?_
          refine l_ireturn rfl rfl ?_
          exact ⟨rfl, _, rfl, ⟨by omega, by omega⟩, (by first | (have t := K55; exact cfu_i R1.symm R4.symm (fun _ _ => ⟨k45, k55⟩) (by omega)) | exact cfu_i (r := 0) (s := 0) R1.symm R4.symm (fun q1 q2 => absurd q2 (by have u := rkU_i (S := S) (a := a); have v := rkU_i (S := S) (a := b); omega)) (by omega))⟩
        · refine l_iconst rfl ?_
          refine l_goto rfl rfl ?_
          refine l_ireturn rfl rfl ?_
          exact ⟨rfl, _, rfl, ⟨by omega, by omega⟩, (by first | (have t := K55; exact cfu_i R1.symm R4.symm (fun _ _ => ⟨k45, k55⟩) (by omega)) | exact cfu_i (r := 0) (s := 0) R1.symm R4.symm (fun q1 q2 => absurd q2 (by have u := rkU_i (S := S) (a := a); have v := rkU_i (S := S) (a := b); omega)) (by omega))⟩
      · refine l_aload_n rfl rfl ?_
        refine l_gfr rfl rfl rfl rfl rfl (hH.r 246 0 1 rfl) ?_
        refine l_aload_n rfl rfl ?_
        refine l_iconst rfl ?_
        refine l_iaload (n := 8) rfl (lay_248 (by omega)) (by omega) (by omega) (by unfold rg; omega) ?_
        refine l_callV rfl rfl rfl (t_vo_kindsAbove hH (Xi S (248 + a) ((3 : Int).toNat)) ⟨by omega, by omega⟩ _) ?_
        rintro _ _ ⟨rfl, z25, rfl, w25, k45⟩
        show Rl _ _ _ _ _ [iv z25] _ _
        refine l_aload_n rfl rfl ?_
        refine l_gfr rfl rfl rfl rfl rfl (hH.r 246 0 1 rfl) ?_
        refine l_aload_n rfl rfl ?_
        refine l_iconst rfl ?_
        refine l_iaload (n := 8) rfl (lay_248 (by omega)) (by omega) (by omega) (by unfold rg; omega) ?_
        refine l_callV rfl rfl rfl (t_vo_kindsAbove hH (Xi S (248 + b) ((3 : Int).toNat)) ⟨by omega, by omega⟩ _) ?_
        rintro _ _ ⟨rfl, z26, rfl, w26, k55⟩
        show Rl _ _ _ _ _ [iv z26, iv z25] _ _
        have K55 : True := trivial
        refine l_isub rfl ?_
        refine l_istore rfl rfl rfl ?_
        refine l_iload rfl rfl ?_
        refine l_if_eq rfl rfl (by unfold rg; omega) (fun w27 => ?_) (fun w28 => ?_)
        · refine l_aload_n rfl rfl ?_
          refine l_iconst rfl ?_
          refine l_iaload (n := 8) rfl (lay_248 (by omega)) (by omega) (by omega) (by unfold rg; omega) ?_
          have w29 : 0 ≤ (Xi S (248 + a) ((4 : Int).toNat)) ∧ (Xi S (248 + a) ((4 : Int).toNat)) ≤ 5 := ruc4 hH (by omega)
          have w30 : (Xi S (248 + a) ((4 : Int).toNat)) = Xi S (248 + a) 4 := rfl
          refine l_aload_n rfl rfl ?_
          refine l_iconst rfl ?_
          refine l_iaload (n := 8) rfl (lay_248 (by omega)) (by omega) (by omega) (by unfold rg; omega) ?_
          have w31 : 0 ≤ (Xi S (248 + b) ((4 : Int).toNat)) ∧ (Xi S (248 + b) ((4 : Int).toNat)) ≤ 5 := ruc4 hH (by omega)
          have w32 : (Xi S (248 + b) ((4 : Int).toNat)) = Xi S (248 + b) 4 := rfl
          refine l_icmp_eq rfl rfl (by unfold rg; omega) (by unfold rg; omega) (fun w33 => ?_) (fun w34 => ?_)
          · refine l_aload_n rfl rfl ?_
            refine l_iconst rfl ?_
            refine l_iaload (n := 8) rfl (lay_248 (by omega)) (by omega) (by omega) (by unfold rg; omega) ?_
            have w35 : 0 ≤ (Xi S (248 + a) ((5 : Int).toNat)) ∧ (Xi S (248 + a) ((5 : Int).toNat)) ≤ 6 := ruc5 hH (by omega)
            have w36 : (Xi S (248 + a) ((5 : Int).toNat)) = Xi S (248 + a) 5 := rfl
            refine l_aload_n rfl rfl ?_
            refine l_iconst rfl ?_
            refine l_iaload (n := 8) rfl (lay_248 (by omega)) (by omega) (by omega) (by unfold rg; omega) ?_
            have w37 : 0 ≤ (Xi S (248 + b) ((5 : Int).toNat)) ∧ (Xi S (248 + b) ((5 : Int).toNat)) ≤ 6 := ruc5 hH (by omega)
            have w38 : (Xi S (248 + b) ((5 : Int).toNat)) = Xi S (248 + b) 5 := rfl
            refine l_icmp_le rfl rfl (by unfold rg; omega) (by unfold rg; omega) (fun w39 => ?_) (fun w40 => ?_)
            · refine l_iconst rfl ?_
              refine l_ireturn rfl rfl ?_
              exact ⟨rfl, _, rfl, ⟨by omega, by omega⟩, (by first | (have t := K55; exact cfu_i R1.symm R4.symm (fun _ _ => ⟨k45, k55⟩) (by omega)) | exact cfu_i (r := 0) (s := 0) R1.symm R4.symm (fun q1 q2 => absurd q2 (by have u := rkU_i (S := S) (a := a); have v := rkU_i (S := S) (a := b); omega)) (by omega))⟩
            · refine l_iconst rfl ?_
              refine l_goto rfl rfl ?_
              refine l_ireturn rfl rfl ?_
              exact ⟨rfl, _, rfl, ⟨by omega, by omega⟩, (by first | (have t := K55; exact cfu_i R1.symm R4.symm (fun _ _ => ⟨k45, k55⟩) (by omega)) | exact cfu_i (r := 0) (s := 0) R1.symm R4.symm (fun q1 q2 => absurd q2 (by have u := rkU_i (S := S) (a := a); have v := rkU_i (S := S) (a := b); omega)) (by omega))⟩
          · refine l_aload_n rfl rfl ?_
            refine l_iconst rfl ?_
            refine l_iaload (n := 8) rfl (lay_248 (by omega)) (by omega) (by omega) (by unfold rg; omega) ?_
            refine l_aload_n rfl rfl ?_
            refine l_iconst rfl ?_
            refine l_iaload (n := 8) rfl (lay_248 (by omega)) (by omega) (by omega) (by unfold rg; omega) ?_
            refine l_icmp_le rfl rfl (by unfold rg; omega) (by unfold rg; omega) (fun w41 => ?_) (fun w42 => ?_)
            · refine l_iconst rfl ?_
              refine l_ireturn rfl rfl ?_
              exact ⟨rfl, _, rfl, ⟨by omega, by omega⟩, (by first | (have t := K55; exact cfu_i R1.symm R4.symm (fun _ _ => ⟨k45, k55⟩) (by omega)) | exact cfu_i (r := 0) (s := 0) R1.symm R4.symm (fun q1 q2 => absurd q2 (by have u := rkU_i (S := S) (a := a); have v := rkU_i (S := S) (a := b); omega)) (by omega))⟩
            · refine l_iconst rfl ?_
              refine l_goto rfl rfl ?_
              refine l_ireturn rfl rfl ?_
              exact ⟨rfl, _, rfl, ⟨by omega, by omega⟩, (by first | (have t := K55; exact cfu_i R1.symm R4.symm (fun _ _ => ⟨k45, k55⟩) (by omega)) | exact cfu_i (r := 0) (s := 0) R1.symm R4.symm (fun q1 q2 => absurd q2 (by have u := rkU_i (S := S) (a := a); have v := rkU_i (S := S) (a := b); omega)) (by omega))⟩
        · refine l_iload rfl rfl ?_
          refine l_if_le rfl rfl (by unfold rg; omega) (fun w43 => ?_) (fun w44 => ?_)
          · refine l_iconst rfl ?_
            refine l_ireturn rfl rfl ?_
            exact ⟨rfl, _, rfl, ⟨by omega, by omega⟩, (by first | (have t := K55; exact cfu_i R1.symm R4.symm (fun _ _ => ⟨k45, k55⟩) (by omega)) | exact cfu_i (r := 0) (s := 0) R1.symm R4.symm (fun q1 q2 => absurd q2 (by have u := rkU_i (S := S) (a := a); have v := rkU_i (S := S) (a := b); omega)) (by omega))⟩
          · refine l_iconst rfl ?_
            refine l_goto rfl rfl ?_
            refine l_ireturn rfl rfl ?_
            exact ⟨rfl, _, rfl, ⟨by omega, by omega⟩, (by first | (have t := K55; exact cfu_i R1.symm R4.symm (fun _ _ => ⟨k45, k55⟩) (by omega)) | exact cfu_i (r := 0) (s := 0) R1.symm R4.symm (fun q1 q2 => absurd q2 (by have u := rkU_i (S := S) (a := a); have v := rkU_i (S := S) (a := b); omega)) (by omega))⟩
  · refine l_iload_n rfl rfl ?_
    refine l_if_ge rfl rfl (by unfold rg; omega) (fun w45 => ?_) (fun w46 => ?_)
    · refine l_iconst rfl ?_
      refine l_ireturn rfl rfl ?_
      exact ⟨rfl, _, rfl, ⟨by omega, by omega⟩, (by first | (have t := K55; exact cfu_i R1.symm R4.symm (fun _ _ => ⟨k45, k55⟩) (by omega)) | exact cfu_i (r := 0) (s := 0) R1.symm R4.symm (fun q1 q2 => absurd q2 (by have u := rkU_i (S := S) (a := a); have v := rkU_i (S := S) (a := b); omega)) (by omega))⟩
    · refine l_iconst rfl ?_
      refine l_goto rfl rfl ?_
      refine l_ireturn rfl rfl ?_
      exact ⟨rfl, _, rfl, ⟨by omega, by omega⟩, (by first | (have t := K55; exact cfu_i R1.symm R4.symm (fun _ _ => ⟨k45, k55⟩) (by omega)) | exact cfu_i (r := 0) (s := 0) R1.symm R4.symm (fun q1 q2 => absurd q2 (by have u := rkU_i (S := S) (a := a); have v := rkU_i (S := S) (a := b); omega)) (by omega))⟩
def md_bo_putInOrder__q : List rec := [(272, 273, 0, 100000)]
abbrev Q_bo_putInOrder__q (S : sS) : pst := fun r S1 => HI S1 ∧ FR md_bo_putInOrder__q S S1 ∧ (r = none ∧ (ORD S1) ∧ (SRT S S1 (Xi S 246 2)))
set_option maxRecDepth 100000 in
theorem t_bo_putInOrder__q {S : sS} (hH : HI S) (hk : ∀ r : Nat, (r : Int) < Xi S 246 2 → Xi S (248 + r) 2 ≠ -1 → Xi S (248 + r) 3 = -1) (d : Nat) : Mt lay0 (d + 3) m_bo_putInOrder [.ref 246] S (Q_bo_putInOrder__q S) := by
  refine Mt_R rfl rfl ?_
  have hF : FR md_bo_putInOrder__q S S := FR.rf
  have w1 : 0 ≤ Xi S 246 2 ∧ Xi S 246 2 ≤ 24 := hH.c _ _
  have C2 : ∀ (n2 : Nat) (T1 : sS) (_ : HI T1) (_ : FR md_bo_putInOrder__q S T1) (v1 : Int), (0 ≤ v1 ∧ v1 ≤ 24) → (v1 ≤ Xi T1 246 2) → (∀ i : Nat, (i : Int) < v1 → Xi T1 272 i < v1) → (SRT S T1 v1) → n2 = (25 - v1).toNat → Rl lay0 (d + 2) m_bo_putInOrder 2 [(0, .ref 246), (1, iv v1)] [] T1 (Q_bo_putInOrder__q S) := by
    intro n2
    induction n2 using Nat.strongRecOn with
    | ind n2 ih2 =>
      intro T1 hHT1 hFT1 v1 w2 w3 ho2 s2 hm2
      have w4 : Xi T1 246 2 = Xi S 246 2 := hFT1.x _ _ rfl
      have w5 : 0 ≤ Xi T1 246 2 ∧ Xi T1 246 2 ≤ 24 := hHT1.c _ _
      have C12 : ∀ (n12 : Nat) (T2 : sS) (_ : HI T2) (_ : FR md_bo_putInOrder__q S T2) (v1 : Int) (v2 : Int), (0 ≤ v1 ∧ v1 ≤ 23) → (0 ≤ v2 ∧ v2 ≤ 23) → (0 ≤ v2 ∧ v2 ≤ v1) → (v1 < Xi T2 246 2) → (∀ i : Nat, (i : Int) ≤ v1 → (i : Int) ≠ v2 → Xi T2 272 i < v1) → (HOL S T2 v2 v1) → ((25 - v1).toNat ≤ n2) → n12 = (v2 - (-1)).toNat → Rl lay0 (d + 2) m_bo_putInOrder 12 [(0, .ref 246), (1, iv v1), (2, iv v2)] [] T2 (Q_bo_putInOrder__q S) := by
        intro n12
        induction n12 using Nat.strongRecOn with
        | ind n12 ih12 =>
          intro T2 hHT2 hFT2 v1 v2 w6 w7 w8 w9 ho12 h12 w10 hm12
          have w11 : Xi T2 246 2 = Xi S 246 2 := hFT2.x _ _ rfl
          have w12 : 0 ≤ Xi T2 246 2 ∧ Xi T2 246 2 ≤ 24 := hHT2.c _ _
          have C62 : ∀  (T3 : sS) (_ : HI T3) (_ : FR md_bo_putInOrder__q S T3) (v1 : Int) (v2 : Int), (0 ≤ v1 ∧ v1 ≤ 23) → (0 ≤ v2 ∧ v2 ≤ 23) → (0 ≤ v2 ∧ v2 ≤ v1) → (v1 < Xi T3 246 2) → (∀ i : Nat, (i : Int) ≤ v1 → (i : Int) ≠ v2 → Xi T3 272 i < v1) → (HOL S T3 v2 v1) → (v2 ≤ 0 ∨ ¬ CFU S v1.toNat (Xi T3 272 (v2 - 1).toNat).toNat) → ((25 - v1).toNat ≤ n2) → Rl lay0 (d + 2) m_bo_putInOrder 62 [(0, .ref 246), (1, iv v1), (2, iv v2)] [] T3 (Q_bo_putInOrder__q S) := by
            intro T3 hHT3 hFT3 v1 v2 w13 w14 w15 w16 ho62 h62 c62 w17
            have w18 : Xi T3 246 2 = Xi S 246 2 := hFT3.x _ _ rfl
            have w19 : 0 ≤ Xi T3 246 2 ∧ Xi T3 246 2 ≤ 24 := hHT3.c _ _
            refine l_aload_n rfl rfl ?_
            refine l_gfr rfl rfl rfl rfl rfl (hHT3.r 246 3 272 rfl) ?_
            refine l_iload_n rfl rfl ?_
            refine l_iload_n rfl rfl ?_
            refine l_iastore (n := 24) rfl rfl (by omega) (by omega) (by unfold rg; omega) ?_
            obtain ⟨U4, eU4⟩ : ∃ T : sS, T = uI T3 272 ((v2).toNat) (Int32.ofInt v1) := ⟨_, rfl⟩
            rw [← eU4]
            have hHU4 : HI U4 := by rw [eU4]; exact HI_w hHT3 (show 0 ≤ v1 by omega) (show v1 ≤ 23 by omega)
            have hFU4 : FR md_bo_putInOrder__q S U4 := by rw [eU4]; exact FR.wI hFT3 (mdf_i (r := (272, 273, 0, 100000)) (List.mem_of_getElem? (i := 0) rfl) (inR_i (by omega) (by omega) (by omega) (by omega)))
            have w20 : Xi U4 272 ((v2).toNat) = v1 := by rw [eU4]; exact Xi_same (by unfold rg; omega)
            refine l_iinc rfl rfl rfl rfl ?_
            refine l_goto rfl rfl ?_
            have w21 : Xi U4 246 2 = Xi T3 246 2 := (show Xi U4 246 2 = Xi T3 246 2 from by rw [eU4]; exact Xi_ne (by omega))
            exact Rl_weak (ih2 _ (by omega) U4 hHU4 hFU4 ((v1 + 1)) (by omega) (by omega) (by first | (intro i hi; omega) | exact ord_put eU4 ho62 (by omega) (by omega)) (by first | exact srt_0 rfl | exact srt_s h62 (by omega) (by omega) (by omega) eU4 c62) rfl) (And.intro rfl (And.intro rfl (True.intro)))
          refine l_iload_n rfl rfl ?_
          refine l_if_le rfl rfl (by unfold rg; omega) (fun w23 => ?_) (fun w24 => ?_)
          · have w25 : 0 ≤ Xi T2 246 2 ∧ Xi T2 246 2 ≤ 24 := hHT2.c _ _
            exact Rl_weak (C62 T2 hHT2 hFT2 (v1) (v2) (by omega) (by omega) (by omega) (by omega) (by first | assumption | omega) (h12) (by first | exact Or.inl (by omega) | exact Or.inr (d36 (by omega))) (by omega)) (And.intro rfl (And.intro rfl (And.intro rfl (True.intro))))
          · refine l_aload_n rfl rfl ?_
            refine l_aload_n rfl rfl ?_
            refine l_gfr rfl rfl rfl rfl rfl (hHT2.r 246 1 247 rfl) ?_
            refine l_iload_n rfl rfl ?_
            refine l_aaload (n := 24) (a := 248 + (v1).toNat) rfl rfl (by decide) (by omega) (by omega) (by unfold rg; omega) (RW_247 hHT2 (by omega)) ?_
            refine l_aload_n rfl rfl ?_
            refine l_gfr rfl rfl rfl rfl rfl (hHT2.r 246 1 247 rfl) ?_
            refine l_aload_n rfl rfl ?_
            refine l_gfr rfl rfl rfl rfl rfl (hHT2.r 246 3 272 rfl) ?_
            refine l_iload_n rfl rfl ?_
            refine l_iconst rfl ?_
            refine l_isub rfl ?_
            refine l_iaload (n := 24) rfl rfl (by omega) (by omega) (by unfold rg; omega) ?_
            have w26 : 0 ≤ (Xi T2 272 (((v2 - 1)).toNat)) ∧ (Xi T2 272 (((v2 - 1)).toNat)) ≤ 23 := hHT2.c _ _
            refine l_aaload (n := 24) (a := 248 + ((Xi T2 272 (((v2 - 1)).toNat))).toNat) rfl rfl (by decide) (by omega) (by omega) (by unfold rg; omega) (RW_247 hHT2 (by omega)) ?_
            refine l_callV rfl rfl rfl (t_bo_comesFirst__q hHT2 ((v1).toNat) (((Xi T2 272 (((v2 - 1)).toNat))).toNat) (by omega) (by omega) (fun q => by rw [rwk hFT2 rfl (by omega)] at q ⊢; exact hk _ (by omega) q) (fun q => by have o36 := ho12 (v2 - 1).toNat (by omega) (by omega); rw [rwk hFT2 rfl (by omega)] at q ⊢; exact hk _ (by omega) q) _) ?_
            rintro _ _ ⟨rfl, z27, rfl, w27, q36⟩
            show Rl _ _ _ _ _ [iv z27] _ _
            have c36 : z27 = 1 → CFU S v1.toNat (Xi T2 272 (v2 - 1).toNat).toNat := fun h => (cfu_k hFT2 rfl _ _ (by omega) (by omega)).1 (q36.1 h)
            have d36 : z27 = 0 → ¬ CFU S v1.toNat (Xi T2 272 (v2 - 1).toNat).toNat := fun h x => q36.2 h ((cfu_k hFT2 rfl _ _ (by omega) (by omega)).2 x)
            refine l_if_eq rfl rfl (by unfold rg; omega) (fun w28 => ?_) (fun w29 => ?_)
            · have w30 : 0 ≤ Xi T2 246 2 ∧ Xi T2 246 2 ≤ 24 := hHT2.c _ _
              exact Rl_weak (C62 T2 hHT2 hFT2 (v1) (v2) (by omega) (by omega) (by omega) (by omega) (by first | assumption | omega) (h12) (by first | exact Or.inl (by omega) | exact Or.inr (d36 (by omega))) (by omega)) (And.intro rfl (And.intro rfl (And.intro rfl (True.intro))))
            · refine l_aload_n rfl rfl ?_
              refine l_gfr rfl rfl rfl rfl rfl (hHT2.r 246 3 272 rfl) ?_
              refine l_iload_n rfl rfl ?_
              refine l_aload_n rfl rfl ?_
              refine l_gfr rfl rfl rfl rfl rfl (hHT2.r 246 3 272 rfl) ?_
              refine l_iload_n rfl rfl ?_
              refine l_iconst rfl ?_
              refine l_isub rfl ?_
              refine l_iaload (n := 24) rfl rfl (by omega) (by omega) (by unfold rg; omega) ?_
              refine l_iastore (n := 24) rfl rfl (by omega) (by omega) (by unfold rg; omega) ?_
              obtain ⟨U5, eU5⟩ : ∃ T : sS, T = uI T2 272 ((v2).toNat) (Int32.ofInt (Xi T2 272 (((v2 - 1)).toNat))) := ⟨_, rfl⟩
              rw [← eU5]
              have hHU5 : HI U5 := by rw [eU5]; exact HI_w hHT2 (show 0 ≤ (Xi T2 272 (((v2 - 1)).toNat)) by omega) (show (Xi T2 272 (((v2 - 1)).toNat)) ≤ 23 by omega)
              have hFU5 : FR md_bo_putInOrder__q S U5 := by rw [eU5]; exact FR.wI hFT2 (mdf_i (r := (272, 273, 0, 100000)) (List.mem_of_getElem? (i := 0) rfl) (inR_i (by omega) (by omega) (by omega) (by omega)))
              have w31 : Xi U5 272 ((v2).toNat) = (Xi T2 272 (((v2 - 1)).toNat)) := by rw [eU5]; exact Xi_same (by unfold rg; omega)
              refine l_iinc rfl rfl rfl rfl ?_
              refine l_goto rfl rfl ?_
              have w32 : Xi U5 246 2 = Xi T2 246 2 := (show Xi U5 246 2 = Xi T2 246 2 from by rw [eU5]; exact Xi_ne (by omega))
              exact Rl_weak (ih12 _ (by omega) U5 hHU5 hFU5 (v1) ((v2 + (-1))) (by omega) (by omega) (by omega) (by omega) (by first | exact ord_in ho2 | exact ord_mv eU5 ho12 (by omega) (by omega)) (by first | exact hol_0 s2 (by omega) | exact hol_s h12 (by omega) (by omega) eU5 rfl (by unfold rg; omega) (c36 (by omega))) (by omega) rfl) (And.intro rfl (And.intro rfl (And.intro rfl (True.intro))))
      refine l_iload_n rfl rfl ?_
      refine l_aload_n rfl rfl ?_
      refine l_gfi rfl rfl rfl rfl rfl ?_
      refine l_icmp_ge rfl rfl (by unfold rg; omega) (by unfold rg; omega) (fun w34 => ?_) (fun w35 => ?_)
      · refine l_return rfl rfl ?_
        exact ⟨hHT1, hFT1, rfl, (ord_end ho2 (by omega)), (by rw [show Xi S 246 2 = v1 by omega]; exact s2)⟩
      · refine l_iload_n rfl rfl ?_
        refine l_istore_n rfl rfl rfl ?_
        exact Rl_weak (C12 _ T1 hHT1 hFT1 (v1) (v1) (by omega) (by omega) (by omega) (by omega) (by first | exact ord_in ho2 | exact ord_mv rfl ho12 (by omega) (by omega)) (by first | exact hol_0 s2 (by omega) | exact hol_s h12 (by omega) (by omega) rfl rfl (by unfold rg; omega) (c36 (by omega))) (by omega) rfl) (And.intro rfl (And.intro rfl (And.intro rfl (True.intro))))
  refine l_iconst rfl ?_
  refine l_istore_n rfl rfl rfl ?_
  exact Rl_weak (C2 _ S hH hF (0) (by omega) (by omega) (by first | (intro i hi; omega) | exact ord_put rfl ho62 (by omega) (by omega)) (by first | exact srt_0 rfl | exact srt_s h62 (by omega) (by omega) (by omega) rfl c62) rfl) (And.intro rfl (And.intro rfl (True.intro)))
abbrev Q_bo_placeInOrder__q (S : sS) (i : Int) : pst := fun r S1 => S = S1 ∧ (∃ z : Int, r = some (iv z) ∧ (0 ≤ z ∧ z ≤ 24) ∧ (PIO S i.toNat (Xi S 246 2) z))
set_option maxRecDepth 100000 in
theorem t_bo_placeInOrder__q {S : sS} (hH : HI S) (i : Int) (hi : 0 ≤ i ∧ i ≤ 23) (d : Nat) : Mt lay0 (d + 1) m_bo_placeInOrder [.ref 246, iv i] S (Q_bo_placeInOrder__q S i) := by
  refine Mt_R rfl rfl ?_
  have w1 : 0 ≤ Xi S 246 2 ∧ Xi S 246 2 ≤ 24 := hH.c _ _
  have C4 : ∀ (n4 : Nat) (v2 : Int) (v3 : Int), (-2147483648 ≤ v2 ∧ v2 ≤ 2147483647) → (0 ≤ v3 ∧ v3 ≤ 24) → (0 ≤ v2 ∧ v2 ≤ v3) → (v3 ≤ Xi S 246 2) → (v2 = pioN S i.toNat v3.toNat) → (∀ j : Nat, j < v3.toNat → Xi S 272 j ≠ i.toNat) → n4 = (25 - v3).toNat → Rl lay0 (d + 0) m_bo_placeInOrder 4 [(0, .ref 246), (1, iv i), (2, iv v2), (3, iv v3)] [] S (Q_bo_placeInOrder__q S i) := by
    intro n4
    induction n4 using Nat.strongRecOn with
    | ind n4 ih4 =>
      intro v2 v3 w2 w3 w4 w5 p4 g4 hm4
      have C49 : ∀  (v2 : Int) (v3 : Int), (-2147483648 ≤ v2 ∧ v2 ≤ 2147483647) → (0 ≤ v3 ∧ v3 ≤ 23) → (0 ≤ v2 ∧ v2 ≤ v3 + 1) → (v3 < Xi S 246 2) → (v2 = pioN S i.toNat (v3 + 1).toNat) → (∀ j : Nat, j < (v3 + 1).toNat → Xi S 272 j ≠ i.toNat) → ((25 - v3).toNat ≤ n4) → Rl lay0 (d + 0) m_bo_placeInOrder 49 [(0, .ref 246), (1, iv i), (2, iv v2), (3, iv v3)] [] S (Q_bo_placeInOrder__q S i) := by
        intro v2 v3 w6 w7 w8 w9 p49 g49 w10
        refine l_iinc rfl rfl rfl rfl ?_
        refine l_goto rfl rfl ?_
        exact Rl_weak (ih4 _ (by omega) (v2) ((v3 + 1)) (by omega) (by omega) (by omega) (by omega) (by first | exact p49 | rfl) (by first | exact g49 | (intro j hj; omega)) rfl) (And.intro rfl (And.intro rfl (And.intro rfl (And.intro rfl (True.intro)))))
      have C55 : ∀  (v2 : Int), (-2147483648 ≤ v2 ∧ v2 ≤ 2147483647) → (0 ≤ v2 ∧ v2 ≤ 24) → (PIO S i.toNat (Xi S 246 2) v2) → Rl lay0 (d + 0) m_bo_placeInOrder 55 [(2, iv v2)] [] S (Q_bo_placeInOrder__q S i) := by
        intro v2 w11 w12 p55
        refine l_iload_n rfl rfl ?_
        refine l_ireturn rfl rfl ?_
        exact ⟨rfl, _, rfl, ⟨by omega, by omega⟩, (p55)⟩
      refine l_iload_n rfl rfl ?_
      refine l_aload_n rfl rfl ?_
      refine l_gfi rfl rfl rfl rfl rfl ?_
      refine l_icmp_ge rfl rfl (by unfold rg; omega) (by unfold rg; omega) (fun w13 => ?_) (fun w14 => ?_)
      · exact Rl_weak (C55 (v2) (by omega) (by omega) (⟨v3.toNat, by omega, p4, g4, by omega⟩)) (And.intro rfl (True.intro))
      · refine l_aload_n rfl rfl ?_
        refine l_gfr rfl rfl rfl rfl rfl (hH.r 246 3 272 rfl) ?_
        refine l_iload_n rfl rfl ?_
        refine l_iaload (n := 24) rfl rfl (by omega) (by omega) (by unfold rg; omega) ?_
        have w15 : 0 ≤ (Xi S 272 ((v3).toNat)) ∧ (Xi S 272 ((v3).toNat)) ≤ 23 := hH.c _ _
        refine l_iload_n rfl rfl ?_
        refine l_icmp_eq rfl rfl (by unfold rg; omega) (by unfold rg; omega) (fun w16 => ?_) (fun w17 => ?_)
        · exact Rl_weak (C55 (v2) (by omega) (by omega) (⟨v3.toNat, by omega, p4, g4, by omega⟩)) (And.intro rfl (True.intro))
        · refine l_aload_n rfl rfl ?_
          refine l_gfr rfl rfl rfl rfl rfl (hH.r 246 1 247 rfl) ?_
          refine l_aload_n rfl rfl ?_
          refine l_gfr rfl rfl rfl rfl rfl (hH.r 246 3 272 rfl) ?_
          refine l_iload_n rfl rfl ?_
          refine l_iaload (n := 24) rfl rfl (by omega) (by omega) (by unfold rg; omega) ?_
          refine l_aaload (n := 24) (a := 248 + ((Xi S 272 ((v3).toNat))).toNat) rfl rfl (by decide) (by omega) (by omega) (by unfold rg; omega) (RW_247 hH (by omega)) ?_
          refine l_iconst rfl ?_
          refine l_iaload (n := 8) rfl (lay_248 (by omega)) (by omega) (by omega) (by unfold rg; omega) ?_
          have w18 : 0 ≤ (Xi S (248 + ((Xi S 272 ((v3).toNat))).toNat) ((0 : Int).toNat)) ∧ (Xi S (248 + ((Xi S 272 ((v3).toNat))).toNat) ((0 : Int).toNat)) ≤ 3 := ruc0 hH (by omega)
          have w19 : (Xi S (248 + ((Xi S 272 ((v3).toNat))).toNat) ((0 : Int).toNat)) = Xi S (248 + ((Xi S 272 ((v3).toNat))).toNat) 0 := rfl
          refine l_aload_n rfl rfl ?_
          refine l_gfr rfl rfl rfl rfl rfl (hH.r 246 1 247 rfl) ?_
          refine l_iload_n rfl rfl ?_
          refine l_aaload (n := 24) (a := 248 + (i).toNat) rfl rfl (by decide) (by omega) (by omega) (by unfold rg; omega) (RW_247 hH (by omega)) ?_
          refine l_iconst rfl ?_
          refine l_iaload (n := 8) rfl (lay_248 (by omega)) (by omega) (by omega) (by unfold rg; omega) ?_
          have w20 : 0 ≤ (Xi S (248 + (i).toNat) ((0 : Int).toNat)) ∧ (Xi S (248 + (i).toNat) ((0 : Int).toNat)) ≤ 3 := ruc0 hH (by omega)
          have w21 : (Xi S (248 + (i).toNat) ((0 : Int).toNat)) = Xi S (248 + (i).toNat) 0 := rfl
          refine l_icmp_ne rfl rfl (by unfold rg; omega) (by unfold rg; omega) (fun w22 => ?_) (fun w23 => ?_)
          · exact Rl_weak (C49 (v2) (v3) (by omega) (by omega) (by omega) (by omega) (by first | exact pio_1 p4 (by omega) (by omega) | exact pio_0 p4 (by omega) (by omega)) (fun j hj => by by_cases x : j = v3.toNat; (rw [x]; omega); exact g4 j (by omega)) (by omega)) (And.intro rfl (And.intro rfl (And.intro rfl (And.intro rfl (True.intro)))))
          · refine l_iinc rfl rfl rfl rfl ?_
            exact Rl_weak (C49 ((v2 + 1)) (v3) (by omega) (by omega) (by omega) (by omega) (by first | exact pio_1 p4 (by omega) (by omega) | exact pio_0 p4 (by omega) (by omega)) (fun j hj => by by_cases x : j = v3.toNat; (rw [x]; omega); exact g4 j (by omega)) (by omega)) (And.intro rfl (And.intro rfl (And.intro rfl (And.intro rfl (True.intro)))))
  refine l_iconst rfl ?_
  refine l_istore_n rfl rfl rfl ?_
  refine l_iconst rfl ?_
  refine l_istore_n rfl rfl rfl ?_
  exact Rl_weak (C4 _ (0) (0) (by omega) (by omega) (by omega) (by omega) (by first | exact p49 | rfl) (by first | exact g49 | (intro j hj; omega)) rfl) (And.intro rfl (And.intro rfl (And.intro rfl (And.intro rfl (True.intro)))))
abbrev Q_rs_rule__q (S : sS) (i : Int) (w : Int) : pst := fun r S1 => S = S1 ∧ (∃ z : Int, r = some (iv z) ∧ (-2147483648 ≤ z ∧ z ≤ 2147483647) ∧ (((i < 0 ∨ Xi S 246 2 ≤ i ∨ w < 0 ∨ 7 < w) → z = -1) ∧ (0 ≤ i → i < Xi S 246 2 → (0 ≤ w → w ≤ 6 → z = Xi S (248 + i.toNat) w.toNat) ∧ (w = 7 → PIO S i.toNat (Xi S 246 2) z))))
set_option maxRecDepth 100000 in
theorem t_rs_rule__q {S : sS} (hH : HI S) (i : Int) (w : Int) (hi : -2147483648 ≤ i ∧ i ≤ 2147483647) (hw : -2147483648 ≤ w ∧ w ≤ 2147483647) (d : Nat) : Mt lay0 (d + 2) m_rs_rule [.ref 0, iv i, iv w] S (Q_rs_rule__q S i w) := by
  refine Mt_R rfl rfl ?_
  have w1 : 0 ≤ Xi S 246 2 ∧ Xi S 246 2 ≤ 24 := hH.c _ _
  refine l_iload_n rfl rfl ?_
  refine l_if_lt rfl rfl (by unfold rg; omega) (fun w2 => ?_) (fun w3 => ?_)
  · refine l_iconst rfl ?_
    refine l_ireturn rfl rfl ?_
    exact ⟨rfl, _, rfl, ⟨by omega, by omega⟩, (by first | (have t := K38; exact ⟨fun h => absurd h (by omega), fun _ _ => ⟨fun _ h => absurd h (by omega), fun _ => P38⟩⟩) | exact ⟨fun h => by omega, fun _ _ => ⟨fun _ _ => by omega, fun h => absurd h (by omega)⟩⟩)⟩
  · refine l_iload_n rfl rfl ?_
    refine l_aload_n rfl rfl ?_
    refine l_gfr rfl rfl rfl rfl rfl (hH.r 0 2 246 rfl) ?_
    refine l_gfi rfl rfl rfl rfl rfl ?_
    refine l_icmp_ge rfl rfl (by unfold rg; omega) (by unfold rg; omega) (fun w4 => ?_) (fun w5 => ?_)
    · refine l_iconst rfl ?_
      refine l_ireturn rfl rfl ?_
      exact ⟨rfl, _, rfl, ⟨by omega, by omega⟩, (by first | (have t := K38; exact ⟨fun h => absurd h (by omega), fun _ _ => ⟨fun _ h => absurd h (by omega), fun _ => P38⟩⟩) | exact ⟨fun h => by omega, fun _ _ => ⟨fun _ _ => by omega, fun h => absurd h (by omega)⟩⟩)⟩
    · refine l_iload_n rfl rfl ?_
      refine l_if_lt rfl rfl (by unfold rg; omega) (fun w6 => ?_) (fun w7 => ?_)
      · refine l_iconst rfl ?_
        refine l_ireturn rfl rfl ?_
        exact ⟨rfl, _, rfl, ⟨by omega, by omega⟩, (by first | (have t := K38; exact ⟨fun h => absurd h (by omega), fun _ _ => ⟨fun _ h => absurd h (by omega), fun _ => P38⟩⟩) | exact ⟨fun h => by omega, fun _ _ => ⟨fun _ _ => by omega, fun h => absurd h (by omega)⟩⟩)⟩
      · refine l_iload_n rfl rfl ?_
        refine l_bipush rfl rfl ?_
        refine l_icmp_le rfl rfl (by unfold rg; omega) (by unfold rg; omega) (fun w8 => ?_) (fun w9 => ?_)
        · refine l_iload_n rfl rfl ?_
          refine l_bipush rfl rfl ?_
          refine l_icmp_ne rfl rfl (by unfold rg; omega) (by unfold rg; omega) (fun w10 => ?_) (fun w11 => ?_)
          · refine l_aload_n rfl rfl ?_
            refine l_gfr rfl rfl rfl rfl rfl (hH.r 0 2 246 rfl) ?_
            refine l_gfr rfl rfl rfl rfl rfl (hH.r 246 1 247 rfl) ?_
            refine l_iload_n rfl rfl ?_
            refine l_aaload (n := 24) (a := 248 + (i).toNat) rfl rfl (by decide) (by omega) (by omega) (by unfold rg; omega) (RW_247 hH (by omega)) ?_
            refine l_iload_n rfl rfl ?_
            refine l_iaload (n := 8) rfl (lay_248 (by omega)) (by omega) (by omega) (by unfold rg; omega) ?_
            have w12 : -2147483648 ≤ (Xi S (248 + (i).toNat) ((w).toNat)) ∧ (Xi S (248 + (i).toNat) ((w).toNat)) ≤ 2147483647 := Xi_rgI
            refine l_ireturn rfl rfl ?_
            exact ⟨rfl, _, rfl, ⟨by omega, by omega⟩, (by first | (have t := K38; exact ⟨fun h => absurd h (by omega), fun _ _ => ⟨fun _ h => absurd h (by omega), fun _ => P38⟩⟩) | exact ⟨fun h => by omega, fun _ _ => ⟨fun _ _ => by omega, fun h => absurd h (by omega)⟩⟩)⟩
          · refine l_aload_n rfl rfl ?_
            refine l_gfr rfl rfl rfl rfl rfl (hH.r 0 2 246 rfl) ?_
            refine l_iload_n rfl rfl ?_
            refine l_callV rfl rfl rfl (t_bo_placeInOrder__q hH i ⟨by omega, by omega⟩ _) ?_
            rintro _ _ ⟨rfl, z14, rfl, w14, P38⟩
            show Rl _ _ _ _ _ [iv z14] _ _
            have K38 : True := trivial
            refine l_goto rfl rfl ?_
            refine l_ireturn rfl rfl ?_
            exact ⟨rfl, _, rfl, ⟨by omega, by omega⟩, (by first | (have t := K38; exact ⟨fun h => absurd h (by omega), fun _ _ => ⟨fun _ h => absurd h (by omega), fun _ => P38⟩⟩) | exact ⟨fun h => by omega, fun _ _ => ⟨fun _ _ => by omega, fun h => absurd h (by omega)⟩⟩)⟩
        · refine l_iconst rfl ?_
          refine l_ireturn rfl rfl ?_
          exact ⟨rfl, _, rfl, ⟨by omega, by omega⟩, (by first | (have t := K38; exact ⟨fun h => absurd h (by omega), fun _ _ => ⟨fun _ h => absurd h (by omega), fun _ => P38⟩⟩) | exact ⟨fun h => by omega, fun _ _ => ⟨fun _ _ => by omega, fun h => absurd h (by omega)⟩⟩)⟩
abbrev Q_mo_depthOf__q (S : sS) (kind : Int) : pst := fun r S1 => S = S1 ∧ (∃ z : Int, r = some (iv z) ∧ (0 ≤ z ∧ z ≤ 16) ∧ (z = dpR S kind))
set_option maxRecDepth 100000 in
theorem t_mo_depthOf__q {S : sS} (hH : HI S) (kind : Int) (hkind : -1 ≤ kind ∧ kind ≤ 15) (hB : ABV S) (d : Nat) : Mt lay0 (d + 1) m_mo_depthOf [.ref 904, iv kind] S (Q_mo_depthOf__q S kind) := by
  refine Mt_R rfl rfl ?_
  have C4 : ∀ (n4 : Nat) (v2 : Int) (v3 : Int), (0 ≤ v2 ∧ v2 ≤ 16) → (-1 ≤ v3 ∧ v3 ≤ 15) → (v2 + v3 ≤ 15) → (v2 ≤ 16) → (dpR S kind = v2 + dpR S v3) → n4 = (v3 + 1).toNat → Rl lay0 (d + 0) m_mo_depthOf 4 [(0, .ref 904), (2, iv v2), (3, iv v3)] [] S (Q_mo_depthOf__q S kind) := by
    intro n4
    induction n4 using Nat.strongRecOn with
    | ind n4 ih4 =>
      intro v2 v3 w1 w2 w3 w4 f4 hm4
      refine l_iload_n rfl rfl ?_
      refine l_if_lt rfl rfl (by unfold rg; omega) (fun w5 => ?_) (fun w6 => ?_)
      · refine l_iload_n rfl rfl ?_
        refine l_ireturn rfl rfl ?_
        exact ⟨rfl, _, rfl, ⟨by omega, by omega⟩, (by rw [f4, dpR_n (by omega)]; omega)⟩
      · refine l_iinc rfl rfl rfl rfl ?_
        refine l_aload_n rfl rfl ?_
        refine l_gfr rfl rfl rfl rfl rfl (hH.r 904 17 917 rfl) ?_
        refine l_iload_n rfl rfl ?_
        refine l_iaload (n := 16) rfl rfl (by omega) (by omega) (by unfold rg; omega) ?_
        have w7 : -1 ≤ (Xi S 917 ((v3).toNat)) ∧ (Xi S 917 ((v3).toNat)) ≤ 15 := hH.c _ _
        have b16 : (Xi S 917 ((v3).toNat)) < v3 := by have t := hB (v3).toNat (by omega); omega
        refine l_istore_n rfl rfl rfl ?_
        refine l_goto rfl rfl ?_
        exact Rl_weak (ih4 _ (by omega) ((v2 + 1)) ((Xi S 917 ((v3).toNat))) (by omega) (by omega) (by omega) (by omega) (by first | (rw [f4, dpR_s hB (by omega) (by omega)]; omega) | omega) rfl) (And.intro rfl (And.intro rfl (And.intro rfl (True.intro))))
  refine l_iconst rfl ?_
  refine l_istore_n rfl rfl rfl ?_
  refine l_iload_n rfl rfl ?_
  refine l_istore_n rfl rfl rfl ?_
  exact Rl_weak (C4 _ (0) (kind) (by omega) (by omega) (by omega) (by omega) (by first | (rw [f4, dpR_s hB (by omega) (by omega)]; omega) | omega) rfl) (And.intro rfl (And.intro rfl (And.intro rfl (True.intro))))
end
section
/-! between calls: what was told stays while acts change the world -/
def cBU : List (Nat × Nat) := [(2, 20), (21, 22), (196, 220), (221, 876), (883, 888), (902, 904)]
def cBv : List (Nat × Nat) := [(1, 3), (20, 1), (20, 12), (882, 3)]
def cBS : List (Nat × Nat) := [(906, 907), (912, 919), (921, 925), (927, 930), (936, 940), (941, 950), (969, 988)]
def cBw : List (Nat × Nat) := [(904, 15), (904, 16), (904, 18), (904, 19), (904, 23), (904, 30), (904, 32), (904, 41), (904, 47), (904, 49), (904, 51), (904, 55), (904, 117), (904, 125), (904, 130)]
theorem rlb_k {U U1 S S1 : sS} (a : RLB U S) (k : KEP cBU cBv U U1) (q : KEP cBS cBw S S1) (h8 : RBT U1 S1) (h10 : ROB U1 S1) (h12 : RAQ U1 S1) (h13 : RPR U1 S1) : RLB U1 S1 := by
  obtain ⟨⟨b1, b2, b3, b4, b5, b6, b7, b8, b9, b10, _, b12, b13, b14, _⟩, t3, cm, bk, df, ru⟩ := a
  have c : ∀ j, Xi U1 5 j = Xi U 5 j := k.x 5 rfl
  have d : ∀ j, Xi U 5 j ≤ Xi U1 5 j := fun j => by rw [c]; exact Int.le_refl _
  have c9 : ∀ j, Xi U1 9 j = Xi U 9 j := k.x 9 rfl
  have c19 : ∀ j, Xi U1 19 j = Xi U 19 j := k.x 19 rfl
  have kl : ∀ c j : Nat, 221 ≤ c → c < 876 → Xi U1 c j = Xi U c j := fun c j x y => k.x c (inK_i (a := 221) (b := 876) (by decide) x y) j
  have e2 : Xi U1 246 2 = Xi U 246 2 := kl 246 2 (by omega) (by omega)
  have e5 : Xi U1 246 5 = Xi U 246 5 := kl 246 5 (by omega) (by omega)
  have e8 : Xi U1 246 8 = Xi U 246 8 := kl 246 8 (by omega) (by omega)
  have s117 : Xi S1 904 117 = Xi S 904 117 := q.f 904 117 (by decide)
  have s125 : Xi S1 904 125 = Xi S 904 125 := q.f 904 125 (by decide)
  have s130 : Xi S1 904 130 = Xi S 904 130 := q.f 904 130 (by decide)
  have qs : ∀ c j : Nat, 969 ≤ c → c < 988 → Xi S1 c j = Xi S c j := fun c j x y => q.x c (inK_i (a := 969) (b := 988) (by decide) x y) j
  have tt : txr U1 = txr U := txr_k k (by decide)
  have tx : ∀ j, Xi U1 (txr U1) j = Xi U (txr U) j := fun j => by
    rw [tt]
    rcases t3 with e | e | e <;> rw [e]
    · exact kl 245 j (by omega) (by omega)
    · exact k.x 902 rfl j
    · exact k.x 903 rfl j
  refine ⟨⟨b1.k (k.le rfl (by decide)) (q.le rfl (by decide)), b2.k (k.le rfl (by decide)), b3.k (k.le rfl (by decide)) (q.le rfl (by decide)), b4.k (c 0) (k.le rfl (by decide)) (q.le rfl (by decide)), b5.k (c 0) (c 4) (c 5) (d 1) (k.le rfl (by decide)) (q.le rfl (by decide)), b6.k (c 3) (d 0) (k.le rfl (by decide)) (q.le rfl (by decide)), b7.k (c 6) (d 0) (k.le rfl (by decide)) (q.le rfl (by decide)), h8, b9.k (c 7) (c 8) (d 6) (d 0) (k.le rfl (by decide)) (q.le rfl (by decide)), h10, trivial, h12, h13, b14.k b3 (d 2) (k.le rfl (by decide)) (q.le rfl (by decide)), trivial⟩, ?_, ?_, ?_, ?_, ?_⟩
  · unfold TX3; rw [tt]; exact t3
  · exact cm.k (k.le rfl (by decide)) (q.le rfl (by decide)) (d 8) (d 0) (fun i _ => c19 i) (fun _ _ _ => isKn_s7 (k.x 6 rfl))
  · unfold BKC; rw [e2, e5, e8, s117, s125, s130, c 3]; exact bk
  · intro a ha h11
    rw [c 3] at ha
    rw [k.x 11 rfl] at h11
    exact df1_w (df a ha h11) (k.x 12 rfl a) (k.x 13 rfl a) (q.x 923 rfl a) (by rw [e5]; exact Int.le_refl _) (by rw [s117]; exact Int.le_refl _) (fun c j hc => kl (276 + c) j (by omega) (by have := bk.1; have := bk.2.2.2.1; have := b3.2.2.2.1; omega)) (fun i _ k x y => qs k i (by omega) (by omega)) (q.x 906 rfl) (fun j _ => d j) (fun p _ => c9 p) tx
  · intro r hr
    rw [e2] at hr
    have b24 := bk.2.2.2.1
    exact ruq_w (fun j => kl (248 + r) j (by omega) (by omega)) (fun c j hc => kl (276 + c) j (by omega) (by have := bk.1; have := b3.2.2.2.1; omega)) (by rw [e5]; exact Int.le_refl _) (fun c x y _ => qs c r (by omega) (by omega)) (fun i _ => qs 983 _ (by omega) (by omega)) (fun k j x y _ => qs k j (by omega) (by omega)) (fun k j x _ => by rcases x with e | e <;> rw [e] <;> exact qs _ j (by omega) (by omega)) (q.x 906 rfl) (by rw [s117]; exact Int.le_refl _) (by rw [s125]; exact Int.le_refl _) (fun j _ => d j) (fun p _ => c9 p) (fun a _ => c19 a) tx (ru r hr)
/-- nothing is changed but what no relation speaks of -/
def cCU : List (Nat × Nat) := [(2, 20), (21, 24), (25, 65), (66, 106), (107, 147), (148, 188), (189, 195), (196, 220), (221, 876), (883, 888), (902, 904)]
def cCS : List (Nat × Nat) := [(906, 907), (912, 950), (969, 988)]
theorem rlb_z {U U1 S S1 : sS} (a : RLB U S) (k : KEP cCU cBv U U1) (q : KEP cCS cBw S S1) : RLB U1 S1 := by
  have ct := a.1.2.2.1
  have c : ∀ j, Xi U1 5 j = Xi U 5 j := k.x 5 rfl
  have d : ∀ j, Xi U 5 j ≤ Xi U1 5 j := fun j => by rw [c]; exact Int.le_refl _
  exact rlb_k a (k.le rfl (by decide)) (q.le rfl (by decide)) (a.1.2.2.2.2.2.2.2.1.k (d 2) (k.le rfl (by decide)) (q.le rfl (by decide))) (a.1.2.2.2.2.2.2.2.2.2.1.k (c 2) (d 0) (k.le rfl (by decide)) (q.le rfl (by decide))) (a.1.2.2.2.2.2.2.2.2.2.2.2.1.k ct (c 2) (c 0) (k.le rfl (by decide)) (q.le rfl (by decide))) (a.1.2.2.2.2.2.2.2.2.2.2.2.2.1.k ct a.2.1 (c 2) (c 0) (d 5) (k.le rfl (by decide)) (q.le rfl (by decide)) (fun p _ => q.x 928 rfl p))
/-! placing -/
/-- an object of both worlds is put somewhere -/
theorem rob_p {U U1 S S1 : sS} {o h w : Int} (r : ROB U S) (ho : 0 ≤ o ∧ o < Xi U 5 2) (hh : 1 ≤ h ∧ h ≤ 5) (hw : 0 ≤ w ∧ w < Xi U 5 2) (ct : RCT U S) (e : U1 = plO U o h w) (f : S1 = uI (uI S 919 o.toNat (Int32.ofInt h)) 920 o.toNat (Int32.ofInt w)) : ROB U1 S1 := by
  have c2 := ct.2.2.1
  have u5 : Xi U1 5 2 = Xi U 5 2 := by rw [e]; unfold plO; rw [Xi_ne (by omega), Xi_ne (by omega)]
  have s19 : Xi S1 904 19 = Xi S 904 19 := by rw [f, Xi_ne (by omega), Xi_ne (by omega)]
  obtain ⟨⟨a, b⟩, d⟩ := r
  have u50 : Xi U1 5 0 = Xi U 5 0 := by rw [e]; unfold plO; rw [Xi_ne (by omega), Xi_ne (by omega)]
  refine ⟨⟨by rw [u5, s19]; exact a, fun j hj => ?_⟩, fun j hj => ?_⟩
  · rw [u5] at hj
    rw [u50]
    have := b j hj
    rw [show Xi U1 21 j = Xi U 21 j by rw [e]; unfold plO; rw [Xi_ne (by omega), Xi_ne (by omega)], show Xi S1 918 j = Xi S 918 j by rw [f, Xi_ne (by omega), Xi_ne (by omega)]]
    exact this
  · rw [u5] at hj ⊢
    by_cases q : j = o.toNat
    · have x1 : Xi U1 22 j = h := by rw [e, q]; unfold plO; rw [Xi_ne (by omega), Xi_same (by unfold rg; omega)]
      have x2 : Xi U1 23 j = w := by rw [e, q]; unfold plO; rw [Xi_same (by unfold rg; omega)]
      have y1 : Xi S1 919 j = h := by rw [f, q, Xi_ne (by omega), Xi_same (by unfold rg; omega)]
      have y2 : Xi S1 920 j = w := by rw [f, q, Xi_same (by unfold rg; omega)]
      rw [x1, x2, y1, y2]
      omega
    · have x1 : Xi U1 22 j = Xi U 22 j := by rw [e]; unfold plO; rw [Xi_ne (by omega), Xi_ne (by omega)]
      have x2 : Xi U1 23 j = Xi U 23 j := by rw [e]; unfold plO; rw [Xi_ne (by omega), Xi_ne (by omega)]
      have y1 : Xi S1 919 j = Xi S 919 j := by rw [f, Xi_ne (by omega), Xi_ne (by omega)]
      have y2 : Xi S1 920 j = Xi S 920 j := by rw [f, Xi_ne (by omega), Xi_ne (by omega)]
      rw [x1, x2, y1, y2]
      exact d j hj
/-- the player's place, class -/
def PCI (S T : sS) (v : Int) : Prop := (T = S ∧ (Xi S 22 0 = 0 → ∀ o : Nat, (o : Int) < v → isK S (Xi S 21 o) 1 = 0)) ∨ (Xi S 22 0 = 0 ∧ ∃ o : Nat, (o : Int) < v ∧ (o : Int) < Xi S 5 2 ∧ isK S (Xi S 21 o) 1 ≠ 0 ∧ (∀ j : Nat, j < o → isK S (Xi S 21 j) 1 = 0) ∧ T = plO S 0 1 o)
theorem pci_0 {S : sS} : PCI S S 0 := Or.inl ⟨rfl, fun _ o ho => by omega⟩
theorem pci_n {S T : sS} {v : Int} (h : PCI S T v) (h0 : 0 ≤ v) (w : Xi T 22 0 = 0) (b : isK T (Xi T 21 v.toNat) 1 = 0) : PCI S T (v + 1) := by
  rcases h with ⟨e, g⟩ | ⟨g, o, a1, a2, a3, a4, a5⟩
  · subst e
    exact Or.inl ⟨rfl, fun x o ho => by
      by_cases q : (o : Int) = v
      · rw [show o = v.toNat by omega]; exact b
      · exact g x o (by omega)⟩
  · exact Or.inr ⟨g, o, by omega, a2, a3, a4, a5⟩
theorem pci_y {S T T1 : sS} {v : Int} (h : PCI S T v) (h0 : 0 ≤ v) (hv : v < Xi S 5 2) (w : Xi T 22 0 = 0) (b : isK T (Xi T 21 v.toNat) 1 ≠ 0) (e : T1 = plO T 0 1 v) : PCI S T1 (v + 1) := by
  rcases h with ⟨x, g⟩ | ⟨g, o, a1, a2, a3, a4, a5⟩
  · subst x
    exact Or.inr ⟨w, v.toNat, by omega, by omega, b, fun j hj => g w j (by omega), by rw [e, show ((v.toNat : Nat) : Int) = v by omega]⟩
  · exfalso
    rw [a5] at w
    unfold plO at w
    rw [Xi_ne (by omega), show (0 : Int).toNat = 0 by rfl, Xi_same (by unfold rg; omega)] at w
    omega
theorem pci_e {S T : sS} {v : Int} (h : PCI S T v) (q : Xi S 5 2 ≤ v ∨ Xi T 22 0 ≠ 0) : PCI S T (Xi S 5 2) := by
  rcases h with ⟨e, g⟩ | ⟨g, o, a1, a2, a3, a4, a5⟩
  · refine Or.inl ⟨e, fun x o ho => g x o ?_⟩
    rcases q with q | q
    · omega
    · rw [e] at q; exact absurd x q
  · exact Or.inr ⟨g, o, a2, a2, a3, a4, a5⟩

def md_wo_place__q : List rec := [(22, 23, 0, 100000), (23, 24, 0, 100000)]
abbrev Q_wo_place__q (S : sS) (o : Int) (how : Int) (where_ : Int) : pst := fun r S1 => HI S1 ∧ FR md_wo_place__q S S1 ∧ (r = none ∧ (S1 = plO S o how where_))
set_option maxRecDepth 100000 in
theorem t_wo_place__q {S : sS} (hH : HI S) (o : Int) (how : Int) (where_ : Int) (ho : 0 ≤ o ∧ o ≤ 23) (hhow : 0 ≤ how ∧ how ≤ 5) (hwhere_ : -1 ≤ where_ ∧ where_ ≤ 23) (d : Nat) : Mt lay0 (d + 1) m_wo_place [.ref 20, iv o, iv how, iv where_] S (Q_wo_place__q S o how where_) := by
  refine Mt_R rfl rfl ?_
  have hF : FR md_wo_place__q S S := FR.rf
  refine l_aload_n rfl rfl ?_
  refine l_gfr rfl rfl rfl rfl rfl (hH.r 20 3 22 rfl) ?_
  refine l_iload_n rfl rfl ?_
  refine l_iload_n rfl rfl ?_
  refine l_iastore (n := 24) rfl rfl (by omega) (by omega) (by unfold rg; omega) ?_
  obtain ⟨U1, eU1⟩ : ∃ T : sS, T = uI S 22 ((o).toNat) (Int32.ofInt how) := ⟨_, rfl⟩
  rw [← eU1]
  have hHU1 : HI U1 := by rw [eU1]; exact HI_w hH (show 0 ≤ how by omega) (show how ≤ 5 by omega)
  have hFU1 : FR md_wo_place__q S U1 := by rw [eU1]; exact FR.wI hF (mdf_i (r := (22, 23, 0, 100000)) (List.mem_of_getElem? (i := 0) rfl) (inR_i (by omega) (by omega) (by omega) (by omega)))
  have w1 : Xi U1 22 ((o).toNat) = how := by rw [eU1]; exact Xi_same (by unfold rg; omega)
  refine l_aload_n rfl rfl ?_
  refine l_gfr rfl rfl rfl rfl rfl (hHU1.r 20 4 23 rfl) ?_
  refine l_iload_n rfl rfl ?_
  refine l_iload_n rfl rfl ?_
  refine l_iastore (n := 24) rfl rfl (by omega) (by omega) (by unfold rg; omega) ?_
  obtain ⟨U2, eU2⟩ : ∃ T : sS, T = uI U1 23 ((o).toNat) (Int32.ofInt where_) := ⟨_, rfl⟩
  rw [← eU2]
  have hHU2 : HI U2 := by rw [eU2]; exact HI_w hHU1 (show -1 ≤ where_ by omega) (show where_ ≤ 23 by omega)
  have hFU2 : FR md_wo_place__q S U2 := by rw [eU2]; exact FR.wI hFU1 (mdf_i (r := (23, 24, 0, 100000)) (List.mem_of_getElem? (i := 1) rfl) (inR_i (by omega) (by omega) (by omega) (by omega)))
  have w2 : Xi U2 23 ((o).toNat) = where_ := by rw [eU2]; exact Xi_same (by unfold rg; omega)
  refine l_return rfl rfl ?_
  exact ⟨hHU2, hFU2, rfl, (by rw [eU2, eU1]; rfl)⟩
def md_wo_placePlayer__q : List rec := [(22, 23, 0, 100000), (23, 24, 0, 100000)]
abbrev Q_wo_placePlayer__q (S : sS) : pst := fun r S1 => HI S1 ∧ FR md_wo_placePlayer__q S S1 ∧ (r = none ∧ (PCI S S1 (Xi S 5 2)))
set_option maxRecDepth 100000 in
theorem t_wo_placePlayer__q {S : sS} (hH : HI S) (d : Nat) : Mt lay0 (d + 3) m_wo_placePlayer [.ref 20] S (Q_wo_placePlayer__q S) := by
  refine Mt_R rfl rfl ?_
  have hF : FR md_wo_placePlayer__q S S := FR.rf
  have w1 : 0 ≤ Xi S 5 2 ∧ Xi S 5 2 ≤ 24 := hH.c _ _
  have C2 : ∀ (n2 : Nat) (T1 : sS) (_ : HI T1) (_ : FR md_wo_placePlayer__q S T1) (v1 : Int), (0 ≤ v1 ∧ v1 ≤ 64) → (PCI S T1 v1) → n2 = (65 - v1).toNat → Rl lay0 (d + 2) m_wo_placePlayer 2 [(0, .ref 20), (1, iv v1)] [] T1 (Q_wo_placePlayer__q S) := by
    intro n2
    induction n2 using Nat.strongRecOn with
    | ind n2 ih2 =>
      intro T1 hHT1 hFT1 v1 w2 e2 hm2
      have w3 : Xi T1 5 2 = Xi S 5 2 := hFT1.x _ _ rfl
      have C39 : ∀  (T2 : sS) (_ : HI T2) (_ : FR md_wo_placePlayer__q S T2) (v1 : Int), (0 ≤ v1 ∧ v1 ≤ 63) → (PCI S T2 (v1 + 1)) → ((65 - v1).toNat ≤ n2) → Rl lay0 (d + 2) m_wo_placePlayer 39 [(0, .ref 20), (1, iv v1)] [] T2 (Q_wo_placePlayer__q S) := by
        intro T2 hHT2 hFT2 v1 w4 e39 w5
        have w6 : Xi T2 5 2 = Xi S 5 2 := hFT2.x _ _ rfl
        refine l_iinc rfl rfl rfl rfl ?_
        refine l_goto rfl rfl ?_
        exact Rl_weak (ih2 _ (by omega) T2 hHT2 hFT2 ((v1 + 1)) (by omega) (by first | exact e39 | exact pci_0) rfl) (And.intro rfl (And.intro rfl (True.intro)))
      have C45 : ∀  (T3 : sS) (_ : HI T3) (_ : FR md_wo_placePlayer__q S T3), (PCI S T3 (Xi S 5 2)) → Rl lay0 (d + 2) m_wo_placePlayer 45 [] [] T3 (Q_wo_placePlayer__q S) := by
        intro T3 hHT3 hFT3 e45
        have w7 : Xi T3 5 2 = Xi S 5 2 := hFT3.x _ _ rfl
        refine l_return rfl rfl ?_
        exact ⟨hHT3, hFT3, rfl, (e45)⟩
      refine l_iload_n rfl rfl ?_
      refine l_aload_n rfl rfl ?_
      refine l_gfr rfl rfl rfl rfl rfl (hHT1.r 20 0 1 rfl) ?_
      refine l_iconst rfl ?_
      refine l_callV rfl rfl rfl (t_vo_countOf hHT1 2 ⟨by omega, by omega⟩ _) ?_
      rintro _ _ ⟨rfl, z11, rfl, w11, w8, w9, w10⟩
      have w12 : z11 = Xi T1 5 2 ∧ 0 ≤ Xi T1 5 2 ∧ Xi T1 5 2 ≤ 24 := ⟨(w8 (by omega) (by omega)).1, hHT1.c 5 2⟩
      clear w8 w9 w10
      show Rl _ _ _ _ _ [iv z11, iv v1] _ _
      refine l_icmp_ge rfl rfl (by unfold rg; omega) (by unfold rg; omega) (fun w13 => ?_) (fun w14 => ?_)
      · exact Rl_weak (C45 T1 hHT1 hFT1  (pci_e e2 (by omega))) (True.intro)
      · refine l_aload_n rfl rfl ?_
        refine l_gfr rfl rfl rfl rfl rfl (hHT1.r 20 3 22 rfl) ?_
        refine l_iconst rfl ?_
        refine l_iaload (n := 24) rfl rfl (by omega) (by omega) (by unfold rg; omega) ?_
        have w15 : 0 ≤ (Xi T1 22 ((0 : Int).toNat)) ∧ (Xi T1 22 ((0 : Int).toNat)) ≤ 5 := hHT1.c _ _
        have w16 : (Xi T1 22 ((0 : Int).toNat)) = Xi T1 22 0 := rfl
        have w19 : Xi T1 22 0 = (Xi T1 22 ((0 : Int).toNat)) := rfl
        refine l_if_ne rfl rfl (by unfold rg; omega) (fun w17 => ?_) (fun w18 => ?_)
        · exact Rl_weak (C45 T1 hHT1 hFT1  (pci_e e2 (by omega))) (True.intro)
        · refine l_aload_n rfl rfl ?_
          refine l_iload_n rfl rfl ?_
          refine l_iconst rfl ?_
          refine l_callV rfl rfl rfl (t_wo_isA hHT1 v1 1 ⟨by omega, by omega⟩ ⟨by omega, by omega⟩ _) ?_
          rintro _ _ ⟨rfl, z19, rfl, w19, q26⟩
          show Rl _ _ _ _ _ [iv z19] _ _
          have i26 : z19 = isK T1 (Xi T1 21 v1.toNat) 1 := q26
          refine l_if_eq rfl rfl (by unfold rg; omega) (fun w20 => ?_) (fun w21 => ?_)
          · exact Rl_weak (C39 T1 hHT1 hFT1 (v1) (by omega) (by first | exact P36 | exact pci_n e2 (by omega) (by omega) (by rw [← i26]; omega)) (by omega)) (And.intro rfl (And.intro rfl (True.intro)))
          · refine l_aload_n rfl rfl ?_
            refine l_iconst rfl ?_
            refine l_iconst rfl ?_
            refine l_iload_n rfl rfl ?_
            refine l_callV rfl rfl rfl (t_wo_place__q hHT1 0 1 v1 ⟨by omega, by omega⟩ ⟨by omega, by omega⟩ ⟨by omega, by omega⟩ _) ?_
            rintro _ T4 ⟨hHT4, w23, rfl, e36⟩
            have hFT4 : FR md_wo_placePlayer__q S T4 := FR.tr hFT1 w23 rfl
            show Rl _ _ _ _ _ [] _ _
            have P36 : PCI S T4 (v1 + 1) := pci_y e2 (by omega) (by omega) (by omega) (by rw [← i26]; omega) e36
            exact Rl_weak (C39 T4 hHT4 hFT4 (v1) (by omega) (by first | exact P36 | exact pci_n e2 (by omega) (by omega) (by rw [← i26]; omega)) (by omega)) (And.intro rfl (And.intro rfl (True.intro)))
  refine l_iconst rfl ?_
  refine l_istore_n rfl rfl rfl ?_
  exact Rl_weak (C2 _ S hH hF (0) (by omega) (by first | exact e39 | exact pci_0) rfl) (And.intro rfl (And.intro rfl (True.intro)))
/-! QUESTIONS: whether an adjective holds, a test is met. Class -/
def whU (self w : Int) : Int := if w = -2 then self else w
theorem whU_i {self w z : Int} (h : (w = -2 → z = self) ∧ (w ≠ -2 → z = w)) : whU self w = z := by
  unfold whU
  by_cases q : w = -2
  · rw [if_pos q, h.1 q]
  · rw [if_neg q, h.2 q]
/-- what a clause's test says before 'not' -/
def tvC (ah : Int → Int → Int) (S : sS) (cl : Nat) (self : Int) : Int :=
  if Xi S (276 + cl) 0 = 0 then ah (whU self (Xi S (276 + cl) 2)) (Xi S (276 + cl) 3)
  else if Xi S (276 + cl) 0 = 1 then (if vof S (whU self (Xi S (276 + cl) 2)) (Xi S (276 + cl) 3).toNat = Xi S (276 + cl) 4 then 1 else 0)
  else if Xi S (276 + cl) 0 = 2 then (if vof S (whU self (Xi S (276 + cl) 2)) (Xi S (276 + cl) 3).toNat < Xi S (276 + cl) 4 then 1 else 0)
  else if Xi S (276 + cl) 0 = 3 then (if Xi S (276 + cl) 4 < vof S (whU self (Xi S (276 + cl) 2)) (Xi S (276 + cl) 3).toNat then 1 else 0)
  else if Xi S (276 + cl) 0 = 4 then smT S (vof S (whU self (Xi S (276 + cl) 2)) (Xi S (276 + cl) 3).toNat) (lof S (whU self (Xi S (276 + cl) 2)) (Xi S (276 + cl) 3).toNat) (Xi S (276 + cl) 4) (Xi S (276 + cl) 5)
  else if Xi S (276 + cl) 0 = 5 then (if Xi S 22 (whU self (Xi S (276 + cl) 2)).toNat = Xi S (276 + cl) 4 ∧ Xi S 23 (whU self (Xi S (276 + cl) 2)).toNat = whU self (Xi S (276 + cl) 6) then 1 else 0)
  else relF S (Xi S (276 + cl) 3) (whU self (Xi S (276 + cl) 2)) (whU self (Xi S (276 + cl) 6))
def hoC (ah : Int → Int → Int) (S : sS) (cl : Nat) (self : Int) : Int := if tvC ah S cl self = Xi S (276 + cl) 1 then 0 else 1
theorem hoC_i {ah : Int → Int → Int} {S : sS} {cl : Nat} {self v z : Int} (h : v = tvC ah S cl self) (a : (v = Xi S (276 + cl) 1 → z = 0) ∧ (v ≠ Xi S (276 + cl) 1 → z = 1)) : z = hoC ah S cl self := by
  unfold hoC
  rw [← h]
  by_cases q : v = Xi S (276 + cl) 1
  · rw [if_pos q, a.1 q]
  · rw [if_neg q, a.2 q]
theorem tv_0 {ah : Int → Int → Int} {S : sS} {cl : Nat} {self w v : Int} (f : Xi S (276 + cl) 0 = 0) (hw : whU self (Xi S (276 + cl) 2) = w) (h : v = ah w (Xi S (276 + cl) 3)) : v = tvC ah S cl self := by
  unfold tvC; rw [if_pos f, hw, h]
theorem tv_1 {ah : Int → Int → Int} {S : sS} {cl : Nat} {self w v x : Int} (f : Xi S (276 + cl) 0 = 1) (hw : whU self (Xi S (276 + cl) 2) = w) (hx : x = vof S w (Xi S (276 + cl) 3).toNat) (h : (x = Xi S (276 + cl) 4 → v = 1) ∧ (x ≠ Xi S (276 + cl) 4 → v = 0)) : v = tvC ah S cl self := by
  unfold tvC; rw [if_neg (by omega), if_pos f, hw, ← hx]
  by_cases q : x = Xi S (276 + cl) 4
  · rw [if_pos q, h.1 q]
  · rw [if_neg q, h.2 q]
theorem tv_2 {ah : Int → Int → Int} {S : sS} {cl : Nat} {self w v x : Int} (f : Xi S (276 + cl) 0 = 2) (hw : whU self (Xi S (276 + cl) 2) = w) (hx : x = vof S w (Xi S (276 + cl) 3).toNat) (h : (x < Xi S (276 + cl) 4 → v = 1) ∧ (¬ x < Xi S (276 + cl) 4 → v = 0)) : v = tvC ah S cl self := by
  unfold tvC; rw [if_neg (by omega), if_neg (by omega), if_pos f, hw, ← hx]
  by_cases q : x < Xi S (276 + cl) 4
  · rw [if_pos q, h.1 q]
  · rw [if_neg q, h.2 q]
theorem tv_3 {ah : Int → Int → Int} {S : sS} {cl : Nat} {self w v x : Int} (f : Xi S (276 + cl) 0 = 3) (hw : whU self (Xi S (276 + cl) 2) = w) (hx : x = vof S w (Xi S (276 + cl) 3).toNat) (h : (Xi S (276 + cl) 4 < x → v = 1) ∧ (¬ Xi S (276 + cl) 4 < x → v = 0)) : v = tvC ah S cl self := by
  unfold tvC; rw [if_neg (by omega), if_neg (by omega), if_neg (by omega), if_pos f, hw, ← hx]
  by_cases q : Xi S (276 + cl) 4 < x
  · rw [if_pos q, h.1 q]
  · rw [if_neg q, h.2 q]
theorem tv_4 {ah : Int → Int → Int} {S : sS} {cl : Nat} {self w v x l : Int} (f : Xi S (276 + cl) 0 = 4) (hw : whU self (Xi S (276 + cl) 2) = w) (hx : x = vof S w (Xi S (276 + cl) 3).toNat) (hl : l = lof S w (Xi S (276 + cl) 3).toNat) (h : v = smT S x l (Xi S (276 + cl) 4) (Xi S (276 + cl) 5)) : v = tvC ah S cl self := by
  unfold tvC; rw [if_neg (by omega), if_neg (by omega), if_neg (by omega), if_neg (by omega), if_pos f, hw, ← hx, ← hl, h]
theorem tv_5 {ah : Int → Int → Int} {S : sS} {cl : Nat} {self w m v : Int} (f : Xi S (276 + cl) 0 = 5) (hw : whU self (Xi S (276 + cl) 2) = w) (hm : whU self (Xi S (276 + cl) 6) = m) (h : (Xi S 22 w.toNat = Xi S (276 + cl) 4 ∧ Xi S 23 w.toNat = m → v = 1) ∧ (¬ (Xi S 22 w.toNat = Xi S (276 + cl) 4 ∧ Xi S 23 w.toNat = m) → v = 0)) : v = tvC ah S cl self := by
  unfold tvC; rw [if_neg (by omega), if_neg (by omega), if_neg (by omega), if_neg (by omega), if_neg (by omega), if_pos f, hw, hm]
  by_cases q : Xi S 22 w.toNat = Xi S (276 + cl) 4 ∧ Xi S 23 w.toNat = m
  · rw [if_pos q, h.1 q]
  · rw [if_neg q, h.2 q]
theorem tv_6 {ah : Int → Int → Int} {S : sS} {cl : Nat} {self w m v : Int} (f : Xi S (276 + cl) 0 < 0 ∨ 5 < Xi S (276 + cl) 0) (hw : whU self (Xi S (276 + cl) 2) = w) (hm : whU self (Xi S (276 + cl) 6) = m) (h : v = relF S (Xi S (276 + cl) 3) w m) : v = tvC ah S cl self := by
  unfold tvC; rw [if_neg (by omega), if_neg (by omega), if_neg (by omega), if_neg (by omega), if_neg (by omega), if_neg (by omega), hw, hm, h]
/-- all of some tests are met -/
def alT (f : Nat → Int) : Nat → Nat → Int
  | 0, _ => 1
  | n + 1, i => if f i = 0 then 0 else alT f n (i + 1)
theorem alT_0 {f : Nat → Int} {a v : Int} (hv : 0 ≤ v ∧ v < a) (h : f v.toNat = 0) : alT f (a - v).toNat v.toNat = 0 := by
  rw [show (a - v).toNat = (a - (v + 1)).toNat + 1 by omega]; unfold alT; rw [if_pos h]
theorem alT_s {f : Nat → Int} {a v : Int} (hv : 0 ≤ v ∧ v < a) (h : f v.toNat ≠ 0) : alT f (a - v).toNat v.toNat = alT f (a - (v + 1)).toNat (v + 1).toNat := by
  rw [show (a - v).toNat = (a - (v + 1)).toNat + 1 by omega, show (v + 1).toNat = v.toNat + 1 by omega]; show (if _ then _ else _) = _; rw [if_neg h]
theorem alT_e {f : Nat → Int} {a v : Int} (h : a ≤ v) : alT f (a - v).toNat v.toNat = 1 := by
  rw [show (a - v).toNat = 0 by omega]; rfl
/-- whether an adjective holds, at a depth of f steps more -/
def ahC (S : sS) : Nat → Int → Int → Int
  | 0, o, a => if Xi S 11 a.toNat = -1 then 0 else hasA S o a
  | f + 1, o, a => if Xi S 11 a.toNat = -1 then (if isK S (Xi S 21 o.toNat) (Xi S 10 a.toNat) = 0 then 0 else alT (fun i => hoC (ahC S f) S ((Xi S 12 a.toNat).toNat + i) o) (Xi S 13 a.toNat - 0).toNat 0) else hasA S o a
theorem ahC_1 {S : sS} {f : Nat} {o a : Int} (h : Xi S 11 a.toNat ≠ -1) : ahC S f o a = hasA S o a := by
  cases f with
  | zero => unfold ahC; rw [if_neg h]
  | succ f => unfold ahC; rw [if_neg h]
theorem ahC_0 {S : sS} {o a : Int} (h : Xi S 11 a.toNat = -1) : ahC S 0 o a = 0 := by unfold ahC; rw [if_pos h]
theorem ahC_2 {S : sS} {f : Nat} {o a : Int} (h : Xi S 11 a.toNat = -1) (g : isK S (Xi S 21 o.toNat) (Xi S 10 a.toNat) = 0) : ahC S f o a = 0 := by
  cases f with
  | zero => exact ahC_0 h
  | succ f => unfold ahC; rw [if_pos h, if_pos g]
theorem ahC_3 {S : sS} {f : Nat} {o a : Int} (h : Xi S 11 a.toNat = -1) (g : isK S (Xi S 21 o.toNat) (Xi S 10 a.toNat) ≠ 0) : ahC S (f + 1) o a = alT (fun i => hoC (ahC S f) S ((Xi S 12 a.toNat).toNat + i) o) (Xi S 13 a.toNat - 0).toNat 0 := by
  show (if _ then (if _ then _ else _) else _) = _; rw [if_pos h, if_neg g]
end
section
/-! QUESTIONS: whether an adjective holds, a test is met. Reference -/
def XE (S T : sS) : Prop := ∀ c j : Nat, (c ≠ 904 ∨ j ≠ 154) → Xi T c j = Xi S c j
theorem XE.rf {S : sS} : XE S S := fun _ _ _ => rfl
theorem XE.tr {S T U : sS} (h : XE S T) (g : XE T U) : XE S U := fun c j q => (g c j q).trans (h c j q)
theorem XE.f {l : List rec} {S T : sS} (F : FR l S T) (e : l = [(904, 905, 154, 155)]) : XE S T := fun c j q => by
  rw [e] at F
  have : mdf [(904, 905, 154, 155)] c j = false := by
    cases h : mdf [(904, 905, 154, 155)] c j with
    | false => rfl
    | true =>
      exfalso
      unfold mdf at h
      simp only [List.any_cons, List.any_nil, Bool.or_false, inR, Bool.and_eq_true, Nat.blt, Nat.ble_eq] at h
      omega
  exact F.x c j this
theorem chN_x {S T : sS} {c : Nat} {m q : Int} (h : XE S T) (hc : c ≠ 904) : ∀ (f : Nat) (k : Int), chN T c m q f k = chN S c m q f k
  | 0, _ => rfl
  | f + 1, k => by unfold chN; rw [h c _ (Or.inl hc), h 917 _ (by omega), chN_x h hc f]
theorem fvR_x {S T : sS} {t : Int} (h : XE S T) : fvR T t = fvR S t := by
  have : ∀ (n : Nat) (i : Int), fvRn T t n i = fvRn S t n i := by
    intro n
    induction n with
    | zero => intro i; rfl
    | succ n ih => intro i; unfold fvRn; rw [h 927 _ (by omega), ih]
  unfold fvR; rw [h 904 30 (by omega), this]
theorem nuR_x {S T : sS} {o p : Int} (h : XE S T) : nuR T o p = nuR S o p := by
  unfold nuR chR; rw [h 930 _ (by omega), h 931 _ (by omega), h 928 _ (by omega), h 918 _ (by omega), chN_x h (by omega), h 934 _ (by omega), fvR_x h]
theorem nlR_x {S T : sS} {o p : Int} (h : XE S T) : nlR T o p = nlR S o p := by
  unfold nlR chR; rw [h 930 _ (by omega), h 932 _ (by omega), h 918 _ (by omega), chN_x h (by omega), h 935 _ (by omega)]
theorem blR_x {S T : sS} {k o : Int} (h : XE S T) : blR T k o = blR S k o := by
  have : ∀ (n : Nat) (i : Int), blN T o n i = blN S o n i := by
    intro n
    induction n with
    | zero => intro i; rfl
    | succ n ih => intro i; unfold blN; rw [h 917 _ (by omega), ih]
  exact this 17 k
theorem sameR_x {S T : sS} {a n b m : Int} (h : XE S T) : sameR T a n b m = sameR S a n b m := by
  have : ∀ (k : Nat) (i : Int), smR T 906 a b k i = smR S 906 a b k i := by
    intro k
    induction k with
    | zero => intro i; rfl
    | succ k ih => intro i; unfold smR; rw [h 906 _ (by omega), h 906 _ (by omega), ih]
  unfold sameR; rw [this]
def thR (it noun t : Int) : Int := if t = -1 then it else if t = -2 then noun else t
theorem thR_i {it noun t z : Int} (h : (t = -1 → z = it) ∧ (t = -2 → z = noun) ∧ (t ≠ -1 → t ≠ -2 → z = t)) : thR it noun t = z := by
  unfold thR
  by_cases q : t = -1
  · rw [if_pos q, h.1 q]
  · rw [if_neg q]
    by_cases r : t = -2
    · rw [if_pos r, h.2.1 r]
    · rw [if_neg r, h.2.2 q r]
/-- what a test says before 'not' -/
def tvR (ho : Int → Int → Int) (S : sS) (q : Nat) (it noun : Int) : Int :=
  if Xi S 969 q = 3 then ho (thR it noun (Xi S 971 q)) (Xi S 973 q)
  else if Xi S 969 q = 4 then (if Xi S 919 (thR it noun (Xi S 971 q)).toNat = Xi S 973 q ∧ Xi S 920 (thR it noun (Xi S 971 q)).toNat = thR it noun (Xi S 975 q) then 1 else 0)
  else if Xi S 969 q = 1 then (if nuR S (thR it noun (Xi S 971 q)) (Xi S 972 q) < Xi S 973 q then 1 else 0)
  else if Xi S 969 q = 2 then (if Xi S 973 q < nuR S (thR it noun (Xi S 971 q)) (Xi S 972 q) then 1 else 0)
  else if Xi S 928 (Xi S 972 q).toNat = 1 then sameR S (nuR S (thR it noun (Xi S 971 q)) (Xi S 972 q)) (nlR S (thR it noun (Xi S 971 q)) (Xi S 972 q)) (Xi S 973 q) (Xi S 974 q)
  else (if nuR S (thR it noun (Xi S 971 q)) (Xi S 972 q) = Xi S 973 q then 1 else 0)
def teR (ho : Int → Int → Int) (S : sS) (q : Nat) (it noun : Int) : Int :=
  if Xi S 969 q = 5 then Xi S 940 (576 * Xi S 972 q + 24 * thR it noun (Xi S 971 q) + thR it noun (Xi S 975 q)).toNat
  else if tvR ho S q it noun = Xi S 970 q then 0 else 1
theorem teR_5 {ho : Int → Int → Int} {S : sS} {q : Nat} {it noun a b z : Int} (f : Xi S 969 q = 5) (ha : thR it noun (Xi S 971 q) = a) (hb : thR it noun (Xi S 975 q) = b) (h : z = Xi S 940 (576 * Xi S 972 q + 24 * a + b).toNat) : z = teR ho S q it noun := by
  unfold teR; rw [if_pos f, ha, hb, h]
theorem teR_i {ho : Int → Int → Int} {S : sS} {q : Nat} {it noun v z : Int} (f : Xi S 969 q ≠ 5) (h : v = tvR ho S q it noun) (a : (v = Xi S 970 q → z = 0) ∧ (v ≠ Xi S 970 q → z = 1)) : z = teR ho S q it noun := by
  unfold teR
  rw [if_neg f, ← h]
  by_cases x : v = Xi S 970 q
  · rw [if_pos x, a.1 x]
  · rw [if_neg x, a.2 x]
theorem trv_3 {ho : Int → Int → Int} {S : sS} {q : Nat} {it noun a v : Int} (f : Xi S 969 q = 3) (ha : thR it noun (Xi S 971 q) = a) (h : v = ho a (Xi S 973 q)) : v = tvR ho S q it noun := by
  unfold tvR; rw [if_pos f, ha, h]
theorem trv_4 {ho : Int → Int → Int} {S : sS} {q : Nat} {it noun a b v : Int} (f : Xi S 969 q = 4) (ha : thR it noun (Xi S 971 q) = a) (h : (Xi S 919 a.toNat = Xi S 973 q → thR it noun (Xi S 975 q) = b) ∧ (Xi S 919 a.toNat = Xi S 973 q ∧ Xi S 920 a.toNat = b → v = 1) ∧ (¬ (Xi S 919 a.toNat = Xi S 973 q ∧ Xi S 920 a.toNat = b) → v = 0)) : v = tvR ho S q it noun := by
  unfold tvR; rw [if_neg (by omega), if_pos f, ha]
  by_cases x : Xi S 919 a.toNat = Xi S 973 q
  · rw [h.1 x]
    by_cases y : Xi S 920 a.toNat = b
    · rw [if_pos ⟨x, y⟩, h.2.1 ⟨x, y⟩]
    · rw [if_neg (fun z => y z.2), h.2.2 (fun z => y z.2)]
  · rw [if_neg (fun z => x z.1), h.2.2 (fun z => x z.1)]
theorem trv_1 {ho : Int → Int → Int} {S : sS} {q : Nat} {it noun a v x : Int} (f : Xi S 969 q = 1) (ha : thR it noun (Xi S 971 q) = a) (hx : x = nuR S a (Xi S 972 q)) (h : (x < Xi S 973 q → v = 1) ∧ (¬ x < Xi S 973 q → v = 0)) : v = tvR ho S q it noun := by
  unfold tvR; rw [if_neg (by omega), if_neg (by omega), if_pos f, ha, ← hx]
  by_cases y : x < Xi S 973 q
  · rw [if_pos y, h.1 y]
  · rw [if_neg y, h.2 y]
theorem trv_2 {ho : Int → Int → Int} {S : sS} {q : Nat} {it noun a v x : Int} (f : Xi S 969 q = 2) (ha : thR it noun (Xi S 971 q) = a) (hx : x = nuR S a (Xi S 972 q)) (h : (Xi S 973 q < x → v = 1) ∧ (¬ Xi S 973 q < x → v = 0)) : v = tvR ho S q it noun := by
  unfold tvR; rw [if_neg (by omega), if_neg (by omega), if_neg (by omega), if_pos f, ha, ← hx]
  by_cases y : Xi S 973 q < x
  · rw [if_pos y, h.1 y]
  · rw [if_neg y, h.2 y]
theorem trv_t {ho : Int → Int → Int} {S : sS} {q : Nat} {it noun a v x l : Int} (f : Xi S 969 q < 1 ∨ 4 < Xi S 969 q) (g : Xi S 928 (Xi S 972 q).toNat = 1) (ha : thR it noun (Xi S 971 q) = a) (hx : x = nuR S a (Xi S 972 q)) (hl : l = nlR S a (Xi S 972 q)) (h : v = sameR S x l (Xi S 973 q) (Xi S 974 q)) : v = tvR ho S q it noun := by
  unfold tvR; rw [if_neg (by omega), if_neg (by omega), if_neg (by omega), if_neg (by omega), if_pos g, ha, ← hx, ← hl, h]
theorem trv_0 {ho : Int → Int → Int} {S : sS} {q : Nat} {it noun a v x : Int} (f : Xi S 969 q < 1 ∨ 4 < Xi S 969 q) (g : Xi S 928 (Xi S 972 q).toNat ≠ 1) (ha : thR it noun (Xi S 971 q) = a) (hx : x = nuR S a (Xi S 972 q)) (h : (x = Xi S 973 q → v = 1) ∧ (x ≠ Xi S 973 q → v = 0)) : v = tvR ho S q it noun := by
  unfold tvR; rw [if_neg (by omega), if_neg (by omega), if_neg (by omega), if_neg (by omega), if_neg g, ha, ← hx]
  by_cases y : x = Xi S 973 q
  · rw [if_pos y, h.1 y]
  · rw [if_neg y, h.2 y]
/-- what was told of an adjective -/
def tdR (S : sS) (o a : Int) : Int :=
  if Xi S 925 (24 * o + a).toNat ≠ 0 then (if Xi S 925 (24 * o + a).toNat = 1 then 1 else 0)
  else if chR S 926 24 a (Xi S 918 o.toNat) = -1 then (if Xi S 922 a.toNat ≠ -1 ∧ Xi S 922 a.toNat < a then 1 else 0)
  else (if Xi S 926 (24 * chR S 926 24 a (Xi S 918 o.toNat) + a).toNat = 1 then 1 else 0)
def hoR (S : sS) : Nat → Int → Int → Int
  | 0, o, a => if 100 ≤ a then (if nuR S o (a % 100) = a / 100 - 1 then 1 else 0) else if 0 < Xi S 924 a.toNat then 0 else tdR S o a
  | f + 1, o, a => if 100 ≤ a then (if nuR S o (a % 100) = a / 100 - 1 then 1 else 0) else if 0 < Xi S 924 a.toNat then (if blR S (Xi S 918 o.toNat) (Xi S 921 a.toNat) = 0 then 0 else alT (fun i => teR (hoR S f) S ((Xi S 923 a.toNat).toNat + i) o (-1)) (Xi S 924 a.toNat - 0).toNat 0) else tdR S o a
theorem hoR_1 {S : sS} {f : Nat} {o a v x : Int} (h : 100 ≤ a) (hx : x = nuR S o (a % 100)) (g : (x = a / 100 - 1 → v = 1) ∧ (x ≠ a / 100 - 1 → v = 0)) : v = hoR S f o a := by
  cases f <;> (unfold hoR; rw [if_pos h, ← hx]; by_cases y : x = a / 100 - 1; (rw [if_pos y, g.1 y]); (rw [if_neg y, g.2 y]))
theorem hoR_2 {S : sS} {f : Nat} {o a : Int} (h : a < 100) (g : Xi S 924 a.toNat ≤ 0) : hoR S f o a = tdR S o a := by
  cases f <;> (unfold hoR; rw [if_neg (by omega), if_neg (by omega)])
theorem hoR_0 {S : sS} {o a : Int} (h : a < 100) (g : 0 < Xi S 924 a.toNat) : hoR S 0 o a = 0 := by
  unfold hoR; rw [if_neg (by omega), if_pos g]
theorem hoR_3 {S : sS} {f : Nat} {o a : Int} (h : a < 100) (g : 0 < Xi S 924 a.toNat) (b : blR S (Xi S 918 o.toNat) (Xi S 921 a.toNat) = 0) : hoR S f o a = 0 := by
  cases f with
  | zero => exact hoR_0 h g
  | succ f => unfold hoR; rw [if_neg (by omega), if_pos g, if_pos b]
theorem hoR_4 {S : sS} {f : Nat} {o a : Int} (h : a < 100) (g : 0 < Xi S 924 a.toNat) (b : blR S (Xi S 918 o.toNat) (Xi S 921 a.toNat) ≠ 0) : hoR S (f + 1) o a = alT (fun i => teR (hoR S f) S ((Xi S 923 a.toNat).toNat + i) o (-1)) (Xi S 924 a.toNat - 0).toNat 0 := by
  show (if _ then _ else if _ then (if _ then _ else _) else _) = _
  rw [if_neg (by omega), if_pos g, if_neg b]
theorem td_1 {S : sS} {o a : Int} (h : Xi S 925 (24 * o + a).toNat ≠ 0) (v : Int) (g : (Xi S 925 (24 * o + a).toNat = 1 → v = 1) ∧ (Xi S 925 (24 * o + a).toNat ≠ 1 → v = 0)) : v = tdR S o a := by
  unfold tdR; rw [if_pos h]
  by_cases y : Xi S 925 (24 * o + a).toNat = 1
  · rw [if_pos y, g.1 y]
  · rw [if_neg y, g.2 y]
theorem td_2 {S : sS} {o a k : Int} (h : Xi S 925 (24 * o + a).toNat = 0) (c : chR S 926 24 a (Xi S 918 o.toNat) = k) (n : k ≠ -1) (v : Int) (g : (Xi S 926 (24 * k + a).toNat = 1 → v = 1) ∧ (Xi S 926 (24 * k + a).toNat ≠ 1 → v = 0)) : v = tdR S o a := by
  unfold tdR; rw [if_neg (fun x => x h), c, if_neg n]
  by_cases y : Xi S 926 (24 * k + a).toNat = 1
  · rw [if_pos y, g.1 y]
  · rw [if_neg y, g.2 y]
theorem td_3 {S : sS} {o a : Int} (h : Xi S 925 (24 * o + a).toNat = 0) (c : chR S 926 24 a (Xi S 918 o.toNat) = -1) (v : Int) (g : (Xi S 922 a.toNat ≠ -1 ∧ Xi S 922 a.toNat < a → v = 1) ∧ (¬ (Xi S 922 a.toNat ≠ -1 ∧ Xi S 922 a.toNat < a) → v = 0)) : v = tdR S o a := by
  unfold tdR; rw [if_neg (fun x => x h), if_pos c]
  by_cases y : Xi S 922 a.toNat ≠ -1 ∧ Xi S 922 a.toNat < a
  · rw [if_pos y, g.1 y]
  · rw [if_neg y, g.2 y]
theorem tdR_x {S T : sS} {o a : Int} (h : XE S T) : tdR T o a = tdR S o a := by
  unfold tdR chR; rw [h 925 _ (by omega), h 918 _ (by omega), chN_x h (by omega), h 926 _ (by omega), h 922 _ (by omega)]
theorem teR_x {S T : sS} {ho ho2 : Int → Int → Int} {q : Nat} {it noun : Int} (h : XE S T) (e : ∀ o a, ho2 o a = ho o a) : teR ho2 T q it noun = teR ho S q it noun := by
  unfold teR tvR
  rw [h 969 _ (by omega), h 940 _ (by omega), h 972 _ (by omega), h 971 _ (by omega), h 975 _ (by omega), h 970 _ (by omega), h 973 _ (by omega), h 974 _ (by omega), h 919 _ (by omega), h 920 _ (by omega), h 928 _ (by omega), nuR_x h, nlR_x h, sameR_x h, e]
theorem alT_x {f g : Nat → Int} (h : ∀ i, f i = g i) : ∀ (n i : Nat), alT f n i = alT g n i
  | 0, _ => rfl
  | n + 1, i => by unfold alT; rw [h i, alT_x h n]
theorem hoR_x {S T : sS} (h : XE S T) : ∀ (f : Nat) (o a : Int), hoR T f o a = hoR S f o a
  | 0, o, a => by unfold hoR; rw [nuR_x h, h 924 _ (by omega), tdR_x h]
  | f + 1, o, a => by
    unfold hoR
    rw [nuR_x h, h 924 _ (by omega), tdR_x h, h 918 _ (by omega), h 921 _ (by omega), h 923 _ (by omega), blR_x h, alT_x (f := fun i => teR (hoR T f) T ((Xi S 923 a.toNat).toNat + i) o (-1)) (g := fun i => teR (hoR S f) S ((Xi S 923 a.toNat).toNat + i) o (-1)) (fun i => teR_x h (hoR_x h f))]
theorem ho_end {F : Nat → Int} {v X c k : Int} (f : (v = 0 → X = 0) ∧ (v ≠ 0 → X = alT F (c - k).toNat k.toNat)) (hv : 0 ≤ v ∧ v ≤ 1) (h : c ≤ k ∨ v = 0) : v = X := by
  by_cases y : v = 0
  · rw [f.1 y, y]
  · rw [f.2 y, alT_e (by omega)]; omega
end
