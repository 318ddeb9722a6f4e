/-! SAFETY of methods: printed by wip/safe (vc.py, decl.py) -/
def md_mo_tellObject : List rec := [(930, 931, 0, 100000), (931, 932, 0, 100000), (932, 933, 0, 100000)]
abbrev Q_mo_tellObject (S : sS) (o : Int) (p : Int) (v : Int) (nn : Int) : pst := fun r S1 => HI S1 ∧ FR md_mo_tellObject S S1 ∧ (∃ z : Int, r = some (iv z) ∧ (0 ≤ z ∧ z ≤ 1) ∧ (TXM S1))
set_option maxRecDepth 100000 in
theorem t_mo_tellObject {S : sS} (hH : HI S) (o : Int) (p : Int) (v : Int) (nn : Int) (ho : 0 ≤ o ∧ o ≤ 23) (hp : 0 ≤ p ∧ p ≤ 11) (hv : -2147483648 ≤ v ∧ v ≤ 2147483647) (hnn : -2147483648 ≤ nn ∧ nn ≤ 2147483647) (hX : TXM S) (hoo : o < Xi S 904 19) (hpp : p < Xi S 904 32) (hk : Xi S 928 p.toNat = 1 → OKT v nn) (d : Nat) : Mt lay0 (d + 3) m_mo_tellObject [.ref 904, iv o, iv p, iv v, iv nn] S (Q_mo_tellObject S o p v nn) := by
  refine Mt_R rfl rfl ?_
  have hF : FR md_mo_tellObject S S := FR.rf
  have w1 : 0 ≤ Xi S 904 19 ∧ Xi S 904 19 ≤ 24 := hH.c _ _
  have w2 : 0 ≤ Xi S 904 32 ∧ Xi S 904 32 ≤ 12 := hH.c _ _
  refine l_bipush rfl rfl ?_
  refine l_iload_n rfl rfl ?_
  refine l_imul rfl ?_
  refine l_iload_n rfl rfl ?_
  refine l_iadd rfl ?_
  refine l_istore rfl rfl rfl ?_
  refine l_aload_n rfl rfl ?_
  refine l_gfr rfl rfl rfl rfl rfl (hH.r 904 35 930 rfl) ?_
  refine l_iload rfl rfl ?_
  refine l_baload (n := 288) rfl rfl rfl (by decide) (by omega) (by omega) (by unfold rg; omega) ?_
  have w3 : 0 ≤ (Xi S 930 ((((12 * o) + p)).toNat)) ∧ (Xi S 930 ((((12 * o) + p)).toNat)) ≤ 1 := hH.c _ _
  refine l_if_eq rfl rfl (by unfold rg; omega) (fun w4 => ?_) (fun w5 => ?_)
  · refine l_aload_n rfl rfl ?_
    refine l_gfr rfl rfl rfl rfl rfl (hH.r 904 35 930 rfl) ?_
    refine l_iload rfl rfl ?_
    refine l_iconst rfl ?_
    refine l_bastoreZ1 (n := 288) rfl rfl (by omega) (by omega) (by unfold rg; omega) ⟨by omega, by omega⟩ ?_
    obtain ⟨U1, eU1⟩ : ∃ T : sS, T = uI S 930 ((((12 * o) + p)).toNat) (Int32.ofInt 1) := ⟨_, rfl⟩
    rw [← eU1]
    have hHU1 : HI U1 := by rw [eU1]; exact HI_w hH (show 0 ≤ 1 by omega) (show 1 ≤ 1 by omega)
    have hFU1 : FR md_mo_tellObject S U1 := by rw [eU1]; exact FR.wI hF (mdf_i (r := (930, 931, 0, 100000)) (List.mem_of_getElem? (i := 0) rfl) (inR_i (by omega) (by omega) (by omega) (by omega)))
    have w6 : Xi U1 930 ((((12 * o) + p)).toNat) = 1 := by rw [eU1]; exact Xi_same (by unfold rg; omega)
    refine l_aload_n rfl rfl ?_
    refine l_gfr rfl rfl rfl rfl rfl (hHU1.r 904 36 931 rfl) ?_
    refine l_iload rfl rfl ?_
    refine l_iload_n rfl rfl ?_
    refine l_iastore (n := 288) rfl rfl (by omega) (by omega) (by unfold rg; omega) ?_
    obtain ⟨U2, eU2⟩ : ∃ T : sS, T = uI U1 931 ((((12 * o) + p)).toNat) (Int32.ofInt v) := ⟨_, rfl⟩
    rw [← eU2]
    have hHU2 : HI U2 := by rw [eU2]; exact HI_any hHU1 (rfl)
    have hFU2 : FR md_mo_tellObject S U2 := by rw [eU2]; exact FR.wI hFU1 (mdf_i (r := (931, 932, 0, 100000)) (List.mem_of_getElem? (i := 1) rfl) (inR_i (by omega) (by omega) (by omega) (by omega)))
    have w7 : Xi U2 931 ((((12 * o) + p)).toNat) = v := by rw [eU2]; exact Xi_same (by unfold rg; omega)
    refine l_aload_n rfl rfl ?_
    refine l_gfr rfl rfl rfl rfl rfl (hHU2.r 904 37 932 rfl) ?_
    refine l_iload rfl rfl ?_
    refine l_iload rfl rfl ?_
    refine l_iastore (n := 288) rfl rfl (by omega) (by omega) (by unfold rg; omega) ?_
    obtain ⟨U3, eU3⟩ : ∃ T : sS, T = uI U2 932 ((((12 * o) + p)).toNat) (Int32.ofInt nn) := ⟨_, rfl⟩
    rw [← eU3]
    have hHU3 : HI U3 := by rw [eU3]; exact HI_any hHU2 (rfl)
    have hFU3 : FR md_mo_tellObject S U3 := by rw [eU3]; exact FR.wI hFU2 (mdf_i (r := (932, 933, 0, 100000)) (List.mem_of_getElem? (i := 2) rfl) (inR_i (by omega) (by omega) (by omega) (by omega)))
    have w8 : Xi U3 932 ((((12 * o) + p)).toNat) = nn := by rw [eU3]; exact Xi_same (by unfold rg; omega)
    refine l_iconst rfl ?_
    refine l_ireturn rfl rfl ?_
    exact ⟨hHU3, hFU3, _, rfl, ⟨by omega, by omega⟩, (by first | exact txm_w (o := o) (p := p) eU1 eU2 eU3 rfl (by omega) (by omega) hpp (by omega) (by unfold rg; omega) (by unfold rg; omega) hk hX | exact hX)⟩
  · refine l_aload_n rfl rfl ?_
    refine l_iload_n rfl rfl ?_
    refine l_aload_n rfl rfl ?_
    refine l_gfr rfl rfl rfl rfl rfl (hH.r 904 36 931 rfl) ?_
    refine l_iload rfl rfl ?_
    refine l_iaload (n := 288) rfl rfl (by omega) (by omega) (by unfold rg; omega) ?_
    have w9 : -2147483648 ≤ (Xi S 931 ((((12 * o) + p)).toNat)) ∧ (Xi S 931 ((((12 * o) + p)).toNat)) ≤ 2147483647 := Xi_rgI
    refine l_aload_n rfl rfl ?_
    refine l_gfr rfl rfl rfl rfl rfl (hH.r 904 37 932 rfl) ?_
    refine l_iload rfl rfl ?_
    refine l_iaload (n := 288) rfl rfl (by omega) (by omega) (by unfold rg; omega) ?_
    have w10 : -2147483648 ≤ (Xi S 932 ((((12 * o) + p)).toNat)) ∧ (Xi S 932 ((((12 * o) + p)).toNat)) ≤ 2147483647 := Xi_rgI
    refine l_iload_n rfl rfl ?_
    refine l_iload rfl rfl ?_
    refine l_callV rfl rfl rfl (t_mo_tellsOtherwise hH p (Xi S 931 ((((12 * o) + p)).toNat)) (Xi S 932 ((((12 * o) + p)).toNat)) v nn ⟨by omega, by omega⟩ ⟨by omega, by omega⟩ ⟨by omega, by omega⟩ ⟨by omega, by omega⟩ ⟨by omega, by omega⟩ (fun q => (hX.2.1 o p (by omega) hoo (by omega) (by omega) (by omega)).2 q) (hk) _) ?_
    rintro _ _ ⟨rfl, z11, rfl, w11⟩
    show Rl _ _ _ _ _ [iv z11] _ _
    refine l_if_eq rfl rfl (by unfold rg; omega) (fun w12 => ?_) (fun w13 => ?_)
    · refine l_aload_n rfl rfl ?_
      refine l_gfr rfl rfl rfl rfl rfl (hH.r 904 35 930 rfl) ?_
      refine l_iload rfl rfl ?_
      refine l_iconst rfl ?_
      refine l_bastoreZ1 (n := 288) rfl rfl (by omega) (by omega) (by unfold rg; omega) ⟨by omega, by omega⟩ ?_
      obtain ⟨U4, eU4⟩ : ∃ T : sS, T = uI S 930 ((((12 * o) + p)).toNat) (Int32.ofInt 1) := ⟨_, rfl⟩
      rw [← eU4]
      have hHU4 : HI U4 := by rw [eU4]; exact HI_w hH (show 0 ≤ 1 by omega) (show 1 ≤ 1 by omega)
      have hFU4 : FR md_mo_tellObject S U4 := by rw [eU4]; exact FR.wI hF (mdf_i (r := (930, 931, 0, 100000)) (List.mem_of_getElem? (i := 0) rfl) (inR_i (by omega) (by omega) (by omega) (by omega)))
      have w14 : Xi U4 930 ((((12 * o) + p)).toNat) = 1 := by rw [eU4]; exact Xi_same (by unfold rg; omega)
      refine l_aload_n rfl rfl ?_
      refine l_gfr rfl rfl rfl rfl rfl (hHU4.r 904 36 931 rfl) ?_
      refine l_iload rfl rfl ?_
      refine l_iload_n rfl rfl ?_
      refine l_iastore (n := 288) rfl rfl (by omega) (by omega) (by unfold rg; omega) ?_
      obtain ⟨U5, eU5⟩ : ∃ T : sS, T = uI U4 931 ((((12 * o) + p)).toNat) (Int32.ofInt v) := ⟨_, rfl⟩
      rw [← eU5]
      have hHU5 : HI U5 := by rw [eU5]; exact HI_any hHU4 (rfl)
      have hFU5 : FR md_mo_tellObject S U5 := by rw [eU5]; exact FR.wI hFU4 (mdf_i (r := (931, 932, 0, 100000)) (List.mem_of_getElem? (i := 1) rfl) (inR_i (by omega) (by omega) (by omega) (by omega)))
      have w15 : Xi U5 931 ((((12 * o) + p)).toNat) = v := by rw [eU5]; exact Xi_same (by unfold rg; omega)
      refine l_aload_n rfl rfl ?_
      refine l_gfr rfl rfl rfl rfl rfl (hHU5.r 904 37 932 rfl) ?_
      refine l_iload rfl rfl ?_
      refine l_iload rfl rfl ?_
      refine l_iastore (n := 288) rfl rfl (by omega) (by omega) (by unfold rg; omega) ?_
      obtain ⟨U6, eU6⟩ : ∃ T : sS, T = uI U5 932 ((((12 * o) + p)).toNat) (Int32.ofInt nn) := ⟨_, rfl⟩
      rw [← eU6]
      have hHU6 : HI U6 := by rw [eU6]; exact HI_any hHU5 (rfl)
      have hFU6 : FR md_mo_tellObject S U6 := by rw [eU6]; exact FR.wI hFU5 (mdf_i (r := (932, 933, 0, 100000)) (List.mem_of_getElem? (i := 2) rfl) (inR_i (by omega) (by omega) (by omega) (by omega)))
      have w16 : Xi U6 932 ((((12 * o) + p)).toNat) = nn := by rw [eU6]; exact Xi_same (by unfold rg; omega)
      refine l_iconst rfl ?_
      refine l_ireturn rfl rfl ?_
      exact ⟨hHU6, hFU6, _, rfl, ⟨by omega, by omega⟩, (by first | exact txm_w (o := o) (p := p) eU4 eU5 eU6 rfl (by omega) (by omega) hpp (by omega) (by unfold rg; omega) (by unfold rg; omega) hk hX | exact hX)⟩
    · refine l_iconst rfl ?_
      refine l_ireturn rfl rfl ?_
      exact ⟨hH, hF, _, rfl, ⟨by omega, by omega⟩, (by first | exact txm_w (o := o) (p := p)   rfl rfl (by omega) (by omega) hpp (by omega) (by unfold rg; omega) (by unfold rg; omega) hk hX | exact hX)⟩
theorem txm_k {S U1 U2 U3 : sS} {o p v n : Int} {i : Nat} {w : Int32} (e1 : U1 = uI S 933 i w) (e2 : U2 = uI U1 934 i (Int32.ofInt v)) (e3 : U3 = uI U2 935 i (Int32.ofInt n)) (hi : i = (12 * o + p).toNat) (h0 : 0 ≤ o) (hp : 0 ≤ p) (hp2 : p < Xi S 904 32) (hp3 : p < 12) (hv : rg v) (hn : rg n) (hk : Xi S 928 p.toNat = 1 → OKT v n) (hX : TXM S) : TXM U3 := by
  have x : ∀ k j, k ≠ 933 → k ≠ 934 → k ≠ 935 → Xi U3 k j = Xi S k j := fun k j a b c => by rw [e3, Xi_ne (by omega), e2, Xi_ne (by omega), e1, Xi_ne (by omega)]
  refine ⟨fun a h1 h2 => ?_, fun a b h1 h2 h3 h4 h5 => ?_, fun a b h1 h2 h3 h4 h5 => ?_⟩
  · rw [x 904 19 (by decide) (by decide) (by decide)] at h2
    rw [x 918 _ (by decide) (by decide) (by decide), x 904 16 (by decide) (by decide) (by decide)]
    exact hX.1 a h1 h2
  · rw [x 904 19 (by decide) (by decide) (by decide)] at h2
    rw [x 930 _ (by decide) (by decide) (by decide)] at h5
    rw [x 904 32 (by decide) (by decide) (by decide), x 928 _ (by decide) (by decide) (by decide), x 931 _ (by decide) (by decide) (by decide), x 932 _ (by decide) (by decide) (by decide)]
    exact hX.2.1 a b h1 h2 h3 h4 h5
  · rw [x 904 16 (by decide) (by decide) (by decide)] at h2
    rw [x 904 32 (by decide) (by decide) (by decide), x 928 _ (by decide) (by decide) (by decide)]
    by_cases q : (12 * a + b).toNat = i
    · have eb : b = p := by omega
      subst eb
      refine ⟨hp2, fun z => ?_⟩
      have y1 : Xi U3 934 (12 * a + b).toNat = v := by rw [q, e3, Xi_ne (by omega), e2]; exact Xi_same hv
      have y2 : Xi U3 935 (12 * a + b).toNat = n := by rw [q, e3]; exact Xi_same hn
      rw [y1, y2]
      exact hk z
    · have y0 : Xi U3 933 (12 * a + b).toNat = Xi S 933 (12 * a + b).toNat := by rw [e3, Xi_ne (by omega), e2, Xi_ne (by omega), e1, Xi_ne (by omega)]
      have y1 : Xi U3 934 (12 * a + b).toNat = Xi S 934 (12 * a + b).toNat := by rw [e3, Xi_ne (by omega), e2, Xi_ne (by omega), e1, Xi_ne (by omega)]
      have y2 : Xi U3 935 (12 * a + b).toNat = Xi S 935 (12 * a + b).toNat := by rw [e3, Xi_ne (by omega), e2, Xi_ne (by omega), e1, Xi_ne (by omega)]
      rw [y0] at h5
      rw [y1, y2]
      exact hX.2.2 a b h1 h2 h3 h4 h5
def md_mo_tellKind : List rec := [(933, 934, 0, 100000), (934, 935, 0, 100000), (935, 936, 0, 100000)]
abbrev Q_mo_tellKind (S : sS) (o : Int) (p : Int) (v : Int) (nn : Int) : pst := fun r S1 => HI S1 ∧ FR md_mo_tellKind S S1 ∧ (∃ z : Int, r = some (iv z) ∧ (0 ≤ z ∧ z ≤ 1) ∧ (TXM S1))
set_option maxRecDepth 100000 in
theorem t_mo_tellKind {S : sS} (hH : HI S) (o : Int) (p : Int) (v : Int) (nn : Int) (ho : 0 ≤ o ∧ o ≤ 15) (hp : 0 ≤ p ∧ p ≤ 11) (hv : -2147483648 ≤ v ∧ v ≤ 2147483647) (hnn : -2147483648 ≤ nn ∧ nn ≤ 2147483647) (hX : TXM S) (hoo : o < Xi S 904 16) (hpp : p < Xi S 904 32) (hk : Xi S 928 p.toNat = 1 → OKT v nn) (d : Nat) : Mt lay0 (d + 3) m_mo_tellKind [.ref 904, iv o, iv p, iv v, iv nn] S (Q_mo_tellKind S o p v nn) := by
  refine Mt_R rfl rfl ?_
  have hF : FR md_mo_tellKind S S := FR.rf
  have w1 : 0 ≤ Xi S 904 16 ∧ Xi S 904 16 ≤ 16 := hH.c _ _
  have w2 : 0 ≤ Xi S 904 32 ∧ Xi S 904 32 ≤ 12 := hH.c _ _
  refine l_bipush rfl rfl ?_
  refine l_iload_n rfl rfl ?_
  refine l_imul rfl ?_
  refine l_iload_n rfl rfl ?_
  refine l_iadd rfl ?_
  refine l_istore rfl rfl rfl ?_
  refine l_aload_n rfl rfl ?_
  refine l_gfr rfl rfl rfl rfl rfl (hH.r 904 38 933 rfl) ?_
  refine l_iload rfl rfl ?_
  refine l_baload (n := 192) rfl rfl rfl (by decide) (by omega) (by omega) (by unfold rg; omega) ?_
  have w3 : 0 ≤ (Xi S 933 ((((12 * o) + p)).toNat)) ∧ (Xi S 933 ((((12 * o) + p)).toNat)) ≤ 1 := hH.c _ _
  refine l_if_eq rfl rfl (by unfold rg; omega) (fun w4 => ?_) (fun w5 => ?_)
  · refine l_aload_n rfl rfl ?_
    refine l_gfr rfl rfl rfl rfl rfl (hH.r 904 38 933 rfl) ?_
    refine l_iload rfl rfl ?_
    refine l_iconst rfl ?_
    refine l_bastoreZ1 (n := 192) rfl rfl (by omega) (by omega) (by unfold rg; omega) ⟨by omega, by omega⟩ ?_
    obtain ⟨U1, eU1⟩ : ∃ T : sS, T = uI S 933 ((((12 * o) + p)).toNat) (Int32.ofInt 1) := ⟨_, rfl⟩
    rw [← eU1]
    have hHU1 : HI U1 := by rw [eU1]; exact HI_w hH (show 0 ≤ 1 by omega) (show 1 ≤ 1 by omega)
    have hFU1 : FR md_mo_tellKind S U1 := by rw [eU1]; exact FR.wI hF (mdf_i (r := (933, 934, 0, 100000)) (List.mem_of_getElem? (i := 0) rfl) (inR_i (by omega) (by omega) (by omega) (by omega)))
    have w6 : Xi U1 933 ((((12 * o) + p)).toNat) = 1 := by rw [eU1]; exact Xi_same (by unfold rg; omega)
    refine l_aload_n rfl rfl ?_
    refine l_gfr rfl rfl rfl rfl rfl (hHU1.r 904 39 934 rfl) ?_
    refine l_iload rfl rfl ?_
    refine l_iload_n rfl rfl ?_
    refine l_iastore (n := 192) rfl rfl (by omega) (by omega) (by unfold rg; omega) ?_
    obtain ⟨U2, eU2⟩ : ∃ T : sS, T = uI U1 934 ((((12 * o) + p)).toNat) (Int32.ofInt v) := ⟨_, rfl⟩
    rw [← eU2]
    have hHU2 : HI U2 := by rw [eU2]; exact HI_any hHU1 (rfl)
    have hFU2 : FR md_mo_tellKind S U2 := by rw [eU2]; exact FR.wI hFU1 (mdf_i (r := (934, 935, 0, 100000)) (List.mem_of_getElem? (i := 1) rfl) (inR_i (by omega) (by omega) (by omega) (by omega)))
    have w7 : Xi U2 934 ((((12 * o) + p)).toNat) = v := by rw [eU2]; exact Xi_same (by unfold rg; omega)
    refine l_aload_n rfl rfl ?_
    refine l_gfr rfl rfl rfl rfl rfl (hHU2.r 904 40 935 rfl) ?_
    refine l_iload rfl rfl ?_
    refine l_iload rfl rfl ?_
    refine l_iastore (n := 192) rfl rfl (by omega) (by omega) (by unfold rg; omega) ?_
    obtain ⟨U3, eU3⟩ : ∃ T : sS, T = uI U2 935 ((((12 * o) + p)).toNat) (Int32.ofInt nn) := ⟨_, rfl⟩
    rw [← eU3]
    have hHU3 : HI U3 := by rw [eU3]; exact HI_any hHU2 (rfl)
    have hFU3 : FR md_mo_tellKind S U3 := by rw [eU3]; exact FR.wI hFU2 (mdf_i (r := (935, 936, 0, 100000)) (List.mem_of_getElem? (i := 2) rfl) (inR_i (by omega) (by omega) (by omega) (by omega)))
    have w8 : Xi U3 935 ((((12 * o) + p)).toNat) = nn := by rw [eU3]; exact Xi_same (by unfold rg; omega)
    refine l_iconst rfl ?_
    refine l_ireturn rfl rfl ?_
    exact ⟨hHU3, hFU3, _, rfl, ⟨by omega, by omega⟩, (by first | exact txm_k (o := o) (p := p) eU1 eU2 eU3 rfl (by omega) (by omega) hpp (by omega) (by unfold rg; omega) (by unfold rg; omega) hk hX | exact hX)⟩
  · refine l_aload_n rfl rfl ?_
    refine l_iload_n rfl rfl ?_
    refine l_aload_n rfl rfl ?_
    refine l_gfr rfl rfl rfl rfl rfl (hH.r 904 39 934 rfl) ?_
    refine l_iload rfl rfl ?_
    refine l_iaload (n := 192) rfl rfl (by omega) (by omega) (by unfold rg; omega) ?_
    have w9 : -2147483648 ≤ (Xi S 934 ((((12 * o) + p)).toNat)) ∧ (Xi S 934 ((((12 * o) + p)).toNat)) ≤ 2147483647 := Xi_rgI
    refine l_aload_n rfl rfl ?_
    refine l_gfr rfl rfl rfl rfl rfl (hH.r 904 40 935 rfl) ?_
    refine l_iload rfl rfl ?_
    refine l_iaload (n := 192) rfl rfl (by omega) (by omega) (by unfold rg; omega) ?_
    have w10 : -2147483648 ≤ (Xi S 935 ((((12 * o) + p)).toNat)) ∧ (Xi S 935 ((((12 * o) + p)).toNat)) ≤ 2147483647 := Xi_rgI
    refine l_iload_n rfl rfl ?_
    refine l_iload rfl rfl ?_
    refine l_callV rfl rfl rfl (t_mo_tellsOtherwise hH p (Xi S 934 ((((12 * o) + p)).toNat)) (Xi S 935 ((((12 * o) + p)).toNat)) v nn ⟨by omega, by omega⟩ ⟨by omega, by omega⟩ ⟨by omega, by omega⟩ ⟨by omega, by omega⟩ ⟨by omega, by omega⟩ (fun q => (hX.2.2 o p (by omega) hoo (by omega) (by omega) (by omega)).2 q) (hk) _) ?_
    rintro _ _ ⟨rfl, z11, rfl, w11⟩
    show Rl _ _ _ _ _ [iv z11] _ _
    refine l_if_eq rfl rfl (by unfold rg; omega) (fun w12 => ?_) (fun w13 => ?_)
    · refine l_aload_n rfl rfl ?_
      refine l_gfr rfl rfl rfl rfl rfl (hH.r 904 38 933 rfl) ?_
      refine l_iload rfl rfl ?_
      refine l_iconst rfl ?_
      refine l_bastoreZ1 (n := 192) rfl rfl (by omega) (by omega) (by unfold rg; omega) ⟨by omega, by omega⟩ ?_
      obtain ⟨U4, eU4⟩ : ∃ T : sS, T = uI S 933 ((((12 * o) + p)).toNat) (Int32.ofInt 1) := ⟨_, rfl⟩
      rw [← eU4]
      have hHU4 : HI U4 := by rw [eU4]; exact HI_w hH (show 0 ≤ 1 by omega) (show 1 ≤ 1 by omega)
      have hFU4 : FR md_mo_tellKind S U4 := by rw [eU4]; exact FR.wI hF (mdf_i (r := (933, 934, 0, 100000)) (List.mem_of_getElem? (i := 0) rfl) (inR_i (by omega) (by omega) (by omega) (by omega)))
      have w14 : Xi U4 933 ((((12 * o) + p)).toNat) = 1 := by rw [eU4]; exact Xi_same (by unfold rg; omega)
      refine l_aload_n rfl rfl ?_
      refine l_gfr rfl rfl rfl rfl rfl (hHU4.r 904 39 934 rfl) ?_
      refine l_iload rfl rfl ?_
      refine l_iload_n rfl rfl ?_
      refine l_iastore (n := 192) rfl rfl (by omega) (by omega) (by unfold rg; omega) ?_
      obtain ⟨U5, eU5⟩ : ∃ T : sS, T = uI U4 934 ((((12 * o) + p)).toNat) (Int32.ofInt v) := ⟨_, rfl⟩
      rw [← eU5]
      have hHU5 : HI U5 := by rw [eU5]; exact HI_any hHU4 (rfl)
      have hFU5 : FR md_mo_tellKind S U5 := by rw [eU5]; exact FR.wI hFU4 (mdf_i (r := (934, 935, 0, 100000)) (List.mem_of_getElem? (i := 1) rfl) (inR_i (by omega) (by omega) (by omega) (by omega)))
      have w15 : Xi U5 934 ((((12 * o) + p)).toNat) = v := by rw [eU5]; exact Xi_same (by unfold rg; omega)
      refine l_aload_n rfl rfl ?_
      refine l_gfr rfl rfl rfl rfl rfl (hHU5.r 904 40 935 rfl) ?_
      refine l_iload rfl rfl ?_
      refine l_iload rfl rfl ?_
      refine l_iastore (n := 192) rfl rfl (by omega) (by omega) (by unfold rg; omega) ?_
      obtain ⟨U6, eU6⟩ : ∃ T : sS, T = uI U5 935 ((((12 * o) + p)).toNat) (Int32.ofInt nn) := ⟨_, rfl⟩
      rw [← eU6]
      have hHU6 : HI U6 := by rw [eU6]; exact HI_any hHU5 (rfl)
      have hFU6 : FR md_mo_tellKind S U6 := by rw [eU6]; exact FR.wI hFU5 (mdf_i (r := (935, 936, 0, 100000)) (List.mem_of_getElem? (i := 2) rfl) (inR_i (by omega) (by omega) (by omega) (by omega)))
      have w16 : Xi U6 935 ((((12 * o) + p)).toNat) = nn := by rw [eU6]; exact Xi_same (by unfold rg; omega)
      refine l_iconst rfl ?_
      refine l_ireturn rfl rfl ?_
      exact ⟨hHU6, hFU6, _, rfl, ⟨by omega, by omega⟩, (by first | exact txm_k (o := o) (p := p) eU4 eU5 eU6 rfl (by omega) (by omega) hpp (by omega) (by unfold rg; omega) (by unfold rg; omega) hk hX | exact hX)⟩
    · refine l_iconst rfl ?_
      refine l_ireturn rfl rfl ?_
      exact ⟨hH, hF, _, rfl, ⟨by omega, by omega⟩, (by first | exact txm_k (o := o) (p := p)   rfl rfl (by omega) (by omega) hpp (by omega) (by unfold rg; omega) (by unfold rg; omega) hk hX | exact hX)⟩

