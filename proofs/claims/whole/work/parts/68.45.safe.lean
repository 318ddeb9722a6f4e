/-! SAFETY of methods: printed by wip/safe (vc.py, decl.py) -/
/-! SAFETY: tokens that stand stay; a dot comes last -/
def KTK (S T : sS) (n : Int) : Prop := ∀ r : Nat, (r : Int) < n → Xi T 877 r = Xi S 877 r
theorem KTK.rf {S : sS} {n : Int} : KTK S S n := fun _ _ => rfl
theorem ktk_tr {S T U : sS} {n m : Int} (h : KTK S T n) (g : KTK T U m) (e : n ≤ m) : KTK S U n := fun r hr => (g r (by omega)).trans (h r hr)
theorem ktk_f {l : List rec} {S T U : sS} {n : Int} (f : FR l T U) (e : kdis l [(877, 878)] = true) (h : KTK S T n) : KTK S U n := fun r hr => ((f.smk e).x 877 rfl r).trans (h r hr)
def ND (S : sS) (n : Int) : Prop := ∀ r : Nat, (r : Int) < n → Xi S 877 r ≠ 103
theorem nd_k {S T : sS} {n m k : Int} (h : ND S n) (g : KTK S T m) (h1 : k ≤ n) (h2 : k ≤ m) : ND T k := fun r hr => by rw [g r (by omega)]; exact h r (by omega)
theorem nd_s {S : sS} {n : Int} (h : ND S (n - 1)) (e : Xi S 877 (n - 1).toNat ≠ 103) : ND S n := fun r hr => by
  by_cases q : (r : Int) < n - 1
  · exact h r q
  · rw [show r = (n - 1).toNat by omega]; exact e
theorem nd_1 {S : sS} (e : Xi S 877 0 ≠ 103) : ND S 1 := fun r hr => by rw [show r = 0 by omega]; exact e
theorem nd_f {l : List rec} {S T : sS} {n m : Int} (f : FR l S T) (e : kdis l [(877, 878)] = true) (h : ND S n) (hm : m ≤ n) : ND T m := fun r hr => by rw [(f.smk e).x 877 rfl]; exact h r (by omega)
theorem nd_0 {S : sS} {n : Int} (h : n ≤ 0) : ND S n := fun r hr => by omega
def md_to_note__2 : List rec := [(876, 877, 7, 8), (877, 878, 0, 100000), (878, 879, 0, 100000), (879, 880, 0, 100000)]
abbrev Q_to_note__2 (S : sS) (ty : Int) (pl : Int) (v : Int) : pst := fun r S1 => HI S1 ∧ FR md_to_note__2 S S1 ∧ (r = none ∧ (TOK S1) ∧ (Xi S1 876 7 = Xi S 876 7 + 1) ∧ (KTK S S1 (Xi S 876 7)))
set_option maxRecDepth 100000 in
theorem t_to_note__2 {S : sS} (hH : HI S) (ty : Int) (pl : Int) (v : Int) (hty : 0 ≤ ty ∧ ty ≤ 108) (hpl : 0 ≤ pl ∧ pl ≤ 5000) (hT : TOK S) (hrow : Xi S 876 7 ≤ 5124) (hv : ty = 102 → 0 ≤ v ∧ v ≤ 120 ∧ pl + v + 2 ≤ Xi S 876 5) (d : Nat) : Mt lay0 (d + 1) m_to_note [.ref 876, iv ty, iv pl, jw v] S (Q_to_note__2 S ty pl v) := by
  refine Mt_R rfl rfl ?_
  have hF : FR md_to_note__2 S S := FR.rf
  have w1 : 0 ≤ Xi S 876 5 ∧ Xi S 876 5 ≤ 5000 := hH.c _ _
  have w2 : 0 ≤ Xi S 876 7 ∧ Xi S 876 7 ≤ 5125 := hH.c _ _
  refine l_aload_n rfl rfl ?_
  refine l_gfi rfl rfl rfl rfl rfl ?_
  refine l_sipush rfl rfl ?_
  refine l_icmp_ge rfl rfl (by unfold rg; omega) (by unfold rg; omega) (fun w3 => ?_) (fun w4 => ?_)
  · refine l_return rfl rfl ?_
    exact ⟨hH, hF, rfl, (by first | exact hT | exact tok_note hT (by omega) (by omega) eU1 eU2 eU3 eU4 hty hpl hv), (by first | omega | (constructor <;> omega)), (fun r hr => by first | rfl | (rw [eU4, Xi_ne (by omega), eU3]; show Xi U2 877 r = _; rw [eU2, Xi_ne (by omega), eU1, Xi_ne (by omega)]))⟩
  · refine l_aload_n rfl rfl ?_
    refine l_gfr rfl rfl rfl rfl rfl (hH.r 876 0 877 rfl) ?_
    refine l_aload_n rfl rfl ?_
    refine l_gfi rfl rfl rfl rfl rfl ?_
    refine l_iload_n rfl rfl ?_
    refine l_iastore (n := 5130) rfl rfl (by omega) (by omega) (by unfold rg; omega) ?_
    obtain ⟨U1, eU1⟩ : ∃ T : sS, T = uI S 877 (((Xi S 876 7)).toNat) (Int32.ofInt ty) := ⟨_, rfl⟩
    rw [← eU1]
    have hHU1 : HI U1 := by rw [eU1]; exact HI_w hH (show 0 ≤ ty by omega) (show ty ≤ 108 by omega)
    have hFU1 : FR md_to_note__2 S U1 := by rw [eU1]; exact FR.wI hF (mdf_i (r := (877, 878, 0, 100000)) (List.mem_of_getElem? (i := 1) rfl) (inR_i (by omega) (by omega) (by omega) (by omega)))
    have w6 : Xi U1 877 (((Xi S 876 7)).toNat) = ty := by rw [eU1]; exact Xi_same (by unfold rg; omega)
    refine l_aload_n rfl rfl ?_
    refine l_gfr rfl rfl rfl rfl rfl (hHU1.r 876 1 878 rfl) ?_
    refine l_aload_n rfl rfl ?_
    refine l_gfi rfl rfl rfl rfl rfl ?_
    have w7 : (Xi U1 876 7) = (Xi S 876 7) := (show Xi U1 876 7 = Xi S 876 7 from by rw [eU1]; exact Xi_ne (by omega))
    rw [w7]
    refine l_iload_n rfl rfl ?_
    refine l_iastore (n := 5130) rfl rfl (by omega) (by omega) (by unfold rg; omega) ?_
    obtain ⟨U2, eU2⟩ : ∃ T : sS, T = uI U1 878 (((Xi S 876 7)).toNat) (Int32.ofInt pl) := ⟨_, rfl⟩
    rw [← eU2]
    have hHU2 : HI U2 := by rw [eU2]; exact HI_w hHU1 (show 0 ≤ pl by omega) (show pl ≤ 5000 by omega)
    have hFU2 : FR md_to_note__2 S U2 := by rw [eU2]; exact FR.wI hFU1 (mdf_i (r := (878, 879, 0, 100000)) (List.mem_of_getElem? (i := 2) rfl) (inR_i (by omega) (by omega) (by omega) (by omega)))
    have w8 : Xi U2 878 (((Xi S 876 7)).toNat) = pl := by rw [eU2]; exact Xi_same (by unfold rg; omega)
    refine l_aload_n rfl rfl ?_
    refine l_gfr rfl rfl rfl rfl rfl (hHU2.r 876 2 879 rfl) ?_
    refine l_aload_n rfl rfl ?_
    refine l_gfi rfl rfl rfl rfl rfl ?_
    have w9 : (Xi U2 876 7) = (Xi S 876 7) := (show Xi U2 876 7 = Xi U1 876 7 from by rw [eU2]; exact Xi_ne (by omega)).trans ((show Xi U1 876 7 = Xi S 876 7 from by rw [eU1]; exact Xi_ne (by omega)))
    rw [w9]
    refine l_lload_n rfl rfl ?_
    refine l_lastore (n := 5130) rfl rfl (by omega) (by omega) (by unfold rg; omega) ?_
    obtain ⟨U3, eU3⟩ : ∃ T : sS, T = uJ U2 879 (((Xi S 876 7)).toNat) (Int64.ofInt v) := ⟨_, rfl⟩
    rw [← eU3]
    have hHU3 : HI U3 := by rw [eU3]; exact HI_J hHU2
    have hFU3 : FR md_to_note__2 S U3 := by rw [eU3]; exact FR.wJ hFU2 (mdf_i (r := (879, 880, 0, 100000)) (List.mem_of_getElem? (i := 3) rfl) (inR_i (by omega) (by omega) (by omega) (by omega)))
    refine l_aload_n rfl rfl ?_
    refine l_dup rfl rfl ?_
    refine l_gfi rfl rfl rfl rfl rfl ?_
    have w10 : (Xi U3 876 7) = (Xi S 876 7) := (show Xi U3 876 7 = Xi U2 876 7 from by rw [eU3]; rfl).trans ( (show Xi U2 876 7 = Xi U1 876 7 from by rw [eU2]; exact Xi_ne (by omega)).trans ((show Xi U1 876 7 = Xi S 876 7 from by rw [eU1]; exact Xi_ne (by omega))))
    rw [w10]
    refine l_iconst rfl ?_
    refine l_iadd rfl ?_
    refine l_pfi rfl rfl rfl rfl ?_
    obtain ⟨U4, eU4⟩ : ∃ T : sS, T = uI U3 876 7 (Int32.ofInt ((Xi S 876 7) + 1)) := ⟨_, rfl⟩
    rw [← eU4]
    have hHU4 : HI U4 := by rw [eU4]; exact HI_w hHU3 (show 0 ≤ ((Xi S 876 7) + 1) by omega) (show ((Xi S 876 7) + 1) ≤ 5125 by omega)
    have hFU4 : FR md_to_note__2 S U4 := by rw [eU4]; exact FR.wI hFU3 (mdf_i (r := (876, 877, 7, 8)) (List.mem_of_getElem? (i := 0) rfl) (inR_i (by omega) (by omega) (by omega) (by omega)))
    have w11 : Xi U4 876 7 = ((Xi S 876 7) + 1) := by rw [eU4]; exact Xi_same (by unfold rg; omega)
    refine l_return rfl rfl ?_
    have w12 : 0 ≤ Xi U4 876 7 ∧ Xi U4 876 7 ≤ 5125 := hHU4.c _ _
    exact ⟨hHU4, hFU4, rfl, (by first | exact hT | exact tok_note hT (by omega) (by omega) eU1 eU2 eU3 eU4 hty hpl hv), (by first | omega | (constructor <;> omega)), (fun r hr => by first | rfl | (rw [eU4, Xi_ne (by omega), eU3]; show Xi U2 877 r = _; rw [eU2, Xi_ne (by omega), eU1, Xi_ne (by omega)]))⟩
def md_to_scanWord__2 : List rec := [(876, 877, 7, 8), (877, 878, 0, 100000), (878, 879, 0, 100000), (879, 880, 0, 100000)]
abbrev Q_to_scanWord__2 (S : sS) (ts : Nat) (from_ : Int) (limit : Int) : pst := fun r S1 => HI S1 ∧ FR md_to_scanWord__2 S S1 ∧ (∃ z : Int, r = some (iv z) ∧ (-1 ≤ z ∧ z ≤ 5000) ∧ (TOK S1) ∧ (z = -1 ∨ (from_ < z ∧ z ≤ limit)) ∧ (Xi S 876 7 ≤ Xi S1 876 7 ∧ Xi S1 876 7 ≤ Xi S 876 7 + 1) ∧ ((z ≠ -1 → 1 ≤ Xi S1 876 7) ∧ (z = -1 → Xi S1 876 7 = Xi S 876 7)) ∧ (KTK S S1 (Xi S 876 7)))
set_option maxRecDepth 100000 in
theorem t_to_scanWord__2 {S : sS} (hH : HI S) (ts : Nat) (from_ : Int) (limit : Int) (hfrom_ : 0 ≤ from_ ∧ from_ ≤ 5000) (hlimit : 0 ≤ limit ∧ limit ≤ 5000) (hts : S.2.2 876 4 = some ts) (htp : tp ts) (hT : TOK S) (hrow : Xi S 876 7 ≤ 5124) (d : Nat) : Mt lay0 (d + 2) m_to_scanWord [.ref 876, iv from_, iv limit] S (Q_to_scanWord__2 S ts from_ limit) := by
  refine Mt_R rfl rfl ?_
  have hF : FR md_to_scanWord__2 S S := FR.rf
  have w1 : 0 ≤ Xi S 876 7 ∧ Xi S 876 7 ≤ 5125 := hH.c _ _
  have C5 : ∀ (n5 : Nat) (v3 : Int) (v5 : Int), (0 ≤ v5 ∧ v5 ≤ 5000) → (from_ ≤ v5 ∧ (v5 ≤ limit ∨ v5 = from_)) → n5 = (5001 - v5).toNat → Rl lay0 (d + 1) m_to_scanWord 5 [(0, .ref 876), (1, iv from_), (2, iv limit), (3, jw v3), (5, iv v5)] [] S (Q_to_scanWord__2 S ts from_ limit) := by
    intro n5
    induction n5 using Nat.strongRecOn with
    | ind n5 ih5 =>
      intro v3 v5 w2 w3 hm5
      have C61 : ∀  (v3 : Int) (v5 : Int), (0 ≤ v5 ∧ v5 ≤ 5000) → (from_ ≤ v5 ∧ (v5 ≤ limit ∨ v5 = from_)) → Rl lay0 (d + 1) m_to_scanWord 61 [(0, .ref 876), (1, iv from_), (3, jw v3), (5, iv v5)] [] S (Q_to_scanWord__2 S ts from_ limit) := by
        intro v3 v5 w4 w5
        refine l_iload rfl rfl ?_
        refine l_iload_n rfl rfl ?_
        refine l_icmp_eq rfl rfl (by unfold rg; omega) (by unfold rg; omega) (fun w6 => ?_) (fun w7 => ?_)
        · refine l_iconst rfl ?_
          refine l_ireturn rfl rfl ?_
          exact ⟨hH, hF, _, rfl, ⟨by omega, by omega⟩, (by first | exact hT | assumption), (by omega), (by omega), (by omega), (by first | assumption | exact KTK.rf)⟩
        · refine l_iload rfl rfl ?_
          refine l_iload_n rfl rfl ?_
          refine l_isub rfl ?_
          refine l_bipush rfl rfl ?_
          refine l_icmp_le rfl rfl (by unfold rg; omega) (by unfold rg; omega) (fun w9 => ?_) (fun w10 => ?_)
          · refine l_aload_n rfl rfl ?_
            refine l_aload_n rfl rfl ?_
            refine l_lload_n rfl rfl ?_
            refine l_callV rfl rfl rfl (t_to_keyOf hH v3 _) ?_
            rintro _ _ ⟨rfl, z11, rfl, w11⟩
            show Rl _ _ _ _ _ [iv z11, .ref 876] _ _
            refine l_iload_n rfl rfl ?_
            refine l_lload_n rfl rfl ?_
            have w12 : 0 ≤ Xi S 876 5 ∧ Xi S 876 5 ≤ 5000 := hH.c _ _
            refine l_callV rfl rfl rfl (t_to_note__2 hH z11 from_ v3 ⟨by omega, by omega⟩ ⟨by omega, by omega⟩ (hT) (by first | assumption | omega) (by first | assumption | omega) _) ?_
            rintro _ T1 ⟨hHT1, w18, rfl, w14, w15, w16⟩
            have hFT1 : FR md_to_scanWord__2 S T1 := FR.tr hF w18 rfl
            show Rl _ _ _ _ _ [] _ _
            refine l_iload rfl rfl ?_
            refine l_ireturn rfl rfl ?_
            have w19 : 0 ≤ Xi T1 876 7 ∧ Xi T1 876 7 ≤ 5125 := hHT1.c _ _
            exact ⟨hHT1, hFT1, _, rfl, ⟨by omega, by omega⟩, (by first | exact hT | assumption), (by omega), (by omega), (by omega), (by first | assumption | exact KTK.rf)⟩
          · refine l_iconst rfl ?_
            refine l_ireturn rfl rfl ?_
            exact ⟨hH, hF, _, rfl, ⟨by omega, by omega⟩, (by first | exact hT | assumption), (by omega), (by omega), (by omega), (by first | assumption | exact KTK.rf)⟩
      refine l_iload rfl rfl ?_
      refine l_iload_n rfl rfl ?_
      refine l_icmp_ge rfl rfl (by unfold rg; omega) (by unfold rg; omega) (fun w21 => ?_) (fun w22 => ?_)
      · exact Rl_weak (C61 (v3) (v5) (by omega) (by omega)) (And.intro rfl (And.intro rfl (And.intro rfl (And.intro rfl (True.intro)))))
      · refine l_aload_n rfl rfl ?_
        refine l_gfr rfl rfl rfl rfl rfl ((hF 876 4 rfl).2.2.trans hts) ?_
        refine l_iload rfl rfl ?_
        refine l_baload (n := 5000) rfl (tp_sv (by assumption)) (lay_tp (by assumption)) (by decide) (by omega) (by omega) (by unfold rg; omega) ?_
        have w24 : -128 ≤ (Xi S ts ((v5).toNat)) ∧ (Xi S ts ((v5).toNat)) ≤ 127 := tpc hH (by assumption)
        refine l_callS rfl rfl (by decide) rfl (t_rs_letterOf hH (Xi S ts ((v5).toNat)) ⟨by omega, by omega⟩ _) ?_
        rintro _ _ ⟨rfl, z25, rfl, w25⟩
        show Rl _ _ _ _ _ [iv z25] _ _
        refine l_if_le rfl rfl (by unfold rg; omega) (fun w26 => ?_) (fun w27 => ?_)
        · exact Rl_weak (C61 (v3) (v5) (by omega) (by omega)) (And.intro rfl (And.intro rfl (And.intro rfl (And.intro rfl (True.intro)))))
        · refine l_iload rfl rfl ?_
          refine l_iload_n rfl rfl ?_
          refine l_isub rfl ?_
          refine l_bipush rfl rfl ?_
          refine l_icmp_ge rfl rfl (by unfold rg; omega) (by unfold rg; omega) (fun w28 => ?_) (fun w29 => ?_)
          · refine l_lload_n rfl rfl ?_
            refine l_lstore_n rfl rfl rfl rfl ?_
            refine l_iinc rfl rfl rfl rfl ?_
            refine l_goto rfl rfl ?_
            exact Rl_weak (ih5 _ (by omega) (v3) ((v5 + 1)) (by omega) (by omega) rfl) (And.intro rfl (And.intro rfl (And.intro rfl (And.intro rfl (And.intro rfl (True.intro))))))
          · refine l_lload_n rfl rfl ?_
            refine l_ldc2 (z := 27) rfl rfl ?_
            refine l_lmul rfl ?_
            refine l_aload_n rfl rfl ?_
            refine l_gfr rfl rfl rfl rfl rfl ((hF 876 4 rfl).2.2.trans hts) ?_
            refine l_iload rfl rfl ?_
            refine l_baload (n := 5000) rfl (tp_sv (by assumption)) (lay_tp (by assumption)) (by decide) (by omega) (by omega) (by unfold rg; omega) ?_
            refine l_callS rfl rfl (by decide) rfl (t_rs_letterOf hH (Xi S ts ((v5).toNat)) ⟨by omega, by omega⟩ _) ?_
            rintro _ _ ⟨rfl, z31, rfl, w31⟩
            show Rl _ _ _ _ _ [iv z31, jw (v3 * 27)] _ _
            refine l_i2l rfl (by unfold rg; omega) ?_
            refine l_ladd rfl ?_
            refine l_goto rfl rfl ?_
            refine l_lstore_n rfl rfl rfl rfl ?_
            refine l_iinc rfl rfl rfl rfl ?_
            refine l_goto rfl rfl ?_
            exact Rl_weak (ih5 _ (by omega) (((v3 * 27) + z31)) ((v5 + 1)) (by omega) (by omega) rfl) (And.intro rfl (And.intro rfl (And.intro rfl (And.intro rfl (And.intro rfl (True.intro))))))
  refine l_lconst (z := 0) rfl rfl ?_
  refine l_lstore_n rfl rfl rfl rfl ?_
  refine l_iload_n rfl rfl ?_
  refine l_istore rfl rfl rfl ?_
  exact Rl_weak (C5 _ (0) (from_) (by omega) (by omega) rfl) (And.intro rfl (And.intro rfl (And.intro rfl (And.intro rfl (And.intro rfl (True.intro))))))
def md_to_scanNumber__2 : List rec := [(876, 877, 7, 8), (877, 878, 0, 100000), (878, 879, 0, 100000), (879, 880, 0, 100000)]
abbrev Q_to_scanNumber__2 (S : sS) (ts : Nat) (from_ : Int) : pst := fun r S1 => HI S1 ∧ FR md_to_scanNumber__2 S S1 ∧ (∃ z : Int, r = some (iv z) ∧ (-1 ≤ z ∧ z ≤ 5000) ∧ (TOK S1) ∧ (z = -1 ∨ (from_ < z ∧ z ≤ Xi S 876 5)) ∧ (Xi S 876 7 ≤ Xi S1 876 7 ∧ Xi S1 876 7 ≤ Xi S 876 7 + 1) ∧ ((z ≠ -1 → 1 ≤ Xi S1 876 7) ∧ (z = -1 → Xi S1 876 7 = Xi S 876 7)) ∧ (KTK S S1 (Xi S 876 7)))
set_option maxRecDepth 100000 in
theorem t_to_scanNumber__2 {S : sS} (hH : HI S) (ts : Nat) (from_ : Int) (hfrom_ : 0 ≤ from_ ∧ from_ ≤ 4999) (hts : S.2.2 876 4 = some ts) (htp : tp ts) (hT : TOK S) (hrow : Xi S 876 7 ≤ 5124) (hb : 48 ≤ Xi S ts from_.toNat ∧ Xi S ts from_.toNat ≤ 57) (he : from_ < Xi S 876 5) (d : Nat) : Mt lay0 (d + 2) m_to_scanNumber [.ref 876, iv from_] S (Q_to_scanNumber__2 S ts from_) := by
  refine Mt_R rfl rfl ?_
  have hF : FR md_to_scanNumber__2 S S := FR.rf
  have w1 : 0 ≤ Xi S 876 5 ∧ Xi S 876 5 ≤ 5000 := hH.c _ _
  have w2 : 0 ≤ Xi S 876 7 ∧ Xi S 876 7 ≤ 5125 := hH.c _ _
  have C4 : ∀ (n4 : Nat) (v2 : Int) (v3 : Int), (0 ≤ v2 ∧ v2 ≤ 999999) → (0 ≤ v3 ∧ v3 ≤ 5000) → (from_ ≤ v3 ∧ v3 ≤ Xi S 876 5) → (v3 = from_ → 48 ≤ Xi S ts v3.toNat ∧ Xi S ts v3.toNat ≤ 57) → (v3 = from_ → v2 = 0) → (v3 = from_ + 1 → v2 ≤ 9) → (v3 = from_ + 2 → v2 ≤ 99) → (v3 = from_ + 3 → v2 ≤ 999) → (v3 = from_ + 4 → v2 ≤ 9999) → (v3 = from_ + 5 → v2 ≤ 99999) → n4 = (5001 - v3).toNat → Rl lay0 (d + 1) m_to_scanNumber 4 [(0, .ref 876), (1, iv from_), (2, iv v2), (3, iv v3)] [] S (Q_to_scanNumber__2 S ts from_) := by
    intro n4
    induction n4 using Nat.strongRecOn with
    | ind n4 ih4 =>
      intro v2 v3 w3 w4 w5 w6 w7 w8 w9 w10 w11 w12 hm4
      have C67 : ∀  (v2 : Int) (v3 : Int), (0 ≤ v2 ∧ v2 ≤ 999999) → (0 ≤ v3 ∧ v3 ≤ 5000) → (from_ < v3 ∧ v3 ≤ Xi S 876 5) → Rl lay0 (d + 1) m_to_scanNumber 67 [(0, .ref 876), (1, iv from_), (2, iv v2), (3, iv v3)] [] S (Q_to_scanNumber__2 S ts from_) := by
        intro v2 v3 w13 w14 w15
        refine l_iload_n rfl rfl ?_
        refine l_iload_n rfl rfl ?_
        refine l_isub rfl ?_
        refine l_bipush rfl rfl ?_
        refine l_icmp_le rfl rfl (by unfold rg; omega) (by unfold rg; omega) (fun w16 => ?_) (fun w17 => ?_)
        · refine l_aload_n rfl rfl ?_
          refine l_bipush rfl rfl ?_
          refine l_iload_n rfl rfl ?_
          refine l_iload_n rfl rfl ?_
          refine l_i2l rfl (by unfold rg; omega) ?_
          refine l_callV rfl rfl rfl (t_to_note__2 hH 101 from_ v2 ⟨by omega, by omega⟩ ⟨by omega, by omega⟩ (hT) (by first | assumption | omega) (by first | assumption | omega) _) ?_
          rintro _ T1 ⟨hHT1, w24, rfl, w20, w21, w22⟩
          have hFT1 : FR md_to_scanNumber__2 S T1 := FR.tr hF w24 rfl
          show Rl _ _ _ _ _ [] _ _
          refine l_iload_n rfl rfl ?_
          refine l_ireturn rfl rfl ?_
          have w25 : 0 ≤ Xi T1 876 7 ∧ Xi T1 876 7 ≤ 5125 := hHT1.c _ _
          exact ⟨hHT1, hFT1, _, rfl, ⟨by omega, by omega⟩, (by first | exact hT | assumption), (by omega), (by omega), (by omega), (by first | assumption | exact KTK.rf)⟩
        · refine l_iconst rfl ?_
          refine l_ireturn rfl rfl ?_
          exact ⟨hH, hF, _, rfl, ⟨by omega, by omega⟩, (by first | exact hT | assumption), (by omega), (by omega), (by omega), (by first | assumption | exact KTK.rf)⟩
      refine l_iload_n rfl rfl ?_
      refine l_aload_n rfl rfl ?_
      refine l_gfi rfl rfl rfl rfl rfl ?_
      refine l_icmp_ge rfl rfl (by unfold rg; omega) (by unfold rg; omega) (fun w27 => ?_) (fun w28 => ?_)
      · exact Rl_weak (C67 (v2) (v3) (by omega) (by omega) (by omega)) (And.intro rfl (And.intro rfl (And.intro rfl (And.intro rfl (True.intro)))))
      · refine l_aload_n rfl rfl ?_
        refine l_gfr rfl rfl rfl rfl rfl ((hF 876 4 rfl).2.2.trans hts) ?_
        refine l_iload_n rfl rfl ?_
        refine l_baload (n := 5000) rfl (tp_sv (by assumption)) (lay_tp (by assumption)) (by decide) (by omega) (by omega) (by unfold rg; omega) ?_
        have w30 : -128 ≤ (Xi S ts ((v3).toNat)) ∧ (Xi S ts ((v3).toNat)) ≤ 127 := tpc hH (by assumption)
        refine l_bipush rfl rfl ?_
        refine l_icmp_lt rfl rfl (by unfold rg; omega) (by unfold rg; omega) (fun w31 => ?_) (fun w32 => ?_)
        · exact Rl_weak (C67 (v2) (v3) (by omega) (by omega) (by omega)) (And.intro rfl (And.intro rfl (And.intro rfl (And.intro rfl (True.intro)))))
        · refine l_aload_n rfl rfl ?_
          refine l_gfr rfl rfl rfl rfl rfl ((hF 876 4 rfl).2.2.trans hts) ?_
          refine l_iload_n rfl rfl ?_
          refine l_baload (n := 5000) rfl (tp_sv (by assumption)) (lay_tp (by assumption)) (by decide) (by omega) (by omega) (by unfold rg; omega) ?_
          refine l_bipush rfl rfl ?_
          refine l_icmp_gt rfl rfl (by unfold rg; omega) (by unfold rg; omega) (fun w34 => ?_) (fun w35 => ?_)
          · exact Rl_weak (C67 (v2) (v3) (by omega) (by omega) (by omega)) (And.intro rfl (And.intro rfl (And.intro rfl (And.intro rfl (True.intro)))))
          · refine l_iload_n rfl rfl ?_
            refine l_iload_n rfl rfl ?_
            refine l_isub rfl ?_
            refine l_bipush rfl rfl ?_
            refine l_icmp_ge rfl rfl (by unfold rg; omega) (by unfold rg; omega) (fun w36 => ?_) (fun w37 => ?_)
            · refine l_iload_n rfl rfl ?_
              refine l_istore_n rfl rfl rfl ?_
              refine l_iinc rfl rfl rfl rfl ?_
              refine l_goto rfl rfl ?_
              exact Rl_weak (ih4 _ (by omega) (v2) ((v3 + 1)) (by omega) (by omega) (by omega) (by omega) (by omega) (by omega) (by omega) (by omega) (by omega) (by omega) rfl) (And.intro rfl (And.intro rfl (And.intro rfl (And.intro rfl (True.intro)))))
            · refine l_iload_n rfl rfl ?_
              refine l_bipush rfl rfl ?_
              refine l_imul rfl ?_
              refine l_aload_n rfl rfl ?_
              refine l_gfr rfl rfl rfl rfl rfl ((hF 876 4 rfl).2.2.trans hts) ?_
              refine l_iload_n rfl rfl ?_
              refine l_baload (n := 5000) rfl (tp_sv (by assumption)) (lay_tp (by assumption)) (by decide) (by omega) (by omega) (by unfold rg; omega) ?_
              refine l_iadd rfl ?_
              refine l_bipush rfl rfl ?_
              refine l_isub rfl ?_
              refine l_goto rfl rfl ?_
              refine l_istore_n rfl rfl rfl ?_
              refine l_iinc rfl rfl rfl rfl ?_
              refine l_goto rfl rfl ?_
              exact Rl_weak (ih4 _ (by omega) ((((v2 * 10) + (Xi S ts ((v3).toNat))) - 48)) ((v3 + 1)) (by omega) (by omega) (by omega) (by omega) (by omega) (by omega) (by omega) (by omega) (by omega) (by omega) rfl) (And.intro rfl (And.intro rfl (And.intro rfl (And.intro rfl (True.intro)))))
  refine l_iconst rfl ?_
  refine l_istore_n rfl rfl rfl ?_
  refine l_iload_n rfl rfl ?_
  refine l_istore_n rfl rfl rfl ?_
  exact Rl_weak (C4 _ (0) (from_) (by omega) (by omega) (by omega) (by omega) (by omega) (by omega) (by omega) (by omega) (by omega) (by omega) rfl) (And.intro rfl (And.intro rfl (And.intro rfl (And.intro rfl (True.intro)))))
def md_to_scanText__2 : List rec := [(876, 877, 7, 8), (877, 878, 0, 100000), (878, 879, 0, 100000), (879, 880, 0, 100000)]
abbrev Q_to_scanText__2 (S : sS) (ts : Nat) (from_ : Int) : pst := fun r S1 => HI S1 ∧ FR md_to_scanText__2 S S1 ∧ (∃ z : Int, r = some (iv z) ∧ (-1 ≤ z ∧ z ≤ 5000) ∧ (TOK S1) ∧ (z = -1 ∨ (from_ < z ∧ z ≤ Xi S 876 5)) ∧ (Xi S 876 7 ≤ Xi S1 876 7 ∧ Xi S1 876 7 ≤ Xi S 876 7 + 1) ∧ ((z ≠ -1 → 1 ≤ Xi S1 876 7) ∧ (z = -1 → Xi S1 876 7 = Xi S 876 7)) ∧ (KTK S S1 (Xi S 876 7)))
set_option maxRecDepth 100000 in
theorem t_to_scanText__2 {S : sS} (hH : HI S) (ts : Nat) (from_ : Int) (hfrom_ : 0 ≤ from_ ∧ from_ ≤ 4999) (hts : S.2.2 876 4 = some ts) (htp : tp ts) (hT : TOK S) (hrow : Xi S 876 7 ≤ 5124) (he : from_ < Xi S 876 5) (d : Nat) : Mt lay0 (d + 2) m_to_scanText [.ref 876, iv from_] S (Q_to_scanText__2 S ts from_) := by
  refine Mt_R rfl rfl ?_
  have hF : FR md_to_scanText__2 S S := FR.rf
  have w1 : 0 ≤ Xi S 876 5 ∧ Xi S 876 5 ≤ 5000 := hH.c _ _
  have w2 : 0 ≤ Xi S 876 7 ∧ Xi S 876 7 ≤ 5125 := hH.c _ _
  have C4 : ∀ (n4 : Nat) (v2 : Int), (1 ≤ v2 ∧ v2 ≤ 5000) → (from_ < v2 ∧ v2 ≤ Xi S 876 5) → n4 = (5001 - v2).toNat → Rl lay0 (d + 1) m_to_scanText 4 [(0, .ref 876), (1, iv from_), (2, iv v2)] [] S (Q_to_scanText__2 S ts from_) := by
    intro n4
    induction n4 using Nat.strongRecOn with
    | ind n4 ih4 =>
      intro v2 w3 w4 hm4
      have C53 : ∀  (v2 : Int), (1 ≤ v2 ∧ v2 ≤ 5000) → (from_ < v2 ∧ v2 ≤ Xi S 876 5) → Rl lay0 (d + 1) m_to_scanText 53 [(0, .ref 876), (1, iv from_), (2, iv v2)] [] S (Q_to_scanText__2 S ts from_) := by
        intro v2 w5 w6
        refine l_iload_n rfl rfl ?_
        refine l_aload_n rfl rfl ?_
        refine l_gfi rfl rfl rfl rfl rfl ?_
        refine l_icmp_ge rfl rfl (by unfold rg; omega) (by unfold rg; omega) (fun w7 => ?_) (fun w8 => ?_)
        · refine l_iconst rfl ?_
          refine l_ireturn rfl rfl ?_
          exact ⟨hH, hF, _, rfl, ⟨by omega, by omega⟩, (by first | exact hT | assumption), (by omega), (by omega), (by omega), (by first | assumption | exact KTK.rf)⟩
        · refine l_iload_n rfl rfl ?_
          refine l_iload_n rfl rfl ?_
          refine l_isub rfl ?_
          refine l_iconst rfl ?_
          refine l_isub rfl ?_
          refine l_bipush rfl rfl ?_
          refine l_icmp_le rfl rfl (by unfold rg; omega) (by unfold rg; omega) (fun w10 => ?_) (fun w11 => ?_)
          · refine l_aload_n rfl rfl ?_
            refine l_bipush rfl rfl ?_
            refine l_iload_n rfl rfl ?_
            refine l_iload_n rfl rfl ?_
            refine l_iload_n rfl rfl ?_
            refine l_isub rfl ?_
            refine l_iconst rfl ?_
            refine l_isub rfl ?_
            refine l_i2l rfl (by unfold rg; omega) ?_
            refine l_callV rfl rfl rfl (t_to_note__2 hH 102 from_ ((v2 - from_) - 1) ⟨by omega, by omega⟩ ⟨by omega, by omega⟩ (hT) (by first | assumption | omega) (by first | assumption | omega) _) ?_
            rintro _ T1 ⟨hHT1, w18, rfl, w14, w15, w16⟩
            have hFT1 : FR md_to_scanText__2 S T1 := FR.tr hF w18 rfl
            show Rl _ _ _ _ _ [] _ _
            refine l_iload_n rfl rfl ?_
            refine l_iconst rfl ?_
            refine l_iadd rfl ?_
            refine l_ireturn rfl rfl ?_
            have w19 : 0 ≤ Xi T1 876 7 ∧ Xi T1 876 7 ≤ 5125 := hHT1.c _ _
            exact ⟨hHT1, hFT1, _, rfl, ⟨by omega, by omega⟩, (by first | exact hT | assumption), (by omega), (by omega), (by omega), (by first | assumption | exact KTK.rf)⟩
          · refine l_iconst rfl ?_
            refine l_ireturn rfl rfl ?_
            exact ⟨hH, hF, _, rfl, ⟨by omega, by omega⟩, (by first | exact hT | assumption), (by omega), (by omega), (by omega), (by first | assumption | exact KTK.rf)⟩
      refine l_iload_n rfl rfl ?_
      refine l_aload_n rfl rfl ?_
      refine l_gfi rfl rfl rfl rfl rfl ?_
      refine l_icmp_ge rfl rfl (by unfold rg; omega) (by unfold rg; omega) (fun w21 => ?_) (fun w22 => ?_)
      · exact Rl_weak (C53 (v2) (by omega) (by omega)) (And.intro rfl (And.intro rfl (And.intro rfl (True.intro))))
      · refine l_aload_n rfl rfl ?_
        refine l_gfr rfl rfl rfl rfl rfl ((hF 876 4 rfl).2.2.trans hts) ?_
        refine l_iload_n rfl rfl ?_
        refine l_baload (n := 5000) rfl (tp_sv (by assumption)) (lay_tp (by assumption)) (by decide) (by omega) (by omega) (by unfold rg; omega) ?_
        have w24 : -128 ≤ (Xi S ts ((v2).toNat)) ∧ (Xi S ts ((v2).toNat)) ≤ 127 := tpc hH (by assumption)
        refine l_bipush rfl rfl ?_
        refine l_icmp_eq rfl rfl (by unfold rg; omega) (by unfold rg; omega) (fun w25 => ?_) (fun w26 => ?_)
        · exact Rl_weak (C53 (v2) (by omega) (by omega)) (And.intro rfl (And.intro rfl (And.intro rfl (True.intro))))
        · refine l_aload_n rfl rfl ?_
          refine l_gfr rfl rfl rfl rfl rfl ((hF 876 4 rfl).2.2.trans hts) ?_
          refine l_iload_n rfl rfl ?_
          refine l_baload (n := 5000) rfl (tp_sv (by assumption)) (lay_tp (by assumption)) (by decide) (by omega) (by omega) (by unfold rg; omega) ?_
          refine l_bipush rfl rfl ?_
          refine l_icmp_lt rfl rfl (by unfold rg; omega) (by unfold rg; omega) (fun w28 => ?_) (fun w29 => ?_)
          · refine l_iconst rfl ?_
            refine l_ireturn rfl rfl ?_
            exact ⟨hH, hF, _, rfl, ⟨by omega, by omega⟩, (by first | exact hT | assumption), (by omega), (by omega), (by omega), (by first | assumption | exact KTK.rf)⟩
          · refine l_aload_n rfl rfl ?_
            refine l_gfr rfl rfl rfl rfl rfl ((hF 876 4 rfl).2.2.trans hts) ?_
            refine l_iload_n rfl rfl ?_
            refine l_baload (n := 5000) rfl (tp_sv (by assumption)) (lay_tp (by assumption)) (by decide) (by omega) (by omega) (by unfold rg; omega) ?_
            refine l_bipush rfl rfl ?_
            refine l_icmp_le rfl rfl (by unfold rg; omega) (by unfold rg; omega) (fun w32 => ?_) (fun w33 => ?_)
            · refine l_iinc rfl rfl rfl rfl ?_
              refine l_goto rfl rfl ?_
              exact Rl_weak (ih4 _ (by omega) ((v2 + 1)) (by omega) (by omega) rfl) (And.intro rfl (And.intro rfl (And.intro rfl (True.intro))))
            · refine l_iconst rfl ?_
              refine l_ireturn rfl rfl ?_
              exact ⟨hH, hF, _, rfl, ⟨by omega, by omega⟩, (by first | exact hT | assumption), (by omega), (by omega), (by omega), (by first | assumption | exact KTK.rf)⟩
  refine l_iload_n rfl rfl ?_
  refine l_iconst rfl ?_
  refine l_iadd rfl ?_
  refine l_istore_n rfl rfl rfl ?_
  exact Rl_weak (C4 _ ((from_ + 1)) (by omega) (by omega) rfl) (And.intro rfl (And.intro rfl (And.intro rfl (True.intro))))
def md_to_scan__2 : List rec := [(876, 877, 7, 8), (877, 878, 0, 100000), (878, 879, 0, 100000), (879, 880, 0, 100000)]
abbrev Q_to_scan__2 (S : sS) (ts : Nat) (p : Int) : pst := fun r S1 => HI S1 ∧ FR md_to_scan__2 S S1 ∧ (∃ z : Int, r = some (iv z) ∧ (-1 ≤ z ∧ z ≤ 5000) ∧ (TOK S1) ∧ (z = -1 ∨ (p < z ∧ z ≤ Xi S 876 5)) ∧ (Xi S 876 7 ≤ Xi S1 876 7 ∧ Xi S1 876 7 ≤ Xi S 876 7 + 1) ∧ ((z ≠ -1 → 1 ≤ Xi S1 876 7) ∧ (z = -1 → Xi S1 876 7 = Xi S 876 7)) ∧ (KTK S S1 (Xi S 876 7)))
set_option maxRecDepth 100000 in
theorem t_to_scan__2 {S : sS} (hH : HI S) (ts : Nat) (p : Int) (hp : 0 ≤ p ∧ p ≤ 4999) (hts : S.2.2 876 4 = some ts) (htp : tp ts) (hT : TOK S) (hrow : Xi S 876 7 ≤ 5124) (he : p < Xi S 876 5) (d : Nat) : Mt lay0 (d + 3) m_to_scan [.ref 876, iv p] S (Q_to_scan__2 S ts p) := by
  refine Mt_R rfl rfl ?_
  have hF : FR md_to_scan__2 S S := FR.rf
  have w1 : 0 ≤ Xi S 876 5 ∧ Xi S 876 5 ≤ 5000 := hH.c _ _
  have w2 : 0 ≤ Xi S 876 7 ∧ Xi S 876 7 ≤ 5125 := hH.c _ _
  refine l_aload_n rfl rfl ?_
  refine l_gfr rfl rfl rfl rfl rfl ((hF 876 4 rfl).2.2.trans hts) ?_
  refine l_iload_n rfl rfl ?_
  refine l_baload (n := 5000) rfl (tp_sv (by assumption)) (lay_tp (by assumption)) (by decide) (by omega) (by omega) (by unfold rg; omega) ?_
  have w4 : -128 ≤ (Xi S ts ((p).toNat)) ∧ (Xi S ts ((p).toNat)) ≤ 127 := tpc hH (by assumption)
  refine l_istore_n rfl rfl rfl ?_
  refine l_iload_n rfl rfl ?_
  refine l_callS rfl rfl (by decide) rfl (t_rs_letterOf hH (Xi S ts ((p).toNat)) ⟨by omega, by omega⟩ _) ?_
  rintro _ _ ⟨rfl, z5, rfl, w5⟩
  show Rl _ _ _ _ _ [iv z5] _ _
  refine l_if_le rfl rfl (by unfold rg; omega) (fun w6 => ?_) (fun w7 => ?_)
  · refine l_iload_n rfl rfl ?_
    refine l_bipush rfl rfl ?_
    refine l_icmp_lt rfl rfl (by unfold rg; omega) (by unfold rg; omega) (fun w8 => ?_) (fun w9 => ?_)
    · refine l_iload_n rfl rfl ?_
      refine l_bipush rfl rfl ?_
      refine l_icmp_ne rfl rfl (by unfold rg; omega) (by unfold rg; omega) (fun w10 => ?_) (fun w11 => ?_)
      · refine l_iload_n rfl rfl ?_
        refine l_bipush rfl rfl ?_
        refine l_icmp_eq rfl rfl (by unfold rg; omega) (by unfold rg; omega) (fun w12 => ?_) (fun w13 => ?_)
        · refine l_aload_n rfl rfl ?_
          refine l_iload_n rfl rfl ?_
          refine l_bipush rfl rfl ?_
          refine l_icmp_ne rfl rfl (by unfold rg; omega) (by unfold rg; omega) (fun w14 => ?_) (fun w15 => ?_)
          · refine l_bipush rfl rfl ?_
            refine l_iload_n rfl rfl ?_
            refine l_lconst (z := 0) rfl rfl ?_
            refine l_callV rfl rfl rfl (t_to_note__2 hH 104 p 0 ⟨by omega, by omega⟩ ⟨by omega, by omega⟩ (hT) (by first | assumption | omega) (by first | assumption | omega) _) ?_
            rintro _ T1 ⟨hHT1, w22, rfl, w18, w19, w20⟩
            have hFT1 : FR md_to_scan__2 S T1 := FR.tr hF w22 rfl
            show Rl _ _ _ _ _ [] _ _
            refine l_iload_n rfl rfl ?_
            refine l_iconst rfl ?_
            refine l_iadd rfl ?_
            refine l_ireturn rfl rfl ?_
            have w23 : 0 ≤ Xi T1 876 7 ∧ Xi T1 876 7 ≤ 5125 := hHT1.c _ _
            exact ⟨hHT1, hFT1, _, rfl, ⟨by omega, by omega⟩, (by first | exact hT | assumption), (by omega), (by omega), (by omega), (by first | assumption | exact KTK.rf)⟩
          · refine l_bipush rfl rfl ?_
            refine l_goto rfl rfl ?_
            refine l_iload_n rfl rfl ?_
            refine l_lconst (z := 0) rfl rfl ?_
            refine l_callV rfl rfl rfl (t_to_note__2 hH 103 p 0 ⟨by omega, by omega⟩ ⟨by omega, by omega⟩ (hT) (by first | assumption | omega) (by first | assumption | omega) _) ?_
            rintro _ T2 ⟨hHT2, w30, rfl, w26, w27, w28⟩
            have hFT2 : FR md_to_scan__2 S T2 := FR.tr hF w30 rfl
            show Rl _ _ _ _ _ [] _ _
            refine l_iload_n rfl rfl ?_
            refine l_iconst rfl ?_
            refine l_iadd rfl ?_
            refine l_ireturn rfl rfl ?_
            have w31 : 0 ≤ Xi T2 876 7 ∧ Xi T2 876 7 ≤ 5125 := hHT2.c _ _
            exact ⟨hHT2, hFT2, _, rfl, ⟨by omega, by omega⟩, (by first | exact hT | assumption), (by omega), (by omega), (by omega), (by first | assumption | exact KTK.rf)⟩
        · refine l_iload_n rfl rfl ?_
          refine l_bipush rfl rfl ?_
          refine l_icmp_ne rfl rfl (by unfold rg; omega) (by unfold rg; omega) (fun w32 => ?_) (fun w33 => ?_)
          · refine l_iload_n rfl rfl ?_
            refine l_bipush rfl rfl ?_
            refine l_icmp_eq rfl rfl (by unfold rg; omega) (by unfold rg; omega) (fun w34 => ?_) (fun w35 => ?_)
            · refine l_aload_n rfl rfl ?_
              refine l_iload_n rfl rfl ?_
              refine l_bipush rfl rfl ?_
              refine l_icmp_ne rfl rfl (by unfold rg; omega) (by unfold rg; omega) (fun w36 => ?_) (fun w37 => ?_)
              · refine l_bipush rfl rfl ?_
                refine l_iload_n rfl rfl ?_
                refine l_lconst (z := 0) rfl rfl ?_
                refine l_callV rfl rfl rfl (t_to_note__2 hH 106 p 0 ⟨by omega, by omega⟩ ⟨by omega, by omega⟩ (hT) (by first | assumption | omega) (by first | assumption | omega) _) ?_
                rintro _ T3 ⟨hHT3, w44, rfl, w40, w41, w42⟩
                have hFT3 : FR md_to_scan__2 S T3 := FR.tr hF w44 rfl
                show Rl _ _ _ _ _ [] _ _
                refine l_iload_n rfl rfl ?_
                refine l_iconst rfl ?_
                refine l_iadd rfl ?_
                refine l_ireturn rfl rfl ?_
                have w45 : 0 ≤ Xi T3 876 7 ∧ Xi T3 876 7 ≤ 5125 := hHT3.c _ _
                exact ⟨hHT3, hFT3, _, rfl, ⟨by omega, by omega⟩, (by first | exact hT | assumption), (by omega), (by omega), (by omega), (by first | assumption | exact KTK.rf)⟩
              · refine l_bipush rfl rfl ?_
                refine l_goto rfl rfl ?_
                refine l_iload_n rfl rfl ?_
                refine l_lconst (z := 0) rfl rfl ?_
                refine l_callV rfl rfl rfl (t_to_note__2 hH 105 p 0 ⟨by omega, by omega⟩ ⟨by omega, by omega⟩ (hT) (by first | assumption | omega) (by first | assumption | omega) _) ?_
                rintro _ T4 ⟨hHT4, w52, rfl, w48, w49, w50⟩
                have hFT4 : FR md_to_scan__2 S T4 := FR.tr hF w52 rfl
                show Rl _ _ _ _ _ [] _ _
                refine l_iload_n rfl rfl ?_
                refine l_iconst rfl ?_
                refine l_iadd rfl ?_
                refine l_ireturn rfl rfl ?_
                have w53 : 0 ≤ Xi T4 876 7 ∧ Xi T4 876 7 ≤ 5125 := hHT4.c _ _
                exact ⟨hHT4, hFT4, _, rfl, ⟨by omega, by omega⟩, (by first | exact hT | assumption), (by omega), (by omega), (by omega), (by first | assumption | exact KTK.rf)⟩
            · refine l_iload_n rfl rfl ?_
              refine l_bipush rfl rfl ?_
              refine l_icmp_ne rfl rfl (by unfold rg; omega) (by unfold rg; omega) (fun w54 => ?_) (fun w55 => ?_)
              · refine l_iconst rfl ?_
                refine l_ireturn rfl rfl ?_
                exact ⟨hH, hF, _, rfl, ⟨by omega, by omega⟩, (by first | exact hT | assumption), (by omega), (by omega), (by omega), (by first | assumption | exact KTK.rf)⟩
              · refine l_aload_n rfl rfl ?_
                refine l_iload_n rfl rfl ?_
                refine l_bipush rfl rfl ?_
                refine l_icmp_ne rfl rfl (by unfold rg; omega) (by unfold rg; omega) (fun w57 => ?_) (fun w58 => ?_)
                · refine l_bipush rfl rfl ?_
                  refine l_iload_n rfl rfl ?_
                  refine l_lconst (z := 0) rfl rfl ?_
                  refine l_callV rfl rfl rfl (t_to_note__2 hH 106 p 0 ⟨by omega, by omega⟩ ⟨by omega, by omega⟩ (hT) (by first | assumption | omega) (by first | assumption | omega) _) ?_
                  rintro _ T5 ⟨hHT5, w65, rfl, w61, w62, w63⟩
                  have hFT5 : FR md_to_scan__2 S T5 := FR.tr hF w65 rfl
                  show Rl _ _ _ _ _ [] _ _
                  refine l_iload_n rfl rfl ?_
                  refine l_iconst rfl ?_
                  refine l_iadd rfl ?_
                  refine l_ireturn rfl rfl ?_
                  have w66 : 0 ≤ Xi T5 876 7 ∧ Xi T5 876 7 ≤ 5125 := hHT5.c _ _
                  exact ⟨hHT5, hFT5, _, rfl, ⟨by omega, by omega⟩, (by first | exact hT | assumption), (by omega), (by omega), (by omega), (by first | assumption | exact KTK.rf)⟩
                · refine l_bipush rfl rfl ?_
                  refine l_goto rfl rfl ?_
                  refine l_iload_n rfl rfl ?_
                  refine l_lconst (z := 0) rfl rfl ?_
                  refine l_callV rfl rfl rfl (t_to_note__2 hH 105 p 0 ⟨by omega, by omega⟩ ⟨by omega, by omega⟩ (hT) (by first | assumption | omega) (by first | assumption | omega) _) ?_
                  rintro _ T6 ⟨hHT6, w73, rfl, w69, w70, w71⟩
                  have hFT6 : FR md_to_scan__2 S T6 := FR.tr hF w73 rfl
                  show Rl _ _ _ _ _ [] _ _
                  refine l_iload_n rfl rfl ?_
                  refine l_iconst rfl ?_
                  refine l_iadd rfl ?_
                  refine l_ireturn rfl rfl ?_
                  have w74 : 0 ≤ Xi T6 876 7 ∧ Xi T6 876 7 ≤ 5125 := hHT6.c _ _
                  exact ⟨hHT6, hFT6, _, rfl, ⟨by omega, by omega⟩, (by first | exact hT | assumption), (by omega), (by omega), (by omega), (by first | assumption | exact KTK.rf)⟩
          · refine l_aload_n rfl rfl ?_
            refine l_iload_n rfl rfl ?_
            refine l_bipush rfl rfl ?_
            refine l_icmp_ne rfl rfl (by unfold rg; omega) (by unfold rg; omega) (fun w75 => ?_) (fun w76 => ?_)
            · refine l_bipush rfl rfl ?_
              refine l_iload_n rfl rfl ?_
              refine l_lconst (z := 0) rfl rfl ?_
              refine l_callV rfl rfl rfl (t_to_note__2 hH 104 p 0 ⟨by omega, by omega⟩ ⟨by omega, by omega⟩ (hT) (by first | assumption | omega) (by first | assumption | omega) _) ?_
              rintro _ T7 ⟨hHT7, w83, rfl, w79, w80, w81⟩
              have hFT7 : FR md_to_scan__2 S T7 := FR.tr hF w83 rfl
              show Rl _ _ _ _ _ [] _ _
              refine l_iload_n rfl rfl ?_
              refine l_iconst rfl ?_
              refine l_iadd rfl ?_
              refine l_ireturn rfl rfl ?_
              have w84 : 0 ≤ Xi T7 876 7 ∧ Xi T7 876 7 ≤ 5125 := hHT7.c _ _
              exact ⟨hHT7, hFT7, _, rfl, ⟨by omega, by omega⟩, (by first | exact hT | assumption), (by omega), (by omega), (by omega), (by first | assumption | exact KTK.rf)⟩
            · refine l_bipush rfl rfl ?_
              refine l_goto rfl rfl ?_
              refine l_iload_n rfl rfl ?_
              refine l_lconst (z := 0) rfl rfl ?_
              refine l_callV rfl rfl rfl (t_to_note__2 hH 103 p 0 ⟨by omega, by omega⟩ ⟨by omega, by omega⟩ (hT) (by first | assumption | omega) (by first | assumption | omega) _) ?_
              rintro _ T8 ⟨hHT8, w91, rfl, w87, w88, w89⟩
              have hFT8 : FR md_to_scan__2 S T8 := FR.tr hF w91 rfl
              show Rl _ _ _ _ _ [] _ _
              refine l_iload_n rfl rfl ?_
              refine l_iconst rfl ?_
              refine l_iadd rfl ?_
              refine l_ireturn rfl rfl ?_
              have w92 : 0 ≤ Xi T8 876 7 ∧ Xi T8 876 7 ≤ 5125 := hHT8.c _ _
              exact ⟨hHT8, hFT8, _, rfl, ⟨by omega, by omega⟩, (by first | exact hT | assumption), (by omega), (by omega), (by omega), (by first | assumption | exact KTK.rf)⟩
      · refine l_aload_n rfl rfl ?_
        refine l_iload_n rfl rfl ?_
        refine l_callV rfl rfl rfl (t_to_scanText__2 hH ts p ⟨by omega, by omega⟩ ((hF 876 4 rfl).2.2.trans hts) htp (hT) (by first | assumption | omega) (by first | assumption | omega) _) ?_
        rintro _ T9 ⟨hHT9, w101, z100, rfl, w100, w95, w96, w97, w98, w99⟩
        have hFT9 : FR md_to_scan__2 S T9 := FR.tr hF w101 rfl
        show Rl _ _ _ _ _ [iv z100] _ _
        refine l_ireturn rfl rfl ?_
        have w102 : 0 ≤ Xi T9 876 7 ∧ Xi T9 876 7 ≤ 5125 := hHT9.c _ _
        exact ⟨hHT9, hFT9, _, rfl, ⟨by omega, by omega⟩, (by first | exact hT | assumption), (by omega), (by omega), (by omega), (by first | assumption | exact KTK.rf)⟩
    · refine l_iload_n rfl rfl ?_
      refine l_bipush rfl rfl ?_
      refine l_icmp_gt rfl rfl (by unfold rg; omega) (by unfold rg; omega) (fun w103 => ?_) (fun w104 => ?_)
      · refine l_iload_n rfl rfl ?_
        refine l_bipush rfl rfl ?_
        refine l_icmp_ne rfl rfl (by unfold rg; omega) (by unfold rg; omega) (fun w105 => ?_) (fun w106 => ?_)
        · refine l_iload_n rfl rfl ?_
          refine l_bipush rfl rfl ?_
          refine l_icmp_eq rfl rfl (by unfold rg; omega) (by unfold rg; omega) (fun w107 => ?_) (fun w108 => ?_)
          · refine l_aload_n rfl rfl ?_
            refine l_iload_n rfl rfl ?_
            refine l_bipush rfl rfl ?_
            refine l_icmp_ne rfl rfl (by unfold rg; omega) (by unfold rg; omega) (fun w109 => ?_) (fun w110 => ?_)
            · refine l_bipush rfl rfl ?_
              refine l_iload_n rfl rfl ?_
              refine l_lconst (z := 0) rfl rfl ?_
              refine l_callV rfl rfl rfl (t_to_note__2 hH 104 p 0 ⟨by omega, by omega⟩ ⟨by omega, by omega⟩ (hT) (by first | assumption | omega) (by first | assumption | omega) _) ?_
              rintro _ T10 ⟨hHT10, w117, rfl, w113, w114, w115⟩
              have hFT10 : FR md_to_scan__2 S T10 := FR.tr hF w117 rfl
              show Rl _ _ _ _ _ [] _ _
              refine l_iload_n rfl rfl ?_
              refine l_iconst rfl ?_
              refine l_iadd rfl ?_
              refine l_ireturn rfl rfl ?_
              have w118 : 0 ≤ Xi T10 876 7 ∧ Xi T10 876 7 ≤ 5125 := hHT10.c _ _
              exact ⟨hHT10, hFT10, _, rfl, ⟨by omega, by omega⟩, (by first | exact hT | assumption), (by omega), (by omega), (by omega), (by first | assumption | exact KTK.rf)⟩
            · refine l_bipush rfl rfl ?_
              refine l_goto rfl rfl ?_
              refine l_iload_n rfl rfl ?_
              refine l_lconst (z := 0) rfl rfl ?_
              refine l_callV rfl rfl rfl (t_to_note__2 hH 103 p 0 ⟨by omega, by omega⟩ ⟨by omega, by omega⟩ (hT) (by first | assumption | omega) (by first | assumption | omega) _) ?_
              rintro _ T11 ⟨hHT11, w125, rfl, w121, w122, w123⟩
              have hFT11 : FR md_to_scan__2 S T11 := FR.tr hF w125 rfl
              show Rl _ _ _ _ _ [] _ _
              refine l_iload_n rfl rfl ?_
              refine l_iconst rfl ?_
              refine l_iadd rfl ?_
              refine l_ireturn rfl rfl ?_
              have w126 : 0 ≤ Xi T11 876 7 ∧ Xi T11 876 7 ≤ 5125 := hHT11.c _ _
              exact ⟨hHT11, hFT11, _, rfl, ⟨by omega, by omega⟩, (by first | exact hT | assumption), (by omega), (by omega), (by omega), (by first | assumption | exact KTK.rf)⟩
          · refine l_iload_n rfl rfl ?_
            refine l_bipush rfl rfl ?_
            refine l_icmp_ne rfl rfl (by unfold rg; omega) (by unfold rg; omega) (fun w127 => ?_) (fun w128 => ?_)
            · refine l_iload_n rfl rfl ?_
              refine l_bipush rfl rfl ?_
              refine l_icmp_eq rfl rfl (by unfold rg; omega) (by unfold rg; omega) (fun w129 => ?_) (fun w130 => ?_)
              · refine l_aload_n rfl rfl ?_
                refine l_iload_n rfl rfl ?_
                refine l_bipush rfl rfl ?_
                refine l_icmp_ne rfl rfl (by unfold rg; omega) (by unfold rg; omega) (fun w131 => ?_) (fun w132 => ?_)
                · refine l_bipush rfl rfl ?_
                  refine l_iload_n rfl rfl ?_
                  refine l_lconst (z := 0) rfl rfl ?_
                  refine l_callV rfl rfl rfl (t_to_note__2 hH 106 p 0 ⟨by omega, by omega⟩ ⟨by omega, by omega⟩ (hT) (by first | assumption | omega) (by first | assumption | omega) _) ?_
                  rintro _ T12 ⟨hHT12, w139, rfl, w135, w136, w137⟩
                  have hFT12 : FR md_to_scan__2 S T12 := FR.tr hF w139 rfl
                  show Rl _ _ _ _ _ [] _ _
                  refine l_iload_n rfl rfl ?_
                  refine l_iconst rfl ?_
                  refine l_iadd rfl ?_
                  refine l_ireturn rfl rfl ?_
                  have w140 : 0 ≤ Xi T12 876 7 ∧ Xi T12 876 7 ≤ 5125 := hHT12.c _ _
                  exact ⟨hHT12, hFT12, _, rfl, ⟨by omega, by omega⟩, (by first | exact hT | assumption), (by omega), (by omega), (by omega), (by first | assumption | exact KTK.rf)⟩
                · refine l_bipush rfl rfl ?_
                  refine l_goto rfl rfl ?_
                  refine l_iload_n rfl rfl ?_
                  refine l_lconst (z := 0) rfl rfl ?_
                  refine l_callV rfl rfl rfl (t_to_note__2 hH 105 p 0 ⟨by omega, by omega⟩ ⟨by omega, by omega⟩ (hT) (by first | assumption | omega) (by first | assumption | omega) _) ?_
                  rintro _ T13 ⟨hHT13, w147, rfl, w143, w144, w145⟩
                  have hFT13 : FR md_to_scan__2 S T13 := FR.tr hF w147 rfl
                  show Rl _ _ _ _ _ [] _ _
                  refine l_iload_n rfl rfl ?_
                  refine l_iconst rfl ?_
                  refine l_iadd rfl ?_
                  refine l_ireturn rfl rfl ?_
                  have w148 : 0 ≤ Xi T13 876 7 ∧ Xi T13 876 7 ≤ 5125 := hHT13.c _ _
                  exact ⟨hHT13, hFT13, _, rfl, ⟨by omega, by omega⟩, (by first | exact hT | assumption), (by omega), (by omega), (by omega), (by first | assumption | exact KTK.rf)⟩
              · refine l_iload_n rfl rfl ?_
                refine l_bipush rfl rfl ?_
                refine l_icmp_ne rfl rfl (by unfold rg; omega) (by unfold rg; omega) (fun w149 => ?_) (fun w150 => ?_)
                · refine l_iconst rfl ?_
                  refine l_ireturn rfl rfl ?_
                  exact ⟨hH, hF, _, rfl, ⟨by omega, by omega⟩, (by first | exact hT | assumption), (by omega), (by omega), (by omega), (by first | assumption | exact KTK.rf)⟩
                · refine l_aload_n rfl rfl ?_
                  refine l_iload_n rfl rfl ?_
                  refine l_bipush rfl rfl ?_
                  refine l_icmp_ne rfl rfl (by unfold rg; omega) (by unfold rg; omega) (fun w152 => ?_) (fun w153 => ?_)
                  · refine l_bipush rfl rfl ?_
                    refine l_iload_n rfl rfl ?_
                    refine l_lconst (z := 0) rfl rfl ?_
                    refine l_callV rfl rfl rfl (t_to_note__2 hH 106 p 0 ⟨by omega, by omega⟩ ⟨by omega, by omega⟩ (hT) (by first | assumption | omega) (by first | assumption | omega) _) ?_
                    rintro _ T14 ⟨hHT14, w160, rfl, w156, w157, w158⟩
                    have hFT14 : FR md_to_scan__2 S T14 := FR.tr hF w160 rfl
                    show Rl _ _ _ _ _ [] _ _
                    refine l_iload_n rfl rfl ?_
                    refine l_iconst rfl ?_
                    refine l_iadd rfl ?_
                    refine l_ireturn rfl rfl ?_
                    have w161 : 0 ≤ Xi T14 876 7 ∧ Xi T14 876 7 ≤ 5125 := hHT14.c _ _
                    exact ⟨hHT14, hFT14, _, rfl, ⟨by omega, by omega⟩, (by first | exact hT | assumption), (by omega), (by omega), (by omega), (by first | assumption | exact KTK.rf)⟩
                  · refine l_bipush rfl rfl ?_
                    refine l_goto rfl rfl ?_
                    refine l_iload_n rfl rfl ?_
                    refine l_lconst (z := 0) rfl rfl ?_
                    refine l_callV rfl rfl rfl (t_to_note__2 hH 105 p 0 ⟨by omega, by omega⟩ ⟨by omega, by omega⟩ (hT) (by first | assumption | omega) (by first | assumption | omega) _) ?_
                    rintro _ T15 ⟨hHT15, w168, rfl, w164, w165, w166⟩
                    have hFT15 : FR md_to_scan__2 S T15 := FR.tr hF w168 rfl
                    show Rl _ _ _ _ _ [] _ _
                    refine l_iload_n rfl rfl ?_
                    refine l_iconst rfl ?_
                    refine l_iadd rfl ?_
                    refine l_ireturn rfl rfl ?_
                    have w169 : 0 ≤ Xi T15 876 7 ∧ Xi T15 876 7 ≤ 5125 := hHT15.c _ _
                    exact ⟨hHT15, hFT15, _, rfl, ⟨by omega, by omega⟩, (by first | exact hT | assumption), (by omega), (by omega), (by omega), (by first | assumption | exact KTK.rf)⟩
            · refine l_aload_n rfl rfl ?_
              refine l_iload_n rfl rfl ?_
              refine l_bipush rfl rfl ?_
              refine l_icmp_ne rfl rfl (by unfold rg; omega) (by unfold rg; omega) (fun w170 => ?_) (fun w171 => ?_)
              · refine l_bipush rfl rfl ?_
                refine l_iload_n rfl rfl ?_
                refine l_lconst (z := 0) rfl rfl ?_
                refine l_callV rfl rfl rfl (t_to_note__2 hH 104 p 0 ⟨by omega, by omega⟩ ⟨by omega, by omega⟩ (hT) (by first | assumption | omega) (by first | assumption | omega) _) ?_
                rintro _ T16 ⟨hHT16, w178, rfl, w174, w175, w176⟩
                have hFT16 : FR md_to_scan__2 S T16 := FR.tr hF w178 rfl
                show Rl _ _ _ _ _ [] _ _
                refine l_iload_n rfl rfl ?_
                refine l_iconst rfl ?_
                refine l_iadd rfl ?_
                refine l_ireturn rfl rfl ?_
                have w179 : 0 ≤ Xi T16 876 7 ∧ Xi T16 876 7 ≤ 5125 := hHT16.c _ _
                exact ⟨hHT16, hFT16, _, rfl, ⟨by omega, by omega⟩, (by first | exact hT | assumption), (by omega), (by omega), (by omega), (by first | assumption | exact KTK.rf)⟩
              · refine l_bipush rfl rfl ?_
                refine l_goto rfl rfl ?_
                refine l_iload_n rfl rfl ?_
                refine l_lconst (z := 0) rfl rfl ?_
                refine l_callV rfl rfl rfl (t_to_note__2 hH 103 p 0 ⟨by omega, by omega⟩ ⟨by omega, by omega⟩ (hT) (by first | assumption | omega) (by first | assumption | omega) _) ?_
                rintro _ T17 ⟨hHT17, w186, rfl, w182, w183, w184⟩
                have hFT17 : FR md_to_scan__2 S T17 := FR.tr hF w186 rfl
                show Rl _ _ _ _ _ [] _ _
                refine l_iload_n rfl rfl ?_
                refine l_iconst rfl ?_
                refine l_iadd rfl ?_
                refine l_ireturn rfl rfl ?_
                have w187 : 0 ≤ Xi T17 876 7 ∧ Xi T17 876 7 ≤ 5125 := hHT17.c _ _
                exact ⟨hHT17, hFT17, _, rfl, ⟨by omega, by omega⟩, (by first | exact hT | assumption), (by omega), (by omega), (by omega), (by first | assumption | exact KTK.rf)⟩
        · refine l_aload_n rfl rfl ?_
          refine l_iload_n rfl rfl ?_
          refine l_callV rfl rfl rfl (t_to_scanText__2 hH ts p ⟨by omega, by omega⟩ ((hF 876 4 rfl).2.2.trans hts) htp (hT) (by first | assumption | omega) (by first | assumption | omega) _) ?_
          rintro _ T18 ⟨hHT18, w196, z195, rfl, w195, w190, w191, w192, w193, w194⟩
          have hFT18 : FR md_to_scan__2 S T18 := FR.tr hF w196 rfl
          show Rl _ _ _ _ _ [iv z195] _ _
          refine l_ireturn rfl rfl ?_
          have w197 : 0 ≤ Xi T18 876 7 ∧ Xi T18 876 7 ≤ 5125 := hHT18.c _ _
          exact ⟨hHT18, hFT18, _, rfl, ⟨by omega, by omega⟩, (by first | exact hT | assumption), (by omega), (by omega), (by omega), (by first | assumption | exact KTK.rf)⟩
      · refine l_aload_n rfl rfl ?_
        refine l_iload_n rfl rfl ?_
        refine l_callV rfl rfl rfl (t_to_scanNumber__2 hH ts p ⟨by omega, by omega⟩ ((hF 876 4 rfl).2.2.trans hts) htp (hT) (by first | assumption | omega) (by omega) (by first | assumption | omega) _) ?_
        rintro _ T19 ⟨hHT19, w206, z205, rfl, w205, w200, w201, w202, w203, w204⟩
        have hFT19 : FR md_to_scan__2 S T19 := FR.tr hF w206 rfl
        show Rl _ _ _ _ _ [iv z205] _ _
        refine l_ireturn rfl rfl ?_
        have w207 : 0 ≤ Xi T19 876 7 ∧ Xi T19 876 7 ≤ 5125 := hHT19.c _ _
        exact ⟨hHT19, hFT19, _, rfl, ⟨by omega, by omega⟩, (by first | exact hT | assumption), (by omega), (by omega), (by omega), (by first | assumption | exact KTK.rf)⟩
  · refine l_aload_n rfl rfl ?_
    refine l_iload_n rfl rfl ?_
    refine l_aload_n rfl rfl ?_
    refine l_gfi rfl rfl rfl rfl rfl ?_
    refine l_callV rfl rfl rfl (t_to_scanWord__2 hH ts p (Xi S 876 5) ⟨by omega, by omega⟩ ⟨by omega, by omega⟩ ((hF 876 4 rfl).2.2.trans hts) htp (hT) (by first | assumption | omega) _) ?_
    rintro _ T20 ⟨hHT20, w215, z214, rfl, w214, w209, w210, w211, w212, w213⟩
    have hFT20 : FR md_to_scan__2 S T20 := FR.tr hF w215 rfl
    show Rl _ _ _ _ _ [iv z214] _ _
    refine l_ireturn rfl rfl ?_
    have w216 : 0 ≤ Xi T20 876 7 ∧ Xi T20 876 7 ≤ 5125 := hHT20.c _ _
    exact ⟨hHT20, hFT20, _, rfl, ⟨by omega, by omega⟩, (by first | exact hT | assumption), (by omega), (by omega), (by omega), (by first | assumption | exact KTK.rf)⟩
def md_to_takeDotBehindText__2 : List rec := [(876, 877, 7, 8), (877, 878, 0, 100000), (878, 879, 0, 100000), (879, 880, 0, 100000)]
abbrev Q_to_takeDotBehindText__2 (S : sS) (ts : Nat) (from_ : Int) : pst := fun r S1 => HI S1 ∧ FR md_to_takeDotBehindText__2 S S1 ∧ (∃ z : Int, r = some (iv z) ∧ (0 ≤ z ∧ z ≤ 5000) ∧ (TOK S1) ∧ (from_ ≤ z ∧ z ≤ Xi S 876 5) ∧ (Xi S 876 7 ≤ Xi S1 876 7 ∧ Xi S1 876 7 ≤ Xi S 876 7 + 1) ∧ (KTK S S1 (Xi S 876 7)))
set_option maxRecDepth 100000 in
theorem t_to_takeDotBehindText__2 {S : sS} (hH : HI S) (ts : Nat) (from_ : Int) (hfrom_ : 0 ≤ from_ ∧ from_ ≤ 5000) (hts : S.2.2 876 4 = some ts) (htp : tp ts) (hT : TOK S) (hrow : Xi S 876 7 ≤ 5124) (he : from_ ≤ Xi S 876 5) (d : Nat) : Mt lay0 (d + 3) m_to_takeDotBehindText [.ref 876, iv from_] S (Q_to_takeDotBehindText__2 S ts from_) := by
  refine Mt_R rfl rfl ?_
  have hF : FR md_to_takeDotBehindText__2 S S := FR.rf
  have w1 : 0 ≤ Xi S 876 5 ∧ Xi S 876 5 ≤ 5000 := hH.c _ _
  have w2 : 0 ≤ Xi S 876 7 ∧ Xi S 876 7 ≤ 5125 := hH.c _ _
  refine l_aload_n rfl rfl ?_
  refine l_iload_n rfl rfl ?_
  refine l_callV rfl rfl rfl (t_to_skip hH ts from_ ⟨by omega, by omega⟩ ((hF 876 4 rfl).2.2.trans hts) htp (by first | assumption | omega) _) ?_
  rintro _ _ ⟨rfl, z5, rfl, w5, w4⟩
  show Rl _ _ _ _ _ [iv z5] _ _
  refine l_istore_n rfl rfl rfl ?_
  refine l_iload_n rfl rfl ?_
  refine l_aload_n rfl rfl ?_
  refine l_gfi rfl rfl rfl rfl rfl ?_
  refine l_icmp_ge rfl rfl (by unfold rg; omega) (by unfold rg; omega) (fun w6 => ?_) (fun w7 => ?_)
  · refine l_iload_n rfl rfl ?_
    refine l_ireturn rfl rfl ?_
    exact ⟨hH, hF, _, rfl, ⟨by omega, by omega⟩, (by first | exact hT | assumption), (by omega), (by omega), (by first | assumption | exact KTK.rf)⟩
  · refine l_aload_n rfl rfl ?_
    refine l_gfr rfl rfl rfl rfl rfl ((hF 876 4 rfl).2.2.trans hts) ?_
    refine l_iload_n rfl rfl ?_
    refine l_baload (n := 5000) rfl (tp_sv (by assumption)) (lay_tp (by assumption)) (by decide) (by omega) (by omega) (by unfold rg; omega) ?_
    have w10 : -128 ≤ (Xi S ts ((z5).toNat)) ∧ (Xi S ts ((z5).toNat)) ≤ 127 := tpc hH (by assumption)
    refine l_bipush rfl rfl ?_
    refine l_icmp_ne rfl rfl (by unfold rg; omega) (by unfold rg; omega) (fun w11 => ?_) (fun w12 => ?_)
    · refine l_iload_n rfl rfl ?_
      refine l_ireturn rfl rfl ?_
      exact ⟨hH, hF, _, rfl, ⟨by omega, by omega⟩, (by first | exact hT | assumption), (by omega), (by omega), (by first | assumption | exact KTK.rf)⟩
    · refine l_aload_n rfl rfl ?_
      refine l_bipush rfl rfl ?_
      refine l_iload_n rfl rfl ?_
      refine l_lconst (z := 0) rfl rfl ?_
      refine l_callV rfl rfl rfl (t_to_note__2 hH 103 z5 0 ⟨by omega, by omega⟩ ⟨by omega, by omega⟩ (hT) (by first | assumption | omega) (by first | assumption | omega) _) ?_
      rintro _ T1 ⟨hHT1, w20, rfl, w16, w17, w18⟩
      have hFT1 : FR md_to_takeDotBehindText__2 S T1 := FR.tr hF w20 rfl
      show Rl _ _ _ _ _ [] _ _
      refine l_iload_n rfl rfl ?_
      refine l_iconst rfl ?_
      refine l_iadd rfl ?_
      refine l_ireturn rfl rfl ?_
      have w21 : 0 ≤ Xi T1 876 7 ∧ Xi T1 876 7 ≤ 5125 := hHT1.c _ _
      exact ⟨hHT1, hFT1, _, rfl, ⟨by omega, by omega⟩, (by first | exact hT | assumption), (by omega), (by omega), (by first | assumption | exact KTK.rf)⟩
def md_to_takeSentence__2 : List rec := [(876, 877, 6, 7), (876, 877, 7, 8), (877, 878, 0, 100000), (878, 879, 0, 100000), (879, 880, 0, 100000)]
abbrev Q_to_takeSentence__2 (S : sS) (ts : Nat) (from_ : Int) : pst := fun r S1 => HI S1 ∧ FR md_to_takeSentence__2 S S1 ∧ (∃ z : Int, r = some (iv z) ∧ (0 ≤ z ∧ z ≤ 5000) ∧ (TOK S1) ∧ (from_ ≤ z ∧ z ≤ Xi S 876 5) ∧ (Xi S1 876 6 = Xi S1 876 7) ∧ (Xi S1 876 7 ≤ 5002) ∧ (1 ≤ Xi S1 876 7) ∧ (ND S1 (Xi S1 876 7 - 1)))
set_option maxRecDepth 100000 in
theorem t_to_takeSentence__2 {S : sS} (hH : HI S) (ts : Nat) (from_ : Int) (hfrom_ : 0 ≤ from_ ∧ from_ ≤ 5000) (hts : S.2.2 876 4 = some ts) (htp : tp ts) (he : from_ ≤ Xi S 876 5) (d : Nat) : Mt lay0 (d + 4) m_to_takeSentence [.ref 876, iv from_] S (Q_to_takeSentence__2 S ts from_) := by
  refine Mt_R rfl rfl ?_
  have hF : FR md_to_takeSentence__2 S S := FR.rf
  have w1 : 0 ≤ Xi S 876 5 ∧ Xi S 876 5 ≤ 5000 := hH.c _ _
  have w2 : 0 ≤ Xi S 876 7 ∧ Xi S 876 7 ≤ 5125 := hH.c _ _
  have C9 : ∀ (n9 : Nat) (T1 : sS) (_ : HI T1) (_ : FR md_to_takeSentence__2 S T1) (v2 : Int) (v3 : Int), (0 ≤ v2 ∧ v2 ≤ 5000) → (0 ≤ v3 ∧ v3 ≤ 1) → (TOK T1) → (from_ ≤ v2 ∧ v2 ≤ Xi T1 876 5) → (Xi T1 876 5 = Xi S 876 5) → (Xi T1 876 7 ≤ v2) → (v3 = 0 → 1 ≤ Xi T1 876 7) → (v3 = 1 → ND T1 (Xi T1 876 7)) → (ND T1 (Xi T1 876 7 - 1)) → n9 = (5001 - v2).toNat → Rl lay0 (d + 3) m_to_takeSentence 9 [(0, .ref 876), (2, iv v2), (3, iv v3)] [] T1 (Q_to_takeSentence__2 S ts from_) := by
    intro n9
    induction n9 using Nat.strongRecOn with
    | ind n9 ih9 =>
      intro T1 hHT1 hFT1 v2 v3 w3 w4 hT9 w5 w6 w7 w8 hd9 he9 hm9
      have w9 : Xi T1 876 5 = Xi S 876 5 := hFT1.x _ _ rfl
      have w10 : 0 ≤ Xi T1 876 5 ∧ Xi T1 876 5 ≤ 5000 := hHT1.c _ _
      have w11 : 0 ≤ Xi T1 876 7 ∧ Xi T1 876 7 ≤ 5125 := hHT1.c _ _
      have C48 : ∀  (T2 : sS) (_ : HI T2) (_ : FR md_to_takeSentence__2 S T2) (v4 : Int), (0 ≤ v4 ∧ v4 ≤ 5000) → (TOK T2) → (from_ ≤ v2 ∧ v2 < v4 ∧ v4 ≤ Xi T2 876 5) → (Xi T2 876 5 = Xi S 876 5) → (1 ≤ Xi T2 876 7 ∧ Xi T2 876 7 ≤ v4) → (ND T2 (Xi T2 876 7 - 1)) → ((5001 - v2).toNat ≤ n9) → Rl lay0 (d + 3) m_to_takeSentence 48 [(0, .ref 876), (4, iv v4)] [] T2 (Q_to_takeSentence__2 S ts from_) := by
        intro T2 hHT2 hFT2 v4 w12 hT48 w13 w14 w15 hd48 w16
        have w17 : Xi T2 876 5 = Xi S 876 5 := hFT2.x _ _ rfl
        have w18 : 0 ≤ Xi T2 876 5 ∧ Xi T2 876 5 ≤ 5000 := hHT2.c _ _
        have w19 : 0 ≤ Xi T2 876 7 ∧ Xi T2 876 7 ≤ 5125 := hHT2.c _ _
        refine l_aload_n rfl rfl ?_
        refine l_gfr rfl rfl rfl rfl rfl (hHT2.r 876 0 877 rfl) ?_
        refine l_aload_n rfl rfl ?_
        refine l_gfi rfl rfl rfl rfl rfl ?_
        refine l_iconst rfl ?_
        refine l_isub rfl ?_
        refine l_iaload (n := 5130) rfl rfl (by omega) (by omega) (by unfold rg; omega) ?_
        have w20 : 0 ≤ (Xi T2 877 ((((Xi T2 876 7) - 1)).toNat)) ∧ (Xi T2 877 ((((Xi T2 876 7) - 1)).toNat)) ≤ 108 := hHT2.c _ _
        refine l_istore rfl rfl rfl ?_
        refine l_iload rfl rfl ?_
        refine l_istore_n rfl rfl rfl ?_
        refine l_iload rfl rfl ?_
        refine l_bipush rfl rfl ?_
        refine l_icmp_eq rfl rfl (by unfold rg; omega) (by unfold rg; omega) (fun w21 => ?_) (fun w22 => ?_)
        · refine l_iconst rfl ?_
          refine l_istore_n rfl rfl rfl ?_
          refine l_iload_n rfl rfl ?_
          refine l_if_eq rfl rfl (by unfold rg; omega) (fun w23 => ?_) (fun w24 => absurd w24 (by omega))
          · refine l_goto rfl rfl ?_
            exact Rl_weak (ih9 _ (by omega) T2 hHT2 hFT2 (v4) (0) (by omega) (by omega) (by first | assumption | exact (by assumption : TOK T2)) (by omega) (by omega) (by omega) (by omega) (by first | (intro q; exfalso; omega) | exact fun _ => nd_0 (by omega) | exact fun _ => nd_s hd48 (by omega)) (by first | exact hd48 | exact nd_0 (by omega)) rfl) (And.intro rfl (And.intro rfl (And.intro rfl (True.intro))))
        · refine l_iload rfl rfl ?_
          refine l_bipush rfl rfl ?_
          refine l_icmp_eq rfl rfl (by unfold rg; omega) (by unfold rg; omega) (fun w27 => ?_) (fun w28 => ?_)
          · refine l_iconst rfl ?_
            refine l_istore_n rfl rfl rfl ?_
            refine l_iload_n rfl rfl ?_
            refine l_if_eq rfl rfl (by unfold rg; omega) (fun w29 => ?_) (fun w30 => absurd w30 (by omega))
            · refine l_goto rfl rfl ?_
              exact Rl_weak (ih9 _ (by omega) T2 hHT2 hFT2 (v4) (0) (by omega) (by omega) (by first | assumption | exact (by assumption : TOK T2)) (by omega) (by omega) (by omega) (by omega) (by first | (intro q; exfalso; omega) | exact fun _ => nd_0 (by omega) | exact fun _ => nd_s hd48 (by omega)) (by first | exact hd48 | exact nd_0 (by omega)) rfl) (And.intro rfl (And.intro rfl (And.intro rfl (True.intro))))
          · refine l_iload rfl rfl ?_
            refine l_bipush rfl rfl ?_
            refine l_icmp_ne rfl rfl (by unfold rg; omega) (by unfold rg; omega) (fun w33 => ?_) (fun w34 => ?_)
            · refine l_iconst rfl ?_
              refine l_goto rfl rfl ?_
              refine l_istore_n rfl rfl rfl ?_
              refine l_iload_n rfl rfl ?_
              refine l_if_eq rfl rfl (by unfold rg; omega) (fun w35 => absurd w35 (by omega)) (fun w36 => ?_)
              · refine l_aload_n rfl rfl ?_
                refine l_iload_n rfl rfl ?_
                refine l_callV rfl rfl rfl (t_to_skip hHT2 ts v4 ⟨by omega, by omega⟩ ((hFT2 876 4 rfl).2.2.trans hts) htp (by first | assumption | omega) _) ?_
                rintro _ _ ⟨rfl, z39, rfl, w39, w38⟩
                show Rl _ _ _ _ _ [iv z39] _ _
                refine l_istore_n rfl rfl rfl ?_
                refine l_goto rfl rfl ?_
                exact Rl_weak (ih9 _ (by omega) T2 hHT2 hFT2 (z39) (1) (by omega) (by omega) (by first | assumption | exact (by assumption : TOK T2)) (by omega) (by omega) (by omega) (by omega) (by first | (intro q; exfalso; omega) | exact fun _ => nd_0 (by omega) | exact fun _ => nd_s hd48 (by omega)) (by first | exact hd48 | exact nd_0 (by omega)) rfl) (And.intro rfl (And.intro rfl (And.intro rfl (True.intro))))
            · refine l_aload_n rfl rfl ?_
              refine l_gfi rfl rfl rfl rfl rfl ?_
              refine l_iconst rfl ?_
              refine l_icmp_eq rfl rfl (by unfold rg; omega) (by unfold rg; omega) (fun w42 => ?_) (fun w43 => ?_)
              · refine l_iconst rfl ?_
                refine l_istore_n rfl rfl rfl ?_
                refine l_iload_n rfl rfl ?_
                refine l_if_eq rfl rfl (by unfold rg; omega) (fun w44 => ?_) (fun w45 => absurd w45 (by omega))
                · refine l_goto rfl rfl ?_
                  exact Rl_weak (ih9 _ (by omega) T2 hHT2 hFT2 (v4) (0) (by omega) (by omega) (by first | assumption | exact (by assumption : TOK T2)) (by omega) (by omega) (by omega) (by omega) (by first | (intro q; exfalso; omega) | exact fun _ => nd_0 (by omega) | exact fun _ => nd_s hd48 (by omega)) (by first | exact hd48 | exact nd_0 (by omega)) rfl) (And.intro rfl (And.intro rfl (And.intro rfl (True.intro))))
              · refine l_iconst rfl ?_
                refine l_goto rfl rfl ?_
                refine l_istore_n rfl rfl rfl ?_
                refine l_iload_n rfl rfl ?_
                refine l_if_eq rfl rfl (by unfold rg; omega) (fun w48 => absurd w48 (by omega)) (fun w49 => ?_)
                · refine l_aload_n rfl rfl ?_
                  refine l_iload_n rfl rfl ?_
                  refine l_callV rfl rfl rfl (t_to_skip hHT2 ts v4 ⟨by omega, by omega⟩ ((hFT2 876 4 rfl).2.2.trans hts) htp (by first | assumption | omega) _) ?_
                  rintro _ _ ⟨rfl, z52, rfl, w52, w51⟩
                  show Rl _ _ _ _ _ [iv z52] _ _
                  refine l_istore_n rfl rfl rfl ?_
                  refine l_goto rfl rfl ?_
                  exact Rl_weak (ih9 _ (by omega) T2 hHT2 hFT2 (z52) (1) (by omega) (by omega) (by first | assumption | exact (by assumption : TOK T2)) (by omega) (by omega) (by omega) (by omega) (by first | (intro q; exfalso; omega) | exact fun _ => nd_0 (by omega) | exact fun _ => nd_s hd48 (by omega)) (by first | exact hd48 | exact nd_0 (by omega)) rfl) (And.intro rfl (And.intro rfl (And.intro rfl (True.intro))))
      refine l_iload_n rfl rfl ?_
      refine l_aload_n rfl rfl ?_
      refine l_gfi rfl rfl rfl rfl rfl ?_
      refine l_icmp_ge rfl rfl (by unfold rg; omega) (by unfold rg; omega) (fun w55 => ?_) (fun w56 => ?_)
      · refine l_iload_n rfl rfl ?_
        refine l_if_eq rfl rfl (by unfold rg; omega) (fun w57 => ?_) (fun w58 => ?_)
        · refine l_aload_n rfl rfl ?_
          refine l_gfr rfl rfl rfl rfl rfl (hHT1.r 876 0 877 rfl) ?_
          refine l_iconst rfl ?_
          refine l_iaload (n := 5130) rfl rfl (by omega) (by omega) (by unfold rg; omega) ?_
          have w59 : 0 ≤ (Xi T1 877 ((0 : Int).toNat)) ∧ (Xi T1 877 ((0 : Int).toNat)) ≤ 108 := hHT1.c _ _
          have w60 : (Xi T1 877 ((0 : Int).toNat)) = Xi T1 877 0 := rfl
          refine l_bipush rfl rfl ?_
          refine l_icmp_ne rfl rfl (by unfold rg; omega) (by unfold rg; omega) (fun w61 => ?_) (fun w62 => ?_)
          · refine l_aload_n rfl rfl ?_
            refine l_aload_n rfl rfl ?_
            refine l_gfi rfl rfl rfl rfl rfl ?_
            refine l_pfi rfl rfl rfl rfl ?_
            obtain ⟨U3, eU3⟩ : ∃ T : sS, T = uI T1 876 6 (Int32.ofInt (Xi T1 876 7)) := ⟨_, rfl⟩
            rw [← eU3]
            have hHU3 : HI U3 := by rw [eU3]; exact HI_w hHT1 (show 0 ≤ (Xi T1 876 7) by omega) (show (Xi T1 876 7) ≤ 5002 by omega)
            have hFU3 : FR md_to_takeSentence__2 S U3 := by rw [eU3]; exact FR.wI hFT1 (mdf_i (r := (876, 877, 6, 7)) (List.mem_of_getElem? (i := 0) rfl) (inR_i (by omega) (by omega) (by omega) (by omega)))
            have w63 : Xi U3 876 6 = (Xi T1 876 7) := by rw [eU3]; exact Xi_same (by unfold rg; omega)
            refine l_iload_n rfl rfl ?_
            refine l_ireturn rfl rfl ?_
            have w64 : 0 ≤ Xi U3 876 6 ∧ Xi U3 876 6 ≤ 5002 := hHU3.c _ _
            have w65 : Xi U3 876 7 = Xi T1 876 7 := (show Xi U3 876 7 = Xi T1 876 7 from by rw [eU3]; exact Xi_ne (by omega))
            exact ⟨hHU3, hFU3, _, rfl, ⟨by omega, by omega⟩, (TOK_w6 eU3 (by assumption)), (by omega), (by omega), (by omega), (by omega), (nd_f (FR_e eU3) rfl (by first | exact d148 | exact d124 | exact he9) (by omega))⟩
          · refine l_aload_n rfl rfl ?_
            refine l_gfi rfl rfl rfl rfl rfl ?_
            refine l_iconst rfl ?_
            refine l_icmp_ne rfl rfl (by unfold rg; omega) (by unfold rg; omega) (fun w67 => ?_) (fun w68 => ?_)
            · refine l_aload_n rfl rfl ?_
              refine l_aload_n rfl rfl ?_
              refine l_gfi rfl rfl rfl rfl rfl ?_
              refine l_pfi rfl rfl rfl rfl ?_
              obtain ⟨U4, eU4⟩ : ∃ T : sS, T = uI T1 876 6 (Int32.ofInt (Xi T1 876 7)) := ⟨_, rfl⟩
              rw [← eU4]
              have hHU4 : HI U4 := by rw [eU4]; exact HI_w hHT1 (show 0 ≤ (Xi T1 876 7) by omega) (show (Xi T1 876 7) ≤ 5002 by omega)
              have hFU4 : FR md_to_takeSentence__2 S U4 := by rw [eU4]; exact FR.wI hFT1 (mdf_i (r := (876, 877, 6, 7)) (List.mem_of_getElem? (i := 0) rfl) (inR_i (by omega) (by omega) (by omega) (by omega)))
              have w69 : Xi U4 876 6 = (Xi T1 876 7) := by rw [eU4]; exact Xi_same (by unfold rg; omega)
              refine l_iload_n rfl rfl ?_
              refine l_ireturn rfl rfl ?_
              have w70 : 0 ≤ Xi U4 876 6 ∧ Xi U4 876 6 ≤ 5002 := hHU4.c _ _
              have w71 : Xi U4 876 7 = Xi T1 876 7 := (show Xi U4 876 7 = Xi T1 876 7 from by rw [eU4]; exact Xi_ne (by omega))
              exact ⟨hHU4, hFU4, _, rfl, ⟨by omega, by omega⟩, (TOK_w6 eU4 (by assumption)), (by omega), (by omega), (by omega), (by omega), (nd_f (FR_e eU4) rfl (by first | exact d148 | exact d124 | exact he9) (by omega))⟩
            · refine l_aload_n rfl rfl ?_
              refine l_iload_n rfl rfl ?_
              refine l_callV rfl rfl rfl (t_to_takeDotBehindText__2 hHT1 ts v2 ⟨by omega, by omega⟩ ((hFT1 876 4 rfl).2.2.trans hts) htp (by first | assumption | exact (by assumption : TOK T1)) (by first | assumption | omega) (by first | assumption | omega) _) ?_
              rintro _ T5 ⟨hHT5, w80, z79, rfl, w79, w75, w76, w77, w78⟩
              have hFT5 : FR md_to_takeSentence__2 S T5 := FR.tr hFT1 w80 rfl
              show Rl _ _ _ _ _ [iv z79] _ _
              have d148 : ND T5 (Xi T5 876 7 - 1) := nd_k (nd_1 (S := T1) (by omega)) (by assumption : KTK T1 T5 (Xi T1 876 7)) (by omega) (by omega)
              refine l_istore_n rfl rfl rfl ?_
              refine l_aload_n rfl rfl ?_
              refine l_aload_n rfl rfl ?_
              refine l_gfi rfl rfl rfl rfl rfl ?_
              have w81 : 0 ≤ (Xi T5 876 7) ∧ (Xi T5 876 7) ≤ 5125 := hHT5.c _ _
              refine l_pfi rfl rfl rfl rfl ?_
              obtain ⟨U6, eU6⟩ : ∃ T : sS, T = uI T5 876 6 (Int32.ofInt (Xi T5 876 7)) := ⟨_, rfl⟩
              rw [← eU6]
              have hHU6 : HI U6 := by rw [eU6]; exact HI_w hHT5 (show 0 ≤ (Xi T5 876 7) by omega) (show (Xi T5 876 7) ≤ 5002 by omega)
              have hFU6 : FR md_to_takeSentence__2 S U6 := by rw [eU6]; exact FR.wI hFT5 (mdf_i (r := (876, 877, 6, 7)) (List.mem_of_getElem? (i := 0) rfl) (inR_i (by omega) (by omega) (by omega) (by omega)))
              have w82 : Xi U6 876 6 = (Xi T5 876 7) := by rw [eU6]; exact Xi_same (by unfold rg; omega)
              refine l_iload_n rfl rfl ?_
              refine l_ireturn rfl rfl ?_
              have w83 : 0 ≤ Xi U6 876 6 ∧ Xi U6 876 6 ≤ 5002 := hHU6.c _ _
              have w84 : Xi U6 876 7 = Xi T5 876 7 := (show Xi U6 876 7 = Xi T5 876 7 from by rw [eU6]; exact Xi_ne (by omega))
              have w85 : 0 ≤ Xi T5 876 7 ∧ Xi T5 876 7 ≤ 5125 := hHT5.c _ _
              exact ⟨hHU6, hFU6, _, rfl, ⟨by omega, by omega⟩, (TOK_w6 eU6 (by assumption)), (by omega), (by omega), (by omega), (by omega), (nd_f (FR_e eU6) rfl (by first | exact d148 | exact d124 | exact he9) (by omega))⟩
        · refine l_aload_n rfl rfl ?_
          refine l_bipush rfl rfl ?_
          refine l_aload_n rfl rfl ?_
          refine l_gfi rfl rfl rfl rfl rfl ?_
          refine l_lconst (z := 0) rfl rfl ?_
          refine l_callV rfl rfl rfl (t_to_note__2 hHT1 107 (Xi T1 876 5) 0 ⟨by omega, by omega⟩ ⟨by omega, by omega⟩ (by first | assumption | exact (by assumption : TOK T1)) (by first | assumption | omega) (by first | assumption | omega) _) ?_
          rintro _ T7 ⟨hHT7, w92, rfl, w88, w89, w90⟩
          have hFT7 : FR md_to_takeSentence__2 S T7 := FR.tr hFT1 w92 rfl
          show Rl _ _ _ _ _ [] _ _
          have d124 : ND T7 (Xi T7 876 7 - 1) := nd_k (hd9 (by omega)) (by assumption : KTK T1 T7 (Xi T1 876 7)) (by omega) (by omega)
          refine l_aload_n rfl rfl ?_
          refine l_gfr rfl rfl rfl rfl rfl (hHT7.r 876 0 877 rfl) ?_
          refine l_iconst rfl ?_
          refine l_iaload (n := 5130) rfl rfl (by omega) (by omega) (by unfold rg; omega) ?_
          have w93 : 0 ≤ (Xi T7 877 ((0 : Int).toNat)) ∧ (Xi T7 877 ((0 : Int).toNat)) ≤ 108 := hHT7.c _ _
          have w94 : (Xi T7 877 ((0 : Int).toNat)) = Xi T7 877 0 := rfl
          refine l_bipush rfl rfl ?_
          refine l_icmp_ne rfl rfl (by unfold rg; omega) (by unfold rg; omega) (fun w95 => ?_) (fun w96 => ?_)
          · refine l_aload_n rfl rfl ?_
            refine l_aload_n rfl rfl ?_
            refine l_gfi rfl rfl rfl rfl rfl ?_
            have w97 : 0 ≤ (Xi T7 876 7) ∧ (Xi T7 876 7) ≤ 5125 := hHT7.c _ _
            refine l_pfi rfl rfl rfl rfl ?_
            obtain ⟨U8, eU8⟩ : ∃ T : sS, T = uI T7 876 6 (Int32.ofInt (Xi T7 876 7)) := ⟨_, rfl⟩
            rw [← eU8]
            have hHU8 : HI U8 := by rw [eU8]; exact HI_w hHT7 (show 0 ≤ (Xi T7 876 7) by omega) (show (Xi T7 876 7) ≤ 5002 by omega)
            have hFU8 : FR md_to_takeSentence__2 S U8 := by rw [eU8]; exact FR.wI hFT7 (mdf_i (r := (876, 877, 6, 7)) (List.mem_of_getElem? (i := 0) rfl) (inR_i (by omega) (by omega) (by omega) (by omega)))
            have w98 : Xi U8 876 6 = (Xi T7 876 7) := by rw [eU8]; exact Xi_same (by unfold rg; omega)
            refine l_iload_n rfl rfl ?_
            refine l_ireturn rfl rfl ?_
            have w99 : 0 ≤ Xi U8 876 6 ∧ Xi U8 876 6 ≤ 5002 := hHU8.c _ _
            have w100 : Xi U8 876 7 = Xi T7 876 7 := (show Xi U8 876 7 = Xi T7 876 7 from by rw [eU8]; exact Xi_ne (by omega))
            have w101 : 0 ≤ Xi T7 876 7 ∧ Xi T7 876 7 ≤ 5125 := hHT7.c _ _
            exact ⟨hHU8, hFU8, _, rfl, ⟨by omega, by omega⟩, (TOK_w6 eU8 (by assumption)), (by omega), (by omega), (by omega), (by omega), (nd_f (FR_e eU8) rfl (by first | exact d148 | exact d124 | exact he9) (by omega))⟩
          · refine l_aload_n rfl rfl ?_
            refine l_gfi rfl rfl rfl rfl rfl ?_
            have w102 : 0 ≤ (Xi T7 876 7) ∧ (Xi T7 876 7) ≤ 5125 := hHT7.c _ _
            refine l_iconst rfl ?_
            refine l_icmp_ne rfl rfl (by unfold rg; omega) (by unfold rg; omega) (fun w103 => ?_) (fun w104 => ?_)
            · refine l_aload_n rfl rfl ?_
              refine l_aload_n rfl rfl ?_
              refine l_gfi rfl rfl rfl rfl rfl ?_
              refine l_pfi rfl rfl rfl rfl ?_
              obtain ⟨U9, eU9⟩ : ∃ T : sS, T = uI T7 876 6 (Int32.ofInt (Xi T7 876 7)) := ⟨_, rfl⟩
              rw [← eU9]
              have hHU9 : HI U9 := by rw [eU9]; exact HI_w hHT7 (show 0 ≤ (Xi T7 876 7) by omega) (show (Xi T7 876 7) ≤ 5002 by omega)
              have hFU9 : FR md_to_takeSentence__2 S U9 := by rw [eU9]; exact FR.wI hFT7 (mdf_i (r := (876, 877, 6, 7)) (List.mem_of_getElem? (i := 0) rfl) (inR_i (by omega) (by omega) (by omega) (by omega)))
              have w105 : Xi U9 876 6 = (Xi T7 876 7) := by rw [eU9]; exact Xi_same (by unfold rg; omega)
              refine l_iload_n rfl rfl ?_
              refine l_ireturn rfl rfl ?_
              have w106 : 0 ≤ Xi U9 876 6 ∧ Xi U9 876 6 ≤ 5002 := hHU9.c _ _
              have w107 : Xi U9 876 7 = Xi T7 876 7 := (show Xi U9 876 7 = Xi T7 876 7 from by rw [eU9]; exact Xi_ne (by omega))
              have w108 : 0 ≤ Xi T7 876 7 ∧ Xi T7 876 7 ≤ 5125 := hHT7.c _ _
              exact ⟨hHU9, hFU9, _, rfl, ⟨by omega, by omega⟩, (TOK_w6 eU9 (by assumption)), (by omega), (by omega), (by omega), (by omega), (nd_f (FR_e eU9) rfl (by first | exact d148 | exact d124 | exact he9) (by omega))⟩
            · refine l_aload_n rfl rfl ?_
              refine l_iload_n rfl rfl ?_
              have w109 : Xi T7 876 5 = Xi T1 876 5 := (show Xi T7 876 5 = Xi T1 876 5 from w92.x _ _ rfl)
              have w111 : 0 ≤ Xi T7 876 7 ∧ Xi T7 876 7 ≤ 5125 := hHT7.c _ _
              refine l_callV rfl rfl rfl (t_to_takeDotBehindText__2 hHT7 ts v2 ⟨by omega, by omega⟩ ((hFT7 876 4 rfl).2.2.trans hts) htp (by first | assumption | exact (by assumption : TOK T7)) (by first | assumption | omega) (by first | assumption | omega) _) ?_
              rintro _ T10 ⟨hHT10, w117, z116, rfl, w116, w112, w113, w114, w115⟩
              have hFT10 : FR md_to_takeSentence__2 S T10 := FR.tr hFT7 w117 rfl
              show Rl _ _ _ _ _ [iv z116] _ _
              have d148 : ND T10 (Xi T10 876 7 - 1) := nd_k (nd_1 (S := T7) (by omega)) (by assumption : KTK T7 T10 (Xi T7 876 7)) (by omega) (by omega)
              refine l_istore_n rfl rfl rfl ?_
              refine l_aload_n rfl rfl ?_
              refine l_aload_n rfl rfl ?_
              refine l_gfi rfl rfl rfl rfl rfl ?_
              have w118 : 0 ≤ (Xi T10 876 7) ∧ (Xi T10 876 7) ≤ 5125 := hHT10.c _ _
              refine l_pfi rfl rfl rfl rfl ?_
              obtain ⟨U11, eU11⟩ : ∃ T : sS, T = uI T10 876 6 (Int32.ofInt (Xi T10 876 7)) := ⟨_, rfl⟩
              rw [← eU11]
              have hHU11 : HI U11 := by rw [eU11]; exact HI_w hHT10 (show 0 ≤ (Xi T10 876 7) by omega) (show (Xi T10 876 7) ≤ 5002 by omega)
              have hFU11 : FR md_to_takeSentence__2 S U11 := by rw [eU11]; exact FR.wI hFT10 (mdf_i (r := (876, 877, 6, 7)) (List.mem_of_getElem? (i := 0) rfl) (inR_i (by omega) (by omega) (by omega) (by omega)))
              have w119 : Xi U11 876 6 = (Xi T10 876 7) := by rw [eU11]; exact Xi_same (by unfold rg; omega)
              refine l_iload_n rfl rfl ?_
              refine l_ireturn rfl rfl ?_
              have w120 : 0 ≤ Xi U11 876 6 ∧ Xi U11 876 6 ≤ 5002 := hHU11.c _ _
              have w121 : Xi U11 876 7 = Xi T10 876 7 := (show Xi U11 876 7 = Xi T10 876 7 from by rw [eU11]; exact Xi_ne (by omega))
              have w122 : 0 ≤ Xi T10 876 7 ∧ Xi T10 876 7 ≤ 5125 := hHT10.c _ _
              exact ⟨hHU11, hFU11, _, rfl, ⟨by omega, by omega⟩, (TOK_w6 eU11 (by assumption)), (by omega), (by omega), (by omega), (by omega), (nd_f (FR_e eU11) rfl (by first | exact d148 | exact d124 | exact he9) (by omega))⟩
      · refine l_iload_n rfl rfl ?_
        refine l_if_eq rfl rfl (by unfold rg; omega) (fun w123 => ?_) (fun w124 => ?_)
        · refine l_iload_n rfl rfl ?_
          refine l_if_eq rfl rfl (by unfold rg; omega) (fun w125 => ?_) (fun w126 => ?_)
          · refine l_aload_n rfl rfl ?_
            refine l_gfr rfl rfl rfl rfl rfl (hHT1.r 876 0 877 rfl) ?_
            refine l_iconst rfl ?_
            refine l_iaload (n := 5130) rfl rfl (by omega) (by omega) (by unfold rg; omega) ?_
            have w127 : 0 ≤ (Xi T1 877 ((0 : Int).toNat)) ∧ (Xi T1 877 ((0 : Int).toNat)) ≤ 108 := hHT1.c _ _
            have w128 : (Xi T1 877 ((0 : Int).toNat)) = Xi T1 877 0 := rfl
            refine l_bipush rfl rfl ?_
            refine l_icmp_ne rfl rfl (by unfold rg; omega) (by unfold rg; omega) (fun w129 => ?_) (fun w130 => ?_)
            · refine l_aload_n rfl rfl ?_
              refine l_aload_n rfl rfl ?_
              refine l_gfi rfl rfl rfl rfl rfl ?_
              refine l_pfi rfl rfl rfl rfl ?_
              obtain ⟨U12, eU12⟩ : ∃ T : sS, T = uI T1 876 6 (Int32.ofInt (Xi T1 876 7)) := ⟨_, rfl⟩
              rw [← eU12]
              have hHU12 : HI U12 := by rw [eU12]; exact HI_w hHT1 (show 0 ≤ (Xi T1 876 7) by omega) (show (Xi T1 876 7) ≤ 5002 by omega)
              have hFU12 : FR md_to_takeSentence__2 S U12 := by rw [eU12]; exact FR.wI hFT1 (mdf_i (r := (876, 877, 6, 7)) (List.mem_of_getElem? (i := 0) rfl) (inR_i (by omega) (by omega) (by omega) (by omega)))
              have w131 : Xi U12 876 6 = (Xi T1 876 7) := by rw [eU12]; exact Xi_same (by unfold rg; omega)
              refine l_iload_n rfl rfl ?_
              refine l_ireturn rfl rfl ?_
              have w132 : 0 ≤ Xi U12 876 6 ∧ Xi U12 876 6 ≤ 5002 := hHU12.c _ _
              have w133 : Xi U12 876 7 = Xi T1 876 7 := (show Xi U12 876 7 = Xi T1 876 7 from by rw [eU12]; exact Xi_ne (by omega))
              exact ⟨hHU12, hFU12, _, rfl, ⟨by omega, by omega⟩, (TOK_w6 eU12 (by assumption)), (by omega), (by omega), (by omega), (by omega), (nd_f (FR_e eU12) rfl (by first | exact d148 | exact d124 | exact he9) (by omega))⟩
            · refine l_aload_n rfl rfl ?_
              refine l_gfi rfl rfl rfl rfl rfl ?_
              refine l_iconst rfl ?_
              refine l_icmp_ne rfl rfl (by unfold rg; omega) (by unfold rg; omega) (fun w135 => ?_) (fun w136 => ?_)
              · refine l_aload_n rfl rfl ?_
                refine l_aload_n rfl rfl ?_
                refine l_gfi rfl rfl rfl rfl rfl ?_
                refine l_pfi rfl rfl rfl rfl ?_
                obtain ⟨U13, eU13⟩ : ∃ T : sS, T = uI T1 876 6 (Int32.ofInt (Xi T1 876 7)) := ⟨_, rfl⟩
                rw [← eU13]
                have hHU13 : HI U13 := by rw [eU13]; exact HI_w hHT1 (show 0 ≤ (Xi T1 876 7) by omega) (show (Xi T1 876 7) ≤ 5002 by omega)
                have hFU13 : FR md_to_takeSentence__2 S U13 := by rw [eU13]; exact FR.wI hFT1 (mdf_i (r := (876, 877, 6, 7)) (List.mem_of_getElem? (i := 0) rfl) (inR_i (by omega) (by omega) (by omega) (by omega)))
                have w137 : Xi U13 876 6 = (Xi T1 876 7) := by rw [eU13]; exact Xi_same (by unfold rg; omega)
                refine l_iload_n rfl rfl ?_
                refine l_ireturn rfl rfl ?_
                have w138 : 0 ≤ Xi U13 876 6 ∧ Xi U13 876 6 ≤ 5002 := hHU13.c _ _
                have w139 : Xi U13 876 7 = Xi T1 876 7 := (show Xi U13 876 7 = Xi T1 876 7 from by rw [eU13]; exact Xi_ne (by omega))
                exact ⟨hHU13, hFU13, _, rfl, ⟨by omega, by omega⟩, (TOK_w6 eU13 (by assumption)), (by omega), (by omega), (by omega), (by omega), (nd_f (FR_e eU13) rfl (by first | exact d148 | exact d124 | exact he9) (by omega))⟩
              · refine l_aload_n rfl rfl ?_
                refine l_iload_n rfl rfl ?_
                refine l_callV rfl rfl rfl (t_to_takeDotBehindText__2 hHT1 ts v2 ⟨by omega, by omega⟩ ((hFT1 876 4 rfl).2.2.trans hts) htp (by first | assumption | exact (by assumption : TOK T1)) (by first | assumption | omega) (by first | assumption | omega) _) ?_
                rintro _ T14 ⟨hHT14, w148, z147, rfl, w147, w143, w144, w145, w146⟩
                have hFT14 : FR md_to_takeSentence__2 S T14 := FR.tr hFT1 w148 rfl
                show Rl _ _ _ _ _ [iv z147] _ _
                have d148 : ND T14 (Xi T14 876 7 - 1) := nd_k (nd_1 (S := T1) (by omega)) (by assumption : KTK T1 T14 (Xi T1 876 7)) (by omega) (by omega)
                refine l_istore_n rfl rfl rfl ?_
                refine l_aload_n rfl rfl ?_
                refine l_aload_n rfl rfl ?_
                refine l_gfi rfl rfl rfl rfl rfl ?_
                have w149 : 0 ≤ (Xi T14 876 7) ∧ (Xi T14 876 7) ≤ 5125 := hHT14.c _ _
                refine l_pfi rfl rfl rfl rfl ?_
                obtain ⟨U15, eU15⟩ : ∃ T : sS, T = uI T14 876 6 (Int32.ofInt (Xi T14 876 7)) := ⟨_, rfl⟩
                rw [← eU15]
                have hHU15 : HI U15 := by rw [eU15]; exact HI_w hHT14 (show 0 ≤ (Xi T14 876 7) by omega) (show (Xi T14 876 7) ≤ 5002 by omega)
                have hFU15 : FR md_to_takeSentence__2 S U15 := by rw [eU15]; exact FR.wI hFT14 (mdf_i (r := (876, 877, 6, 7)) (List.mem_of_getElem? (i := 0) rfl) (inR_i (by omega) (by omega) (by omega) (by omega)))
                have w150 : Xi U15 876 6 = (Xi T14 876 7) := by rw [eU15]; exact Xi_same (by unfold rg; omega)
                refine l_iload_n rfl rfl ?_
                refine l_ireturn rfl rfl ?_
                have w151 : 0 ≤ Xi U15 876 6 ∧ Xi U15 876 6 ≤ 5002 := hHU15.c _ _
                have w152 : Xi U15 876 7 = Xi T14 876 7 := (show Xi U15 876 7 = Xi T14 876 7 from by rw [eU15]; exact Xi_ne (by omega))
                have w153 : 0 ≤ Xi T14 876 7 ∧ Xi T14 876 7 ≤ 5125 := hHT14.c _ _
                exact ⟨hHU15, hFU15, _, rfl, ⟨by omega, by omega⟩, (TOK_w6 eU15 (by assumption)), (by omega), (by omega), (by omega), (by omega), (nd_f (FR_e eU15) rfl (by first | exact d148 | exact d124 | exact he9) (by omega))⟩
          · refine l_aload_n rfl rfl ?_
            refine l_bipush rfl rfl ?_
            refine l_aload_n rfl rfl ?_
            refine l_gfi rfl rfl rfl rfl rfl ?_
            refine l_lconst (z := 0) rfl rfl ?_
            refine l_callV rfl rfl rfl (t_to_note__2 hHT1 107 (Xi T1 876 5) 0 ⟨by omega, by omega⟩ ⟨by omega, by omega⟩ (by first | assumption | exact (by assumption : TOK T1)) (by first | assumption | omega) (by first | assumption | omega) _) ?_
            rintro _ T16 ⟨hHT16, w160, rfl, w156, w157, w158⟩
            have hFT16 : FR md_to_takeSentence__2 S T16 := FR.tr hFT1 w160 rfl
            show Rl _ _ _ _ _ [] _ _
            have d124 : ND T16 (Xi T16 876 7 - 1) := nd_k (hd9 (by omega)) (by assumption : KTK T1 T16 (Xi T1 876 7)) (by omega) (by omega)
            refine l_aload_n rfl rfl ?_
            refine l_gfr rfl rfl rfl rfl rfl (hHT16.r 876 0 877 rfl) ?_
            refine l_iconst rfl ?_
            refine l_iaload (n := 5130) rfl rfl (by omega) (by omega) (by unfold rg; omega) ?_
            have w161 : 0 ≤ (Xi T16 877 ((0 : Int).toNat)) ∧ (Xi T16 877 ((0 : Int).toNat)) ≤ 108 := hHT16.c _ _
            have w162 : (Xi T16 877 ((0 : Int).toNat)) = Xi T16 877 0 := rfl
            refine l_bipush rfl rfl ?_
            refine l_icmp_ne rfl rfl (by unfold rg; omega) (by unfold rg; omega) (fun w163 => ?_) (fun w164 => ?_)
            · refine l_aload_n rfl rfl ?_
              refine l_aload_n rfl rfl ?_
              refine l_gfi rfl rfl rfl rfl rfl ?_
              have w165 : 0 ≤ (Xi T16 876 7) ∧ (Xi T16 876 7) ≤ 5125 := hHT16.c _ _
              refine l_pfi rfl rfl rfl rfl ?_
              obtain ⟨U17, eU17⟩ : ∃ T : sS, T = uI T16 876 6 (Int32.ofInt (Xi T16 876 7)) := ⟨_, rfl⟩
              rw [← eU17]
              have hHU17 : HI U17 := by rw [eU17]; exact HI_w hHT16 (show 0 ≤ (Xi T16 876 7) by omega) (show (Xi T16 876 7) ≤ 5002 by omega)
              have hFU17 : FR md_to_takeSentence__2 S U17 := by rw [eU17]; exact FR.wI hFT16 (mdf_i (r := (876, 877, 6, 7)) (List.mem_of_getElem? (i := 0) rfl) (inR_i (by omega) (by omega) (by omega) (by omega)))
              have w166 : Xi U17 876 6 = (Xi T16 876 7) := by rw [eU17]; exact Xi_same (by unfold rg; omega)
              refine l_iload_n rfl rfl ?_
              refine l_ireturn rfl rfl ?_
              have w167 : 0 ≤ Xi U17 876 6 ∧ Xi U17 876 6 ≤ 5002 := hHU17.c _ _
              have w168 : Xi U17 876 7 = Xi T16 876 7 := (show Xi U17 876 7 = Xi T16 876 7 from by rw [eU17]; exact Xi_ne (by omega))
              have w169 : 0 ≤ Xi T16 876 7 ∧ Xi T16 876 7 ≤ 5125 := hHT16.c _ _
              exact ⟨hHU17, hFU17, _, rfl, ⟨by omega, by omega⟩, (TOK_w6 eU17 (by assumption)), (by omega), (by omega), (by omega), (by omega), (nd_f (FR_e eU17) rfl (by first | exact d148 | exact d124 | exact he9) (by omega))⟩
            · refine l_aload_n rfl rfl ?_
              refine l_gfi rfl rfl rfl rfl rfl ?_
              have w170 : 0 ≤ (Xi T16 876 7) ∧ (Xi T16 876 7) ≤ 5125 := hHT16.c _ _
              refine l_iconst rfl ?_
              refine l_icmp_ne rfl rfl (by unfold rg; omega) (by unfold rg; omega) (fun w171 => ?_) (fun w172 => ?_)
              · refine l_aload_n rfl rfl ?_
                refine l_aload_n rfl rfl ?_
                refine l_gfi rfl rfl rfl rfl rfl ?_
                refine l_pfi rfl rfl rfl rfl ?_
                obtain ⟨U18, eU18⟩ : ∃ T : sS, T = uI T16 876 6 (Int32.ofInt (Xi T16 876 7)) := ⟨_, rfl⟩
                rw [← eU18]
                have hHU18 : HI U18 := by rw [eU18]; exact HI_w hHT16 (show 0 ≤ (Xi T16 876 7) by omega) (show (Xi T16 876 7) ≤ 5002 by omega)
                have hFU18 : FR md_to_takeSentence__2 S U18 := by rw [eU18]; exact FR.wI hFT16 (mdf_i (r := (876, 877, 6, 7)) (List.mem_of_getElem? (i := 0) rfl) (inR_i (by omega) (by omega) (by omega) (by omega)))
                have w173 : Xi U18 876 6 = (Xi T16 876 7) := by rw [eU18]; exact Xi_same (by unfold rg; omega)
                refine l_iload_n rfl rfl ?_
                refine l_ireturn rfl rfl ?_
                have w174 : 0 ≤ Xi U18 876 6 ∧ Xi U18 876 6 ≤ 5002 := hHU18.c _ _
                have w175 : Xi U18 876 7 = Xi T16 876 7 := (show Xi U18 876 7 = Xi T16 876 7 from by rw [eU18]; exact Xi_ne (by omega))
                have w176 : 0 ≤ Xi T16 876 7 ∧ Xi T16 876 7 ≤ 5125 := hHT16.c _ _
                exact ⟨hHU18, hFU18, _, rfl, ⟨by omega, by omega⟩, (TOK_w6 eU18 (by assumption)), (by omega), (by omega), (by omega), (by omega), (nd_f (FR_e eU18) rfl (by first | exact d148 | exact d124 | exact he9) (by omega))⟩
              · refine l_aload_n rfl rfl ?_
                refine l_iload_n rfl rfl ?_
                have w177 : Xi T16 876 5 = Xi T1 876 5 := (show Xi T16 876 5 = Xi T1 876 5 from w160.x _ _ rfl)
                have w179 : 0 ≤ Xi T16 876 7 ∧ Xi T16 876 7 ≤ 5125 := hHT16.c _ _
                refine l_callV rfl rfl rfl (t_to_takeDotBehindText__2 hHT16 ts v2 ⟨by omega, by omega⟩ ((hFT16 876 4 rfl).2.2.trans hts) htp (by first | assumption | exact (by assumption : TOK T16)) (by first | assumption | omega) (by first | assumption | omega) _) ?_
                rintro _ T19 ⟨hHT19, w185, z184, rfl, w184, w180, w181, w182, w183⟩
                have hFT19 : FR md_to_takeSentence__2 S T19 := FR.tr hFT16 w185 rfl
                show Rl _ _ _ _ _ [iv z184] _ _
                have d148 : ND T19 (Xi T19 876 7 - 1) := nd_k (nd_1 (S := T16) (by omega)) (by assumption : KTK T16 T19 (Xi T16 876 7)) (by omega) (by omega)
                refine l_istore_n rfl rfl rfl ?_
                refine l_aload_n rfl rfl ?_
                refine l_aload_n rfl rfl ?_
                refine l_gfi rfl rfl rfl rfl rfl ?_
                have w186 : 0 ≤ (Xi T19 876 7) ∧ (Xi T19 876 7) ≤ 5125 := hHT19.c _ _
                refine l_pfi rfl rfl rfl rfl ?_
                obtain ⟨U20, eU20⟩ : ∃ T : sS, T = uI T19 876 6 (Int32.ofInt (Xi T19 876 7)) := ⟨_, rfl⟩
                rw [← eU20]
                have hHU20 : HI U20 := by rw [eU20]; exact HI_w hHT19 (show 0 ≤ (Xi T19 876 7) by omega) (show (Xi T19 876 7) ≤ 5002 by omega)
                have hFU20 : FR md_to_takeSentence__2 S U20 := by rw [eU20]; exact FR.wI hFT19 (mdf_i (r := (876, 877, 6, 7)) (List.mem_of_getElem? (i := 0) rfl) (inR_i (by omega) (by omega) (by omega) (by omega)))
                have w187 : Xi U20 876 6 = (Xi T19 876 7) := by rw [eU20]; exact Xi_same (by unfold rg; omega)
                refine l_iload_n rfl rfl ?_
                refine l_ireturn rfl rfl ?_
                have w188 : 0 ≤ Xi U20 876 6 ∧ Xi U20 876 6 ≤ 5002 := hHU20.c _ _
                have w189 : Xi U20 876 7 = Xi T19 876 7 := (show Xi U20 876 7 = Xi T19 876 7 from by rw [eU20]; exact Xi_ne (by omega))
                have w190 : 0 ≤ Xi T19 876 7 ∧ Xi T19 876 7 ≤ 5125 := hHT19.c _ _
                exact ⟨hHU20, hFU20, _, rfl, ⟨by omega, by omega⟩, (TOK_w6 eU20 (by assumption)), (by omega), (by omega), (by omega), (by omega), (nd_f (FR_e eU20) rfl (by first | exact d148 | exact d124 | exact he9) (by omega))⟩
        · refine l_aload_n rfl rfl ?_
          refine l_iload_n rfl rfl ?_
          refine l_callV rfl rfl rfl (t_to_scan__2 hHT1 ts v2 ⟨by omega, by omega⟩ ((hFT1 876 4 rfl).2.2.trans hts) htp (by first | assumption | exact (by assumption : TOK T1)) (by first | assumption | omega) (by first | assumption | omega) _) ?_
          rintro _ T21 ⟨hHT21, w199, z198, rfl, w198, w193, w194, w195, w196, w197⟩
          have hFT21 : FR md_to_takeSentence__2 S T21 := FR.tr hFT1 w199 rfl
          show Rl _ _ _ _ _ [iv z198] _ _
          have d23 : ND T21 (Xi T21 876 7 - 1) := nd_k (hd9 (by omega)) (by assumption : KTK T1 T21 (Xi T1 876 7)) (by omega) (by omega)
          have e23 : ND T21 (Xi T1 876 7) := nd_k (hd9 (by omega)) (by assumption : KTK T1 T21 (Xi T1 876 7)) (by omega) (by omega)
          refine l_istore rfl rfl rfl ?_
          refine l_iload rfl rfl ?_
          refine l_iconst rfl ?_
          refine l_icmp_ne rfl rfl (by unfold rg; omega) (by unfold rg; omega) (fun w200 => ?_) (fun w201 => ?_)
          · have w202 : Xi T21 876 5 = Xi T1 876 5 := (show Xi T21 876 5 = Xi T1 876 5 from w199.x _ _ rfl)
            have w204 : 0 ≤ Xi T21 876 7 ∧ Xi T21 876 7 ≤ 5125 := hHT21.c _ _
            exact Rl_weak (C48 T21 hHT21 hFT21 (z198) (by omega) (by first | assumption | exact (by assumption : TOK T21)) (by omega) (by omega) (by omega) (by first | exact d39 | exact d23) (by omega)) (And.intro rfl (And.intro rfl (True.intro)))
          · refine l_aload_n rfl rfl ?_
            refine l_bipush rfl rfl ?_
            refine l_iload_n rfl rfl ?_
            refine l_lconst (z := 0) rfl rfl ?_
            have w205 : Xi T21 876 5 = Xi T1 876 5 := (show Xi T21 876 5 = Xi T1 876 5 from w199.x _ _ rfl)
            have w207 : 0 ≤ Xi T21 876 7 ∧ Xi T21 876 7 ≤ 5125 := hHT21.c _ _
            refine l_callV rfl rfl rfl (t_to_note__2 hHT21 108 v2 0 ⟨by omega, by omega⟩ ⟨by omega, by omega⟩ (by first | assumption | exact (by assumption : TOK T21)) (by first | assumption | omega) (by first | assumption | omega) _) ?_
            rintro _ T22 ⟨hHT22, w212, rfl, w208, w209, w210⟩
            have hFT22 : FR md_to_takeSentence__2 S T22 := FR.tr hFT21 w212 rfl
            show Rl _ _ _ _ _ [] _ _
            have d39 : ND T22 (Xi T22 876 7 - 1) := nd_k e23 (by assumption : KTK T21 T22 (Xi T21 876 7)) (by omega) (by omega)
            refine l_aload_n rfl rfl ?_
            refine l_gfi rfl rfl rfl rfl rfl ?_
            have w213 : (Xi T22 876 5) = (Xi T1 876 5) := (show Xi T22 876 5 = Xi T21 876 5 from w212.x _ _ rfl).trans ((show Xi T21 876 5 = Xi T1 876 5 from w199.x _ _ rfl))
            rw [w213]
            refine l_istore rfl rfl rfl ?_
            have w214 : Xi T22 876 5 = Xi T1 876 5 := (show Xi T22 876 5 = Xi T21 876 5 from w212.x _ _ rfl).trans ((show Xi T21 876 5 = Xi T1 876 5 from w199.x _ _ rfl))
            have w216 : 0 ≤ Xi T22 876 7 ∧ Xi T22 876 7 ≤ 5125 := hHT22.c _ _
            exact Rl_weak (C48 T22 hHT22 hFT22 ((Xi T1 876 5)) (by omega) (by first | assumption | exact (by assumption : TOK T22)) (by omega) (by omega) (by omega) (by first | exact d39 | exact d23) (by omega)) (And.intro rfl (And.intro rfl (True.intro)))
  refine l_iload_n rfl rfl ?_
  refine l_istore_n rfl rfl rfl ?_
  refine l_iconst rfl ?_
  refine l_istore_n rfl rfl rfl ?_
  refine l_aload_n rfl rfl ?_
  refine l_iconst rfl ?_
  refine l_pfi rfl rfl rfl rfl ?_
  obtain ⟨U23, eU23⟩ : ∃ T : sS, T = uI S 876 7 (Int32.ofInt 0) := ⟨_, rfl⟩
  rw [← eU23]
  have hHU23 : HI U23 := by rw [eU23]; exact HI_w hH (show 0 ≤ 0 by omega) (show 0 ≤ 5125 by omega)
  have hFU23 : FR md_to_takeSentence__2 S U23 := by rw [eU23]; exact FR.wI hF (mdf_i (r := (876, 877, 7, 8)) (List.mem_of_getElem? (i := 1) rfl) (inR_i (by omega) (by omega) (by omega) (by omega)))
  have w217 : Xi U23 876 7 = 0 := by rw [eU23]; exact Xi_same (by unfold rg; omega)
  have hT : TOK U23 := tok0 (by omega)
  have w218 : Xi U23 876 5 = Xi S 876 5 := (show Xi U23 876 5 = Xi S 876 5 from by rw [eU23]; exact Xi_ne (by omega))
  have w220 : 0 ≤ Xi U23 876 7 ∧ Xi U23 876 7 ≤ 5125 := hHU23.c _ _
  exact Rl_weak (C9 _ U23 hHU23 hFU23 (from_) (1) (by omega) (by omega) (by first | assumption | exact (by assumption : TOK U23)) (by omega) (by omega) (by omega) (by omega) (by first | (intro q; exfalso; omega) | exact fun _ => nd_0 (by omega) | exact fun _ => nd_s hd48 (by omega)) (by first | exact hd48 | exact nd_0 (by omega)) rfl) (And.intro rfl (And.intro rfl (And.intro rfl (True.intro))))
theorem te_s {S : sS} {f v : Int} (h : ∀ r : Nat, f ≤ r → Xi S 877 r = 103 → v ≤ r) (e : Xi S 877 v.toNat ≠ 103) : ∀ r : Nat, f ≤ r → Xi S 877 r = 103 → v + 1 ≤ r := fun r h1 h2 => by
  have := h r h1 h2
  rcases (by omega : (r : Int) = v ∨ v + 1 ≤ r) with q | q
  · rw [show r = v.toNat by omega] at h2; exact absurd h2 e
  · exact q
abbrev Q_to_testEnd__2 (S : sS) (from_ : Int) (now : Int) : pst := fun r S1 => S = S1 ∧ (∃ z : Int, r = some (iv z) ∧ (0 ≤ z ∧ z ≤ 5140) ∧ (from_ ≤ z ∨ z = Xi S 876 7) ∧ (from_ ≤ Xi S 876 7 → from_ ≤ z ∧ z ≤ Xi S 876 7) ∧ (z ≤ Xi S 876 7) ∧ (∀ r : Nat, from_ ≤ r → (r : Int) < Xi S 876 7 → Xi S 877 r = 103 → z ≤ r))
set_option maxRecDepth 100000 in
theorem t_to_testEnd__2 {S : sS} (hH : HI S) (from_ : Int) (now : Int) (hfrom_ : 0 ≤ from_ ∧ from_ ≤ 5140) (hnow : 0 ≤ now ∧ now ≤ 1) (d : Nat) : Mt lay0 (d + 1) m_to_testEnd [.ref 876, iv from_, iv now] S (Q_to_testEnd__2 S from_ now) := by
  refine Mt_R rfl rfl ?_
  have w1 : 0 ≤ Xi S 876 7 ∧ Xi S 876 7 ≤ 5125 := hH.c _ _
  have C2 : ∀ (n2 : Nat) (v3 : Int), (0 ≤ v3 ∧ v3 ≤ 5140) → (from_ ≤ v3) → (∀ r : Nat, from_ ≤ r → Xi S 877 r = 103 → v3 ≤ r) → n2 = (5141 - v3).toNat → Rl lay0 (d + 0) m_to_testEnd 2 [(0, .ref 876), (2, iv now), (3, iv v3)] [] S (Q_to_testEnd__2 S from_ now) := by
    intro n2
    induction n2 using Nat.strongRecOn with
    | ind n2 ih2 =>
      intro v3 w2 w3 ht2 hm2
      have C59 : ∀  (v3 : Int), (0 ≤ v3 ∧ v3 ≤ 5124) → (from_ ≤ v3) → (v3 < Xi S 876 7) → (∀ r : Nat, from_ ≤ r → Xi S 877 r = 103 → v3 ≤ r) → (Xi S 877 v3.toNat ≠ 103) → ((5141 - v3).toNat ≤ n2) → Rl lay0 (d + 0) m_to_testEnd 59 [(0, .ref 876), (2, iv now), (3, iv v3)] [] S (Q_to_testEnd__2 S from_ now) := by
        intro v3 w4 w5 w6 ht59 hx59 w7
        refine l_iinc rfl rfl rfl rfl ?_
        refine l_goto rfl rfl ?_
        exact Rl_weak (ih2 _ (by omega) ((v3 + 1)) (by omega) (by omega) (by first | exact fun r h1 h2 => h1 | exact te_s ht59 hx59) rfl) (And.intro rfl (And.intro rfl (And.intro rfl (True.intro))))
      refine l_iload_n rfl rfl ?_
      refine l_aload_n rfl rfl ?_
      refine l_gfi rfl rfl rfl rfl rfl ?_
      refine l_icmp_ge rfl rfl (by unfold rg; omega) (by unfold rg; omega) (fun w8 => ?_) (fun w9 => ?_)
      · refine l_aload_n rfl rfl ?_
        refine l_gfi rfl rfl rfl rfl rfl ?_
        refine l_ireturn rfl rfl ?_
        exact ⟨rfl, _, rfl, ⟨by omega, by omega⟩, (by first | assumption | omega), (by first | assumption | omega), (by omega), (fun r h1 h2 h3 => by first | omega | (have := ht2 r h1 h3; omega))⟩
      · refine l_aload_n rfl rfl ?_
        refine l_gfr rfl rfl rfl rfl rfl (hH.r 876 0 877 rfl) ?_
        refine l_iload_n rfl rfl ?_
        refine l_iaload (n := 5130) rfl rfl (by omega) (by omega) (by unfold rg; omega) ?_
        have w10 : 0 ≤ (Xi S 877 ((v3).toNat)) ∧ (Xi S 877 ((v3).toNat)) ≤ 108 := hH.c _ _
        refine l_istore rfl rfl rfl ?_
        refine l_iload rfl rfl ?_
        refine l_bipush rfl rfl ?_
        refine l_icmp_eq rfl rfl (by unfold rg; omega) (by unfold rg; omega) (fun w11 => ?_) (fun w12 => ?_)
        · refine l_iload_n rfl rfl ?_
          refine l_ireturn rfl rfl ?_
          exact ⟨rfl, _, rfl, ⟨by omega, by omega⟩, (by first | assumption | omega), (by first | assumption | omega), (by omega), (fun r h1 h2 h3 => by first | omega | (have := ht2 r h1 h3; omega))⟩
        · refine l_iload rfl rfl ?_
          refine l_bipush rfl rfl ?_
          refine l_icmp_eq rfl rfl (by unfold rg; omega) (by unfold rg; omega) (fun w13 => ?_) (fun w14 => ?_)
          · refine l_iload_n rfl rfl ?_
            refine l_ireturn rfl rfl ?_
            exact ⟨rfl, _, rfl, ⟨by omega, by omega⟩, (by first | assumption | omega), (by first | assumption | omega), (by omega), (fun r h1 h2 h3 => by first | omega | (have := ht2 r h1 h3; omega))⟩
          · refine l_iload rfl rfl ?_
            refine l_bipush rfl rfl ?_
            refine l_icmp_eq rfl rfl (by unfold rg; omega) (by unfold rg; omega) (fun w15 => ?_) (fun w16 => ?_)
            · refine l_iload_n rfl rfl ?_
              refine l_ireturn rfl rfl ?_
              exact ⟨rfl, _, rfl, ⟨by omega, by omega⟩, (by first | assumption | omega), (by first | assumption | omega), (by omega), (fun r h1 h2 h3 => by first | omega | (have := ht2 r h1 h3; omega))⟩
            · refine l_iload_n rfl rfl ?_
              refine l_if_ne rfl rfl (by unfold rg; omega) (fun w17 => ?_) (fun w18 => ?_)
              · exact Rl_weak (C59 (v3) (by omega) (by omega) (by omega) (by first | assumption | omega) (by omega) (by omega)) (And.intro rfl (And.intro rfl (And.intro rfl (True.intro))))
              · refine l_iload rfl rfl ?_
                refine l_bipush rfl rfl ?_
                refine l_icmp_eq rfl rfl (by unfold rg; omega) (by unfold rg; omega) (fun w19 => ?_) (fun w20 => ?_)
                · refine l_iload_n rfl rfl ?_
                  refine l_ireturn rfl rfl ?_
                  exact ⟨rfl, _, rfl, ⟨by omega, by omega⟩, (by first | assumption | omega), (by first | assumption | omega), (by omega), (fun r h1 h2 h3 => by first | omega | (have := ht2 r h1 h3; omega))⟩
                · refine l_iload rfl rfl ?_
                  refine l_bipush rfl rfl ?_
                  refine l_icmp_ne rfl rfl (by unfold rg; omega) (by unfold rg; omega) (fun w21 => ?_) (fun w22 => ?_)
                  · exact Rl_weak (C59 (v3) (by omega) (by omega) (by omega) (by first | assumption | omega) (by omega) (by omega)) (And.intro rfl (And.intro rfl (And.intro rfl (True.intro))))
                  · refine l_iload_n rfl rfl ?_
                    refine l_ireturn rfl rfl ?_
                    exact ⟨rfl, _, rfl, ⟨by omega, by omega⟩, (by first | assumption | omega), (by first | assumption | omega), (by omega), (fun r h1 h2 h3 => by first | omega | (have := ht2 r h1 h3; omega))⟩
  refine l_iload_n rfl rfl ?_
  refine l_istore_n rfl rfl rfl ?_
  exact Rl_weak (C2 _ (from_) (by omega) (by omega) (by first | exact fun r h1 h2 => h1 | exact te_s ht59 hx59) rfl) (And.intro rfl (And.intro rfl (And.intro rfl (True.intro))))


