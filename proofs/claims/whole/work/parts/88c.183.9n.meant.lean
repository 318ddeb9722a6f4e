section
/-! tests of the reference: what is meant -/
noncomputable def mtV (S : sS) (td rn : Int) : Int := if td / 10000 = 0 then (if Xi S 904 115 = -1 then -9 else -1) else if td / 10000 = 1 then (if Xi S 904 116 = -1 then -9 else -2) else (if td / 10000 = 2 ∧ rnR S rn 4 = -1 then -9 else rnR S rn 4)
def MTO (S S1 : sS) (z td rn : Int) : Prop := z = mtV S td rn ∧ NT3 S1 = (if z ≠ -9 then NT3 S else ntF (NT3 S) 4 (Xi S 908 (td % 10000).toNat))
def pmK (S : sS) (rn th : Int) : Prop := rnR S rn 7 ≠ -1 ∧ (th = -9 ∨ hsR S (ktC S th) (rnR S rn 7) ≠ 0)
noncomputable def pmZ (S : sS) (rn th : Int) : Int := if rnR S rn 7 ≠ -1 ∧ th ≠ -9 ∧ hsR S (ktC S th) (rnR S rn 7) ≠ 0 then rnR S rn 7 else -1
def PMN (S S1 : sS) (rn th : Int) : Prop := (pmK S rn th → NT3 S1 = NT3 S) ∧ (¬ pmK S rn th → NT3 S1 = ntF (NT3 S) 4 (pR S rn))
def PMO (S S1 : sS) (z rn th : Int) : Prop := z = pmZ S rn th ∧ PMN S S1 rn th
def NMO (S S1 : sS) (rn : Int) : Prop := (rnR S rn 7 = -1 ∨ Xi S 928 (rnR S rn 7).toNat = 0 → NT3 S1 = NT3 S) ∧ (¬ (rnR S rn 7 = -1 ∨ Xi S 928 (rnR S rn 7).toNat = 0) → NT3 S1 = ntF (NT3 S) 4 (pR S rn))
theorem HSF {l : List rec} {S P : sS} {a b : Int} (h : FR l S P) (e1 : kdis l [(917, 918)] = true) (e2 : kdis l [(929, 930)] = true) : hsR P a b = hsR S a b := hsN_k (fun j => (h.smk e1).x 917 rfl j) (fun j => (h.smk e2).x 929 rfl j) 17 a

def md_mo_meant__p : List rec := [(904, 905, 104, 105), (904, 905, 105, 106), (904, 905, 106, 107)]
abbrev Q_mo_meant__p (S : sS) (td : Int) (rn : Int) : pst := fun r S1 => RI S1 ∧ FR md_mo_meant__p S S1 ∧ (∃ z : Int, r = some (iv z) ∧ (-2147483648 ≤ z ∧ z ≤ 2147483647) ∧ (MTO S S1 z td rn))
set_option maxRecDepth 100000 in
theorem t_mo_meant__p {S : sS} (hH : RI S) (td : Int) (rn : Int) (htd : 0 ≤ td ∧ td ≤ 29999) (hrn : -2147483648 ≤ rn ∧ rn ≤ 2147483647) (hLS : LSP S) (h15 : 0 ≤ Xi S 904 15) (hRB : RBD S) (d : Nat) : Mp lay0 (d + 5) m_mo_meant [.ref 904, iv td, iv rn] S (Q_mo_meant__p S td rn) := by
  refine Mp_R rfl rfl (fun fu => ?_)
  have hF : FR md_mo_meant__p S S := FR.rf
  have w1 : -2147483648 ≤ Xi S 904 115 ∧ Xi S 904 115 ≤ 2147483647 := Xi_rgI
  have w2 : -2147483648 ≤ Xi S 904 116 ∧ Xi S 904 116 ≤ 2147483647 := Xi_rgI
  have w3 : -2147483648 ≤ Xi S 904 15 ∧ Xi S 904 15 ≤ 2147483647 := Xi_rgI
  refine y_iload_n rfl rfl ?_
  refine y_sipush rfl rfl ?_
  refine y_idivP rfl (by omega) (by omega) (by unfold rg; omega) (by unfold rg; omega) ?_
  refine y_istore_n rfl rfl rfl ?_
  refine y_iload_n rfl rfl ?_
  refine y_sipush rfl rfl ?_
  refine y_iremP rfl (by omega) (by omega) (by unfold rg; omega) (by unfold rg; omega) ?_
  refine y_istore rfl rfl rfl ?_
  refine y_iload_n rfl rfl ?_
  refine y_if_ne rfl rfl (by unfold rg; omega) (fun w6 => ?_) (fun w7 => ?_)
  · refine y_iload_n rfl rfl ?_
    refine y_iconst rfl ?_
    refine y_icmp_ne rfl rfl (by unfold rg; omega) (by unfold rg; omega) (fun w8 => ?_) (fun w9 => ?_)
    · refine y_aload_n rfl rfl ?_
      refine y_iload_n rfl rfl ?_
      refine y_iconst rfl ?_
      refine y_callV rfl rfl rfl (t_mo_meansRun__p hH rn 4 ⟨by omega, by omega⟩ ⟨by omega, by omega⟩ (by first | assumption | exact (LSP_FR hF rfl rfl (by assumption : LSP S))) (by first | assumption | omega) (by first | assumption | exact (RBD_FR hF rfl (by assumption : RBD S))) _) ?_
      rintro _ _ ⟨rfl, z10, rfl, w10, f60⟩
      show Pl _ _ _ _ _ _ [iv z10] _ _
      refine y_istore rfl rfl rfl ?_
      refine y_iload_n rfl rfl ?_
      refine y_iconst rfl ?_
      refine y_icmp_ne rfl rfl (by unfold rg; omega) (by unfold rg; omega) (fun w11 => ?_) (fun w12 => ?_)
      · refine y_iload rfl rfl ?_
        refine y_istore rfl rfl rfl ?_
        have V83 : z10 = mtV S td rn := by unfold mtV; first | (exfalso; omega) | (have u := f60; rw [if_neg (by omega), if_neg (by omega), ← f60]; first | (rw [if_pos (by omega)]) | (rw [if_neg (by omega)])) | (rw [if_neg (by omega), if_pos (by omega)]; first | (rw [if_pos (by omega)]) | (rw [if_neg (by omega)])) | (rw [if_pos (by omega)]; first | (rw [if_pos (by omega)]) | (rw [if_neg (by omega)]))
        refine y_aload_n rfl rfl ?_
        refine y_iload rfl rfl ?_
        refine y_bipush rfl rfl ?_
        refine y_icmp_eq rfl rfl (by unfold rg; omega) (by unfold rg; omega) (fun w13 => ?_) (fun w14 => ?_)
        · refine y_iconst rfl ?_
          refine y_iconst rfl ?_
          refine y_iload rfl rfl ?_
          refine y_callV rfl rfl rfl (t_mo_need__p hH 0 4 (td % 10000) ⟨by omega, by omega⟩ ⟨by omega, by omega⟩ ⟨by omega, by omega⟩ _) ?_
          rintro _ T1 ⟨hHT1, w16, rfl, nt101⟩
          have hFT1 : FR md_mo_meant__p S T1 := FR.tr hF w16 rfl
          show Pl _ _ _ _ _ _ [] _ _
          refine y_iload rfl rfl ?_
          refine y_ireturn rfl rfl ?_
          have w17 : Xi T1 904 115 = Xi S 904 115 := (show Xi T1 904 115 = Xi S 904 115 from w16.x _ _ rfl)
          have w18 : Xi T1 904 116 = Xi S 904 116 := (show Xi T1 904 116 = Xi S 904 116 from w16.x _ _ rfl)
          exact ⟨hHT1, hFT1, _, rfl, ⟨by omega, by omega⟩, (⟨V83, by have t := nt101; first | (rw [if_pos (by omega)]; rw [if_neg (show ¬ (1 : Int) = 0 by decide)] at t; exact t) | (rw [if_neg (by omega)]; rw [if_pos (show (0 : Int) = 0 from rfl)] at t; exact t)⟩)⟩
        · refine y_iconst rfl ?_
          refine y_goto rfl rfl ?_
          refine y_iconst rfl ?_
          refine y_iload rfl rfl ?_
          refine y_callV rfl rfl rfl (t_mo_need__p hH 1 4 (td % 10000) ⟨by omega, by omega⟩ ⟨by omega, by omega⟩ ⟨by omega, by omega⟩ _) ?_
          rintro _ T2 ⟨hHT2, w20, rfl, nt101⟩
          have hFT2 : FR md_mo_meant__p S T2 := FR.tr hF w20 rfl
          show Pl _ _ _ _ _ _ [] _ _
          refine y_iload rfl rfl ?_
          refine y_ireturn rfl rfl ?_
          have w21 : Xi T2 904 115 = Xi S 904 115 := (show Xi T2 904 115 = Xi S 904 115 from w20.x _ _ rfl)
          have w22 : Xi T2 904 116 = Xi S 904 116 := (show Xi T2 904 116 = Xi S 904 116 from w20.x _ _ rfl)
          exact ⟨hHT2, hFT2, _, rfl, ⟨by omega, by omega⟩, (⟨V83, by have t := nt101; first | (rw [if_pos (by omega)]; rw [if_neg (show ¬ (1 : Int) = 0 by decide)] at t; exact t) | (rw [if_neg (by omega)]; rw [if_pos (show (0 : Int) = 0 from rfl)] at t; exact t)⟩)⟩
      · refine y_iload rfl rfl ?_
        refine y_iconst rfl ?_
        refine y_icmp_ne rfl rfl (by unfold rg; omega) (by unfold rg; omega) (fun w23 => ?_) (fun w24 => ?_)
        · refine y_iload rfl rfl ?_
          refine y_istore rfl rfl rfl ?_
          have V83 : z10 = mtV S td rn := by unfold mtV; first | (exfalso; omega) | (have u := f60; rw [if_neg (by omega), if_neg (by omega), ← f60]; first | (rw [if_pos (by omega)]) | (rw [if_neg (by omega)])) | (rw [if_neg (by omega), if_pos (by omega)]; first | (rw [if_pos (by omega)]) | (rw [if_neg (by omega)])) | (rw [if_pos (by omega)]; first | (rw [if_pos (by omega)]) | (rw [if_neg (by omega)]))
          refine y_aload_n rfl rfl ?_
          refine y_iload rfl rfl ?_
          refine y_bipush rfl rfl ?_
          refine y_icmp_eq rfl rfl (by unfold rg; omega) (by unfold rg; omega) (fun w25 => ?_) (fun w26 => ?_)
          · refine y_iconst rfl ?_
            refine y_iconst rfl ?_
            refine y_iload rfl rfl ?_
            refine y_callV rfl rfl rfl (t_mo_need__p hH 0 4 (td % 10000) ⟨by omega, by omega⟩ ⟨by omega, by omega⟩ ⟨by omega, by omega⟩ _) ?_
            rintro _ T3 ⟨hHT3, w28, rfl, nt101⟩
            have hFT3 : FR md_mo_meant__p S T3 := FR.tr hF w28 rfl
            show Pl _ _ _ _ _ _ [] _ _
            refine y_iload rfl rfl ?_
            refine y_ireturn rfl rfl ?_
            have w29 : Xi T3 904 115 = Xi S 904 115 := (show Xi T3 904 115 = Xi S 904 115 from w28.x _ _ rfl)
            have w30 : Xi T3 904 116 = Xi S 904 116 := (show Xi T3 904 116 = Xi S 904 116 from w28.x _ _ rfl)
            exact ⟨hHT3, hFT3, _, rfl, ⟨by omega, by omega⟩, (⟨V83, by have t := nt101; first | (rw [if_pos (by omega)]; rw [if_neg (show ¬ (1 : Int) = 0 by decide)] at t; exact t) | (rw [if_neg (by omega)]; rw [if_pos (show (0 : Int) = 0 from rfl)] at t; exact t)⟩)⟩
          · refine y_iconst rfl ?_
            refine y_goto rfl rfl ?_
            refine y_iconst rfl ?_
            refine y_iload rfl rfl ?_
            refine y_callV rfl rfl rfl (t_mo_need__p hH 1 4 (td % 10000) ⟨by omega, by omega⟩ ⟨by omega, by omega⟩ ⟨by omega, by omega⟩ _) ?_
            rintro _ T4 ⟨hHT4, w32, rfl, nt101⟩
            have hFT4 : FR md_mo_meant__p S T4 := FR.tr hF w32 rfl
            show Pl _ _ _ _ _ _ [] _ _
            refine y_iload rfl rfl ?_
            refine y_ireturn rfl rfl ?_
            have w33 : Xi T4 904 115 = Xi S 904 115 := (show Xi T4 904 115 = Xi S 904 115 from w32.x _ _ rfl)
            have w34 : Xi T4 904 116 = Xi S 904 116 := (show Xi T4 904 116 = Xi S 904 116 from w32.x _ _ rfl)
            exact ⟨hHT4, hFT4, _, rfl, ⟨by omega, by omega⟩, (⟨V83, by have t := nt101; first | (rw [if_pos (by omega)]; rw [if_neg (show ¬ (1 : Int) = 0 by decide)] at t; exact t) | (rw [if_neg (by omega)]; rw [if_pos (show (0 : Int) = 0 from rfl)] at t; exact t)⟩)⟩
        · refine y_bipush rfl rfl ?_
          refine y_goto rfl rfl ?_
          refine y_istore rfl rfl rfl ?_
          have V83 : (-9) = mtV S td rn := by unfold mtV; first | (exfalso; omega) | (have u := f60; rw [if_neg (by omega), if_neg (by omega), ← f60]; first | (rw [if_pos (by omega)]) | (rw [if_neg (by omega)])) | (rw [if_neg (by omega), if_pos (by omega)]; first | (rw [if_pos (by omega)]) | (rw [if_neg (by omega)])) | (rw [if_pos (by omega)]; first | (rw [if_pos (by omega)]) | (rw [if_neg (by omega)]))
          refine y_aload_n rfl rfl ?_
          refine y_iload rfl rfl ?_
          refine y_bipush rfl rfl ?_
          refine y_icmp_eq rfl rfl (by unfold rg; omega) (by unfold rg; omega) (fun w35 => ?_) (fun w36 => absurd w36 (by omega))
          · refine y_iconst rfl ?_
            refine y_iconst rfl ?_
            refine y_iload rfl rfl ?_
            refine y_callV rfl rfl rfl (t_mo_need__p hH 0 4 (td % 10000) ⟨by omega, by omega⟩ ⟨by omega, by omega⟩ ⟨by omega, by omega⟩ _) ?_
            rintro _ T5 ⟨hHT5, w38, rfl, nt101⟩
            have hFT5 : FR md_mo_meant__p S T5 := FR.tr hF w38 rfl
            show Pl _ _ _ _ _ _ [] _ _
            refine y_iload rfl rfl ?_
            refine y_ireturn rfl rfl ?_
            have w39 : Xi T5 904 115 = Xi S 904 115 := (show Xi T5 904 115 = Xi S 904 115 from w38.x _ _ rfl)
            have w40 : Xi T5 904 116 = Xi S 904 116 := (show Xi T5 904 116 = Xi S 904 116 from w38.x _ _ rfl)
            exact ⟨hHT5, hFT5, _, rfl, ⟨by omega, by omega⟩, (⟨V83, by have t := nt101; first | (rw [if_pos (by omega)]; rw [if_neg (show ¬ (1 : Int) = 0 by decide)] at t; exact t) | (rw [if_neg (by omega)]; rw [if_pos (show (0 : Int) = 0 from rfl)] at t; exact t)⟩)⟩
    · refine y_aload_n rfl rfl ?_
      refine y_gfi rfl rfl rfl rfl rfl ?_
      refine y_iconst rfl ?_
      refine y_icmp_ne rfl rfl (by unfold rg; omega) (by unfold rg; omega) (fun w41 => ?_) (fun w42 => ?_)
      · refine y_bipush rfl rfl ?_
        refine y_goto rfl rfl ?_
        refine y_istore rfl rfl rfl ?_
        refine y_iload_n rfl rfl ?_
        refine y_iconst rfl ?_
        refine y_icmp_ne rfl rfl (by unfold rg; omega) (by unfold rg; omega) (fun w43 => ?_) (fun w44 => ?_)
        · refine y_iload rfl rfl ?_
          refine y_istore rfl rfl rfl ?_
          have V83 : (-2) = mtV S td rn := by unfold mtV; first | (exfalso; omega) | (have u := f60; rw [if_neg (by omega), if_neg (by omega), ← f60]; first | (rw [if_pos (by omega)]) | (rw [if_neg (by omega)])) | (rw [if_neg (by omega), if_pos (by omega)]; first | (rw [if_pos (by omega)]) | (rw [if_neg (by omega)])) | (rw [if_pos (by omega)]; first | (rw [if_pos (by omega)]) | (rw [if_neg (by omega)]))
          refine y_aload_n rfl rfl ?_
          refine y_iload rfl rfl ?_
          refine y_bipush rfl rfl ?_
          refine y_icmp_eq rfl rfl (by unfold rg; omega) (by unfold rg; omega) (fun w45 => absurd w45 (by omega)) (fun w46 => ?_)
          · refine y_iconst rfl ?_
            refine y_goto rfl rfl ?_
            refine y_iconst rfl ?_
            refine y_iload rfl rfl ?_
            refine y_callV rfl rfl rfl (t_mo_need__p hH 1 4 (td % 10000) ⟨by omega, by omega⟩ ⟨by omega, by omega⟩ ⟨by omega, by omega⟩ _) ?_
            rintro _ T6 ⟨hHT6, w48, rfl, nt101⟩
            have hFT6 : FR md_mo_meant__p S T6 := FR.tr hF w48 rfl
            show Pl _ _ _ _ _ _ [] _ _
            refine y_iload rfl rfl ?_
            refine y_ireturn rfl rfl ?_
            have w49 : Xi T6 904 115 = Xi S 904 115 := (show Xi T6 904 115 = Xi S 904 115 from w48.x _ _ rfl)
            have w50 : Xi T6 904 116 = Xi S 904 116 := (show Xi T6 904 116 = Xi S 904 116 from w48.x _ _ rfl)
            exact ⟨hHT6, hFT6, _, rfl, ⟨by omega, by omega⟩, (⟨V83, by have t := nt101; first | (rw [if_pos (by omega)]; rw [if_neg (show ¬ (1 : Int) = 0 by decide)] at t; exact t) | (rw [if_neg (by omega)]; rw [if_pos (show (0 : Int) = 0 from rfl)] at t; exact t)⟩)⟩
        · refine y_iload rfl rfl ?_
          refine y_iconst rfl ?_
          refine y_icmp_ne rfl rfl (by unfold rg; omega) (by unfold rg; omega) (fun w51 => ?_) (fun w52 => absurd w52 (by omega))
          · refine y_iload rfl rfl ?_
            refine y_istore rfl rfl rfl ?_
            have V83 : (-2) = mtV S td rn := by unfold mtV; first | (exfalso; omega) | (have u := f60; rw [if_neg (by omega), if_neg (by omega), ← f60]; first | (rw [if_pos (by omega)]) | (rw [if_neg (by omega)])) | (rw [if_neg (by omega), if_pos (by omega)]; first | (rw [if_pos (by omega)]) | (rw [if_neg (by omega)])) | (rw [if_pos (by omega)]; first | (rw [if_pos (by omega)]) | (rw [if_neg (by omega)]))
            refine y_aload_n rfl rfl ?_
            refine y_iload rfl rfl ?_
            refine y_bipush rfl rfl ?_
            refine y_icmp_eq rfl rfl (by unfold rg; omega) (by unfold rg; omega) (fun w53 => absurd w53 (by omega)) (fun w54 => ?_)
            · refine y_iconst rfl ?_
              refine y_goto rfl rfl ?_
              refine y_iconst rfl ?_
              refine y_iload rfl rfl ?_
              refine y_callV rfl rfl rfl (t_mo_need__p hH 1 4 (td % 10000) ⟨by omega, by omega⟩ ⟨by omega, by omega⟩ ⟨by omega, by omega⟩ _) ?_
              rintro _ T7 ⟨hHT7, w56, rfl, nt101⟩
              have hFT7 : FR md_mo_meant__p S T7 := FR.tr hF w56 rfl
              show Pl _ _ _ _ _ _ [] _ _
              refine y_iload rfl rfl ?_
              refine y_ireturn rfl rfl ?_
              have w57 : Xi T7 904 115 = Xi S 904 115 := (show Xi T7 904 115 = Xi S 904 115 from w56.x _ _ rfl)
              have w58 : Xi T7 904 116 = Xi S 904 116 := (show Xi T7 904 116 = Xi S 904 116 from w56.x _ _ rfl)
              exact ⟨hHT7, hFT7, _, rfl, ⟨by omega, by omega⟩, (⟨V83, by have t := nt101; first | (rw [if_pos (by omega)]; rw [if_neg (show ¬ (1 : Int) = 0 by decide)] at t; exact t) | (rw [if_neg (by omega)]; rw [if_pos (show (0 : Int) = 0 from rfl)] at t; exact t)⟩)⟩
      · refine y_bipush rfl rfl ?_
        refine y_goto rfl rfl ?_
        refine y_istore rfl rfl rfl ?_
        refine y_iload_n rfl rfl ?_
        refine y_iconst rfl ?_
        refine y_icmp_ne rfl rfl (by unfold rg; omega) (by unfold rg; omega) (fun w59 => ?_) (fun w60 => ?_)
        · refine y_iload rfl rfl ?_
          refine y_istore rfl rfl rfl ?_
          have V83 : (-9) = mtV S td rn := by unfold mtV; first | (exfalso; omega) | (have u := f60; rw [if_neg (by omega), if_neg (by omega), ← f60]; first | (rw [if_pos (by omega)]) | (rw [if_neg (by omega)])) | (rw [if_neg (by omega), if_pos (by omega)]; first | (rw [if_pos (by omega)]) | (rw [if_neg (by omega)])) | (rw [if_pos (by omega)]; first | (rw [if_pos (by omega)]) | (rw [if_neg (by omega)]))
          refine y_aload_n rfl rfl ?_
          refine y_iload rfl rfl ?_
          refine y_bipush rfl rfl ?_
          refine y_icmp_eq rfl rfl (by unfold rg; omega) (by unfold rg; omega) (fun w61 => ?_) (fun w62 => absurd w62 (by omega))
          · refine y_iconst rfl ?_
            refine y_iconst rfl ?_
            refine y_iload rfl rfl ?_
            refine y_callV rfl rfl rfl (t_mo_need__p hH 0 4 (td % 10000) ⟨by omega, by omega⟩ ⟨by omega, by omega⟩ ⟨by omega, by omega⟩ _) ?_
            rintro _ T8 ⟨hHT8, w64, rfl, nt101⟩
            have hFT8 : FR md_mo_meant__p S T8 := FR.tr hF w64 rfl
            show Pl _ _ _ _ _ _ [] _ _
            refine y_iload rfl rfl ?_
            refine y_ireturn rfl rfl ?_
            have w65 : Xi T8 904 115 = Xi S 904 115 := (show Xi T8 904 115 = Xi S 904 115 from w64.x _ _ rfl)
            have w66 : Xi T8 904 116 = Xi S 904 116 := (show Xi T8 904 116 = Xi S 904 116 from w64.x _ _ rfl)
            exact ⟨hHT8, hFT8, _, rfl, ⟨by omega, by omega⟩, (⟨V83, by have t := nt101; first | (rw [if_pos (by omega)]; rw [if_neg (show ¬ (1 : Int) = 0 by decide)] at t; exact t) | (rw [if_neg (by omega)]; rw [if_pos (show (0 : Int) = 0 from rfl)] at t; exact t)⟩)⟩
        · refine y_iload rfl rfl ?_
          refine y_iconst rfl ?_
          refine y_icmp_ne rfl rfl (by unfold rg; omega) (by unfold rg; omega) (fun w67 => ?_) (fun w68 => absurd w68 (by omega))
          · refine y_iload rfl rfl ?_
            refine y_istore rfl rfl rfl ?_
            have V83 : (-9) = mtV S td rn := by unfold mtV; first | (exfalso; omega) | (have u := f60; rw [if_neg (by omega), if_neg (by omega), ← f60]; first | (rw [if_pos (by omega)]) | (rw [if_neg (by omega)])) | (rw [if_neg (by omega), if_pos (by omega)]; first | (rw [if_pos (by omega)]) | (rw [if_neg (by omega)])) | (rw [if_pos (by omega)]; first | (rw [if_pos (by omega)]) | (rw [if_neg (by omega)]))
            refine y_aload_n rfl rfl ?_
            refine y_iload rfl rfl ?_
            refine y_bipush rfl rfl ?_
            refine y_icmp_eq rfl rfl (by unfold rg; omega) (by unfold rg; omega) (fun w69 => ?_) (fun w70 => absurd w70 (by omega))
            · refine y_iconst rfl ?_
              refine y_iconst rfl ?_
              refine y_iload rfl rfl ?_
              refine y_callV rfl rfl rfl (t_mo_need__p hH 0 4 (td % 10000) ⟨by omega, by omega⟩ ⟨by omega, by omega⟩ ⟨by omega, by omega⟩ _) ?_
              rintro _ T9 ⟨hHT9, w72, rfl, nt101⟩
              have hFT9 : FR md_mo_meant__p S T9 := FR.tr hF w72 rfl
              show Pl _ _ _ _ _ _ [] _ _
              refine y_iload rfl rfl ?_
              refine y_ireturn rfl rfl ?_
              have w73 : Xi T9 904 115 = Xi S 904 115 := (show Xi T9 904 115 = Xi S 904 115 from w72.x _ _ rfl)
              have w74 : Xi T9 904 116 = Xi S 904 116 := (show Xi T9 904 116 = Xi S 904 116 from w72.x _ _ rfl)
              exact ⟨hHT9, hFT9, _, rfl, ⟨by omega, by omega⟩, (⟨V83, by have t := nt101; first | (rw [if_pos (by omega)]; rw [if_neg (show ¬ (1 : Int) = 0 by decide)] at t; exact t) | (rw [if_neg (by omega)]; rw [if_pos (show (0 : Int) = 0 from rfl)] at t; exact t)⟩)⟩
  · refine y_aload_n rfl rfl ?_
    refine y_gfi rfl rfl rfl rfl rfl ?_
    refine y_iconst rfl ?_
    refine y_icmp_ne rfl rfl (by unfold rg; omega) (by unfold rg; omega) (fun w75 => ?_) (fun w76 => ?_)
    · refine y_iconst rfl ?_
      refine y_goto rfl rfl ?_
      refine y_istore rfl rfl rfl ?_
      refine y_iload_n rfl rfl ?_
      refine y_iconst rfl ?_
      refine y_icmp_ne rfl rfl (by unfold rg; omega) (by unfold rg; omega) (fun w77 => ?_) (fun w78 => ?_)
      · refine y_iload rfl rfl ?_
        refine y_istore rfl rfl rfl ?_
        have V83 : (-1) = mtV S td rn := by unfold mtV; first | (exfalso; omega) | (have u := f60; rw [if_neg (by omega), if_neg (by omega), ← f60]; first | (rw [if_pos (by omega)]) | (rw [if_neg (by omega)])) | (rw [if_neg (by omega), if_pos (by omega)]; first | (rw [if_pos (by omega)]) | (rw [if_neg (by omega)])) | (rw [if_pos (by omega)]; first | (rw [if_pos (by omega)]) | (rw [if_neg (by omega)]))
        refine y_aload_n rfl rfl ?_
        refine y_iload rfl rfl ?_
        refine y_bipush rfl rfl ?_
        refine y_icmp_eq rfl rfl (by unfold rg; omega) (by unfold rg; omega) (fun w79 => absurd w79 (by omega)) (fun w80 => ?_)
        · refine y_iconst rfl ?_
          refine y_goto rfl rfl ?_
          refine y_iconst rfl ?_
          refine y_iload rfl rfl ?_
          refine y_callV rfl rfl rfl (t_mo_need__p hH 1 4 (td % 10000) ⟨by omega, by omega⟩ ⟨by omega, by omega⟩ ⟨by omega, by omega⟩ _) ?_
          rintro _ T10 ⟨hHT10, w82, rfl, nt101⟩
          have hFT10 : FR md_mo_meant__p S T10 := FR.tr hF w82 rfl
          show Pl _ _ _ _ _ _ [] _ _
          refine y_iload rfl rfl ?_
          refine y_ireturn rfl rfl ?_
          have w83 : Xi T10 904 115 = Xi S 904 115 := (show Xi T10 904 115 = Xi S 904 115 from w82.x _ _ rfl)
          have w84 : Xi T10 904 116 = Xi S 904 116 := (show Xi T10 904 116 = Xi S 904 116 from w82.x _ _ rfl)
          exact ⟨hHT10, hFT10, _, rfl, ⟨by omega, by omega⟩, (⟨V83, by have t := nt101; first | (rw [if_pos (by omega)]; rw [if_neg (show ¬ (1 : Int) = 0 by decide)] at t; exact t) | (rw [if_neg (by omega)]; rw [if_pos (show (0 : Int) = 0 from rfl)] at t; exact t)⟩)⟩
      · refine y_iload rfl rfl ?_
        refine y_iconst rfl ?_
        refine y_icmp_ne rfl rfl (by unfold rg; omega) (by unfold rg; omega) (fun w85 => absurd w85 (by omega)) (fun w86 => ?_)
        · refine y_bipush rfl rfl ?_
          refine y_goto rfl rfl ?_
          refine y_istore rfl rfl rfl ?_
          have V83 : (-9) = mtV S td rn := by unfold mtV; first | (exfalso; omega) | (have u := f60; rw [if_neg (by omega), if_neg (by omega), ← f60]; first | (rw [if_pos (by omega)]) | (rw [if_neg (by omega)])) | (rw [if_neg (by omega), if_pos (by omega)]; first | (rw [if_pos (by omega)]) | (rw [if_neg (by omega)])) | (rw [if_pos (by omega)]; first | (rw [if_pos (by omega)]) | (rw [if_neg (by omega)]))
          refine y_aload_n rfl rfl ?_
          refine y_iload rfl rfl ?_
          refine y_bipush rfl rfl ?_
          refine y_icmp_eq rfl rfl (by unfold rg; omega) (by unfold rg; omega) (fun w87 => ?_) (fun w88 => absurd w88 (by omega))
          · refine y_iconst rfl ?_
            refine y_iconst rfl ?_
            refine y_iload rfl rfl ?_
            refine y_callV rfl rfl rfl (t_mo_need__p hH 0 4 (td % 10000) ⟨by omega, by omega⟩ ⟨by omega, by omega⟩ ⟨by omega, by omega⟩ _) ?_
            rintro _ T11 ⟨hHT11, w90, rfl, nt101⟩
            have hFT11 : FR md_mo_meant__p S T11 := FR.tr hF w90 rfl
            show Pl _ _ _ _ _ _ [] _ _
            refine y_iload rfl rfl ?_
            refine y_ireturn rfl rfl ?_
            have w91 : Xi T11 904 115 = Xi S 904 115 := (show Xi T11 904 115 = Xi S 904 115 from w90.x _ _ rfl)
            have w92 : Xi T11 904 116 = Xi S 904 116 := (show Xi T11 904 116 = Xi S 904 116 from w90.x _ _ rfl)
            exact ⟨hHT11, hFT11, _, rfl, ⟨by omega, by omega⟩, (⟨V83, by have t := nt101; first | (rw [if_pos (by omega)]; rw [if_neg (show ¬ (1 : Int) = 0 by decide)] at t; exact t) | (rw [if_neg (by omega)]; rw [if_pos (show (0 : Int) = 0 from rfl)] at t; exact t)⟩)⟩
    · refine y_bipush rfl rfl ?_
      refine y_goto rfl rfl ?_
      refine y_istore rfl rfl rfl ?_
      refine y_iload_n rfl rfl ?_
      refine y_iconst rfl ?_
      refine y_icmp_ne rfl rfl (by unfold rg; omega) (by unfold rg; omega) (fun w93 => ?_) (fun w94 => ?_)
      · refine y_iload rfl rfl ?_
        refine y_istore rfl rfl rfl ?_
        have V83 : (-9) = mtV S td rn := by unfold mtV; first | (exfalso; omega) | (have u := f60; rw [if_neg (by omega), if_neg (by omega), ← f60]; first | (rw [if_pos (by omega)]) | (rw [if_neg (by omega)])) | (rw [if_neg (by omega), if_pos (by omega)]; first | (rw [if_pos (by omega)]) | (rw [if_neg (by omega)])) | (rw [if_pos (by omega)]; first | (rw [if_pos (by omega)]) | (rw [if_neg (by omega)]))
        refine y_aload_n rfl rfl ?_
        refine y_iload rfl rfl ?_
        refine y_bipush rfl rfl ?_
        refine y_icmp_eq rfl rfl (by unfold rg; omega) (by unfold rg; omega) (fun w95 => ?_) (fun w96 => absurd w96 (by omega))
        · refine y_iconst rfl ?_
          refine y_iconst rfl ?_
          refine y_iload rfl rfl ?_
          refine y_callV rfl rfl rfl (t_mo_need__p hH 0 4 (td % 10000) ⟨by omega, by omega⟩ ⟨by omega, by omega⟩ ⟨by omega, by omega⟩ _) ?_
          rintro _ T12 ⟨hHT12, w98, rfl, nt101⟩
          have hFT12 : FR md_mo_meant__p S T12 := FR.tr hF w98 rfl
          show Pl _ _ _ _ _ _ [] _ _
          refine y_iload rfl rfl ?_
          refine y_ireturn rfl rfl ?_
          have w99 : Xi T12 904 115 = Xi S 904 115 := (show Xi T12 904 115 = Xi S 904 115 from w98.x _ _ rfl)
          have w100 : Xi T12 904 116 = Xi S 904 116 := (show Xi T12 904 116 = Xi S 904 116 from w98.x _ _ rfl)
          exact ⟨hHT12, hFT12, _, rfl, ⟨by omega, by omega⟩, (⟨V83, by have t := nt101; first | (rw [if_pos (by omega)]; rw [if_neg (show ¬ (1 : Int) = 0 by decide)] at t; exact t) | (rw [if_neg (by omega)]; rw [if_pos (show (0 : Int) = 0 from rfl)] at t; exact t)⟩)⟩
      · refine y_iload rfl rfl ?_
        refine y_iconst rfl ?_
        refine y_icmp_ne rfl rfl (by unfold rg; omega) (by unfold rg; omega) (fun w101 => ?_) (fun w102 => absurd w102 (by omega))
        · refine y_iload rfl rfl ?_
          refine y_istore rfl rfl rfl ?_
          have V83 : (-9) = mtV S td rn := by unfold mtV; first | (exfalso; omega) | (have u := f60; rw [if_neg (by omega), if_neg (by omega), ← f60]; first | (rw [if_pos (by omega)]) | (rw [if_neg (by omega)])) | (rw [if_neg (by omega), if_pos (by omega)]; first | (rw [if_pos (by omega)]) | (rw [if_neg (by omega)])) | (rw [if_pos (by omega)]; first | (rw [if_pos (by omega)]) | (rw [if_neg (by omega)]))
          refine y_aload_n rfl rfl ?_
          refine y_iload rfl rfl ?_
          refine y_bipush rfl rfl ?_
          refine y_icmp_eq rfl rfl (by unfold rg; omega) (by unfold rg; omega) (fun w103 => ?_) (fun w104 => absurd w104 (by omega))
          · refine y_iconst rfl ?_
            refine y_iconst rfl ?_
            refine y_iload rfl rfl ?_
            refine y_callV rfl rfl rfl (t_mo_need__p hH 0 4 (td % 10000) ⟨by omega, by omega⟩ ⟨by omega, by omega⟩ ⟨by omega, by omega⟩ _) ?_
            rintro _ T13 ⟨hHT13, w106, rfl, nt101⟩
            have hFT13 : FR md_mo_meant__p S T13 := FR.tr hF w106 rfl
            show Pl _ _ _ _ _ _ [] _ _
            refine y_iload rfl rfl ?_
            refine y_ireturn rfl rfl ?_
            have w107 : Xi T13 904 115 = Xi S 904 115 := (show Xi T13 904 115 = Xi S 904 115 from w106.x _ _ rfl)
            have w108 : Xi T13 904 116 = Xi S 904 116 := (show Xi T13 904 116 = Xi S 904 116 from w106.x _ _ rfl)
            exact ⟨hHT13, hFT13, _, rfl, ⟨by omega, by omega⟩, (⟨V83, by have t := nt101; first | (rw [if_pos (by omega)]; rw [if_neg (show ¬ (1 : Int) = 0 by decide)] at t; exact t) | (rw [if_neg (by omega)]; rw [if_pos (show (0 : Int) = 0 from rfl)] at t; exact t)⟩)⟩
def md_mo_propertyMeant__p : List rec := [(904, 905, 104, 105), (904, 905, 105, 106), (904, 905, 106, 107)]
abbrev Q_mo_propertyMeant__p (S : sS) (rn : Int) (th : Int) : pst := fun r S1 => RI S1 ∧ FR md_mo_propertyMeant__p S S1 ∧ (∃ z : Int, r = some (iv z) ∧ (-2147483648 ≤ z ∧ z ≤ 2147483647) ∧ (PMO S S1 z rn th))
set_option maxRecDepth 100000 in
theorem t_mo_propertyMeant__p {S : sS} (hH : RI S) (rn : Int) (th : Int) (hrn : -2147483648 ≤ rn ∧ rn ≤ 2147483647) (hth : -2147483648 ≤ th ∧ th ≤ 2147483647) (hLS : LSP S) (h15 : 0 ≤ Xi S 904 15) (hRB : RBD S) (hB : ABV S) (hkx : Hid (∀ j : Nat, -1 ≤ Xi S 918 j ∧ Xi S 918 j ≤ 15)) (hit : (-1 ≤ Xi S 904 115 ∧ Xi S 904 115 ≤ 15) ∧ (-1 ≤ Xi S 904 116 ∧ Xi S 904 116 ≤ 15)) (hpx : Hid (-1 ≤ rnR S rn 7 ∧ rnR S rn 7 ≤ 11)) (d : Nat) : Mp lay0 (d + 5) m_mo_propertyMeant [.ref 904, iv rn, iv th] S (Q_mo_propertyMeant__p S rn th) := by
  refine Mp_R rfl rfl (fun fu => ?_)
  have hF : FR md_mo_propertyMeant__p S S := FR.rf
  have w1 : -2147483648 ≤ Xi S 904 115 ∧ Xi S 904 115 ≤ 2147483647 := Xi_rgI
  have w2 : -2147483648 ≤ Xi S 904 116 ∧ Xi S 904 116 ≤ 2147483647 := Xi_rgI
  have w3 : -2147483648 ≤ Xi S 904 15 ∧ Xi S 904 15 ≤ 2147483647 := Xi_rgI
  have hp7 := hpx.o
  have C48 : ∀  (T1 : sS) (_ : RI T1) (_ : FR md_mo_propertyMeant__p S T1) (v3 : Int), (-1 ≤ v3 ∧ v3 ≤ 11) → (v3 = rnR S rn 7) → (Hid (PMN S T1 rn th)) → Pl fu lay0 (d + 4) m_mo_propertyMeant 48 [(0, .ref 904), (2, iv th), (3, iv v3)] [] T1 (Q_mo_propertyMeant__p S rn th) := by
    intro T1 hHT1 hFT1 v3 w4 p48 N48
    have w5 : Xi T1 904 115 = Xi S 904 115 := hFT1.x _ _ rfl
    have w6 : Xi T1 904 116 = Xi S 904 116 := hFT1.x _ _ rfl
    have w7 : Xi T1 904 15 = Xi S 904 15 := hFT1.x _ _ rfl
    have w8 : Xi T1 904 69 = Xi S 904 69 := hFT1.x _ _ rfl
    have w9 : -2147483648 ≤ Xi T1 904 115 ∧ Xi T1 904 115 ≤ 2147483647 := Xi_rgI
    have w10 : -2147483648 ≤ Xi T1 904 116 ∧ Xi T1 904 116 ≤ 2147483647 := Xi_rgI
    have w11 : -2147483648 ≤ Xi T1 904 15 ∧ Xi T1 904 15 ≤ 2147483647 := Xi_rgI
    refine y_iload_n rfl rfl ?_
    refine y_iconst rfl ?_
    refine y_icmp_eq rfl rfl (by unfold rg; omega) (by unfold rg; omega) (fun w12 => ?_) (fun w13 => ?_)
    · refine y_iconst rfl ?_
      refine y_ireturn rfl rfl ?_
      exact ⟨hHT1, hFT1, _, rfl, ⟨by omega, by omega⟩, (⟨by unfold pmZ; first | (have u := g66; rw [← p48, ← g66]; first | (rw [if_pos (by omega)]) | (rw [if_neg (by omega)])) | (rw [if_neg (by rw [← p48]; omega)]), N48.o⟩)⟩
    · refine y_iload_n rfl rfl ?_
      refine y_bipush rfl rfl ?_
      refine y_icmp_eq rfl rfl (by unfold rg; omega) (by unfold rg; omega) (fun w14 => ?_) (fun w15 => ?_)
      · refine y_iconst rfl ?_
        refine y_ireturn rfl rfl ?_
        exact ⟨hHT1, hFT1, _, rfl, ⟨by omega, by omega⟩, (⟨by unfold pmZ; first | (have u := g66; rw [← p48, ← g66]; first | (rw [if_pos (by omega)]) | (rw [if_neg (by omega)])) | (rw [if_neg (by rw [← p48]; omega)]), N48.o⟩)⟩
      · refine y_aload_n rfl rfl ?_
        refine y_aload_n rfl rfl ?_
        refine y_iload_n rfl rfl ?_
        refine y_callV rfl rfl rfl (t_mo_kindOfThing__p hHT1 th ⟨by omega, by omega⟩ _) ?_
        rintro _ _ ⟨rfl, z16, rfl, w16, k62_⟩
        show Pl _ _ _ _ _ _ [iv z16, .ref 904] _ _
        have k62 : z16 = ktC S th := by have u := k62_; unfold ktC at u ⊢; rw [hFT1.x 904 115 rfl, hFT1.x 904 116 rfl, (hFT1.cx 918 rfl _).1] at u; exact u
        have r62 : -1 ≤ z16 ∧ z16 ≤ 15 := by have u := hkx.o th.toNat; rw [k62]; unfold ktC; first | (split; omega; split; omega; exact u) | (split; omega; split; omega; split; omega; exact u)
        refine y_iload_n rfl rfl ?_
        refine y_callV rfl rfl rfl (t_mo_has__p hHT1 z16 v3 ⟨by omega, by omega⟩ ⟨by omega, by omega⟩ (by first | assumption | exact (ABV_FR hFT1 rfl (by assumption : ABV S))) _) ?_
        rintro _ _ ⟨rfl, z17, rfl, w17, f66⟩
        show Pl _ _ _ _ _ _ [iv z17] _ _
        have g66 : z17 = hsR S (ktC S th) v3 := by have u := f66; rw [k62, HSF hFT1 rfl rfl] at u; exact u
        refine y_if_eq rfl rfl (by unfold rg; omega) (fun w18 => ?_) (fun w19 => ?_)
        · refine y_iconst rfl ?_
          refine y_ireturn rfl rfl ?_
          exact ⟨hHT1, hFT1, _, rfl, ⟨by omega, by omega⟩, (⟨by unfold pmZ; first | (have u := g66; rw [← p48, ← g66]; first | (rw [if_pos (by omega)]) | (rw [if_neg (by omega)])) | (rw [if_neg (by rw [← p48]; omega)]), N48.o⟩)⟩
        · refine y_iload_n rfl rfl ?_
          refine y_goto rfl rfl ?_
          refine y_ireturn rfl rfl ?_
          exact ⟨hHT1, hFT1, _, rfl, ⟨by omega, by omega⟩, (⟨by unfold pmZ; first | (have u := g66; rw [← p48, ← g66]; first | (rw [if_pos (by omega)]) | (rw [if_neg (by omega)])) | (rw [if_neg (by rw [← p48]; omega)]), N48.o⟩)⟩
  refine y_aload_n rfl rfl ?_
  refine y_iload_n rfl rfl ?_
  refine y_bipush rfl rfl ?_
  refine y_callV rfl rfl rfl (t_mo_meansRun__p hH rn 7 ⟨by omega, by omega⟩ ⟨by omega, by omega⟩ (by first | assumption | exact (LSP_FR hF rfl rfl (by assumption : LSP S))) (by first | assumption | omega) (by first | assumption | exact (RBD_FR hF rfl (by assumption : RBD S))) _) ?_
  rintro _ _ ⟨rfl, z20, rfl, w20, f4⟩
  show Pl _ _ _ _ _ _ [iv z20] _ _
  refine y_istore_n rfl rfl rfl ?_
  refine y_aload_n rfl rfl ?_
  refine y_iload_n rfl rfl ?_
  refine y_iconst rfl ?_
  refine y_icmp_eq rfl rfl (by unfold rg; omega) (by unfold rg; omega) (fun w21 => ?_) (fun w22 => ?_)
  · refine y_iconst rfl ?_
    have Q38n : ¬ pmK S rn th := fun w => by first | exact w.1 (by rw [← f4]; omega) | (rcases w.2 with x | x; omega; (rw [← g27] at x; omega))
    refine y_iconst rfl ?_
    refine y_aload_n rfl rfl ?_
    refine y_gfr rfl rfl rfl rfl rfl (hH.r 904 67 950 rfl) ?_
    refine y_iload_n rfl rfl ?_
    refine y_ialoadP (n := 2600) rfl rfl (by unfold rg; omega) (fun w23 w24 => ?_)
    have w25 : -2147483648 ≤ (Xi S 950 ((rn).toNat)) ∧ (Xi S 950 ((rn).toNat)) ≤ 2147483647 := Xi_rgI
    refine y_callV rfl rfl rfl (t_mo_need__p hH 0 4 (Xi S 950 ((rn).toNat)) ⟨by omega, by omega⟩ ⟨by omega, by omega⟩ ⟨by omega, by omega⟩ _) ?_
    rintro _ T2 ⟨hHT2, w27, rfl, nt45⟩
    have hFT2 : FR md_mo_propertyMeant__p S T2 := FR.tr hF w27 rfl
    show Pl _ _ _ _ _ _ [] _ _
    have N45 : Hid (PMN S T2 rn th) := by have t := nt45; first | (rw [if_neg (show ¬ (1 : Int) = 0 by decide)] at t; exact ⟨fun _ => t, fun q => absurd Q38 q⟩) | (rw [if_pos (show (0 : Int) = 0 from rfl)] at t; exact ⟨fun q => absurd q Q38n, fun _ => t⟩)
    have w28 : Xi T2 904 115 = Xi S 904 115 := (show Xi T2 904 115 = Xi S 904 115 from w27.x _ _ rfl)
    have w29 : Xi T2 904 116 = Xi S 904 116 := (show Xi T2 904 116 = Xi S 904 116 from w27.x _ _ rfl)
    have w30 : Xi T2 904 15 = Xi S 904 15 := (show Xi T2 904 15 = Xi S 904 15 from w27.x _ _ rfl)
    exact Pl_weak (C48 T2 hHT2 hFT2 (z20) (by omega) (f4) (N45)) (by omega) (And.intro rfl (And.intro rfl (And.intro rfl (True.intro))))
  · refine y_iload_n rfl rfl ?_
    refine y_bipush rfl rfl ?_
    refine y_icmp_eq rfl rfl (by unfold rg; omega) (by unfold rg; omega) (fun w31 => ?_) (fun w32 => ?_)
    · refine y_iconst rfl ?_
      have Q38 : pmK S rn th := ⟨by rw [← f4]; omega, by first | exact Or.inl (by omega) | exact Or.inr (by rw [← g27]; omega)⟩
      refine y_goto rfl rfl ?_
      refine y_iconst rfl ?_
      refine y_aload_n rfl rfl ?_
      refine y_gfr rfl rfl rfl rfl rfl (hH.r 904 67 950 rfl) ?_
      refine y_iload_n rfl rfl ?_
      refine y_ialoadP (n := 2600) rfl rfl (by unfold rg; omega) (fun w33 w34 => ?_)
      have w35 : -2147483648 ≤ (Xi S 950 ((rn).toNat)) ∧ (Xi S 950 ((rn).toNat)) ≤ 2147483647 := Xi_rgI
      refine y_callV rfl rfl rfl (t_mo_need__p hH 1 4 (Xi S 950 ((rn).toNat)) ⟨by omega, by omega⟩ ⟨by omega, by omega⟩ ⟨by omega, by omega⟩ _) ?_
      rintro _ T3 ⟨hHT3, w37, rfl, nt45⟩
      have hFT3 : FR md_mo_propertyMeant__p S T3 := FR.tr hF w37 rfl
      show Pl _ _ _ _ _ _ [] _ _
      have N45 : Hid (PMN S T3 rn th) := by have t := nt45; first | (rw [if_neg (show ¬ (1 : Int) = 0 by decide)] at t; exact ⟨fun _ => t, fun q => absurd Q38 q⟩) | (rw [if_pos (show (0 : Int) = 0 from rfl)] at t; exact ⟨fun q => absurd q Q38n, fun _ => t⟩)
      have w38 : Xi T3 904 115 = Xi S 904 115 := (show Xi T3 904 115 = Xi S 904 115 from w37.x _ _ rfl)
      have w39 : Xi T3 904 116 = Xi S 904 116 := (show Xi T3 904 116 = Xi S 904 116 from w37.x _ _ rfl)
      have w40 : Xi T3 904 15 = Xi S 904 15 := (show Xi T3 904 15 = Xi S 904 15 from w37.x _ _ rfl)
      exact Pl_weak (C48 T3 hHT3 hFT3 (z20) (by omega) (f4) (N45)) (by omega) (And.intro rfl (And.intro rfl (And.intro rfl (True.intro))))
    · refine y_aload_n rfl rfl ?_
      refine y_aload_n rfl rfl ?_
      refine y_iload_n rfl rfl ?_
      refine y_callV rfl rfl rfl (t_mo_kindOfThing__p hH th ⟨by omega, by omega⟩ _) ?_
      rintro _ _ ⟨rfl, z41, rfl, w41, k23⟩
      show Pl _ _ _ _ _ _ [iv z41, .ref 904, .ref 904] _ _
      have r23 : -1 ≤ z41 ∧ z41 ≤ 15 := by have u := hkx.o th.toNat; rw [k23]; unfold ktC; first | (split; omega; split; omega; exact u) | (split; omega; split; omega; split; omega; exact u)
      refine y_iload_n rfl rfl ?_
      refine y_callV rfl rfl rfl (t_mo_has__p hH z41 z20 ⟨by omega, by omega⟩ ⟨by omega, by omega⟩ (by first | assumption | exact (ABV_FR hF rfl (by assumption : ABV S))) _) ?_
      rintro _ _ ⟨rfl, z42, rfl, w42, f27⟩
      show Pl _ _ _ _ _ _ [iv z42, .ref 904] _ _
      have g27 : z42 = hsR S (ktC S th) (rnR S rn 7) := by have u := f27; rw [k23, f4] at u; exact u
      refine y_if_eq rfl rfl (by unfold rg; omega) (fun w43 => ?_) (fun w44 => ?_)
      · refine y_iconst rfl ?_
        have Q38n : ¬ pmK S rn th := fun w => by first | exact w.1 (by rw [← f4]; omega) | (rcases w.2 with x | x; omega; (rw [← g27] at x; omega))
        refine y_iconst rfl ?_
        refine y_aload_n rfl rfl ?_
        refine y_gfr rfl rfl rfl rfl rfl (hH.r 904 67 950 rfl) ?_
        refine y_iload_n rfl rfl ?_
        refine y_ialoadP (n := 2600) rfl rfl (by unfold rg; omega) (fun w45 w46 => ?_)
        have w47 : -2147483648 ≤ (Xi S 950 ((rn).toNat)) ∧ (Xi S 950 ((rn).toNat)) ≤ 2147483647 := Xi_rgI
        refine y_callV rfl rfl rfl (t_mo_need__p hH 0 4 (Xi S 950 ((rn).toNat)) ⟨by omega, by omega⟩ ⟨by omega, by omega⟩ ⟨by omega, by omega⟩ _) ?_
        rintro _ T4 ⟨hHT4, w49, rfl, nt45⟩
        have hFT4 : FR md_mo_propertyMeant__p S T4 := FR.tr hF w49 rfl
        show Pl _ _ _ _ _ _ [] _ _
        have N45 : Hid (PMN S T4 rn th) := by have t := nt45; first | (rw [if_neg (show ¬ (1 : Int) = 0 by decide)] at t; exact ⟨fun _ => t, fun q => absurd Q38 q⟩) | (rw [if_pos (show (0 : Int) = 0 from rfl)] at t; exact ⟨fun q => absurd q Q38n, fun _ => t⟩)
        have w50 : Xi T4 904 115 = Xi S 904 115 := (show Xi T4 904 115 = Xi S 904 115 from w49.x _ _ rfl)
        have w51 : Xi T4 904 116 = Xi S 904 116 := (show Xi T4 904 116 = Xi S 904 116 from w49.x _ _ rfl)
        have w52 : Xi T4 904 15 = Xi S 904 15 := (show Xi T4 904 15 = Xi S 904 15 from w49.x _ _ rfl)
        exact Pl_weak (C48 T4 hHT4 hFT4 (z20) (by omega) (f4) (N45)) (by omega) (And.intro rfl (And.intro rfl (And.intro rfl (True.intro))))
      · refine y_iconst rfl ?_
        have Q38 : pmK S rn th := ⟨by rw [← f4]; omega, by first | exact Or.inl (by omega) | exact Or.inr (by rw [← g27]; omega)⟩
        refine y_goto rfl rfl ?_
        refine y_iconst rfl ?_
        refine y_aload_n rfl rfl ?_
        refine y_gfr rfl rfl rfl rfl rfl (hH.r 904 67 950 rfl) ?_
        refine y_iload_n rfl rfl ?_
        refine y_ialoadP (n := 2600) rfl rfl (by unfold rg; omega) (fun w53 w54 => ?_)
        have w55 : -2147483648 ≤ (Xi S 950 ((rn).toNat)) ∧ (Xi S 950 ((rn).toNat)) ≤ 2147483647 := Xi_rgI
        refine y_callV rfl rfl rfl (t_mo_need__p hH 1 4 (Xi S 950 ((rn).toNat)) ⟨by omega, by omega⟩ ⟨by omega, by omega⟩ ⟨by omega, by omega⟩ _) ?_
        rintro _ T5 ⟨hHT5, w57, rfl, nt45⟩
        have hFT5 : FR md_mo_propertyMeant__p S T5 := FR.tr hF w57 rfl
        show Pl _ _ _ _ _ _ [] _ _
        have N45 : Hid (PMN S T5 rn th) := by have t := nt45; first | (rw [if_neg (show ¬ (1 : Int) = 0 by decide)] at t; exact ⟨fun _ => t, fun q => absurd Q38 q⟩) | (rw [if_pos (show (0 : Int) = 0 from rfl)] at t; exact ⟨fun q => absurd q Q38n, fun _ => t⟩)
        have w58 : Xi T5 904 115 = Xi S 904 115 := (show Xi T5 904 115 = Xi S 904 115 from w57.x _ _ rfl)
        have w59 : Xi T5 904 116 = Xi S 904 116 := (show Xi T5 904 116 = Xi S 904 116 from w57.x _ _ rfl)
        have w60 : Xi T5 904 15 = Xi S 904 15 := (show Xi T5 904 15 = Xi S 904 15 from w57.x _ _ rfl)
        exact Pl_weak (C48 T5 hHT5 hFT5 (z20) (by omega) (f4) (N45)) (by omega) (And.intro rfl (And.intro rfl (And.intro rfl (True.intro))))
def md_mo_numberMeant__p : List rec := [(904, 905, 104, 105), (904, 905, 105, 106), (904, 905, 106, 107)]
abbrev Q_mo_numberMeant__p (S : sS) (rn : Int) : pst := fun r S1 => RI S1 ∧ FR md_mo_numberMeant__p S S1 ∧ (r = none ∧ (NMO S S1 rn))
set_option maxRecDepth 100000 in
theorem t_mo_numberMeant__p {S : sS} (hH : RI S) (rn : Int) (hrn : -2147483648 ≤ rn ∧ rn ≤ 2147483647) (hLS : LSP S) (h15 : 0 ≤ Xi S 904 15) (hRB : RBD S) (d : Nat) : Mp lay0 (d + 5) m_mo_numberMeant [.ref 904, iv rn] S (Q_mo_numberMeant__p S rn) := by
  refine Mp_R rfl rfl (fun fu => ?_)
  have hF : FR md_mo_numberMeant__p S S := FR.rf
  have w1 : -2147483648 ≤ Xi S 904 15 ∧ Xi S 904 15 ≤ 2147483647 := Xi_rgI
  refine y_aload_n rfl rfl ?_
  refine y_iload_n rfl rfl ?_
  refine y_bipush rfl rfl ?_
  refine y_callV rfl rfl rfl (t_mo_meansRun__p hH rn 7 ⟨by omega, by omega⟩ ⟨by omega, by omega⟩ (by first | assumption | exact (LSP_FR hF rfl rfl (by assumption : LSP S))) (by first | assumption | omega) (by first | assumption | exact (RBD_FR hF rfl (by assumption : RBD S))) _) ?_
  rintro _ _ ⟨rfl, z2, rfl, w2, f4⟩
  show Pl _ _ _ _ _ _ [iv z2] _ _
  refine y_istore_n rfl rfl rfl ?_
  refine y_aload_n rfl rfl ?_
  refine y_iload_n rfl rfl ?_
  refine y_iconst rfl ?_
  refine y_icmp_eq rfl rfl (by unfold rg; omega) (by unfold rg; omega) (fun w3 => ?_) (fun w4 => ?_)
  · refine y_iconst rfl ?_
    refine y_goto rfl rfl ?_
    refine y_iconst rfl ?_
    refine y_aload_n rfl rfl ?_
    refine y_gfr rfl rfl rfl rfl rfl (hH.r 904 67 950 rfl) ?_
    refine y_iload_n rfl rfl ?_
    refine y_ialoadP (n := 2600) rfl rfl (by unfold rg; omega) (fun w5 w6 => ?_)
    have w7 : -2147483648 ≤ (Xi S 950 ((rn).toNat)) ∧ (Xi S 950 ((rn).toNat)) ≤ 2147483647 := Xi_rgI
    refine y_callV rfl rfl rfl (t_mo_need__p hH 1 4 (Xi S 950 ((rn).toNat)) ⟨by omega, by omega⟩ ⟨by omega, by omega⟩ ⟨by omega, by omega⟩ _) ?_
    rintro _ T1 ⟨hHT1, w9, rfl, nt35⟩
    have hFT1 : FR md_mo_numberMeant__p S T1 := FR.tr hF w9 rfl
    show Pl _ _ _ _ _ _ [] _ _
    refine y_return rfl rfl ?_
    exact ⟨hHT1, hFT1, rfl, (by have t := nt35; first | (rw [if_neg (show ¬ (1 : Int) = 0 by decide)] at t; exact ⟨fun _ => t, fun q => absurd (by rw [← f4]; omega) q⟩) | (rw [if_pos (show (0 : Int) = 0 from rfl)] at t; exact ⟨fun q => absurd (by rw [← f4] at q; exact q) (by omega), fun _ => t⟩))⟩
  · refine y_aload_n rfl rfl ?_
    refine y_gfr rfl rfl rfl rfl rfl (hH.r 904 33 928 rfl) ?_
    refine y_iload_n rfl rfl ?_
    refine y_ialoadP (n := 12) rfl rfl (by unfold rg; omega) (fun w10 w11 => ?_)
    have w12 : -2147483648 ≤ (Xi S 928 ((z2).toNat)) ∧ (Xi S 928 ((z2).toNat)) ≤ 2147483647 := Xi_rgI
    have p19 : (Xi S 928 ((z2).toNat)) = Xi S 928 (rnR S rn 7).toNat := by rw [← f4]
    refine y_if_ne rfl rfl (by unfold rg; omega) (fun w13 => ?_) (fun w14 => ?_)
    · refine y_iconst rfl ?_
      refine y_iconst rfl ?_
      refine y_aload_n rfl rfl ?_
      refine y_gfr rfl rfl rfl rfl rfl (hH.r 904 67 950 rfl) ?_
      refine y_iload_n rfl rfl ?_
      refine y_ialoadP (n := 2600) rfl rfl (by unfold rg; omega) (fun w15 w16 => ?_)
      have w17 : -2147483648 ≤ (Xi S 950 ((rn).toNat)) ∧ (Xi S 950 ((rn).toNat)) ≤ 2147483647 := Xi_rgI
      refine y_callV rfl rfl rfl (t_mo_need__p hH 0 4 (Xi S 950 ((rn).toNat)) ⟨by omega, by omega⟩ ⟨by omega, by omega⟩ ⟨by omega, by omega⟩ _) ?_
      rintro _ T2 ⟨hHT2, w19, rfl, nt35⟩
      have hFT2 : FR md_mo_numberMeant__p S T2 := FR.tr hF w19 rfl
      show Pl _ _ _ _ _ _ [] _ _
      refine y_return rfl rfl ?_
      exact ⟨hHT2, hFT2, rfl, (by have t := nt35; first | (rw [if_neg (show ¬ (1 : Int) = 0 by decide)] at t; exact ⟨fun _ => t, fun q => absurd (by rw [← f4]; omega) q⟩) | (rw [if_pos (show (0 : Int) = 0 from rfl)] at t; exact ⟨fun q => absurd (by rw [← f4] at q; exact q) (by omega), fun _ => t⟩))⟩
    · refine y_iconst rfl ?_
      refine y_goto rfl rfl ?_
      refine y_iconst rfl ?_
      refine y_aload_n rfl rfl ?_
      refine y_gfr rfl rfl rfl rfl rfl (hH.r 904 67 950 rfl) ?_
      refine y_iload_n rfl rfl ?_
      refine y_ialoadP (n := 2600) rfl rfl (by unfold rg; omega) (fun w20 w21 => ?_)
      have w22 : -2147483648 ≤ (Xi S 950 ((rn).toNat)) ∧ (Xi S 950 ((rn).toNat)) ≤ 2147483647 := Xi_rgI
      refine y_callV rfl rfl rfl (t_mo_need__p hH 1 4 (Xi S 950 ((rn).toNat)) ⟨by omega, by omega⟩ ⟨by omega, by omega⟩ ⟨by omega, by omega⟩ _) ?_
      rintro _ T3 ⟨hHT3, w24, rfl, nt35⟩
      have hFT3 : FR md_mo_numberMeant__p S T3 := FR.tr hF w24 rfl
      show Pl _ _ _ _ _ _ [] _ _
      refine y_return rfl rfl ?_
      exact ⟨hHT3, hFT3, rfl, (by have t := nt35; first | (rw [if_neg (show ¬ (1 : Int) = 0 by decide)] at t; exact ⟨fun _ => t, fun q => absurd (by rw [← f4]; omega) q⟩) | (rw [if_pos (show (0 : Int) = 0 from rfl)] at t; exact ⟨fun q => absurd (by rw [← f4] at q; exact q) (by omega), fun _ => t⟩))⟩
end
section
/-! tests of the reference: what states must have in common -/
def AGQ (S P : sS) : Prop := (∀ j, Xi P 907 j = Xi S 907 j) ∧ (∀ t n s, msR P t n s = msR S t n s) ∧ (∀ k o, blR P k o = blR S k o) ∧ (∀ c j, c = 918 ∨ c = 936 ∨ c = 937 ∨ c = 941 ∨ c = 908 → Xi P c j = Xi S c j) ∧ Xi P 904 115 = Xi S 904 115 ∧ Xi P 904 116 = Xi S 904 116
theorem AGQ_F {l : List rec} {S P : sS} (h : FR l S P) (e1 : kdis l [(907, 909)] = true) (e2 : (kdis l kLX && mD l [15]) = true) (e3 : kdis l [(917, 919)] = true) (e4 : kdis l [(936, 942)] = true) (e5 : mdf l 904 115 = false) (e6 : mdf l 904 116 = false) (e7 : kdis l [(917, 918)] = true) : AGQ S P :=
  ⟨fun j => (h.smk e1).x 907 rfl j, fun _ _ _ => msR_FR h e2, fun _ _ => blR_fr h e7 _ _, fun c j q => by
    rcases q with q | q | q | q | q
    · subst q; exact (h.smk e3).x 918 rfl j
    · subst q; exact (h.smk e4).x 936 rfl j
    · subst q; exact (h.smk e4).x 937 rfl j
    · subst q; exact (h.smk e4).x 941 rfl j
    · subst q; exact (h.smk e1).x 908 rfl j, h.x 904 115 e5, h.x 904 116 e6⟩
section AGQS
variable {S P : sS}
theorem oaR_A (g : AGQ S P) (f t : Int) : oaR P f t = oaR S f t := by unfold oaR; rw [g.1]
theorem obR_A (g : AGQ S P) (f t : Int) : obR P f t = obR S f t := by
  unfold obR
  rw [oaR_A g, g.2.1]
  by_cases q : (∀ j : Nat, oaR S f t ≤ j → (j : Int) < t → Xi S 907 j = 3) ∧ msR S (oaR S f t) (t - oaR S f t) 4 ≠ -1
  · rw [if_pos q, if_pos ⟨fun j h1 h2 => by rw [g.1]; exact q.1 j h1 h2, q.2⟩]
  · rw [if_neg q, if_neg (fun w => q ⟨fun j h1 h2 => by rw [← g.1]; exact w.1 j h1 h2, w.2⟩)]
theorem toR_A (g : AGQ S P) (f t : Int) : toR P f t = toR S f t := by
  have r0 : toR0 P f t = toR0 S f t := by unfold toR0; rw [g.1]
  have r1 : toR1 P f t = toR1 S f t := by unfold toR1; rw [g.1]
  have a := g.2.2.2.2.1
  have b := g.2.2.2.2.2
  by_cases q : toR0 S f t
  · unfold toR; rw [if_pos q, if_pos (by rw [r0]; exact q), a]
  · by_cases w : toR1 S f t
    · unfold toR; rw [if_neg q, if_neg (by rw [r0]; exact q), if_pos w, if_pos (by rw [r1]; exact w), b, g.1]
    · unfold toR; rw [if_neg q, if_neg (by rw [r0]; exact q), if_neg w, if_neg (by rw [r1]; exact w), obR_A g]
theorem ktC_A (g : AGQ S P) (t : Int) : ktC P t = ktC S t := by
  unfold ktC
  rw [g.2.2.2.2.1, g.2.2.2.2.2, g.2.2.2.1 918 _ (by omega)]
theorem ftC_A (g : AGQ S P) (t k : Int) : ftC P t k = ftC S t k := by
  unfold ftC
  rw [ktC_A g, g.2.2.1]
theorem vsR_A (g : AGQ S P) (i : Int) : vsR P i = vsR S i := by unfold vsR; rw [g.1, g.2.1]
theorem rsR_A (g : AGQ S P) (i : Int) : rsR P i = rsR S i := by unfold rsR; rw [vsR_A g, g.2.2.2.1 941 _ (by omega)]
theorem qsR_A (g : AGQ S P) (f t i : Int) : qsR P f t i = qsR S f t i := by
  have x6 : ∀ j, Xi P 936 j = Xi S 936 j := fun j => g.2.2.2.1 936 j (by omega)
  have x7 : ∀ j, Xi P 937 j = Xi S 937 j := fun j => g.2.2.2.1 937 j (by omega)
  unfold qsR
  simp only [vsR_A g, rsR_A g, toR_A g, ftC_A g, x6, x7]
theorem cnT_A (g : AGQ S P) (a b : Int) : ∀ n : Nat, cnT P a b n = cnT S a b n
  | 0 => rfl
  | n + 1 => by
    rw [cnT, cnT, cnT_A g a b n]
    by_cases q : qsR S a b (a + 1 + n)
    · rw [if_pos q, if_pos (by rw [qsR_A g]; exact q)]
    · rw [if_neg q, if_neg (by rw [qsR_A g]; exact q)]
theorem psT_A (g : AGQ S P) (a b : Int) : ∀ n : Nat, psT P a b n = psT S a b n
  | 0 => rfl
  | n + 1 => by
    rw [psT, psT, psT_A g a b n]
    by_cases q : psT S a b n = -1 ∧ qsR S a b (a + 1 + n)
    · rw [if_pos q, if_pos ⟨q.1, by rw [qsR_A g]; exact q.2⟩]
    · rw [if_neg q, if_neg (fun w => q ⟨w.1, by rw [← qsR_A g]; exact w.2⟩)]
theorem SYR_A {U : sS} (g : AGQ S P) (q f t i c : Int) : SYR P U q f t i c = SYR S U q f t i c := by
  unfold SYR
  simp only [cnT_A g, psT_A g, qsR_A g, toR_A g, rsR_A g]
theorem SYRO_A {U : sS} (g : AGQ S P) {q f t z : Int} (o : SYRO P U q f t z) : SYRO S U q f t z := by
  obtain ⟨i, a, b, c, d⟩ := o
  rw [SYR_A g] at d
  exact ⟨i, a, b, c, d⟩
theorem SYRO_K {T U : sS} {q f t z : Int} (o : SYRO S T q f t z) (k : ∀ c, c = 971 ∨ c = 972 ∨ c = 975 → ∀ j, Xi U c j = Xi T c j) : SYRO S U q f t z := by
  obtain ⟨i, a, b, c, d1, d2, d3, d4, d5⟩ := o
  exact ⟨i, a, b, c, d1, d2, d3, d4, fun w => ⟨(d5 w).1, (d5 w).2.1, (k 971 (by omega) _).trans (d5 w).2.2.1, (k 975 (by omega) _).trans (d5 w).2.2.2.1, (k 972 (by omega) _).trans (d5 w).2.2.2.2⟩⟩
end AGQS
/-- a saying is tested -/
def TM5 (S S1 : sS) (i q : Int) : Prop := Xi S1 969 q.toNat = 5 ∧ Xi S1 970 q.toNat = Xi S 953 i.toNat ∧ ∃ c : Int, SYRO S S1 q (Xi S 961 i.toNat) (Xi S 962 i.toNat) c ∧
  NT3 S1 = (if c < 2 then (if 0 < c then NT3 S else ntF (NT3 S) 4 (Xi S 908 (Xi S 961 i.toNat).toNat)) else ntF (if 0 < c then NT3 S else ntF (NT3 S) 4 (Xi S 908 (Xi S 961 i.toNat).toNat)) 7 (Xi S 908 (Xi S 961 i.toNat).toNat))
end
section
/-! tests of the reference: places, numbers, properties -/
theorem mtV_F {S P : sS} {td rn : Int} (g : SMR S P) (h5 : Xi P 904 115 = Xi S 904 115) (h6 : Xi P 904 116 = Xi S 904 116) : mtV P td rn = mtV S td rn := by
  unfold mtV
  rw [h5, h6, rnR_sm g]
theorem mto_F {S P U : sS} {z td rn t r : Int} {N : Int × Int × Int} (m : MTO P U z td rn) (g : SMR S P) (h5 : Xi P 904 115 = Xi S 904 115) (h6 : Xi P 904 116 = Xi S 904 116) (n : NT3 P = N) (k : ∀ j, Xi P 908 j = Xi S 908 j) (ht : td = t) (hr : rn = r) : z = mtV S t r ∧ NT3 U = (if z ≠ -9 then N else ntF N 4 (Xi S 908 (t % 10000).toNat)) := by
  subst ht hr
  unfold MTO at m
  rw [mtV_F g h5 h6, n, k] at m
  exact m
noncomputable def mT1 (S : sS) (i : Int) : Int := mtV S (Xi S 954 i.toNat) (Xi S 955 i.toNat)
noncomputable def nT1 (S : sS) (i : Int) : Int × Int × Int := if mT1 S i ≠ -9 then NT3 S else ntF (NT3 S) 4 (Xi S 908 (Xi S 954 i.toNat % 10000).toNat)
noncomputable def mT2 (S : sS) (i : Int) : Int := mtV S (Xi S 959 i.toNat) (Xi S 960 i.toNat)
/-- what every test but a saying begins with -/
def TMB (S T : sS) (i q : Int) : Prop := Xi T 969 q.toNat = Xi S 952 i.toNat ∧ Xi T 970 q.toNat = Xi S 953 i.toNat ∧ Xi T 971 q.toNat = mT1 S i
def TM4 (S S1 : sS) (i q : Int) : Prop := TMB S S1 i q ∧ Xi S1 975 q.toNat = mT2 S i ∧ Xi S1 973 q.toNat = Xi S 958 i.toNat ∧ NT3 S1 = (if mT2 S i ≠ -9 then nT1 S i else ntF (nT1 S i) 4 (Xi S 908 (Xi S 959 i.toNat % 10000).toNat))
end
section
/-! tests of the reference: properties, numbers -/
theorem pmo_F {l : List rec} {S P U : sS} {z rn th r t : Int} {N : Int × Int × Int} (m : PMO P U z rn th) (h : FR l S P) (g : SMR S P) (e1 : kdis l [(917, 918)] = true) (e2 : kdis l [(929, 930)] = true) (e3 : kdis l [(918, 919)] = true) (h5 : Xi P 904 115 = Xi S 904 115) (h6 : Xi P 904 116 = Xi S 904 116) (n : NT3 P = N) (hr : rn = r) (ht : th = t) : z = pmZ S r t ∧ (pmK S r t → NT3 U = N) ∧ (¬ pmK S r t → NT3 U = ntF N 4 (pR S r)) := by
  subst hr ht
  have k : ktC P th = ktC S th := by unfold ktC; rw [h5, h6, (h.smk e3).x 918 rfl]
  have kk : pmK P rn th = pmK S rn th := by unfold pmK; rw [k, rnR_sm g, HSF h e1 e2]
  have zz : pmZ P rn th = pmZ S rn th := by unfold pmZ; rw [k, rnR_sm g, HSF h e1 e2]
  unfold PMO PMN at m
  rw [zz, kk, n, pR_sm g] at m
  exact m
theorem wmr_F {l : List rec} {S P U : sS} {t r tp q t1 r1 p1 : Int} {N : Int × Int × Int} (m : WMR P U t r tp q) (h : FR l S P) (g : SMR S P) (e1 : kdis l [(907, 911)] = true) (e2 : kdis l [(927, 928)] = true) (n : NT3 P = N) (ht : t = t1) (hr : r = r1) (hp : tp = p1) : (wOKR S t1 r1 p1 → NT3 U = N) ∧ (¬ wOKR S t1 r1 p1 → NT3 U = ntF N 4 (Xi S 908 t1.toNat)) ∧ Xi U 973 q.toNat = wvR S t1 r1 ∧ Xi U 974 q.toNat = wlR S t1 := by
  subst ht hr hp
  have k := h.smk e1
  have a : wOKR P t r tp = wOKR S t r tp := by unfold wOKR; rw [k.x 907 rfl, rnR_sm g, (h.smk e2).x 927 rfl]
  have b : wvR P t r = wvR S t r := by unfold wvR; rw [k.x 907 rfl, k.x 908 rfl, SMK_j k 910 rfl, rnR_sm g]
  have c : wlR P t = wlR S t := by unfold wlR; rw [k.x 907 rfl, k.x 909 rfl]
  unfold WMR at m
  rw [a, b, c, n, k.x 908 rfl] at m
  exact m
noncomputable def nT2 (S : sS) (i : Int) : Int × Int × Int := @ite (Int × Int × Int) (pmK S (Xi S 956 i.toNat) (mT1 S i)) (Classical.propDecidable _) (nT1 S i) (ntF (nT1 S i) 4 (pR S (Xi S 956 i.toNat)))
noncomputable def pT0 (S : sS) (i : Int) : Int := pmZ S (Xi S 956 i.toNat) (mT1 S i)
def TM0 (S S1 : sS) (i q : Int) : Prop := TMB S S1 i q ∧ Xi S1 972 q.toNat = pT0 S i ∧ (pT0 S i = -1 → NT3 S1 = nT2 S i) ∧
  (pT0 S i ≠ -1 → (wOKR S (Xi S 957 i.toNat) (Xi S 960 i.toNat) (Xi S 928 (pT0 S i).toNat) → NT3 S1 = nT2 S i) ∧ (¬ wOKR S (Xi S 957 i.toNat) (Xi S 960 i.toNat) (Xi S 928 (pT0 S i).toNat) → NT3 S1 = ntF (nT2 S i) 4 (Xi S 908 (Xi S 957 i.toNat).toNat)) ∧ Xi S1 973 q.toNat = wvR S (Xi S 957 i.toNat) (Xi S 960 i.toNat) ∧ Xi S1 974 q.toNat = wlR S (Xi S 957 i.toNat))
theorem nT2_i {S T : sS} {i : Int} (a : pmK S (Xi S 956 i.toNat) (mT1 S i) → NT3 T = nT1 S i) (b : ¬ pmK S (Xi S 956 i.toNat) (mT1 S i) → NT3 T = ntF (nT1 S i) 4 (pR S (Xi S 956 i.toNat))) : NT3 T = nT2 S i := by
  unfold nT2
  by_cases q : pmK S (Xi S 956 i.toNat) (mT1 S i)
  · rw [if_pos q]; exact a q
  · rw [if_neg q]; exact b q
end
section
/-! tests of the reference: numbers, adjectives -/
theorem nmo_F {l : List rec} {S P U : sS} {rn r : Int} {N : Int × Int × Int} (m : NMO P U rn) (h : FR l S P) (g : SMR S P) (e1 : kdis l [(928, 929)] = true) (n : NT3 P = N) (hr : rn = r) : (rnR S r 7 = -1 ∨ Xi S 928 (rnR S r 7).toNat = 0 → NT3 U = N) ∧ (¬ (rnR S r 7 = -1 ∨ Xi S 928 (rnR S r 7).toNat = 0) → NT3 U = ntF N 4 (pR S r)) := by
  subst hr
  unfold NMO at m
  rw [rnR_sm g, (h.smk e1).x 928 rfl, n, pR_sm g] at m
  exact m
def TM1 (S S1 : sS) (i q : Int) : Prop := TMB S S1 i q ∧ Xi S1 972 q.toNat = pT0 S i ∧ Xi S1 973 q.toNat = Xj S 910 (Xi S 957 i.toNat).toNat ∧ (rnR S (Xi S 956 i.toNat) 7 = -1 ∨ Xi S 928 (rnR S (Xi S 956 i.toNat) 7).toNat = 0 → NT3 S1 = nT2 S i) ∧ (¬ (rnR S (Xi S 956 i.toNat) 7 = -1 ∨ Xi S 928 (rnR S (Xi S 956 i.toNat) 7).toNat = 0) → NT3 S1 = ntF (nT2 S i) 4 (pR S (Xi S 956 i.toNat)))
end
section
/-! tests of the reference: adjectives -/
def rT3 (S : sS) (i : Int) : Int := Xi S 956 i.toNat
noncomputable def aT3 (S : sS) (i now : Int) : Int := if 3 < Xi S 951 (rT3 S i).toNat then 0 else adR S (Xi S 950 (rT3 S i).toNat) (Xi S 951 (rT3 S i).toNat) (ktC S (mT1 S i)) (1 - now) (1 - Xi S 953 i.toNat)
noncomputable def cT3 (S : sS) (i now : Int) : Int := acR S (Xi S 950 (rT3 S i).toNat) (Xi S 951 (rT3 S i).toNat) (ktC S (mT1 S i)) (1 - now) (1 - Xi S 953 i.toNat)
def TM3 (S S1 : sS) (i q now : Int) : Prop := TMB S S1 i q ∧ (mT1 S i = -9 → NT3 S1 = nT1 S i) ∧ (mT1 S i ≠ -9 →
  NT3 S1 = (if aT3 S i now < 2 then (if 0 < aT3 S i now then nT1 S i else ntF (nT1 S i) 4 (pR S (rT3 S i))) else ntF (if 0 < aT3 S i now then nT1 S i else ntF (nT1 S i) 4 (pR S (rT3 S i))) 7 (pR S (rT3 S i))) ∧ (0 < aT3 S i now → Xi S1 973 q.toNat = cT3 S i now) ∧ (¬ 0 < aT3 S i now → Xi S1 973 q.toNat = 0))
theorem tmb_k {S T U : sS} {i q : Int} (h : TMB S T i q) (a : Xi U 969 q.toNat = Xi T 969 q.toNat) (b : Xi U 970 q.toNat = Xi T 970 q.toNat) (c : Xi U 971 q.toNat = Xi T 971 q.toNat) : TMB S U i q := ⟨a.trans h.1, b.trans h.2.1, c.trans h.2.2⟩
end
