section
def md_mo_sayings__k : List rec := [(971, 972, 0, 100000), (972, 973, 0, 100000), (975, 976, 0, 100000)]
abbrev Q_mo_sayings__k (S : sS) (from_ : Int) (to : Int) (q : Int) : pst := fun r S1 => RI S1 ∧ FR md_mo_sayings__k S S1 ∧ (∃ z : Int, r = some (iv z) ∧ (-2147483648 ≤ z ∧ z ≤ 2147483647) ∧ (SYRO S S1 q from_ to z) ∧ (KQ S1 S q))
set_option maxRecDepth 100000 in
theorem t_mo_sayings__k {S : sS} (hH : RI S) (from_ : Int) (to : Int) (q : Int) (hfrom_ : 0 ≤ from_ ∧ from_ ≤ 5140) (hto : 0 ≤ to ∧ to ≤ 5140) (hq : 0 ≤ q ∧ q ≤ 3000) (hLS : LSP S) (h15 : 0 ≤ Xi S 904 15) (hB : ABV S) (hkx : Hid (∀ j : Nat, -1 ≤ Xi S 918 j ∧ Xi S 918 j ≤ 15)) (hit : (-1 ≤ Xi S 904 115 ∧ Xi S 904 115 ≤ 15) ∧ (-1 ≤ Xi S 904 116 ∧ Xi S 904 116 ≤ 15)) (d : Nat) : Mp lay0 (d + 6) m_mo_sayings [.ref 904, iv from_, iv to, iv q] S (Q_mo_sayings__k S from_ to q) := by
  refine Mp_R rfl rfl (fun fu => ?_)
  have hF : FR md_mo_sayings__k S S := FR.rf
  have w1 : -2147483648 ≤ Xi S 904 115 ∧ Xi S 904 115 ≤ 2147483647 := Xi_rgI
  have w2 : -2147483648 ≤ Xi S 904 116 ∧ Xi S 904 116 ≤ 2147483647 := Xi_rgI
  have w3 : -2147483648 ≤ Xi S 904 15 ∧ Xi S 904 15 ≤ 2147483647 := Xi_rgI
  have C8 : ∀ (n8 : Nat) (_ : n8 ≤ fu) (T1 : sS) (_ : RI T1) (_ : FR md_mo_sayings__k S T1) (v4 : Int) (v5 : Int), (0 ≤ v4 ∧ v4 ≤ 5142) → (0 ≤ v5 ∧ v5 ≤ 5141) → (from_ + 1 ≤ v5 ∧ (v5 = from_ + 1 ∨ v5 < to)) → (0 ≤ v4 ∧ v4 ≤ v5 - from_) → (Hid (SYR S T1 q from_ to v5 v4)) → (KQ T1 S q) → Pl n8 lay0 (d + 5) m_mo_sayings 8 [(0, .ref 904), (1, iv from_), (2, iv to), (3, iv q), (4, iv v4), (5, iv v5)] [] T1 (Q_mo_sayings__k S from_ to q) := by
    intro n8
    induction n8 with
    | zero => intros; exact Pl_0
    | succ n8 ih8 =>
      intro hm8 T1 hHT1 hFT1 v4 v5 w4 w5 w6 w7 S8 KQ8
      have w8 : Xi T1 904 115 = Xi S 904 115 := hFT1.x _ _ rfl
      have w9 : Xi T1 904 116 = Xi S 904 116 := hFT1.x _ _ rfl
      have w10 : Xi T1 904 15 = Xi S 904 15 := hFT1.x _ _ rfl
      have w11 : Xi T1 904 19 = Xi S 904 19 := hFT1.x _ _ rfl
      have w12 : -2147483648 ≤ Xi T1 904 115 ∧ Xi T1 904 115 ≤ 2147483647 := Xi_rgI
      have w13 : -2147483648 ≤ Xi T1 904 116 ∧ Xi T1 904 116 ≤ 2147483647 := Xi_rgI
      have w14 : -2147483648 ≤ Xi T1 904 15 ∧ Xi T1 904 15 ≤ 2147483647 := Xi_rgI
      have C42 : ∀  (T2 : sS) (_ : RI T2) (_ : FR md_mo_sayings__k S T2) (v4 : Int) (v5 : Int) (v6 : Int), (0 ≤ v4 ∧ v4 ≤ 5142) → (0 ≤ v5 ∧ v5 ≤ 5141) → (-2147483648 ≤ v6 ∧ v6 ≤ 2147483647) → (from_ + 1 ≤ v5 ∧ v5 + 1 < to) → (0 ≤ v4 ∧ v4 ≤ v5 - from_) → (v6 = vsR S v5) → (Hid (SYR S T2 q from_ to v5 v4)) → (KQ T2 S q) → Pl n8 lay0 (d + 5) m_mo_sayings 42 [(0, .ref 904), (1, iv from_), (2, iv to), (3, iv q), (4, iv v4), (5, iv v5), (6, iv v6)] [] T2 (Q_mo_sayings__k S from_ to q) := by
        intro T2 hHT2 hFT2 v4 v5 v6 w15 w16 w17 w18 w19 V42 S42 KQ42
        have w20 : Xi T2 904 115 = Xi S 904 115 := hFT2.x _ _ rfl
        have w21 : Xi T2 904 116 = Xi S 904 116 := hFT2.x _ _ rfl
        have w22 : Xi T2 904 15 = Xi S 904 15 := hFT2.x _ _ rfl
        have w23 : Xi T2 904 19 = Xi S 904 19 := hFT2.x _ _ rfl
        have w24 : -2147483648 ≤ Xi T2 904 115 ∧ Xi T2 904 115 ≤ 2147483647 := Xi_rgI
        have w25 : -2147483648 ≤ Xi T2 904 116 ∧ Xi T2 904 116 ≤ 2147483647 := Xi_rgI
        have w26 : -2147483648 ≤ Xi T2 904 15 ∧ Xi T2 904 15 ≤ 2147483647 := Xi_rgI
        refine y_iload rfl rfl ?_
        refine y_iconst rfl ?_
        refine y_icmp_eq rfl rfl (by unfold rg; omega) (by unfold rg; omega) (fun w27 => ?_) (fun w28 => ?_)
        · refine y_iinc rfl rfl rfl rfl ?_
          have C141 : Hid (SYR S T2 q from_ to (v5 + 1) v4) := by first | (have u := k137; exact syr_z S42.o (by omega) Q109 (by omega) k137.1 k137.2.1 k137.2.2) | (have u := Q109; exact syr_y S42.o (by omega) Q109 (by omega)) | (have u := K103; exact syr_n S42.o (by omega) (fun w => w.2.2 (by rw [← g103]; omega))) | (have u := K87; exact syr_n S42.o (by omega) (fun w => w.2.1 (by rw [← g87]; omega))) | exact syr_n S42.o (by omega) (fun w => w.1 (V42.symm.trans (by omega)))
          refine y_goto rfl rfl ?_
          exact Pl_weak (ih8 (by omega) T2 hHT2 hFT2 (v4) ((v5 + 1)) (by omega) (by omega) (by omega) (by omega) (by first | exact C141 | exact syr_0) ((by assumption : KQ T2 S _))) (by omega) (And.intro rfl (And.intro rfl (And.intro rfl (And.intro rfl (And.intro rfl (And.intro rfl (True.intro)))))))
        · refine y_aload_n rfl rfl ?_
          refine y_gfr rfl rfl rfl rfl rfl (hHT2.r 904 48 941 rfl) ?_
          refine y_iload rfl rfl ?_
          refine y_ialoadP (n := 8) rfl rfl (by unfold rg; omega) (fun w29 w30 => ?_)
          have w31 : -2147483648 ≤ (Xi T2 941 ((v6).toNat)) ∧ (Xi T2 941 ((v6).toNat)) ≤ 2147483647 := Xi_rgI
          refine y_istore rfl rfl rfl ?_
          have r55 : (Xi T2 941 ((v6).toNat)) = rsR S v5 := by show Xi T2 941 _ = Xi S 941 (vsR S v5).toNat; rw [(hFT2.cx 941 rfl _).1, V42]
          refine y_aload_n rfl rfl ?_
          refine y_iload_n rfl rfl ?_
          refine y_iload rfl rfl ?_
          refine y_callV rfl rfl rfl (t_mo_thingOf__p hHT2 from_ v5 ⟨by omega, by omega⟩ ⟨by omega, by omega⟩ (by first | assumption | exact (LSP_FR hFT2 rfl rfl (by assumption : LSP S))) (by first | assumption | omega) _) ?_
          rintro _ _ ⟨rfl, z32, rfl, w32, f61⟩
          show Pl _ _ _ _ _ _ [iv z32] _ _
          have t61 : z32 = toR S from_ v5 := f61.trans (toR_F hFT2 rfl (fun _ _ _ => msR_FR hFT2 rfl) rfl rfl _ _)
          clear f61
          refine y_istore rfl rfl rfl ?_
          refine y_aload_n rfl rfl ?_
          refine y_iload rfl rfl ?_
          refine y_iconst rfl ?_
          refine y_iadd rfl ?_
          refine y_iload_n rfl rfl ?_
          refine y_callV rfl rfl rfl (t_mo_thingOf__p hHT2 (v5 + 1) to ⟨by omega, by omega⟩ ⟨by omega, by omega⟩ (by first | assumption | exact (LSP_FR hFT2 rfl rfl (by assumption : LSP S))) (by first | assumption | omega) _) ?_
          rintro _ _ ⟨rfl, z33, rfl, w33, f72⟩
          show Pl _ _ _ _ _ _ [iv z33] _ _
          have t72 : z33 = toR S (v5 + 1) to := f72.trans (toR_F hFT2 rfl (fun _ _ _ => msR_FR hFT2 rfl) rfl rfl _ _)
          clear f72
          refine y_istore rfl rfl rfl ?_
          refine y_aload_n rfl rfl ?_
          refine y_iload rfl rfl ?_
          refine y_aload_n rfl rfl ?_
          refine y_gfr rfl rfl rfl rfl rfl (hHT2.r 904 42 936 rfl) ?_
          refine y_iload rfl rfl ?_
          refine y_ialoadP (n := 6) rfl rfl (by unfold rg; omega) (fun w34 w35 => ?_)
          have w36 : -2147483648 ≤ (Xi T2 936 (((Xi T2 941 ((v6).toNat))).toNat)) ∧ (Xi T2 936 (((Xi T2 941 ((v6).toNat))).toNat)) ≤ 2147483647 := Xi_rgI
          refine y_callV rfl rfl rfl (t_mo_fits__p hHT2 z32 (Xi T2 936 (((Xi T2 941 ((v6).toNat))).toNat)) ⟨by omega, by omega⟩ ⟨by omega, by omega⟩ (by first | assumption | exact (ABV_FR hFT2 rfl (by assumption : ABV S))) (fun j => by rw [hFT2.x 918 j rfl]; exact hkx.o j) (by first | assumption | omega) _) ?_
          rintro _ _ ⟨rfl, z37, rfl, w37, f87⟩
          show Pl _ _ _ _ _ _ [iv z37] _ _
          have K87 : True := trivial
          have g87 : z37 = ftC S (toR S from_ v5) (Xi S 936 (rsR S v5).toNat) := by have u := f87; rw [ftC_F hFT2 rfl rfl rfl rfl, t61, (hFT2.cx 936 rfl _).1, r55] at u; exact u
          clear f87
          refine y_if_eq rfl rfl (by unfold rg; omega) (fun w38 => ?_) (fun w39 => ?_)
          · refine y_iinc rfl rfl rfl rfl ?_
            have C141 : Hid (SYR S T2 q from_ to (v5 + 1) v4) := by first | (have u := k137; exact syr_z S42.o (by omega) Q109 (by omega) k137.1 k137.2.1 k137.2.2) | (have u := Q109; exact syr_y S42.o (by omega) Q109 (by omega)) | (have u := K103; exact syr_n S42.o (by omega) (fun w => w.2.2 (by rw [← g103]; omega))) | (have u := K87; exact syr_n S42.o (by omega) (fun w => w.2.1 (by rw [← g87]; omega))) | exact syr_n S42.o (by omega) (fun w => w.1 (V42.symm.trans (by omega)))
            refine y_goto rfl rfl ?_
            exact Pl_weak (ih8 (by omega) T2 hHT2 hFT2 (v4) ((v5 + 1)) (by omega) (by omega) (by omega) (by omega) (by first | exact C141 | exact syr_0) ((by assumption : KQ T2 S _))) (by omega) (And.intro rfl (And.intro rfl (And.intro rfl (And.intro rfl (And.intro rfl (And.intro rfl (True.intro)))))))
          · refine y_aload_n rfl rfl ?_
            refine y_iload rfl rfl ?_
            refine y_aload_n rfl rfl ?_
            refine y_gfr rfl rfl rfl rfl rfl (hHT2.r 904 43 937 rfl) ?_
            refine y_iload rfl rfl ?_
            refine y_ialoadP (n := 6) rfl rfl (by unfold rg; omega) (fun w40 w41 => ?_)
            have w42 : -2147483648 ≤ (Xi T2 937 (((Xi T2 941 ((v6).toNat))).toNat)) ∧ (Xi T2 937 (((Xi T2 941 ((v6).toNat))).toNat)) ≤ 2147483647 := Xi_rgI
            refine y_callV rfl rfl rfl (t_mo_fits__p hHT2 z33 (Xi T2 937 (((Xi T2 941 ((v6).toNat))).toNat)) ⟨by omega, by omega⟩ ⟨by omega, by omega⟩ (by first | assumption | exact (ABV_FR hFT2 rfl (by assumption : ABV S))) (fun j => by rw [hFT2.x 918 j rfl]; exact hkx.o j) (by first | assumption | omega) _) ?_
            rintro _ _ ⟨rfl, z43, rfl, w43, f103⟩
            show Pl _ _ _ _ _ _ [iv z43] _ _
            have K103 : True := trivial
            have g103 : z43 = ftC S (toR S (v5 + 1) to) (Xi S 937 (rsR S v5).toNat) := by have u := f103; rw [ftC_F hFT2 rfl rfl rfl rfl, t72, (hFT2.cx 937 rfl _).1, r55] at u; exact u
            clear f103
            refine y_if_eq rfl rfl (by unfold rg; omega) (fun w44 => ?_) (fun w45 => ?_)
            · refine y_iinc rfl rfl rfl rfl ?_
              have C141 : Hid (SYR S T2 q from_ to (v5 + 1) v4) := by first | (have u := k137; exact syr_z S42.o (by omega) Q109 (by omega) k137.1 k137.2.1 k137.2.2) | (have u := Q109; exact syr_y S42.o (by omega) Q109 (by omega)) | (have u := K103; exact syr_n S42.o (by omega) (fun w => w.2.2 (by rw [← g103]; omega))) | (have u := K87; exact syr_n S42.o (by omega) (fun w => w.2.1 (by rw [← g87]; omega))) | exact syr_n S42.o (by omega) (fun w => w.1 (V42.symm.trans (by omega)))
              refine y_goto rfl rfl ?_
              exact Pl_weak (ih8 (by omega) T2 hHT2 hFT2 (v4) ((v5 + 1)) (by omega) (by omega) (by omega) (by omega) (by first | exact C141 | exact syr_0) ((by assumption : KQ T2 S _))) (by omega) (And.intro rfl (And.intro rfl (And.intro rfl (And.intro rfl (And.intro rfl (And.intro rfl (True.intro)))))))
            · refine y_iload rfl rfl ?_
              have Q109 : qsR S from_ to v5 := ⟨by rw [← V42]; omega, by rw [← g87]; omega, by rw [← g103]; omega⟩
              refine y_if_ne rfl rfl (by unfold rg; omega) (fun w46 => ?_) (fun w47 => ?_)
              · refine y_iinc rfl rfl rfl rfl ?_
                refine y_iinc rfl rfl rfl rfl ?_
                have C141 : Hid (SYR S T2 q from_ to (v5 + 1) (v4 + 1)) := by first | (have u := k137; exact syr_z S42.o (by omega) Q109 (by omega) k137.1 k137.2.1 k137.2.2) | (have u := Q109; exact syr_y S42.o (by omega) Q109 (by omega)) | (have u := K103; exact syr_n S42.o (by omega) (fun w => w.2.2 (by rw [← g103]; omega))) | (have u := K87; exact syr_n S42.o (by omega) (fun w => w.2.1 (by rw [← g87]; omega))) | exact syr_n S42.o (by omega) (fun w => w.1 (V42.symm.trans (by omega)))
                refine y_goto rfl rfl ?_
                exact Pl_weak (ih8 (by omega) T2 hHT2 hFT2 ((v4 + 1)) ((v5 + 1)) (by omega) (by omega) (by omega) (by omega) (by first | exact C141 | exact syr_0) ((by assumption : KQ T2 S _))) (by omega) (And.intro rfl (And.intro rfl (And.intro rfl (And.intro rfl (And.intro rfl (And.intro rfl (True.intro)))))))
              · refine y_aload_n rfl rfl ?_
                refine y_gfr rfl rfl rfl rfl rfl (hHT2.r 904 120 971 rfl) ?_
                refine y_iload_n rfl rfl ?_
                refine y_iload rfl rfl ?_
                refine y_iastoreP (n := 2400) rfl rfl (by unfold rg; omega) (fun w48 w49 => ?_)
                obtain ⟨U3, eU3⟩ : ∃ T : sS, T = uI T2 971 ((q).toNat) (Int32.ofInt z32) := ⟨_, rfl⟩
                rw [← eU3]
                have hHU3 : RI U3 := by rw [eU3]; exact RI_w hHT2
                have hFU3 : FR md_mo_sayings__k S U3 := by rw [eU3]; exact FR.wI hFT2 (mdf_i (r := (971, 972, 0, 100000)) (List.mem_of_getElem? (i := 0) rfl) (inR_i (by omega) (by omega) (by omega) (by omega)))
                have w50 : Xi U3 971 ((q).toNat) = z32 := by rw [eU3]; exact Xi_same (by unfold rg; omega)
                have e121 := eU3
                refine y_aload_n rfl rfl ?_
                refine y_gfr rfl rfl rfl rfl rfl (hHU3.r 904 124 975 rfl) ?_
                refine y_iload_n rfl rfl ?_
                refine y_iload rfl rfl ?_
                refine y_iastoreP (n := 2400) rfl rfl (by unfold rg; omega) (fun w51 w52 => ?_)
                obtain ⟨U4, eU4⟩ : ∃ T : sS, T = uI U3 975 ((q).toNat) (Int32.ofInt z33) := ⟨_, rfl⟩
                rw [← eU4]
                have hHU4 : RI U4 := by rw [eU4]; exact RI_w hHU3
                have hFU4 : FR md_mo_sayings__k S U4 := by rw [eU4]; exact FR.wI hFU3 (mdf_i (r := (975, 976, 0, 100000)) (List.mem_of_getElem? (i := 2) rfl) (inR_i (by omega) (by omega) (by omega) (by omega)))
                have w53 : Xi U4 975 ((q).toNat) = z33 := by rw [eU4]; exact Xi_same (by unfold rg; omega)
                have e129 := eU4
                refine y_aload_n rfl rfl ?_
                refine y_gfr rfl rfl rfl rfl rfl (hHU4.r 904 121 972 rfl) ?_
                refine y_iload_n rfl rfl ?_
                refine y_iload rfl rfl ?_
                refine y_iastoreP (n := 2400) rfl rfl (by unfold rg; omega) (fun w54 w55 => ?_)
                obtain ⟨U5, eU5⟩ : ∃ T : sS, T = uI U4 972 ((q).toNat) (Int32.ofInt (Xi T2 941 ((v6).toNat))) := ⟨_, rfl⟩
                rw [← eU5]
                have hHU5 : RI U5 := by rw [eU5]; exact RI_w hHU4
                have hFU5 : FR md_mo_sayings__k S U5 := by rw [eU5]; exact FR.wI hFU4 (mdf_i (r := (972, 973, 0, 100000)) (List.mem_of_getElem? (i := 1) rfl) (inR_i (by omega) (by omega) (by omega) (by omega)))
                have w56 : Xi U5 972 ((q).toNat) = (Xi T2 941 ((v6).toNat)) := by rw [eU5]; exact Xi_same (by unfold rg; omega)
                have e137 := eU5
                have k137 : Xi U5 971 q.toNat = toR S from_ v5 ∧ Xi U5 975 q.toNat = toR S (v5 + 1) to ∧ Xi U5 972 q.toNat = rsR S v5 := ⟨by rw [e137, Xi_ne (by omega), e129, Xi_ne (by omega), e121]; exact (Xi_same (by unfold rg; omega)).trans t61, by rw [e137, Xi_ne (by omega), e129]; exact (Xi_same (by unfold rg; omega)).trans t72, by rw [e137]; exact (Xi_same (by unfold rg; omega)).trans r55⟩
                refine y_iinc rfl rfl rfl rfl ?_
                refine y_iinc rfl rfl rfl rfl ?_
                have C141 : Hid (SYR S U5 q from_ to (v5 + 1) (v4 + 1)) := by first | (have u := k137; exact syr_z S42.o (by omega) Q109 (by omega) k137.1 k137.2.1 k137.2.2) | (have u := Q109; exact syr_y S42.o (by omega) Q109 (by omega)) | (have u := K103; exact syr_n S42.o (by omega) (fun w => w.2.2 (by rw [← g103]; omega))) | (have u := K87; exact syr_n S42.o (by omega) (fun w => w.2.1 (by rw [← g87]; omega))) | exact syr_n S42.o (by omega) (fun w => w.1 (V42.symm.trans (by omega)))
                refine y_goto rfl rfl ?_
                have w57 : Xi U5 904 115 = Xi T2 904 115 := (show Xi U5 904 115 = Xi U4 904 115 from by rw [eU5]; exact Xi_ne (by omega)).trans ( (show Xi U4 904 115 = Xi U3 904 115 from by rw [eU4]; exact Xi_ne (by omega)).trans ((show Xi U3 904 115 = Xi T2 904 115 from by rw [eU3]; exact Xi_ne (by omega))))
                have w58 : Xi U5 904 116 = Xi T2 904 116 := (show Xi U5 904 116 = Xi U4 904 116 from by rw [eU5]; exact Xi_ne (by omega)).trans ( (show Xi U4 904 116 = Xi U3 904 116 from by rw [eU4]; exact Xi_ne (by omega)).trans ((show Xi U3 904 116 = Xi T2 904 116 from by rw [eU3]; exact Xi_ne (by omega))))
                have w59 : Xi U5 904 15 = Xi T2 904 15 := (show Xi U5 904 15 = Xi U4 904 15 from by rw [eU5]; exact Xi_ne (by omega)).trans ( (show Xi U4 904 15 = Xi U3 904 15 from by rw [eU4]; exact Xi_ne (by omega)).trans ((show Xi U3 904 15 = Xi T2 904 15 from by rw [eU3]; exact Xi_ne (by omega))))
                exact Pl_weak (ih8 (by omega) U5 hHU5 hFU5 ((v4 + 1)) ((v5 + 1)) (by omega) (by omega) (by omega) (by omega) (by first | exact C141 | exact syr_0) ((KQ.w (KQ.w (KQ.w (by assumption : KQ T2 S _) eU3 (by omega)) eU4 (by omega)) eU5 (by omega)))) (by omega) (And.intro rfl (And.intro rfl (And.intro rfl (And.intro rfl (And.intro rfl (And.intro rfl (True.intro)))))))
      refine ys_iload rfl rfl ?_
      refine y_iconst rfl ?_
      refine y_iadd rfl ?_
      refine y_iload_n rfl rfl ?_
      refine y_icmp_ge rfl rfl (by unfold rg; omega) (by unfold rg; omega) (fun w60 => ?_) (fun w61 => ?_)
      · refine y_iload rfl rfl ?_
        refine y_ireturn rfl rfl ?_
        exact ⟨hHT1, hFT1, _, rfl, ⟨by omega, by omega⟩, (⟨v5, by omega, by omega, by omega, S8.o⟩), ((by assumption : KQ T1 S _))⟩
      · refine y_aload_n rfl rfl ?_
        refine y_gfr rfl rfl rfl rfl rfl (hHT1.r 904 4 907 rfl) ?_
        refine y_iload rfl rfl ?_
        refine y_ialoadP (n := 5002) rfl rfl (by unfold rg; omega) (fun w62 w63 => ?_)
        have w64 : -2147483648 ≤ (Xi T1 907 ((v5).toNat)) ∧ (Xi T1 907 ((v5).toNat)) ≤ 2147483647 := Xi_rgI
        refine y_iconst rfl ?_
        refine y_icmp_ne rfl rfl (by unfold rg; omega) (by unfold rg; omega) (fun w65 => ?_) (fun w66 => ?_)
        · refine y_iconst rfl ?_
          refine y_istore rfl rfl rfl ?_
          have V40 : (-1) = vsR S v5 := by unfold vsR; rw [← tkR_F hFT1 rfl]; first | (have u := K33; rw [if_pos (by omega)]; exact m33) | (rw [if_neg (by omega)])
          exact Pl_weak (C42 T1 hHT1 hFT1 (v4) (v5) ((-1)) (by omega) (by omega) (by omega) (by omega) (by omega) (V40) (S8) ((by assumption : KQ T1 S _))) (by omega) (And.intro rfl (And.intro rfl (And.intro rfl (And.intro rfl (And.intro rfl (And.intro rfl (And.intro rfl (True.intro))))))))
        · refine y_aload_n rfl rfl ?_
          refine y_iload rfl rfl ?_
          refine y_iconst rfl ?_
          refine y_bipush rfl rfl ?_
          refine y_callV rfl rfl rfl (t_mo_means__p hHT1 v5 1 10 ⟨by omega, by omega⟩ ⟨by omega, by omega⟩ ⟨by omega, by omega⟩ (by first | assumption | exact (LSP_FR hFT1 rfl rfl (by assumption : LSP S))) (by first | assumption | omega) _) ?_
          rintro _ _ ⟨rfl, z67, rfl, w67, f33⟩
          show Pl _ _ _ _ _ _ [iv z67] _ _
          have K33 : True := trivial
          have m33 := f33.trans (msR_FR hFT1 rfl)
          clear f33
          refine y_goto rfl rfl ?_
          refine y_istore rfl rfl rfl ?_
          have V40 : z67 = vsR S v5 := by unfold vsR; rw [← tkR_F hFT1 rfl]; first | (have u := K33; rw [if_pos (by omega)]; exact m33) | (rw [if_neg (by omega)])
          exact Pl_weak (C42 T1 hHT1 hFT1 (v4) (v5) (z67) (by omega) (by omega) (by omega) (by omega) (by omega) (V40) (S8) ((by assumption : KQ T1 S _))) (by omega) (And.intro rfl (And.intro rfl (And.intro rfl (And.intro rfl (And.intro rfl (And.intro rfl (And.intro rfl (True.intro))))))))
  refine y_iconst rfl ?_
  refine y_istore rfl rfl rfl ?_
  refine y_iload_n rfl rfl ?_
  refine y_iconst rfl ?_
  refine y_iadd rfl ?_
  refine y_istore rfl rfl rfl ?_
  exact Pl_weak (C8 fu (by omega) S hH hF (0) ((from_ + 1)) (by omega) (by omega) (by omega) (by omega) (by first | exact C141 | exact syr_0) (KQ.rf)) (by omega) (And.intro rfl (And.intro rfl (And.intro rfl (And.intro rfl (And.intro rfl (And.intro rfl (True.intro)))))))
def md_mo_whatMeant__k : List rec := [(904, 905, 104, 105), (904, 905, 105, 106), (904, 905, 106, 107), (973, 974, 0, 100000), (974, 975, 0, 100000)]
abbrev Q_mo_whatMeant__k (S : sS) (t : Int) (rr : Int) (type : Int) (q : Int) : pst := fun r S1 => RI S1 ∧ FR md_mo_whatMeant__k S S1 ∧ (r = none ∧ (WMR S S1 t rr type q) ∧ (KQ S1 S q))
set_option maxRecDepth 100000 in
theorem t_mo_whatMeant__k {S : sS} (hH : RI S) (t : Int) (rr : Int) (type : Int) (q : Int) (ht : -2147483648 ≤ t ∧ t ≤ 2147483647) (hrr : -2147483648 ≤ rr ∧ rr ≤ 2147483647) (htype : -2147483648 ≤ type ∧ type ≤ 2147483647) (hq : -2147483648 ≤ q ∧ q ≤ 2147483647) (hLS : LSP S) (h15 : 0 ≤ Xi S 904 15) (hRB : RBD S) (hnum : Hid (Xi S 907 t.toNat = 4 → 0 ≤ Xj S 910 t.toNat ∧ Xj S 910 t.toNat ≤ 2147483647)) (hplc : Xi S 908 t.toNat ≤ 100000) (d : Nat) : Mp lay0 (d + 5) m_mo_whatMeant [.ref 904, iv t, iv rr, iv type, iv q] S (Q_mo_whatMeant__k S t rr type q) := by
  refine Mp_R rfl rfl (fun fu => ?_)
  have hF : FR md_mo_whatMeant__k S S := FR.rf
  have w1 : -2147483648 ≤ Xi S 904 15 ∧ Xi S 904 15 ≤ 2147483647 := Xi_rgI
  refine y_aload_n rfl rfl ?_
  refine y_gfr rfl rfl rfl rfl rfl (hH.r 904 4 907 rfl) ?_
  refine y_iload_n rfl rfl ?_
  refine y_ialoadP (n := 5002) rfl rfl (by unfold rg; omega) (fun w2 w3 => ?_)
  have w4 : -2147483648 ≤ (Xi S 907 ((t).toNat)) ∧ (Xi S 907 ((t).toNat)) ≤ 2147483647 := Xi_rgI
  refine y_istore rfl rfl rfl ?_
  refine y_aload_n rfl rfl ?_
  refine y_gfr rfl rfl rfl rfl rfl (hH.r 904 122 973 rfl) ?_
  refine y_iload rfl rfl ?_
  refine y_iconst rfl ?_
  refine y_iastoreP (n := 2400) rfl rfl (by unfold rg; omega) (fun w5 w6 => ?_)
  obtain ⟨U1, eU1⟩ : ∃ T : sS, T = uI S 973 ((q).toNat) (Int32.ofInt 0) := ⟨_, rfl⟩
  rw [← eU1]
  have hHU1 : RI U1 := by rw [eU1]; exact RI_w hH
  have hFU1 : FR md_mo_whatMeant__k S U1 := by rw [eU1]; exact FR.wI hF (mdf_i (r := (973, 974, 0, 100000)) (List.mem_of_getElem? (i := 3) rfl) (inR_i (by omega) (by omega) (by omega) (by omega)))
  have w7 : Xi U1 973 ((q).toNat) = 0 := by rw [eU1]; exact Xi_same (by unfold rg; omega)
  have ee15 := eU1
  refine y_aload_n rfl rfl ?_
  refine y_gfr rfl rfl rfl rfl rfl (hHU1.r 904 123 974 rfl) ?_
  refine y_iload rfl rfl ?_
  refine y_iconst rfl ?_
  refine y_iastoreP (n := 2400) rfl rfl (by unfold rg; omega) (fun w8 w9 => ?_)
  obtain ⟨U2, eU2⟩ : ∃ T : sS, T = uI U1 974 ((q).toNat) (Int32.ofInt 0) := ⟨_, rfl⟩
  rw [← eU2]
  have hHU2 : RI U2 := by rw [eU2]; exact RI_w hHU1
  have hFU2 : FR md_mo_whatMeant__k S U2 := by rw [eU2]; exact FR.wI hFU1 (mdf_i (r := (974, 975, 0, 100000)) (List.mem_of_getElem? (i := 4) rfl) (inR_i (by omega) (by omega) (by omega) (by omega)))
  have w10 : Xi U2 974 ((q).toNat) = 0 := by rw [eU2]; exact Xi_same (by unfold rg; omega)
  have z23 : Xi U2 974 q.toNat = 0 := by rw [eU2]; exact Xi_same (by unfold rg; omega)
  have t23 : NT3 U2 = NT3 S := by rw [eU2, ee15]; unfold NT3; repeat rw [Xi_ne (by omega)]
  refine y_iload rfl rfl ?_
  refine y_iconst rfl ?_
  refine y_icmp_ne rfl rfl (by unfold rg; omega) (by unfold rg; omega) (fun w11 => ?_) (fun w12 => ?_)
  · refine y_iload rfl rfl ?_
    refine y_iconst rfl ?_
    refine y_icmp_ne rfl rfl (by unfold rg; omega) (by unfold rg; omega) (fun w13 => ?_) (fun w14 => ?_)
    · refine y_aload_n rfl rfl ?_
      refine y_iload_n rfl rfl ?_
      refine y_bipush rfl rfl ?_
      have w15 : Xi U2 904 15 = Xi S 904 15 := (show Xi U2 904 15 = Xi U1 904 15 from by rw [eU2]; exact Xi_ne (by omega)).trans ((show Xi U1 904 15 = Xi S 904 15 from by rw [eU1]; exact Xi_ne (by omega)))
      refine y_callV rfl rfl rfl (t_mo_meansRun__p hHU2 rr 6 ⟨by omega, by omega⟩ ⟨by omega, by omega⟩ (by first | assumption | exact (LSP_FR hFU2 rfl rfl (by assumption : LSP S))) (by first | assumption | omega) (by first | assumption | exact (RBD_FR hFU2 rfl (by assumption : RBD S))) _) ?_
      rintro _ _ ⟨rfl, z16, rfl, w16, f119⟩
      show Pl _ _ _ _ _ _ [iv z16] _ _
      have e119 : z16 = rnR S rr 6 := by have t1 := f119; rw [rnR_sm (SMR_FR hFU2 rfl rfl)] at t1; exact t1
      clear f119
      refine y_istore rfl rfl rfl ?_
      refine y_aload_n rfl rfl ?_
      refine y_iload rfl rfl ?_
      refine y_iconst rfl ?_
      refine y_icmp_eq rfl rfl (by unfold rg; omega) (by unfold rg; omega) (fun w17 => ?_) (fun w18 => ?_)
      · refine y_iconst rfl ?_
        refine y_iconst rfl ?_
        refine y_iload_n rfl rfl ?_
        refine y_callV rfl rfl rfl (t_mo_need__p hHU2 0 4 t ⟨by omega, by omega⟩ ⟨by omega, by omega⟩ ⟨by omega, by omega⟩ _) ?_
        rintro _ T3 ⟨hHT3, w20, rfl, nt149⟩
        have hFT3 : FR md_mo_whatMeant__k S T3 := FR.tr hFU2 w20 rfl
        show Pl _ _ _ _ _ _ [] _ _
        have n149 := nt149
        rw [t23, (hFU2.cx 908 rfl _).1] at n149
        have F149 := (by assumption : FR md_mo_need__p U2 T3)
        have y149 : Xi T3 974 q.toNat = 0 := (F149.x 974 _ rfl).trans z23
        refine y_aload_n rfl rfl ?_
        refine y_gfr rfl rfl rfl rfl rfl (hHT3.r 904 122 973 rfl) ?_
        refine y_iload rfl rfl ?_
        refine y_iload rfl rfl ?_
        refine y_iastoreP (n := 2400) rfl rfl (by unfold rg; omega) (fun w21 w22 => ?_)
        obtain ⟨U4, eU4⟩ : ∃ T : sS, T = uI T3 973 ((q).toNat) (Int32.ofInt z16) := ⟨_, rfl⟩
        rw [← eU4]
        have hHU4 : RI U4 := by rw [eU4]; exact RI_w hHT3
        have hFU4 : FR md_mo_whatMeant__k S U4 := by rw [eU4]; exact FR.wI hFT3 (mdf_i (r := (973, 974, 0, 100000)) (List.mem_of_getElem? (i := 3) rfl) (inR_i (by omega) (by omega) (by omega) (by omega)))
        have w23 : Xi U4 973 ((q).toNat) = z16 := by rw [eU4]; exact Xi_same (by unfold rg; omega)
        have k160 : NT3 U4 = NT3 T3 := by unfold NT3; rw [eU4]; repeat rw [Xi_ne (by omega)]
        have x160 : Xi U4 973 q.toNat = rnR S rr 6 := by rw [eU4, e119, Xi_same (by rw [← e119]; unfold rg; omega)]
        have y160 : Xi U4 974 q.toNat = 0 := by rw [eU4, Xi_ne (by omega)]; exact y149
        refine y_return rfl rfl ?_
        exact ⟨hHU4, hFU4, rfl, (by first | (have t1 := K58; first | exact wmr_4 (g := 1) (by omega) (by omega) (k58.trans n42) x58 y58 | exact wmr_4 (g := 0) (by omega) (by omega) (k58.trans n42) x58 y58) | (have t1 := K111; first | exact wmr_5 (g := 1) (by omega) (by omega) ((k111.trans k98).trans n81) y111 x111 | exact wmr_5 (g := 0) (by omega) (by omega) ((k111.trans k98).trans n81) y111 x111) | exact wmr_6 (g := 1) (by omega) (by omega) (Or.inl ⟨⟨by omega, by omega⟩, rfl⟩) (k160.trans n149) x160 y160 | exact wmr_6 (g := 0) (by omega) (by omega) (Or.inr ⟨fun w => by have w1 := w.1; have w2 := w.2; omega, rfl⟩) (k160.trans n149) x160 y160), ((KQ.w (KQ_FR w20 rfl (KQ.w (KQ.w KQ.rf eU1 (by omega)) eU2 (by omega))) eU4 (by omega)))⟩
      · refine y_aload_n rfl rfl ?_
        refine y_gfr rfl rfl rfl rfl rfl (hHU2.r 904 31 927 rfl) ?_
        refine y_iload rfl rfl ?_
        refine y_ialoadP (n := 64) rfl rfl (by unfold rg; omega) (fun w24 w25 => ?_)
        have w26 : -2147483648 ≤ (Xi U2 927 ((z16).toNat)) ∧ (Xi U2 927 ((z16).toNat)) ≤ 2147483647 := Xi_rgI
        have e137 : (Xi U2 927 ((z16).toNat)) = Xi S 927 (rnR S rr 6).toNat := by rw [(hFU2.cx 927 rfl _).1, e119]
        refine y_iload_n rfl rfl ?_
        refine y_icmp_ne rfl rfl (by unfold rg; omega) (by unfold rg; omega) (fun w27 => ?_) (fun w28 => ?_)
        · refine y_iconst rfl ?_
          refine y_iconst rfl ?_
          refine y_iload_n rfl rfl ?_
          refine y_callV rfl rfl rfl (t_mo_need__p hHU2 0 4 t ⟨by omega, by omega⟩ ⟨by omega, by omega⟩ ⟨by omega, by omega⟩ _) ?_
          rintro _ T5 ⟨hHT5, w30, rfl, nt149⟩
          have hFT5 : FR md_mo_whatMeant__k S T5 := FR.tr hFU2 w30 rfl
          show Pl _ _ _ _ _ _ [] _ _
          have n149 := nt149
          rw [t23, (hFU2.cx 908 rfl _).1] at n149
          have F149 := (by assumption : FR md_mo_need__p U2 T5)
          have y149 : Xi T5 974 q.toNat = 0 := (F149.x 974 _ rfl).trans z23
          refine y_aload_n rfl rfl ?_
          refine y_gfr rfl rfl rfl rfl rfl (hHT5.r 904 122 973 rfl) ?_
          refine y_iload rfl rfl ?_
          refine y_iload rfl rfl ?_
          refine y_iastoreP (n := 2400) rfl rfl (by unfold rg; omega) (fun w31 w32 => ?_)
          obtain ⟨U6, eU6⟩ : ∃ T : sS, T = uI T5 973 ((q).toNat) (Int32.ofInt z16) := ⟨_, rfl⟩
          rw [← eU6]
          have hHU6 : RI U6 := by rw [eU6]; exact RI_w hHT5
          have hFU6 : FR md_mo_whatMeant__k S U6 := by rw [eU6]; exact FR.wI hFT5 (mdf_i (r := (973, 974, 0, 100000)) (List.mem_of_getElem? (i := 3) rfl) (inR_i (by omega) (by omega) (by omega) (by omega)))
          have w33 : Xi U6 973 ((q).toNat) = z16 := by rw [eU6]; exact Xi_same (by unfold rg; omega)
          have k160 : NT3 U6 = NT3 T5 := by unfold NT3; rw [eU6]; repeat rw [Xi_ne (by omega)]
          have x160 : Xi U6 973 q.toNat = rnR S rr 6 := by rw [eU6, e119, Xi_same (by rw [← e119]; unfold rg; omega)]
          have y160 : Xi U6 974 q.toNat = 0 := by rw [eU6, Xi_ne (by omega)]; exact y149
          refine y_return rfl rfl ?_
          exact ⟨hHU6, hFU6, rfl, (by first | (have t1 := K58; first | exact wmr_4 (g := 1) (by omega) (by omega) (k58.trans n42) x58 y58 | exact wmr_4 (g := 0) (by omega) (by omega) (k58.trans n42) x58 y58) | (have t1 := K111; first | exact wmr_5 (g := 1) (by omega) (by omega) ((k111.trans k98).trans n81) y111 x111 | exact wmr_5 (g := 0) (by omega) (by omega) ((k111.trans k98).trans n81) y111 x111) | exact wmr_6 (g := 1) (by omega) (by omega) (Or.inl ⟨⟨by omega, by omega⟩, rfl⟩) (k160.trans n149) x160 y160 | exact wmr_6 (g := 0) (by omega) (by omega) (Or.inr ⟨fun w => by have w1 := w.1; have w2 := w.2; omega, rfl⟩) (k160.trans n149) x160 y160), ((KQ.w (KQ_FR w30 rfl (KQ.w (KQ.w KQ.rf eU1 (by omega)) eU2 (by omega))) eU6 (by omega)))⟩
        · refine y_iconst rfl ?_
          refine y_goto rfl rfl ?_
          refine y_iconst rfl ?_
          refine y_iload_n rfl rfl ?_
          refine y_callV rfl rfl rfl (t_mo_need__p hHU2 1 4 t ⟨by omega, by omega⟩ ⟨by omega, by omega⟩ ⟨by omega, by omega⟩ _) ?_
          rintro _ T7 ⟨hHT7, w35, rfl, nt149⟩
          have hFT7 : FR md_mo_whatMeant__k S T7 := FR.tr hFU2 w35 rfl
          show Pl _ _ _ _ _ _ [] _ _
          have n149 := nt149
          rw [t23, (hFU2.cx 908 rfl _).1] at n149
          have F149 := (by assumption : FR md_mo_need__p U2 T7)
          have y149 : Xi T7 974 q.toNat = 0 := (F149.x 974 _ rfl).trans z23
          refine y_aload_n rfl rfl ?_
          refine y_gfr rfl rfl rfl rfl rfl (hHT7.r 904 122 973 rfl) ?_
          refine y_iload rfl rfl ?_
          refine y_iload rfl rfl ?_
          refine y_iastoreP (n := 2400) rfl rfl (by unfold rg; omega) (fun w36 w37 => ?_)
          obtain ⟨U8, eU8⟩ : ∃ T : sS, T = uI T7 973 ((q).toNat) (Int32.ofInt z16) := ⟨_, rfl⟩
          rw [← eU8]
          have hHU8 : RI U8 := by rw [eU8]; exact RI_w hHT7
          have hFU8 : FR md_mo_whatMeant__k S U8 := by rw [eU8]; exact FR.wI hFT7 (mdf_i (r := (973, 974, 0, 100000)) (List.mem_of_getElem? (i := 3) rfl) (inR_i (by omega) (by omega) (by omega) (by omega)))
          have w38 : Xi U8 973 ((q).toNat) = z16 := by rw [eU8]; exact Xi_same (by unfold rg; omega)
          have k160 : NT3 U8 = NT3 T7 := by unfold NT3; rw [eU8]; repeat rw [Xi_ne (by omega)]
          have x160 : Xi U8 973 q.toNat = rnR S rr 6 := by rw [eU8, e119, Xi_same (by rw [← e119]; unfold rg; omega)]
          have y160 : Xi U8 974 q.toNat = 0 := by rw [eU8, Xi_ne (by omega)]; exact y149
          refine y_return rfl rfl ?_
          exact ⟨hHU8, hFU8, rfl, (by first | (have t1 := K58; first | exact wmr_4 (g := 1) (by omega) (by omega) (k58.trans n42) x58 y58 | exact wmr_4 (g := 0) (by omega) (by omega) (k58.trans n42) x58 y58) | (have t1 := K111; first | exact wmr_5 (g := 1) (by omega) (by omega) ((k111.trans k98).trans n81) y111 x111 | exact wmr_5 (g := 0) (by omega) (by omega) ((k111.trans k98).trans n81) y111 x111) | exact wmr_6 (g := 1) (by omega) (by omega) (Or.inl ⟨⟨by omega, by omega⟩, rfl⟩) (k160.trans n149) x160 y160 | exact wmr_6 (g := 0) (by omega) (by omega) (Or.inr ⟨fun w => by have w1 := w.1; have w2 := w.2; omega, rfl⟩) (k160.trans n149) x160 y160), ((KQ.w (KQ_FR w35 rfl (KQ.w (KQ.w KQ.rf eU1 (by omega)) eU2 (by omega))) eU8 (by omega)))⟩
    · refine y_aload_n rfl rfl ?_
      refine y_iload_n rfl rfl ?_
      refine y_iconst rfl ?_
      refine y_icmp_ne rfl rfl (by unfold rg; omega) (by unfold rg; omega) (fun w39 => ?_) (fun w40 => ?_)
      · refine y_iconst rfl ?_
        refine y_iconst rfl ?_
        refine y_iload_n rfl rfl ?_
        refine y_callV rfl rfl rfl (t_mo_need__p hHU2 0 4 t ⟨by omega, by omega⟩ ⟨by omega, by omega⟩ ⟨by omega, by omega⟩ _) ?_
        rintro _ T9 ⟨hHT9, w42, rfl, nt81⟩
        have hFT9 : FR md_mo_whatMeant__k S T9 := FR.tr hFU2 w42 rfl
        show Pl _ _ _ _ _ _ [] _ _
        have n81 := nt81
        rw [t23, (hFU2.cx 908 rfl _).1] at n81
        refine y_aload_n rfl rfl ?_
        refine y_gfr rfl rfl rfl rfl rfl (hHT9.r 904 122 973 rfl) ?_
        refine y_iload rfl rfl ?_
        refine y_aload_n rfl rfl ?_
        refine y_gfr rfl rfl rfl rfl rfl (hHT9.r 904 5 908 rfl) ?_
        refine y_iload_n rfl rfl ?_
        refine y_ialoadP (n := 5002) rfl rfl (by unfold rg; omega) (fun w43 w44 => ?_)
        have w45 : -2147483648 ≤ (Xi T9 908 ((t).toNat)) ∧ (Xi T9 908 ((t).toNat)) ≤ 2147483647 := Xi_rgI
        have e95 : (Xi T9 908 ((t).toNat)) = Xi S 908 t.toNat := (hFT9.cx 908 rfl _).1
        refine y_iconst rfl ?_
        refine y_iadd rfl ?_
        refine y_iastoreP (n := 2400) rfl rfl (by unfold rg; omega) (fun w46 w47 => ?_)
        obtain ⟨U10, eU10⟩ : ∃ T : sS, T = uI T9 973 ((q).toNat) (Int32.ofInt ((Xi T9 908 ((t).toNat)) + 1)) := ⟨_, rfl⟩
        rw [← eU10]
        have hHU10 : RI U10 := by rw [eU10]; exact RI_w hHT9
        have hFU10 : FR md_mo_whatMeant__k S U10 := by rw [eU10]; exact FR.wI hFT9 (mdf_i (r := (973, 974, 0, 100000)) (List.mem_of_getElem? (i := 3) rfl) (inR_i (by omega) (by omega) (by omega) (by omega)))
        have w48 : Xi U10 973 ((q).toNat) = ((Xi T9 908 ((t).toNat)) + 1) := by rw [eU10]; exact Xi_same (by unfold rg; omega)
        have k98 : NT3 U10 = NT3 T9 := by unfold NT3; rw [eU10]; repeat rw [Xi_ne (by omega)]
        have x98 : Xi U10 973 q.toNat = Xi S 908 t.toNat + 1 := by rw [eU10, e95, Xi_same (by unfold rg; omega)]
        refine y_aload_n rfl rfl ?_
        refine y_gfr rfl rfl rfl rfl rfl (hHU10.r 904 123 974 rfl) ?_
        refine y_iload rfl rfl ?_
        refine y_aload_n rfl rfl ?_
        refine y_gfr rfl rfl rfl rfl rfl (hHU10.r 904 6 909 rfl) ?_
        refine y_iload_n rfl rfl ?_
        refine y_ialoadP (n := 5002) rfl rfl (by unfold rg; omega) (fun w49 w50 => ?_)
        have w51 : -2147483648 ≤ (Xi U10 909 ((t).toNat)) ∧ (Xi U10 909 ((t).toNat)) ≤ 2147483647 := Xi_rgI
        have e110 : (Xi U10 909 ((t).toNat)) = Xi S 909 t.toNat := (hFU10.cx 909 rfl _).1
        refine y_iastoreP (n := 2400) rfl rfl (by unfold rg; omega) (fun w52 w53 => ?_)
        obtain ⟨U11, eU11⟩ : ∃ T : sS, T = uI U10 974 ((q).toNat) (Int32.ofInt (Xi U10 909 ((t).toNat))) := ⟨_, rfl⟩
        rw [← eU11]
        have hHU11 : RI U11 := by rw [eU11]; exact RI_w hHU10
        have hFU11 : FR md_mo_whatMeant__k S U11 := by rw [eU11]; exact FR.wI hFU10 (mdf_i (r := (974, 975, 0, 100000)) (List.mem_of_getElem? (i := 4) rfl) (inR_i (by omega) (by omega) (by omega) (by omega)))
        have w54 : Xi U11 974 ((q).toNat) = (Xi U10 909 ((t).toNat)) := by rw [eU11]; exact Xi_same (by unfold rg; omega)
        have K111 : True := trivial
        have k111 : NT3 U11 = NT3 U10 := by unfold NT3; rw [eU11]; repeat rw [Xi_ne (by omega)]
        have x111 : Xi U11 974 q.toNat = Xi S 909 t.toNat := by rw [eU11, e110, Xi_same (by have u : -2147483648 ≤ Xi S 909 t.toNat ∧ Xi S 909 t.toNat ≤ 2147483647 := Xi_rgI; unfold rg; omega)]
        have y111 : Xi U11 973 q.toNat = Xi S 908 t.toNat + 1 := by rw [eU11, Xi_ne (by omega)]; exact x98
        refine y_goto rfl rfl ?_
        refine y_return rfl rfl ?_
        exact ⟨hHU11, hFU11, rfl, (by first | (have t1 := K58; first | exact wmr_4 (g := 1) (by omega) (by omega) (k58.trans n42) x58 y58 | exact wmr_4 (g := 0) (by omega) (by omega) (k58.trans n42) x58 y58) | (have t1 := K111; first | exact wmr_5 (g := 1) (by omega) (by omega) ((k111.trans k98).trans n81) y111 x111 | exact wmr_5 (g := 0) (by omega) (by omega) ((k111.trans k98).trans n81) y111 x111) | exact wmr_6 (g := 1) (by omega) (by omega) (Or.inl ⟨⟨by omega, by omega⟩, rfl⟩) (k160.trans n149) x160 y160 | exact wmr_6 (g := 0) (by omega) (by omega) (Or.inr ⟨fun w => by have w1 := w.1; have w2 := w.2; omega, rfl⟩) (k160.trans n149) x160 y160), ((KQ.w (KQ.w (KQ_FR w42 rfl (KQ.w (KQ.w KQ.rf eU1 (by omega)) eU2 (by omega))) eU10 (by omega)) eU11 (by omega)))⟩
      · refine y_iconst rfl ?_
        refine y_goto rfl rfl ?_
        refine y_iconst rfl ?_
        refine y_iload_n rfl rfl ?_
        refine y_callV rfl rfl rfl (t_mo_need__p hHU2 1 4 t ⟨by omega, by omega⟩ ⟨by omega, by omega⟩ ⟨by omega, by omega⟩ _) ?_
        rintro _ T12 ⟨hHT12, w56, rfl, nt81⟩
        have hFT12 : FR md_mo_whatMeant__k S T12 := FR.tr hFU2 w56 rfl
        show Pl _ _ _ _ _ _ [] _ _
        have n81 := nt81
        rw [t23, (hFU2.cx 908 rfl _).1] at n81
        refine y_aload_n rfl rfl ?_
        refine y_gfr rfl rfl rfl rfl rfl (hHT12.r 904 122 973 rfl) ?_
        refine y_iload rfl rfl ?_
        refine y_aload_n rfl rfl ?_
        refine y_gfr rfl rfl rfl rfl rfl (hHT12.r 904 5 908 rfl) ?_
        refine y_iload_n rfl rfl ?_
        refine y_ialoadP (n := 5002) rfl rfl (by unfold rg; omega) (fun w57 w58 => ?_)
        have w59 : -2147483648 ≤ (Xi T12 908 ((t).toNat)) ∧ (Xi T12 908 ((t).toNat)) ≤ 2147483647 := Xi_rgI
        have e95 : (Xi T12 908 ((t).toNat)) = Xi S 908 t.toNat := (hFT12.cx 908 rfl _).1
        refine y_iconst rfl ?_
        refine y_iadd rfl ?_
        refine y_iastoreP (n := 2400) rfl rfl (by unfold rg; omega) (fun w60 w61 => ?_)
        obtain ⟨U13, eU13⟩ : ∃ T : sS, T = uI T12 973 ((q).toNat) (Int32.ofInt ((Xi T12 908 ((t).toNat)) + 1)) := ⟨_, rfl⟩
        rw [← eU13]
        have hHU13 : RI U13 := by rw [eU13]; exact RI_w hHT12
        have hFU13 : FR md_mo_whatMeant__k S U13 := by rw [eU13]; exact FR.wI hFT12 (mdf_i (r := (973, 974, 0, 100000)) (List.mem_of_getElem? (i := 3) rfl) (inR_i (by omega) (by omega) (by omega) (by omega)))
        have w62 : Xi U13 973 ((q).toNat) = ((Xi T12 908 ((t).toNat)) + 1) := by rw [eU13]; exact Xi_same (by unfold rg; omega)
        have k98 : NT3 U13 = NT3 T12 := by unfold NT3; rw [eU13]; repeat rw [Xi_ne (by omega)]
        have x98 : Xi U13 973 q.toNat = Xi S 908 t.toNat + 1 := by rw [eU13, e95, Xi_same (by unfold rg; omega)]
        refine y_aload_n rfl rfl ?_
        refine y_gfr rfl rfl rfl rfl rfl (hHU13.r 904 123 974 rfl) ?_
        refine y_iload rfl rfl ?_
        refine y_aload_n rfl rfl ?_
        refine y_gfr rfl rfl rfl rfl rfl (hHU13.r 904 6 909 rfl) ?_
        refine y_iload_n rfl rfl ?_
        refine y_ialoadP (n := 5002) rfl rfl (by unfold rg; omega) (fun w63 w64 => ?_)
        have w65 : -2147483648 ≤ (Xi U13 909 ((t).toNat)) ∧ (Xi U13 909 ((t).toNat)) ≤ 2147483647 := Xi_rgI
        have e110 : (Xi U13 909 ((t).toNat)) = Xi S 909 t.toNat := (hFU13.cx 909 rfl _).1
        refine y_iastoreP (n := 2400) rfl rfl (by unfold rg; omega) (fun w66 w67 => ?_)
        obtain ⟨U14, eU14⟩ : ∃ T : sS, T = uI U13 974 ((q).toNat) (Int32.ofInt (Xi U13 909 ((t).toNat))) := ⟨_, rfl⟩
        rw [← eU14]
        have hHU14 : RI U14 := by rw [eU14]; exact RI_w hHU13
        have hFU14 : FR md_mo_whatMeant__k S U14 := by rw [eU14]; exact FR.wI hFU13 (mdf_i (r := (974, 975, 0, 100000)) (List.mem_of_getElem? (i := 4) rfl) (inR_i (by omega) (by omega) (by omega) (by omega)))
        have w68 : Xi U14 974 ((q).toNat) = (Xi U13 909 ((t).toNat)) := by rw [eU14]; exact Xi_same (by unfold rg; omega)
        have K111 : True := trivial
        have k111 : NT3 U14 = NT3 U13 := by unfold NT3; rw [eU14]; repeat rw [Xi_ne (by omega)]
        have x111 : Xi U14 974 q.toNat = Xi S 909 t.toNat := by rw [eU14, e110, Xi_same (by have u : -2147483648 ≤ Xi S 909 t.toNat ∧ Xi S 909 t.toNat ≤ 2147483647 := Xi_rgI; unfold rg; omega)]
        have y111 : Xi U14 973 q.toNat = Xi S 908 t.toNat + 1 := by rw [eU14, Xi_ne (by omega)]; exact x98
        refine y_goto rfl rfl ?_
        refine y_return rfl rfl ?_
        exact ⟨hHU14, hFU14, rfl, (by first | (have t1 := K58; first | exact wmr_4 (g := 1) (by omega) (by omega) (k58.trans n42) x58 y58 | exact wmr_4 (g := 0) (by omega) (by omega) (k58.trans n42) x58 y58) | (have t1 := K111; first | exact wmr_5 (g := 1) (by omega) (by omega) ((k111.trans k98).trans n81) y111 x111 | exact wmr_5 (g := 0) (by omega) (by omega) ((k111.trans k98).trans n81) y111 x111) | exact wmr_6 (g := 1) (by omega) (by omega) (Or.inl ⟨⟨by omega, by omega⟩, rfl⟩) (k160.trans n149) x160 y160 | exact wmr_6 (g := 0) (by omega) (by omega) (Or.inr ⟨fun w => by have w1 := w.1; have w2 := w.2; omega, rfl⟩) (k160.trans n149) x160 y160), ((KQ.w (KQ.w (KQ_FR w56 rfl (KQ.w (KQ.w KQ.rf eU1 (by omega)) eU2 (by omega))) eU13 (by omega)) eU14 (by omega)))⟩
  · refine y_aload_n rfl rfl ?_
    refine y_iload_n rfl rfl ?_
    refine y_if_ne rfl rfl (by unfold rg; omega) (fun w69 => ?_) (fun w70 => ?_)
    · refine y_iconst rfl ?_
      refine y_iconst rfl ?_
      refine y_iload_n rfl rfl ?_
      refine y_callV rfl rfl rfl (t_mo_need__p hHU2 0 4 t ⟨by omega, by omega⟩ ⟨by omega, by omega⟩ ⟨by omega, by omega⟩ _) ?_
      rintro _ T15 ⟨hHT15, w72, rfl, nt42⟩
      have hFT15 : FR md_mo_whatMeant__k S T15 := FR.tr hFU2 w72 rfl
      show Pl _ _ _ _ _ _ [] _ _
      have n42 := nt42
      rw [t23, (hFU2.cx 908 rfl _).1] at n42
      have F42 := (by assumption : FR md_mo_need__p U2 T15)
      have y42 : Xi T15 974 q.toNat = 0 := (F42.x 974 _ rfl).trans z23
      refine y_aload_n rfl rfl ?_
      refine y_gfr rfl rfl rfl rfl rfl (hHT15.r 904 122 973 rfl) ?_
      refine y_iload rfl rfl ?_
      refine y_aload_n rfl rfl ?_
      refine y_gfr rfl rfl rfl rfl rfl (hHT15.r 904 7 910 rfl) ?_
      refine y_iload_n rfl rfl ?_
      refine y_laloadP (n := 5002) rfl rfl (by unfold rg; omega) (fun w73 w74 => ?_)
      have w75 : -9223372036854775808 ≤ (Xj T15 910 ((t).toNat)) ∧ (Xj T15 910 ((t).toNat)) < 9223372036854775808 := Xj_rg
      refine y_l2i rfl (fun c76 w76r w76 => ?_)
      unfold rg rgL at *
      have l57 : c76 = Xj S 910 t.toNat := by have b := hnum.o (by omega); have e := (hFT15.cx 910 rfl t.toNat).2; omega
      refine y_iastoreP (n := 2400) rfl rfl (by unfold rg; omega) (fun w77 w78 => ?_)
      obtain ⟨U16, eU16⟩ : ∃ T : sS, T = uI T15 973 ((q).toNat) (Int32.ofInt c76) := ⟨_, rfl⟩
      rw [← eU16]
      have hHU16 : RI U16 := by rw [eU16]; exact RI_w hHT15
      have hFU16 : FR md_mo_whatMeant__k S U16 := by rw [eU16]; exact FR.wI hFT15 (mdf_i (r := (973, 974, 0, 100000)) (List.mem_of_getElem? (i := 3) rfl) (inR_i (by omega) (by omega) (by omega) (by omega)))
      have w79 : Xi U16 973 ((q).toNat) = c76 := by rw [eU16]; exact Xi_same (by unfold rg; omega)
      have K58 : True := trivial
      have k58 : NT3 U16 = NT3 T15 := by unfold NT3; rw [eU16]; repeat rw [Xi_ne (by omega)]
      have x58 : Xi U16 973 q.toNat = Xj S 910 t.toNat := by rw [eU16, Xi_same (by unfold rg; omega)]; exact l57
      have y58 : Xi U16 974 q.toNat = 0 := by rw [eU16, Xi_ne (by omega)]; exact y42
      refine y_goto rfl rfl ?_
      refine y_return rfl rfl ?_
      exact ⟨hHU16, hFU16, rfl, (by first | (have t1 := K58; first | exact wmr_4 (g := 1) (by omega) (by omega) (k58.trans n42) x58 y58 | exact wmr_4 (g := 0) (by omega) (by omega) (k58.trans n42) x58 y58) | (have t1 := K111; first | exact wmr_5 (g := 1) (by omega) (by omega) ((k111.trans k98).trans n81) y111 x111 | exact wmr_5 (g := 0) (by omega) (by omega) ((k111.trans k98).trans n81) y111 x111) | exact wmr_6 (g := 1) (by omega) (by omega) (Or.inl ⟨⟨by omega, by omega⟩, rfl⟩) (k160.trans n149) x160 y160 | exact wmr_6 (g := 0) (by omega) (by omega) (Or.inr ⟨fun w => by have w1 := w.1; have w2 := w.2; omega, rfl⟩) (k160.trans n149) x160 y160), ((KQ.w (KQ_FR w72 rfl (KQ.w (KQ.w KQ.rf eU1 (by omega)) eU2 (by omega))) eU16 (by omega)))⟩
    · refine y_iconst rfl ?_
      refine y_goto rfl rfl ?_
      refine y_iconst rfl ?_
      refine y_iload_n rfl rfl ?_
      refine y_callV rfl rfl rfl (t_mo_need__p hHU2 1 4 t ⟨by omega, by omega⟩ ⟨by omega, by omega⟩ ⟨by omega, by omega⟩ _) ?_
      rintro _ T17 ⟨hHT17, w81, rfl, nt42⟩
      have hFT17 : FR md_mo_whatMeant__k S T17 := FR.tr hFU2 w81 rfl
      show Pl _ _ _ _ _ _ [] _ _
      have n42 := nt42
      rw [t23, (hFU2.cx 908 rfl _).1] at n42
      have F42 := (by assumption : FR md_mo_need__p U2 T17)
      have y42 : Xi T17 974 q.toNat = 0 := (F42.x 974 _ rfl).trans z23
      refine y_aload_n rfl rfl ?_
      refine y_gfr rfl rfl rfl rfl rfl (hHT17.r 904 122 973 rfl) ?_
      refine y_iload rfl rfl ?_
      refine y_aload_n rfl rfl ?_
      refine y_gfr rfl rfl rfl rfl rfl (hHT17.r 904 7 910 rfl) ?_
      refine y_iload_n rfl rfl ?_
      refine y_laloadP (n := 5002) rfl rfl (by unfold rg; omega) (fun w82 w83 => ?_)
      have w84 : -9223372036854775808 ≤ (Xj T17 910 ((t).toNat)) ∧ (Xj T17 910 ((t).toNat)) < 9223372036854775808 := Xj_rg
      refine y_l2i rfl (fun c85 w85r w85 => ?_)
      unfold rg rgL at *
      have l57 : c85 = Xj S 910 t.toNat := by have b := hnum.o (by omega); have e := (hFT17.cx 910 rfl t.toNat).2; omega
      refine y_iastoreP (n := 2400) rfl rfl (by unfold rg; omega) (fun w86 w87 => ?_)
      obtain ⟨U18, eU18⟩ : ∃ T : sS, T = uI T17 973 ((q).toNat) (Int32.ofInt c85) := ⟨_, rfl⟩
      rw [← eU18]
      have hHU18 : RI U18 := by rw [eU18]; exact RI_w hHT17
      have hFU18 : FR md_mo_whatMeant__k S U18 := by rw [eU18]; exact FR.wI hFT17 (mdf_i (r := (973, 974, 0, 100000)) (List.mem_of_getElem? (i := 3) rfl) (inR_i (by omega) (by omega) (by omega) (by omega)))
      have w88 : Xi U18 973 ((q).toNat) = c85 := by rw [eU18]; exact Xi_same (by unfold rg; omega)
      have K58 : True := trivial
      have k58 : NT3 U18 = NT3 T17 := by unfold NT3; rw [eU18]; repeat rw [Xi_ne (by omega)]
      have x58 : Xi U18 973 q.toNat = Xj S 910 t.toNat := by rw [eU18, Xi_same (by unfold rg; omega)]; exact l57
      have y58 : Xi U18 974 q.toNat = 0 := by rw [eU18, Xi_ne (by omega)]; exact y42
      refine y_goto rfl rfl ?_
      refine y_return rfl rfl ?_
      exact ⟨hHU18, hFU18, rfl, (by first | (have t1 := K58; first | exact wmr_4 (g := 1) (by omega) (by omega) (k58.trans n42) x58 y58 | exact wmr_4 (g := 0) (by omega) (by omega) (k58.trans n42) x58 y58) | (have t1 := K111; first | exact wmr_5 (g := 1) (by omega) (by omega) ((k111.trans k98).trans n81) y111 x111 | exact wmr_5 (g := 0) (by omega) (by omega) ((k111.trans k98).trans n81) y111 x111) | exact wmr_6 (g := 1) (by omega) (by omega) (Or.inl ⟨⟨by omega, by omega⟩, rfl⟩) (k160.trans n149) x160 y160 | exact wmr_6 (g := 0) (by omega) (by omega) (Or.inr ⟨fun w => by have w1 := w.1; have w2 := w.2; omega, rfl⟩) (k160.trans n149) x160 y160), ((KQ.w (KQ_FR w81 rfl (KQ.w (KQ.w KQ.rf eU1 (by omega)) eU2 (by omega))) eU18 (by omega)))⟩
def md_mo_testMeant__5k : List rec := [(904, 905, 64, 65), (904, 905, 104, 105), (904, 905, 105, 106), (904, 905, 106, 107), (904, 905, 113, 114), (969, 970, 0, 100000), (970, 971, 0, 100000), (971, 972, 0, 100000), (972, 973, 0, 100000), (973, 974, 0, 100000), (974, 975, 0, 100000), (975, 976, 0, 100000)]
abbrev Q_mo_testMeant__5k (S : sS) (i : Int) (q : Int) (isNow : Int) : pst := fun r S1 => RI S1 ∧ FR md_mo_testMeant__5k S S1 ∧ (r = none ∧ (TM5 S S1 i q) ∧ (KQ S1 S q))
set_option maxRecDepth 100000 in
theorem t_mo_testMeant__5k {S : sS} (hH : RI S) (i : Int) (q : Int) (isNow : Int) (hi : 0 ≤ i ∧ i ≤ 1699) (hq : 0 ≤ q ∧ q ≤ 2399) (hisNow : 0 ≤ isNow ∧ isNow ≤ 1) (hLS : LSP S) (h15 : 0 ≤ Xi S 904 15) (hB : ABV S) (hkx : Hid (∀ j : Nat, -1 ≤ Xi S 918 j ∧ Xi S 918 j ≤ 15)) (hit : (-1 ≤ Xi S 904 115 ∧ Xi S 904 115 ≤ 15) ∧ (-1 ≤ Xi S 904 116 ∧ Xi S 904 116 ≤ 15)) (hfm : Xi S 952 i.toNat = 5) (hnt : 0 ≤ Xi S 953 i.toNat ∧ Xi S 953 i.toNat ≤ 1) (hte : (0 ≤ Xi S 961 i.toNat ∧ Xi S 961 i.toNat ≤ 5140) ∧ (0 ≤ Xi S 962 i.toNat ∧ Xi S 962 i.toNat ≤ 5140)) (d : Nat) : Mp lay0 (d + 7) m_mo_testMeant [.ref 904, iv i, iv q, iv isNow] S (Q_mo_testMeant__5k S i q isNow) := by
  refine Mp_R rfl rfl (fun fu => ?_)
  have hF : FR md_mo_testMeant__5k S S := FR.rf
  have w1 : -2147483648 ≤ Xi S 904 115 ∧ Xi S 904 115 ≤ 2147483647 := Xi_rgI
  have w2 : -2147483648 ≤ Xi S 904 116 ∧ Xi S 904 116 ≤ 2147483647 := Xi_rgI
  have w3 : -2147483648 ≤ Xi S 904 15 ∧ Xi S 904 15 ≤ 2147483647 := Xi_rgI
  refine y_aload_n rfl rfl ?_
  refine y_gfr rfl rfl rfl rfl rfl (hH.r 904 118 969 rfl) ?_
  refine y_iload_n rfl rfl ?_
  refine y_aload_n rfl rfl ?_
  refine y_gfr rfl rfl rfl rfl rfl (hH.r 904 82 952 rfl) ?_
  refine y_iload_n rfl rfl ?_
  refine y_ialoadP (n := 1700) rfl rfl (by unfold rg; omega) (fun w4 w5 => ?_)
  have w6 : -2147483648 ≤ (Xi S 952 ((i).toNat)) ∧ (Xi S 952 ((i).toNat)) ≤ 2147483647 := Xi_rgI
  refine y_iastoreP (n := 2400) rfl rfl (by unfold rg; omega) (fun w7 w8 => ?_)
  obtain ⟨U1, eU1⟩ : ∃ T : sS, T = uI S 969 ((q).toNat) (Int32.ofInt (Xi S 952 ((i).toNat))) := ⟨_, rfl⟩
  rw [← eU1]
  have hHU1 : RI U1 := by rw [eU1]; exact RI_w hH
  have hFU1 : FR md_mo_testMeant__5k S U1 := by rw [eU1]; exact FR.wI hF (mdf_i (r := (969, 970, 0, 100000)) (List.mem_of_getElem? (i := 5) rfl) (inR_i (by omega) (by omega) (by omega) (by omega)))
  have w9 : Xi U1 969 ((q).toNat) = (Xi S 952 ((i).toNat)) := by rw [eU1]; exact Xi_same (by unfold rg; omega)
  have e11 := eU1
  refine y_aload_n rfl rfl ?_
  refine y_gfr rfl rfl rfl rfl rfl (hHU1.r 904 119 970 rfl) ?_
  refine y_iload_n rfl rfl ?_
  refine y_aload_n rfl rfl ?_
  refine y_gfr rfl rfl rfl rfl rfl (hHU1.r 904 83 953 rfl) ?_
  refine y_iload_n rfl rfl ?_
  refine y_baloadP (n := 1700) rfl rfl rfl (by decide) (by unfold rg; omega) (fun w10 w11 => ?_)
  have w12 : -2147483648 ≤ (Xi U1 953 ((i).toNat)) ∧ (Xi U1 953 ((i).toNat)) ≤ 2147483647 := Xi_rgI
  have n22 : (Xi U1 953 ((i).toNat)) = Xi S 953 i.toNat := by rw [e11]; exact Xi_ne (by omega)
  refine y_bastoreZP (n := 2400) rfl rfl (by unfold rg; omega) ⟨by omega, by omega⟩ (fun w13 w14 => ?_)
  obtain ⟨U2, eU2⟩ : ∃ T : sS, T = uI U1 970 ((q).toNat) (Int32.ofInt (Xi U1 953 ((i).toNat))) := ⟨_, rfl⟩
  rw [← eU2]
  have hHU2 : RI U2 := by rw [eU2]; exact RI_w hHU1
  have hFU2 : FR md_mo_testMeant__5k S U2 := by rw [eU2]; exact FR.wI hFU1 (mdf_i (r := (970, 971, 0, 100000)) (List.mem_of_getElem? (i := 6) rfl) (inR_i (by omega) (by omega) (by omega) (by omega)))
  have w15 : Xi U2 970 ((q).toNat) = (Xi U1 953 ((i).toNat)) := by rw [eU2]; exact Xi_same (by unfold rg; omega)
  have e23 := eU2
  have t23 : NT3 U2 = NT3 S := (NT3_FR (FR_e e23) rfl).trans (NT3_FR (FR_e e11) rfl)
  refine y_aload_n rfl rfl ?_
  refine y_gfr rfl rfl rfl rfl rfl (hHU2.r 904 82 952 rfl) ?_
  refine y_iload_n rfl rfl ?_
  refine y_ialoadP (n := 1700) rfl rfl (by unfold rg; omega) (fun w16 w17 => ?_)
  have w18 : (Xi U2 952 ((i).toNat)) = (Xi S 952 ((i).toNat)) := (show Xi U2 952 ((i).toNat) = Xi U1 952 ((i).toNat) from by rw [eU2]; exact Xi_ne (by omega)).trans ((show Xi U1 952 ((i).toNat) = Xi S 952 ((i).toNat) from by rw [eU1]; exact Xi_ne (by omega)))
  rw [w18]
  refine y_iconst rfl ?_
  refine y_icmp_ne rfl rfl (by unfold rg; omega) (by unfold rg; omega) (fun w19 => ?_) (fun w20 => ?_)
  · exfalso; omega
  · refine y_aload_n rfl rfl ?_
    refine y_gfr rfl rfl rfl rfl rfl (hHU2.r 904 91 961 rfl) ?_
    refine y_iload_n rfl rfl ?_
    refine y_ialoadP (n := 1700) rfl rfl (by unfold rg; omega) (fun w21 w22 => ?_)
    have w23 : -2147483648 ≤ (Xi U2 961 ((i).toNat)) ∧ (Xi U2 961 ((i).toNat)) ≤ 2147483647 := Xi_rgI
    have f40 : (Xi U2 961 ((i).toNat)) = Xi S 961 i.toNat := (hFU2.cx 961 rfl _).1
    refine y_istore rfl rfl rfl ?_
    refine y_aload_n rfl rfl ?_
    refine y_iload rfl rfl ?_
    refine y_aload_n rfl rfl ?_
    refine y_gfr rfl rfl rfl rfl rfl (hHU2.r 904 92 962 rfl) ?_
    refine y_iload_n rfl rfl ?_
    refine y_ialoadP (n := 1700) rfl rfl (by unfold rg; omega) (fun w24 w25 => ?_)
    have w26 : -2147483648 ≤ (Xi U2 962 ((i).toNat)) ∧ (Xi U2 962 ((i).toNat)) ≤ 2147483647 := Xi_rgI
    have f50 : (Xi U2 962 ((i).toNat)) = Xi S 962 i.toNat := (hFU2.cx 962 rfl _).1
    refine y_iload_n rfl rfl ?_
    have w27 : Xi U2 904 115 = Xi S 904 115 := (show Xi U2 904 115 = Xi U1 904 115 from by rw [eU2]; exact Xi_ne (by omega)).trans ((show Xi U1 904 115 = Xi S 904 115 from by rw [eU1]; exact Xi_ne (by omega)))
    have w28 : Xi U2 904 116 = Xi S 904 116 := (show Xi U2 904 116 = Xi U1 904 116 from by rw [eU2]; exact Xi_ne (by omega)).trans ((show Xi U1 904 116 = Xi S 904 116 from by rw [eU1]; exact Xi_ne (by omega)))
    have w29 : Xi U2 904 15 = Xi S 904 15 := (show Xi U2 904 15 = Xi U1 904 15 from by rw [eU2]; exact Xi_ne (by omega)).trans ((show Xi U1 904 15 = Xi S 904 15 from by rw [eU1]; exact Xi_ne (by omega)))
    refine y_callV rfl rfl rfl (t_mo_sayings__k hHU2 (Xi U2 961 ((i).toNat)) (Xi U2 962 ((i).toNat)) q ⟨by omega, by omega⟩ ⟨by omega, by omega⟩ ⟨by omega, by omega⟩ (by first | assumption | exact (LSP_FR hFU2 rfl rfl (by assumption : LSP S))) (by first | assumption | omega) (by first | assumption | exact (ABV_FR hFU2 rfl (by assumption : ABV S))) (fun j => by rw [hFU2.x 918 j rfl]; exact hkx.o j) (by first | assumption | omega) _) ?_
    rintro _ T3 ⟨hHT3, w32, z31, rfl, w31, o52, w30⟩
    have hFT3 : FR md_mo_testMeant__5k S T3 := FR.tr hFU2 w32 rfl
    show Pl _ _ _ _ _ _ [iv z31] _ _
    have F52 := (by assumption : FR md_mo_sayings__k U2 T3)
    have O52 : SYRO S T3 q (Xi S 961 i.toNat) (Xi S 962 i.toNat) z31 := by have u := SYRO_A (AGQ_F hFU2 rfl rfl rfl rfl rfl rfl rfl) o52; rw [f40, f50] at u; exact u
    clear o52
    have t52 : NT3 T3 = NT3 S := (NT3_FR F52 rfl).trans t23
    refine y_istore rfl rfl rfl ?_
    refine y_aload_n rfl rfl ?_
    refine y_iload rfl rfl ?_
    refine y_if_le rfl rfl (by unfold rg; omega) (fun w33 => ?_) (fun w34 => ?_)
    · refine y_iconst rfl ?_
      refine y_iconst rfl ?_
      refine y_iload rfl rfl ?_
      refine y_callV rfl rfl rfl (t_mo_need__p hHT3 0 4 (Xi U2 961 ((i).toNat)) ⟨by omega, by omega⟩ ⟨by omega, by omega⟩ ⟨by omega, by omega⟩ _) ?_
      rintro _ T4 ⟨hHT4, w39, rfl, nt71⟩
      have hFT4 : FR md_mo_testMeant__5k S T4 := FR.tr hFT3 w39 rfl
      show Pl _ _ _ _ _ _ [] _ _
      have F71 := (by assumption : FR md_mo_need__p T3 T4)
      have N71 : NT3 T4 = (if 0 < z31 then NT3 S else ntF (NT3 S) 4 (Xi S 908 (Xi S 961 i.toNat).toNat)) := by have t := nt71; rw [t52, show Xi T3 908 _ = (Xi S 908 (Xi S 961 i.toNat).toNat) from (by rw [(hFT3.cx 908 rfl _).1, f40])] at t; first | (rw [if_pos (show 0 < z31 by omega)]; rw [if_neg (show ¬ (1 : Int) = 0 by decide)] at t; exact t) | (rw [if_neg (show ¬ 0 < z31 by omega)]; rw [if_pos (show (0 : Int) = 0 from rfl)] at t; exact t)
      refine y_aload_n rfl rfl ?_
      refine y_iload rfl rfl ?_
      refine y_iconst rfl ?_
      refine y_icmp_ge rfl rfl (by unfold rg; omega) (by unfold rg; omega) (fun w40 => ?_) (fun w41 => ?_)
      · refine y_iconst rfl ?_
        refine y_bipush rfl rfl ?_
        refine y_iload rfl rfl ?_
        refine y_callV rfl rfl rfl (t_mo_need__p hHT4 0 7 (Xi U2 961 ((i).toNat)) ⟨by omega, by omega⟩ ⟨by omega, by omega⟩ ⟨by omega, by omega⟩ _) ?_
        rintro _ T5 ⟨hHT5, w46, rfl, nt90⟩
        have hFT5 : FR md_mo_testMeant__5k S T5 := FR.tr hFT4 w46 rfl
        show Pl _ _ _ _ _ _ [] _ _
        have F90 := (by assumption : FR md_mo_need__p T4 T5)
        have N90 : NT3 T5 = (if z31 < 2 then (if 0 < z31 then NT3 S else ntF (NT3 S) 4 (Xi S 908 (Xi S 961 i.toNat).toNat)) else ntF (if 0 < z31 then NT3 S else ntF (NT3 S) 4 (Xi S 908 (Xi S 961 i.toNat).toNat)) 7 (Xi S 908 (Xi S 961 i.toNat).toNat)) := by have t := nt90; rw [N71, show Xi T4 908 _ = (Xi S 908 (Xi S 961 i.toNat).toNat) from (by rw [(hFT4.cx 908 rfl _).1, f40])] at t; first | (rw [if_pos (show z31 < 2 by omega)]; rw [if_neg (show ¬ (1 : Int) = 0 by decide)] at t; exact t) | (rw [if_neg (show ¬ z31 < 2 by omega)]; rw [if_pos (show (0 : Int) = 0 from rfl)] at t; exact t)
        refine y_return rfl rfl ?_
        exact ⟨hHT5, hFT5, rfl, (⟨by rw [F90.x 969 _ rfl, F71.x 969 _ rfl, F52.x 969 _ rfl, e23, Xi_ne (by omega), e11]; exact (Xi_same (by unfold rg; omega)).trans hfm, by rw [F90.x 970 _ rfl, F71.x 970 _ rfl, F52.x 970 _ rfl, e23, n22]; exact Xi_same (by unfold rg; omega), _, SYRO_K O52 (fun c w j => by rcases w with w | w | w <;> (subst w; exact (F90.x _ j rfl).trans (F71.x _ j rfl))), N90⟩), ((KQ_FR w46 rfl (KQ_FR w39 rfl (KQ.tr (KQ.w (KQ.w KQ.rf eU1 (by omega)) eU2 (by omega)) (by assumption : KQ T3 U2 _)))))⟩
      · refine y_iconst rfl ?_
        refine y_goto rfl rfl ?_
        refine y_bipush rfl rfl ?_
        refine y_iload rfl rfl ?_
        refine y_callV rfl rfl rfl (t_mo_need__p hHT4 1 7 (Xi U2 961 ((i).toNat)) ⟨by omega, by omega⟩ ⟨by omega, by omega⟩ ⟨by omega, by omega⟩ _) ?_
        rintro _ T6 ⟨hHT6, w54, rfl, nt90⟩
        have hFT6 : FR md_mo_testMeant__5k S T6 := FR.tr hFT4 w54 rfl
        show Pl _ _ _ _ _ _ [] _ _
        have F90 := (by assumption : FR md_mo_need__p T4 T6)
        have N90 : NT3 T6 = (if z31 < 2 then (if 0 < z31 then NT3 S else ntF (NT3 S) 4 (Xi S 908 (Xi S 961 i.toNat).toNat)) else ntF (if 0 < z31 then NT3 S else ntF (NT3 S) 4 (Xi S 908 (Xi S 961 i.toNat).toNat)) 7 (Xi S 908 (Xi S 961 i.toNat).toNat)) := by have t := nt90; rw [N71, show Xi T4 908 _ = (Xi S 908 (Xi S 961 i.toNat).toNat) from (by rw [(hFT4.cx 908 rfl _).1, f40])] at t; first | (rw [if_pos (show z31 < 2 by omega)]; rw [if_neg (show ¬ (1 : Int) = 0 by decide)] at t; exact t) | (rw [if_neg (show ¬ z31 < 2 by omega)]; rw [if_pos (show (0 : Int) = 0 from rfl)] at t; exact t)
        refine y_return rfl rfl ?_
        exact ⟨hHT6, hFT6, rfl, (⟨by rw [F90.x 969 _ rfl, F71.x 969 _ rfl, F52.x 969 _ rfl, e23, Xi_ne (by omega), e11]; exact (Xi_same (by unfold rg; omega)).trans hfm, by rw [F90.x 970 _ rfl, F71.x 970 _ rfl, F52.x 970 _ rfl, e23, n22]; exact Xi_same (by unfold rg; omega), _, SYRO_K O52 (fun c w j => by rcases w with w | w | w <;> (subst w; exact (F90.x _ j rfl).trans (F71.x _ j rfl))), N90⟩), ((KQ_FR w54 rfl (KQ_FR w39 rfl (KQ.tr (KQ.w (KQ.w KQ.rf eU1 (by omega)) eU2 (by omega)) (by assumption : KQ T3 U2 _)))))⟩
    · refine y_iconst rfl ?_
      refine y_goto rfl rfl ?_
      refine y_iconst rfl ?_
      refine y_iload rfl rfl ?_
      refine y_callV rfl rfl rfl (t_mo_need__p hHT3 1 4 (Xi U2 961 ((i).toNat)) ⟨by omega, by omega⟩ ⟨by omega, by omega⟩ ⟨by omega, by omega⟩ _) ?_
      rintro _ T7 ⟨hHT7, w62, rfl, nt71⟩
      have hFT7 : FR md_mo_testMeant__5k S T7 := FR.tr hFT3 w62 rfl
      show Pl _ _ _ _ _ _ [] _ _
      have F71 := (by assumption : FR md_mo_need__p T3 T7)
      have N71 : NT3 T7 = (if 0 < z31 then NT3 S else ntF (NT3 S) 4 (Xi S 908 (Xi S 961 i.toNat).toNat)) := by have t := nt71; rw [t52, show Xi T3 908 _ = (Xi S 908 (Xi S 961 i.toNat).toNat) from (by rw [(hFT3.cx 908 rfl _).1, f40])] at t; first | (rw [if_pos (show 0 < z31 by omega)]; rw [if_neg (show ¬ (1 : Int) = 0 by decide)] at t; exact t) | (rw [if_neg (show ¬ 0 < z31 by omega)]; rw [if_pos (show (0 : Int) = 0 from rfl)] at t; exact t)
      refine y_aload_n rfl rfl ?_
      refine y_iload rfl rfl ?_
      refine y_iconst rfl ?_
      refine y_icmp_ge rfl rfl (by unfold rg; omega) (by unfold rg; omega) (fun w63 => ?_) (fun w64 => ?_)
      · refine y_iconst rfl ?_
        refine y_bipush rfl rfl ?_
        refine y_iload rfl rfl ?_
        refine y_callV rfl rfl rfl (t_mo_need__p hHT7 0 7 (Xi U2 961 ((i).toNat)) ⟨by omega, by omega⟩ ⟨by omega, by omega⟩ ⟨by omega, by omega⟩ _) ?_
        rintro _ T8 ⟨hHT8, w69, rfl, nt90⟩
        have hFT8 : FR md_mo_testMeant__5k S T8 := FR.tr hFT7 w69 rfl
        show Pl _ _ _ _ _ _ [] _ _
        have F90 := (by assumption : FR md_mo_need__p T7 T8)
        have N90 : NT3 T8 = (if z31 < 2 then (if 0 < z31 then NT3 S else ntF (NT3 S) 4 (Xi S 908 (Xi S 961 i.toNat).toNat)) else ntF (if 0 < z31 then NT3 S else ntF (NT3 S) 4 (Xi S 908 (Xi S 961 i.toNat).toNat)) 7 (Xi S 908 (Xi S 961 i.toNat).toNat)) := by have t := nt90; rw [N71, show Xi T7 908 _ = (Xi S 908 (Xi S 961 i.toNat).toNat) from (by rw [(hFT7.cx 908 rfl _).1, f40])] at t; first | (rw [if_pos (show z31 < 2 by omega)]; rw [if_neg (show ¬ (1 : Int) = 0 by decide)] at t; exact t) | (rw [if_neg (show ¬ z31 < 2 by omega)]; rw [if_pos (show (0 : Int) = 0 from rfl)] at t; exact t)
        refine y_return rfl rfl ?_
        exact ⟨hHT8, hFT8, rfl, (⟨by rw [F90.x 969 _ rfl, F71.x 969 _ rfl, F52.x 969 _ rfl, e23, Xi_ne (by omega), e11]; exact (Xi_same (by unfold rg; omega)).trans hfm, by rw [F90.x 970 _ rfl, F71.x 970 _ rfl, F52.x 970 _ rfl, e23, n22]; exact Xi_same (by unfold rg; omega), _, SYRO_K O52 (fun c w j => by rcases w with w | w | w <;> (subst w; exact (F90.x _ j rfl).trans (F71.x _ j rfl))), N90⟩), ((KQ_FR w69 rfl (KQ_FR w62 rfl (KQ.tr (KQ.w (KQ.w KQ.rf eU1 (by omega)) eU2 (by omega)) (by assumption : KQ T3 U2 _)))))⟩
      · refine y_iconst rfl ?_
        refine y_goto rfl rfl ?_
        refine y_bipush rfl rfl ?_
        refine y_iload rfl rfl ?_
        refine y_callV rfl rfl rfl (t_mo_need__p hHT7 1 7 (Xi U2 961 ((i).toNat)) ⟨by omega, by omega⟩ ⟨by omega, by omega⟩ ⟨by omega, by omega⟩ _) ?_
        rintro _ T9 ⟨hHT9, w77, rfl, nt90⟩
        have hFT9 : FR md_mo_testMeant__5k S T9 := FR.tr hFT7 w77 rfl
        show Pl _ _ _ _ _ _ [] _ _
        have F90 := (by assumption : FR md_mo_need__p T7 T9)
        have N90 : NT3 T9 = (if z31 < 2 then (if 0 < z31 then NT3 S else ntF (NT3 S) 4 (Xi S 908 (Xi S 961 i.toNat).toNat)) else ntF (if 0 < z31 then NT3 S else ntF (NT3 S) 4 (Xi S 908 (Xi S 961 i.toNat).toNat)) 7 (Xi S 908 (Xi S 961 i.toNat).toNat)) := by have t := nt90; rw [N71, show Xi T7 908 _ = (Xi S 908 (Xi S 961 i.toNat).toNat) from (by rw [(hFT7.cx 908 rfl _).1, f40])] at t; first | (rw [if_pos (show z31 < 2 by omega)]; rw [if_neg (show ¬ (1 : Int) = 0 by decide)] at t; exact t) | (rw [if_neg (show ¬ z31 < 2 by omega)]; rw [if_pos (show (0 : Int) = 0 from rfl)] at t; exact t)
        refine y_return rfl rfl ?_
        exact ⟨hHT9, hFT9, rfl, (⟨by rw [F90.x 969 _ rfl, F71.x 969 _ rfl, F52.x 969 _ rfl, e23, Xi_ne (by omega), e11]; exact (Xi_same (by unfold rg; omega)).trans hfm, by rw [F90.x 970 _ rfl, F71.x 970 _ rfl, F52.x 970 _ rfl, e23, n22]; exact Xi_same (by unfold rg; omega), _, SYRO_K O52 (fun c w j => by rcases w with w | w | w <;> (subst w; exact (F90.x _ j rfl).trans (F71.x _ j rfl))), N90⟩), ((KQ_FR w77 rfl (KQ_FR w62 rfl (KQ.tr (KQ.w (KQ.w KQ.rf eU1 (by omega)) eU2 (by omega)) (by assumption : KQ T3 U2 _)))))⟩
def md_mo_testMeant__4k : List rec := [(904, 905, 64, 65), (904, 905, 104, 105), (904, 905, 105, 106), (904, 905, 106, 107), (904, 905, 113, 114), (969, 970, 0, 100000), (970, 971, 0, 100000), (971, 972, 0, 100000), (972, 973, 0, 100000), (973, 974, 0, 100000), (974, 975, 0, 100000), (975, 976, 0, 100000)]
abbrev Q_mo_testMeant__4k (S : sS) (i : Int) (q : Int) (isNow : Int) : pst := fun r S1 => RI S1 ∧ FR md_mo_testMeant__4k S S1 ∧ (r = none ∧ (TM4 S S1 i q) ∧ (KQ S1 S q))
set_option maxRecDepth 100000 in
theorem t_mo_testMeant__4k {S : sS} (hH : RI S) (i : Int) (q : Int) (isNow : Int) (hi : 0 ≤ i ∧ i ≤ 1699) (hq : 0 ≤ q ∧ q ≤ 2399) (hisNow : 0 ≤ isNow ∧ isNow ≤ 1) (hLS : LSP S) (h15 : 0 ≤ Xi S 904 15) (hRB : RBD S) (hfm : Xi S 952 i.toNat = 4) (hnt : 0 ≤ Xi S 953 i.toNat ∧ Xi S 953 i.toNat ≤ 1) (htd : 0 ≤ Xi S 954 i.toNat ∧ Xi S 954 i.toNat ≤ 29999) (hto : 0 ≤ Xi S 959 i.toNat ∧ Xi S 959 i.toNat ≤ 29999) (d : Nat) : Mp lay0 (d + 7) m_mo_testMeant [.ref 904, iv i, iv q, iv isNow] S (Q_mo_testMeant__4k S i q isNow) := by
  refine Mp_R rfl rfl (fun fu => ?_)
  have hF : FR md_mo_testMeant__4k S S := FR.rf
  have w1 : -2147483648 ≤ Xi S 904 115 ∧ Xi S 904 115 ≤ 2147483647 := Xi_rgI
  have w2 : -2147483648 ≤ Xi S 904 116 ∧ Xi S 904 116 ≤ 2147483647 := Xi_rgI
  have w3 : -2147483648 ≤ Xi S 904 15 ∧ Xi S 904 15 ≤ 2147483647 := Xi_rgI
  refine y_aload_n rfl rfl ?_
  refine y_gfr rfl rfl rfl rfl rfl (hH.r 904 118 969 rfl) ?_
  refine y_iload_n rfl rfl ?_
  refine y_aload_n rfl rfl ?_
  refine y_gfr rfl rfl rfl rfl rfl (hH.r 904 82 952 rfl) ?_
  refine y_iload_n rfl rfl ?_
  refine y_ialoadP (n := 1700) rfl rfl (by unfold rg; omega) (fun w4 w5 => ?_)
  have w6 : -2147483648 ≤ (Xi S 952 ((i).toNat)) ∧ (Xi S 952 ((i).toNat)) ≤ 2147483647 := Xi_rgI
  refine y_iastoreP (n := 2400) rfl rfl (by unfold rg; omega) (fun w7 w8 => ?_)
  obtain ⟨U1, eU1⟩ : ∃ T : sS, T = uI S 969 ((q).toNat) (Int32.ofInt (Xi S 952 ((i).toNat))) := ⟨_, rfl⟩
  rw [← eU1]
  have hHU1 : RI U1 := by rw [eU1]; exact RI_w hH
  have hFU1 : FR md_mo_testMeant__4k S U1 := by rw [eU1]; exact FR.wI hF (mdf_i (r := (969, 970, 0, 100000)) (List.mem_of_getElem? (i := 5) rfl) (inR_i (by omega) (by omega) (by omega) (by omega)))
  have w9 : Xi U1 969 ((q).toNat) = (Xi S 952 ((i).toNat)) := by rw [eU1]; exact Xi_same (by unfold rg; omega)
  have e11 := eU1
  refine y_aload_n rfl rfl ?_
  refine y_gfr rfl rfl rfl rfl rfl (hHU1.r 904 119 970 rfl) ?_
  refine y_iload_n rfl rfl ?_
  refine y_aload_n rfl rfl ?_
  refine y_gfr rfl rfl rfl rfl rfl (hHU1.r 904 83 953 rfl) ?_
  refine y_iload_n rfl rfl ?_
  refine y_baloadP (n := 1700) rfl rfl rfl (by decide) (by unfold rg; omega) (fun w10 w11 => ?_)
  have w12 : -2147483648 ≤ (Xi U1 953 ((i).toNat)) ∧ (Xi U1 953 ((i).toNat)) ≤ 2147483647 := Xi_rgI
  have n22 : (Xi U1 953 ((i).toNat)) = Xi S 953 i.toNat := by rw [e11]; exact Xi_ne (by omega)
  refine y_bastoreZP (n := 2400) rfl rfl (by unfold rg; omega) ⟨by omega, by omega⟩ (fun w13 w14 => ?_)
  obtain ⟨U2, eU2⟩ : ∃ T : sS, T = uI U1 970 ((q).toNat) (Int32.ofInt (Xi U1 953 ((i).toNat))) := ⟨_, rfl⟩
  rw [← eU2]
  have hHU2 : RI U2 := by rw [eU2]; exact RI_w hHU1
  have hFU2 : FR md_mo_testMeant__4k S U2 := by rw [eU2]; exact FR.wI hFU1 (mdf_i (r := (970, 971, 0, 100000)) (List.mem_of_getElem? (i := 6) rfl) (inR_i (by omega) (by omega) (by omega) (by omega)))
  have w15 : Xi U2 970 ((q).toNat) = (Xi U1 953 ((i).toNat)) := by rw [eU2]; exact Xi_same (by unfold rg; omega)
  have e23 := eU2
  have t23 : NT3 U2 = NT3 S := (NT3_FR (FR_e e23) rfl).trans (NT3_FR (FR_e e11) rfl)
  refine y_aload_n rfl rfl ?_
  refine y_gfr rfl rfl rfl rfl rfl (hHU2.r 904 82 952 rfl) ?_
  refine y_iload_n rfl rfl ?_
  refine y_ialoadP (n := 1700) rfl rfl (by unfold rg; omega) (fun w16 w17 => ?_)
  have w18 : (Xi U2 952 ((i).toNat)) = (Xi S 952 ((i).toNat)) := (show Xi U2 952 ((i).toNat) = Xi U1 952 ((i).toNat) from by rw [eU2]; exact Xi_ne (by omega)).trans ((show Xi U1 952 ((i).toNat) = Xi S 952 ((i).toNat) from by rw [eU1]; exact Xi_ne (by omega)))
  rw [w18]
  refine y_iconst rfl ?_
  refine y_icmp_ne rfl rfl (by unfold rg; omega) (by unfold rg; omega) (fun w19 => ?_) (fun w20 => ?_)
  · refine y_aload_n rfl rfl ?_
    refine y_aload_n rfl rfl ?_
    refine y_gfr rfl rfl rfl rfl rfl (hHU2.r 904 84 954 rfl) ?_
    refine y_iload_n rfl rfl ?_
    refine y_ialoadP (n := 1700) rfl rfl (by unfold rg; omega) (fun w21 w22 => ?_)
    have w23 : -2147483648 ≤ (Xi U2 954 ((i).toNat)) ∧ (Xi U2 954 ((i).toNat)) ≤ 2147483647 := Xi_rgI
    have a100 : (Xi U2 954 ((i).toNat)) = Xi S 954 i.toNat := (hFU2.cx 954 rfl _).1
    refine y_aload_n rfl rfl ?_
    refine y_gfr rfl rfl rfl rfl rfl (hHU2.r 904 85 955 rfl) ?_
    refine y_iload_n rfl rfl ?_
    refine y_ialoadP (n := 1700) rfl rfl (by unfold rg; omega) (fun w24 w25 => ?_)
    have w26 : -2147483648 ≤ (Xi U2 955 ((i).toNat)) ∧ (Xi U2 955 ((i).toNat)) ≤ 2147483647 := Xi_rgI
    have a106 : (Xi U2 955 ((i).toNat)) = Xi S 955 i.toNat := (hFU2.cx 955 rfl _).1
    have w29 : Xi U2 904 15 = Xi S 904 15 := (show Xi U2 904 15 = Xi U1 904 15 from by rw [eU2]; exact Xi_ne (by omega)).trans ((show Xi U1 904 15 = Xi S 904 15 from by rw [eU1]; exact Xi_ne (by omega)))
    refine y_callV rfl rfl rfl (t_mo_meant__p hHU2 (Xi U2 954 ((i).toNat)) (Xi U2 955 ((i).toNat)) ⟨by omega, by omega⟩ ⟨by omega, by omega⟩ (by first | assumption | exact (LSP_FR hFU2 rfl rfl (by assumption : LSP S))) (by first | assumption | omega) (by first | assumption | exact (RBD_FR hFU2 rfl (by assumption : RBD S))) _) ?_
    rintro _ T3 ⟨hHT3, w31, z30, rfl, w30, o107⟩
    have hFT3 : FR md_mo_testMeant__4k S T3 := FR.tr hFU2 w31 rfl
    show Pl _ _ _ _ _ _ [iv z30] _ _
    have F107 := (by assumption : FR md_mo_meant__p U2 T3)
    have M107 := mto_F o107 (SMR_FR hFU2 rfl rfl) (hFU2.x 904 115 rfl) (hFU2.x 904 116 rfl) t23 (fun j => hFU2.x 908 j rfl) a100 a106
    clear o107
    refine y_istore rfl rfl rfl ?_
    refine y_aload_n rfl rfl ?_
    refine y_gfr rfl rfl rfl rfl rfl (hHT3.r 904 120 971 rfl) ?_
    refine y_iload_n rfl rfl ?_
    refine y_iload rfl rfl ?_
    refine y_iastoreP (n := 2400) rfl rfl (by unfold rg; omega) (fun w32 w33 => ?_)
    obtain ⟨U4, eU4⟩ : ∃ T : sS, T = uI T3 971 ((q).toNat) (Int32.ofInt z30) := ⟨_, rfl⟩
    rw [← eU4]
    have hHU4 : RI U4 := by rw [eU4]; exact RI_w hHT3
    have hFU4 : FR md_mo_testMeant__4k S U4 := by rw [eU4]; exact FR.wI hFT3 (mdf_i (r := (971, 972, 0, 100000)) (List.mem_of_getElem? (i := 7) rfl) (inR_i (by omega) (by omega) (by omega) (by omega)))
    have w34 : Xi U4 971 ((q).toNat) = z30 := by rw [eU4]; exact Xi_same (by unfold rg; omega)
    have e119 := eU4
    have N119 : NT3 U4 = nT1 S i := by have u := M107.2; rw [M107.1] at u; exact (NT3_FR (FR_e e119) rfl).trans u
    have B119 : TMB S U4 i q := ⟨by rw [e119, Xi_ne (by omega), F107.x 969 _ rfl, e23, Xi_ne (by omega), e11]; exact Xi_same (by unfold rg; omega), by rw [e119, Xi_ne (by omega), F107.x 970 _ rfl, e23, n22]; exact Xi_same (by unfold rg; omega), by rw [e119]; exact (Xi_same (by unfold rg; omega)).trans M107.1⟩
    refine y_aload_n rfl rfl ?_
    refine y_gfr rfl rfl rfl rfl rfl (hHU4.r 904 82 952 rfl) ?_
    refine y_iload_n rfl rfl ?_
    refine y_ialoadP (n := 1700) rfl rfl (by unfold rg; omega) (fun w35 w36 => ?_)
    have w37 : (Xi U4 952 ((i).toNat)) = (Xi S 952 ((i).toNat)) := (show Xi U4 952 ((i).toNat) = Xi T3 952 ((i).toNat) from by rw [eU4]; exact Xi_ne (by omega)).trans ( (show Xi T3 952 ((i).toNat) = Xi U2 952 ((i).toNat) from w31.x _ _ rfl).trans ( (show Xi U2 952 ((i).toNat) = Xi U1 952 ((i).toNat) from by rw [eU2]; exact Xi_ne (by omega)).trans ((show Xi U1 952 ((i).toNat) = Xi S 952 ((i).toNat) from by rw [eU1]; exact Xi_ne (by omega)))))
    rw [w37]
    refine y_iconst rfl ?_
    refine y_icmp_ne rfl rfl (by unfold rg; omega) (by unfold rg; omega) (fun w38 => ?_) (fun w39 => ?_)
    · refine y_aload_n rfl rfl ?_
      refine y_gfr rfl rfl rfl rfl rfl (hHU4.r 904 82 952 rfl) ?_
      refine y_iload_n rfl rfl ?_
      refine y_ialoadP (n := 1700) rfl rfl (by unfold rg; omega) (fun w40 w41 => ?_)
      have w42 : (Xi U4 952 ((i).toNat)) = (Xi S 952 ((i).toNat)) := (show Xi U4 952 ((i).toNat) = Xi T3 952 ((i).toNat) from by rw [eU4]; exact Xi_ne (by omega)).trans ( (show Xi T3 952 ((i).toNat) = Xi U2 952 ((i).toNat) from w31.x _ _ rfl).trans ( (show Xi U2 952 ((i).toNat) = Xi U1 952 ((i).toNat) from by rw [eU2]; exact Xi_ne (by omega)).trans ((show Xi U1 952 ((i).toNat) = Xi S 952 ((i).toNat) from by rw [eU1]; exact Xi_ne (by omega)))))
      rw [w42]
      refine y_iconst rfl ?_
      refine y_icmp_ne rfl rfl (by unfold rg; omega) (by unfold rg; omega) (fun w43 => ?_) (fun w44 => ?_)
      · exfalso; omega
      · refine y_aload_n rfl rfl ?_
        refine y_aload_n rfl rfl ?_
        refine y_gfr rfl rfl rfl rfl rfl (hHU4.r 904 89 959 rfl) ?_
        refine y_iload_n rfl rfl ?_
        refine y_ialoadP (n := 1700) rfl rfl (by unfold rg; omega) (fun w45 w46 => ?_)
        have w47 : -2147483648 ≤ (Xi U4 959 ((i).toNat)) ∧ (Xi U4 959 ((i).toNat)) ≤ 2147483647 := Xi_rgI
        have a293 : (Xi U4 959 ((i).toNat)) = Xi S 959 i.toNat := (hFU4.cx 959 rfl _).1
        refine y_aload_n rfl rfl ?_
        refine y_gfr rfl rfl rfl rfl rfl (hHU4.r 904 90 960 rfl) ?_
        refine y_iload_n rfl rfl ?_
        refine y_ialoadP (n := 1700) rfl rfl (by unfold rg; omega) (fun w48 w49 => ?_)
        have w50 : -2147483648 ≤ (Xi U4 960 ((i).toNat)) ∧ (Xi U4 960 ((i).toNat)) ≤ 2147483647 := Xi_rgI
        have a299 : (Xi U4 960 ((i).toNat)) = Xi S 960 i.toNat := (hFU4.cx 960 rfl _).1
        have w53 : Xi U4 904 15 = Xi S 904 15 := (show Xi U4 904 15 = Xi T3 904 15 from by rw [eU4]; exact Xi_ne (by omega)).trans ( (show Xi T3 904 15 = Xi U2 904 15 from w31.x _ _ rfl).trans ( (show Xi U2 904 15 = Xi U1 904 15 from by rw [eU2]; exact Xi_ne (by omega)).trans ((show Xi U1 904 15 = Xi S 904 15 from by rw [eU1]; exact Xi_ne (by omega)))))
        refine y_callV rfl rfl rfl (t_mo_meant__p hHU4 (Xi U4 959 ((i).toNat)) (Xi U4 960 ((i).toNat)) ⟨by omega, by omega⟩ ⟨by omega, by omega⟩ (by first | assumption | exact (LSP_FR hFU4 rfl rfl (by assumption : LSP S))) (by first | assumption | omega) (by first | assumption | exact (RBD_FR hFU4 rfl (by assumption : RBD S))) _) ?_
        rintro _ T5 ⟨hHT5, w55, z54, rfl, w54, o300⟩
        have hFT5 : FR md_mo_testMeant__4k S T5 := FR.tr hFU4 w55 rfl
        show Pl _ _ _ _ _ _ [iv z54] _ _
        have F300 := (by assumption : FR md_mo_meant__p U4 T5)
        have M300 := mto_F o300 (SMR_FR hFU4 rfl rfl) (hFU4.x 904 115 rfl) (hFU4.x 904 116 rfl) N119 (fun j => hFU4.x 908 j rfl) a293 a299
        clear o300
        refine y_istore rfl rfl rfl ?_
        refine y_aload_n rfl rfl ?_
        refine y_gfr rfl rfl rfl rfl rfl (hHT5.r 904 124 975 rfl) ?_
        refine y_iload_n rfl rfl ?_
        refine y_iload rfl rfl ?_
        refine y_iastoreP (n := 2400) rfl rfl (by unfold rg; omega) (fun w56 w57 => ?_)
        obtain ⟨U6, eU6⟩ : ∃ T : sS, T = uI T5 975 ((q).toNat) (Int32.ofInt z54) := ⟨_, rfl⟩
        rw [← eU6]
        have hHU6 : RI U6 := by rw [eU6]; exact RI_w hHT5
        have hFU6 : FR md_mo_testMeant__4k S U6 := by rw [eU6]; exact FR.wI hFT5 (mdf_i (r := (975, 976, 0, 100000)) (List.mem_of_getElem? (i := 11) rfl) (inR_i (by omega) (by omega) (by omega) (by omega)))
        have w58 : Xi U6 975 ((q).toNat) = z54 := by rw [eU6]; exact Xi_same (by unfold rg; omega)
        have e312 := eU6
        refine y_aload_n rfl rfl ?_
        refine y_gfr rfl rfl rfl rfl rfl (hHU6.r 904 122 973 rfl) ?_
        refine y_iload_n rfl rfl ?_
        refine y_aload_n rfl rfl ?_
        refine y_gfr rfl rfl rfl rfl rfl (hHU6.r 904 88 958 rfl) ?_
        refine y_iload_n rfl rfl ?_
        refine y_ialoadP (n := 1700) rfl rfl (by unfold rg; omega) (fun w59 w60 => ?_)
        have w61 : -2147483648 ≤ (Xi U6 958 ((i).toNat)) ∧ (Xi U6 958 ((i).toNat)) ≤ 2147483647 := Xi_rgI
        have a323 : (Xi U6 958 ((i).toNat)) = Xi S 958 i.toNat := (hFU6.cx 958 rfl _).1
        have b323 := Xi_rgI (S := S) (k := 958) (j := i.toNat)
        refine y_iastoreP (n := 2400) rfl rfl (by unfold rg; omega) (fun w62 w63 => ?_)
        obtain ⟨U7, eU7⟩ : ∃ T : sS, T = uI U6 973 ((q).toNat) (Int32.ofInt (Xi U6 958 ((i).toNat))) := ⟨_, rfl⟩
        rw [← eU7]
        have hHU7 : RI U7 := by rw [eU7]; exact RI_w hHU6
        have hFU7 : FR md_mo_testMeant__4k S U7 := by rw [eU7]; exact FR.wI hFU6 (mdf_i (r := (973, 974, 0, 100000)) (List.mem_of_getElem? (i := 9) rfl) (inR_i (by omega) (by omega) (by omega) (by omega)))
        have w64 : Xi U7 973 ((q).toNat) = (Xi U6 958 ((i).toNat)) := by rw [eU7]; exact Xi_same (by unfold rg; omega)
        have e324 := eU7
        refine y_goto rfl rfl ?_
        refine y_return rfl rfl ?_
        exact ⟨hHU7, hFU7, rfl, (⟨⟨by rw [e324, Xi_ne (by omega), e312, Xi_ne (by omega), F300.x 969 _ rfl]; exact B119.1, by rw [e324, Xi_ne (by omega), e312, Xi_ne (by omega), F300.x 970 _ rfl]; exact B119.2.1, by rw [e324, Xi_ne (by omega), e312, Xi_ne (by omega), F300.x 971 _ rfl]; exact B119.2.2⟩, by rw [e324, Xi_ne (by omega), e312]; exact (Xi_same (by unfold rg; omega)).trans M300.1, by rw [e324, a323]; exact Xi_same (by unfold rg; omega), by have u := M300.2; rw [M300.1] at u; exact (NT3_FR (FR_e e324) rfl).trans ((NT3_FR (FR_e e312) rfl).trans u)⟩), ((KQ.w (KQ.w (KQ_FR w55 rfl (KQ.w (KQ_FR w31 rfl (KQ.w (KQ.w KQ.rf eU1 (by omega)) eU2 (by omega))) eU4 (by omega))) eU6 (by omega)) eU7 (by omega)))⟩
    · exfalso; omega
  · exfalso; omega
def md_mo_testMeant__0k : List rec := [(904, 905, 64, 65), (904, 905, 104, 105), (904, 905, 105, 106), (904, 905, 106, 107), (904, 905, 113, 114), (969, 970, 0, 100000), (970, 971, 0, 100000), (971, 972, 0, 100000), (972, 973, 0, 100000), (973, 974, 0, 100000), (974, 975, 0, 100000), (975, 976, 0, 100000)]
abbrev Q_mo_testMeant__0k (S : sS) (i : Int) (q : Int) (isNow : Int) : pst := fun r S1 => RI S1 ∧ FR md_mo_testMeant__0k S S1 ∧ (r = none ∧ (TM0 S S1 i q) ∧ (KQ S1 S q))
set_option maxRecDepth 100000 in
theorem t_mo_testMeant__0k {S : sS} (hH : RI S) (i : Int) (q : Int) (isNow : Int) (hi : 0 ≤ i ∧ i ≤ 1699) (hq : 0 ≤ q ∧ q ≤ 2399) (hisNow : 0 ≤ isNow ∧ isNow ≤ 1) (hLS : LSP S) (h15 : 0 ≤ Xi S 904 15) (hRB : RBD S) (hB : ABV S) (hkx : Hid (∀ j : Nat, -1 ≤ Xi S 918 j ∧ Xi S 918 j ≤ 15)) (hit : (-1 ≤ Xi S 904 115 ∧ Xi S 904 115 ≤ 15) ∧ (-1 ≤ Xi S 904 116 ∧ Xi S 904 116 ≤ 15)) (hfm : Xi S 952 i.toNat = 0) (hnt : 0 ≤ Xi S 953 i.toNat ∧ Xi S 953 i.toNat ≤ 1) (htd : 0 ≤ Xi S 954 i.toNat ∧ Xi S 954 i.toNat ≤ 29999) (hpx : Hid (-1 ≤ rnR S (Xi S 956 i.toNat) 7 ∧ rnR S (Xi S 956 i.toNat) 7 ≤ 11)) (hnum : Hid (Xi S 907 (Xi S 957 i.toNat).toNat = 4 → 0 ≤ Xj S 910 (Xi S 957 i.toNat).toNat ∧ Xj S 910 (Xi S 957 i.toNat).toNat ≤ 2147483647)) (hplc : Xi S 908 (Xi S 957 i.toNat).toNat ≤ 100000) (d : Nat) : Mp lay0 (d + 7) m_mo_testMeant [.ref 904, iv i, iv q, iv isNow] S (Q_mo_testMeant__0k S i q isNow) := by
  refine Mp_R rfl rfl (fun fu => ?_)
  have hF : FR md_mo_testMeant__0k S S := FR.rf
  have w1 : -2147483648 ≤ Xi S 904 115 ∧ Xi S 904 115 ≤ 2147483647 := Xi_rgI
  have w2 : -2147483648 ≤ Xi S 904 116 ∧ Xi S 904 116 ≤ 2147483647 := Xi_rgI
  have w3 : -2147483648 ≤ Xi S 904 15 ∧ Xi S 904 15 ≤ 2147483647 := Xi_rgI
  refine y_aload_n rfl rfl ?_
  refine y_gfr rfl rfl rfl rfl rfl (hH.r 904 118 969 rfl) ?_
  refine y_iload_n rfl rfl ?_
  refine y_aload_n rfl rfl ?_
  refine y_gfr rfl rfl rfl rfl rfl (hH.r 904 82 952 rfl) ?_
  refine y_iload_n rfl rfl ?_
  refine y_ialoadP (n := 1700) rfl rfl (by unfold rg; omega) (fun w4 w5 => ?_)
  have w6 : -2147483648 ≤ (Xi S 952 ((i).toNat)) ∧ (Xi S 952 ((i).toNat)) ≤ 2147483647 := Xi_rgI
  refine y_iastoreP (n := 2400) rfl rfl (by unfold rg; omega) (fun w7 w8 => ?_)
  obtain ⟨U1, eU1⟩ : ∃ T : sS, T = uI S 969 ((q).toNat) (Int32.ofInt (Xi S 952 ((i).toNat))) := ⟨_, rfl⟩
  rw [← eU1]
  have hHU1 : RI U1 := by rw [eU1]; exact RI_w hH
  have hFU1 : FR md_mo_testMeant__0k S U1 := by rw [eU1]; exact FR.wI hF (mdf_i (r := (969, 970, 0, 100000)) (List.mem_of_getElem? (i := 5) rfl) (inR_i (by omega) (by omega) (by omega) (by omega)))
  have w9 : Xi U1 969 ((q).toNat) = (Xi S 952 ((i).toNat)) := by rw [eU1]; exact Xi_same (by unfold rg; omega)
  have e11 := eU1
  refine y_aload_n rfl rfl ?_
  refine y_gfr rfl rfl rfl rfl rfl (hHU1.r 904 119 970 rfl) ?_
  refine y_iload_n rfl rfl ?_
  refine y_aload_n rfl rfl ?_
  refine y_gfr rfl rfl rfl rfl rfl (hHU1.r 904 83 953 rfl) ?_
  refine y_iload_n rfl rfl ?_
  refine y_baloadP (n := 1700) rfl rfl rfl (by decide) (by unfold rg; omega) (fun w10 w11 => ?_)
  have w12 : -2147483648 ≤ (Xi U1 953 ((i).toNat)) ∧ (Xi U1 953 ((i).toNat)) ≤ 2147483647 := Xi_rgI
  have n22 : (Xi U1 953 ((i).toNat)) = Xi S 953 i.toNat := by rw [e11]; exact Xi_ne (by omega)
  refine y_bastoreZP (n := 2400) rfl rfl (by unfold rg; omega) ⟨by omega, by omega⟩ (fun w13 w14 => ?_)
  obtain ⟨U2, eU2⟩ : ∃ T : sS, T = uI U1 970 ((q).toNat) (Int32.ofInt (Xi U1 953 ((i).toNat))) := ⟨_, rfl⟩
  rw [← eU2]
  have hHU2 : RI U2 := by rw [eU2]; exact RI_w hHU1
  have hFU2 : FR md_mo_testMeant__0k S U2 := by rw [eU2]; exact FR.wI hFU1 (mdf_i (r := (970, 971, 0, 100000)) (List.mem_of_getElem? (i := 6) rfl) (inR_i (by omega) (by omega) (by omega) (by omega)))
  have w15 : Xi U2 970 ((q).toNat) = (Xi U1 953 ((i).toNat)) := by rw [eU2]; exact Xi_same (by unfold rg; omega)
  have e23 := eU2
  have t23 : NT3 U2 = NT3 S := (NT3_FR (FR_e e23) rfl).trans (NT3_FR (FR_e e11) rfl)
  refine y_aload_n rfl rfl ?_
  refine y_gfr rfl rfl rfl rfl rfl (hHU2.r 904 82 952 rfl) ?_
  refine y_iload_n rfl rfl ?_
  refine y_ialoadP (n := 1700) rfl rfl (by unfold rg; omega) (fun w16 w17 => ?_)
  have w18 : (Xi U2 952 ((i).toNat)) = (Xi S 952 ((i).toNat)) := (show Xi U2 952 ((i).toNat) = Xi U1 952 ((i).toNat) from by rw [eU2]; exact Xi_ne (by omega)).trans ((show Xi U1 952 ((i).toNat) = Xi S 952 ((i).toNat) from by rw [eU1]; exact Xi_ne (by omega)))
  rw [w18]
  refine y_iconst rfl ?_
  refine y_icmp_ne rfl rfl (by unfold rg; omega) (by unfold rg; omega) (fun w19 => ?_) (fun w20 => ?_)
  · refine y_aload_n rfl rfl ?_
    refine y_aload_n rfl rfl ?_
    refine y_gfr rfl rfl rfl rfl rfl (hHU2.r 904 84 954 rfl) ?_
    refine y_iload_n rfl rfl ?_
    refine y_ialoadP (n := 1700) rfl rfl (by unfold rg; omega) (fun w21 w22 => ?_)
    have w23 : -2147483648 ≤ (Xi U2 954 ((i).toNat)) ∧ (Xi U2 954 ((i).toNat)) ≤ 2147483647 := Xi_rgI
    have a100 : (Xi U2 954 ((i).toNat)) = Xi S 954 i.toNat := (hFU2.cx 954 rfl _).1
    refine y_aload_n rfl rfl ?_
    refine y_gfr rfl rfl rfl rfl rfl (hHU2.r 904 85 955 rfl) ?_
    refine y_iload_n rfl rfl ?_
    refine y_ialoadP (n := 1700) rfl rfl (by unfold rg; omega) (fun w24 w25 => ?_)
    have w26 : -2147483648 ≤ (Xi U2 955 ((i).toNat)) ∧ (Xi U2 955 ((i).toNat)) ≤ 2147483647 := Xi_rgI
    have a106 : (Xi U2 955 ((i).toNat)) = Xi S 955 i.toNat := (hFU2.cx 955 rfl _).1
    have w29 : Xi U2 904 15 = Xi S 904 15 := (show Xi U2 904 15 = Xi U1 904 15 from by rw [eU2]; exact Xi_ne (by omega)).trans ((show Xi U1 904 15 = Xi S 904 15 from by rw [eU1]; exact Xi_ne (by omega)))
    refine y_callV rfl rfl rfl (t_mo_meant__p hHU2 (Xi U2 954 ((i).toNat)) (Xi U2 955 ((i).toNat)) ⟨by omega, by omega⟩ ⟨by omega, by omega⟩ (by first | assumption | exact (LSP_FR hFU2 rfl rfl (by assumption : LSP S))) (by first | assumption | omega) (by first | assumption | exact (RBD_FR hFU2 rfl (by assumption : RBD S))) _) ?_
    rintro _ T3 ⟨hHT3, w31, z30, rfl, w30, o107⟩
    have hFT3 : FR md_mo_testMeant__0k S T3 := FR.tr hFU2 w31 rfl
    show Pl _ _ _ _ _ _ [iv z30] _ _
    have F107 := (by assumption : FR md_mo_meant__p U2 T3)
    have M107 := mto_F o107 (SMR_FR hFU2 rfl rfl) (hFU2.x 904 115 rfl) (hFU2.x 904 116 rfl) t23 (fun j => hFU2.x 908 j rfl) a100 a106
    clear o107
    refine y_istore rfl rfl rfl ?_
    refine y_aload_n rfl rfl ?_
    refine y_gfr rfl rfl rfl rfl rfl (hHT3.r 904 120 971 rfl) ?_
    refine y_iload_n rfl rfl ?_
    refine y_iload rfl rfl ?_
    refine y_iastoreP (n := 2400) rfl rfl (by unfold rg; omega) (fun w32 w33 => ?_)
    obtain ⟨U4, eU4⟩ : ∃ T : sS, T = uI T3 971 ((q).toNat) (Int32.ofInt z30) := ⟨_, rfl⟩
    rw [← eU4]
    have hHU4 : RI U4 := by rw [eU4]; exact RI_w hHT3
    have hFU4 : FR md_mo_testMeant__0k S U4 := by rw [eU4]; exact FR.wI hFT3 (mdf_i (r := (971, 972, 0, 100000)) (List.mem_of_getElem? (i := 7) rfl) (inR_i (by omega) (by omega) (by omega) (by omega)))
    have w34 : Xi U4 971 ((q).toNat) = z30 := by rw [eU4]; exact Xi_same (by unfold rg; omega)
    have e119 := eU4
    have N119 : NT3 U4 = nT1 S i := by have u := M107.2; rw [M107.1] at u; exact (NT3_FR (FR_e e119) rfl).trans u
    have B119 : TMB S U4 i q := ⟨by rw [e119, Xi_ne (by omega), F107.x 969 _ rfl, e23, Xi_ne (by omega), e11]; exact Xi_same (by unfold rg; omega), by rw [e119, Xi_ne (by omega), F107.x 970 _ rfl, e23, n22]; exact Xi_same (by unfold rg; omega), by rw [e119]; exact (Xi_same (by unfold rg; omega)).trans M107.1⟩
    refine y_aload_n rfl rfl ?_
    refine y_gfr rfl rfl rfl rfl rfl (hHU4.r 904 82 952 rfl) ?_
    refine y_iload_n rfl rfl ?_
    refine y_ialoadP (n := 1700) rfl rfl (by unfold rg; omega) (fun w35 w36 => ?_)
    have w37 : (Xi U4 952 ((i).toNat)) = (Xi S 952 ((i).toNat)) := (show Xi U4 952 ((i).toNat) = Xi T3 952 ((i).toNat) from by rw [eU4]; exact Xi_ne (by omega)).trans ( (show Xi T3 952 ((i).toNat) = Xi U2 952 ((i).toNat) from w31.x _ _ rfl).trans ( (show Xi U2 952 ((i).toNat) = Xi U1 952 ((i).toNat) from by rw [eU2]; exact Xi_ne (by omega)).trans ((show Xi U1 952 ((i).toNat) = Xi S 952 ((i).toNat) from by rw [eU1]; exact Xi_ne (by omega)))))
    rw [w37]
    refine y_iconst rfl ?_
    refine y_icmp_ne rfl rfl (by unfold rg; omega) (by unfold rg; omega) (fun w38 => ?_) (fun w39 => ?_)
    · refine y_aload_n rfl rfl ?_
      refine y_gfr rfl rfl rfl rfl rfl (hHU4.r 904 82 952 rfl) ?_
      refine y_iload_n rfl rfl ?_
      refine y_ialoadP (n := 1700) rfl rfl (by unfold rg; omega) (fun w40 w41 => ?_)
      have w42 : (Xi U4 952 ((i).toNat)) = (Xi S 952 ((i).toNat)) := (show Xi U4 952 ((i).toNat) = Xi T3 952 ((i).toNat) from by rw [eU4]; exact Xi_ne (by omega)).trans ( (show Xi T3 952 ((i).toNat) = Xi U2 952 ((i).toNat) from w31.x _ _ rfl).trans ( (show Xi U2 952 ((i).toNat) = Xi U1 952 ((i).toNat) from by rw [eU2]; exact Xi_ne (by omega)).trans ((show Xi U1 952 ((i).toNat) = Xi S 952 ((i).toNat) from by rw [eU1]; exact Xi_ne (by omega)))))
      rw [w42]
      refine y_iconst rfl ?_
      refine y_icmp_ne rfl rfl (by unfold rg; omega) (by unfold rg; omega) (fun w43 => ?_) (fun w44 => ?_)
      · refine y_aload_n rfl rfl ?_
        refine y_aload_n rfl rfl ?_
        refine y_gfr rfl rfl rfl rfl rfl (hHU4.r 904 86 956 rfl) ?_
        refine y_iload_n rfl rfl ?_
        refine y_ialoadP (n := 1700) rfl rfl (by unfold rg; omega) (fun w45 w46 => ?_)
        have w47 : -2147483648 ≤ (Xi U4 956 ((i).toNat)) ∧ (Xi U4 956 ((i).toNat)) ≤ 2147483647 := Xi_rgI
        have a334 : (Xi U4 956 ((i).toNat)) = Xi S 956 i.toNat := (hFU4.cx 956 rfl _).1
        have m334 : z30 = mT1 S i := M107.1
        refine y_iload rfl rfl ?_
        have w48 : Xi U4 904 115 = Xi S 904 115 := (show Xi U4 904 115 = Xi T3 904 115 from by rw [eU4]; exact Xi_ne (by omega)).trans ( (show Xi T3 904 115 = Xi U2 904 115 from w31.x _ _ rfl).trans ( (show Xi U2 904 115 = Xi U1 904 115 from by rw [eU2]; exact Xi_ne (by omega)).trans ((show Xi U1 904 115 = Xi S 904 115 from by rw [eU1]; exact Xi_ne (by omega)))))
        have w49 : Xi U4 904 116 = Xi S 904 116 := (show Xi U4 904 116 = Xi T3 904 116 from by rw [eU4]; exact Xi_ne (by omega)).trans ( (show Xi T3 904 116 = Xi U2 904 116 from w31.x _ _ rfl).trans ( (show Xi U2 904 116 = Xi U1 904 116 from by rw [eU2]; exact Xi_ne (by omega)).trans ((show Xi U1 904 116 = Xi S 904 116 from by rw [eU1]; exact Xi_ne (by omega)))))
        have w50 : Xi U4 904 15 = Xi S 904 15 := (show Xi U4 904 15 = Xi T3 904 15 from by rw [eU4]; exact Xi_ne (by omega)).trans ( (show Xi T3 904 15 = Xi U2 904 15 from w31.x _ _ rfl).trans ( (show Xi U2 904 15 = Xi U1 904 15 from by rw [eU2]; exact Xi_ne (by omega)).trans ((show Xi U1 904 15 = Xi S 904 15 from by rw [eU1]; exact Xi_ne (by omega)))))
        refine y_callV rfl rfl rfl (t_mo_propertyMeant__p hHU4 (Xi U4 956 ((i).toNat)) z30 ⟨by omega, by omega⟩ ⟨by omega, by omega⟩ (by first | assumption | exact (LSP_FR hFU4 rfl rfl (by assumption : LSP S))) (by first | assumption | omega) (by first | assumption | exact (RBD_FR hFU4 rfl (by assumption : RBD S))) (by first | assumption | exact (ABV_FR hFU4 rfl (by assumption : ABV S))) (fun j => by rw [hFU4.x 918 j rfl]; exact hkx.o j) (by first | assumption | omega) (by rw [rnR_sm (SMR_FR hFU4 rfl rfl), (hFU4.cx 956 rfl _).1]; exact hpx.o) _) ?_
        rintro _ T5 ⟨hHT5, w52, z51, rfl, w51, o337⟩
        have hFT5 : FR md_mo_testMeant__0k S T5 := FR.tr hFU4 w52 rfl
        show Pl _ _ _ _ _ _ [iv z51] _ _
        have F337 := (by assumption : FR md_mo_propertyMeant__p U4 T5)
        have M337 := pmo_F o337 hFU4 (SMR_FR hFU4 rfl rfl) rfl rfl rfl (hFU4.x 904 115 rfl) (hFU4.x 904 116 rfl) N119 a334 m334
        clear o337
        have N337 : NT3 T5 = nT2 S i := nT2_i M337.2.1 M337.2.2
        refine y_istore rfl rfl rfl ?_
        refine y_aload_n rfl rfl ?_
        refine y_gfr rfl rfl rfl rfl rfl (hHT5.r 904 121 972 rfl) ?_
        refine y_iload_n rfl rfl ?_
        refine y_iload rfl rfl ?_
        refine y_iastoreP (n := 2400) rfl rfl (by unfold rg; omega) (fun w53 w54 => ?_)
        obtain ⟨U6, eU6⟩ : ∃ T : sS, T = uI T5 972 ((q).toNat) (Int32.ofInt z51) := ⟨_, rfl⟩
        rw [← eU6]
        have hHU6 : RI U6 := by rw [eU6]; exact RI_w hHT5
        have hFU6 : FR md_mo_testMeant__0k S U6 := by rw [eU6]; exact FR.wI hFT5 (mdf_i (r := (972, 973, 0, 100000)) (List.mem_of_getElem? (i := 8) rfl) (inR_i (by omega) (by omega) (by omega) (by omega)))
        have w55 : Xi U6 972 ((q).toNat) = z51 := by rw [eU6]; exact Xi_same (by unfold rg; omega)
        have e349 := eU6
        have N349 : NT3 U6 = nT2 S i := (NT3_FR (FR_e e349) rfl).trans N337
        have B349 : TMB S U6 i q := ⟨by rw [e349, Xi_ne (by omega), F337.x 969 _ rfl]; exact B119.1, by rw [e349, Xi_ne (by omega), F337.x 970 _ rfl]; exact B119.2.1, by rw [e349, Xi_ne (by omega), F337.x 971 _ rfl]; exact B119.2.2⟩
        have P349 : Xi U6 972 q.toNat = pT0 S i := by rw [e349]; exact (Xi_same (by unfold rg; omega)).trans M337.1
        refine y_iload rfl rfl ?_
        refine y_iconst rfl ?_
        refine y_icmp_eq rfl rfl (by unfold rg; omega) (by unfold rg; omega) (fun w56 => ?_) (fun w57 => ?_)
        · refine y_aload_n rfl rfl ?_
          refine y_gfr rfl rfl rfl rfl rfl (hHU6.r 904 82 952 rfl) ?_
          refine y_iload_n rfl rfl ?_
          refine y_ialoadP (n := 1700) rfl rfl (by unfold rg; omega) (fun w58 w59 => ?_)
          have w60 : (Xi U6 952 ((i).toNat)) = (Xi S 952 ((i).toNat)) := (show Xi U6 952 ((i).toNat) = Xi T5 952 ((i).toNat) from by rw [eU6]; exact Xi_ne (by omega)).trans ( (show Xi T5 952 ((i).toNat) = Xi U4 952 ((i).toNat) from w52.x _ _ rfl).trans ( (show Xi U4 952 ((i).toNat) = Xi T3 952 ((i).toNat) from by rw [eU4]; exact Xi_ne (by omega)).trans ( (show Xi T3 952 ((i).toNat) = Xi U2 952 ((i).toNat) from w31.x _ _ rfl).trans ( (show Xi U2 952 ((i).toNat) = Xi U1 952 ((i).toNat) from by rw [eU2]; exact Xi_ne (by omega)).trans ((show Xi U1 952 ((i).toNat) = Xi S 952 ((i).toNat) from by rw [eU1]; exact Xi_ne (by omega)))))))
          rw [w60]
          refine y_if_eq rfl rfl (by unfold rg; omega) (fun w61 => ?_) (fun w62 => ?_)
          · refine y_return rfl rfl ?_
            exact ⟨hHU6, hFU6, rfl, (by first | (have u := M386; exact ⟨⟨(F386.x 969 _ rfl).trans B349.1, (F386.x 970 _ rfl).trans B349.2.1, (F386.x 971 _ rfl).trans B349.2.2⟩, (F386.x 972 _ rfl).trans P349, fun q => absurd (M337.1.trans q) (by omega), fun _ => M386⟩) | exact ⟨B349, P349, fun _ => N349, fun q => absurd (M337.1.symm.trans (by omega)) q⟩), ((KQ.w (KQ_FR w52 rfl (KQ.w (KQ_FR w31 rfl (KQ.w (KQ.w KQ.rf eU1 (by omega)) eU2 (by omega))) eU4 (by omega))) eU6 (by omega)))⟩
          · exfalso; omega
        · refine y_aload_n rfl rfl ?_
          refine y_gfr rfl rfl rfl rfl rfl (hHU6.r 904 82 952 rfl) ?_
          refine y_iload_n rfl rfl ?_
          refine y_ialoadP (n := 1700) rfl rfl (by unfold rg; omega) (fun w66 w67 => ?_)
          have w68 : (Xi U6 952 ((i).toNat)) = (Xi S 952 ((i).toNat)) := (show Xi U6 952 ((i).toNat) = Xi T5 952 ((i).toNat) from by rw [eU6]; exact Xi_ne (by omega)).trans ( (show Xi T5 952 ((i).toNat) = Xi U4 952 ((i).toNat) from w52.x _ _ rfl).trans ( (show Xi U4 952 ((i).toNat) = Xi T3 952 ((i).toNat) from by rw [eU4]; exact Xi_ne (by omega)).trans ( (show Xi T3 952 ((i).toNat) = Xi U2 952 ((i).toNat) from w31.x _ _ rfl).trans ( (show Xi U2 952 ((i).toNat) = Xi U1 952 ((i).toNat) from by rw [eU2]; exact Xi_ne (by omega)).trans ((show Xi U1 952 ((i).toNat) = Xi S 952 ((i).toNat) from by rw [eU1]; exact Xi_ne (by omega)))))))
          rw [w68]
          refine y_if_ne rfl rfl (by unfold rg; omega) (fun w69 => ?_) (fun w70 => ?_)
          · refine y_aload_n rfl rfl ?_
            refine y_gfr rfl rfl rfl rfl rfl (hHU6.r 904 82 952 rfl) ?_
            refine y_iload_n rfl rfl ?_
            refine y_ialoadP (n := 1700) rfl rfl (by unfold rg; omega) (fun w71 w72 => ?_)
            have w73 : (Xi U6 952 ((i).toNat)) = (Xi S 952 ((i).toNat)) := (show Xi U6 952 ((i).toNat) = Xi T5 952 ((i).toNat) from by rw [eU6]; exact Xi_ne (by omega)).trans ( (show Xi T5 952 ((i).toNat) = Xi U4 952 ((i).toNat) from w52.x _ _ rfl).trans ( (show Xi U4 952 ((i).toNat) = Xi T3 952 ((i).toNat) from by rw [eU4]; exact Xi_ne (by omega)).trans ( (show Xi T3 952 ((i).toNat) = Xi U2 952 ((i).toNat) from w31.x _ _ rfl).trans ( (show Xi U2 952 ((i).toNat) = Xi U1 952 ((i).toNat) from by rw [eU2]; exact Xi_ne (by omega)).trans ((show Xi U1 952 ((i).toNat) = Xi S 952 ((i).toNat) from by rw [eU1]; exact Xi_ne (by omega)))))))
            rw [w73]
            refine y_if_eq rfl rfl (by unfold rg; omega) (fun w74 => ?_) (fun w75 => ?_)
            · refine y_return rfl rfl ?_
              exact ⟨hHU6, hFU6, rfl, (by first | (have u := M386; exact ⟨⟨(F386.x 969 _ rfl).trans B349.1, (F386.x 970 _ rfl).trans B349.2.1, (F386.x 971 _ rfl).trans B349.2.2⟩, (F386.x 972 _ rfl).trans P349, fun q => absurd (M337.1.trans q) (by omega), fun _ => M386⟩) | exact ⟨B349, P349, fun _ => N349, fun q => absurd (M337.1.symm.trans (by omega)) q⟩), ((KQ.w (KQ_FR w52 rfl (KQ.w (KQ_FR w31 rfl (KQ.w (KQ.w KQ.rf eU1 (by omega)) eU2 (by omega))) eU4 (by omega))) eU6 (by omega)))⟩
            · exfalso; omega
          · refine y_aload_n rfl rfl ?_
            refine y_aload_n rfl rfl ?_
            refine y_gfr rfl rfl rfl rfl rfl (hHU6.r 904 87 957 rfl) ?_
            refine y_iload_n rfl rfl ?_
            refine y_ialoadP (n := 1700) rfl rfl (by unfold rg; omega) (fun w79 w80 => ?_)
            have w81 : -2147483648 ≤ (Xi U6 957 ((i).toNat)) ∧ (Xi U6 957 ((i).toNat)) ≤ 2147483647 := Xi_rgI
            have a371 : (Xi U6 957 ((i).toNat)) = Xi S 957 i.toNat := (hFU6.cx 957 rfl _).1
            refine y_aload_n rfl rfl ?_
            refine y_gfr rfl rfl rfl rfl rfl (hHU6.r 904 90 960 rfl) ?_
            refine y_iload_n rfl rfl ?_
            refine y_ialoadP (n := 1700) rfl rfl (by unfold rg; omega) (fun w82 w83 => ?_)
            have w84 : -2147483648 ≤ (Xi U6 960 ((i).toNat)) ∧ (Xi U6 960 ((i).toNat)) ≤ 2147483647 := Xi_rgI
            have a377 : (Xi U6 960 ((i).toNat)) = Xi S 960 i.toNat := (hFU6.cx 960 rfl _).1
            refine y_aload_n rfl rfl ?_
            refine y_gfr rfl rfl rfl rfl rfl (hHU6.r 904 33 928 rfl) ?_
            refine y_iload rfl rfl ?_
            refine y_ialoadP (n := 12) rfl rfl (by unfold rg; omega) (fun w85 w86 => ?_)
            have w87 : -2147483648 ≤ (Xi U6 928 ((z51).toNat)) ∧ (Xi U6 928 ((z51).toNat)) ≤ 2147483647 := Xi_rgI
            have a384 : (Xi U6 928 ((z51).toNat)) = Xi S 928 (pT0 S i).toNat := by rw [(hFU6.cx 928 rfl _).1, M337.1]; rfl
            refine y_iload_n rfl rfl ?_
            have w90 : Xi U6 904 15 = Xi S 904 15 := (show Xi U6 904 15 = Xi T5 904 15 from by rw [eU6]; exact Xi_ne (by omega)).trans ( (show Xi T5 904 15 = Xi U4 904 15 from w52.x _ _ rfl).trans ( (show Xi U4 904 15 = Xi T3 904 15 from by rw [eU4]; exact Xi_ne (by omega)).trans ( (show Xi T3 904 15 = Xi U2 904 15 from w31.x _ _ rfl).trans ( (show Xi U2 904 15 = Xi U1 904 15 from by rw [eU2]; exact Xi_ne (by omega)).trans ((show Xi U1 904 15 = Xi S 904 15 from by rw [eU1]; exact Xi_ne (by omega)))))))
            refine y_callV rfl rfl rfl (t_mo_whatMeant__k hHU6 (Xi U6 957 ((i).toNat)) (Xi U6 960 ((i).toNat)) (Xi U6 928 ((z51).toNat)) q ⟨by omega, by omega⟩ ⟨by omega, by omega⟩ ⟨by omega, by omega⟩ ⟨by omega, by omega⟩ (by first | assumption | exact (LSP_FR hFU6 rfl rfl (by assumption : LSP S))) (by first | assumption | omega) (by first | assumption | exact (RBD_FR hFU6 rfl (by assumption : RBD S))) (by rw [a371, (hFU6.cx 907 rfl _).1, (hFU6.cx 910 rfl _).2]; exact hnum.o) (by rw [a371, (hFU6.cx 908 rfl _).1]; exact hplc) _) ?_
            rintro _ T7 ⟨hHT7, w93, rfl, o386, w91⟩
            have hFT7 : FR md_mo_testMeant__0k S T7 := FR.tr hFU6 w93 rfl
            show Pl _ _ _ _ _ _ [] _ _
            have F386 := (by assumption : FR md_mo_whatMeant__k U6 T7)
            have M386 := wmr_F o386 hFU6 (SMR_FR hFU6 rfl rfl) rfl rfl N349 a371 a377 a384
            clear o386
            refine y_goto rfl rfl ?_
            refine y_return rfl rfl ?_
            exact ⟨hHT7, hFT7, rfl, (by first | (have u := M386; exact ⟨⟨(F386.x 969 _ rfl).trans B349.1, (F386.x 970 _ rfl).trans B349.2.1, (F386.x 971 _ rfl).trans B349.2.2⟩, (F386.x 972 _ rfl).trans P349, fun q => absurd (M337.1.trans q) (by omega), fun _ => M386⟩) | exact ⟨B349, P349, fun _ => N349, fun q => absurd (M337.1.symm.trans (by omega)) q⟩), ((KQ.tr (KQ.w (KQ_FR w52 rfl (KQ.w (KQ_FR w31 rfl (KQ.w (KQ.w KQ.rf eU1 (by omega)) eU2 (by omega))) eU4 (by omega))) eU6 (by omega)) (by assumption : KQ T7 U6 _)))⟩
      · exfalso; omega
    · exfalso; omega
  · exfalso; omega
def md_mo_testMeant__1k : List rec := [(904, 905, 64, 65), (904, 905, 104, 105), (904, 905, 105, 106), (904, 905, 106, 107), (904, 905, 113, 114), (969, 970, 0, 100000), (970, 971, 0, 100000), (971, 972, 0, 100000), (972, 973, 0, 100000), (973, 974, 0, 100000), (974, 975, 0, 100000), (975, 976, 0, 100000)]
abbrev Q_mo_testMeant__1k (S : sS) (i : Int) (q : Int) (isNow : Int) : pst := fun r S1 => RI S1 ∧ FR md_mo_testMeant__1k S S1 ∧ (r = none ∧ (TM1 S S1 i q) ∧ (KQ S1 S q))
set_option maxRecDepth 100000 in
theorem t_mo_testMeant__1k {S : sS} (hH : RI S) (i : Int) (q : Int) (isNow : Int) (hi : 0 ≤ i ∧ i ≤ 1699) (hq : 0 ≤ q ∧ q ≤ 2399) (hisNow : 0 ≤ isNow ∧ isNow ≤ 1) (hLS : LSP S) (h15 : 0 ≤ Xi S 904 15) (hRB : RBD S) (hB : ABV S) (hkx : Hid (∀ j : Nat, -1 ≤ Xi S 918 j ∧ Xi S 918 j ≤ 15)) (hit : (-1 ≤ Xi S 904 115 ∧ Xi S 904 115 ≤ 15) ∧ (-1 ≤ Xi S 904 116 ∧ Xi S 904 116 ≤ 15)) (hfm : Xi S 952 i.toNat = 1 ∨ Xi S 952 i.toNat = 2) (hnt : 0 ≤ Xi S 953 i.toNat ∧ Xi S 953 i.toNat ≤ 1) (htd : 0 ≤ Xi S 954 i.toNat ∧ Xi S 954 i.toNat ≤ 29999) (hpx : Hid (-1 ≤ rnR S (Xi S 956 i.toNat) 7 ∧ rnR S (Xi S 956 i.toNat) 7 ≤ 11)) (hnum : 0 ≤ Xj S 910 (Xi S 957 i.toNat).toNat ∧ Xj S 910 (Xi S 957 i.toNat).toNat ≤ 2147483647) (d : Nat) : Mp lay0 (d + 7) m_mo_testMeant [.ref 904, iv i, iv q, iv isNow] S (Q_mo_testMeant__1k S i q isNow) := by
  refine Mp_R rfl rfl (fun fu => ?_)
  have hF : FR md_mo_testMeant__1k S S := FR.rf
  have w1 : -2147483648 ≤ Xi S 904 115 ∧ Xi S 904 115 ≤ 2147483647 := Xi_rgI
  have w2 : -2147483648 ≤ Xi S 904 116 ∧ Xi S 904 116 ≤ 2147483647 := Xi_rgI
  have w3 : -2147483648 ≤ Xi S 904 15 ∧ Xi S 904 15 ≤ 2147483647 := Xi_rgI
  refine y_aload_n rfl rfl ?_
  refine y_gfr rfl rfl rfl rfl rfl (hH.r 904 118 969 rfl) ?_
  refine y_iload_n rfl rfl ?_
  refine y_aload_n rfl rfl ?_
  refine y_gfr rfl rfl rfl rfl rfl (hH.r 904 82 952 rfl) ?_
  refine y_iload_n rfl rfl ?_
  refine y_ialoadP (n := 1700) rfl rfl (by unfold rg; omega) (fun w4 w5 => ?_)
  have w6 : -2147483648 ≤ (Xi S 952 ((i).toNat)) ∧ (Xi S 952 ((i).toNat)) ≤ 2147483647 := Xi_rgI
  refine y_iastoreP (n := 2400) rfl rfl (by unfold rg; omega) (fun w7 w8 => ?_)
  obtain ⟨U1, eU1⟩ : ∃ T : sS, T = uI S 969 ((q).toNat) (Int32.ofInt (Xi S 952 ((i).toNat))) := ⟨_, rfl⟩
  rw [← eU1]
  have hHU1 : RI U1 := by rw [eU1]; exact RI_w hH
  have hFU1 : FR md_mo_testMeant__1k S U1 := by rw [eU1]; exact FR.wI hF (mdf_i (r := (969, 970, 0, 100000)) (List.mem_of_getElem? (i := 5) rfl) (inR_i (by omega) (by omega) (by omega) (by omega)))
  have w9 : Xi U1 969 ((q).toNat) = (Xi S 952 ((i).toNat)) := by rw [eU1]; exact Xi_same (by unfold rg; omega)
  have e11 := eU1
  refine y_aload_n rfl rfl ?_
  refine y_gfr rfl rfl rfl rfl rfl (hHU1.r 904 119 970 rfl) ?_
  refine y_iload_n rfl rfl ?_
  refine y_aload_n rfl rfl ?_
  refine y_gfr rfl rfl rfl rfl rfl (hHU1.r 904 83 953 rfl) ?_
  refine y_iload_n rfl rfl ?_
  refine y_baloadP (n := 1700) rfl rfl rfl (by decide) (by unfold rg; omega) (fun w10 w11 => ?_)
  have w12 : -2147483648 ≤ (Xi U1 953 ((i).toNat)) ∧ (Xi U1 953 ((i).toNat)) ≤ 2147483647 := Xi_rgI
  have n22 : (Xi U1 953 ((i).toNat)) = Xi S 953 i.toNat := by rw [e11]; exact Xi_ne (by omega)
  refine y_bastoreZP (n := 2400) rfl rfl (by unfold rg; omega) ⟨by omega, by omega⟩ (fun w13 w14 => ?_)
  obtain ⟨U2, eU2⟩ : ∃ T : sS, T = uI U1 970 ((q).toNat) (Int32.ofInt (Xi U1 953 ((i).toNat))) := ⟨_, rfl⟩
  rw [← eU2]
  have hHU2 : RI U2 := by rw [eU2]; exact RI_w hHU1
  have hFU2 : FR md_mo_testMeant__1k S U2 := by rw [eU2]; exact FR.wI hFU1 (mdf_i (r := (970, 971, 0, 100000)) (List.mem_of_getElem? (i := 6) rfl) (inR_i (by omega) (by omega) (by omega) (by omega)))
  have w15 : Xi U2 970 ((q).toNat) = (Xi U1 953 ((i).toNat)) := by rw [eU2]; exact Xi_same (by unfold rg; omega)
  have e23 := eU2
  have t23 : NT3 U2 = NT3 S := (NT3_FR (FR_e e23) rfl).trans (NT3_FR (FR_e e11) rfl)
  refine y_aload_n rfl rfl ?_
  refine y_gfr rfl rfl rfl rfl rfl (hHU2.r 904 82 952 rfl) ?_
  refine y_iload_n rfl rfl ?_
  refine y_ialoadP (n := 1700) rfl rfl (by unfold rg; omega) (fun w16 w17 => ?_)
  have w18 : (Xi U2 952 ((i).toNat)) = (Xi S 952 ((i).toNat)) := (show Xi U2 952 ((i).toNat) = Xi U1 952 ((i).toNat) from by rw [eU2]; exact Xi_ne (by omega)).trans ((show Xi U1 952 ((i).toNat) = Xi S 952 ((i).toNat) from by rw [eU1]; exact Xi_ne (by omega)))
  rw [w18]
  refine y_iconst rfl ?_
  refine y_icmp_ne rfl rfl (by unfold rg; omega) (by unfold rg; omega) (fun w19 => ?_) (fun w20 => ?_)
  · refine y_aload_n rfl rfl ?_
    refine y_aload_n rfl rfl ?_
    refine y_gfr rfl rfl rfl rfl rfl (hHU2.r 904 84 954 rfl) ?_
    refine y_iload_n rfl rfl ?_
    refine y_ialoadP (n := 1700) rfl rfl (by unfold rg; omega) (fun w21 w22 => ?_)
    have w23 : -2147483648 ≤ (Xi U2 954 ((i).toNat)) ∧ (Xi U2 954 ((i).toNat)) ≤ 2147483647 := Xi_rgI
    have a100 : (Xi U2 954 ((i).toNat)) = Xi S 954 i.toNat := (hFU2.cx 954 rfl _).1
    refine y_aload_n rfl rfl ?_
    refine y_gfr rfl rfl rfl rfl rfl (hHU2.r 904 85 955 rfl) ?_
    refine y_iload_n rfl rfl ?_
    refine y_ialoadP (n := 1700) rfl rfl (by unfold rg; omega) (fun w24 w25 => ?_)
    have w26 : -2147483648 ≤ (Xi U2 955 ((i).toNat)) ∧ (Xi U2 955 ((i).toNat)) ≤ 2147483647 := Xi_rgI
    have a106 : (Xi U2 955 ((i).toNat)) = Xi S 955 i.toNat := (hFU2.cx 955 rfl _).1
    have w29 : Xi U2 904 15 = Xi S 904 15 := (show Xi U2 904 15 = Xi U1 904 15 from by rw [eU2]; exact Xi_ne (by omega)).trans ((show Xi U1 904 15 = Xi S 904 15 from by rw [eU1]; exact Xi_ne (by omega)))
    refine y_callV rfl rfl rfl (t_mo_meant__p hHU2 (Xi U2 954 ((i).toNat)) (Xi U2 955 ((i).toNat)) ⟨by omega, by omega⟩ ⟨by omega, by omega⟩ (by first | assumption | exact (LSP_FR hFU2 rfl rfl (by assumption : LSP S))) (by first | assumption | omega) (by first | assumption | exact (RBD_FR hFU2 rfl (by assumption : RBD S))) _) ?_
    rintro _ T3 ⟨hHT3, w31, z30, rfl, w30, o107⟩
    have hFT3 : FR md_mo_testMeant__1k S T3 := FR.tr hFU2 w31 rfl
    show Pl _ _ _ _ _ _ [iv z30] _ _
    have F107 := (by assumption : FR md_mo_meant__p U2 T3)
    have M107 := mto_F o107 (SMR_FR hFU2 rfl rfl) (hFU2.x 904 115 rfl) (hFU2.x 904 116 rfl) t23 (fun j => hFU2.x 908 j rfl) a100 a106
    clear o107
    refine y_istore rfl rfl rfl ?_
    refine y_aload_n rfl rfl ?_
    refine y_gfr rfl rfl rfl rfl rfl (hHT3.r 904 120 971 rfl) ?_
    refine y_iload_n rfl rfl ?_
    refine y_iload rfl rfl ?_
    refine y_iastoreP (n := 2400) rfl rfl (by unfold rg; omega) (fun w32 w33 => ?_)
    obtain ⟨U4, eU4⟩ : ∃ T : sS, T = uI T3 971 ((q).toNat) (Int32.ofInt z30) := ⟨_, rfl⟩
    rw [← eU4]
    have hHU4 : RI U4 := by rw [eU4]; exact RI_w hHT3
    have hFU4 : FR md_mo_testMeant__1k S U4 := by rw [eU4]; exact FR.wI hFT3 (mdf_i (r := (971, 972, 0, 100000)) (List.mem_of_getElem? (i := 7) rfl) (inR_i (by omega) (by omega) (by omega) (by omega)))
    have w34 : Xi U4 971 ((q).toNat) = z30 := by rw [eU4]; exact Xi_same (by unfold rg; omega)
    have e119 := eU4
    have N119 : NT3 U4 = nT1 S i := by have u := M107.2; rw [M107.1] at u; exact (NT3_FR (FR_e e119) rfl).trans u
    have B119 : TMB S U4 i q := ⟨by rw [e119, Xi_ne (by omega), F107.x 969 _ rfl, e23, Xi_ne (by omega), e11]; exact Xi_same (by unfold rg; omega), by rw [e119, Xi_ne (by omega), F107.x 970 _ rfl, e23, n22]; exact Xi_same (by unfold rg; omega), by rw [e119]; exact (Xi_same (by unfold rg; omega)).trans M107.1⟩
    refine y_aload_n rfl rfl ?_
    refine y_gfr rfl rfl rfl rfl rfl (hHU4.r 904 82 952 rfl) ?_
    refine y_iload_n rfl rfl ?_
    refine y_ialoadP (n := 1700) rfl rfl (by unfold rg; omega) (fun w35 w36 => ?_)
    have w37 : (Xi U4 952 ((i).toNat)) = (Xi S 952 ((i).toNat)) := (show Xi U4 952 ((i).toNat) = Xi T3 952 ((i).toNat) from by rw [eU4]; exact Xi_ne (by omega)).trans ( (show Xi T3 952 ((i).toNat) = Xi U2 952 ((i).toNat) from w31.x _ _ rfl).trans ( (show Xi U2 952 ((i).toNat) = Xi U1 952 ((i).toNat) from by rw [eU2]; exact Xi_ne (by omega)).trans ((show Xi U1 952 ((i).toNat) = Xi S 952 ((i).toNat) from by rw [eU1]; exact Xi_ne (by omega)))))
    rw [w37]
    refine y_iconst rfl ?_
    refine y_icmp_ne rfl rfl (by unfold rg; omega) (by unfold rg; omega) (fun w38 => ?_) (fun w39 => ?_)
    · refine y_aload_n rfl rfl ?_
      refine y_gfr rfl rfl rfl rfl rfl (hHU4.r 904 82 952 rfl) ?_
      refine y_iload_n rfl rfl ?_
      refine y_ialoadP (n := 1700) rfl rfl (by unfold rg; omega) (fun w40 w41 => ?_)
      have w42 : (Xi U4 952 ((i).toNat)) = (Xi S 952 ((i).toNat)) := (show Xi U4 952 ((i).toNat) = Xi T3 952 ((i).toNat) from by rw [eU4]; exact Xi_ne (by omega)).trans ( (show Xi T3 952 ((i).toNat) = Xi U2 952 ((i).toNat) from w31.x _ _ rfl).trans ( (show Xi U2 952 ((i).toNat) = Xi U1 952 ((i).toNat) from by rw [eU2]; exact Xi_ne (by omega)).trans ((show Xi U1 952 ((i).toNat) = Xi S 952 ((i).toNat) from by rw [eU1]; exact Xi_ne (by omega)))))
      rw [w42]
      refine y_iconst rfl ?_
      refine y_icmp_ne rfl rfl (by unfold rg; omega) (by unfold rg; omega) (fun w43 => ?_) (fun w44 => ?_)
      · refine y_aload_n rfl rfl ?_
        refine y_aload_n rfl rfl ?_
        refine y_gfr rfl rfl rfl rfl rfl (hHU4.r 904 86 956 rfl) ?_
        refine y_iload_n rfl rfl ?_
        refine y_ialoadP (n := 1700) rfl rfl (by unfold rg; omega) (fun w45 w46 => ?_)
        have w47 : -2147483648 ≤ (Xi U4 956 ((i).toNat)) ∧ (Xi U4 956 ((i).toNat)) ≤ 2147483647 := Xi_rgI
        have a334 : (Xi U4 956 ((i).toNat)) = Xi S 956 i.toNat := (hFU4.cx 956 rfl _).1
        have m334 : z30 = mT1 S i := M107.1
        refine y_iload rfl rfl ?_
        have w48 : Xi U4 904 115 = Xi S 904 115 := (show Xi U4 904 115 = Xi T3 904 115 from by rw [eU4]; exact Xi_ne (by omega)).trans ( (show Xi T3 904 115 = Xi U2 904 115 from w31.x _ _ rfl).trans ( (show Xi U2 904 115 = Xi U1 904 115 from by rw [eU2]; exact Xi_ne (by omega)).trans ((show Xi U1 904 115 = Xi S 904 115 from by rw [eU1]; exact Xi_ne (by omega)))))
        have w49 : Xi U4 904 116 = Xi S 904 116 := (show Xi U4 904 116 = Xi T3 904 116 from by rw [eU4]; exact Xi_ne (by omega)).trans ( (show Xi T3 904 116 = Xi U2 904 116 from w31.x _ _ rfl).trans ( (show Xi U2 904 116 = Xi U1 904 116 from by rw [eU2]; exact Xi_ne (by omega)).trans ((show Xi U1 904 116 = Xi S 904 116 from by rw [eU1]; exact Xi_ne (by omega)))))
        have w50 : Xi U4 904 15 = Xi S 904 15 := (show Xi U4 904 15 = Xi T3 904 15 from by rw [eU4]; exact Xi_ne (by omega)).trans ( (show Xi T3 904 15 = Xi U2 904 15 from w31.x _ _ rfl).trans ( (show Xi U2 904 15 = Xi U1 904 15 from by rw [eU2]; exact Xi_ne (by omega)).trans ((show Xi U1 904 15 = Xi S 904 15 from by rw [eU1]; exact Xi_ne (by omega)))))
        refine y_callV rfl rfl rfl (t_mo_propertyMeant__p hHU4 (Xi U4 956 ((i).toNat)) z30 ⟨by omega, by omega⟩ ⟨by omega, by omega⟩ (by first | assumption | exact (LSP_FR hFU4 rfl rfl (by assumption : LSP S))) (by first | assumption | omega) (by first | assumption | exact (RBD_FR hFU4 rfl (by assumption : RBD S))) (by first | assumption | exact (ABV_FR hFU4 rfl (by assumption : ABV S))) (fun j => by rw [hFU4.x 918 j rfl]; exact hkx.o j) (by first | assumption | omega) (by rw [rnR_sm (SMR_FR hFU4 rfl rfl), (hFU4.cx 956 rfl _).1]; exact hpx.o) _) ?_
        rintro _ T5 ⟨hHT5, w52, z51, rfl, w51, o337⟩
        have hFT5 : FR md_mo_testMeant__1k S T5 := FR.tr hFU4 w52 rfl
        show Pl _ _ _ _ _ _ [iv z51] _ _
        have F337 := (by assumption : FR md_mo_propertyMeant__p U4 T5)
        have M337 := pmo_F o337 hFU4 (SMR_FR hFU4 rfl rfl) rfl rfl rfl (hFU4.x 904 115 rfl) (hFU4.x 904 116 rfl) N119 a334 m334
        clear o337
        have N337 : NT3 T5 = nT2 S i := nT2_i M337.2.1 M337.2.2
        refine y_istore rfl rfl rfl ?_
        refine y_aload_n rfl rfl ?_
        refine y_gfr rfl rfl rfl rfl rfl (hHT5.r 904 121 972 rfl) ?_
        refine y_iload_n rfl rfl ?_
        refine y_iload rfl rfl ?_
        refine y_iastoreP (n := 2400) rfl rfl (by unfold rg; omega) (fun w53 w54 => ?_)
        obtain ⟨U6, eU6⟩ : ∃ T : sS, T = uI T5 972 ((q).toNat) (Int32.ofInt z51) := ⟨_, rfl⟩
        rw [← eU6]
        have hHU6 : RI U6 := by rw [eU6]; exact RI_w hHT5
        have hFU6 : FR md_mo_testMeant__1k S U6 := by rw [eU6]; exact FR.wI hFT5 (mdf_i (r := (972, 973, 0, 100000)) (List.mem_of_getElem? (i := 8) rfl) (inR_i (by omega) (by omega) (by omega) (by omega)))
        have w55 : Xi U6 972 ((q).toNat) = z51 := by rw [eU6]; exact Xi_same (by unfold rg; omega)
        have e349 := eU6
        have N349 : NT3 U6 = nT2 S i := (NT3_FR (FR_e e349) rfl).trans N337
        have B349 : TMB S U6 i q := ⟨by rw [e349, Xi_ne (by omega), F337.x 969 _ rfl]; exact B119.1, by rw [e349, Xi_ne (by omega), F337.x 970 _ rfl]; exact B119.2.1, by rw [e349, Xi_ne (by omega), F337.x 971 _ rfl]; exact B119.2.2⟩
        have P349 : Xi U6 972 q.toNat = pT0 S i := by rw [e349]; exact (Xi_same (by unfold rg; omega)).trans M337.1
        refine y_iload rfl rfl ?_
        refine y_iconst rfl ?_
        refine y_icmp_eq rfl rfl (by unfold rg; omega) (by unfold rg; omega) (fun w56 => ?_) (fun w57 => ?_)
        · refine y_aload_n rfl rfl ?_
          refine y_gfr rfl rfl rfl rfl rfl (hHU6.r 904 82 952 rfl) ?_
          refine y_iload_n rfl rfl ?_
          refine y_ialoadP (n := 1700) rfl rfl (by unfold rg; omega) (fun w58 w59 => ?_)
          have w60 : (Xi U6 952 ((i).toNat)) = (Xi S 952 ((i).toNat)) := (show Xi U6 952 ((i).toNat) = Xi T5 952 ((i).toNat) from by rw [eU6]; exact Xi_ne (by omega)).trans ( (show Xi T5 952 ((i).toNat) = Xi U4 952 ((i).toNat) from w52.x _ _ rfl).trans ( (show Xi U4 952 ((i).toNat) = Xi T3 952 ((i).toNat) from by rw [eU4]; exact Xi_ne (by omega)).trans ( (show Xi T3 952 ((i).toNat) = Xi U2 952 ((i).toNat) from w31.x _ _ rfl).trans ( (show Xi U2 952 ((i).toNat) = Xi U1 952 ((i).toNat) from by rw [eU2]; exact Xi_ne (by omega)).trans ((show Xi U1 952 ((i).toNat) = Xi S 952 ((i).toNat) from by rw [eU1]; exact Xi_ne (by omega)))))))
          rw [w60]
          refine y_if_eq rfl rfl (by unfold rg; omega) (fun w61 => ?_) (fun w62 => ?_)
          · refine y_return rfl rfl ?_
            exact ⟨hHU6, hFU6, rfl, (by first | exact ⟨⟨by rw [e428, Xi_ne (by omega), F408.x 969 _ rfl]; exact B349.1, by rw [e428, Xi_ne (by omega), F408.x 970 _ rfl]; exact B349.2.1, by rw [e428, Xi_ne (by omega), F408.x 971 _ rfl]; exact B349.2.2⟩, by rw [e428, Xi_ne (by omega), F408.x 972 _ rfl]; exact P349, by rw [e428]; exact (Xi_same (by unfold rg; omega)).trans v427, fun w => (NT3_FR (FR_e e428) rfl).trans (M408.1 w), fun w => (NT3_FR (FR_e e428) rfl).trans (M408.2 w)⟩ | (exfalso; omega)), ((KQ.w (KQ_FR w52 rfl (KQ.w (KQ_FR w31 rfl (KQ.w (KQ.w KQ.rf eU1 (by omega)) eU2 (by omega))) eU4 (by omega))) eU6 (by omega)))⟩
          · refine y_aload_n rfl rfl ?_
            refine y_aload_n rfl rfl ?_
            refine y_gfr rfl rfl rfl rfl rfl (hHU6.r 904 86 956 rfl) ?_
            refine y_iload_n rfl rfl ?_
            refine y_ialoadP (n := 1700) rfl rfl (by unfold rg; omega) (fun w66 w67 => ?_)
            have w68 : (Xi U6 956 ((i).toNat)) = (Xi U4 956 ((i).toNat)) := (show Xi U6 956 ((i).toNat) = Xi T5 956 ((i).toNat) from by rw [eU6]; exact Xi_ne (by omega)).trans ((show Xi T5 956 ((i).toNat) = Xi U4 956 ((i).toNat) from w52.x _ _ rfl))
            rw [w68]
            have a407 : (Xi U4 956 ((i).toNat)) = Xi S 956 i.toNat := by first | exact (hFU6.cx 956 rfl _).1 | exact a334
            have w71 : Xi U6 904 15 = Xi S 904 15 := (show Xi U6 904 15 = Xi T5 904 15 from by rw [eU6]; exact Xi_ne (by omega)).trans ( (show Xi T5 904 15 = Xi U4 904 15 from w52.x _ _ rfl).trans ( (show Xi U4 904 15 = Xi T3 904 15 from by rw [eU4]; exact Xi_ne (by omega)).trans ( (show Xi T3 904 15 = Xi U2 904 15 from w31.x _ _ rfl).trans ( (show Xi U2 904 15 = Xi U1 904 15 from by rw [eU2]; exact Xi_ne (by omega)).trans ((show Xi U1 904 15 = Xi S 904 15 from by rw [eU1]; exact Xi_ne (by omega)))))))
            refine y_callV rfl rfl rfl (t_mo_numberMeant__p hHU6 (Xi U4 956 ((i).toNat)) ⟨by omega, by omega⟩ (by first | assumption | exact (LSP_FR hFU6 rfl rfl (by assumption : LSP S))) (by first | assumption | omega) (by first | assumption | exact (RBD_FR hFU6 rfl (by assumption : RBD S))) _) ?_
            rintro _ T7 ⟨hHT7, w73, rfl, o408⟩
            have hFT7 : FR md_mo_testMeant__1k S T7 := FR.tr hFU6 w73 rfl
            show Pl _ _ _ _ _ _ [] _ _
            have F408 := (by assumption : FR md_mo_numberMeant__p U6 T7)
            have M408 := nmo_F o408 hFU6 (SMR_FR hFU6 rfl rfl) rfl N349 a407
            clear o408
            refine y_aload_n rfl rfl ?_
            refine y_gfr rfl rfl rfl rfl rfl (hHT7.r 904 122 973 rfl) ?_
            refine y_iload_n rfl rfl ?_
            refine y_aload_n rfl rfl ?_
            refine y_gfr rfl rfl rfl rfl rfl (hHT7.r 904 7 910 rfl) ?_
            refine y_aload_n rfl rfl ?_
            refine y_gfr rfl rfl rfl rfl rfl (hHT7.r 904 87 957 rfl) ?_
            refine y_iload_n rfl rfl ?_
            refine y_ialoadP (n := 1700) rfl rfl (by unfold rg; omega) (fun w74 w75 => ?_)
            have w76 : -2147483648 ≤ (Xi T7 957 ((i).toNat)) ∧ (Xi T7 957 ((i).toNat)) ≤ 2147483647 := Xi_rgI
            have a425 : (Xi T7 957 ((i).toNat)) = Xi S 957 i.toNat := (hFT7.cx 957 rfl _).1
            refine y_laloadP (n := 5002) rfl rfl (by unfold rg; omega) (fun w77 w78 => ?_)
            have w79 : -9223372036854775808 ≤ (Xj T7 910 (((Xi T7 957 ((i).toNat))).toNat)) ∧ (Xj T7 910 (((Xi T7 957 ((i).toNat))).toNat)) < 9223372036854775808 := Xj_rg
            have j426 : (Xj T7 910 (((Xi T7 957 ((i).toNat))).toNat)) = Xj S 910 (Xi S 957 i.toNat).toNat := by rw [(hFT7.cx 910 rfl _).2, a425]
            refine y_l2i rfl (fun c80 w80r w80 => ?_)
            unfold rg rgL at *
            have v427 : c80 = Xj S 910 (Xi S 957 i.toNat).toNat := by omega
            refine y_iastoreP (n := 2400) rfl rfl (by unfold rg; omega) (fun w81 w82 => ?_)
            obtain ⟨U8, eU8⟩ : ∃ T : sS, T = uI T7 973 ((q).toNat) (Int32.ofInt c80) := ⟨_, rfl⟩
            rw [← eU8]
            have hHU8 : RI U8 := by rw [eU8]; exact RI_w hHT7
            have hFU8 : FR md_mo_testMeant__1k S U8 := by rw [eU8]; exact FR.wI hFT7 (mdf_i (r := (973, 974, 0, 100000)) (List.mem_of_getElem? (i := 9) rfl) (inR_i (by omega) (by omega) (by omega) (by omega)))
            have w83 : Xi U8 973 ((q).toNat) = c80 := by rw [eU8]; exact Xi_same (by unfold rg; omega)
            have e428 := eU8
            refine y_return rfl rfl ?_
            exact ⟨hHU8, hFU8, rfl, (by first | exact ⟨⟨by rw [e428, Xi_ne (by omega), F408.x 969 _ rfl]; exact B349.1, by rw [e428, Xi_ne (by omega), F408.x 970 _ rfl]; exact B349.2.1, by rw [e428, Xi_ne (by omega), F408.x 971 _ rfl]; exact B349.2.2⟩, by rw [e428, Xi_ne (by omega), F408.x 972 _ rfl]; exact P349, by rw [e428]; exact (Xi_same (by unfold rg; omega)).trans v427, fun w => (NT3_FR (FR_e e428) rfl).trans (M408.1 w), fun w => (NT3_FR (FR_e e428) rfl).trans (M408.2 w)⟩ | (exfalso; omega)), ((KQ.w (KQ_FR w73 rfl (KQ.w (KQ_FR w52 rfl (KQ.w (KQ_FR w31 rfl (KQ.w (KQ.w KQ.rf eU1 (by omega)) eU2 (by omega))) eU4 (by omega))) eU6 (by omega))) eU8 (by omega)))⟩
        · refine y_aload_n rfl rfl ?_
          refine y_gfr rfl rfl rfl rfl rfl (hHU6.r 904 82 952 rfl) ?_
          refine y_iload_n rfl rfl ?_
          refine y_ialoadP (n := 1700) rfl rfl (by unfold rg; omega) (fun w87 w88 => ?_)
          have w89 : (Xi U6 952 ((i).toNat)) = (Xi S 952 ((i).toNat)) := (show Xi U6 952 ((i).toNat) = Xi T5 952 ((i).toNat) from by rw [eU6]; exact Xi_ne (by omega)).trans ( (show Xi T5 952 ((i).toNat) = Xi U4 952 ((i).toNat) from w52.x _ _ rfl).trans ( (show Xi U4 952 ((i).toNat) = Xi T3 952 ((i).toNat) from by rw [eU4]; exact Xi_ne (by omega)).trans ( (show Xi T3 952 ((i).toNat) = Xi U2 952 ((i).toNat) from w31.x _ _ rfl).trans ( (show Xi U2 952 ((i).toNat) = Xi U1 952 ((i).toNat) from by rw [eU2]; exact Xi_ne (by omega)).trans ((show Xi U1 952 ((i).toNat) = Xi S 952 ((i).toNat) from by rw [eU1]; exact Xi_ne (by omega)))))))
          rw [w89]
          refine y_if_ne rfl rfl (by unfold rg; omega) (fun w90 => ?_) (fun w91 => ?_)
          · refine y_aload_n rfl rfl ?_
            refine y_gfr rfl rfl rfl rfl rfl (hHU6.r 904 82 952 rfl) ?_
            refine y_iload_n rfl rfl ?_
            refine y_ialoadP (n := 1700) rfl rfl (by unfold rg; omega) (fun w92 w93 => ?_)
            have w94 : (Xi U6 952 ((i).toNat)) = (Xi S 952 ((i).toNat)) := (show Xi U6 952 ((i).toNat) = Xi T5 952 ((i).toNat) from by rw [eU6]; exact Xi_ne (by omega)).trans ( (show Xi T5 952 ((i).toNat) = Xi U4 952 ((i).toNat) from w52.x _ _ rfl).trans ( (show Xi U4 952 ((i).toNat) = Xi T3 952 ((i).toNat) from by rw [eU4]; exact Xi_ne (by omega)).trans ( (show Xi T3 952 ((i).toNat) = Xi U2 952 ((i).toNat) from w31.x _ _ rfl).trans ( (show Xi U2 952 ((i).toNat) = Xi U1 952 ((i).toNat) from by rw [eU2]; exact Xi_ne (by omega)).trans ((show Xi U1 952 ((i).toNat) = Xi S 952 ((i).toNat) from by rw [eU1]; exact Xi_ne (by omega)))))))
            rw [w94]
            refine y_if_eq rfl rfl (by unfold rg; omega) (fun w95 => ?_) (fun w96 => ?_)
            · refine y_return rfl rfl ?_
              exact ⟨hHU6, hFU6, rfl, (by first | exact ⟨⟨by rw [e428, Xi_ne (by omega), F408.x 969 _ rfl]; exact B349.1, by rw [e428, Xi_ne (by omega), F408.x 970 _ rfl]; exact B349.2.1, by rw [e428, Xi_ne (by omega), F408.x 971 _ rfl]; exact B349.2.2⟩, by rw [e428, Xi_ne (by omega), F408.x 972 _ rfl]; exact P349, by rw [e428]; exact (Xi_same (by unfold rg; omega)).trans v427, fun w => (NT3_FR (FR_e e428) rfl).trans (M408.1 w), fun w => (NT3_FR (FR_e e428) rfl).trans (M408.2 w)⟩ | (exfalso; omega)), ((KQ.w (KQ_FR w52 rfl (KQ.w (KQ_FR w31 rfl (KQ.w (KQ.w KQ.rf eU1 (by omega)) eU2 (by omega))) eU4 (by omega))) eU6 (by omega)))⟩
            · refine y_aload_n rfl rfl ?_
              refine y_aload_n rfl rfl ?_
              refine y_gfr rfl rfl rfl rfl rfl (hHU6.r 904 86 956 rfl) ?_
              refine y_iload_n rfl rfl ?_
              refine y_ialoadP (n := 1700) rfl rfl (by unfold rg; omega) (fun w100 w101 => ?_)
              have w102 : (Xi U6 956 ((i).toNat)) = (Xi U4 956 ((i).toNat)) := (show Xi U6 956 ((i).toNat) = Xi T5 956 ((i).toNat) from by rw [eU6]; exact Xi_ne (by omega)).trans ((show Xi T5 956 ((i).toNat) = Xi U4 956 ((i).toNat) from w52.x _ _ rfl))
              rw [w102]
              have a407 : (Xi U4 956 ((i).toNat)) = Xi S 956 i.toNat := by first | exact (hFU6.cx 956 rfl _).1 | exact a334
              have w105 : Xi U6 904 15 = Xi S 904 15 := (show Xi U6 904 15 = Xi T5 904 15 from by rw [eU6]; exact Xi_ne (by omega)).trans ( (show Xi T5 904 15 = Xi U4 904 15 from w52.x _ _ rfl).trans ( (show Xi U4 904 15 = Xi T3 904 15 from by rw [eU4]; exact Xi_ne (by omega)).trans ( (show Xi T3 904 15 = Xi U2 904 15 from w31.x _ _ rfl).trans ( (show Xi U2 904 15 = Xi U1 904 15 from by rw [eU2]; exact Xi_ne (by omega)).trans ((show Xi U1 904 15 = Xi S 904 15 from by rw [eU1]; exact Xi_ne (by omega)))))))
              refine y_callV rfl rfl rfl (t_mo_numberMeant__p hHU6 (Xi U4 956 ((i).toNat)) ⟨by omega, by omega⟩ (by first | assumption | exact (LSP_FR hFU6 rfl rfl (by assumption : LSP S))) (by first | assumption | omega) (by first | assumption | exact (RBD_FR hFU6 rfl (by assumption : RBD S))) _) ?_
              rintro _ T9 ⟨hHT9, w107, rfl, o408⟩
              have hFT9 : FR md_mo_testMeant__1k S T9 := FR.tr hFU6 w107 rfl
              show Pl _ _ _ _ _ _ [] _ _
              have F408 := (by assumption : FR md_mo_numberMeant__p U6 T9)
              have M408 := nmo_F o408 hFU6 (SMR_FR hFU6 rfl rfl) rfl N349 a407
              clear o408
              refine y_aload_n rfl rfl ?_
              refine y_gfr rfl rfl rfl rfl rfl (hHT9.r 904 122 973 rfl) ?_
              refine y_iload_n rfl rfl ?_
              refine y_aload_n rfl rfl ?_
              refine y_gfr rfl rfl rfl rfl rfl (hHT9.r 904 7 910 rfl) ?_
              refine y_aload_n rfl rfl ?_
              refine y_gfr rfl rfl rfl rfl rfl (hHT9.r 904 87 957 rfl) ?_
              refine y_iload_n rfl rfl ?_
              refine y_ialoadP (n := 1700) rfl rfl (by unfold rg; omega) (fun w108 w109 => ?_)
              have w110 : -2147483648 ≤ (Xi T9 957 ((i).toNat)) ∧ (Xi T9 957 ((i).toNat)) ≤ 2147483647 := Xi_rgI
              have a425 : (Xi T9 957 ((i).toNat)) = Xi S 957 i.toNat := (hFT9.cx 957 rfl _).1
              refine y_laloadP (n := 5002) rfl rfl (by unfold rg; omega) (fun w111 w112 => ?_)
              have w113 : -9223372036854775808 ≤ (Xj T9 910 (((Xi T9 957 ((i).toNat))).toNat)) ∧ (Xj T9 910 (((Xi T9 957 ((i).toNat))).toNat)) < 9223372036854775808 := Xj_rg
              have j426 : (Xj T9 910 (((Xi T9 957 ((i).toNat))).toNat)) = Xj S 910 (Xi S 957 i.toNat).toNat := by rw [(hFT9.cx 910 rfl _).2, a425]
              refine y_l2i rfl (fun c114 w114r w114 => ?_)
              unfold rg rgL at *
              have v427 : c114 = Xj S 910 (Xi S 957 i.toNat).toNat := by omega
              refine y_iastoreP (n := 2400) rfl rfl (by unfold rg; omega) (fun w115 w116 => ?_)
              obtain ⟨U10, eU10⟩ : ∃ T : sS, T = uI T9 973 ((q).toNat) (Int32.ofInt c114) := ⟨_, rfl⟩
              rw [← eU10]
              have hHU10 : RI U10 := by rw [eU10]; exact RI_w hHT9
              have hFU10 : FR md_mo_testMeant__1k S U10 := by rw [eU10]; exact FR.wI hFT9 (mdf_i (r := (973, 974, 0, 100000)) (List.mem_of_getElem? (i := 9) rfl) (inR_i (by omega) (by omega) (by omega) (by omega)))
              have w117 : Xi U10 973 ((q).toNat) = c114 := by rw [eU10]; exact Xi_same (by unfold rg; omega)
              have e428 := eU10
              refine y_return rfl rfl ?_
              exact ⟨hHU10, hFU10, rfl, (by first | exact ⟨⟨by rw [e428, Xi_ne (by omega), F408.x 969 _ rfl]; exact B349.1, by rw [e428, Xi_ne (by omega), F408.x 970 _ rfl]; exact B349.2.1, by rw [e428, Xi_ne (by omega), F408.x 971 _ rfl]; exact B349.2.2⟩, by rw [e428, Xi_ne (by omega), F408.x 972 _ rfl]; exact P349, by rw [e428]; exact (Xi_same (by unfold rg; omega)).trans v427, fun w => (NT3_FR (FR_e e428) rfl).trans (M408.1 w), fun w => (NT3_FR (FR_e e428) rfl).trans (M408.2 w)⟩ | (exfalso; omega)), ((KQ.w (KQ_FR w107 rfl (KQ.w (KQ_FR w52 rfl (KQ.w (KQ_FR w31 rfl (KQ.w (KQ.w KQ.rf eU1 (by omega)) eU2 (by omega))) eU4 (by omega))) eU6 (by omega))) eU10 (by omega)))⟩
          · exfalso; omega
      · exfalso; omega
    · exfalso; omega
  · exfalso; omega
def md_mo_testMeant__3k : List rec := [(904, 905, 64, 65), (904, 905, 104, 105), (904, 905, 105, 106), (904, 905, 106, 107), (904, 905, 113, 114), (969, 970, 0, 100000), (970, 971, 0, 100000), (971, 972, 0, 100000), (972, 973, 0, 100000), (973, 974, 0, 100000), (974, 975, 0, 100000), (975, 976, 0, 100000)]
abbrev Q_mo_testMeant__3k (S : sS) (i : Int) (q : Int) (isNow : Int) : pst := fun r S1 => RI S1 ∧ FR md_mo_testMeant__3k S S1 ∧ (r = none ∧ (TM3 S S1 i q isNow) ∧ (KQ S1 S q))
set_option maxRecDepth 100000 in
theorem t_mo_testMeant__3k {S : sS} (hH : RI S) (i : Int) (q : Int) (isNow : Int) (hi : 0 ≤ i ∧ i ≤ 1699) (hq : 0 ≤ q ∧ q ≤ 2399) (hisNow : 0 ≤ isNow ∧ isNow ≤ 1) (hLS : LSP S) (h15 : 0 ≤ Xi S 904 15) (hRB : RBD S) (hB : ABV S) (hkx : Hid (∀ j : Nat, -1 ≤ Xi S 918 j ∧ Xi S 918 j ≤ 15)) (hit : (-1 ≤ Xi S 904 115 ∧ Xi S 904 115 ≤ 15) ∧ (-1 ≤ Xi S 904 116 ∧ Xi S 904 116 ≤ 15)) (hLX : LXR S) (hp32 : 0 ≤ Xi S 904 32 ∧ Xi S 904 32 ≤ 12) (hfm : Xi S 952 i.toNat = 3) (hnt : 0 ≤ Xi S 953 i.toNat ∧ Xi S 953 i.toNat ≤ 1) (htd : 0 ≤ Xi S 954 i.toNat ∧ Xi S 954 i.toNat ≤ 29999) (hrf : 0 ≤ Xi S 950 (rT3 S i).toNat ∧ Xi S 950 (rT3 S i).toNat ≤ 6000) (d : Nat) : Mp lay0 (d + 7) m_mo_testMeant [.ref 904, iv i, iv q, iv isNow] S (Q_mo_testMeant__3k S i q isNow) := by
  refine Mp_R rfl rfl (fun fu => ?_)
  have hF : FR md_mo_testMeant__3k S S := FR.rf
  have w1 : -2147483648 ≤ Xi S 904 113 ∧ Xi S 904 113 ≤ 2147483647 := Xi_rgI
  have w2 : -2147483648 ≤ Xi S 904 115 ∧ Xi S 904 115 ≤ 2147483647 := Xi_rgI
  have w3 : -2147483648 ≤ Xi S 904 116 ∧ Xi S 904 116 ≤ 2147483647 := Xi_rgI
  have w4 : -2147483648 ≤ Xi S 904 15 ∧ Xi S 904 15 ≤ 2147483647 := Xi_rgI
  have w5 : -2147483648 ≤ Xi S 904 32 ∧ Xi S 904 32 ≤ 2147483647 := Xi_rgI
  have C209 : ∀  (T1 : sS) (_ : RI T1) (_ : FR md_mo_testMeant__3k S T1) (v5 : Int) (v6 : Int), (-2147483648 ≤ v5 ∧ v5 ≤ 2147483647) → (-2147483648 ≤ v6 ∧ v6 ≤ 2147483647) → (v5 = rT3 S i) → (v6 = (aT3 S i isNow)) → (mT1 S i ≠ -9) → (Hid (0 < (aT3 S i isNow) → Xi T1 904 113 = cT3 S i isNow)) → (NT3 T1 = nT1 S i) → (Hid (TMB S T1 i q)) → (KQ T1 S q) → Pl fu lay0 (d + 6) m_mo_testMeant 209 [(0, .ref 904), (2, iv q), (5, iv v5), (6, iv v6)] [] T1 (Q_mo_testMeant__3k S i q isNow) := by
    intro T1 hHT1 hFT1 v5 v6 w6 w7 r209 V209 q209 c209 N209 B209 KQ209
    have w8 : Xi T1 904 115 = Xi S 904 115 := hFT1.x _ _ rfl
    have w9 : Xi T1 904 116 = Xi S 904 116 := hFT1.x _ _ rfl
    have w10 : Xi T1 904 15 = Xi S 904 15 := hFT1.x _ _ rfl
    have w11 : Xi T1 904 19 = Xi S 904 19 := hFT1.x _ _ rfl
    have w12 : Xi T1 904 32 = Xi S 904 32 := hFT1.x _ _ rfl
    have w13 : Xi T1 904 69 = Xi S 904 69 := hFT1.x _ _ rfl
    have w14 : -2147483648 ≤ Xi T1 904 113 ∧ Xi T1 904 113 ≤ 2147483647 := Xi_rgI
    have w15 : -2147483648 ≤ Xi T1 904 115 ∧ Xi T1 904 115 ≤ 2147483647 := Xi_rgI
    have w16 : -2147483648 ≤ Xi T1 904 116 ∧ Xi T1 904 116 ≤ 2147483647 := Xi_rgI
    have w17 : -2147483648 ≤ Xi T1 904 15 ∧ Xi T1 904 15 ≤ 2147483647 := Xi_rgI
    have w18 : -2147483648 ≤ Xi T1 904 32 ∧ Xi T1 904 32 ≤ 2147483647 := Xi_rgI
    refine y_aload_n rfl rfl ?_
    refine y_iload rfl rfl ?_
    refine y_if_le rfl rfl (by unfold rg; omega) (fun w19 => ?_) (fun w20 => ?_)
    · refine y_iconst rfl ?_
      refine y_iconst rfl ?_
      refine y_aload_n rfl rfl ?_
      refine y_gfr rfl rfl rfl rfl rfl (hHT1.r 904 67 950 rfl) ?_
      refine y_iload rfl rfl ?_
      refine y_ialoadP (n := 2600) rfl rfl (by unfold rg; omega) (fun w21 w22 => ?_)
      have w23 : -2147483648 ≤ (Xi T1 950 ((v5).toNat)) ∧ (Xi T1 950 ((v5).toNat)) ≤ 2147483647 := Xi_rgI
      have f227 : (Xi T1 950 ((v5).toNat)) = Xi S 950 (rT3 S i).toNat := by rw [(hFT1.cx 950 rfl _).1, r209]
      refine y_callV rfl rfl rfl (t_mo_need__p hHT1 0 4 (Xi T1 950 ((v5).toNat)) ⟨by omega, by omega⟩ ⟨by omega, by omega⟩ ⟨by omega, by omega⟩ _) ?_
      rintro _ T2 ⟨hHT2, w25, rfl, nt228⟩
      have hFT2 : FR md_mo_testMeant__3k S T2 := FR.tr hFT1 w25 rfl
      show Pl _ _ _ _ _ _ [] _ _
      have F228 := (by assumption : FR md_mo_need__p T1 T2)
      have N228 : NT3 T2 = (if 0 < (aT3 S i isNow) then nT1 S i else ntF (nT1 S i) 4 (pR S (rT3 S i))) := by have t := nt228; rw [N209, show Xi T1 908 _ = (pR S (rT3 S i)) from (by rw [(hFT1.cx 908 rfl _).1, f227]; rfl)] at t; first | (rw [if_pos (show 0 < (aT3 S i isNow) by omega)]; rw [if_neg (show ¬ (1 : Int) = 0 by decide)] at t; exact t) | (rw [if_neg (show ¬ 0 < (aT3 S i isNow) by omega)]; rw [if_pos (show (0 : Int) = 0 from rfl)] at t; exact t)
      refine y_aload_n rfl rfl ?_
      refine y_iload rfl rfl ?_
      refine y_iconst rfl ?_
      refine y_icmp_ge rfl rfl (by unfold rg; omega) (by unfold rg; omega) (fun w26 => ?_) (fun w27 => ?_)
      · refine y_iconst rfl ?_
        refine y_bipush rfl rfl ?_
        refine y_aload_n rfl rfl ?_
        refine y_gfr rfl rfl rfl rfl rfl (hHT2.r 904 67 950 rfl) ?_
        refine y_iload rfl rfl ?_
        refine y_ialoadP (n := 2600) rfl rfl (by unfold rg; omega) (fun w28 w29 => ?_)
        have w30 : (Xi T2 950 ((v5).toNat)) = (Xi T1 950 ((v5).toNat)) := (show Xi T2 950 ((v5).toNat) = Xi T1 950 ((v5).toNat) from w25.x _ _ rfl)
        rw [w30]
        have f251 : (Xi T1 950 ((v5).toNat)) = Xi S 950 (rT3 S i).toNat := by first | exact f227 | (rw [(hFT2.cx 950 rfl _).1, r209])
        refine y_callV rfl rfl rfl (t_mo_need__p hHT2 0 7 (Xi T1 950 ((v5).toNat)) ⟨by omega, by omega⟩ ⟨by omega, by omega⟩ ⟨by omega, by omega⟩ _) ?_
        rintro _ T3 ⟨hHT3, w37, rfl, nt252⟩
        have hFT3 : FR md_mo_testMeant__3k S T3 := FR.tr hFT2 w37 rfl
        show Pl _ _ _ _ _ _ [] _ _
        have F252 := (by assumption : FR md_mo_need__p T2 T3)
        have N252 : NT3 T3 = (if (aT3 S i isNow) < 2 then (if 0 < (aT3 S i isNow) then nT1 S i else ntF (nT1 S i) 4 (pR S (rT3 S i))) else ntF (if 0 < (aT3 S i isNow) then nT1 S i else ntF (nT1 S i) 4 (pR S (rT3 S i))) 7 (pR S (rT3 S i))) := by have t := nt252; rw [N228, show Xi T2 908 _ = (pR S (rT3 S i)) from (by rw [(hFT2.cx 908 rfl _).1, f251]; rfl)] at t; first | (rw [if_pos (show (aT3 S i isNow) < 2 by omega)]; rw [if_neg (show ¬ (1 : Int) = 0 by decide)] at t; exact t) | (rw [if_neg (show ¬ (aT3 S i isNow) < 2 by omega)]; rw [if_pos (show (0 : Int) = 0 from rfl)] at t; exact t)
        refine y_aload_n rfl rfl ?_
        refine y_gfr rfl rfl rfl rfl rfl (hHT3.r 904 122 973 rfl) ?_
        refine y_iload_n rfl rfl ?_
        refine y_iload rfl rfl ?_
        refine y_if_le rfl rfl (by unfold rg; omega) (fun w38 => ?_) (fun w39 => ?_)
        · refine y_iconst rfl ?_
          refine y_iastoreP (n := 2400) rfl rfl (by unfold rg; omega) (fun w40 w41 => ?_)
          obtain ⟨U4, eU4⟩ : ∃ T : sS, T = uI T3 973 ((q).toNat) (Int32.ofInt 0) := ⟨_, rfl⟩
          rw [← eU4]
          have hHU4 : RI U4 := by rw [eU4]; exact RI_w hHT3
          have hFU4 : FR md_mo_testMeant__3k S U4 := by rw [eU4]; exact FR.wI hFT3 (mdf_i (r := (973, 974, 0, 100000)) (List.mem_of_getElem? (i := 9) rfl) (inR_i (by omega) (by omega) (by omega) (by omega)))
          have w42 : Xi U4 973 ((q).toNat) = 0 := by rw [eU4]; exact Xi_same (by unfold rg; omega)
          have e273 := eU4
          refine y_goto rfl rfl ?_
          refine y_return rfl rfl ?_
          have w43 : Xi U4 904 113 = Xi T1 904 113 := (show Xi U4 904 113 = Xi T3 904 113 from by rw [eU4]; exact Xi_ne (by omega)).trans ( (show Xi T3 904 113 = Xi T2 904 113 from w37.x _ _ rfl).trans ((show Xi T2 904 113 = Xi T1 904 113 from w25.x _ _ rfl)))
          have w44 : Xi U4 904 115 = Xi T1 904 115 := (show Xi U4 904 115 = Xi T3 904 115 from by rw [eU4]; exact Xi_ne (by omega)).trans ( (show Xi T3 904 115 = Xi T2 904 115 from w37.x _ _ rfl).trans ((show Xi T2 904 115 = Xi T1 904 115 from w25.x _ _ rfl)))
          have w45 : Xi U4 904 116 = Xi T1 904 116 := (show Xi U4 904 116 = Xi T3 904 116 from by rw [eU4]; exact Xi_ne (by omega)).trans ( (show Xi T3 904 116 = Xi T2 904 116 from w37.x _ _ rfl).trans ((show Xi T2 904 116 = Xi T1 904 116 from w25.x _ _ rfl)))
          have w46 : Xi U4 904 15 = Xi T1 904 15 := (show Xi U4 904 15 = Xi T3 904 15 from by rw [eU4]; exact Xi_ne (by omega)).trans ( (show Xi T3 904 15 = Xi T2 904 15 from w37.x _ _ rfl).trans ((show Xi T2 904 15 = Xi T1 904 15 from w25.x _ _ rfl)))
          have w47 : Xi U4 904 32 = Xi T1 904 32 := (show Xi U4 904 32 = Xi T3 904 32 from by rw [eU4]; exact Xi_ne (by omega)).trans ( (show Xi T3 904 32 = Xi T2 904 32 from w37.x _ _ rfl).trans ((show Xi T2 904 32 = Xi T1 904 32 from w25.x _ _ rfl)))
          exact ⟨hHU4, hFU4, rfl, (by first | (have u := e273; exact ⟨tmb_k B209.o (by rw [e273, Xi_ne (by omega), F252.x 969 _ rfl, F228.x 969 _ rfl]) (by rw [e273, Xi_ne (by omega), F252.x 970 _ rfl, F228.x 970 _ rfl]) (by rw [e273, Xi_ne (by omega), F252.x 971 _ rfl, F228.x 971 _ rfl]), fun w => absurd w q209, fun _ => ⟨(NT3_FR (FR_e e273) rfl).trans N252, fun w => by rw [e273]; first | exact (Xi_same (by unfold rg; omega)).trans (c209.o (by omega)) | exact (Xi_same (by unfold rg; omega)).trans ((F252.x 904 113 rfl).trans ((F228.x 904 113 rfl).trans (c209.o (by omega)))) | (exfalso; omega), fun w => by rw [e273]; first | exact Xi_same (by unfold rg; omega) | (exfalso; omega)⟩⟩) | exact ⟨B119, fun _ => N119, fun w => absurd (M107.1.symm.trans (by omega)) w⟩), ((KQ.w (KQ_FR w37 rfl (KQ_FR w25 rfl (by assumption : KQ T1 S _))) eU4 (by omega)))⟩
        · refine y_aload_n rfl rfl ?_
          refine y_gfi rfl rfl rfl rfl rfl ?_
          have w48 : (Xi T3 904 113) = (Xi T1 904 113) := (show Xi T3 904 113 = Xi T2 904 113 from w37.x _ _ rfl).trans ((show Xi T2 904 113 = Xi T1 904 113 from w25.x _ _ rfl))
          rw [w48]
          refine y_goto rfl rfl ?_
          refine y_iastoreP (n := 2400) rfl rfl (by unfold rg; omega) (fun w49 w50 => ?_)
          obtain ⟨U5, eU5⟩ : ∃ T : sS, T = uI T3 973 ((q).toNat) (Int32.ofInt (Xi T1 904 113)) := ⟨_, rfl⟩
          rw [← eU5]
          have hHU5 : RI U5 := by rw [eU5]; exact RI_w hHT3
          have hFU5 : FR md_mo_testMeant__3k S U5 := by rw [eU5]; exact FR.wI hFT3 (mdf_i (r := (973, 974, 0, 100000)) (List.mem_of_getElem? (i := 9) rfl) (inR_i (by omega) (by omega) (by omega) (by omega)))
          have w51 : Xi U5 973 ((q).toNat) = (Xi T1 904 113) := by rw [eU5]; exact Xi_same (by unfold rg; omega)
          have e273 := eU5
          refine y_goto rfl rfl ?_
          refine y_return rfl rfl ?_
          have w52 : Xi U5 904 113 = Xi T1 904 113 := (show Xi U5 904 113 = Xi T3 904 113 from by rw [eU5]; exact Xi_ne (by omega)).trans ( (show Xi T3 904 113 = Xi T2 904 113 from w37.x _ _ rfl).trans ((show Xi T2 904 113 = Xi T1 904 113 from w25.x _ _ rfl)))
          have w53 : Xi U5 904 115 = Xi T1 904 115 := (show Xi U5 904 115 = Xi T3 904 115 from by rw [eU5]; exact Xi_ne (by omega)).trans ( (show Xi T3 904 115 = Xi T2 904 115 from w37.x _ _ rfl).trans ((show Xi T2 904 115 = Xi T1 904 115 from w25.x _ _ rfl)))
          have w54 : Xi U5 904 116 = Xi T1 904 116 := (show Xi U5 904 116 = Xi T3 904 116 from by rw [eU5]; exact Xi_ne (by omega)).trans ( (show Xi T3 904 116 = Xi T2 904 116 from w37.x _ _ rfl).trans ((show Xi T2 904 116 = Xi T1 904 116 from w25.x _ _ rfl)))
          have w55 : Xi U5 904 15 = Xi T1 904 15 := (show Xi U5 904 15 = Xi T3 904 15 from by rw [eU5]; exact Xi_ne (by omega)).trans ( (show Xi T3 904 15 = Xi T2 904 15 from w37.x _ _ rfl).trans ((show Xi T2 904 15 = Xi T1 904 15 from w25.x _ _ rfl)))
          have w56 : Xi U5 904 32 = Xi T1 904 32 := (show Xi U5 904 32 = Xi T3 904 32 from by rw [eU5]; exact Xi_ne (by omega)).trans ( (show Xi T3 904 32 = Xi T2 904 32 from w37.x _ _ rfl).trans ((show Xi T2 904 32 = Xi T1 904 32 from w25.x _ _ rfl)))
          exact ⟨hHU5, hFU5, rfl, (by first | (have u := e273; exact ⟨tmb_k B209.o (by rw [e273, Xi_ne (by omega), F252.x 969 _ rfl, F228.x 969 _ rfl]) (by rw [e273, Xi_ne (by omega), F252.x 970 _ rfl, F228.x 970 _ rfl]) (by rw [e273, Xi_ne (by omega), F252.x 971 _ rfl, F228.x 971 _ rfl]), fun w => absurd w q209, fun _ => ⟨(NT3_FR (FR_e e273) rfl).trans N252, fun w => by rw [e273]; first | exact (Xi_same (by unfold rg; omega)).trans (c209.o (by omega)) | exact (Xi_same (by unfold rg; omega)).trans ((F252.x 904 113 rfl).trans ((F228.x 904 113 rfl).trans (c209.o (by omega)))) | (exfalso; omega), fun w => by rw [e273]; first | exact Xi_same (by unfold rg; omega) | (exfalso; omega)⟩⟩) | exact ⟨B119, fun _ => N119, fun w => absurd (M107.1.symm.trans (by omega)) w⟩), ((KQ.w (KQ_FR w37 rfl (KQ_FR w25 rfl (by assumption : KQ T1 S _))) eU5 (by omega)))⟩
      · refine y_iconst rfl ?_
        refine y_goto rfl rfl ?_
        refine y_bipush rfl rfl ?_
        refine y_aload_n rfl rfl ?_
        refine y_gfr rfl rfl rfl rfl rfl (hHT2.r 904 67 950 rfl) ?_
        refine y_iload rfl rfl ?_
        refine y_ialoadP (n := 2600) rfl rfl (by unfold rg; omega) (fun w57 w58 => ?_)
        have w59 : (Xi T2 950 ((v5).toNat)) = (Xi T1 950 ((v5).toNat)) := (show Xi T2 950 ((v5).toNat) = Xi T1 950 ((v5).toNat) from w25.x _ _ rfl)
        rw [w59]
        have f251 : (Xi T1 950 ((v5).toNat)) = Xi S 950 (rT3 S i).toNat := by first | exact f227 | (rw [(hFT2.cx 950 rfl _).1, r209])
        refine y_callV rfl rfl rfl (t_mo_need__p hHT2 1 7 (Xi T1 950 ((v5).toNat)) ⟨by omega, by omega⟩ ⟨by omega, by omega⟩ ⟨by omega, by omega⟩ _) ?_
        rintro _ T6 ⟨hHT6, w66, rfl, nt252⟩
        have hFT6 : FR md_mo_testMeant__3k S T6 := FR.tr hFT2 w66 rfl
        show Pl _ _ _ _ _ _ [] _ _
        have F252 := (by assumption : FR md_mo_need__p T2 T6)
        have N252 : NT3 T6 = (if (aT3 S i isNow) < 2 then (if 0 < (aT3 S i isNow) then nT1 S i else ntF (nT1 S i) 4 (pR S (rT3 S i))) else ntF (if 0 < (aT3 S i isNow) then nT1 S i else ntF (nT1 S i) 4 (pR S (rT3 S i))) 7 (pR S (rT3 S i))) := by have t := nt252; rw [N228, show Xi T2 908 _ = (pR S (rT3 S i)) from (by rw [(hFT2.cx 908 rfl _).1, f251]; rfl)] at t; first | (rw [if_pos (show (aT3 S i isNow) < 2 by omega)]; rw [if_neg (show ¬ (1 : Int) = 0 by decide)] at t; exact t) | (rw [if_neg (show ¬ (aT3 S i isNow) < 2 by omega)]; rw [if_pos (show (0 : Int) = 0 from rfl)] at t; exact t)
        refine y_aload_n rfl rfl ?_
        refine y_gfr rfl rfl rfl rfl rfl (hHT6.r 904 122 973 rfl) ?_
        refine y_iload_n rfl rfl ?_
        refine y_iload rfl rfl ?_
        refine y_if_le rfl rfl (by unfold rg; omega) (fun w67 => ?_) (fun w68 => ?_)
        · refine y_iconst rfl ?_
          refine y_iastoreP (n := 2400) rfl rfl (by unfold rg; omega) (fun w69 w70 => ?_)
          obtain ⟨U7, eU7⟩ : ∃ T : sS, T = uI T6 973 ((q).toNat) (Int32.ofInt 0) := ⟨_, rfl⟩
          rw [← eU7]
          have hHU7 : RI U7 := by rw [eU7]; exact RI_w hHT6
          have hFU7 : FR md_mo_testMeant__3k S U7 := by rw [eU7]; exact FR.wI hFT6 (mdf_i (r := (973, 974, 0, 100000)) (List.mem_of_getElem? (i := 9) rfl) (inR_i (by omega) (by omega) (by omega) (by omega)))
          have w71 : Xi U7 973 ((q).toNat) = 0 := by rw [eU7]; exact Xi_same (by unfold rg; omega)
          have e273 := eU7
          refine y_goto rfl rfl ?_
          refine y_return rfl rfl ?_
          have w72 : Xi U7 904 113 = Xi T1 904 113 := (show Xi U7 904 113 = Xi T6 904 113 from by rw [eU7]; exact Xi_ne (by omega)).trans ( (show Xi T6 904 113 = Xi T2 904 113 from w66.x _ _ rfl).trans ((show Xi T2 904 113 = Xi T1 904 113 from w25.x _ _ rfl)))
          have w73 : Xi U7 904 115 = Xi T1 904 115 := (show Xi U7 904 115 = Xi T6 904 115 from by rw [eU7]; exact Xi_ne (by omega)).trans ( (show Xi T6 904 115 = Xi T2 904 115 from w66.x _ _ rfl).trans ((show Xi T2 904 115 = Xi T1 904 115 from w25.x _ _ rfl)))
          have w74 : Xi U7 904 116 = Xi T1 904 116 := (show Xi U7 904 116 = Xi T6 904 116 from by rw [eU7]; exact Xi_ne (by omega)).trans ( (show Xi T6 904 116 = Xi T2 904 116 from w66.x _ _ rfl).trans ((show Xi T2 904 116 = Xi T1 904 116 from w25.x _ _ rfl)))
          have w75 : Xi U7 904 15 = Xi T1 904 15 := (show Xi U7 904 15 = Xi T6 904 15 from by rw [eU7]; exact Xi_ne (by omega)).trans ( (show Xi T6 904 15 = Xi T2 904 15 from w66.x _ _ rfl).trans ((show Xi T2 904 15 = Xi T1 904 15 from w25.x _ _ rfl)))
          have w76 : Xi U7 904 32 = Xi T1 904 32 := (show Xi U7 904 32 = Xi T6 904 32 from by rw [eU7]; exact Xi_ne (by omega)).trans ( (show Xi T6 904 32 = Xi T2 904 32 from w66.x _ _ rfl).trans ((show Xi T2 904 32 = Xi T1 904 32 from w25.x _ _ rfl)))
          exact ⟨hHU7, hFU7, rfl, (by first | (have u := e273; exact ⟨tmb_k B209.o (by rw [e273, Xi_ne (by omega), F252.x 969 _ rfl, F228.x 969 _ rfl]) (by rw [e273, Xi_ne (by omega), F252.x 970 _ rfl, F228.x 970 _ rfl]) (by rw [e273, Xi_ne (by omega), F252.x 971 _ rfl, F228.x 971 _ rfl]), fun w => absurd w q209, fun _ => ⟨(NT3_FR (FR_e e273) rfl).trans N252, fun w => by rw [e273]; first | exact (Xi_same (by unfold rg; omega)).trans (c209.o (by omega)) | exact (Xi_same (by unfold rg; omega)).trans ((F252.x 904 113 rfl).trans ((F228.x 904 113 rfl).trans (c209.o (by omega)))) | (exfalso; omega), fun w => by rw [e273]; first | exact Xi_same (by unfold rg; omega) | (exfalso; omega)⟩⟩) | exact ⟨B119, fun _ => N119, fun w => absurd (M107.1.symm.trans (by omega)) w⟩), ((KQ.w (KQ_FR w66 rfl (KQ_FR w25 rfl (by assumption : KQ T1 S _))) eU7 (by omega)))⟩
        · refine y_aload_n rfl rfl ?_
          refine y_gfi rfl rfl rfl rfl rfl ?_
          have w77 : (Xi T6 904 113) = (Xi T1 904 113) := (show Xi T6 904 113 = Xi T2 904 113 from w66.x _ _ rfl).trans ((show Xi T2 904 113 = Xi T1 904 113 from w25.x _ _ rfl))
          rw [w77]
          refine y_goto rfl rfl ?_
          refine y_iastoreP (n := 2400) rfl rfl (by unfold rg; omega) (fun w78 w79 => ?_)
          obtain ⟨U8, eU8⟩ : ∃ T : sS, T = uI T6 973 ((q).toNat) (Int32.ofInt (Xi T1 904 113)) := ⟨_, rfl⟩
          rw [← eU8]
          have hHU8 : RI U8 := by rw [eU8]; exact RI_w hHT6
          have hFU8 : FR md_mo_testMeant__3k S U8 := by rw [eU8]; exact FR.wI hFT6 (mdf_i (r := (973, 974, 0, 100000)) (List.mem_of_getElem? (i := 9) rfl) (inR_i (by omega) (by omega) (by omega) (by omega)))
          have w80 : Xi U8 973 ((q).toNat) = (Xi T1 904 113) := by rw [eU8]; exact Xi_same (by unfold rg; omega)
          have e273 := eU8
          refine y_goto rfl rfl ?_
          refine y_return rfl rfl ?_
          have w81 : Xi U8 904 113 = Xi T1 904 113 := (show Xi U8 904 113 = Xi T6 904 113 from by rw [eU8]; exact Xi_ne (by omega)).trans ( (show Xi T6 904 113 = Xi T2 904 113 from w66.x _ _ rfl).trans ((show Xi T2 904 113 = Xi T1 904 113 from w25.x _ _ rfl)))
          have w82 : Xi U8 904 115 = Xi T1 904 115 := (show Xi U8 904 115 = Xi T6 904 115 from by rw [eU8]; exact Xi_ne (by omega)).trans ( (show Xi T6 904 115 = Xi T2 904 115 from w66.x _ _ rfl).trans ((show Xi T2 904 115 = Xi T1 904 115 from w25.x _ _ rfl)))
          have w83 : Xi U8 904 116 = Xi T1 904 116 := (show Xi U8 904 116 = Xi T6 904 116 from by rw [eU8]; exact Xi_ne (by omega)).trans ( (show Xi T6 904 116 = Xi T2 904 116 from w66.x _ _ rfl).trans ((show Xi T2 904 116 = Xi T1 904 116 from w25.x _ _ rfl)))
          have w84 : Xi U8 904 15 = Xi T1 904 15 := (show Xi U8 904 15 = Xi T6 904 15 from by rw [eU8]; exact Xi_ne (by omega)).trans ( (show Xi T6 904 15 = Xi T2 904 15 from w66.x _ _ rfl).trans ((show Xi T2 904 15 = Xi T1 904 15 from w25.x _ _ rfl)))
          have w85 : Xi U8 904 32 = Xi T1 904 32 := (show Xi U8 904 32 = Xi T6 904 32 from by rw [eU8]; exact Xi_ne (by omega)).trans ( (show Xi T6 904 32 = Xi T2 904 32 from w66.x _ _ rfl).trans ((show Xi T2 904 32 = Xi T1 904 32 from w25.x _ _ rfl)))
          exact ⟨hHU8, hFU8, rfl, (by first | (have u := e273; exact ⟨tmb_k B209.o (by rw [e273, Xi_ne (by omega), F252.x 969 _ rfl, F228.x 969 _ rfl]) (by rw [e273, Xi_ne (by omega), F252.x 970 _ rfl, F228.x 970 _ rfl]) (by rw [e273, Xi_ne (by omega), F252.x 971 _ rfl, F228.x 971 _ rfl]), fun w => absurd w q209, fun _ => ⟨(NT3_FR (FR_e e273) rfl).trans N252, fun w => by rw [e273]; first | exact (Xi_same (by unfold rg; omega)).trans (c209.o (by omega)) | exact (Xi_same (by unfold rg; omega)).trans ((F252.x 904 113 rfl).trans ((F228.x 904 113 rfl).trans (c209.o (by omega)))) | (exfalso; omega), fun w => by rw [e273]; first | exact Xi_same (by unfold rg; omega) | (exfalso; omega)⟩⟩) | exact ⟨B119, fun _ => N119, fun w => absurd (M107.1.symm.trans (by omega)) w⟩), ((KQ.w (KQ_FR w66 rfl (KQ_FR w25 rfl (by assumption : KQ T1 S _))) eU8 (by omega)))⟩
    · refine y_iconst rfl ?_
      refine y_goto rfl rfl ?_
      refine y_iconst rfl ?_
      refine y_aload_n rfl rfl ?_
      refine y_gfr rfl rfl rfl rfl rfl (hHT1.r 904 67 950 rfl) ?_
      refine y_iload rfl rfl ?_
      refine y_ialoadP (n := 2600) rfl rfl (by unfold rg; omega) (fun w86 w87 => ?_)
      have w88 : -2147483648 ≤ (Xi T1 950 ((v5).toNat)) ∧ (Xi T1 950 ((v5).toNat)) ≤ 2147483647 := Xi_rgI
      have f227 : (Xi T1 950 ((v5).toNat)) = Xi S 950 (rT3 S i).toNat := by rw [(hFT1.cx 950 rfl _).1, r209]
      refine y_callV rfl rfl rfl (t_mo_need__p hHT1 1 4 (Xi T1 950 ((v5).toNat)) ⟨by omega, by omega⟩ ⟨by omega, by omega⟩ ⟨by omega, by omega⟩ _) ?_
      rintro _ T9 ⟨hHT9, w90, rfl, nt228⟩
      have hFT9 : FR md_mo_testMeant__3k S T9 := FR.tr hFT1 w90 rfl
      show Pl _ _ _ _ _ _ [] _ _
      have F228 := (by assumption : FR md_mo_need__p T1 T9)
      have N228 : NT3 T9 = (if 0 < (aT3 S i isNow) then nT1 S i else ntF (nT1 S i) 4 (pR S (rT3 S i))) := by have t := nt228; rw [N209, show Xi T1 908 _ = (pR S (rT3 S i)) from (by rw [(hFT1.cx 908 rfl _).1, f227]; rfl)] at t; first | (rw [if_pos (show 0 < (aT3 S i isNow) by omega)]; rw [if_neg (show ¬ (1 : Int) = 0 by decide)] at t; exact t) | (rw [if_neg (show ¬ 0 < (aT3 S i isNow) by omega)]; rw [if_pos (show (0 : Int) = 0 from rfl)] at t; exact t)
      refine y_aload_n rfl rfl ?_
      refine y_iload rfl rfl ?_
      refine y_iconst rfl ?_
      refine y_icmp_ge rfl rfl (by unfold rg; omega) (by unfold rg; omega) (fun w91 => ?_) (fun w92 => ?_)
      · refine y_iconst rfl ?_
        refine y_bipush rfl rfl ?_
        refine y_aload_n rfl rfl ?_
        refine y_gfr rfl rfl rfl rfl rfl (hHT9.r 904 67 950 rfl) ?_
        refine y_iload rfl rfl ?_
        refine y_ialoadP (n := 2600) rfl rfl (by unfold rg; omega) (fun w93 w94 => ?_)
        have w95 : (Xi T9 950 ((v5).toNat)) = (Xi T1 950 ((v5).toNat)) := (show Xi T9 950 ((v5).toNat) = Xi T1 950 ((v5).toNat) from w90.x _ _ rfl)
        rw [w95]
        have f251 : (Xi T1 950 ((v5).toNat)) = Xi S 950 (rT3 S i).toNat := by first | exact f227 | (rw [(hFT9.cx 950 rfl _).1, r209])
        refine y_callV rfl rfl rfl (t_mo_need__p hHT9 0 7 (Xi T1 950 ((v5).toNat)) ⟨by omega, by omega⟩ ⟨by omega, by omega⟩ ⟨by omega, by omega⟩ _) ?_
        rintro _ T10 ⟨hHT10, w102, rfl, nt252⟩
        have hFT10 : FR md_mo_testMeant__3k S T10 := FR.tr hFT9 w102 rfl
        show Pl _ _ _ _ _ _ [] _ _
        have F252 := (by assumption : FR md_mo_need__p T9 T10)
        have N252 : NT3 T10 = (if (aT3 S i isNow) < 2 then (if 0 < (aT3 S i isNow) then nT1 S i else ntF (nT1 S i) 4 (pR S (rT3 S i))) else ntF (if 0 < (aT3 S i isNow) then nT1 S i else ntF (nT1 S i) 4 (pR S (rT3 S i))) 7 (pR S (rT3 S i))) := by have t := nt252; rw [N228, show Xi T9 908 _ = (pR S (rT3 S i)) from (by rw [(hFT9.cx 908 rfl _).1, f251]; rfl)] at t; first | (rw [if_pos (show (aT3 S i isNow) < 2 by omega)]; rw [if_neg (show ¬ (1 : Int) = 0 by decide)] at t; exact t) | (rw [if_neg (show ¬ (aT3 S i isNow) < 2 by omega)]; rw [if_pos (show (0 : Int) = 0 from rfl)] at t; exact t)
        refine y_aload_n rfl rfl ?_
        refine y_gfr rfl rfl rfl rfl rfl (hHT10.r 904 122 973 rfl) ?_
        refine y_iload_n rfl rfl ?_
        refine y_iload rfl rfl ?_
        refine y_if_le rfl rfl (by unfold rg; omega) (fun w103 => ?_) (fun w104 => ?_)
        · refine y_iconst rfl ?_
          refine y_iastoreP (n := 2400) rfl rfl (by unfold rg; omega) (fun w105 w106 => ?_)
          obtain ⟨U11, eU11⟩ : ∃ T : sS, T = uI T10 973 ((q).toNat) (Int32.ofInt 0) := ⟨_, rfl⟩
          rw [← eU11]
          have hHU11 : RI U11 := by rw [eU11]; exact RI_w hHT10
          have hFU11 : FR md_mo_testMeant__3k S U11 := by rw [eU11]; exact FR.wI hFT10 (mdf_i (r := (973, 974, 0, 100000)) (List.mem_of_getElem? (i := 9) rfl) (inR_i (by omega) (by omega) (by omega) (by omega)))
          have w107 : Xi U11 973 ((q).toNat) = 0 := by rw [eU11]; exact Xi_same (by unfold rg; omega)
          have e273 := eU11
          refine y_goto rfl rfl ?_
          refine y_return rfl rfl ?_
          have w108 : Xi U11 904 113 = Xi T1 904 113 := (show Xi U11 904 113 = Xi T10 904 113 from by rw [eU11]; exact Xi_ne (by omega)).trans ( (show Xi T10 904 113 = Xi T9 904 113 from w102.x _ _ rfl).trans ((show Xi T9 904 113 = Xi T1 904 113 from w90.x _ _ rfl)))
          have w109 : Xi U11 904 115 = Xi T1 904 115 := (show Xi U11 904 115 = Xi T10 904 115 from by rw [eU11]; exact Xi_ne (by omega)).trans ( (show Xi T10 904 115 = Xi T9 904 115 from w102.x _ _ rfl).trans ((show Xi T9 904 115 = Xi T1 904 115 from w90.x _ _ rfl)))
          have w110 : Xi U11 904 116 = Xi T1 904 116 := (show Xi U11 904 116 = Xi T10 904 116 from by rw [eU11]; exact Xi_ne (by omega)).trans ( (show Xi T10 904 116 = Xi T9 904 116 from w102.x _ _ rfl).trans ((show Xi T9 904 116 = Xi T1 904 116 from w90.x _ _ rfl)))
          have w111 : Xi U11 904 15 = Xi T1 904 15 := (show Xi U11 904 15 = Xi T10 904 15 from by rw [eU11]; exact Xi_ne (by omega)).trans ( (show Xi T10 904 15 = Xi T9 904 15 from w102.x _ _ rfl).trans ((show Xi T9 904 15 = Xi T1 904 15 from w90.x _ _ rfl)))
          have w112 : Xi U11 904 32 = Xi T1 904 32 := (show Xi U11 904 32 = Xi T10 904 32 from by rw [eU11]; exact Xi_ne (by omega)).trans ( (show Xi T10 904 32 = Xi T9 904 32 from w102.x _ _ rfl).trans ((show Xi T9 904 32 = Xi T1 904 32 from w90.x _ _ rfl)))
          exact ⟨hHU11, hFU11, rfl, (by first | (have u := e273; exact ⟨tmb_k B209.o (by rw [e273, Xi_ne (by omega), F252.x 969 _ rfl, F228.x 969 _ rfl]) (by rw [e273, Xi_ne (by omega), F252.x 970 _ rfl, F228.x 970 _ rfl]) (by rw [e273, Xi_ne (by omega), F252.x 971 _ rfl, F228.x 971 _ rfl]), fun w => absurd w q209, fun _ => ⟨(NT3_FR (FR_e e273) rfl).trans N252, fun w => by rw [e273]; first | exact (Xi_same (by unfold rg; omega)).trans (c209.o (by omega)) | exact (Xi_same (by unfold rg; omega)).trans ((F252.x 904 113 rfl).trans ((F228.x 904 113 rfl).trans (c209.o (by omega)))) | (exfalso; omega), fun w => by rw [e273]; first | exact Xi_same (by unfold rg; omega) | (exfalso; omega)⟩⟩) | exact ⟨B119, fun _ => N119, fun w => absurd (M107.1.symm.trans (by omega)) w⟩), ((KQ.w (KQ_FR w102 rfl (KQ_FR w90 rfl (by assumption : KQ T1 S _))) eU11 (by omega)))⟩
        · refine y_aload_n rfl rfl ?_
          refine y_gfi rfl rfl rfl rfl rfl ?_
          have w113 : (Xi T10 904 113) = (Xi T1 904 113) := (show Xi T10 904 113 = Xi T9 904 113 from w102.x _ _ rfl).trans ((show Xi T9 904 113 = Xi T1 904 113 from w90.x _ _ rfl))
          rw [w113]
          refine y_goto rfl rfl ?_
          refine y_iastoreP (n := 2400) rfl rfl (by unfold rg; omega) (fun w114 w115 => ?_)
          obtain ⟨U12, eU12⟩ : ∃ T : sS, T = uI T10 973 ((q).toNat) (Int32.ofInt (Xi T1 904 113)) := ⟨_, rfl⟩
          rw [← eU12]
          have hHU12 : RI U12 := by rw [eU12]; exact RI_w hHT10
          have hFU12 : FR md_mo_testMeant__3k S U12 := by rw [eU12]; exact FR.wI hFT10 (mdf_i (r := (973, 974, 0, 100000)) (List.mem_of_getElem? (i := 9) rfl) (inR_i (by omega) (by omega) (by omega) (by omega)))
          have w116 : Xi U12 973 ((q).toNat) = (Xi T1 904 113) := by rw [eU12]; exact Xi_same (by unfold rg; omega)
          have e273 := eU12
          refine y_goto rfl rfl ?_
          refine y_return rfl rfl ?_
          have w117 : Xi U12 904 113 = Xi T1 904 113 := (show Xi U12 904 113 = Xi T10 904 113 from by rw [eU12]; exact Xi_ne (by omega)).trans ( (show Xi T10 904 113 = Xi T9 904 113 from w102.x _ _ rfl).trans ((show Xi T9 904 113 = Xi T1 904 113 from w90.x _ _ rfl)))
          have w118 : Xi U12 904 115 = Xi T1 904 115 := (show Xi U12 904 115 = Xi T10 904 115 from by rw [eU12]; exact Xi_ne (by omega)).trans ( (show Xi T10 904 115 = Xi T9 904 115 from w102.x _ _ rfl).trans ((show Xi T9 904 115 = Xi T1 904 115 from w90.x _ _ rfl)))
          have w119 : Xi U12 904 116 = Xi T1 904 116 := (show Xi U12 904 116 = Xi T10 904 116 from by rw [eU12]; exact Xi_ne (by omega)).trans ( (show Xi T10 904 116 = Xi T9 904 116 from w102.x _ _ rfl).trans ((show Xi T9 904 116 = Xi T1 904 116 from w90.x _ _ rfl)))
          have w120 : Xi U12 904 15 = Xi T1 904 15 := (show Xi U12 904 15 = Xi T10 904 15 from by rw [eU12]; exact Xi_ne (by omega)).trans ( (show Xi T10 904 15 = Xi T9 904 15 from w102.x _ _ rfl).trans ((show Xi T9 904 15 = Xi T1 904 15 from w90.x _ _ rfl)))
          have w121 : Xi U12 904 32 = Xi T1 904 32 := (show Xi U12 904 32 = Xi T10 904 32 from by rw [eU12]; exact Xi_ne (by omega)).trans ( (show Xi T10 904 32 = Xi T9 904 32 from w102.x _ _ rfl).trans ((show Xi T9 904 32 = Xi T1 904 32 from w90.x _ _ rfl)))
          exact ⟨hHU12, hFU12, rfl, (by first | (have u := e273; exact ⟨tmb_k B209.o (by rw [e273, Xi_ne (by omega), F252.x 969 _ rfl, F228.x 969 _ rfl]) (by rw [e273, Xi_ne (by omega), F252.x 970 _ rfl, F228.x 970 _ rfl]) (by rw [e273, Xi_ne (by omega), F252.x 971 _ rfl, F228.x 971 _ rfl]), fun w => absurd w q209, fun _ => ⟨(NT3_FR (FR_e e273) rfl).trans N252, fun w => by rw [e273]; first | exact (Xi_same (by unfold rg; omega)).trans (c209.o (by omega)) | exact (Xi_same (by unfold rg; omega)).trans ((F252.x 904 113 rfl).trans ((F228.x 904 113 rfl).trans (c209.o (by omega)))) | (exfalso; omega), fun w => by rw [e273]; first | exact Xi_same (by unfold rg; omega) | (exfalso; omega)⟩⟩) | exact ⟨B119, fun _ => N119, fun w => absurd (M107.1.symm.trans (by omega)) w⟩), ((KQ.w (KQ_FR w102 rfl (KQ_FR w90 rfl (by assumption : KQ T1 S _))) eU12 (by omega)))⟩
      · refine y_iconst rfl ?_
        refine y_goto rfl rfl ?_
        refine y_bipush rfl rfl ?_
        refine y_aload_n rfl rfl ?_
        refine y_gfr rfl rfl rfl rfl rfl (hHT9.r 904 67 950 rfl) ?_
        refine y_iload rfl rfl ?_
        refine y_ialoadP (n := 2600) rfl rfl (by unfold rg; omega) (fun w122 w123 => ?_)
        have w124 : (Xi T9 950 ((v5).toNat)) = (Xi T1 950 ((v5).toNat)) := (show Xi T9 950 ((v5).toNat) = Xi T1 950 ((v5).toNat) from w90.x _ _ rfl)
        rw [w124]
        have f251 : (Xi T1 950 ((v5).toNat)) = Xi S 950 (rT3 S i).toNat := by first | exact f227 | (rw [(hFT9.cx 950 rfl _).1, r209])
        refine y_callV rfl rfl rfl (t_mo_need__p hHT9 1 7 (Xi T1 950 ((v5).toNat)) ⟨by omega, by omega⟩ ⟨by omega, by omega⟩ ⟨by omega, by omega⟩ _) ?_
        rintro _ T13 ⟨hHT13, w131, rfl, nt252⟩
        have hFT13 : FR md_mo_testMeant__3k S T13 := FR.tr hFT9 w131 rfl
        show Pl _ _ _ _ _ _ [] _ _
        have F252 := (by assumption : FR md_mo_need__p T9 T13)
        have N252 : NT3 T13 = (if (aT3 S i isNow) < 2 then (if 0 < (aT3 S i isNow) then nT1 S i else ntF (nT1 S i) 4 (pR S (rT3 S i))) else ntF (if 0 < (aT3 S i isNow) then nT1 S i else ntF (nT1 S i) 4 (pR S (rT3 S i))) 7 (pR S (rT3 S i))) := by have t := nt252; rw [N228, show Xi T9 908 _ = (pR S (rT3 S i)) from (by rw [(hFT9.cx 908 rfl _).1, f251]; rfl)] at t; first | (rw [if_pos (show (aT3 S i isNow) < 2 by omega)]; rw [if_neg (show ¬ (1 : Int) = 0 by decide)] at t; exact t) | (rw [if_neg (show ¬ (aT3 S i isNow) < 2 by omega)]; rw [if_pos (show (0 : Int) = 0 from rfl)] at t; exact t)
        refine y_aload_n rfl rfl ?_
        refine y_gfr rfl rfl rfl rfl rfl (hHT13.r 904 122 973 rfl) ?_
        refine y_iload_n rfl rfl ?_
        refine y_iload rfl rfl ?_
        refine y_if_le rfl rfl (by unfold rg; omega) (fun w132 => ?_) (fun w133 => ?_)
        · refine y_iconst rfl ?_
          refine y_iastoreP (n := 2400) rfl rfl (by unfold rg; omega) (fun w134 w135 => ?_)
          obtain ⟨U14, eU14⟩ : ∃ T : sS, T = uI T13 973 ((q).toNat) (Int32.ofInt 0) := ⟨_, rfl⟩
          rw [← eU14]
          have hHU14 : RI U14 := by rw [eU14]; exact RI_w hHT13
          have hFU14 : FR md_mo_testMeant__3k S U14 := by rw [eU14]; exact FR.wI hFT13 (mdf_i (r := (973, 974, 0, 100000)) (List.mem_of_getElem? (i := 9) rfl) (inR_i (by omega) (by omega) (by omega) (by omega)))
          have w136 : Xi U14 973 ((q).toNat) = 0 := by rw [eU14]; exact Xi_same (by unfold rg; omega)
          have e273 := eU14
          refine y_goto rfl rfl ?_
          refine y_return rfl rfl ?_
          have w137 : Xi U14 904 113 = Xi T1 904 113 := (show Xi U14 904 113 = Xi T13 904 113 from by rw [eU14]; exact Xi_ne (by omega)).trans ( (show Xi T13 904 113 = Xi T9 904 113 from w131.x _ _ rfl).trans ((show Xi T9 904 113 = Xi T1 904 113 from w90.x _ _ rfl)))
          have w138 : Xi U14 904 115 = Xi T1 904 115 := (show Xi U14 904 115 = Xi T13 904 115 from by rw [eU14]; exact Xi_ne (by omega)).trans ( (show Xi T13 904 115 = Xi T9 904 115 from w131.x _ _ rfl).trans ((show Xi T9 904 115 = Xi T1 904 115 from w90.x _ _ rfl)))
          have w139 : Xi U14 904 116 = Xi T1 904 116 := (show Xi U14 904 116 = Xi T13 904 116 from by rw [eU14]; exact Xi_ne (by omega)).trans ( (show Xi T13 904 116 = Xi T9 904 116 from w131.x _ _ rfl).trans ((show Xi T9 904 116 = Xi T1 904 116 from w90.x _ _ rfl)))
          have w140 : Xi U14 904 15 = Xi T1 904 15 := (show Xi U14 904 15 = Xi T13 904 15 from by rw [eU14]; exact Xi_ne (by omega)).trans ( (show Xi T13 904 15 = Xi T9 904 15 from w131.x _ _ rfl).trans ((show Xi T9 904 15 = Xi T1 904 15 from w90.x _ _ rfl)))
          have w141 : Xi U14 904 32 = Xi T1 904 32 := (show Xi U14 904 32 = Xi T13 904 32 from by rw [eU14]; exact Xi_ne (by omega)).trans ( (show Xi T13 904 32 = Xi T9 904 32 from w131.x _ _ rfl).trans ((show Xi T9 904 32 = Xi T1 904 32 from w90.x _ _ rfl)))
          exact ⟨hHU14, hFU14, rfl, (by first | (have u := e273; exact ⟨tmb_k B209.o (by rw [e273, Xi_ne (by omega), F252.x 969 _ rfl, F228.x 969 _ rfl]) (by rw [e273, Xi_ne (by omega), F252.x 970 _ rfl, F228.x 970 _ rfl]) (by rw [e273, Xi_ne (by omega), F252.x 971 _ rfl, F228.x 971 _ rfl]), fun w => absurd w q209, fun _ => ⟨(NT3_FR (FR_e e273) rfl).trans N252, fun w => by rw [e273]; first | exact (Xi_same (by unfold rg; omega)).trans (c209.o (by omega)) | exact (Xi_same (by unfold rg; omega)).trans ((F252.x 904 113 rfl).trans ((F228.x 904 113 rfl).trans (c209.o (by omega)))) | (exfalso; omega), fun w => by rw [e273]; first | exact Xi_same (by unfold rg; omega) | (exfalso; omega)⟩⟩) | exact ⟨B119, fun _ => N119, fun w => absurd (M107.1.symm.trans (by omega)) w⟩), ((KQ.w (KQ_FR w131 rfl (KQ_FR w90 rfl (by assumption : KQ T1 S _))) eU14 (by omega)))⟩
        · refine y_aload_n rfl rfl ?_
          refine y_gfi rfl rfl rfl rfl rfl ?_
          have w142 : (Xi T13 904 113) = (Xi T1 904 113) := (show Xi T13 904 113 = Xi T9 904 113 from w131.x _ _ rfl).trans ((show Xi T9 904 113 = Xi T1 904 113 from w90.x _ _ rfl))
          rw [w142]
          refine y_goto rfl rfl ?_
          refine y_iastoreP (n := 2400) rfl rfl (by unfold rg; omega) (fun w143 w144 => ?_)
          obtain ⟨U15, eU15⟩ : ∃ T : sS, T = uI T13 973 ((q).toNat) (Int32.ofInt (Xi T1 904 113)) := ⟨_, rfl⟩
          rw [← eU15]
          have hHU15 : RI U15 := by rw [eU15]; exact RI_w hHT13
          have hFU15 : FR md_mo_testMeant__3k S U15 := by rw [eU15]; exact FR.wI hFT13 (mdf_i (r := (973, 974, 0, 100000)) (List.mem_of_getElem? (i := 9) rfl) (inR_i (by omega) (by omega) (by omega) (by omega)))
          have w145 : Xi U15 973 ((q).toNat) = (Xi T1 904 113) := by rw [eU15]; exact Xi_same (by unfold rg; omega)
          have e273 := eU15
          refine y_goto rfl rfl ?_
          refine y_return rfl rfl ?_
          have w146 : Xi U15 904 113 = Xi T1 904 113 := (show Xi U15 904 113 = Xi T13 904 113 from by rw [eU15]; exact Xi_ne (by omega)).trans ( (show Xi T13 904 113 = Xi T9 904 113 from w131.x _ _ rfl).trans ((show Xi T9 904 113 = Xi T1 904 113 from w90.x _ _ rfl)))
          have w147 : Xi U15 904 115 = Xi T1 904 115 := (show Xi U15 904 115 = Xi T13 904 115 from by rw [eU15]; exact Xi_ne (by omega)).trans ( (show Xi T13 904 115 = Xi T9 904 115 from w131.x _ _ rfl).trans ((show Xi T9 904 115 = Xi T1 904 115 from w90.x _ _ rfl)))
          have w148 : Xi U15 904 116 = Xi T1 904 116 := (show Xi U15 904 116 = Xi T13 904 116 from by rw [eU15]; exact Xi_ne (by omega)).trans ( (show Xi T13 904 116 = Xi T9 904 116 from w131.x _ _ rfl).trans ((show Xi T9 904 116 = Xi T1 904 116 from w90.x _ _ rfl)))
          have w149 : Xi U15 904 15 = Xi T1 904 15 := (show Xi U15 904 15 = Xi T13 904 15 from by rw [eU15]; exact Xi_ne (by omega)).trans ( (show Xi T13 904 15 = Xi T9 904 15 from w131.x _ _ rfl).trans ((show Xi T9 904 15 = Xi T1 904 15 from w90.x _ _ rfl)))
          have w150 : Xi U15 904 32 = Xi T1 904 32 := (show Xi U15 904 32 = Xi T13 904 32 from by rw [eU15]; exact Xi_ne (by omega)).trans ( (show Xi T13 904 32 = Xi T9 904 32 from w131.x _ _ rfl).trans ((show Xi T9 904 32 = Xi T1 904 32 from w90.x _ _ rfl)))
          exact ⟨hHU15, hFU15, rfl, (by first | (have u := e273; exact ⟨tmb_k B209.o (by rw [e273, Xi_ne (by omega), F252.x 969 _ rfl, F228.x 969 _ rfl]) (by rw [e273, Xi_ne (by omega), F252.x 970 _ rfl, F228.x 970 _ rfl]) (by rw [e273, Xi_ne (by omega), F252.x 971 _ rfl, F228.x 971 _ rfl]), fun w => absurd w q209, fun _ => ⟨(NT3_FR (FR_e e273) rfl).trans N252, fun w => by rw [e273]; first | exact (Xi_same (by unfold rg; omega)).trans (c209.o (by omega)) | exact (Xi_same (by unfold rg; omega)).trans ((F252.x 904 113 rfl).trans ((F228.x 904 113 rfl).trans (c209.o (by omega)))) | (exfalso; omega), fun w => by rw [e273]; first | exact Xi_same (by unfold rg; omega) | (exfalso; omega)⟩⟩) | exact ⟨B119, fun _ => N119, fun w => absurd (M107.1.symm.trans (by omega)) w⟩), ((KQ.w (KQ_FR w131 rfl (KQ_FR w90 rfl (by assumption : KQ T1 S _))) eU15 (by omega)))⟩
  refine y_aload_n rfl rfl ?_
  refine y_gfr rfl rfl rfl rfl rfl (hH.r 904 118 969 rfl) ?_
  refine y_iload_n rfl rfl ?_
  refine y_aload_n rfl rfl ?_
  refine y_gfr rfl rfl rfl rfl rfl (hH.r 904 82 952 rfl) ?_
  refine y_iload_n rfl rfl ?_
  refine y_ialoadP (n := 1700) rfl rfl (by unfold rg; omega) (fun w151 w152 => ?_)
  have w153 : -2147483648 ≤ (Xi S 952 ((i).toNat)) ∧ (Xi S 952 ((i).toNat)) ≤ 2147483647 := Xi_rgI
  refine y_iastoreP (n := 2400) rfl rfl (by unfold rg; omega) (fun w154 w155 => ?_)
  obtain ⟨U16, eU16⟩ : ∃ T : sS, T = uI S 969 ((q).toNat) (Int32.ofInt (Xi S 952 ((i).toNat))) := ⟨_, rfl⟩
  rw [← eU16]
  have hHU16 : RI U16 := by rw [eU16]; exact RI_w hH
  have hFU16 : FR md_mo_testMeant__3k S U16 := by rw [eU16]; exact FR.wI hF (mdf_i (r := (969, 970, 0, 100000)) (List.mem_of_getElem? (i := 5) rfl) (inR_i (by omega) (by omega) (by omega) (by omega)))
  have w156 : Xi U16 969 ((q).toNat) = (Xi S 952 ((i).toNat)) := by rw [eU16]; exact Xi_same (by unfold rg; omega)
  have e11 := eU16
  refine y_aload_n rfl rfl ?_
  refine y_gfr rfl rfl rfl rfl rfl (hHU16.r 904 119 970 rfl) ?_
  refine y_iload_n rfl rfl ?_
  refine y_aload_n rfl rfl ?_
  refine y_gfr rfl rfl rfl rfl rfl (hHU16.r 904 83 953 rfl) ?_
  refine y_iload_n rfl rfl ?_
  refine y_baloadP (n := 1700) rfl rfl rfl (by decide) (by unfold rg; omega) (fun w157 w158 => ?_)
  have w159 : -2147483648 ≤ (Xi U16 953 ((i).toNat)) ∧ (Xi U16 953 ((i).toNat)) ≤ 2147483647 := Xi_rgI
  have n22 : (Xi U16 953 ((i).toNat)) = Xi S 953 i.toNat := by rw [e11]; exact Xi_ne (by omega)
  refine y_bastoreZP (n := 2400) rfl rfl (by unfold rg; omega) ⟨by omega, by omega⟩ (fun w160 w161 => ?_)
  obtain ⟨U17, eU17⟩ : ∃ T : sS, T = uI U16 970 ((q).toNat) (Int32.ofInt (Xi U16 953 ((i).toNat))) := ⟨_, rfl⟩
  rw [← eU17]
  have hHU17 : RI U17 := by rw [eU17]; exact RI_w hHU16
  have hFU17 : FR md_mo_testMeant__3k S U17 := by rw [eU17]; exact FR.wI hFU16 (mdf_i (r := (970, 971, 0, 100000)) (List.mem_of_getElem? (i := 6) rfl) (inR_i (by omega) (by omega) (by omega) (by omega)))
  have w162 : Xi U17 970 ((q).toNat) = (Xi U16 953 ((i).toNat)) := by rw [eU17]; exact Xi_same (by unfold rg; omega)
  have e23 := eU17
  have t23 : NT3 U17 = NT3 S := (NT3_FR (FR_e e23) rfl).trans (NT3_FR (FR_e e11) rfl)
  refine y_aload_n rfl rfl ?_
  refine y_gfr rfl rfl rfl rfl rfl (hHU17.r 904 82 952 rfl) ?_
  refine y_iload_n rfl rfl ?_
  refine y_ialoadP (n := 1700) rfl rfl (by unfold rg; omega) (fun w163 w164 => ?_)
  have w165 : (Xi U17 952 ((i).toNat)) = (Xi S 952 ((i).toNat)) := (show Xi U17 952 ((i).toNat) = Xi U16 952 ((i).toNat) from by rw [eU17]; exact Xi_ne (by omega)).trans ((show Xi U16 952 ((i).toNat) = Xi S 952 ((i).toNat) from by rw [eU16]; exact Xi_ne (by omega)))
  rw [w165]
  refine y_iconst rfl ?_
  refine y_icmp_ne rfl rfl (by unfold rg; omega) (by unfold rg; omega) (fun w166 => ?_) (fun w167 => ?_)
  · refine y_aload_n rfl rfl ?_
    refine y_aload_n rfl rfl ?_
    refine y_gfr rfl rfl rfl rfl rfl (hHU17.r 904 84 954 rfl) ?_
    refine y_iload_n rfl rfl ?_
    refine y_ialoadP (n := 1700) rfl rfl (by unfold rg; omega) (fun w168 w169 => ?_)
    have w170 : -2147483648 ≤ (Xi U17 954 ((i).toNat)) ∧ (Xi U17 954 ((i).toNat)) ≤ 2147483647 := Xi_rgI
    have a100 : (Xi U17 954 ((i).toNat)) = Xi S 954 i.toNat := (hFU17.cx 954 rfl _).1
    refine y_aload_n rfl rfl ?_
    refine y_gfr rfl rfl rfl rfl rfl (hHU17.r 904 85 955 rfl) ?_
    refine y_iload_n rfl rfl ?_
    refine y_ialoadP (n := 1700) rfl rfl (by unfold rg; omega) (fun w171 w172 => ?_)
    have w173 : -2147483648 ≤ (Xi U17 955 ((i).toNat)) ∧ (Xi U17 955 ((i).toNat)) ≤ 2147483647 := Xi_rgI
    have a106 : (Xi U17 955 ((i).toNat)) = Xi S 955 i.toNat := (hFU17.cx 955 rfl _).1
    have w174 : Xi U17 904 113 = Xi S 904 113 := (show Xi U17 904 113 = Xi U16 904 113 from by rw [eU17]; exact Xi_ne (by omega)).trans ((show Xi U16 904 113 = Xi S 904 113 from by rw [eU16]; exact Xi_ne (by omega)))
    have w175 : Xi U17 904 115 = Xi S 904 115 := (show Xi U17 904 115 = Xi U16 904 115 from by rw [eU17]; exact Xi_ne (by omega)).trans ((show Xi U16 904 115 = Xi S 904 115 from by rw [eU16]; exact Xi_ne (by omega)))
    have w176 : Xi U17 904 116 = Xi S 904 116 := (show Xi U17 904 116 = Xi U16 904 116 from by rw [eU17]; exact Xi_ne (by omega)).trans ((show Xi U16 904 116 = Xi S 904 116 from by rw [eU16]; exact Xi_ne (by omega)))
    have w177 : Xi U17 904 15 = Xi S 904 15 := (show Xi U17 904 15 = Xi U16 904 15 from by rw [eU17]; exact Xi_ne (by omega)).trans ((show Xi U16 904 15 = Xi S 904 15 from by rw [eU16]; exact Xi_ne (by omega)))
    have w178 : Xi U17 904 32 = Xi S 904 32 := (show Xi U17 904 32 = Xi U16 904 32 from by rw [eU17]; exact Xi_ne (by omega)).trans ((show Xi U16 904 32 = Xi S 904 32 from by rw [eU16]; exact Xi_ne (by omega)))
    refine y_callV rfl rfl rfl (t_mo_meant__p hHU17 (Xi U17 954 ((i).toNat)) (Xi U17 955 ((i).toNat)) ⟨by omega, by omega⟩ ⟨by omega, by omega⟩ (by first | assumption | exact (LSP_FR hFU17 rfl rfl (by assumption : LSP S))) (by first | assumption | omega) (by first | assumption | exact (RBD_FR hFU17 rfl (by assumption : RBD S))) _) ?_
    rintro _ T18 ⟨hHT18, w180, z179, rfl, w179, o107⟩
    have hFT18 : FR md_mo_testMeant__3k S T18 := FR.tr hFU17 w180 rfl
    show Pl _ _ _ _ _ _ [iv z179] _ _
    have F107 := (by assumption : FR md_mo_meant__p U17 T18)
    have M107 := mto_F o107 (SMR_FR hFU17 rfl rfl) (hFU17.x 904 115 rfl) (hFU17.x 904 116 rfl) t23 (fun j => hFU17.x 908 j rfl) a100 a106
    clear o107
    refine y_istore rfl rfl rfl ?_
    refine y_aload_n rfl rfl ?_
    refine y_gfr rfl rfl rfl rfl rfl (hHT18.r 904 120 971 rfl) ?_
    refine y_iload_n rfl rfl ?_
    refine y_iload rfl rfl ?_
    refine y_iastoreP (n := 2400) rfl rfl (by unfold rg; omega) (fun w181 w182 => ?_)
    obtain ⟨U19, eU19⟩ : ∃ T : sS, T = uI T18 971 ((q).toNat) (Int32.ofInt z179) := ⟨_, rfl⟩
    rw [← eU19]
    have hHU19 : RI U19 := by rw [eU19]; exact RI_w hHT18
    have hFU19 : FR md_mo_testMeant__3k S U19 := by rw [eU19]; exact FR.wI hFT18 (mdf_i (r := (971, 972, 0, 100000)) (List.mem_of_getElem? (i := 7) rfl) (inR_i (by omega) (by omega) (by omega) (by omega)))
    have w183 : Xi U19 971 ((q).toNat) = z179 := by rw [eU19]; exact Xi_same (by unfold rg; omega)
    have e119 := eU19
    have N119 : NT3 U19 = nT1 S i := by have u := M107.2; rw [M107.1] at u; exact (NT3_FR (FR_e e119) rfl).trans u
    have B119 : TMB S U19 i q := ⟨by rw [e119, Xi_ne (by omega), F107.x 969 _ rfl, e23, Xi_ne (by omega), e11]; exact Xi_same (by unfold rg; omega), by rw [e119, Xi_ne (by omega), F107.x 970 _ rfl, e23, n22]; exact Xi_same (by unfold rg; omega), by rw [e119]; exact (Xi_same (by unfold rg; omega)).trans M107.1⟩
    refine y_aload_n rfl rfl ?_
    refine y_gfr rfl rfl rfl rfl rfl (hHU19.r 904 82 952 rfl) ?_
    refine y_iload_n rfl rfl ?_
    refine y_ialoadP (n := 1700) rfl rfl (by unfold rg; omega) (fun w184 w185 => ?_)
    have w186 : (Xi U19 952 ((i).toNat)) = (Xi S 952 ((i).toNat)) := (show Xi U19 952 ((i).toNat) = Xi T18 952 ((i).toNat) from by rw [eU19]; exact Xi_ne (by omega)).trans ( (show Xi T18 952 ((i).toNat) = Xi U17 952 ((i).toNat) from w180.x _ _ rfl).trans ( (show Xi U17 952 ((i).toNat) = Xi U16 952 ((i).toNat) from by rw [eU17]; exact Xi_ne (by omega)).trans ((show Xi U16 952 ((i).toNat) = Xi S 952 ((i).toNat) from by rw [eU16]; exact Xi_ne (by omega)))))
    rw [w186]
    refine y_iconst rfl ?_
    refine y_icmp_ne rfl rfl (by unfold rg; omega) (by unfold rg; omega) (fun w187 => ?_) (fun w188 => ?_)
    · exfalso; omega
    · refine y_iload rfl rfl ?_
      refine y_bipush rfl rfl ?_
      refine y_icmp_eq rfl rfl (by unfold rg; omega) (by unfold rg; omega) (fun w189 => ?_) (fun w190 => ?_)
      · refine y_return rfl rfl ?_
        have w191 : Xi U19 904 113 = Xi S 904 113 := (show Xi U19 904 113 = Xi T18 904 113 from by rw [eU19]; exact Xi_ne (by omega)).trans ( (show Xi T18 904 113 = Xi U17 904 113 from w180.x _ _ rfl).trans ( (show Xi U17 904 113 = Xi U16 904 113 from by rw [eU17]; exact Xi_ne (by omega)).trans ((show Xi U16 904 113 = Xi S 904 113 from by rw [eU16]; exact Xi_ne (by omega)))))
        have w192 : Xi U19 904 115 = Xi S 904 115 := (show Xi U19 904 115 = Xi T18 904 115 from by rw [eU19]; exact Xi_ne (by omega)).trans ( (show Xi T18 904 115 = Xi U17 904 115 from w180.x _ _ rfl).trans ( (show Xi U17 904 115 = Xi U16 904 115 from by rw [eU17]; exact Xi_ne (by omega)).trans ((show Xi U16 904 115 = Xi S 904 115 from by rw [eU16]; exact Xi_ne (by omega)))))
        have w193 : Xi U19 904 116 = Xi S 904 116 := (show Xi U19 904 116 = Xi T18 904 116 from by rw [eU19]; exact Xi_ne (by omega)).trans ( (show Xi T18 904 116 = Xi U17 904 116 from w180.x _ _ rfl).trans ( (show Xi U17 904 116 = Xi U16 904 116 from by rw [eU17]; exact Xi_ne (by omega)).trans ((show Xi U16 904 116 = Xi S 904 116 from by rw [eU16]; exact Xi_ne (by omega)))))
        have w194 : Xi U19 904 15 = Xi S 904 15 := (show Xi U19 904 15 = Xi T18 904 15 from by rw [eU19]; exact Xi_ne (by omega)).trans ( (show Xi T18 904 15 = Xi U17 904 15 from w180.x _ _ rfl).trans ( (show Xi U17 904 15 = Xi U16 904 15 from by rw [eU17]; exact Xi_ne (by omega)).trans ((show Xi U16 904 15 = Xi S 904 15 from by rw [eU16]; exact Xi_ne (by omega)))))
        have w195 : Xi U19 904 32 = Xi S 904 32 := (show Xi U19 904 32 = Xi T18 904 32 from by rw [eU19]; exact Xi_ne (by omega)).trans ( (show Xi T18 904 32 = Xi U17 904 32 from w180.x _ _ rfl).trans ( (show Xi U17 904 32 = Xi U16 904 32 from by rw [eU17]; exact Xi_ne (by omega)).trans ((show Xi U16 904 32 = Xi S 904 32 from by rw [eU16]; exact Xi_ne (by omega)))))
        exact ⟨hHU19, hFU19, rfl, (by first | (have u := e273; exact ⟨tmb_k B209.o (by rw [e273, Xi_ne (by omega), F252.x 969 _ rfl, F228.x 969 _ rfl]) (by rw [e273, Xi_ne (by omega), F252.x 970 _ rfl, F228.x 970 _ rfl]) (by rw [e273, Xi_ne (by omega), F252.x 971 _ rfl, F228.x 971 _ rfl]), fun w => absurd w q209, fun _ => ⟨(NT3_FR (FR_e e273) rfl).trans N252, fun w => by rw [e273]; first | exact (Xi_same (by unfold rg; omega)).trans (c209.o (by omega)) | exact (Xi_same (by unfold rg; omega)).trans ((F252.x 904 113 rfl).trans ((F228.x 904 113 rfl).trans (c209.o (by omega)))) | (exfalso; omega), fun w => by rw [e273]; first | exact Xi_same (by unfold rg; omega) | (exfalso; omega)⟩⟩) | exact ⟨B119, fun _ => N119, fun w => absurd (M107.1.symm.trans (by omega)) w⟩), ((KQ.w (KQ_FR w180 rfl (KQ.w (KQ.w KQ.rf eU16 (by omega)) eU17 (by omega))) eU19 (by omega)))⟩
      · refine y_aload_n rfl rfl ?_
        refine y_gfr rfl rfl rfl rfl rfl (hHU19.r 904 86 956 rfl) ?_
        refine y_iload_n rfl rfl ?_
        refine y_ialoadP (n := 1700) rfl rfl (by unfold rg; omega) (fun w196 w197 => ?_)
        have w198 : -2147483648 ≤ (Xi U19 956 ((i).toNat)) ∧ (Xi U19 956 ((i).toNat)) ≤ 2147483647 := Xi_rgI
        refine y_istore rfl rfl rfl ?_
        have r143 : (Xi U19 956 ((i).toNat)) = rT3 S i := (hFU19.cx 956 rfl _).1
        refine y_aload_n rfl rfl ?_
        refine y_gfr rfl rfl rfl rfl rfl (hHU19.r 904 68 951 rfl) ?_
        refine y_iload rfl rfl ?_
        refine y_ialoadP (n := 2600) rfl rfl (by unfold rg; omega) (fun w199 w200 => ?_)
        have w201 : -2147483648 ≤ (Xi U19 951 (((Xi U19 956 ((i).toNat))).toNat)) ∧ (Xi U19 951 (((Xi U19 956 ((i).toNat))).toNat)) ≤ 2147483647 := Xi_rgI
        have z151 : (Xi U19 951 (((Xi U19 956 ((i).toNat))).toNat)) = Xi S 951 (rT3 S i).toNat := by rw [(hFU19.cx 951 rfl _).1, r143]
        refine y_iconst rfl ?_
        refine y_icmp_le rfl rfl (by unfold rg; omega) (by unfold rg; omega) (fun w202 => ?_) (fun w203 => ?_)
        · refine y_aload_n rfl rfl ?_
          refine y_aload_n rfl rfl ?_
          refine y_gfr rfl rfl rfl rfl rfl (hHU19.r 904 67 950 rfl) ?_
          refine y_iload rfl rfl ?_
          refine y_ialoadP (n := 2600) rfl rfl (by unfold rg; omega) (fun w204 w205 => ?_)
          have w206 : -2147483648 ≤ (Xi U19 950 (((Xi U19 956 ((i).toNat))).toNat)) ∧ (Xi U19 950 (((Xi U19 956 ((i).toNat))).toNat)) ≤ 2147483647 := Xi_rgI
          have y167 : (Xi U19 950 (((Xi U19 956 ((i).toNat))).toNat)) = Xi S 950 (rT3 S i).toNat := by rw [(hFU19.cx 950 rfl _).1, r143]
          refine y_aload_n rfl rfl ?_
          refine y_gfr rfl rfl rfl rfl rfl (hHU19.r 904 68 951 rfl) ?_
          refine y_iload rfl rfl ?_
          refine y_ialoadP (n := 2600) rfl rfl (by unfold rg; omega) (fun w207 w208 => ?_)
          have z174 : (Xi U19 951 (((Xi U19 956 ((i).toNat))).toNat)) = Xi S 951 (rT3 S i).toNat := by first | exact z151 | (rw [(hFU19.cx 951 rfl _).1, r143])
          refine y_aload_n rfl rfl ?_
          refine y_iload rfl rfl ?_
          have w209 : Xi U19 904 113 = Xi S 904 113 := (show Xi U19 904 113 = Xi T18 904 113 from by rw [eU19]; exact Xi_ne (by omega)).trans ( (show Xi T18 904 113 = Xi U17 904 113 from w180.x _ _ rfl).trans ( (show Xi U17 904 113 = Xi U16 904 113 from by rw [eU17]; exact Xi_ne (by omega)).trans ((show Xi U16 904 113 = Xi S 904 113 from by rw [eU16]; exact Xi_ne (by omega)))))
          have w210 : Xi U19 904 115 = Xi S 904 115 := (show Xi U19 904 115 = Xi T18 904 115 from by rw [eU19]; exact Xi_ne (by omega)).trans ( (show Xi T18 904 115 = Xi U17 904 115 from w180.x _ _ rfl).trans ( (show Xi U17 904 115 = Xi U16 904 115 from by rw [eU17]; exact Xi_ne (by omega)).trans ((show Xi U16 904 115 = Xi S 904 115 from by rw [eU16]; exact Xi_ne (by omega)))))
          have w211 : Xi U19 904 116 = Xi S 904 116 := (show Xi U19 904 116 = Xi T18 904 116 from by rw [eU19]; exact Xi_ne (by omega)).trans ( (show Xi T18 904 116 = Xi U17 904 116 from w180.x _ _ rfl).trans ( (show Xi U17 904 116 = Xi U16 904 116 from by rw [eU17]; exact Xi_ne (by omega)).trans ((show Xi U16 904 116 = Xi S 904 116 from by rw [eU16]; exact Xi_ne (by omega)))))
          have w212 : Xi U19 904 15 = Xi S 904 15 := (show Xi U19 904 15 = Xi T18 904 15 from by rw [eU19]; exact Xi_ne (by omega)).trans ( (show Xi T18 904 15 = Xi U17 904 15 from w180.x _ _ rfl).trans ( (show Xi U17 904 15 = Xi U16 904 15 from by rw [eU17]; exact Xi_ne (by omega)).trans ((show Xi U16 904 15 = Xi S 904 15 from by rw [eU16]; exact Xi_ne (by omega)))))
          have w213 : Xi U19 904 32 = Xi S 904 32 := (show Xi U19 904 32 = Xi T18 904 32 from by rw [eU19]; exact Xi_ne (by omega)).trans ( (show Xi T18 904 32 = Xi U17 904 32 from w180.x _ _ rfl).trans ( (show Xi U17 904 32 = Xi U16 904 32 from by rw [eU17]; exact Xi_ne (by omega)).trans ((show Xi U16 904 32 = Xi S 904 32 from by rw [eU16]; exact Xi_ne (by omega)))))
          refine y_callV rfl rfl rfl (t_mo_kindOfThing__p hHU19 z179 ⟨by omega, by omega⟩ _) ?_
          rintro _ _ ⟨rfl, z214, rfl, w214, k178⟩
          show Pl _ _ _ _ _ _ [iv z214, iv (Xi U19 951 (((Xi U19 956 ((i).toNat))).toNat)), iv (Xi U19 950 (((Xi U19 956 ((i).toNat))).toNat)), .ref 904] _ _
          have k178_ : z214 = ktC S (mT1 S i) := by have u := k178; rw [M107.1] at u; unfold ktC at u ⊢; rw [hFU19.x 904 115 rfl, hFU19.x 904 116 rfl, (hFU19.cx 918 rfl _).1] at u; exact u
          have b178 : -1 ≤ z214 ∧ z214 ≤ 15 := by have u := hkx.o (mT1 S i).toNat; rw [k178_]; unfold ktC; split; omega; split; omega; split; omega; exact u
          refine y_iload_n rfl rfl ?_
          refine y_if_ne rfl rfl (by unfold rg; omega) (fun w215 => ?_) (fun w216 => ?_)
          · refine y_iconst rfl ?_
            refine y_aload_n rfl rfl ?_
            refine y_gfr rfl rfl rfl rfl rfl (hHU19.r 904 83 953 rfl) ?_
            refine y_iload_n rfl rfl ?_
            refine y_baloadP (n := 1700) rfl rfl rfl (by decide) (by unfold rg; omega) (fun w217 w218 => ?_)
            have w219 : (Xi U19 953 ((i).toNat)) = (Xi U16 953 ((i).toNat)) := (show Xi U19 953 ((i).toNat) = Xi T18 953 ((i).toNat) from by rw [eU19]; exact Xi_ne (by omega)).trans ( (show Xi T18 953 ((i).toNat) = Xi U17 953 ((i).toNat) from w180.x _ _ rfl).trans ((show Xi U17 953 ((i).toNat) = Xi U16 953 ((i).toNat) from by rw [eU17]; exact Xi_ne (by omega))))
            rw [w219]
            have n195 : (Xi U16 953 ((i).toNat)) = Xi S 953 i.toNat := by first | exact n22 | exact (hFU19.cx 953 rfl _).1
            refine y_if_ne rfl rfl (by unfold rg; omega) (fun w220 => ?_) (fun w221 => ?_)
            · refine y_iconst rfl ?_
              refine y_callV rfl rfl rfl (t_mo_adjective__p hHU19 (Xi U19 950 (((Xi U19 956 ((i).toNat))).toNat)) (Xi U19 951 (((Xi U19 956 ((i).toNat))).toNat)) z214 0 0 ⟨by omega, by omega⟩ ⟨by omega, by omega⟩ ⟨by omega, by omega⟩ ⟨by omega, by omega⟩ ⟨by omega, by omega⟩ (by first | assumption | exact (LSP_FR hFU19 rfl rfl (by assumption : LSP S))) (by first | assumption | omega) (LXR_FR hFU19 rfl rfl hLX) (by first | assumption | exact (ABV_FR hFU19 rfl (by assumption : ABV S))) (by first | assumption | omega) _) ?_
              rintro _ T20 ⟨hHT20, w228, z227, rfl, w227, v204, a204⟩
              have hFT20 : FR md_mo_testMeant__3k S T20 := FR.tr hFU19 w228 rfl
              show Pl _ _ _ _ _ _ [iv z227] _ _
              have F204 := (by assumption : FR md_mo_adjective__p U19 T20)
              have G204 : AMR S U19 := AMR_FR hFU19 rfl rfl
              have v204_ := v204
              have a204_ := a204
              rw [adR_am G204, y167, z174, k178_] at v204_
              rw [acR_am G204, y167, z174, k178_] at a204_
              have K204 : True := trivial
              refine y_istore rfl rfl rfl ?_
              have V207 : z227 = (aT3 S i isNow) := by unfold aT3; first | (have u := K204; rw [if_neg (by omega)]; first | (rw [show 1 - isNow = 0 by omega, show 1 - Xi S 953 i.toNat = 0 by omega]; exact v204_) | (rw [show 1 - isNow = 0 by omega, show 1 - Xi S 953 i.toNat = 1 by omega]; exact v204_) | (rw [show 1 - isNow = 1 by omega, show 1 - Xi S 953 i.toNat = 0 by omega]; exact v204_) | (rw [show 1 - isNow = 1 by omega, show 1 - Xi S 953 i.toNat = 1 by omega]; exact v204_)) | (rw [if_pos (by omega)])
              have C207 : Hid (0 < (aT3 S i isNow) → Xi T20 904 113 = cT3 S i isNow) := by first | (have u := K204; unfold cT3; first | (rw [show 1 - isNow = 0 by omega, show 1 - Xi S 953 i.toNat = 0 by omega]; exact fun _ => a204_) | (rw [show 1 - isNow = 0 by omega, show 1 - Xi S 953 i.toNat = 1 by omega]; exact fun _ => a204_) | (rw [show 1 - isNow = 1 by omega, show 1 - Xi S 953 i.toNat = 0 by omega]; exact fun _ => a204_) | (rw [show 1 - isNow = 1 by omega, show 1 - Xi S 953 i.toNat = 1 by omega]; exact fun _ => a204_)) | exact fun w => absurd w (by omega)
              have N207 : NT3 T20 = nT1 S i := by first | (have u := K204; exact (NT3_FR F204 rfl).trans N119) | exact N119
              have B207 : Hid (TMB S T20 i q) := by first | (have u := K204; exact tmb_k B119 (F204.x 969 _ rfl) (F204.x 970 _ rfl) (F204.x 971 _ rfl)) | exact B119
              have w229 : Xi T20 904 115 = Xi S 904 115 := (show Xi T20 904 115 = Xi U19 904 115 from w228.x _ _ rfl).trans ( (show Xi U19 904 115 = Xi T18 904 115 from by rw [eU19]; exact Xi_ne (by omega)).trans ( (show Xi T18 904 115 = Xi U17 904 115 from w180.x _ _ rfl).trans ( (show Xi U17 904 115 = Xi U16 904 115 from by rw [eU17]; exact Xi_ne (by omega)).trans ((show Xi U16 904 115 = Xi S 904 115 from by rw [eU16]; exact Xi_ne (by omega))))))
              have w230 : Xi T20 904 116 = Xi S 904 116 := (show Xi T20 904 116 = Xi U19 904 116 from w228.x _ _ rfl).trans ( (show Xi U19 904 116 = Xi T18 904 116 from by rw [eU19]; exact Xi_ne (by omega)).trans ( (show Xi T18 904 116 = Xi U17 904 116 from w180.x _ _ rfl).trans ( (show Xi U17 904 116 = Xi U16 904 116 from by rw [eU17]; exact Xi_ne (by omega)).trans ((show Xi U16 904 116 = Xi S 904 116 from by rw [eU16]; exact Xi_ne (by omega))))))
              have w231 : Xi T20 904 15 = Xi S 904 15 := (show Xi T20 904 15 = Xi U19 904 15 from w228.x _ _ rfl).trans ( (show Xi U19 904 15 = Xi T18 904 15 from by rw [eU19]; exact Xi_ne (by omega)).trans ( (show Xi T18 904 15 = Xi U17 904 15 from w180.x _ _ rfl).trans ( (show Xi U17 904 15 = Xi U16 904 15 from by rw [eU17]; exact Xi_ne (by omega)).trans ((show Xi U16 904 15 = Xi S 904 15 from by rw [eU16]; exact Xi_ne (by omega))))))
              have w232 : Xi T20 904 32 = Xi S 904 32 := (show Xi T20 904 32 = Xi U19 904 32 from w228.x _ _ rfl).trans ( (show Xi U19 904 32 = Xi T18 904 32 from by rw [eU19]; exact Xi_ne (by omega)).trans ( (show Xi T18 904 32 = Xi U17 904 32 from w180.x _ _ rfl).trans ( (show Xi U17 904 32 = Xi U16 904 32 from by rw [eU17]; exact Xi_ne (by omega)).trans ((show Xi U16 904 32 = Xi S 904 32 from by rw [eU16]; exact Xi_ne (by omega))))))
              exact Pl_weak (C209 T20 hHT20 hFT20 ((Xi U19 956 ((i).toNat))) (z227) (by omega) (by omega) (r143) (V207) (fun w => absurd (M107.1.trans w) (by omega)) (C207) (N207) (B207) ((KQ_FR w228 rfl (KQ.w (KQ_FR w180 rfl (KQ.w (KQ.w KQ.rf eU16 (by omega)) eU17 (by omega))) eU19 (by omega))))) (by omega) (And.intro rfl (And.intro rfl (And.intro rfl (And.intro rfl (True.intro)))))
            · refine y_iconst rfl ?_
              refine y_goto rfl rfl ?_
              refine y_callV rfl rfl rfl (t_mo_adjective__p hHU19 (Xi U19 950 (((Xi U19 956 ((i).toNat))).toNat)) (Xi U19 951 (((Xi U19 956 ((i).toNat))).toNat)) z214 0 1 ⟨by omega, by omega⟩ ⟨by omega, by omega⟩ ⟨by omega, by omega⟩ ⟨by omega, by omega⟩ ⟨by omega, by omega⟩ (by first | assumption | exact (LSP_FR hFU19 rfl rfl (by assumption : LSP S))) (by first | assumption | omega) (LXR_FR hFU19 rfl rfl hLX) (by first | assumption | exact (ABV_FR hFU19 rfl (by assumption : ABV S))) (by first | assumption | omega) _) ?_
              rintro _ T21 ⟨hHT21, w239, z238, rfl, w238, v204, a204⟩
              have hFT21 : FR md_mo_testMeant__3k S T21 := FR.tr hFU19 w239 rfl
              show Pl _ _ _ _ _ _ [iv z238] _ _
              have F204 := (by assumption : FR md_mo_adjective__p U19 T21)
              have G204 : AMR S U19 := AMR_FR hFU19 rfl rfl
              have v204_ := v204
              have a204_ := a204
              rw [adR_am G204, y167, z174, k178_] at v204_
              rw [acR_am G204, y167, z174, k178_] at a204_
              have K204 : True := trivial
              refine y_istore rfl rfl rfl ?_
              have V207 : z238 = (aT3 S i isNow) := by unfold aT3; first | (have u := K204; rw [if_neg (by omega)]; first | (rw [show 1 - isNow = 0 by omega, show 1 - Xi S 953 i.toNat = 0 by omega]; exact v204_) | (rw [show 1 - isNow = 0 by omega, show 1 - Xi S 953 i.toNat = 1 by omega]; exact v204_) | (rw [show 1 - isNow = 1 by omega, show 1 - Xi S 953 i.toNat = 0 by omega]; exact v204_) | (rw [show 1 - isNow = 1 by omega, show 1 - Xi S 953 i.toNat = 1 by omega]; exact v204_)) | (rw [if_pos (by omega)])
              have C207 : Hid (0 < (aT3 S i isNow) → Xi T21 904 113 = cT3 S i isNow) := by first | (have u := K204; unfold cT3; first | (rw [show 1 - isNow = 0 by omega, show 1 - Xi S 953 i.toNat = 0 by omega]; exact fun _ => a204_) | (rw [show 1 - isNow = 0 by omega, show 1 - Xi S 953 i.toNat = 1 by omega]; exact fun _ => a204_) | (rw [show 1 - isNow = 1 by omega, show 1 - Xi S 953 i.toNat = 0 by omega]; exact fun _ => a204_) | (rw [show 1 - isNow = 1 by omega, show 1 - Xi S 953 i.toNat = 1 by omega]; exact fun _ => a204_)) | exact fun w => absurd w (by omega)
              have N207 : NT3 T21 = nT1 S i := by first | (have u := K204; exact (NT3_FR F204 rfl).trans N119) | exact N119
              have B207 : Hid (TMB S T21 i q) := by first | (have u := K204; exact tmb_k B119 (F204.x 969 _ rfl) (F204.x 970 _ rfl) (F204.x 971 _ rfl)) | exact B119
              have w240 : Xi T21 904 115 = Xi S 904 115 := (show Xi T21 904 115 = Xi U19 904 115 from w239.x _ _ rfl).trans ( (show Xi U19 904 115 = Xi T18 904 115 from by rw [eU19]; exact Xi_ne (by omega)).trans ( (show Xi T18 904 115 = Xi U17 904 115 from w180.x _ _ rfl).trans ( (show Xi U17 904 115 = Xi U16 904 115 from by rw [eU17]; exact Xi_ne (by omega)).trans ((show Xi U16 904 115 = Xi S 904 115 from by rw [eU16]; exact Xi_ne (by omega))))))
              have w241 : Xi T21 904 116 = Xi S 904 116 := (show Xi T21 904 116 = Xi U19 904 116 from w239.x _ _ rfl).trans ( (show Xi U19 904 116 = Xi T18 904 116 from by rw [eU19]; exact Xi_ne (by omega)).trans ( (show Xi T18 904 116 = Xi U17 904 116 from w180.x _ _ rfl).trans ( (show Xi U17 904 116 = Xi U16 904 116 from by rw [eU17]; exact Xi_ne (by omega)).trans ((show Xi U16 904 116 = Xi S 904 116 from by rw [eU16]; exact Xi_ne (by omega))))))
              have w242 : Xi T21 904 15 = Xi S 904 15 := (show Xi T21 904 15 = Xi U19 904 15 from w239.x _ _ rfl).trans ( (show Xi U19 904 15 = Xi T18 904 15 from by rw [eU19]; exact Xi_ne (by omega)).trans ( (show Xi T18 904 15 = Xi U17 904 15 from w180.x _ _ rfl).trans ( (show Xi U17 904 15 = Xi U16 904 15 from by rw [eU17]; exact Xi_ne (by omega)).trans ((show Xi U16 904 15 = Xi S 904 15 from by rw [eU16]; exact Xi_ne (by omega))))))
              have w243 : Xi T21 904 32 = Xi S 904 32 := (show Xi T21 904 32 = Xi U19 904 32 from w239.x _ _ rfl).trans ( (show Xi U19 904 32 = Xi T18 904 32 from by rw [eU19]; exact Xi_ne (by omega)).trans ( (show Xi T18 904 32 = Xi U17 904 32 from w180.x _ _ rfl).trans ( (show Xi U17 904 32 = Xi U16 904 32 from by rw [eU17]; exact Xi_ne (by omega)).trans ((show Xi U16 904 32 = Xi S 904 32 from by rw [eU16]; exact Xi_ne (by omega))))))
              exact Pl_weak (C209 T21 hHT21 hFT21 ((Xi U19 956 ((i).toNat))) (z238) (by omega) (by omega) (r143) (V207) (fun w => absurd (M107.1.trans w) (by omega)) (C207) (N207) (B207) ((KQ_FR w239 rfl (KQ.w (KQ_FR w180 rfl (KQ.w (KQ.w KQ.rf eU16 (by omega)) eU17 (by omega))) eU19 (by omega))))) (by omega) (And.intro rfl (And.intro rfl (And.intro rfl (And.intro rfl (True.intro)))))
          · refine y_iconst rfl ?_
            refine y_goto rfl rfl ?_
            refine y_aload_n rfl rfl ?_
            refine y_gfr rfl rfl rfl rfl rfl (hHU19.r 904 83 953 rfl) ?_
            refine y_iload_n rfl rfl ?_
            refine y_baloadP (n := 1700) rfl rfl rfl (by decide) (by unfold rg; omega) (fun w244 w245 => ?_)
            have w246 : (Xi U19 953 ((i).toNat)) = (Xi U16 953 ((i).toNat)) := (show Xi U19 953 ((i).toNat) = Xi T18 953 ((i).toNat) from by rw [eU19]; exact Xi_ne (by omega)).trans ( (show Xi T18 953 ((i).toNat) = Xi U17 953 ((i).toNat) from w180.x _ _ rfl).trans ((show Xi U17 953 ((i).toNat) = Xi U16 953 ((i).toNat) from by rw [eU17]; exact Xi_ne (by omega))))
            rw [w246]
            have n195 : (Xi U16 953 ((i).toNat)) = Xi S 953 i.toNat := by first | exact n22 | exact (hFU19.cx 953 rfl _).1
            refine y_if_ne rfl rfl (by unfold rg; omega) (fun w247 => ?_) (fun w248 => ?_)
            · refine y_iconst rfl ?_
              refine y_callV rfl rfl rfl (t_mo_adjective__p hHU19 (Xi U19 950 (((Xi U19 956 ((i).toNat))).toNat)) (Xi U19 951 (((Xi U19 956 ((i).toNat))).toNat)) z214 1 0 ⟨by omega, by omega⟩ ⟨by omega, by omega⟩ ⟨by omega, by omega⟩ ⟨by omega, by omega⟩ ⟨by omega, by omega⟩ (by first | assumption | exact (LSP_FR hFU19 rfl rfl (by assumption : LSP S))) (by first | assumption | omega) (LXR_FR hFU19 rfl rfl hLX) (by first | assumption | exact (ABV_FR hFU19 rfl (by assumption : ABV S))) (by first | assumption | omega) _) ?_
              rintro _ T22 ⟨hHT22, w255, z254, rfl, w254, v204, a204⟩
              have hFT22 : FR md_mo_testMeant__3k S T22 := FR.tr hFU19 w255 rfl
              show Pl _ _ _ _ _ _ [iv z254] _ _
              have F204 := (by assumption : FR md_mo_adjective__p U19 T22)
              have G204 : AMR S U19 := AMR_FR hFU19 rfl rfl
              have v204_ := v204
              have a204_ := a204
              rw [adR_am G204, y167, z174, k178_] at v204_
              rw [acR_am G204, y167, z174, k178_] at a204_
              have K204 : True := trivial
              refine y_istore rfl rfl rfl ?_
              have V207 : z254 = (aT3 S i isNow) := by unfold aT3; first | (have u := K204; rw [if_neg (by omega)]; first | (rw [show 1 - isNow = 0 by omega, show 1 - Xi S 953 i.toNat = 0 by omega]; exact v204_) | (rw [show 1 - isNow = 0 by omega, show 1 - Xi S 953 i.toNat = 1 by omega]; exact v204_) | (rw [show 1 - isNow = 1 by omega, show 1 - Xi S 953 i.toNat = 0 by omega]; exact v204_) | (rw [show 1 - isNow = 1 by omega, show 1 - Xi S 953 i.toNat = 1 by omega]; exact v204_)) | (rw [if_pos (by omega)])
              have C207 : Hid (0 < (aT3 S i isNow) → Xi T22 904 113 = cT3 S i isNow) := by first | (have u := K204; unfold cT3; first | (rw [show 1 - isNow = 0 by omega, show 1 - Xi S 953 i.toNat = 0 by omega]; exact fun _ => a204_) | (rw [show 1 - isNow = 0 by omega, show 1 - Xi S 953 i.toNat = 1 by omega]; exact fun _ => a204_) | (rw [show 1 - isNow = 1 by omega, show 1 - Xi S 953 i.toNat = 0 by omega]; exact fun _ => a204_) | (rw [show 1 - isNow = 1 by omega, show 1 - Xi S 953 i.toNat = 1 by omega]; exact fun _ => a204_)) | exact fun w => absurd w (by omega)
              have N207 : NT3 T22 = nT1 S i := by first | (have u := K204; exact (NT3_FR F204 rfl).trans N119) | exact N119
              have B207 : Hid (TMB S T22 i q) := by first | (have u := K204; exact tmb_k B119 (F204.x 969 _ rfl) (F204.x 970 _ rfl) (F204.x 971 _ rfl)) | exact B119
              have w256 : Xi T22 904 115 = Xi S 904 115 := (show Xi T22 904 115 = Xi U19 904 115 from w255.x _ _ rfl).trans ( (show Xi U19 904 115 = Xi T18 904 115 from by rw [eU19]; exact Xi_ne (by omega)).trans ( (show Xi T18 904 115 = Xi U17 904 115 from w180.x _ _ rfl).trans ( (show Xi U17 904 115 = Xi U16 904 115 from by rw [eU17]; exact Xi_ne (by omega)).trans ((show Xi U16 904 115 = Xi S 904 115 from by rw [eU16]; exact Xi_ne (by omega))))))
              have w257 : Xi T22 904 116 = Xi S 904 116 := (show Xi T22 904 116 = Xi U19 904 116 from w255.x _ _ rfl).trans ( (show Xi U19 904 116 = Xi T18 904 116 from by rw [eU19]; exact Xi_ne (by omega)).trans ( (show Xi T18 904 116 = Xi U17 904 116 from w180.x _ _ rfl).trans ( (show Xi U17 904 116 = Xi U16 904 116 from by rw [eU17]; exact Xi_ne (by omega)).trans ((show Xi U16 904 116 = Xi S 904 116 from by rw [eU16]; exact Xi_ne (by omega))))))
              have w258 : Xi T22 904 15 = Xi S 904 15 := (show Xi T22 904 15 = Xi U19 904 15 from w255.x _ _ rfl).trans ( (show Xi U19 904 15 = Xi T18 904 15 from by rw [eU19]; exact Xi_ne (by omega)).trans ( (show Xi T18 904 15 = Xi U17 904 15 from w180.x _ _ rfl).trans ( (show Xi U17 904 15 = Xi U16 904 15 from by rw [eU17]; exact Xi_ne (by omega)).trans ((show Xi U16 904 15 = Xi S 904 15 from by rw [eU16]; exact Xi_ne (by omega))))))
              have w259 : Xi T22 904 32 = Xi S 904 32 := (show Xi T22 904 32 = Xi U19 904 32 from w255.x _ _ rfl).trans ( (show Xi U19 904 32 = Xi T18 904 32 from by rw [eU19]; exact Xi_ne (by omega)).trans ( (show Xi T18 904 32 = Xi U17 904 32 from w180.x _ _ rfl).trans ( (show Xi U17 904 32 = Xi U16 904 32 from by rw [eU17]; exact Xi_ne (by omega)).trans ((show Xi U16 904 32 = Xi S 904 32 from by rw [eU16]; exact Xi_ne (by omega))))))
              exact Pl_weak (C209 T22 hHT22 hFT22 ((Xi U19 956 ((i).toNat))) (z254) (by omega) (by omega) (r143) (V207) (fun w => absurd (M107.1.trans w) (by omega)) (C207) (N207) (B207) ((KQ_FR w255 rfl (KQ.w (KQ_FR w180 rfl (KQ.w (KQ.w KQ.rf eU16 (by omega)) eU17 (by omega))) eU19 (by omega))))) (by omega) (And.intro rfl (And.intro rfl (And.intro rfl (And.intro rfl (True.intro)))))
            · refine y_iconst rfl ?_
              refine y_goto rfl rfl ?_
              refine y_callV rfl rfl rfl (t_mo_adjective__p hHU19 (Xi U19 950 (((Xi U19 956 ((i).toNat))).toNat)) (Xi U19 951 (((Xi U19 956 ((i).toNat))).toNat)) z214 1 1 ⟨by omega, by omega⟩ ⟨by omega, by omega⟩ ⟨by omega, by omega⟩ ⟨by omega, by omega⟩ ⟨by omega, by omega⟩ (by first | assumption | exact (LSP_FR hFU19 rfl rfl (by assumption : LSP S))) (by first | assumption | omega) (LXR_FR hFU19 rfl rfl hLX) (by first | assumption | exact (ABV_FR hFU19 rfl (by assumption : ABV S))) (by first | assumption | omega) _) ?_
              rintro _ T23 ⟨hHT23, w266, z265, rfl, w265, v204, a204⟩
              have hFT23 : FR md_mo_testMeant__3k S T23 := FR.tr hFU19 w266 rfl
              show Pl _ _ _ _ _ _ [iv z265] _ _
              have F204 := (by assumption : FR md_mo_adjective__p U19 T23)
              have G204 : AMR S U19 := AMR_FR hFU19 rfl rfl
              have v204_ := v204
              have a204_ := a204
              rw [adR_am G204, y167, z174, k178_] at v204_
              rw [acR_am G204, y167, z174, k178_] at a204_
              have K204 : True := trivial
              refine y_istore rfl rfl rfl ?_
              have V207 : z265 = (aT3 S i isNow) := by unfold aT3; first | (have u := K204; rw [if_neg (by omega)]; first | (rw [show 1 - isNow = 0 by omega, show 1 - Xi S 953 i.toNat = 0 by omega]; exact v204_) | (rw [show 1 - isNow = 0 by omega, show 1 - Xi S 953 i.toNat = 1 by omega]; exact v204_) | (rw [show 1 - isNow = 1 by omega, show 1 - Xi S 953 i.toNat = 0 by omega]; exact v204_) | (rw [show 1 - isNow = 1 by omega, show 1 - Xi S 953 i.toNat = 1 by omega]; exact v204_)) | (rw [if_pos (by omega)])
              have C207 : Hid (0 < (aT3 S i isNow) → Xi T23 904 113 = cT3 S i isNow) := by first | (have u := K204; unfold cT3; first | (rw [show 1 - isNow = 0 by omega, show 1 - Xi S 953 i.toNat = 0 by omega]; exact fun _ => a204_) | (rw [show 1 - isNow = 0 by omega, show 1 - Xi S 953 i.toNat = 1 by omega]; exact fun _ => a204_) | (rw [show 1 - isNow = 1 by omega, show 1 - Xi S 953 i.toNat = 0 by omega]; exact fun _ => a204_) | (rw [show 1 - isNow = 1 by omega, show 1 - Xi S 953 i.toNat = 1 by omega]; exact fun _ => a204_)) | exact fun w => absurd w (by omega)
              have N207 : NT3 T23 = nT1 S i := by first | (have u := K204; exact (NT3_FR F204 rfl).trans N119) | exact N119
              have B207 : Hid (TMB S T23 i q) := by first | (have u := K204; exact tmb_k B119 (F204.x 969 _ rfl) (F204.x 970 _ rfl) (F204.x 971 _ rfl)) | exact B119
              have w267 : Xi T23 904 115 = Xi S 904 115 := (show Xi T23 904 115 = Xi U19 904 115 from w266.x _ _ rfl).trans ( (show Xi U19 904 115 = Xi T18 904 115 from by rw [eU19]; exact Xi_ne (by omega)).trans ( (show Xi T18 904 115 = Xi U17 904 115 from w180.x _ _ rfl).trans ( (show Xi U17 904 115 = Xi U16 904 115 from by rw [eU17]; exact Xi_ne (by omega)).trans ((show Xi U16 904 115 = Xi S 904 115 from by rw [eU16]; exact Xi_ne (by omega))))))
              have w268 : Xi T23 904 116 = Xi S 904 116 := (show Xi T23 904 116 = Xi U19 904 116 from w266.x _ _ rfl).trans ( (show Xi U19 904 116 = Xi T18 904 116 from by rw [eU19]; exact Xi_ne (by omega)).trans ( (show Xi T18 904 116 = Xi U17 904 116 from w180.x _ _ rfl).trans ( (show Xi U17 904 116 = Xi U16 904 116 from by rw [eU17]; exact Xi_ne (by omega)).trans ((show Xi U16 904 116 = Xi S 904 116 from by rw [eU16]; exact Xi_ne (by omega))))))
              have w269 : Xi T23 904 15 = Xi S 904 15 := (show Xi T23 904 15 = Xi U19 904 15 from w266.x _ _ rfl).trans ( (show Xi U19 904 15 = Xi T18 904 15 from by rw [eU19]; exact Xi_ne (by omega)).trans ( (show Xi T18 904 15 = Xi U17 904 15 from w180.x _ _ rfl).trans ( (show Xi U17 904 15 = Xi U16 904 15 from by rw [eU17]; exact Xi_ne (by omega)).trans ((show Xi U16 904 15 = Xi S 904 15 from by rw [eU16]; exact Xi_ne (by omega))))))
              have w270 : Xi T23 904 32 = Xi S 904 32 := (show Xi T23 904 32 = Xi U19 904 32 from w266.x _ _ rfl).trans ( (show Xi U19 904 32 = Xi T18 904 32 from by rw [eU19]; exact Xi_ne (by omega)).trans ( (show Xi T18 904 32 = Xi U17 904 32 from w180.x _ _ rfl).trans ( (show Xi U17 904 32 = Xi U16 904 32 from by rw [eU17]; exact Xi_ne (by omega)).trans ((show Xi U16 904 32 = Xi S 904 32 from by rw [eU16]; exact Xi_ne (by omega))))))
              exact Pl_weak (C209 T23 hHT23 hFT23 ((Xi U19 956 ((i).toNat))) (z265) (by omega) (by omega) (r143) (V207) (fun w => absurd (M107.1.trans w) (by omega)) (C207) (N207) (B207) ((KQ_FR w266 rfl (KQ.w (KQ_FR w180 rfl (KQ.w (KQ.w KQ.rf eU16 (by omega)) eU17 (by omega))) eU19 (by omega))))) (by omega) (And.intro rfl (And.intro rfl (And.intro rfl (And.intro rfl (True.intro)))))
        · refine y_iconst rfl ?_
          refine y_goto rfl rfl ?_
          refine y_istore rfl rfl rfl ?_
          have V207 : 0 = (aT3 S i isNow) := by unfold aT3; first | (have u := K204; rw [if_neg (by omega)]; first | (rw [show 1 - isNow = 0 by omega, show 1 - Xi S 953 i.toNat = 0 by omega]; exact v204_) | (rw [show 1 - isNow = 0 by omega, show 1 - Xi S 953 i.toNat = 1 by omega]; exact v204_) | (rw [show 1 - isNow = 1 by omega, show 1 - Xi S 953 i.toNat = 0 by omega]; exact v204_) | (rw [show 1 - isNow = 1 by omega, show 1 - Xi S 953 i.toNat = 1 by omega]; exact v204_)) | (rw [if_pos (by omega)])
          have C207 : Hid (0 < (aT3 S i isNow) → Xi U19 904 113 = cT3 S i isNow) := by first | (have u := K204; unfold cT3; first | (rw [show 1 - isNow = 0 by omega, show 1 - Xi S 953 i.toNat = 0 by omega]; exact fun _ => a204_) | (rw [show 1 - isNow = 0 by omega, show 1 - Xi S 953 i.toNat = 1 by omega]; exact fun _ => a204_) | (rw [show 1 - isNow = 1 by omega, show 1 - Xi S 953 i.toNat = 0 by omega]; exact fun _ => a204_) | (rw [show 1 - isNow = 1 by omega, show 1 - Xi S 953 i.toNat = 1 by omega]; exact fun _ => a204_)) | exact fun w => absurd w (by omega)
          have N207 : NT3 U19 = nT1 S i := by first | (have u := K204; exact (NT3_FR F204 rfl).trans N119) | exact N119
          have B207 : Hid (TMB S U19 i q) := by first | (have u := K204; exact tmb_k B119 (F204.x 969 _ rfl) (F204.x 970 _ rfl) (F204.x 971 _ rfl)) | exact B119
          have w271 : Xi U19 904 113 = Xi S 904 113 := (show Xi U19 904 113 = Xi T18 904 113 from by rw [eU19]; exact Xi_ne (by omega)).trans ( (show Xi T18 904 113 = Xi U17 904 113 from w180.x _ _ rfl).trans ( (show Xi U17 904 113 = Xi U16 904 113 from by rw [eU17]; exact Xi_ne (by omega)).trans ((show Xi U16 904 113 = Xi S 904 113 from by rw [eU16]; exact Xi_ne (by omega)))))
          have w272 : Xi U19 904 115 = Xi S 904 115 := (show Xi U19 904 115 = Xi T18 904 115 from by rw [eU19]; exact Xi_ne (by omega)).trans ( (show Xi T18 904 115 = Xi U17 904 115 from w180.x _ _ rfl).trans ( (show Xi U17 904 115 = Xi U16 904 115 from by rw [eU17]; exact Xi_ne (by omega)).trans ((show Xi U16 904 115 = Xi S 904 115 from by rw [eU16]; exact Xi_ne (by omega)))))
          have w273 : Xi U19 904 116 = Xi S 904 116 := (show Xi U19 904 116 = Xi T18 904 116 from by rw [eU19]; exact Xi_ne (by omega)).trans ( (show Xi T18 904 116 = Xi U17 904 116 from w180.x _ _ rfl).trans ( (show Xi U17 904 116 = Xi U16 904 116 from by rw [eU17]; exact Xi_ne (by omega)).trans ((show Xi U16 904 116 = Xi S 904 116 from by rw [eU16]; exact Xi_ne (by omega)))))
          have w274 : Xi U19 904 15 = Xi S 904 15 := (show Xi U19 904 15 = Xi T18 904 15 from by rw [eU19]; exact Xi_ne (by omega)).trans ( (show Xi T18 904 15 = Xi U17 904 15 from w180.x _ _ rfl).trans ( (show Xi U17 904 15 = Xi U16 904 15 from by rw [eU17]; exact Xi_ne (by omega)).trans ((show Xi U16 904 15 = Xi S 904 15 from by rw [eU16]; exact Xi_ne (by omega)))))
          have w275 : Xi U19 904 32 = Xi S 904 32 := (show Xi U19 904 32 = Xi T18 904 32 from by rw [eU19]; exact Xi_ne (by omega)).trans ( (show Xi T18 904 32 = Xi U17 904 32 from w180.x _ _ rfl).trans ( (show Xi U17 904 32 = Xi U16 904 32 from by rw [eU17]; exact Xi_ne (by omega)).trans ((show Xi U16 904 32 = Xi S 904 32 from by rw [eU16]; exact Xi_ne (by omega)))))
          exact Pl_weak (C209 U19 hHU19 hFU19 ((Xi U19 956 ((i).toNat))) (0) (by omega) (by omega) (r143) (V207) (fun w => absurd (M107.1.trans w) (by omega)) (C207) (N207) (B207) ((KQ.w (KQ_FR w180 rfl (KQ.w (KQ.w KQ.rf eU16 (by omega)) eU17 (by omega))) eU19 (by omega)))) (by omega) (And.intro rfl (And.intro rfl (And.intro rfl (And.intro rfl (True.intro)))))
  · exfalso; omega
/-! tests of the reference: one test, whatever its form -/
def TRK (S : sS) (i : Int) : Prop := (0 ≤ Xi S 952 i.toNat ∧ Xi S 952 i.toNat ≤ 5) ∧ (0 ≤ Xi S 953 i.toNat ∧ Xi S 953 i.toNat ≤ 1) ∧
  (Xi S 952 i.toNat = 5 → (0 ≤ Xi S 961 i.toNat ∧ Xi S 961 i.toNat ≤ 5140) ∧ (0 ≤ Xi S 962 i.toNat ∧ Xi S 962 i.toNat ≤ 5140)) ∧
  (Xi S 952 i.toNat ≠ 5 → 0 ≤ Xi S 954 i.toNat ∧ Xi S 954 i.toNat ≤ 29999) ∧ (Xi S 952 i.toNat = 4 → 0 ≤ Xi S 959 i.toNat ∧ Xi S 959 i.toNat ≤ 29999) ∧
  (Xi S 952 i.toNat = 3 → 0 ≤ Xi S 950 (rT3 S i).toNat ∧ Xi S 950 (rT3 S i).toNat ≤ 6000) ∧
  (Xi S 952 i.toNat ≤ 2 → -1 ≤ rnR S (Xi S 956 i.toNat) 7 ∧ rnR S (Xi S 956 i.toNat) 7 ≤ 11) ∧
  (Xi S 952 i.toNat = 0 → (Xi S 907 (Xi S 957 i.toNat).toNat = 4 → 0 ≤ Xj S 910 (Xi S 957 i.toNat).toNat ∧ Xj S 910 (Xi S 957 i.toNat).toNat ≤ 2147483647) ∧ Xi S 908 (Xi S 957 i.toNat).toNat ≤ 100000) ∧
  (Xi S 952 i.toNat = 1 ∨ Xi S 952 i.toNat = 2 → 0 ≤ Xj S 910 (Xi S 957 i.toNat).toNat ∧ Xj S 910 (Xi S 957 i.toNat).toNat ≤ 2147483647)
def TMX (S S1 : sS) (i q now : Int) : Prop := (Xi S 952 i.toNat = 5 → TM5 S S1 i q) ∧ (Xi S 952 i.toNat = 4 → TM4 S S1 i q) ∧ (Xi S 952 i.toNat = 3 → TM3 S S1 i q now) ∧ (Xi S 952 i.toNat = 0 → TM0 S S1 i q) ∧ (Xi S 952 i.toNat = 1 ∨ Xi S 952 i.toNat = 2 → TM1 S S1 i q) ∧ KQ S1 S q
def md_mo_testMeant__p : List rec := [(904, 905, 64, 65), (904, 905, 104, 105), (904, 905, 105, 106), (904, 905, 106, 107), (904, 905, 113, 114), (969, 970, 0, 100000), (970, 971, 0, 100000), (971, 972, 0, 100000), (972, 973, 0, 100000), (973, 974, 0, 100000), (974, 975, 0, 100000), (975, 976, 0, 100000)]
abbrev Q_mo_testMeant__p (S : sS) (i : Int) (q : Int) (isNow : Int) : pst := fun r S1 => RI S1 ∧ FR md_mo_testMeant__p S S1 ∧ (r = none ∧ (TMX S S1 i q isNow))
set_option maxRecDepth 100000 in
theorem t_mo_testMeant__p {S : sS} (hH : RI S) (i : Int) (q : Int) (isNow : Int) (hi : 0 ≤ i ∧ i ≤ 1699) (hq : 0 ≤ q ∧ q ≤ 2399) (hisNow : 0 ≤ isNow ∧ isNow ≤ 1) (hLS : LSP S) (h15 : 0 ≤ Xi S 904 15) (hRB : RBD S) (hB : ABV S) (hkx : Hid (∀ j : Nat, -1 ≤ Xi S 918 j ∧ Xi S 918 j ≤ 15)) (hit : (-1 ≤ Xi S 904 115 ∧ Xi S 904 115 ≤ 15) ∧ (-1 ≤ Xi S 904 116 ∧ Xi S 904 116 ≤ 15)) (hLX : LXR S) (hp32 : 0 ≤ Xi S 904 32 ∧ Xi S 904 32 ≤ 12) (htk : Hid (TRK S i)) (d : Nat) : Mp lay0 (d + 7) m_mo_testMeant [.ref 904, iv i, iv q, iv isNow] S (Q_mo_testMeant__p S i q isNow) := by
  obtain ⟨k0, k1, k2, k3, k4, k5, k6, k7, k8⟩ := htk.o
  have z : Xi S 952 i.toNat = 5 ∨ Xi S 952 i.toNat = 4 ∨ Xi S 952 i.toNat = 3 ∨ Xi S 952 i.toNat = 0 ∨ (Xi S 952 i.toNat = 1 ∨ Xi S 952 i.toNat = 2) := by omega
  rcases z with z | z | z | z | z
  · exact Mp_w (t_mo_testMeant__5k hH i q isNow hi hq hisNow hLS h15 hB hkx hit z k1 (k2 z) d) (fun r S1 o => ⟨o.1, o.2.1, o.2.2.1, fun _ => o.2.2.2.1, fun w => absurd w (by omega), fun w => absurd w (by omega), fun w => absurd w (by omega), fun w => absurd w (by omega), o.2.2.2.2⟩)
  · exact Mp_w (t_mo_testMeant__4k hH i q isNow hi hq hisNow hLS h15 hRB z k1 (k3 (by omega)) (k4 z) d) (fun r S1 o => ⟨o.1, o.2.1, o.2.2.1, fun w => absurd w (by omega), fun _ => o.2.2.2.1, fun w => absurd w (by omega), fun w => absurd w (by omega), fun w => absurd w (by omega), o.2.2.2.2⟩)
  · exact Mp_w (t_mo_testMeant__3k hH i q isNow hi hq hisNow hLS h15 hRB hB hkx hit hLX hp32 z k1 (k3 (by omega)) (k5 z) d) (fun r S1 o => ⟨o.1, o.2.1, o.2.2.1, fun w => absurd w (by omega), fun w => absurd w (by omega), fun _ => o.2.2.2.1, fun w => absurd w (by omega), fun w => absurd w (by omega), o.2.2.2.2⟩)
  · exact Mp_w (t_mo_testMeant__0k hH i q isNow hi hq hisNow hLS h15 hRB hB hkx hit z k1 (k3 (by omega)) (Hid.i (k6 (by omega))) (Hid.i (k7 z).1) (k7 z).2 d) (fun r S1 o => ⟨o.1, o.2.1, o.2.2.1, fun w => absurd w (by omega), fun w => absurd w (by omega), fun w => absurd w (by omega), fun _ => o.2.2.2.1, fun w => absurd w (by omega), o.2.2.2.2⟩)
  · exact Mp_w (t_mo_testMeant__1k hH i q isNow hi hq hisNow hLS h15 hRB hB hkx hit z k1 (k3 (by omega)) (Hid.i (k6 (by omega))) (k8 z) d) (fun r S1 o => ⟨o.1, o.2.1, o.2.2.1, fun w => absurd w (by omega), fun w => absurd w (by omega), fun w => absurd w (by omega), fun w => absurd w (by omega), fun _ => o.2.2.2.1, o.2.2.2.2⟩)
end
