section
/-! an object, or a new one -/
def OKA (S : sS) (f t k : Int) : Prop := fnd S 2 f t ≠ -1 ∧ (k = -1 ∨ isK S (Xi S 21 (fnd S 2 f t).toNat) k = 1)
def NWO1 (S S1 : sS) (f t : Int) : Prop := Xi S1 876 8 = 0 ∧ Xi S1 891 9 = Xi S 891 9 + 1 ∧ Xi S1 892 (Xi S 891 9).toNat = f ∧ Xi S1 893 (Xi S 891 9).toNat = t ∧ ∀ j : Nat, (j : Int) < Xi S 891 9 → Xi S1 892 j = Xi S 892 j ∧ Xi S1 893 j = Xi S 893 j
def TON (S S1 : sS) (z f t k : Int) : Prop :=
  (mnV S f t = -1 → ¬ nwC S f t → z = 0 ∧ FTO S S1 3 f) ∧
  (mnV S f t = -1 → nwC S f t → 24 ≤ Xi S 5 2 + Xi S 891 9 → z = 0 ∧ FTO S S1 9 f) ∧
  (mnV S f t = -1 → nwC S f t → Xi S 5 2 + Xi S 891 9 < 24 → z = 1 ∧ NWO1 S S1 f t) ∧
  (mnV S f t ≠ -1 → OKA S f t k → z = 1 ∧ S1 = S) ∧
  (mnV S f t ≠ -1 → ¬ OKA S f t k → z = 0 ∧ FTO S S1 4 f)
theorem ton_n {S S1 : sS} {z f t k : Int} (h : mnV S f t = -1) (n3 : ¬ nwC S f t → z = 0 ∧ FTO S S1 3 f) (n9 : nwC S f t → 24 ≤ Xi S 5 2 + Xi S 891 9 → z = 0 ∧ FTO S S1 9 f) (ok : nwC S f t → Xi S 5 2 + Xi S 891 9 < 24 → z = 1 ∧ NWO1 S S1 f t) : TON S S1 z f t k :=
  ⟨fun _ q => n3 q, fun _ q => n9 q, fun _ q => ok q, fun q => absurd h q, fun q => absurd h q⟩
theorem ton_y {S : sS} {f t k : Int} (h : mnV S f t ≠ -1) (a : OKA S f t k) : TON S S 1 f t k := ⟨fun q => absurd q h, fun q => absurd q h, fun q => absurd q h, fun _ _ => ⟨rfl, rfl⟩, fun _ q => absurd a q⟩
theorem ton_f {S S1 : sS} {z f t k : Int} (h : mnV S f t ≠ -1) (a : ¬ OKA S f t k) (hz : z = 0) (w : FTO S S1 4 f) : TON S S1 z f t k := ⟨fun q => absurd q h, fun q => absurd q h, fun q => absurd q h, fun _ q => absurd q a, fun _ _ => ⟨hz, w⟩⟩
/-- the second name -/
def sn2 (S : sS) : Int := if 2 ≤ nL S then kr7 (ty7 S) 1 else -1
theorem cR_run {T : Int → Int} {a : Int} (h0 : 0 ≤ a) (g : bg7 T a) : ∀ m : Nat, a + 1 + m ≤ re7 T a → cR T (a + 1 + m).toNat = cR T a.toNat + 1
  | 0, _ => by rw [show (a + 1 + ((0 : Nat) : Int)) = a + 1 by omega]; exact cR_y h0 g
  | m + 1, h => by
    have i := cR_run h0 g m (by omega)
    have p : T (a + m) = 100 := re_in (a := a) (by omega) (by omega)
    have q : ¬ bg7 T (a + 1 + m) := fun w => by
      rcases w.2 with z | z
      · omega
      · exact z (by rw [show a + 1 + (m : Int) - 1 = a + m by omega]; exact p)
    rw [show a + 1 + ((m + 1 : Nat) : Int) = a + 1 + m + 1 by omega, cR_n (by omega) q]
    exact i
/-- the LIST begins with its first name -/
def FN1 (S : sS) : Prop := bg7 (ty7 S) (bA (ty7 S) 0) ∧ cR (ty7 S) (bA (ty7 S) 0).toNat = 0 ∧ 0 ≤ bA (ty7 S) 0
theorem fn_c {S : sS} (h : FN1 S) : cR (ty7 S) (re7 (ty7 S) (bA (ty7 S) 0)).toNat = 1 := by
  have u := re7_c.1 h.1.1
  have t := cR_run h.2.2 h.1 (re7 (ty7 S) (bA (ty7 S) 0) - bA (ty7 S) 0 - 1).toNat (by omega)
  rw [show bA (ty7 S) 0 + 1 + (((re7 (ty7 S) (bA (ty7 S) 0) - bA (ty7 S) 0 - 1).toNat : Nat) : Int) = re7 (ty7 S) (bA (ty7 S) 0) by omega, h.2.1] at t
  exact t
theorem sn_y {S : sS} {v : Int} (c : cR (ty7 S) v.toNat = 1) (g : bg7 (ty7 S) v) (h0 : 0 ≤ v) (hv : v < Xi S 890 3) (hr : Xi S 876 7 ≤ 5130) (ht : Xi S 890 3 ≤ 5130) : v = sn2 S := by
  have t := cR_l h0 hv g
  unfold sn2
  rw [if_pos (show 2 ≤ nL S by unfold nL; omega)]
  have k := cR_b (ty_nf hr) (by omega) h0 (by omega) g
  rw [c] at k
  exact k.symm
theorem sn_n {S : sS} {v : Int} (c : cR (ty7 S) v.toNat = 1) (hv : Xi S 890 3 ≤ v) : (-1 : Int) = sn2 S := by
  have t := cR_m (T := ty7 S) (a := (Xi S 890 3).toNat) (b := v.toNat) (by omega)
  unfold sn2
  rw [if_neg (show ¬ 2 ≤ nL S by unfold nL; omega)]
/-- an object, made if it is new -/
def OBN (S S1 : sS) (z f t k : Int) : Prop :=
  (fnd S 2 f t ≠ -1 → z = fnd S 2 f t ∧ S1 = S) ∧
  (fnd S 2 f t = -1 → z = Xi S 5 2 ∧ TN1 S S1 2 (Xi S 5 2) f t ∧ Xi S1 5 2 = Xi S 5 2 + 1 ∧ (∀ j, j ≠ 2 → Xi S1 5 j = Xi S 5 j) ∧ (Xi S1 21 (Xi S 5 2).toNat = k ∧ Xi S1 22 (Xi S 5 2).toNat = 0 ∧ Xi S1 23 (Xi S 5 2).toNat = -1) ∧ ∀ j : Nat, j ≠ (Xi S 5 2).toNat → Xi S1 21 j = Xi S 21 j ∧ Xi S1 22 j = Xi S 22 j ∧ Xi S1 23 j = Xi S 23 j)
theorem obn_y {S : sS} {z f t k : Int} (h : z = fnd S 2 f t) (q : fnd S 2 f t ≠ -1) : OBN S S z f t k := ⟨fun _ => ⟨h, rfl⟩, fun w => absurd w q⟩
theorem obn_n {S A S1 : sS} {z f t k : Int} {l : List rec} (q : fnd S 2 f t = -1) (e : ∃ i : Nat, NMI S A i 2 z (wRw S 879 f t 0) (wRw S 879 f t 1) (wRw S 879 f t 2)) (hz : z = Xi S 5 2) (C : Xi A 5 2 = Xi S 5 2 + 1) (O : ∀ j, j ≠ 2 → Xi A 5 j = Xi S 5 j) (F : FR l S A) (m : S1 = mkO A z k) (hr : rg k) (a : kdis l [(21, 24)] = true := by rfl) : OBN S S1 z f t k := by
  subst hz
  have g : ∀ i j : Nat, i ≠ 21 → i ≠ 22 → i ≠ 23 → Xi S1 i j = Xi A i j := fun i j h1 h2 h3 => by rw [m]; unfold mkO; rw [Xi_ne (by omega), Xi_ne (by omega), Xi_ne (by omega)]
  have gj : ∀ i j : Nat, Xj S1 i j = Xj A i j := fun i j => by rw [m]; unfold mkO; rw [Xj_I, Xj_I, Xj_I]
  have fr : ∀ j, Xi A 21 j = Xi S 21 j ∧ Xi A 22 j = Xi S 22 j ∧ Xi A 23 j = Xi S 23 j := fun j => ⟨(F.smk a).x 21 rfl j, (F.smk a).x 22 rfl j, (F.smk a).x 23 rfl j⟩
  refine ⟨fun w => absurd q w, fun _ => ⟨rfl, ?_, ?_, fun j hj => ?_, ⟨?_, ?_, ?_⟩, fun j hj => ⟨?_, ?_, ?_⟩⟩⟩
  · exact tn1_of SMV.rf e (fun j => g 3 j (by omega) (by omega) (by omega)) (fun j => g 4 j (by omega) (by omega) (by omega)) (fun j => gj 2 j) (g 1 3 (by omega) (by omega) (by omega))
  · rw [g _ _ (by omega) (by omega) (by omega)]; exact C
  · rw [g _ _ (by omega) (by omega) (by omega)]; exact O j hj
  · rw [m]; unfold mkO; rw [Xi_ne (by omega), Xi_ne (by omega)]; exact Xi_same hr
  · rw [m]; unfold mkO; rw [Xi_ne (by omega)]; exact Xi_same (by unfold rg; omega)
  · rw [m]; unfold mkO; exact Xi_same (by unfold rg; omega)
  · rw [m]; unfold mkO; rw [Xi_ne (by omega), Xi_ne (by omega), Xi_ne (by omega)]; exact (fr j).1
  · rw [m]; unfold mkO; rw [Xi_ne (by omega), Xi_ne (by omega), Xi_ne (by omega)]; exact (fr j).2.1
  · rw [m]; unfold mkO; rw [Xi_ne (by omega), Xi_ne (by omega), Xi_ne (by omega)]; exact (fr j).2.2
theorem fnd_rg {S : sS} {s a b : Int} (h : CEN S) (hs : 0 ≤ s) : -1 ≤ fnd S s a b ∧ fnd S s a b ≤ 63 := by
  have t := mn_rg (a := a) (b := b) h
  unfold fnd
  by_cases q : mnV S a b / 256 = s
  · rw [if_pos q]
    rcases t with w | w
    · omega
    · exact ⟨by omega, by omega⟩
  · rw [if_neg q]
    exact ⟨by omega, by omega⟩

def md_re_takeObjectOrNew__p : List rec := [(876, 877, 8, 9), (876, 877, 9, 10), (891, 892, 9, 10), (892, 893, 0, 100000), (893, 894, 0, 100000)]
abbrev Q_re_takeObjectOrNew__p (S : sS) (from_ : Int) (kind : Int) : pst := fun r S1 => RI S1 ∧ FR md_re_takeObjectOrNew__p S S1 ∧ (∃ z : Int, r = some (iv z) ∧ (0 ≤ z ∧ z ≤ 1) ∧ (TON S S1 z from_ (re7 (ty7 S) from_) kind) ∧ (z = 1 → NRB S1))
set_option maxRecDepth 100000 in
theorem t_re_takeObjectOrNew__p {S : sS} (hH : RI S) (from_ : Int) (kind : Int) (hfrom_ : 0 ≤ from_ ∧ from_ ≤ 6000) (hkind : -2147483648 ≤ kind ∧ kind ≤ 2147483647) (h13 : 0 ≤ Xi S 1 3 ∧ Xi S 1 3 ≤ 200) (hCE : CEN S) (hNB : NRB S) (hf : Xi S 876 8 = 0) (hr : Xi S 876 7 ≤ 5130) (hfr : from_ ≤ 5130) (hn0 : 0 ≤ Xi S 891 9 ∧ Xi S 891 9 ≤ 24) (hc : 0 ≤ Xi S 5 2 ∧ Xi S 5 2 ≤ 24) (d : Nat) : Mp lay0 (d + 3) m_re_takeObjectOrNew [.ref 891, iv from_, iv kind] S (Q_re_takeObjectOrNew__p S from_ kind) := by
  refine Mp_R rfl rfl (fun fu => ?_)
  have hF : FR md_re_takeObjectOrNew__p S S := FR.rf
  have w1 : -2147483648 ≤ Xi S 1 3 ∧ Xi S 1 3 ≤ 2147483647 := Xi_rgI
  have w2 : -2147483648 ≤ Xi S 5 2 ∧ Xi S 5 2 ≤ 2147483647 := Xi_rgI
  have w3 : -2147483648 ≤ Xi S 876 7 ∧ Xi S 876 7 ≤ 2147483647 := Xi_rgI
  have w4 : -2147483648 ≤ Xi S 876 8 ∧ Xi S 876 8 ≤ 2147483647 := Xi_rgI
  have w5 : -2147483648 ≤ Xi S 891 9 ∧ Xi S 891 9 ≤ 2147483647 := Xi_rgI
  refine y_aload_n rfl rfl ?_
  refine y_gfr rfl rfl rfl rfl rfl (hH.r 891 0 876 rfl) ?_
  refine y_iload_n rfl rfl ?_
  refine y_callV rfl rfl rfl (t_to_runEnd__p hH from_ ⟨by omega, by omega⟩ _) ?_
  rintro _ _ ⟨rfl, z8, rfl, w8, w6, w7⟩
  show Pl _ _ _ _ _ _ [iv z8] _ _
  have gq5 := w6
  clear w6
  refine y_istore_n rfl rfl rfl ?_
  refine y_aload_n rfl rfl ?_
  refine y_gfr rfl rfl rfl rfl rfl (hH.r 891 2 1 rfl) ?_
  refine y_aload_n rfl rfl ?_
  refine y_gfr rfl rfl rfl rfl rfl (hH.r 891 0 876 rfl) ?_
  refine y_gfr rfl rfl rfl rfl rfl (hH.r 876 2 879 rfl) ?_
  refine y_iload_n rfl rfl ?_
  refine y_iload_n rfl rfl ?_
  refine y_callV rfl rfl rfl (t_vo_meaning__p hH 879 5130 from_ z8 rfl ⟨by omega, by omega⟩ ⟨by omega, by omega⟩ ⟨by omega, by omega⟩ (by first | assumption | omega) (by first | assumption | exact (CEN_FR hF rfl rfl (by assumption : CEN S))) _) ?_
  rintro _ _ ⟨rfl, z9, rfl, w9, f22, n22⟩
  show Pl _ _ _ _ _ _ [iv z9] _ _
  have hm : mnV S from_ (re7 (ty7 S) from_) = z9 := by have t := mnV_of f22 n22; rw [← gq5] at t; exact t
  clear f22 n22
  have G22 : Hid (_ ∨ _) := mn_rg (a := from_) (b := (re7 (ty7 S) from_)) hCE
  refine y_istore rfl rfl rfl ?_
  refine y_iload rfl rfl ?_
  refine y_iconst rfl ?_
  refine y_icmp_ne rfl rfl (by unfold rg; omega) (by unfold rg; omega) (fun w10 => ?_) (fun w11 => ?_)
  · refine y_iload rfl rfl ?_
    have m50 : mnV S from_ (re7 (ty7 S) from_) ≠ -1 := by omega
    refine y_bipush rfl rfl ?_
    refine y_ishr8 rfl (by unfold rg; omega) ?_
    refine y_iconst rfl ?_
    refine y_icmp_ne rfl rfl (by unfold rg; omega) (by unfold rg; omega) (fun w13 => ?_) (fun w14 => ?_)
    · refine y_aload_n rfl rfl ?_
      have N81 : Hid (¬ OKA S from_ (re7 (ty7 S) from_) kind) := by first | (have t := K75; exact fun q => by rcases q.2 with w | w <;> omega) | exact fun q => q.1 (fnd_n hm (by omega)).symm
      refine y_gfr rfl rfl rfl rfl rfl (hH.r 891 0 876 rfl) ?_
      refine y_iconst rfl ?_
      refine y_iload_n rfl rfl ?_
      refine y_callV rfl rfl rfl (t_to_wrong__p hH 4 from_ ⟨by omega, by omega⟩ ⟨by omega, by omega⟩ _) ?_
      rintro _ T1 ⟨hHT1, w18, z17, rfl, w17, w15, f87, w16⟩
      have hFT1 : FR md_re_takeObjectOrNew__p S T1 := FR.tr hF w18 rfl
      show Pl _ _ _ _ _ _ [iv z17] _ _
      have K87 : True := trivial
      have Y87 : FTO S T1 4 from_ := f87 hf
      refine y_if_eq rfl rfl (by unfold rg; omega) (fun w19 => ?_) (fun w20 => ?_)
      · refine y_iconst rfl ?_
        refine y_ireturn rfl rfl ?_
        exact ⟨hHT1, hFT1, _, rfl, ⟨by omega, by omega⟩, (by first | (have t := K46; exact ton_n m33 n3_46.o n9_46.o ok_46.o) | (have t := K87; exact ton_f m50 N81.o (by omega) Y87) | exact ton_y m50 Y93.o), (by first | (have t := K46; exact nb_46) | (have t := K87; exact fun q => absurd q (by omega)) | exact fun _ => hNB)⟩
      · exfalso; omega
    · refine y_iload_n rfl rfl ?_
      have K59 : z9 % 256 = fnd S 2 from_ (re7 (ty7 S) from_) := fnd_y hm (by omega)
      have g59 : 0 ≤ z9 % 256 ∧ z9 % 256 ≤ 63 := by have t := G22.o; rw [hm] at t; rcases t with q | q; (exfalso; omega); omega
      refine y_iconst rfl ?_
      refine y_icmp_eq rfl rfl (by unfold rg; omega) (by unfold rg; omega) (fun w21 => ?_) (fun w22 => ?_)
      · refine y_iconst rfl ?_
        have Y93 : Hid (OKA S from_ (re7 (ty7 S) from_) kind) := by first | (have t := K75; exact ⟨by omega, Or.inr (by omega)⟩) | exact ⟨by omega, Or.inl (by omega)⟩
        refine y_goto rfl rfl ?_
        refine y_ireturn rfl rfl ?_
        exact ⟨hH, hF, _, rfl, ⟨by omega, by omega⟩, (by first | (have t := K46; exact ton_n m33 n3_46.o n9_46.o ok_46.o) | (have t := K87; exact ton_f m50 N81.o (by omega) Y87) | exact ton_y m50 Y93.o), (by first | (have t := K46; exact nb_46) | (have t := K87; exact fun q => absurd q (by omega)) | exact fun _ => hNB)⟩
      · refine y_aload_n rfl rfl ?_
        refine y_gfr rfl rfl rfl rfl rfl (hH.r 891 3 20 rfl) ?_
        refine y_iload rfl rfl ?_
        refine y_sipush rfl rfl ?_
        refine y_iand255 rfl (by unfold rg; omega) ?_
        refine y_iload_n rfl rfl ?_
        refine y_callV rfl rfl rfl (t_wo_isA__p hH (z9 % 256) kind ⟨by omega, by omega⟩ ⟨by omega, by omega⟩ _) ?_
        rintro _ _ ⟨rfl, z24, rfl, w24, q75⟩
        show Pl _ _ _ _ _ _ [iv z24] _ _
        have K75 : z24 = isK S (Xi S 21 (fnd S 2 from_ (re7 (ty7 S) from_)).toNat) kind := by have t := q75; rw [K59] at t; exact t
        clear q75
        refine y_if_ne rfl rfl (by unfold rg; omega) (fun w25 => ?_) (fun w26 => ?_)
        · refine y_iconst rfl ?_
          have Y93 : Hid (OKA S from_ (re7 (ty7 S) from_) kind) := by first | (have t := K75; exact ⟨by omega, Or.inr (by omega)⟩) | exact ⟨by omega, Or.inl (by omega)⟩
          refine y_goto rfl rfl ?_
          refine y_ireturn rfl rfl ?_
          exact ⟨hH, hF, _, rfl, ⟨by omega, by omega⟩, (by first | (have t := K46; exact ton_n m33 n3_46.o n9_46.o ok_46.o) | (have t := K87; exact ton_f m50 N81.o (by omega) Y87) | exact ton_y m50 Y93.o), (by first | (have t := K46; exact nb_46) | (have t := K87; exact fun q => absurd q (by omega)) | exact fun _ => hNB)⟩
        · refine y_aload_n rfl rfl ?_
          have N81 : Hid (¬ OKA S from_ (re7 (ty7 S) from_) kind) := by first | (have t := K75; exact fun q => by rcases q.2 with w | w <;> omega) | exact fun q => q.1 (fnd_n hm (by omega)).symm
          refine y_gfr rfl rfl rfl rfl rfl (hH.r 891 0 876 rfl) ?_
          refine y_iconst rfl ?_
          refine y_iload_n rfl rfl ?_
          refine y_callV rfl rfl rfl (t_to_wrong__p hH 4 from_ ⟨by omega, by omega⟩ ⟨by omega, by omega⟩ _) ?_
          rintro _ T2 ⟨hHT2, w30, z29, rfl, w29, w27, f87, w28⟩
          have hFT2 : FR md_re_takeObjectOrNew__p S T2 := FR.tr hF w30 rfl
          show Pl _ _ _ _ _ _ [iv z29] _ _
          have K87 : True := trivial
          have Y87 : FTO S T2 4 from_ := f87 hf
          refine y_if_eq rfl rfl (by unfold rg; omega) (fun w31 => ?_) (fun w32 => ?_)
          · refine y_iconst rfl ?_
            refine y_ireturn rfl rfl ?_
            exact ⟨hHT2, hFT2, _, rfl, ⟨by omega, by omega⟩, (by first | (have t := K46; exact ton_n m33 n3_46.o n9_46.o ok_46.o) | (have t := K87; exact ton_f m50 N81.o (by omega) Y87) | exact ton_y m50 Y93.o), (by first | (have t := K46; exact nb_46) | (have t := K87; exact fun q => absurd q (by omega)) | exact fun _ => hNB)⟩
          · exfalso; omega
  · refine y_aload_n rfl rfl ?_
    have m33 : mnV S from_ (re7 (ty7 S) from_) = -1 := by omega
    refine y_iload_n rfl rfl ?_
    refine y_iload_n rfl rfl ?_
    refine y_aload_n rfl rfl ?_
    refine y_gfr rfl rfl rfl rfl rfl (hH.r 891 2 1 rfl) ?_
    refine y_iconst rfl ?_
    refine y_callV rfl rfl rfl (t_vo_countOf__p hH 2 ⟨by omega, by omega⟩ _) ?_
    rintro _ _ ⟨rfl, z33, rfl, w33, p41⟩
    show Pl _ _ _ _ _ _ [iv z33, iv z8, iv from_, .ref 891] _ _
    have C41 : z33 = Xi S 5 2 := p41 (by omega) (by omega)
    clear p41
    refine y_bipush rfl rfl ?_
    refine y_callV rfl rfl rfl (t_re_takeNew__p hH from_ z8 z33 24 ⟨by omega, by omega⟩ ⟨by omega, by omega⟩ ⟨by omega, by omega⟩ ⟨by omega, by omega⟩ (by first | assumption | omega) (by first | assumption | exact (CEN_FR hF rfl rfl (by assumption : CEN S))) (by first | assumption | exact (by assumption : NRB S)) (by first | assumption | omega) (Or.inl (by omega)) (by first | assumption | omega) (by omega) _) ?_
    rintro _ T3 ⟨hHT3, w35, z34, rfl, w34, n3_46_, n9_46_, ok_46_, nb_46⟩
    have hFT3 : FR md_re_takeObjectOrNew__p S T3 := FR.tr hF w35 rfl
    show Pl _ _ _ _ _ _ [iv z34] _ _
    have K46 : True := trivial
    have n3_46 : Hid (¬ nwC S from_ (re7 (ty7 S) from_) → z34 = 0 ∧ FTO S T3 3 from_) := by have t := n3_46_; rw [← gq5] at t; (try rw [C41] at t); exact t
    have n9_46 : Hid (nwC S from_ (re7 (ty7 S) from_) → 24 ≤ Xi S 5 2 + Xi S 891 9 → z34 = 0 ∧ FTO S T3 9 from_) := by have t := n9_46_; rw [← gq5] at t; (try rw [C41] at t); exact t
    have ok_46 : Hid (nwC S from_ (re7 (ty7 S) from_) → Xi S 5 2 + Xi S 891 9 < 24 → z34 = 1 ∧ NWO1 S T3 from_ (re7 (ty7 S) from_)) := by have t := ok_46_; rw [← gq5] at t; (try rw [C41] at t); exact t
    clear n3_46_ n9_46_ ok_46_
    refine y_ireturn rfl (retI_z (by omega)) ?_
    exact ⟨hHT3, hFT3, _, rfl, ⟨by omega, by omega⟩, (by first | (have t := K46; exact ton_n m33 n3_46.o n9_46.o ok_46.o) | (have t := K87; exact ton_f m50 N81.o (by omega) Y87) | exact ton_y m50 Y93.o), (by first | (have t := K46; exact nb_46) | (have t := K87; exact fun q => absurd q (by omega)) | exact fun _ => hNB)⟩
abbrev Q_re_secondName__p (S : sS) : pst := fun r S1 => S = S1 ∧ (∃ z : Int, r = some (iv z) ∧ (-2147483648 ≤ z ∧ z ≤ 2147483647) ∧ (z = sn2 S))
set_option maxRecDepth 100000 in
theorem t_re_secondName__p {S : sS} (hH : RI S) (hr : Xi S 876 7 ≤ 5130) (ht : 0 ≤ Xi S 890 3 ∧ Xi S 890 3 ≤ 5125) (hfn : FN1 S) (d : Nat) : Mp lay0 (d + 3) m_re_secondName [.ref 891] S (Q_re_secondName__p S) := by
  refine Mp_R rfl rfl (fun fu => ?_)
  have w1 : -2147483648 ≤ Xi S 876 7 ∧ Xi S 876 7 ≤ 2147483647 := Xi_rgI
  have w2 : -2147483648 ≤ Xi S 890 3 ∧ Xi S 890 3 ≤ 2147483647 := Xi_rgI
  have C16 : ∀ (n16 : Nat) (_ : n16 ≤ fu) (v1 : Int), (0 ≤ v1 ∧ v1 ≤ 5140) → (0 ≤ v1) → (cR (ty7 S) (v1).toNat = 1) → Pl n16 lay0 (d + 2) m_re_secondName 16 [(0, .ref 891), (1, iv v1)] [] S (Q_re_secondName__p S) := by
    intro n16
    induction n16 with
    | zero => intros; exact Pl_0
    | succ n16 ih16 =>
      intro hm16 v1 w3 w4 c16
      refine ys_iload_n rfl rfl ?_
      refine y_aload_n rfl rfl ?_
      refine y_gfr rfl rfl rfl rfl rfl (hH.r 891 1 890 rfl) ?_
      refine y_gfi rfl rfl rfl rfl rfl ?_
      refine y_icmp_ge rfl rfl (by unfold rg; omega) (by unfold rg; omega) (fun w5 => ?_) (fun w6 => ?_)
      · refine y_iconst rfl ?_
        refine y_ireturn rfl rfl ?_
        exact ⟨rfl, _, rfl, ⟨by omega, by omega⟩, (by first | (have t := K35; exact R35) | exact sn_n c16 (by omega))⟩
      · refine y_aload_n rfl rfl ?_
        refine y_iload_n rfl rfl ?_
        refine y_callV rfl rfl rfl (t_re_beginsName__p hH v1 ⟨by omega, by omega⟩ _) ?_
        rintro _ _ ⟨rfl, z7, rfl, w7, v29⟩
        show Pl _ _ _ _ _ _ [iv z7] _ _
        refine y_if_eq rfl rfl (by unfold rg; omega) (fun w8 => ?_) (fun w9 => ?_)
        · refine y_iinc rfl rfl rfl rfl ?_
          have c37 : cR (ty7 S) (v1 + 1).toNat = 1 := by rw [cR_n (by omega) (v29.2 (by omega) (by omega))]; exact c16
          refine y_goto rfl rfl ?_
          exact Pl_weak (ih16 (by omega) ((v1 + 1)) (by omega) (by omega) (by first | exact c37 | exact c12)) (by omega) (And.intro rfl (And.intro rfl (True.intro)))
        · refine y_iload_n rfl rfl ?_
          have K35 : True := trivial
          have R35 : v1 = sn2 S := sn_y c16 (v29.1 (by omega)).1 (by omega) (by omega) hr (by omega)
          refine y_ireturn rfl rfl ?_
          exact ⟨rfl, _, rfl, ⟨by omega, by omega⟩, (by first | (have t := K35; exact R35) | exact sn_n c16 (by omega))⟩
  refine y_aload_n rfl rfl ?_
  refine y_gfr rfl rfl rfl rfl rfl (hH.r 891 0 876 rfl) ?_
  refine y_aload_n rfl rfl ?_
  refine y_gfr rfl rfl rfl rfl rfl (hH.r 891 0 876 rfl) ?_
  refine y_iconst rfl ?_
  refine y_callV rfl rfl rfl (t_to_behindArt__p hH 0 ⟨by omega, by omega⟩ _) ?_
  rintro _ _ ⟨rfl, z12, rfl, w12, w10, w11⟩
  show Pl _ _ _ _ _ _ [iv z12, .ref 876] _ _
  have gq9 := w10
  clear w10
  refine y_callV rfl rfl rfl (t_to_runEnd__p hH z12 ⟨by omega, by omega⟩ _) ?_
  rintro _ _ ⟨rfl, z15, rfl, w15, w13, w14⟩
  show Pl _ _ _ _ _ _ [iv z15] _ _
  have gq12 := w13
  clear w13
  have c12 : cR (ty7 S) (z15).toNat = 1 := by rw [← gq12, ← gq9]; exact fn_c hfn
  refine y_istore_n rfl rfl rfl ?_
  exact Pl_weak (C16 fu (by omega) (z15) (by omega) (by omega) (by first | exact c37 | exact c12)) (by omega) (And.intro rfl (And.intro rfl (True.intro)))
def md_re_objectOrNew__p : List rec := [(1, 2, 3, 4), (2, 3, 0, 100000), (3, 4, 0, 100000), (4, 5, 0, 100000), (5, 6, 0, 100000), (21, 22, 0, 100000), (22, 23, 0, 100000), (23, 24, 0, 100000)]
abbrev Q_re_objectOrNew__p (S : sS) (from_ : Int) (kind : Int) : pst := fun r S1 => RI S1 ∧ FR md_re_objectOrNew__p S S1 ∧ (∃ z : Int, r = some (iv z) ∧ (-2147483648 ≤ z ∧ z ≤ 2147483647) ∧ (OBN S S1 z from_ (re7 (ty7 S) from_) kind) ∧ (0 ≤ z ∧ z ≤ 63))
set_option maxRecDepth 100000 in
theorem t_re_objectOrNew__p {S : sS} (hH : RI S) (from_ : Int) (kind : Int) (hfrom_ : 0 ≤ from_ ∧ from_ ≤ 6000) (hkind : -2147483648 ≤ kind ∧ kind ≤ 2147483647) (h13 : 0 ≤ Xi S 1 3 ∧ Xi S 1 3 ≤ 200) (hCE : CEN S) (hr : Xi S 876 7 ≤ 5130) (hfr : from_ ≤ 5130) (h2 : Xi S 1 3 < 199) (hc : 0 ≤ Xi S 5 2 ∧ Xi S 5 2 ≤ 24) (d : Nat) : Mp lay0 (d + 4) m_re_objectOrNew [.ref 891, iv from_, iv kind] S (Q_re_objectOrNew__p S from_ kind) := by
  refine Mp_R rfl rfl (fun fu => ?_)
  have hF : FR md_re_objectOrNew__p S S := FR.rf
  have w1 : -2147483648 ≤ Xi S 1 3 ∧ Xi S 1 3 ≤ 2147483647 := Xi_rgI
  have w2 : -2147483648 ≤ Xi S 5 2 ∧ Xi S 5 2 ≤ 2147483647 := Xi_rgI
  have w3 : -2147483648 ≤ Xi S 876 7 ∧ Xi S 876 7 ≤ 2147483647 := Xi_rgI
  refine y_aload_n rfl rfl ?_
  refine y_gfr rfl rfl rfl rfl rfl (hH.r 891 0 876 rfl) ?_
  refine y_iload_n rfl rfl ?_
  refine y_callV rfl rfl rfl (t_to_runEnd__p hH from_ ⟨by omega, by omega⟩ _) ?_
  rintro _ _ ⟨rfl, z6, rfl, w6, w4, w5⟩
  show Pl _ _ _ _ _ _ [iv z6] _ _
  have gq5 := w4
  clear w4
  refine y_istore_n rfl rfl rfl ?_
  refine y_aload_n rfl rfl ?_
  refine y_gfr rfl rfl rfl rfl rfl (hH.r 891 4 895 rfl) ?_
  refine y_iconst rfl ?_
  refine y_iload_n rfl rfl ?_
  refine y_iload_n rfl rfl ?_
  refine y_callV rfl rfl rfl (t_me_find__p hH 2 from_ z6 ⟨by omega, by omega⟩ ⟨by omega, by omega⟩ ⟨by omega, by omega⟩ (by first | assumption | omega) (by first | assumption | exact (by assumption : CEN S)) _) ?_
  rintro _ _ ⟨rfl, z7, rfl, w7, v16⟩
  show Pl _ _ _ _ _ _ [iv z7] _ _
  have K16 : z7 = fnd S 2 from_ (re7 (ty7 S) from_) := by have t := v16; rw [← gq5] at t; exact t
  clear v16
  refine y_istore rfl rfl rfl ?_
  refine y_iload rfl rfl ?_
  refine y_iconst rfl ?_
  refine y_icmp_ne rfl rfl (by unfold rg; omega) (by unfold rg; omega) (fun w8 => ?_) (fun w9 => ?_)
  · refine y_iload rfl rfl ?_
    refine y_ireturn rfl rfl ?_
    exact ⟨hH, hF, _, rfl, ⟨by omega, by omega⟩, (by first | (have t := K53; exact obn_n (by omega) e41 z41 c41 o41 F41 e53 (by unfold rg; omega)) | exact obn_y K16 (by omega)), (by first | (have t := K53; omega) | (have t := fnd_rg (S := S) (s := 2) (a := from_) (b := (re7 (ty7 S) from_)) hCE (by omega); omega))⟩
  · refine y_aload_n rfl rfl ?_
    refine y_gfr rfl rfl rfl rfl rfl (hH.r 891 2 1 rfl) ?_
    refine y_iconst rfl ?_
    refine y_aload_n rfl rfl ?_
    refine y_gfr rfl rfl rfl rfl rfl (hH.r 891 0 876 rfl) ?_
    refine y_gfr rfl rfl rfl rfl rfl (hH.r 876 2 879 rfl) ?_
    refine y_iload_n rfl rfl ?_
    refine y_iload_n rfl rfl ?_
    refine y_callV rfl rfl rfl (t_vo_tellNew__p hH 2 879 5130 from_ z6 ⟨by omega, by omega⟩ rfl ⟨by omega, by omega⟩ ⟨by omega, by omega⟩ ⟨by omega, by omega⟩ (by first | assumption | omega) (by first | assumption | omega) (Or.inl rfl) (⟨by show (0 : Int) ≤ Xi S 5 2; omega, by show Xi S 5 2 ≤ 62; omega⟩) _) ?_
    rintro _ T1 ⟨hHT1, w11, z10, rfl, w10, z41_, c41_, o41_, e41_⟩
    have hFT1 : FR md_re_objectOrNew__p S T1 := FR.tr hF w11 rfl
    show Pl _ _ _ _ _ _ [iv z10] _ _
    have z41 : z10 = Xi S 5 2 := z41_
    have c41 : Xi T1 5 2 = Xi S 5 2 + 1 := c41_
    have o41 : ∀ j, j ≠ 2 → Xi T1 5 j = Xi S 5 j := o41_
    have e41 : ∃ i : Nat, NMI S T1 i 2 z10 (wRw S 879 from_ (re7 (ty7 S) from_) 0) (wRw S 879 from_ (re7 (ty7 S) from_) 1) (wRw S 879 from_ (re7 (ty7 S) from_) 2) := by have t := e41_; rw [← gq5] at t; exact t
    have F41 := (by assumption : FR md_vo_tellNew__p S T1)
    clear z41_ c41_ o41_ e41_
    refine y_istore rfl rfl rfl ?_
    refine y_aload_n rfl rfl ?_
    refine y_gfr rfl rfl rfl rfl rfl (hHT1.r 891 3 20 rfl) ?_
    refine y_iload rfl rfl ?_
    refine y_iload_n rfl rfl ?_
    refine y_callV rfl rfl rfl (t_wo_makeObject__p hHT1 z10 kind ⟨by omega, by omega⟩ ⟨by omega, by omega⟩ _) ?_
    rintro _ T2 ⟨hHT2, w13, rfl, e53⟩
    have hFT2 : FR md_re_objectOrNew__p S T2 := FR.tr hFT1 w13 rfl
    show Pl _ _ _ _ _ _ [] _ _
    have K53 : True := trivial
    refine y_iload rfl rfl ?_
    refine y_ireturn rfl rfl ?_
    have w14 : Xi T2 1 3 = Xi T1 1 3 := (show Xi T2 1 3 = Xi T1 1 3 from w13.x _ _ rfl)
    have w15 : Xi T2 5 2 = Xi T1 5 2 := (show Xi T2 5 2 = Xi T1 5 2 from w13.x _ _ rfl)
    exact ⟨hHT2, hFT2, _, rfl, ⟨by omega, by omega⟩, (by first | (have t := K53; exact obn_n (by omega) e41 z41 c41 o41 F41 e53 (by unfold rg; omega)) | exact obn_y K16 (by omega)), (by first | (have t := K53; omega) | (have t := fnd_rg (S := S) (s := 2) (a := from_) (b := (re7 (ty7 S) from_)) hCE (by omega); omega))⟩
/-! 14: ways -/
def n14 (S : sS) : Int := bA (ty7 S) 0
def e14 (S : sS) : Int := re7 (ty7 S) (n14 S)
def o14 (S : sS) : Int := re7 (ty7 S) (Xi S 890 3 + 1)
def d14 (S : sS) : Int := fnd S 14 (Xi S 890 3 + 1) (o14 S)
def l14 (S : sS) : Int := bA (ty7 S) (o14 S + 1)
def s14 (S : sS) : Int := fnd S 2 (l14 S) (re7 (ty7 S) (l14 S))
def OKW (S : sS) (k : Int) : Prop := (mnV S (n14 S) (e14 S) = -1 ∧ nwC S (n14 S) (e14 S) ∧ Xi S 5 2 < 24) ∨ (mnV S (n14 S) (e14 S) ≠ -1 ∧ OKA S (n14 S) (e14 S) k)
def OKS (S : sS) : Prop := s14 S ≠ -1 ∧ isK S (Xi S 21 (s14 S).toNat) 1 = 1
def OBX (S S1 : sS) (z f t k : Int) : Prop :=
  (fnd S 2 f t ≠ -1 → z = fnd S 2 f t ∧ SMV S S1 ∧ (∀ j, Xi S1 5 j = Xi S 5 j) ∧ ∀ j, Xi S1 21 j = Xi S 21 j ∧ Xi S1 22 j = Xi S 22 j ∧ Xi S1 23 j = Xi S 23 j) ∧
  (fnd S 2 f t = -1 → z = Xi S 5 2 ∧ TN1 S S1 2 (Xi S 5 2) f t ∧ Xi S1 5 2 = Xi S 5 2 + 1 ∧ (∀ j, j ≠ 2 → Xi S1 5 j = Xi S 5 j) ∧ (Xi S1 21 (Xi S 5 2).toNat = k ∧ Xi S1 22 (Xi S 5 2).toNat = 0 ∧ Xi S1 23 (Xi S 5 2).toNat = -1) ∧ ∀ j : Nat, j ≠ (Xi S 5 2).toNat → Xi S1 21 j = Xi S 21 j ∧ Xi S1 22 j = Xi S 22 j ∧ Xi S1 23 j = Xi S 23 j)
/-- a state that differs in nothing of the words, the counts, the objects -/
def SMO (S P : sS) : Prop := SMV S P ∧ (∀ j, Xi P 5 j = Xi S 5 j) ∧ ∀ j, Xi P 21 j = Xi S 21 j ∧ Xi P 22 j = Xi S 22 j ∧ Xi P 23 j = Xi S 23 j
theorem SMO.rf {S : sS} : SMO S S := ⟨SMV.rf, fun _ => rfl, fun _ => ⟨rfl, rfl, rfl⟩⟩
theorem SMO_FR {l : List rec} {S T : sS} (h : FR l S T) (e1 : kdis l [(2, 6), (21, 24), (879, 880)] = true) (e2 : mdf l 1 3 = false) : SMO S T :=
  ⟨⟨h.x 1 3 e2, fun j => (h.smk e1).xj 2 rfl j, fun j => (h.smk e1).x 3 rfl j, fun j => (h.smk e1).x 4 rfl j, fun j => (h.smk e1).xj 879 rfl j⟩, fun j => (h.smk e1).x 5 rfl j, fun j => ⟨(h.smk e1).x 21 rfl j, (h.smk e1).x 22 rfl j, (h.smk e1).x 23 rfl j⟩⟩
theorem obx_of {S P A S1 : sS} {z f t k : Int} (s : SMO S P) (o : OBN P A z f t k) (m : SMO A S1) : OBX S S1 z f t k := by
  obtain ⟨s1, s2, s3⟩ := s
  obtain ⟨o1, o2⟩ := o
  obtain ⟨m1, m2, m3⟩ := m
  rw [fnd_eq s1] at o1 o2
  rw [s2] at o2
  refine ⟨fun q => ?_, fun q => ?_⟩
  · obtain ⟨a, b⟩ := o1 q
    subst b
    exact ⟨a, s1.tr m1, fun j => (m2 j).trans (s2 j), fun j => ⟨(m3 j).1.trans (s3 j).1, (m3 j).2.1.trans (s3 j).2.1, (m3 j).2.2.trans (s3 j).2.2⟩⟩
  · obtain ⟨a, b, c, d, e, g⟩ := o2 q
    refine ⟨a, ?_, (m2 _).trans c, fun j hj => ((m2 j).trans (d j hj)).trans (s2 j), ⟨(m3 _).1.trans e.1, (m3 _).2.1.trans e.2.1, (m3 _).2.2.trans e.2.2⟩, fun j hj => ?_⟩
    · exact tn1_of s1 b m1.2.2.1 m1.2.2.2.1 m1.2.1 m1.1
    · obtain ⟨g1, g2, g3⟩ := g j hj
      exact ⟨((m3 j).1.trans g1).trans (s3 j).1, ((m3 j).2.1.trans g2).trans (s3 j).2.1, ((m3 j).2.2.trans g3).trans (s3 j).2.2⟩
def SWY (S P : sS) : Prop := Xi P 20 12 = Xi S 20 12 ∧ ∀ k j : Nat, 196 ≤ k → k < 246 → Xi P k j = Xi S k j
def TWX (S S1 : sS) (r d t : Int) : Prop := (Xi S (196 + r.toNat) d.toNat = -1 → Xi S1 (196 + r.toNat) d.toNat = t ∧ Xi S1 (221 + r.toNat) d.toNat = Xi S 20 12 ∧ Xi S1 20 12 = Xi S 20 12 + 1 ∧ ∀ k j : Nat, 196 ≤ k → k < 246 → ¬ (k = 196 + r.toNat ∧ j = d.toNat) → ¬ (k = 221 + r.toNat ∧ j = d.toNat) → Xi S1 k j = Xi S k j) ∧ (Xi S (196 + r.toNat) d.toNat ≠ -1 → SWY S S1)
/-- 14: what the class does -/
def TW14 (S S1 : sS) (z : Int) : Prop :=
  (mnV S (n14 S) (e14 S) = -1 → ¬ nwC S (n14 S) (e14 S) → z = 0 ∧ FTO S S1 3 (n14 S)) ∧
  (mnV S (n14 S) (e14 S) = -1 → nwC S (n14 S) (e14 S) → 24 ≤ Xi S 5 2 → z = 0 ∧ FTO S S1 9 (n14 S)) ∧
  (mnV S (n14 S) (e14 S) ≠ -1 → ¬ OKA S (n14 S) (e14 S) 1 → z = 0 ∧ FTO S S1 4 (n14 S)) ∧
  (OKW S 1 → sn2 S ≠ -1 → z = 0 ∧ FTO S S1 4 (sn2 S)) ∧
  (OKW S 1 → sn2 S = -1 → d14 S = -1 → z = 0 ∧ FTO S S1 4 (Xi S 890 3 + 1)) ∧
  (OKW S 1 → sn2 S = -1 → d14 S ≠ -1 → ¬ OKS S → z = 0 ∧ FTO S S1 4 (l14 S)) ∧
  (OKW S 1 → sn2 S = -1 → d14 S ≠ -1 → OKS S → ∃ o : Int, (fnd S 2 (n14 S) (e14 S) ≠ -1 → o = fnd S 2 (n14 S) (e14 S)) ∧ (fnd S 2 (n14 S) (e14 S) = -1 → o = Xi S 5 2) ∧ ((Xi S (196 + (s14 S).toNat) (d14 S).toNat = -1 ∨ Xi S (196 + (s14 S).toNat) (d14 S).toNat = o) → z = 1 ∧ Xi S1 876 8 = 0 ∧ OBX S S1 o (n14 S) (e14 S) 1 ∧ TWX S S1 (s14 S) (d14 S) o ∧ Xi S1 891 10 = o) ∧ (¬ (Xi S (196 + (s14 S).toNat) (d14 S).toNat = -1 ∨ Xi S (196 + (s14 S).toNat) (d14 S).toNat = o) → z = 0 ∧ FTO S S1 5 (n14 S)))
theorem tw_1 {S S1 : sS} {z : Int} (o : TON S S1 z (n14 S) (e14 S) 1) (h9 : Xi S 891 9 = 0) (hz : z = 0) : TW14 S S1 0 := by
  subst hz
  obtain ⟨a, b, c, d, e⟩ := o
  have nk : ¬ OKW S 1 := fun q => by
    rcases q with ⟨q1, q2, q3⟩ | ⟨q1, q2⟩
    · have t := (c q1 q2 (by omega)).1; omega
    · have t := (d q1 q2).1; omega
  exact ⟨a, fun q w v => b q w (by omega), e, fun q => absurd q nk, fun q => absurd q nk, fun q => absurd q nk, fun q => absurd q nk⟩
theorem okw_of {S S1 : sS} {z : Int} (o : TON S S1 z (n14 S) (e14 S) 1) (h9 : Xi S 891 9 = 0) (hz : z ≠ 0) : OKW S 1 := by
  obtain ⟨a, b, c, d, e⟩ := o
  by_cases q : mnV S (n14 S) (e14 S) = -1
  · by_cases w : nwC S (n14 S) (e14 S)
    · by_cases v : 24 ≤ Xi S 5 2
      · exact absurd (b q w (by omega)).1 hz
      · exact Or.inl ⟨q, w, by omega⟩
    · exact absurd (a q w).1 hz
  · by_cases w : OKA S (n14 S) (e14 S) 1
    · exact Or.inr ⟨q, w⟩
    · exact absurd (e q w).1 hz
theorem okw_3 {S S1 : sS} {z : Int} (k : OKW S 1) (r : (sn2 S ≠ -1 → z = 0 ∧ FTO S S1 4 (sn2 S)) ∧ (sn2 S = -1 → d14 S = -1 → z = 0 ∧ FTO S S1 4 (Xi S 890 3 + 1)) ∧ (sn2 S = -1 → d14 S ≠ -1 → ¬ OKS S → z = 0 ∧ FTO S S1 4 (l14 S)) ∧ (sn2 S = -1 → d14 S ≠ -1 → OKS S → ∃ o : Int, (fnd S 2 (n14 S) (e14 S) ≠ -1 → o = fnd S 2 (n14 S) (e14 S)) ∧ (fnd S 2 (n14 S) (e14 S) = -1 → o = Xi S 5 2) ∧ ((Xi S (196 + (s14 S).toNat) (d14 S).toNat = -1 ∨ Xi S (196 + (s14 S).toNat) (d14 S).toNat = o) → z = 1 ∧ Xi S1 876 8 = 0 ∧ OBX S S1 o (n14 S) (e14 S) 1 ∧ TWX S S1 (s14 S) (d14 S) o ∧ Xi S1 891 10 = o) ∧ (¬ (Xi S (196 + (s14 S).toNat) (d14 S).toNat = -1 ∨ Xi S (196 + (s14 S).toNat) (d14 S).toNat = o) → z = 0 ∧ FTO S S1 5 (n14 S)))) : TW14 S S1 z := by
  have n1 : mnV S (n14 S) (e14 S) = -1 → nwC S (n14 S) (e14 S) ∧ Xi S 5 2 < 24 := fun q => by
    rcases k with ⟨k1, k2, k3⟩ | ⟨k1, k2⟩
    · exact ⟨k2, k3⟩
    · exact absurd q k1
  have n2 : mnV S (n14 S) (e14 S) ≠ -1 → OKA S (n14 S) (e14 S) 1 := fun q => by
    rcases k with ⟨k1, k2, k3⟩ | ⟨k1, k2⟩
    · exact absurd k1 q
    · exact k2
  exact ⟨fun q w => absurd (n1 q).1 w, fun q _ w => by have := (n1 q).2; omega, fun q w => absurd (n2 q) w, fun _ => r.1, fun _ => r.2.1, fun _ => r.2.2.1, fun _ => r.2.2.2⟩
theorem swy_fr {l : List rec} {S T : sS} (h : FR l S T) (e1 : kdis l [(196, 246)] = true) (e2 : mdf l 20 12 = false) : SWY S T := ⟨h.x 20 12 e2, fun k j h1 h2 => (h.smk e1).x k (by unfold inK; simp only [List.any_cons, List.any_nil, Bool.or_false, Bool.and_eq_true, Nat.ble_eq, Nat.blt_eq]; omega) j⟩
theorem SWY.tr {S U V : sS} (h : SWY S U) (k : SWY U V) : SWY S V := ⟨k.1.trans h.1, fun a j q w => (k.2 a j q w).trans (h.2 a j q w)⟩
theorem tww {S P S1 : sS} {z r d t : Int} (s : SWY S P) (w : TWYC P S1 z r d t) (hr : 0 ≤ r ∧ r ≤ 23) (ht : rg t) (h12 : rg (Xi S 20 12 + 1)) (h13 : rg (Xi S 20 12)) : ((Xi S (196 + r.toNat) d.toNat = -1 ∨ Xi S (196 + r.toNat) d.toNat = t) → z = 1 ∧ TWX S S1 r d t ∧ (∀ k j : Nat, (k < 20 ∨ (20 < k ∧ k < 196) ∨ 246 ≤ k) → Xi S1 k j = Xi P k j) ∧ ∀ k j, Xj S1 k j = Xj P k j) ∧ (¬ (Xi S (196 + r.toNat) d.toNat = -1 ∨ Xi S (196 + r.toNat) d.toNat = t) → z = 0 ∧ S1 = P) := by
  obtain ⟨w1, w2, w3⟩ := w
  have e : Xi P (196 + r.toNat) d.toNat = Xi S (196 + r.toNat) d.toNat := s.2 _ _ (by omega) (by omega)
  rw [e] at w1 w2 w3
  rw [s.1] at w1
  refine ⟨fun q => ?_, fun q => ?_⟩
  · by_cases v : Xi S (196 + r.toNat) d.toNat = -1
    · obtain ⟨a, b⟩ := w1 v
      refine ⟨a, ⟨fun _ => ⟨?_, ?_, ?_, fun k j h1 h2 h3 h4 => ?_⟩, fun x => absurd v x⟩, fun k j hk => ?_, fun k j => ?_⟩
      · rw [b, Xi_ne (by omega), Xi_ne (by omega)]; exact Xi_same ht
      · rw [b, Xi_ne (by omega)]; exact Xi_same h13
      · rw [b]; exact Xi_same h12
      · rw [b, Xi_ne (by omega), Xi_ne (by omega), Xi_ne (by omega)]; exact s.2 k j h1 h2
      · rw [b, Xi_ne (by omega), Xi_ne (by omega), Xi_ne (by omega)]
      · rw [b, Xj_I, Xj_I, Xj_I]
    · obtain ⟨a, b⟩ := w2 v (by rcases q with q | q; exact absurd q v; exact q)
      subst b
      exact ⟨a, ⟨fun x => absurd x v, fun _ => s⟩, fun _ _ _ => rfl, fun _ _ => rfl⟩
  · exact w3 (fun x => q (Or.inl x)) (fun x => q (Or.inr x))
theorem smo_w {S P S1 : sS} (h : SMO S P) (a : ∀ k j : Nat, (k < 20 ∨ (20 < k ∧ k < 196) ∨ 246 ≤ k) → Xi S1 k j = Xi P k j) (b : ∀ k j, Xj S1 k j = Xj P k j) : SMO S S1 :=
  ⟨h.1.tr ⟨a _ _ (by omega), fun j => b _ j, fun j => a _ j (by omega), fun j => a _ j (by omega), fun j => b _ j⟩, fun j => (a _ j (by omega)).trans (h.2.1 j), fun j => ⟨(a _ j (by omega)).trans (h.2.2 j).1, (a _ j (by omega)).trans (h.2.2 j).2.1, (a _ j (by omega)).trans (h.2.2 j).2.2⟩⟩
/-- the end of 14 -/
theorem tw_end {S P A U S1 : sS} {o z9 : Int} {l0 l1 : List rec} (F0 : FR l0 S P) (ob : OBN P A o (n14 S) (e14 S) 1) (F1 : FR l1 P A) (e : U = uI A 891 10 (Int32.ofInt o)) (w : TWYC U S1 z9 (s14 S) (d14 S) o) (hs : 0 ≤ s14 S ∧ s14 S ≤ 23) (ho : 0 ≤ o ∧ o ≤ 63) (h12 : 0 ≤ Xi S 20 12 ∧ Xi S 20 12 ≤ 1000000) (f8 : Xi P 876 8 = 0) (a0 : kdis l0 [(2, 6), (21, 24), (879, 880)] = true := by rfl) (a1 : mdf l0 1 3 = false := by rfl) (a2 : kdis l0 [(196, 246)] = true := by rfl) (a3 : mdf l0 20 12 = false := by rfl) (a4 : kdis l1 [(196, 246)] = true := by rfl) (a5 : mdf l1 20 12 = false := by rfl) (a6 : mdf l1 876 8 = false := by rfl) : (fnd S 2 (n14 S) (e14 S) ≠ -1 → o = fnd S 2 (n14 S) (e14 S)) ∧ (fnd S 2 (n14 S) (e14 S) = -1 → o = Xi S 5 2) ∧ ((Xi S (196 + (s14 S).toNat) (d14 S).toNat = -1 ∨ Xi S (196 + (s14 S).toNat) (d14 S).toNat = o) → z9 = 1 ∧ Xi S1 876 8 = 0 ∧ OBX S S1 o (n14 S) (e14 S) 1 ∧ TWX S S1 (s14 S) (d14 S) o ∧ Xi S1 891 10 = o) ∧ (¬ (Xi S (196 + (s14 S).toNat) (d14 S).toNat = -1 ∨ Xi S (196 + (s14 S).toNat) (d14 S).toNat = o) → z9 = 0 ∧ S1 = U) := by
  have sp := SMO_FR F0 a0 a1
  have ua : SMO A U := ⟨SMV_w SMV.rf e (by omega) (by omega) (by omega), fun j => by rw [e, Xi_ne (by omega)], fun j => ⟨by rw [e, Xi_ne (by omega)], by rw [e, Xi_ne (by omega)], by rw [e, Xi_ne (by omega)]⟩⟩
  have ww : SWY S U := ((swy_fr F0 a2 a3).tr (swy_fr F1 a4 a5)).tr ⟨by rw [e, Xi_ne (by omega)], fun k j h1 h2 => by rw [e, Xi_ne (by omega)]⟩
  have r := tww ww w hs (by unfold rg; omega) (by unfold rg; omega) (by unfold rg; omega)
  have ox := ob
  obtain ⟨o1, o2⟩ := ox
  rw [fnd_eq sp.1] at o1 o2
  refine ⟨fun q => (o1 q).1, fun q => ?_, fun q => ?_, r.2⟩
  · have t := (o2 q).1; rw [sp.2.1] at t; exact t
  · obtain ⟨r1, r2, r3, r4⟩ := r.1 q
    refine ⟨r1, ?_, obx_of sp ob (smo_w ua r3 r4), r2, ?_⟩
    · rw [r3 _ _ (by omega), e, Xi_ne (by omega), F1.x 876 8 a6]; exact f8
    · rw [r3 _ _ (by omega), e]; exact Xi_same (by unfold rg; omega)
theorem ton_8 {S S1 : sS} {z f t k : Int} (o : TON S S1 z f t k) (hz : z ≠ 0) (hf : Xi S 876 8 = 0) (h9 : Xi S 891 9 = 0) : Xi S1 876 8 = 0 := by
  obtain ⟨a, b, c, d, e⟩ := o
  by_cases q : mnV S f t = -1
  · by_cases w : nwC S f t
    · by_cases v : 24 ≤ Xi S 5 2
      · exact absurd (b q w (by omega)).1 hz
      · exact (c q w (by omega)).2.1
    · exact absurd (a q w).1 hz
  · by_cases w : OKA S f t k
    · rw [(d q w).2]; exact hf
    · exact absurd (e q w).1 hz
theorem isKn_f7 {l : List rec} {S T : sS} {o : Int} (h : FR l S T) (e : kdis l [(6, 7)] = true) : ∀ (n : Nat) (k : Int), isKn T o n k = isKn S o n k
  | 0, _ => rfl
  | n + 1, k => by
    have i := isKn_f7 (o := o) h e n
    unfold isKn
    rw [(h.smk e).x 6 rfl, i]
theorem isK_f7 {l : List rec} {S T : sS} (h : FR l S T) (e : kdis l [(6, 7)] = true) (a b : Int) : isK T a b = isK S a b := isKn_f7 h e 16 a
theorem pc7_w {S S1 : sS} {j : Nat} {v : Int32} (e : S1 = uI S 891 j v) (r : Int) : pc7 S1 r = pc7 S r := by
  unfold pc7
  rw [e, Xi_ne (by omega), Xi_ne (by omega), Xi_ne (by omega)]

def md_re_tellWay__p : List rec := [(1, 2, 3, 4), (2, 3, 0, 100000), (3, 4, 0, 100000), (4, 5, 0, 100000), (5, 6, 0, 100000), (20, 21, 12, 13), (21, 22, 0, 100000), (22, 23, 0, 100000), (23, 24, 0, 100000), (196, 220, 0, 100000), (221, 245, 0, 100000), (876, 877, 8, 9), (876, 877, 9, 10), (891, 892, 9, 10), (891, 892, 10, 11), (892, 893, 0, 100000), (893, 894, 0, 100000)]
abbrev Q_re_tellWay__p (S : sS) : pst := fun r S1 => RI S1 ∧ FR md_re_tellWay__p S S1 ∧ (∃ z : Int, r = some (iv z) ∧ (0 ≤ z ∧ z ≤ 1) ∧ (TW14 S S1 z))
set_option maxRecDepth 100000 in
theorem t_re_tellWay__p {S : sS} (hH : RI S) (h13 : 0 ≤ Xi S 1 3 ∧ Xi S 1 3 ≤ 200) (hCE : CEN S) (hNB : NRB S) (hf : Xi S 876 8 = 0) (hr : Xi S 876 7 ≤ 5130) (ht : 0 ≤ Xi S 890 3 ∧ Xi S 890 3 ≤ 5125) (hn0 : Xi S 891 9 = 0) (h2 : Xi S 1 3 < 199) (hfn : FN1 S) (hc : 0 ≤ Xi S 5 2 ∧ Xi S 5 2 ≤ 24) (h12 : 0 ≤ Xi S 20 12 ∧ Xi S 20 12 ≤ 1000000) (hob : Hid (fnd S 2 (l14 S) (re7 (ty7 S) (l14 S)) ≤ 23)) (ho : o14 S < Xi S 876 7) (d : Nat) : Mp lay0 (d + 5) m_re_tellWay [.ref 891] S (Q_re_tellWay__p S) := by
  refine Mp_R rfl rfl (fun fu => ?_)
  have hF : FR md_re_tellWay__p S S := FR.rf
  have w1 : -2147483648 ≤ Xi S 1 3 ∧ Xi S 1 3 ≤ 2147483647 := Xi_rgI
  have w2 : -2147483648 ≤ Xi S 20 12 ∧ Xi S 20 12 ≤ 2147483647 := Xi_rgI
  have w3 : -2147483648 ≤ Xi S 5 2 ∧ Xi S 5 2 ≤ 2147483647 := Xi_rgI
  have w4 : -2147483648 ≤ Xi S 876 7 ∧ Xi S 876 7 ≤ 2147483647 := Xi_rgI
  have w5 : -2147483648 ≤ Xi S 876 8 ∧ Xi S 876 8 ≤ 2147483647 := Xi_rgI
  have w6 : -2147483648 ≤ Xi S 890 3 ∧ Xi S 890 3 ≤ 2147483647 := Xi_rgI
  have w7 : -2147483648 ≤ Xi S 891 9 ∧ Xi S 891 9 ≤ 2147483647 := Xi_rgI
  refine y_aload_n rfl rfl ?_
  refine y_gfr rfl rfl rfl rfl rfl (hH.r 891 1 890 rfl) ?_
  refine y_gfi rfl rfl rfl rfl rfl ?_
  refine y_istore_n rfl rfl rfl ?_
  refine y_aload_n rfl rfl ?_
  refine y_gfr rfl rfl rfl rfl rfl (hH.r 891 0 876 rfl) ?_
  refine y_iconst rfl ?_
  refine y_callV rfl rfl rfl (t_to_behindArt__p hH 0 ⟨by omega, by omega⟩ _) ?_
  rintro _ _ ⟨rfl, z10, rfl, w10, w8, w9⟩
  show Pl _ _ _ _ _ _ [iv z10] _ _
  have gq13 := w8
  clear w8
  have q13 : z10 = n14 S := gq13.symm
  refine y_istore_n rfl rfl rfl ?_
  refine y_aload_n rfl rfl ?_
  refine y_iload_n rfl rfl ?_
  refine y_iconst rfl ?_
  refine y_callV rfl rfl rfl (t_re_takeObjectOrNew__p hH z10 1 ⟨by omega, by omega⟩ ⟨by omega, by omega⟩ (by first | assumption | omega) (by first | assumption | exact (by assumption : CEN S)) (by first | assumption | exact (by assumption : NRB S)) (by first | assumption | omega) (by first | assumption | omega) (by first | assumption | omega) (by omega) (by first | assumption | omega) _) ?_
  rintro _ T1 ⟨hHT1, w12, z11, rfl, w11, o20_, nb20⟩
  have hFT1 : FR md_re_tellWay__p S T1 := FR.tr hF w12 rfl
  show Pl _ _ _ _ _ _ [iv z11] _ _
  have K20 : True := trivial
  have o20 : Hid (TON S T1 z11 (n14 S) (e14 S) 1) := by have t := o20_; rw [q13] at t; exact t
  clear o20_
  have F20 := (by assumption : FR md_re_takeObjectOrNew__p S T1)
  refine y_if_ne rfl rfl (by unfold rg; omega) (fun w13 => ?_) (fun w14 => ?_)
  · refine y_aload_n rfl rfl ?_
    have okw : Hid (OKW S 1) := okw_of o20.o hn0 (by omega)
    have f28 : Xi T1 876 8 = 0 := ton_8 o20.o (by omega) hf hn0
    have V28 : SMV S T1 := SMV_FR F20 rfl rfl
    have P28 : Hid (∀ r, pc7 T1 r = pc7 S r) := pc7_FR F20 rfl rfl rfl
    have e28 : Xi T1 1 3 = Xi S 1 3 := V28.1
    have n28 : FN1 T1 := by unfold FN1; rw [FRT F20 rfl rfl]; exact hfn
    have s28 : sn2 T1 = sn2 S := by unfold sn2 nL; rw [FRT F20 rfl rfl, F20.x 890 3 rfl]
    have K28 : Hid (∀ j, Xi T1 21 j = Xi S 21 j) := fun j => (F20.cx 21 rfl j).1
    have k28 : Hid (∀ a b, isK T1 a b = isK S a b) := isK_f7 F20 rfl
    have w15 : Xi T1 1 3 = Xi S 1 3 := (show Xi T1 1 3 = Xi S 1 3 from w12.x _ _ rfl)
    have w16 : Xi T1 5 2 = Xi S 5 2 := (show Xi T1 5 2 = Xi S 5 2 from w12.x _ _ rfl)
    have w17 : Xi T1 876 7 = Xi S 876 7 := (show Xi T1 876 7 = Xi S 876 7 from w12.x _ _ rfl)
    have w18 : Xi T1 890 3 = Xi S 890 3 := (show Xi T1 890 3 = Xi S 890 3 from w12.x _ _ rfl)
    refine y_callV rfl rfl rfl (t_re_secondName__p hHT1 (by first | assumption | omega) (by first | assumption | omega) (by first | assumption | exact hfn) _) ?_
    rintro _ _ ⟨rfl, z19, rfl, w19, v29⟩
    show Pl _ _ _ _ _ _ [iv z19] _ _
    have g29 : z19 = sn2 S := v29.trans s28
    refine y_iconst rfl ?_
    refine y_icmp_eq rfl rfl (by unfold rg; omega) (by unfold rg; omega) (fun w20 => ?_) (fun w21 => ?_)
    · refine y_aload_n rfl rfl ?_
      have N33 : sn2 S = -1 := by omega
      refine y_gfr rfl rfl rfl rfl rfl (hHT1.r 891 0 876 rfl) ?_
      refine y_iload_n rfl rfl ?_
      refine y_iconst rfl ?_
      refine y_iadd rfl ?_
      refine y_callV rfl rfl rfl (t_to_runEnd__p hHT1 ((Xi S 890 3) + 1) ⟨by omega, by omega⟩ _) ?_
      rintro _ _ ⟨rfl, z28, rfl, w28, w26, w27⟩
      show Pl _ _ _ _ _ _ [iv z28] _ _
      have gq56 := w26
      rw [FRT hFT1 rfl rfl] at gq56
      try rw [show Xi T1 890 1 = Xi S 890 1 by omega] at gq56
      clear w26
      have q56 : z28 = o14 S := gq56.symm
      refine y_istore_n rfl rfl rfl ?_
      refine y_aload_n rfl rfl ?_
      refine y_gfr rfl rfl rfl rfl rfl (hHT1.r 891 4 895 rfl) ?_
      refine y_bipush rfl rfl ?_
      refine y_iload_n rfl rfl ?_
      refine y_iconst rfl ?_
      refine y_iadd rfl ?_
      refine y_iload_n rfl rfl ?_
      refine y_callV rfl rfl rfl (t_me_find__p hHT1 14 ((Xi S 890 3) + 1) z28 ⟨by omega, by omega⟩ ⟨by omega, by omega⟩ ⟨by omega, by omega⟩ (by first | assumption | omega) (by first | assumption | exact (CEN_FR w12 rfl rfl (by assumption : CEN S))) _) ?_
      rintro _ _ ⟨rfl, z33, rfl, w33, v70⟩
      show Pl _ _ _ _ _ _ [iv z33] _ _
      have K70 : z33 = d14 S := by have t := v70; rw [fnd_eq V28, q56] at t; exact t
      refine y_istore rfl rfl rfl ?_
      refine y_iload rfl rfl ?_
      refine y_iconst rfl ?_
      refine y_icmp_ne rfl rfl (by unfold rg; omega) (by unfold rg; omega) (fun w34 => ?_) (fun w35 => ?_)
      · refine y_aload_n rfl rfl ?_
        have D93 : d14 S ≠ -1 := by omega
        refine y_gfr rfl rfl rfl rfl rfl (hHT1.r 891 0 876 rfl) ?_
        refine y_iload_n rfl rfl ?_
        refine y_iconst rfl ?_
        refine y_iadd rfl ?_
        refine y_callV rfl rfl rfl (t_to_behindArt__p hHT1 (z28 + 1) ⟨by omega, by omega⟩ _) ?_
        rintro _ _ ⟨rfl, z42, rfl, w42, w40, w41⟩
        show Pl _ _ _ _ _ _ [iv z42] _ _
        have gq100 := w40
        rw [FRT hFT1 rfl rfl] at gq100
        try rw [show Xi T1 890 1 = Xi S 890 1 by omega] at gq100
        clear w40
        have q100 : z42 = l14 S := by unfold l14; rw [← q56]; exact gq100.symm
        refine y_istore rfl rfl rfl ?_
        refine y_aload_n rfl rfl ?_
        refine y_gfr rfl rfl rfl rfl rfl (hHT1.r 891 4 895 rfl) ?_
        refine y_iconst rfl ?_
        refine y_iload rfl rfl ?_
        refine y_aload_n rfl rfl ?_
        refine y_gfr rfl rfl rfl rfl rfl (hHT1.r 891 0 876 rfl) ?_
        refine y_iload rfl rfl ?_
        refine y_callV rfl rfl rfl (t_to_runEnd__p hHT1 z42 ⟨by omega, by omega⟩ _) ?_
        rintro _ _ ⟨rfl, z49, rfl, w49, w47, w48⟩
        show Pl _ _ _ _ _ _ [iv z49, iv z42, iv 2, .ref 895] _ _
        have gq118 := w47
        rw [FRT hFT1 rfl rfl] at gq118
        try rw [show Xi T1 890 1 = Xi S 890 1 by omega] at gq118
        clear w47
        refine y_callV rfl rfl rfl (t_me_find__p hHT1 2 z42 z49 ⟨by omega, by omega⟩ ⟨by omega, by omega⟩ ⟨by omega, by omega⟩ (by first | assumption | omega) (by first | assumption | exact (CEN_FR w12 rfl rfl (by assumption : CEN S))) _) ?_
        rintro _ _ ⟨rfl, z54, rfl, w54, v121⟩
        show Pl _ _ _ _ _ _ [iv z54] _ _
        have K121 : z54 = s14 S := by have t := v121; rw [fnd_eq V28, ← gq118, q100] at t; exact t
        have h121 : s14 S ≤ 23 := hob.o
        refine y_istore rfl rfl rfl ?_
        refine y_iload rfl rfl ?_
        refine y_iconst rfl ?_
        refine y_icmp_eq rfl rfl (by unfold rg; omega) (by unfold rg; omega) (fun w55 => ?_) (fun w56 => ?_)
        · refine y_aload_n rfl rfl ?_
          have N145 : Hid (¬ OKS S) := by first | (have t := K139; exact fun q => by have u := q.2; omega) | exact fun q => q.1 (by omega)
          refine y_gfr rfl rfl rfl rfl rfl (hHT1.r 891 0 876 rfl) ?_
          refine y_iconst rfl ?_
          refine y_iload rfl rfl ?_
          refine y_callV rfl rfl rfl (t_to_wrong__p hHT1 4 z42 ⟨by omega, by omega⟩ ⟨by omega, by omega⟩ _) ?_
          rintro _ T2 ⟨hHT2, w64, z63, rfl, w63, w61, f152, w62⟩
          have hFT2 : FR md_re_tellWay__p S T2 := FR.tr hFT1 w64 rfl
          show Pl _ _ _ _ _ _ [iv z63] _ _
          have K152 : True := trivial
          have Y152 : FTO S T2 4 (l14 S) := fto_p (by rw [← q100]; exact f152 f28) P28.o
          refine y_ireturn rfl (retI_z (by omega)) ?_
          have w65 : Xi T2 1 3 = Xi S 1 3 := (show Xi T2 1 3 = Xi T1 1 3 from w64.x _ _ rfl).trans ((show Xi T1 1 3 = Xi S 1 3 from w12.x _ _ rfl))
          have w66 : Xi T2 5 2 = Xi S 5 2 := (show Xi T2 5 2 = Xi T1 5 2 from w64.x _ _ rfl).trans ((show Xi T1 5 2 = Xi S 5 2 from w12.x _ _ rfl))
          have w67 : Xi T2 876 7 = Xi S 876 7 := (show Xi T2 876 7 = Xi T1 876 7 from w64.x _ _ rfl).trans ((show Xi T1 876 7 = Xi S 876 7 from w12.x _ _ rfl))
          have w68 : Xi T2 890 3 = Xi S 890 3 := (show Xi T2 890 3 = Xi T1 890 3 from w64.x _ _ rfl).trans ((show Xi T1 890 3 = Xi S 890 3 from w12.x _ _ rfl))
          have w69 : Xi T2 891 9 = Xi T1 891 9 := (show Xi T2 891 9 = Xi T1 891 9 from w64.x _ _ rfl)
          exact ⟨hHT2, hFT2, _, rfl, ⟨by omega, by omega⟩, (by first | (have t := K178; first | (have t := K190; exact okw_3 okw.o ⟨fun q => absurd N33 q, fun _ q => absurd q D93, fun _ _ q => absurd S156.o q, fun _ _ _ => ⟨_, E178.o.1, E178.o.2.1, fun q => absurd (E178.o.2.2.1 q).1 (by omega), fun q => ⟨by omega, Y190⟩⟩⟩) | exact okw_3 okw.o ⟨fun q => absurd N33 q, fun _ q => absurd q D93, fun _ _ q => absurd S156.o q, fun _ _ _ => ⟨_, E178.o.1, E178.o.2.1, fun q => ⟨rfl, (E178.o.2.2.1 q).2⟩, fun q => absurd (E178.o.2.2.2 q).1 (by omega)⟩⟩) | (have t := K152; exact okw_3 okw.o ⟨fun q => absurd N33 q, fun _ q => absurd q D93, fun _ _ _ => ⟨by omega, Y152⟩, fun _ _ q => absurd q N145.o⟩) | (have t := K89; exact okw_3 okw.o ⟨fun q => absurd N33 q, fun _ _ => ⟨by omega, Y89⟩, fun _ q => absurd D81 q, fun _ q => absurd D81 q⟩) | (have t := K45; exact okw_3 okw.o ⟨fun _ => ⟨by omega, Y45⟩, fun q => absurd q N36, fun q => absurd q N36, fun q => absurd q N36⟩) | (have t := K20; exact tw_1 o20.o hn0 (by omega)))⟩
        · refine y_aload_n rfl rfl ?_
          refine y_gfr rfl rfl rfl rfl rfl (hHT1.r 891 3 20 rfl) ?_
          refine y_iload rfl rfl ?_
          refine y_iconst rfl ?_
          refine y_callV rfl rfl rfl (t_wo_isA__p hHT1 z54 1 ⟨by omega, by omega⟩ ⟨by omega, by omega⟩ _) ?_
          rintro _ _ ⟨rfl, z74, rfl, w74, q139⟩
          show Pl _ _ _ _ _ _ [iv z74] _ _
          have K139 : z74 = isK S (Xi S 21 (s14 S).toNat) 1 := by have t := q139; rw [k28.o, K28.o, K121] at t; exact t
          refine y_if_ne rfl rfl (by unfold rg; omega) (fun w75 => ?_) (fun w76 => ?_)
          · refine y_aload_n rfl rfl ?_
            have S156 : Hid (OKS S) := ⟨by omega, by omega⟩
            have g156 := fnd_rg (S := S) (s := 2) (a := l14 S) (b := re7 (ty7 S) (l14 S)) hCE (by omega)
            have g156b : -1 ≤ s14 S := g156.1
            refine y_aload_n rfl rfl ?_
            refine y_iload_n rfl rfl ?_
            refine y_iconst rfl ?_
            refine y_callV rfl rfl rfl (t_re_objectOrNew__p hHT1 z10 1 ⟨by omega, by omega⟩ ⟨by omega, by omega⟩ (by first | assumption | omega) (by first | assumption | exact (CEN_FR w12 rfl rfl (by assumption : CEN S))) (by first | assumption | omega) (by first | assumption | omega) (by first | assumption | omega) (by first | assumption | omega) _) ?_
            rintro _ T3 ⟨hHT3, w82, z81, rfl, w81, o160, g160⟩
            have hFT3 : FR md_re_tellWay__p S T3 := FR.tr hFT1 w82 rfl
            show Pl _ _ _ _ _ _ [iv z81, .ref 891] _ _
            have O160 : Hid (OBN T1 T3 z81 (n14 S) (e14 S) 1) := by have t := o160; rw [FRT F20 rfl rfl, q13] at t; exact t
            clear o160
            have F160 := (by assumption : FR md_re_objectOrNew__p T1 T3)
            obtain ⟨oo, hoo⟩ : ∃ o : Int, o = z81 := ⟨_, rfl⟩
            refine y_pfi rfl rfl rfl rfl ?_
            obtain ⟨U4, eU4⟩ : ∃ T : sS, T = uI T3 891 10 (Int32.ofInt z81) := ⟨_, rfl⟩
            rw [← eU4]
            have hHU4 : RI U4 := by rw [eU4]; exact RI_w hHT3
            have hFU4 : FR md_re_tellWay__p S U4 := by rw [eU4]; exact FR.wI hFT3 (mdf_i (r := (891, 892, 10, 11)) (List.mem_of_getElem? (i := 14) rfl) (inR_i (by omega) (by omega) (by omega) (by omega)))
            have w83 : Xi U4 891 10 = z81 := by rw [eU4]; exact Xi_same (by unfold rg; omega)
            have ee163 := eU4
            have g163 : Xi U4 891 10 = oo := by rw [hoo, eU4]; exact Xi_same (by unfold rg; omega)
            refine y_aload_n rfl rfl ?_
            refine y_gfr rfl rfl rfl rfl rfl (hHU4.r 891 3 20 rfl) ?_
            refine y_iload rfl rfl ?_
            refine y_iload rfl rfl ?_
            refine y_aload_n rfl rfl ?_
            refine y_gfi rfl rfl rfl rfl rfl ?_
            have w84 : Xi U4 1 3 = Xi T3 1 3 := (show Xi U4 1 3 = Xi T3 1 3 from by rw [eU4]; exact Xi_ne (by omega))
            have w85 : Xi U4 20 12 = Xi S 20 12 := (show Xi U4 20 12 = Xi T3 20 12 from by rw [eU4]; exact Xi_ne (by omega)).trans ( (show Xi T3 20 12 = Xi T1 20 12 from w82.x _ _ rfl).trans ((show Xi T1 20 12 = Xi S 20 12 from w12.x _ _ rfl)))
            have w86 : Xi U4 5 2 = Xi T3 5 2 := (show Xi U4 5 2 = Xi T3 5 2 from by rw [eU4]; exact Xi_ne (by omega))
            have w87 : Xi U4 876 7 = Xi S 876 7 := (show Xi U4 876 7 = Xi T3 876 7 from by rw [eU4]; exact Xi_ne (by omega)).trans ( (show Xi T3 876 7 = Xi T1 876 7 from w82.x _ _ rfl).trans ((show Xi T1 876 7 = Xi S 876 7 from w12.x _ _ rfl)))
            have w88 : Xi U4 876 8 = Xi T1 876 8 := (show Xi U4 876 8 = Xi T3 876 8 from by rw [eU4]; exact Xi_ne (by omega)).trans ((show Xi T3 876 8 = Xi T1 876 8 from w82.x _ _ rfl))
            have w89 : Xi U4 890 3 = Xi S 890 3 := (show Xi U4 890 3 = Xi T3 890 3 from by rw [eU4]; exact Xi_ne (by omega)).trans ( (show Xi T3 890 3 = Xi T1 890 3 from w82.x _ _ rfl).trans ((show Xi T1 890 3 = Xi S 890 3 from w12.x _ _ rfl)))
            have w90 : Xi U4 891 9 = Xi T1 891 9 := (show Xi U4 891 9 = Xi T3 891 9 from by rw [eU4]; exact Xi_ne (by omega)).trans ((show Xi T3 891 9 = Xi T1 891 9 from w82.x _ _ rfl))
            refine y_callV rfl rfl rfl (t_wo_tellWay__p hHU4 z54 z33 (Xi U4 891 10) ⟨by omega, by omega⟩ ⟨by omega, by omega⟩ ⟨by omega, by omega⟩ (by rw [ee163, Xi_ne (by omega), F160.x 20 12 rfl, F20.x 20 12 rfl]; exact h12) _) ?_
            rintro _ T5 ⟨hHT5, w92, z91, rfl, w91, e178⟩
            have hFT5 : FR md_re_tellWay__p S T5 := FR.tr hFU4 w92 rfl
            show Pl _ _ _ _ _ _ [iv z91] _ _
            have K178 : True := trivial
            have E178 := Hid.i (tw_end F20 O160.o F160 ee163 (by have t := e178; rw [K121, K70, g163, hoo] at t; exact t) (by omega) (by omega) h12 f28)
            have F178 := (by assumption : FR md_wo_tellWay__p U4 T5)
            refine y_if_ne rfl rfl (by unfold rg; omega) (fun w93 => ?_) (fun w94 => ?_)
            · refine y_iconst rfl ?_
              refine y_goto rfl rfl ?_
              refine y_ireturn rfl rfl ?_
              have w95 : Xi T5 1 3 = Xi T3 1 3 := (show Xi T5 1 3 = Xi U4 1 3 from w92.x _ _ rfl).trans ((show Xi U4 1 3 = Xi T3 1 3 from by rw [eU4]; exact Xi_ne (by omega)))
              have w96 : Xi T5 5 2 = Xi T3 5 2 := (show Xi T5 5 2 = Xi U4 5 2 from w92.x _ _ rfl).trans ((show Xi U4 5 2 = Xi T3 5 2 from by rw [eU4]; exact Xi_ne (by omega)))
              have w97 : Xi T5 876 7 = Xi S 876 7 := (show Xi T5 876 7 = Xi U4 876 7 from w92.x _ _ rfl).trans ( (show Xi U4 876 7 = Xi T3 876 7 from by rw [eU4]; exact Xi_ne (by omega)).trans ( (show Xi T3 876 7 = Xi T1 876 7 from w82.x _ _ rfl).trans ((show Xi T1 876 7 = Xi S 876 7 from w12.x _ _ rfl))))
              have w98 : Xi T5 876 8 = Xi T1 876 8 := (show Xi T5 876 8 = Xi U4 876 8 from w92.x _ _ rfl).trans ( (show Xi U4 876 8 = Xi T3 876 8 from by rw [eU4]; exact Xi_ne (by omega)).trans ((show Xi T3 876 8 = Xi T1 876 8 from w82.x _ _ rfl)))
              have w99 : Xi T5 890 3 = Xi S 890 3 := (show Xi T5 890 3 = Xi U4 890 3 from w92.x _ _ rfl).trans ( (show Xi U4 890 3 = Xi T3 890 3 from by rw [eU4]; exact Xi_ne (by omega)).trans ( (show Xi T3 890 3 = Xi T1 890 3 from w82.x _ _ rfl).trans ((show Xi T1 890 3 = Xi S 890 3 from w12.x _ _ rfl))))
              have w100 : Xi T5 891 9 = Xi T1 891 9 := (show Xi T5 891 9 = Xi U4 891 9 from w92.x _ _ rfl).trans ( (show Xi U4 891 9 = Xi T3 891 9 from by rw [eU4]; exact Xi_ne (by omega)).trans ((show Xi T3 891 9 = Xi T1 891 9 from w82.x _ _ rfl)))
              exact ⟨hHT5, hFT5, _, rfl, ⟨by omega, by omega⟩, (by first | (have t := K178; first | (have t := K190; exact okw_3 okw.o ⟨fun q => absurd N33 q, fun _ q => absurd q D93, fun _ _ q => absurd S156.o q, fun _ _ _ => ⟨_, E178.o.1, E178.o.2.1, fun q => absurd (E178.o.2.2.1 q).1 (by omega), fun q => ⟨by omega, Y190⟩⟩⟩) | exact okw_3 okw.o ⟨fun q => absurd N33 q, fun _ q => absurd q D93, fun _ _ q => absurd S156.o q, fun _ _ _ => ⟨_, E178.o.1, E178.o.2.1, fun q => ⟨rfl, (E178.o.2.2.1 q).2⟩, fun q => absurd (E178.o.2.2.2 q).1 (by omega)⟩⟩) | (have t := K152; exact okw_3 okw.o ⟨fun q => absurd N33 q, fun _ q => absurd q D93, fun _ _ _ => ⟨by omega, Y152⟩, fun _ _ q => absurd q N145.o⟩) | (have t := K89; exact okw_3 okw.o ⟨fun q => absurd N33 q, fun _ _ => ⟨by omega, Y89⟩, fun _ q => absurd D81 q, fun _ q => absurd D81 q⟩) | (have t := K45; exact okw_3 okw.o ⟨fun _ => ⟨by omega, Y45⟩, fun q => absurd q N36, fun q => absurd q N36, fun q => absurd q N36⟩) | (have t := K20; exact tw_1 o20.o hn0 (by omega)))⟩
            · refine y_aload_n rfl rfl ?_
              refine y_gfr rfl rfl rfl rfl rfl (hHT5.r 891 0 876 rfl) ?_
              refine y_iconst rfl ?_
              refine y_iload_n rfl rfl ?_
              have w101 : Xi T5 1 3 = Xi T3 1 3 := (show Xi T5 1 3 = Xi U4 1 3 from w92.x _ _ rfl).trans ((show Xi U4 1 3 = Xi T3 1 3 from by rw [eU4]; exact Xi_ne (by omega)))
              have w102 : Xi T5 5 2 = Xi T3 5 2 := (show Xi T5 5 2 = Xi U4 5 2 from w92.x _ _ rfl).trans ((show Xi U4 5 2 = Xi T3 5 2 from by rw [eU4]; exact Xi_ne (by omega)))
              have w103 : Xi T5 876 7 = Xi S 876 7 := (show Xi T5 876 7 = Xi U4 876 7 from w92.x _ _ rfl).trans ( (show Xi U4 876 7 = Xi T3 876 7 from by rw [eU4]; exact Xi_ne (by omega)).trans ( (show Xi T3 876 7 = Xi T1 876 7 from w82.x _ _ rfl).trans ((show Xi T1 876 7 = Xi S 876 7 from w12.x _ _ rfl))))
              have w104 : Xi T5 876 8 = Xi T1 876 8 := (show Xi T5 876 8 = Xi U4 876 8 from w92.x _ _ rfl).trans ( (show Xi U4 876 8 = Xi T3 876 8 from by rw [eU4]; exact Xi_ne (by omega)).trans ((show Xi T3 876 8 = Xi T1 876 8 from w82.x _ _ rfl)))
              have w105 : Xi T5 876 9 = Xi T1 876 9 := (show Xi T5 876 9 = Xi U4 876 9 from w92.x _ _ rfl).trans ( (show Xi U4 876 9 = Xi T3 876 9 from by rw [eU4]; exact Xi_ne (by omega)).trans ((show Xi T3 876 9 = Xi T1 876 9 from w82.x _ _ rfl)))
              have w106 : Xi T5 890 3 = Xi S 890 3 := (show Xi T5 890 3 = Xi U4 890 3 from w92.x _ _ rfl).trans ( (show Xi U4 890 3 = Xi T3 890 3 from by rw [eU4]; exact Xi_ne (by omega)).trans ( (show Xi T3 890 3 = Xi T1 890 3 from w82.x _ _ rfl).trans ((show Xi T1 890 3 = Xi S 890 3 from w12.x _ _ rfl))))
              have w107 : Xi T5 891 9 = Xi T1 891 9 := (show Xi T5 891 9 = Xi U4 891 9 from w92.x _ _ rfl).trans ( (show Xi U4 891 9 = Xi T3 891 9 from by rw [eU4]; exact Xi_ne (by omega)).trans ((show Xi T3 891 9 = Xi T1 891 9 from w82.x _ _ rfl)))
              refine y_callV rfl rfl rfl (t_to_wrong__p hHT5 5 z10 ⟨by omega, by omega⟩ ⟨by omega, by omega⟩ _) ?_
              rintro _ T6 ⟨hHT6, w111, z110, rfl, w110, w108, f190, w109⟩
              have hFT6 : FR md_re_tellWay__p S T6 := FR.tr hFT5 w111 rfl
              show Pl _ _ _ _ _ _ [iv z110] _ _
              have K190 : True := trivial
              have Y190 : FTO S T6 5 (n14 S) := fto_p (by rw [← q13]; exact f190 (by rw [F178.x 876 8 rfl, ee163, Xi_ne (by omega), F160.x 876 8 rfl]; exact f28)) (fun r => by rw [pc7_FR F178 rfl rfl rfl, pc7_w ee163, pc7_FR F160 rfl rfl rfl]; exact P28.o r)
              refine y_if_eq rfl rfl (by unfold rg; omega) (fun w112 => ?_) (fun w113 => ?_)
              · refine y_iconst rfl ?_
                refine y_ireturn rfl rfl ?_
                have w114 : Xi T6 1 3 = Xi T3 1 3 := (show Xi T6 1 3 = Xi T5 1 3 from w111.x _ _ rfl).trans ( (show Xi T5 1 3 = Xi U4 1 3 from w92.x _ _ rfl).trans ((show Xi U4 1 3 = Xi T3 1 3 from by rw [eU4]; exact Xi_ne (by omega))))
                have w115 : Xi T6 5 2 = Xi T3 5 2 := (show Xi T6 5 2 = Xi T5 5 2 from w111.x _ _ rfl).trans ( (show Xi T5 5 2 = Xi U4 5 2 from w92.x _ _ rfl).trans ((show Xi U4 5 2 = Xi T3 5 2 from by rw [eU4]; exact Xi_ne (by omega))))
                have w116 : Xi T6 876 7 = Xi S 876 7 := (show Xi T6 876 7 = Xi T5 876 7 from w111.x _ _ rfl).trans ( (show Xi T5 876 7 = Xi U4 876 7 from w92.x _ _ rfl).trans ( (show Xi U4 876 7 = Xi T3 876 7 from by rw [eU4]; exact Xi_ne (by omega)).trans ( (show Xi T3 876 7 = Xi T1 876 7 from w82.x _ _ rfl).trans ((show Xi T1 876 7 = Xi S 876 7 from w12.x _ _ rfl)))))
                have w117 : Xi T6 890 3 = Xi S 890 3 := (show Xi T6 890 3 = Xi T5 890 3 from w111.x _ _ rfl).trans ( (show Xi T5 890 3 = Xi U4 890 3 from w92.x _ _ rfl).trans ( (show Xi U4 890 3 = Xi T3 890 3 from by rw [eU4]; exact Xi_ne (by omega)).trans ( (show Xi T3 890 3 = Xi T1 890 3 from w82.x _ _ rfl).trans ((show Xi T1 890 3 = Xi S 890 3 from w12.x _ _ rfl)))))
                have w118 : Xi T6 891 9 = Xi T1 891 9 := (show Xi T6 891 9 = Xi T5 891 9 from w111.x _ _ rfl).trans ( (show Xi T5 891 9 = Xi U4 891 9 from w92.x _ _ rfl).trans ( (show Xi U4 891 9 = Xi T3 891 9 from by rw [eU4]; exact Xi_ne (by omega)).trans ((show Xi T3 891 9 = Xi T1 891 9 from w82.x _ _ rfl))))
                exact ⟨hHT6, hFT6, _, rfl, ⟨by omega, by omega⟩, (by first | (have t := K178; first | (have t := K190; exact okw_3 okw.o ⟨fun q => absurd N33 q, fun _ q => absurd q D93, fun _ _ q => absurd S156.o q, fun _ _ _ => ⟨_, E178.o.1, E178.o.2.1, fun q => absurd (E178.o.2.2.1 q).1 (by omega), fun q => ⟨by omega, Y190⟩⟩⟩) | exact okw_3 okw.o ⟨fun q => absurd N33 q, fun _ q => absurd q D93, fun _ _ q => absurd S156.o q, fun _ _ _ => ⟨_, E178.o.1, E178.o.2.1, fun q => ⟨rfl, (E178.o.2.2.1 q).2⟩, fun q => absurd (E178.o.2.2.2 q).1 (by omega)⟩⟩) | (have t := K152; exact okw_3 okw.o ⟨fun q => absurd N33 q, fun _ q => absurd q D93, fun _ _ _ => ⟨by omega, Y152⟩, fun _ _ q => absurd q N145.o⟩) | (have t := K89; exact okw_3 okw.o ⟨fun q => absurd N33 q, fun _ _ => ⟨by omega, Y89⟩, fun _ q => absurd D81 q, fun _ q => absurd D81 q⟩) | (have t := K45; exact okw_3 okw.o ⟨fun _ => ⟨by omega, Y45⟩, fun q => absurd q N36, fun q => absurd q N36, fun q => absurd q N36⟩) | (have t := K20; exact tw_1 o20.o hn0 (by omega)))⟩
              · exfalso; omega
          · refine y_aload_n rfl rfl ?_
            have N145 : Hid (¬ OKS S) := by first | (have t := K139; exact fun q => by have u := q.2; omega) | exact fun q => q.1 (by omega)
            refine y_gfr rfl rfl rfl rfl rfl (hHT1.r 891 0 876 rfl) ?_
            refine y_iconst rfl ?_
            refine y_iload rfl rfl ?_
            refine y_callV rfl rfl rfl (t_to_wrong__p hHT1 4 z42 ⟨by omega, by omega⟩ ⟨by omega, by omega⟩ _) ?_
            rintro _ T7 ⟨hHT7, w126, z125, rfl, w125, w123, f152, w124⟩
            have hFT7 : FR md_re_tellWay__p S T7 := FR.tr hFT1 w126 rfl
            show Pl _ _ _ _ _ _ [iv z125] _ _
            have K152 : True := trivial
            have Y152 : FTO S T7 4 (l14 S) := fto_p (by rw [← q100]; exact f152 f28) P28.o
            refine y_ireturn rfl (retI_z (by omega)) ?_
            have w127 : Xi T7 1 3 = Xi S 1 3 := (show Xi T7 1 3 = Xi T1 1 3 from w126.x _ _ rfl).trans ((show Xi T1 1 3 = Xi S 1 3 from w12.x _ _ rfl))
            have w128 : Xi T7 5 2 = Xi S 5 2 := (show Xi T7 5 2 = Xi T1 5 2 from w126.x _ _ rfl).trans ((show Xi T1 5 2 = Xi S 5 2 from w12.x _ _ rfl))
            have w129 : Xi T7 876 7 = Xi S 876 7 := (show Xi T7 876 7 = Xi T1 876 7 from w126.x _ _ rfl).trans ((show Xi T1 876 7 = Xi S 876 7 from w12.x _ _ rfl))
            have w130 : Xi T7 890 3 = Xi S 890 3 := (show Xi T7 890 3 = Xi T1 890 3 from w126.x _ _ rfl).trans ((show Xi T1 890 3 = Xi S 890 3 from w12.x _ _ rfl))
            have w131 : Xi T7 891 9 = Xi T1 891 9 := (show Xi T7 891 9 = Xi T1 891 9 from w126.x _ _ rfl)
            exact ⟨hHT7, hFT7, _, rfl, ⟨by omega, by omega⟩, (by first | (have t := K178; first | (have t := K190; exact okw_3 okw.o ⟨fun q => absurd N33 q, fun _ q => absurd q D93, fun _ _ q => absurd S156.o q, fun _ _ _ => ⟨_, E178.o.1, E178.o.2.1, fun q => absurd (E178.o.2.2.1 q).1 (by omega), fun q => ⟨by omega, Y190⟩⟩⟩) | exact okw_3 okw.o ⟨fun q => absurd N33 q, fun _ q => absurd q D93, fun _ _ q => absurd S156.o q, fun _ _ _ => ⟨_, E178.o.1, E178.o.2.1, fun q => ⟨rfl, (E178.o.2.2.1 q).2⟩, fun q => absurd (E178.o.2.2.2 q).1 (by omega)⟩⟩) | (have t := K152; exact okw_3 okw.o ⟨fun q => absurd N33 q, fun _ q => absurd q D93, fun _ _ _ => ⟨by omega, Y152⟩, fun _ _ q => absurd q N145.o⟩) | (have t := K89; exact okw_3 okw.o ⟨fun q => absurd N33 q, fun _ _ => ⟨by omega, Y89⟩, fun _ q => absurd D81 q, fun _ q => absurd D81 q⟩) | (have t := K45; exact okw_3 okw.o ⟨fun _ => ⟨by omega, Y45⟩, fun q => absurd q N36, fun q => absurd q N36, fun q => absurd q N36⟩) | (have t := K20; exact tw_1 o20.o hn0 (by omega)))⟩
      · refine y_aload_n rfl rfl ?_
        have D81 : d14 S = -1 := by omega
        refine y_gfr rfl rfl rfl rfl rfl (hHT1.r 891 0 876 rfl) ?_
        refine y_iconst rfl ?_
        refine y_iload_n rfl rfl ?_
        refine y_iconst rfl ?_
        refine y_iadd rfl ?_
        refine y_callV rfl rfl rfl (t_to_wrong__p hHT1 4 ((Xi S 890 3) + 1) ⟨by omega, by omega⟩ ⟨by omega, by omega⟩ _) ?_
        rintro _ T8 ⟨hHT8, w139, z138, rfl, w138, w136, f89, w137⟩
        have hFT8 : FR md_re_tellWay__p S T8 := FR.tr hFT1 w139 rfl
        show Pl _ _ _ _ _ _ [iv z138] _ _
        have K89 : True := trivial
        have Y89 : FTO S T8 4 (Xi S 890 3 + 1) := fto_p (f89 f28) P28.o
        refine y_ireturn rfl (retI_z (by omega)) ?_
        have w140 : Xi T8 1 3 = Xi S 1 3 := (show Xi T8 1 3 = Xi T1 1 3 from w139.x _ _ rfl).trans ((show Xi T1 1 3 = Xi S 1 3 from w12.x _ _ rfl))
        have w141 : Xi T8 5 2 = Xi S 5 2 := (show Xi T8 5 2 = Xi T1 5 2 from w139.x _ _ rfl).trans ((show Xi T1 5 2 = Xi S 5 2 from w12.x _ _ rfl))
        have w142 : Xi T8 876 7 = Xi S 876 7 := (show Xi T8 876 7 = Xi T1 876 7 from w139.x _ _ rfl).trans ((show Xi T1 876 7 = Xi S 876 7 from w12.x _ _ rfl))
        have w143 : Xi T8 890 3 = Xi S 890 3 := (show Xi T8 890 3 = Xi T1 890 3 from w139.x _ _ rfl).trans ((show Xi T1 890 3 = Xi S 890 3 from w12.x _ _ rfl))
        have w144 : Xi T8 891 9 = Xi T1 891 9 := (show Xi T8 891 9 = Xi T1 891 9 from w139.x _ _ rfl)
        exact ⟨hHT8, hFT8, _, rfl, ⟨by omega, by omega⟩, (by first | (have t := K178; first | (have t := K190; exact okw_3 okw.o ⟨fun q => absurd N33 q, fun _ q => absurd q D93, fun _ _ q => absurd S156.o q, fun _ _ _ => ⟨_, E178.o.1, E178.o.2.1, fun q => absurd (E178.o.2.2.1 q).1 (by omega), fun q => ⟨by omega, Y190⟩⟩⟩) | exact okw_3 okw.o ⟨fun q => absurd N33 q, fun _ q => absurd q D93, fun _ _ q => absurd S156.o q, fun _ _ _ => ⟨_, E178.o.1, E178.o.2.1, fun q => ⟨rfl, (E178.o.2.2.1 q).2⟩, fun q => absurd (E178.o.2.2.2 q).1 (by omega)⟩⟩) | (have t := K152; exact okw_3 okw.o ⟨fun q => absurd N33 q, fun _ q => absurd q D93, fun _ _ _ => ⟨by omega, Y152⟩, fun _ _ q => absurd q N145.o⟩) | (have t := K89; exact okw_3 okw.o ⟨fun q => absurd N33 q, fun _ _ => ⟨by omega, Y89⟩, fun _ q => absurd D81 q, fun _ q => absurd D81 q⟩) | (have t := K45; exact okw_3 okw.o ⟨fun _ => ⟨by omega, Y45⟩, fun q => absurd q N36, fun q => absurd q N36, fun q => absurd q N36⟩) | (have t := K20; exact tw_1 o20.o hn0 (by omega)))⟩
    · refine y_aload_n rfl rfl ?_
      have N36 : sn2 S ≠ -1 := by omega
      refine y_gfr rfl rfl rfl rfl rfl (hHT1.r 891 0 876 rfl) ?_
      refine y_iconst rfl ?_
      refine y_aload_n rfl rfl ?_
      refine y_callV rfl rfl rfl (t_re_secondName__p hHT1 (by first | assumption | omega) (by first | assumption | omega) (by first | assumption | exact hfn) _) ?_
      rintro _ _ ⟨rfl, z149, rfl, w149, v42⟩
      show Pl _ _ _ _ _ _ [iv z149, iv 4, .ref 876] _ _
      have g42 : z149 = sn2 S := v42.trans s28
      refine y_callV rfl rfl rfl (t_to_wrong__p hHT1 4 z149 ⟨by omega, by omega⟩ ⟨by omega, by omega⟩ _) ?_
      rintro _ T9 ⟨hHT9, w157, z156, rfl, w156, w154, f45, w155⟩
      have hFT9 : FR md_re_tellWay__p S T9 := FR.tr hFT1 w157 rfl
      show Pl _ _ _ _ _ _ [iv z156] _ _
      have K45 : True := trivial
      have Y45 : FTO S T9 4 (sn2 S) := fto_p (by rw [← g42]; exact f45 f28) P28.o
      refine y_ireturn rfl (retI_z (by omega)) ?_
      have w158 : Xi T9 1 3 = Xi S 1 3 := (show Xi T9 1 3 = Xi T1 1 3 from w157.x _ _ rfl).trans ((show Xi T1 1 3 = Xi S 1 3 from w12.x _ _ rfl))
      have w159 : Xi T9 5 2 = Xi S 5 2 := (show Xi T9 5 2 = Xi T1 5 2 from w157.x _ _ rfl).trans ((show Xi T1 5 2 = Xi S 5 2 from w12.x _ _ rfl))
      have w160 : Xi T9 876 7 = Xi S 876 7 := (show Xi T9 876 7 = Xi T1 876 7 from w157.x _ _ rfl).trans ((show Xi T1 876 7 = Xi S 876 7 from w12.x _ _ rfl))
      have w161 : Xi T9 890 3 = Xi S 890 3 := (show Xi T9 890 3 = Xi T1 890 3 from w157.x _ _ rfl).trans ((show Xi T1 890 3 = Xi S 890 3 from w12.x _ _ rfl))
      have w162 : Xi T9 891 9 = Xi T1 891 9 := (show Xi T9 891 9 = Xi T1 891 9 from w157.x _ _ rfl)
      exact ⟨hHT9, hFT9, _, rfl, ⟨by omega, by omega⟩, (by first | (have t := K178; first | (have t := K190; exact okw_3 okw.o ⟨fun q => absurd N33 q, fun _ q => absurd q D93, fun _ _ q => absurd S156.o q, fun _ _ _ => ⟨_, E178.o.1, E178.o.2.1, fun q => absurd (E178.o.2.2.1 q).1 (by omega), fun q => ⟨by omega, Y190⟩⟩⟩) | exact okw_3 okw.o ⟨fun q => absurd N33 q, fun _ q => absurd q D93, fun _ _ q => absurd S156.o q, fun _ _ _ => ⟨_, E178.o.1, E178.o.2.1, fun q => ⟨rfl, (E178.o.2.2.1 q).2⟩, fun q => absurd (E178.o.2.2.2 q).1 (by omega)⟩⟩) | (have t := K152; exact okw_3 okw.o ⟨fun q => absurd N33 q, fun _ q => absurd q D93, fun _ _ _ => ⟨by omega, Y152⟩, fun _ _ q => absurd q N145.o⟩) | (have t := K89; exact okw_3 okw.o ⟨fun q => absurd N33 q, fun _ _ => ⟨by omega, Y89⟩, fun _ q => absurd D81 q, fun _ q => absurd D81 q⟩) | (have t := K45; exact okw_3 okw.o ⟨fun _ => ⟨by omega, Y45⟩, fun q => absurd q N36, fun q => absurd q N36, fun q => absurd q N36⟩) | (have t := K20; exact tw_1 o20.o hn0 (by omega)))⟩
  · refine y_iconst rfl ?_
    refine y_ireturn rfl rfl ?_
    have w163 : Xi T1 1 3 = Xi S 1 3 := (show Xi T1 1 3 = Xi S 1 3 from w12.x _ _ rfl)
    have w164 : Xi T1 5 2 = Xi S 5 2 := (show Xi T1 5 2 = Xi S 5 2 from w12.x _ _ rfl)
    have w165 : Xi T1 876 7 = Xi S 876 7 := (show Xi T1 876 7 = Xi S 876 7 from w12.x _ _ rfl)
    have w166 : Xi T1 890 3 = Xi S 890 3 := (show Xi T1 890 3 = Xi S 890 3 from w12.x _ _ rfl)
    exact ⟨hHT1, hFT1, _, rfl, ⟨by omega, by omega⟩, (by first | (have t := K178; first | (have t := K190; exact okw_3 okw.o ⟨fun q => absurd N33 q, fun _ q => absurd q D93, fun _ _ q => absurd S156.o q, fun _ _ _ => ⟨_, E178.o.1, E178.o.2.1, fun q => absurd (E178.o.2.2.1 q).1 (by omega), fun q => ⟨by omega, Y190⟩⟩⟩) | exact okw_3 okw.o ⟨fun q => absurd N33 q, fun _ q => absurd q D93, fun _ _ q => absurd S156.o q, fun _ _ _ => ⟨_, E178.o.1, E178.o.2.1, fun q => ⟨rfl, (E178.o.2.2.1 q).2⟩, fun q => absurd (E178.o.2.2.2 q).1 (by omega)⟩⟩) | (have t := K152; exact okw_3 okw.o ⟨fun q => absurd N33 q, fun _ q => absurd q D93, fun _ _ _ => ⟨by omega, Y152⟩, fun _ _ q => absurd q N145.o⟩) | (have t := K89; exact okw_3 okw.o ⟨fun q => absurd N33 q, fun _ _ => ⟨by omega, Y89⟩, fun _ q => absurd D81 q, fun _ q => absurd D81 q⟩) | (have t := K45; exact okw_3 okw.o ⟨fun _ => ⟨by omega, Y45⟩, fun q => absurd q N36, fun q => absurd q N36, fun q => absurd q N36⟩) | (have t := K20; exact tw_1 o20.o hn0 (by omega)))⟩
end
section
/-! 14: the reference -/
def OKR (S : sS) (r k : Int) : Prop := rnR S r 4 ≠ -1 ∧ blR S (Xi S 918 (rnR S r 4).toNat) k = 1
def OWR (S : sS) : Prop := (rmR S (Xi S 904 71) = -1 ∧ nwR0 S (Xi S 904 71) ∧ Xi S 904 19 < 24) ∨ (rmR S (Xi S 904 71) ≠ -1 ∧ OKR S (Xi S 904 71) 1)
def W1R (S : sS) (x : Int × Int × Int) : Prop :=
  (rmR S (Xi S 904 71) = -1 → nwR0 S (Xi S 904 71) → x = if Xi S 904 19 < 24 then NT3 S else ntF (NT3 S) 9 (pR S (Xi S 904 71))) ∧
  (rmR S (Xi S 904 71) = -1 → ¬ nwR0 S (Xi S 904 71) → x = ntF (NT3 S) 3 (pR S (Xi S 904 71))) ∧
  (rmR S (Xi S 904 71) ≠ -1 → OKR S (Xi S 904 71) 1 → x = NT3 S) ∧
  (rmR S (Xi S 904 71) ≠ -1 → ¬ OKR S (Xi S 904 71) 1 → x = ntF (NT3 S) 4 (pR S (Xi S 904 71)))
def RW14 (S : sS) (x : Int × Int × Int) : Prop :=
  (rmR S (Xi S 904 71) = -1 → ¬ nwR0 S (Xi S 904 71) → NTB x 3 (pR S (Xi S 904 71))) ∧
  (rmR S (Xi S 904 71) = -1 → nwR0 S (Xi S 904 71) → 24 ≤ Xi S 904 19 → NTB x 9 (pR S (Xi S 904 71))) ∧
  (rmR S (Xi S 904 71) ≠ -1 → ¬ OKR S (Xi S 904 71) 1 → NTB x 4 (pR S (Xi S 904 71))) ∧
  (OWR S → 1 < Xi S 904 72 → NTB x 4 (pR S (Xi S 904 71 + 1))) ∧
  (OWR S → Xi S 904 72 ≤ 1 → rnR S (Xi S 904 78) 12 = -1 → NTB x 4 (pR S (Xi S 904 78))) ∧
  (OWR S → Xi S 904 72 ≤ 1 → rnR S (Xi S 904 78) 12 ≠ -1 → ¬ OKR S (Xi S 904 74) 1 → NTB x 4 (pR S (Xi S 904 74))) ∧
  (OWR S → Xi S 904 72 ≤ 1 → rnR S (Xi S 904 78) 12 ≠ -1 → OKR S (Xi S 904 74) 1 → x.1 = 0)
theorem rw14_of {S : sS} {x1 x2 x3 x4 : Int × Int × Int} (h0 : (NT3 S).1 = 0) (w : W1R S x1) (h2 : x2 = if 1 < Xi S 904 72 then ntF x1 4 (pR S (Xi S 904 71 + 1)) else x1) (h3 : x3 = if rnR S (Xi S 904 78) 12 = -1 then ntF x2 4 (pR S (Xi S 904 78)) else x2) (y4 : OKR S (Xi S 904 74) 1 → x4 = x3) (n4 : ¬ OKR S (Xi S 904 74) 1 → x4 = ntF x3 4 (pR S (Xi S 904 74))) (p1 : 1 < Xi S 904 72 → pR S (Xi S 904 71) < pR S (Xi S 904 71 + 1) ∧ pR S (Xi S 904 71 + 1) < pR S (Xi S 904 78)) (p2 : pR S (Xi S 904 71) < pR S (Xi S 904 78)) (p3 : pR S (Xi S 904 78) < pR S (Xi S 904 74)) : RW14 S x4 := by
  have k4 : ∀ g q, NTB x3 g q → g ≠ 0 → q < pR S (Xi S 904 74) → NTB x4 g q := fun g q t hg hq => by
    by_cases v : OKR S (Xi S 904 74) 1
    · rw [y4 v]; exact t
    · rw [n4 v]; exact ntb_k t hg hq
  have k3 : ∀ g q, NTB x2 g q → g ≠ 0 → q < pR S (Xi S 904 78) → NTB x4 g q := fun g q t hg hq => k4 g q (by rw [h3]; exact ntb_if t hg hq) hg (by omega)
  have k2 : ∀ g q, NTB x1 g q → g ≠ 0 → q ≤ pR S (Xi S 904 71) → NTB x4 g q := fun g q t hg hq => by
    refine k3 g q ?_ hg (by omega)
    by_cases v : 1 < Xi S 904 72
    · rw [h2, if_pos v]; exact ntb_k t hg (by have := (p1 v).1; omega)
    · rw [h2, if_neg v]; exact t
  obtain ⟨w1, w2, w3, w4⟩ := w
  have ok : OWR S → x1 = NT3 S := fun q => by
    rcases q with ⟨q1, q2, q3⟩ | ⟨q1, q2⟩
    · rw [w1 q1 q2, if_pos q3]
    · exact w3 q1 q2
  refine ⟨fun a b => ?_, fun a b c => ?_, fun a b => ?_, fun a b => ?_, fun a b c => ?_, fun a b c d => ?_, fun a b c d => ?_⟩
  · exact k2 _ _ (by rw [w2 a b]; exact ntb_1 h0) (by decide) (by omega)
  · exact k2 _ _ (by rw [w1 a b, if_neg (by omega)]; exact ntb_1 h0) (by decide) (by omega)
  · exact k2 _ _ (by rw [w4 a b]; exact ntb_1 h0) (by decide) (by omega)
  · exact k3 _ _ (by rw [h2, if_pos b, ok a]; exact ntb_1 h0) (by decide) (p1 b).2
  · exact k4 _ _ (by rw [h3, if_pos c, h2, if_neg (by omega), ok a]; exact ntb_1 h0) (by decide) p3
  · rw [n4 d, h3, if_neg c, h2, if_neg (by omega), ok a]; exact ntb_1 h0
  · rw [y4 d, h3, if_neg c, h2, if_neg (by omega), ok a]; exact h0
theorem blN_fr {l : List rec} {S T : sS} {o : Int} (h : FR l S T) (e : kdis l [(917, 918)] = true) : ∀ (n : Nat) (k : Int), blN T o n k = blN S o n k
  | 0, _ => rfl
  | n + 1, k => by
    have i := blN_fr (o := o) h e n
    unfold blN
    rw [(h.smk e).x 917 rfl, i]
theorem blR_fr {l : List rec} {S T : sS} (h : FR l S T) (e : kdis l [(917, 918)] = true) (a b : Int) : blR T a b = blR S a b := blN_fr h e 17 a
/-- an object, made if it is new -/
def OTR (S S1 : sS) (z r k : Int) : Prop :=
  (rnR S r 4 ≠ -1 → z = rnR S r 4 ∧ S1 = S) ∧
  (rnR S r 4 = -1 → z = Xi S 904 19 ∧ TLW S S1 S 4 (Xi S 904 19) r ∧ AOB S S1 k)
theorem aob_k {S A B : sS} {k : Int} (h : AOB S A k) (a : Xi B 904 19 = Xi A 904 19) (c : ∀ i j : Nat, (i = 918 ∨ i = 919 ∨ i = 920 ∨ i = 925 ∨ i = 930) → Xi B i j = Xi A i j) : AOB S B k := by
  obtain ⟨h1, h2, h3, h4, h5⟩ := h
  refine ⟨a.trans h1, ⟨(c _ _ (by omega)).trans h2.1, (c _ _ (by omega)).trans h2.2.1, (c _ _ (by omega)).trans h2.2.2⟩, fun j hj => ?_, zro_k h4 (fun j => c _ j (by omega)), zro_k h5 (fun j => c _ j (by omega))⟩
  obtain ⟨q1, q2, q3⟩ := h3 j hj
  exact ⟨(c _ _ (by omega)).trans q1, (c _ _ (by omega)).trans q2, (c _ _ (by omega)).trans q3⟩
/-- where a way is told -/
def NWY (S : sS) (a d : Int) (n : Int) : Prop := ∀ k : Nat, (k : Int) < n → ¬ (Xi S 943 k = a ∧ Xi S 944 k = d)
def SWR (S P : sS) : Prop := Xi P 904 51 = Xi S 904 51 ∧ ∀ k j : Nat, (k = 943 ∨ k = 944 ∨ k = 945) → Xi P k j = Xi S k j
def lOT : List rec := [(904, 905, 15, 16), (904, 905, 19, 20), (912, 913, 0, 100000), (913, 914, 0, 100000), (914, 915, 0, 100000), (915, 916, 0, 100000), (916, 917, 0, 100000), (918, 919, 0, 100000), (919, 920, 0, 100000), (920, 921, 0, 100000), (925, 926, 0, 100000), (930, 931, 0, 100000)]
def RD14 (S S1 : sS) : Prop := ∃ (A : sS) (o : Int), OTR S A o (Xi S 904 71) 1 ∧ FR lOT S A ∧
  ((∃ k : Nat, (k : Int) < Xi S 904 51 ∧ Xi S 943 k = rnR S (Xi S 904 74) 4 ∧ Xi S 944 k = rnR S (Xi S 904 78) 12 ∧ ((Xi S 945 k = o → S1 = uI A 904 60 (Int32.ofInt o)) ∧ (Xi S 945 k ≠ o → NTB (NT3 S1) 5 (pR S (Xi S 904 71))))) ∨
   (NWY S (rnR S (Xi S 904 74) 4) (rnR S (Xi S 904 78) 12) (Xi S 904 51) ∧ S1 = uI (uI (uI (uI (uI A 904 60 (Int32.ofInt o)) 943 (Xi S 904 51).toNat (Int32.ofInt (rnR S (Xi S 904 74) 4))) 944 (Xi S 904 51).toNat (Int32.ofInt (rnR S (Xi S 904 78) 12))) 945 (Xi S 904 51).toNat (Int32.ofInt o)) 904 51 (Int32.ofInt (Xi S 904 51 + 1))))
theorem OKR_sm {S P : sS} {l : List rec} {r k : Int} (h : SMR S P) (F : FR l S P) (e : kdis l [(917, 919)] = true) : OKR P r k ↔ OKR S r k := by
  have e1 : kdis l [(917, 918)] = true := by
    unfold kdis at e ⊢
    simp only [List.all_cons, List.all_nil, Bool.and_true] at e ⊢
    rw [List.all_eq_true] at e ⊢
    intro x hx
    have t := e x hx
    simp only [Bool.or_eq_true, Nat.ble_eq] at t ⊢
    omega
  unfold OKR
  rw [rnR_sm h, blR_fr F e1, (F.smk e).x 918 rfl]
theorem RW14_sm {S P : sS} {l : List rec} {x : Int × Int × Int} (h : SMR S P) (F : FR l S P) (e : kdis l [(917, 919)] = true) (e2 : mD l [19, 71, 72, 74, 78] = true) (e3 : True = True) (r : RW14 P x) : RW14 S x := by
  unfold RW14 OWR at r ⊢
  rw [mD_x F e2 19 (by decide), mD_x F e2 71 (by decide), mD_x F e2 72 (by decide), mD_x F e2 74 (by decide), mD_x F e2 78 (by decide)] at r
  simp only [rmR_sm h, nwR0_sm h, pR_sm h, rnR_sm h, OKR_sm h F e] at r
  exact r

def md_mo_askWay__p : List rec := [(904, 905, 104, 105), (904, 905, 105, 106), (904, 905, 106, 107), (904, 905, 108, 109), (966, 967, 0, 100000)]
abbrev Q_mo_askWay__p (S : sS) : pst := fun r S1 => RI S1 ∧ FR md_mo_askWay__p S S1 ∧ (r = none ∧ (RW14 S (NT3 S1)))
set_option maxRecDepth 100000 in
theorem t_mo_askWay__p {S : sS} (hH : RI S) (hLS : LSP S) (h15 : 0 ≤ Xi S 904 15) (hRB : RBD S) (hz0 : Xi S 904 106 = 0 ∧ Xi S 904 108 = 0) (hB : ABV S) (hob : 0 ≤ Xi S 904 19 ∧ Xi S 904 19 ≤ 24) (hko : Hid (∀ j : Nat, -1 ≤ Xi S 918 j ∧ Xi S 918 j ≤ 15)) (hrr : 0 ≤ Xi S 904 71 ∧ Xi S 904 71 ≤ 2600 ∧ -2 ≤ Xi S 904 78 ∧ Xi S 904 78 ≤ 2600 ∧ -1 ≤ Xi S 904 74 ∧ Xi S 904 74 ≤ 2600 ∧ 0 ≤ Xi S 904 72 ∧ Xi S 904 72 ≤ 2600) (hp : Hid ((1 < Xi S 904 72 → pR S (Xi S 904 71) < pR S (Xi S 904 71 + 1) ∧ pR S (Xi S 904 71 + 1) < pR S (Xi S 904 78)) ∧ pR S (Xi S 904 71) < pR S (Xi S 904 78) ∧ pR S (Xi S 904 78) < pR S (Xi S 904 74))) (d : Nat) : Mp lay0 (d + 5) m_mo_askWay [.ref 904] S (Q_mo_askWay__p S) := by
  refine Mp_R rfl rfl (fun fu => ?_)
  have hF : FR md_mo_askWay__p S S := FR.rf
  have w1 : -2147483648 ≤ Xi S 904 104 ∧ Xi S 904 104 ≤ 2147483647 := Xi_rgI
  have w2 : -2147483648 ≤ Xi S 904 105 ∧ Xi S 904 105 ≤ 2147483647 := Xi_rgI
  have w3 : -2147483648 ≤ Xi S 904 106 ∧ Xi S 904 106 ≤ 2147483647 := Xi_rgI
  have w4 : -2147483648 ≤ Xi S 904 108 ∧ Xi S 904 108 ≤ 2147483647 := Xi_rgI
  have w5 : -2147483648 ≤ Xi S 904 15 ∧ Xi S 904 15 ≤ 2147483647 := Xi_rgI
  have w6 : -2147483648 ≤ Xi S 904 19 ∧ Xi S 904 19 ≤ 2147483647 := Xi_rgI
  have w7 : -2147483648 ≤ Xi S 904 71 ∧ Xi S 904 71 ≤ 2147483647 := Xi_rgI
  have w8 : -2147483648 ≤ Xi S 904 72 ∧ Xi S 904 72 ≤ 2147483647 := Xi_rgI
  have w9 : -2147483648 ≤ Xi S 904 74 ∧ Xi S 904 74 ≤ 2147483647 := Xi_rgI
  have w10 : -2147483648 ≤ Xi S 904 78 ∧ Xi S 904 78 ≤ 2147483647 := Xi_rgI
  have C69 : ∀  (T1 : sS) (_ : RI T1) (_ : FR md_mo_askWay__p S T1) (v1 : Int), (0 ≤ v1 ∧ v1 ≤ 2600) → (v1 = Xi S 904 71) → (Hid (W1R S (NT3 T1))) → (Xi T1 904 72 = Xi S 904 72) → (Xi T1 904 78 = Xi S 904 78) → (Xi T1 904 74 = Xi S 904 74) → Pl fu lay0 (d + 4) m_mo_askWay 69 [(0, .ref 904), (1, iv v1)] [] T1 (Q_mo_askWay__p S) := by
    intro T1 hHT1 hFT1 v1 w11 i69 A69 w12 w13 w14
    have w15 : Xi T1 904 15 = Xi S 904 15 := hFT1.x _ _ rfl
    have w16 : Xi T1 904 19 = Xi S 904 19 := hFT1.x _ _ rfl
    have w17 : Xi T1 904 69 = Xi S 904 69 := hFT1.x _ _ rfl
    have w18 : Xi T1 904 71 = Xi S 904 71 := hFT1.x _ _ rfl
    have w19 : Xi T1 904 72 = Xi S 904 72 := hFT1.x _ _ rfl
    have w20 : Xi T1 904 74 = Xi S 904 74 := hFT1.x _ _ rfl
    have w21 : Xi T1 904 78 = Xi S 904 78 := hFT1.x _ _ rfl
    have w22 : -2147483648 ≤ Xi T1 904 104 ∧ Xi T1 904 104 ≤ 2147483647 := Xi_rgI
    have w23 : -2147483648 ≤ Xi T1 904 105 ∧ Xi T1 904 105 ≤ 2147483647 := Xi_rgI
    have w24 : -2147483648 ≤ Xi T1 904 106 ∧ Xi T1 904 106 ≤ 2147483647 := Xi_rgI
    have w25 : -2147483648 ≤ Xi T1 904 108 ∧ Xi T1 904 108 ≤ 2147483647 := Xi_rgI
    have w26 : -2147483648 ≤ Xi T1 904 15 ∧ Xi T1 904 15 ≤ 2147483647 := Xi_rgI
    have w27 : -2147483648 ≤ Xi T1 904 19 ∧ Xi T1 904 19 ≤ 2147483647 := Xi_rgI
    have w28 : -2147483648 ≤ Xi T1 904 71 ∧ Xi T1 904 71 ≤ 2147483647 := Xi_rgI
    have w29 : -2147483648 ≤ Xi T1 904 72 ∧ Xi T1 904 72 ≤ 2147483647 := Xi_rgI
    have w30 : -2147483648 ≤ Xi T1 904 74 ∧ Xi T1 904 74 ≤ 2147483647 := Xi_rgI
    have w31 : -2147483648 ≤ Xi T1 904 78 ∧ Xi T1 904 78 ≤ 2147483647 := Xi_rgI
    have C90 : ∀  (T2 : sS) (_ : RI T2) (_ : FR md_mo_askWay__p S T2), (Hid (∃ x1 : Int × Int × Int, W1R S x1 ∧ NT3 T2 = if 1 < Xi S 904 72 then ntF x1 4 (pR S (Xi S 904 71 + 1)) else x1)) → (Xi T2 904 72 = Xi S 904 72) → (Xi T2 904 78 = Xi S 904 78) → (Xi T2 904 74 = Xi S 904 74) → Pl fu lay0 (d + 4) m_mo_askWay 90 [(0, .ref 904)] [] T2 (Q_mo_askWay__p S) := by
      intro T2 hHT2 hFT2 A90_ w32 w33 w34
      have w35 : Xi T2 904 15 = Xi S 904 15 := hFT2.x _ _ rfl
      have w36 : Xi T2 904 19 = Xi S 904 19 := hFT2.x _ _ rfl
      have w37 : Xi T2 904 69 = Xi S 904 69 := hFT2.x _ _ rfl
      have w38 : Xi T2 904 71 = Xi S 904 71 := hFT2.x _ _ rfl
      have w39 : Xi T2 904 72 = Xi S 904 72 := hFT2.x _ _ rfl
      have w40 : Xi T2 904 74 = Xi S 904 74 := hFT2.x _ _ rfl
      have w41 : Xi T2 904 78 = Xi S 904 78 := hFT2.x _ _ rfl
      have w42 : -2147483648 ≤ Xi T2 904 104 ∧ Xi T2 904 104 ≤ 2147483647 := Xi_rgI
      have w43 : -2147483648 ≤ Xi T2 904 105 ∧ Xi T2 904 105 ≤ 2147483647 := Xi_rgI
      have w44 : -2147483648 ≤ Xi T2 904 106 ∧ Xi T2 904 106 ≤ 2147483647 := Xi_rgI
      have w45 : -2147483648 ≤ Xi T2 904 108 ∧ Xi T2 904 108 ≤ 2147483647 := Xi_rgI
      have w46 : -2147483648 ≤ Xi T2 904 15 ∧ Xi T2 904 15 ≤ 2147483647 := Xi_rgI
      have w47 : -2147483648 ≤ Xi T2 904 19 ∧ Xi T2 904 19 ≤ 2147483647 := Xi_rgI
      have w48 : -2147483648 ≤ Xi T2 904 71 ∧ Xi T2 904 71 ≤ 2147483647 := Xi_rgI
      have w49 : -2147483648 ≤ Xi T2 904 72 ∧ Xi T2 904 72 ≤ 2147483647 := Xi_rgI
      have w50 : -2147483648 ≤ Xi T2 904 74 ∧ Xi T2 904 74 ≤ 2147483647 := Xi_rgI
      have w51 : -2147483648 ≤ Xi T2 904 78 ∧ Xi T2 904 78 ≤ 2147483647 := Xi_rgI
      refine y_aload_n rfl rfl ?_
      refine y_aload_n rfl rfl ?_
      refine y_aload_n rfl rfl ?_
      refine y_gfi rfl rfl rfl rfl rfl ?_
      refine y_bipush rfl rfl ?_
      refine y_callV rfl rfl rfl (t_mo_meansRun__p hHT2 (Xi T2 904 78) 12 ⟨by omega, by omega⟩ ⟨by omega, by omega⟩ (by first | assumption | exact (LSP_FR hFT2 rfl rfl (by assumption : LSP S))) (by first | assumption | omega) (by first | assumption | exact (RBD_FR hFT2 rfl (by assumption : RBD S))) _) ?_
      rintro _ _ ⟨rfl, z52, rfl, w52, f98⟩
      show Pl _ _ _ _ _ _ [iv z52, .ref 904] _ _
      have K98 : z52 = rnR S (Xi S 904 78) 12 := by have t := f98; rw [rnR_FR hFT2 rfl rfl, show Xi T2 904 78 = Xi S 904 78 by omega] at t; exact t
      clear f98
      refine y_iconst rfl ?_
      refine y_icmp_eq rfl rfl (by unfold rg; omega) (by unfold rg; omega) (fun w53 => ?_) (fun w54 => ?_)
      · refine y_iconst rfl ?_
        refine y_iconst rfl ?_
        refine y_aload_n rfl rfl ?_
        refine y_gfr rfl rfl rfl rfl rfl (hHT2.r 904 67 950 rfl) ?_
        refine y_aload_n rfl rfl ?_
        refine y_gfi rfl rfl rfl rfl rfl ?_
        refine y_ialoadP (n := 2600) rfl rfl (by unfold rg; omega) (fun w55 w56 => ?_)
        have w57 : -2147483648 ≤ (Xi T2 950 (((Xi T2 904 78)).toNat)) ∧ (Xi T2 950 (((Xi T2 904 78)).toNat)) ≤ 2147483647 := Xi_rgI
        refine y_callV rfl rfl rfl (t_mo_need__p hHT2 0 4 (Xi T2 950 (((Xi T2 904 78)).toNat)) ⟨by omega, by omega⟩ ⟨by omega, by omega⟩ ⟨by omega, by omega⟩ _) ?_
        rintro _ T3 ⟨hHT3, w59, rfl, nt120_⟩
        have hFT3 : FR md_mo_askWay__p S T3 := FR.tr hFT2 w59 rfl
        show Pl _ _ _ _ _ _ [] _ _
        have n120 : Hid (NT3 T3 = if rnR S (Xi S 904 78) 12 = -1 then ntF (NT3 T2) 4 (pR S (Xi S 904 78)) else NT3 T2) := by have t := nt120_; rw [(hFT2.cx 908 rfl _).1, (hFT2.cx 950 rfl _).1, show Xi T2 904 78 = Xi S 904 78 by omega] at t; first | (rw [if_pos (show (0 : Int) = 0 from rfl)] at t; rw [if_pos (by omega)]; exact t) | (rw [if_neg (show ¬ (1 : Int) = 0 by decide)] at t; rw [if_neg (by omega)]; exact t)
        clear nt120_
        refine y_aload_n rfl rfl ?_
        refine y_aload_n rfl rfl ?_
        refine y_gfi rfl rfl rfl rfl rfl ?_
        have w60 : (Xi T3 904 74) = (Xi T2 904 74) := (show Xi T3 904 74 = Xi T2 904 74 from w59.x _ _ rfl)
        rw [w60]
        refine y_iconst rfl ?_
        have w62 : Xi T3 904 15 = Xi T2 904 15 := (show Xi T3 904 15 = Xi T2 904 15 from w59.x _ _ rfl)
        have w66 : Xi T3 904 74 = Xi T2 904 74 := (show Xi T3 904 74 = Xi T2 904 74 from w59.x _ _ rfl)
        refine y_callV rfl rfl rfl (t_mo_meansRun__p hHT3 (Xi T2 904 74) 4 ⟨by omega, by omega⟩ ⟨by omega, by omega⟩ (by first | assumption | exact (LSP_FR hFT3 rfl rfl (by assumption : LSP S))) (by first | assumption | omega) (by first | assumption | exact (RBD_FR hFT3 rfl (by assumption : RBD S))) _) ?_
        rintro _ _ ⟨rfl, z68, rfl, w68, f129⟩
        show Pl _ _ _ _ _ _ [iv z68] _ _
        have K129 : z68 = rnR S (Xi S 904 74) 4 := by have t := f129; rw [rnR_FR hFT3 rfl rfl, show Xi T2 904 74 = Xi S 904 74 by omega] at t; exact t
        clear f129
        refine y_istore_n rfl rfl rfl ?_
        refine y_aload_n rfl rfl ?_
        refine y_iload_n rfl rfl ?_
        refine y_iconst rfl ?_
        refine y_icmp_eq rfl rfl (by unfold rg; omega) (by unfold rg; omega) (fun w69 => ?_) (fun w70 => ?_)
        · refine y_iconst rfl ?_
          have N157 : Hid (¬ OKR S (Xi S 904 74) 1) := fun q => by first | (have t := K147; have u := q.2; omega) | (have u := q.1; omega)
          refine y_iconst rfl ?_
          refine y_aload_n rfl rfl ?_
          refine y_gfr rfl rfl rfl rfl rfl (hHT3.r 904 67 950 rfl) ?_
          refine y_aload_n rfl rfl ?_
          refine y_gfi rfl rfl rfl rfl rfl ?_
          have w71 : (Xi T3 904 74) = (Xi T2 904 74) := (show Xi T3 904 74 = Xi T2 904 74 from w59.x _ _ rfl)
          rw [w71]
          refine y_ialoadP (n := 2600) rfl rfl (by unfold rg; omega) (fun w72 w73 => ?_)
          have w74 : -2147483648 ≤ (Xi T3 950 (((Xi T2 904 74)).toNat)) ∧ (Xi T3 950 (((Xi T2 904 74)).toNat)) ≤ 2147483647 := Xi_rgI
          refine y_callV rfl rfl rfl (t_mo_need__p hHT3 0 4 (Xi T3 950 (((Xi T2 904 74)).toNat)) ⟨by omega, by omega⟩ ⟨by omega, by omega⟩ ⟨by omega, by omega⟩ _) ?_
          rintro _ T4 ⟨hHT4, w83, rfl, nt168_⟩
          have hFT4 : FR md_mo_askWay__p S T4 := FR.tr hFT3 w83 rfl
          show Pl _ _ _ _ _ _ [] _ _
          have Y168 : Hid ((OKR S (Xi S 904 74) 1 → NT3 T4 = NT3 T3) ∧ (¬ OKR S (Xi S 904 74) 1 → NT3 T4 = ntF (NT3 T3) 4 (pR S (Xi S 904 74)))) := by first | (have t := K153; exact ⟨fun _ => (by have t := nt168_; rw [if_neg (show ¬ (1 : Int) = 0 by decide)] at t; exact t), fun q => absurd O153.o q⟩) | exact ⟨fun q => absurd q N157.o, fun _ => (by have t := nt168_; rw [(hFT3.cx 908 rfl _).1, (hFT3.cx 950 rfl _).1, show Xi T2 904 74 = Xi S 904 74 by omega] at t; rw [if_pos (show (0 : Int) = 0 from rfl)] at t; exact t)⟩
          clear nt168_
          refine y_return rfl rfl ?_
          exact ⟨hHT4, hFT4, rfl, (by obtain ⟨x1, a1, b1⟩ := A90_.o; exact rw14_of hz0.1 a1 b1 n120.o Y168.o.1 Y168.o.2 hp.o.1 hp.o.2.1 hp.o.2.2)⟩
        · refine y_aload_n rfl rfl ?_
          have k139 : -1 ≤ Xi T3 918 (z68).toNat ∧ Xi T3 918 (z68).toNat ≤ 15 := by rw [(hFT3.cx 918 rfl _).1]; exact hko.o _
          refine y_aload_n rfl rfl ?_
          refine y_gfr rfl rfl rfl rfl rfl (hHT3.r 904 20 918 rfl) ?_
          refine y_iload_n rfl rfl ?_
          refine y_ialoadP (n := 24) rfl rfl (by unfold rg; omega) (fun w91 w92 => ?_)
          have w93 : -2147483648 ≤ (Xi T3 918 ((z68).toNat)) ∧ (Xi T3 918 ((z68).toNat)) ≤ 2147483647 := Xi_rgI
          refine y_iconst rfl ?_
          refine y_callV rfl rfl rfl (t_mo_isBelow__p hHT3 (Xi T3 918 ((z68).toNat)) 1 ⟨by omega, by omega⟩ ⟨by omega, by omega⟩ (by first | assumption | exact (ABV_FR hFT3 rfl (by assumption : ABV S))) _) ?_
          rintro _ _ ⟨rfl, z101, rfl, w101, f147⟩
          show Pl _ _ _ _ _ _ [iv z101, .ref 904] _ _
          have K147 : z101 = blR S (Xi S 918 (rnR S (Xi S 904 74) 4).toNat) 1 := by have t := f147; rw [blR_fr hFT3 rfl, (hFT3.cx 918 rfl _).1, K129] at t; exact t
          clear f147
          refine y_if_eq rfl rfl (by unfold rg; omega) (fun w102 => ?_) (fun w103 => ?_)
          · refine y_iconst rfl ?_
            have N157 : Hid (¬ OKR S (Xi S 904 74) 1) := fun q => by first | (have t := K147; have u := q.2; omega) | (have u := q.1; omega)
            refine y_iconst rfl ?_
            refine y_aload_n rfl rfl ?_
            refine y_gfr rfl rfl rfl rfl rfl (hHT3.r 904 67 950 rfl) ?_
            refine y_aload_n rfl rfl ?_
            refine y_gfi rfl rfl rfl rfl rfl ?_
            have w104 : (Xi T3 904 74) = (Xi T2 904 74) := (show Xi T3 904 74 = Xi T2 904 74 from w59.x _ _ rfl)
            rw [w104]
            refine y_ialoadP (n := 2600) rfl rfl (by unfold rg; omega) (fun w105 w106 => ?_)
            have w107 : -2147483648 ≤ (Xi T3 950 (((Xi T2 904 74)).toNat)) ∧ (Xi T3 950 (((Xi T2 904 74)).toNat)) ≤ 2147483647 := Xi_rgI
            refine y_callV rfl rfl rfl (t_mo_need__p hHT3 0 4 (Xi T3 950 (((Xi T2 904 74)).toNat)) ⟨by omega, by omega⟩ ⟨by omega, by omega⟩ ⟨by omega, by omega⟩ _) ?_
            rintro _ T5 ⟨hHT5, w116, rfl, nt168_⟩
            have hFT5 : FR md_mo_askWay__p S T5 := FR.tr hFT3 w116 rfl
            show Pl _ _ _ _ _ _ [] _ _
            have Y168 : Hid ((OKR S (Xi S 904 74) 1 → NT3 T5 = NT3 T3) ∧ (¬ OKR S (Xi S 904 74) 1 → NT3 T5 = ntF (NT3 T3) 4 (pR S (Xi S 904 74)))) := by first | (have t := K153; exact ⟨fun _ => (by have t := nt168_; rw [if_neg (show ¬ (1 : Int) = 0 by decide)] at t; exact t), fun q => absurd O153.o q⟩) | exact ⟨fun q => absurd q N157.o, fun _ => (by have t := nt168_; rw [(hFT3.cx 908 rfl _).1, (hFT3.cx 950 rfl _).1, show Xi T2 904 74 = Xi S 904 74 by omega] at t; rw [if_pos (show (0 : Int) = 0 from rfl)] at t; exact t)⟩
            clear nt168_
            refine y_return rfl rfl ?_
            exact ⟨hHT5, hFT5, rfl, (by obtain ⟨x1, a1, b1⟩ := A90_.o; exact rw14_of hz0.1 a1 b1 n120.o Y168.o.1 Y168.o.2 hp.o.1 hp.o.2.1 hp.o.2.2)⟩
          · refine y_iconst rfl ?_
            have K153 : True := trivial
            have O153 : Hid (OKR S (Xi S 904 74) 1) := ⟨by omega, by omega⟩
            refine y_goto rfl rfl ?_
            refine y_iconst rfl ?_
            refine y_aload_n rfl rfl ?_
            refine y_gfr rfl rfl rfl rfl rfl (hHT3.r 904 67 950 rfl) ?_
            refine y_aload_n rfl rfl ?_
            refine y_gfi rfl rfl rfl rfl rfl ?_
            have w124 : (Xi T3 904 74) = (Xi T2 904 74) := (show Xi T3 904 74 = Xi T2 904 74 from w59.x _ _ rfl)
            rw [w124]
            refine y_ialoadP (n := 2600) rfl rfl (by unfold rg; omega) (fun w125 w126 => ?_)
            have w127 : -2147483648 ≤ (Xi T3 950 (((Xi T2 904 74)).toNat)) ∧ (Xi T3 950 (((Xi T2 904 74)).toNat)) ≤ 2147483647 := Xi_rgI
            refine y_callV rfl rfl rfl (t_mo_need__p hHT3 1 4 (Xi T3 950 (((Xi T2 904 74)).toNat)) ⟨by omega, by omega⟩ ⟨by omega, by omega⟩ ⟨by omega, by omega⟩ _) ?_
            rintro _ T6 ⟨hHT6, w136, rfl, nt168_⟩
            have hFT6 : FR md_mo_askWay__p S T6 := FR.tr hFT3 w136 rfl
            show Pl _ _ _ _ _ _ [] _ _
            have Y168 : Hid ((OKR S (Xi S 904 74) 1 → NT3 T6 = NT3 T3) ∧ (¬ OKR S (Xi S 904 74) 1 → NT3 T6 = ntF (NT3 T3) 4 (pR S (Xi S 904 74)))) := by first | (have t := K153; exact ⟨fun _ => (by have t := nt168_; rw [if_neg (show ¬ (1 : Int) = 0 by decide)] at t; exact t), fun q => absurd O153.o q⟩) | exact ⟨fun q => absurd q N157.o, fun _ => (by have t := nt168_; rw [(hFT3.cx 908 rfl _).1, (hFT3.cx 950 rfl _).1, show Xi T2 904 74 = Xi S 904 74 by omega] at t; rw [if_pos (show (0 : Int) = 0 from rfl)] at t; exact t)⟩
            clear nt168_
            refine y_return rfl rfl ?_
            exact ⟨hHT6, hFT6, rfl, (by obtain ⟨x1, a1, b1⟩ := A90_.o; exact rw14_of hz0.1 a1 b1 n120.o Y168.o.1 Y168.o.2 hp.o.1 hp.o.2.1 hp.o.2.2)⟩
      · refine y_iconst rfl ?_
        refine y_goto rfl rfl ?_
        refine y_iconst rfl ?_
        refine y_aload_n rfl rfl ?_
        refine y_gfr rfl rfl rfl rfl rfl (hHT2.r 904 67 950 rfl) ?_
        refine y_aload_n rfl rfl ?_
        refine y_gfi rfl rfl rfl rfl rfl ?_
        refine y_ialoadP (n := 2600) rfl rfl (by unfold rg; omega) (fun w144 w145 => ?_)
        have w146 : -2147483648 ≤ (Xi T2 950 (((Xi T2 904 78)).toNat)) ∧ (Xi T2 950 (((Xi T2 904 78)).toNat)) ≤ 2147483647 := Xi_rgI
        refine y_callV rfl rfl rfl (t_mo_need__p hHT2 1 4 (Xi T2 950 (((Xi T2 904 78)).toNat)) ⟨by omega, by omega⟩ ⟨by omega, by omega⟩ ⟨by omega, by omega⟩ _) ?_
        rintro _ T7 ⟨hHT7, w148, rfl, nt120_⟩
        have hFT7 : FR md_mo_askWay__p S T7 := FR.tr hFT2 w148 rfl
        show Pl _ _ _ _ _ _ [] _ _
        have n120 : Hid (NT3 T7 = if rnR S (Xi S 904 78) 12 = -1 then ntF (NT3 T2) 4 (pR S (Xi S 904 78)) else NT3 T2) := by have t := nt120_; rw [(hFT2.cx 908 rfl _).1, (hFT2.cx 950 rfl _).1, show Xi T2 904 78 = Xi S 904 78 by omega] at t; first | (rw [if_pos (show (0 : Int) = 0 from rfl)] at t; rw [if_pos (by omega)]; exact t) | (rw [if_neg (show ¬ (1 : Int) = 0 by decide)] at t; rw [if_neg (by omega)]; exact t)
        clear nt120_
        refine y_aload_n rfl rfl ?_
        refine y_aload_n rfl rfl ?_
        refine y_gfi rfl rfl rfl rfl rfl ?_
        have w149 : (Xi T7 904 74) = (Xi T2 904 74) := (show Xi T7 904 74 = Xi T2 904 74 from w148.x _ _ rfl)
        rw [w149]
        refine y_iconst rfl ?_
        have w151 : Xi T7 904 15 = Xi T2 904 15 := (show Xi T7 904 15 = Xi T2 904 15 from w148.x _ _ rfl)
        have w155 : Xi T7 904 74 = Xi T2 904 74 := (show Xi T7 904 74 = Xi T2 904 74 from w148.x _ _ rfl)
        refine y_callV rfl rfl rfl (t_mo_meansRun__p hHT7 (Xi T2 904 74) 4 ⟨by omega, by omega⟩ ⟨by omega, by omega⟩ (by first | assumption | exact (LSP_FR hFT7 rfl rfl (by assumption : LSP S))) (by first | assumption | omega) (by first | assumption | exact (RBD_FR hFT7 rfl (by assumption : RBD S))) _) ?_
        rintro _ _ ⟨rfl, z157, rfl, w157, f129⟩
        show Pl _ _ _ _ _ _ [iv z157] _ _
        have K129 : z157 = rnR S (Xi S 904 74) 4 := by have t := f129; rw [rnR_FR hFT7 rfl rfl, show Xi T2 904 74 = Xi S 904 74 by omega] at t; exact t
        clear f129
        refine y_istore_n rfl rfl rfl ?_
        refine y_aload_n rfl rfl ?_
        refine y_iload_n rfl rfl ?_
        refine y_iconst rfl ?_
        refine y_icmp_eq rfl rfl (by unfold rg; omega) (by unfold rg; omega) (fun w158 => ?_) (fun w159 => ?_)
        · refine y_iconst rfl ?_
          have N157 : Hid (¬ OKR S (Xi S 904 74) 1) := fun q => by first | (have t := K147; have u := q.2; omega) | (have u := q.1; omega)
          refine y_iconst rfl ?_
          refine y_aload_n rfl rfl ?_
          refine y_gfr rfl rfl rfl rfl rfl (hHT7.r 904 67 950 rfl) ?_
          refine y_aload_n rfl rfl ?_
          refine y_gfi rfl rfl rfl rfl rfl ?_
          have w160 : (Xi T7 904 74) = (Xi T2 904 74) := (show Xi T7 904 74 = Xi T2 904 74 from w148.x _ _ rfl)
          rw [w160]
          refine y_ialoadP (n := 2600) rfl rfl (by unfold rg; omega) (fun w161 w162 => ?_)
          have w163 : -2147483648 ≤ (Xi T7 950 (((Xi T2 904 74)).toNat)) ∧ (Xi T7 950 (((Xi T2 904 74)).toNat)) ≤ 2147483647 := Xi_rgI
          refine y_callV rfl rfl rfl (t_mo_need__p hHT7 0 4 (Xi T7 950 (((Xi T2 904 74)).toNat)) ⟨by omega, by omega⟩ ⟨by omega, by omega⟩ ⟨by omega, by omega⟩ _) ?_
          rintro _ T8 ⟨hHT8, w172, rfl, nt168_⟩
          have hFT8 : FR md_mo_askWay__p S T8 := FR.tr hFT7 w172 rfl
          show Pl _ _ _ _ _ _ [] _ _
          have Y168 : Hid ((OKR S (Xi S 904 74) 1 → NT3 T8 = NT3 T7) ∧ (¬ OKR S (Xi S 904 74) 1 → NT3 T8 = ntF (NT3 T7) 4 (pR S (Xi S 904 74)))) := by first | (have t := K153; exact ⟨fun _ => (by have t := nt168_; rw [if_neg (show ¬ (1 : Int) = 0 by decide)] at t; exact t), fun q => absurd O153.o q⟩) | exact ⟨fun q => absurd q N157.o, fun _ => (by have t := nt168_; rw [(hFT7.cx 908 rfl _).1, (hFT7.cx 950 rfl _).1, show Xi T2 904 74 = Xi S 904 74 by omega] at t; rw [if_pos (show (0 : Int) = 0 from rfl)] at t; exact t)⟩
          clear nt168_
          refine y_return rfl rfl ?_
          exact ⟨hHT8, hFT8, rfl, (by obtain ⟨x1, a1, b1⟩ := A90_.o; exact rw14_of hz0.1 a1 b1 n120.o Y168.o.1 Y168.o.2 hp.o.1 hp.o.2.1 hp.o.2.2)⟩
        · refine y_aload_n rfl rfl ?_
          have k139 : -1 ≤ Xi T7 918 (z157).toNat ∧ Xi T7 918 (z157).toNat ≤ 15 := by rw [(hFT7.cx 918 rfl _).1]; exact hko.o _
          refine y_aload_n rfl rfl ?_
          refine y_gfr rfl rfl rfl rfl rfl (hHT7.r 904 20 918 rfl) ?_
          refine y_iload_n rfl rfl ?_
          refine y_ialoadP (n := 24) rfl rfl (by unfold rg; omega) (fun w180 w181 => ?_)
          have w182 : -2147483648 ≤ (Xi T7 918 ((z157).toNat)) ∧ (Xi T7 918 ((z157).toNat)) ≤ 2147483647 := Xi_rgI
          refine y_iconst rfl ?_
          refine y_callV rfl rfl rfl (t_mo_isBelow__p hHT7 (Xi T7 918 ((z157).toNat)) 1 ⟨by omega, by omega⟩ ⟨by omega, by omega⟩ (by first | assumption | exact (ABV_FR hFT7 rfl (by assumption : ABV S))) _) ?_
          rintro _ _ ⟨rfl, z190, rfl, w190, f147⟩
          show Pl _ _ _ _ _ _ [iv z190, .ref 904] _ _
          have K147 : z190 = blR S (Xi S 918 (rnR S (Xi S 904 74) 4).toNat) 1 := by have t := f147; rw [blR_fr hFT7 rfl, (hFT7.cx 918 rfl _).1, K129] at t; exact t
          clear f147
          refine y_if_eq rfl rfl (by unfold rg; omega) (fun w191 => ?_) (fun w192 => ?_)
          · refine y_iconst rfl ?_
            have N157 : Hid (¬ OKR S (Xi S 904 74) 1) := fun q => by first | (have t := K147; have u := q.2; omega) | (have u := q.1; omega)
            refine y_iconst rfl ?_
            refine y_aload_n rfl rfl ?_
            refine y_gfr rfl rfl rfl rfl rfl (hHT7.r 904 67 950 rfl) ?_
            refine y_aload_n rfl rfl ?_
            refine y_gfi rfl rfl rfl rfl rfl ?_
            have w193 : (Xi T7 904 74) = (Xi T2 904 74) := (show Xi T7 904 74 = Xi T2 904 74 from w148.x _ _ rfl)
            rw [w193]
            refine y_ialoadP (n := 2600) rfl rfl (by unfold rg; omega) (fun w194 w195 => ?_)
            have w196 : -2147483648 ≤ (Xi T7 950 (((Xi T2 904 74)).toNat)) ∧ (Xi T7 950 (((Xi T2 904 74)).toNat)) ≤ 2147483647 := Xi_rgI
            refine y_callV rfl rfl rfl (t_mo_need__p hHT7 0 4 (Xi T7 950 (((Xi T2 904 74)).toNat)) ⟨by omega, by omega⟩ ⟨by omega, by omega⟩ ⟨by omega, by omega⟩ _) ?_
            rintro _ T9 ⟨hHT9, w205, rfl, nt168_⟩
            have hFT9 : FR md_mo_askWay__p S T9 := FR.tr hFT7 w205 rfl
            show Pl _ _ _ _ _ _ [] _ _
            have Y168 : Hid ((OKR S (Xi S 904 74) 1 → NT3 T9 = NT3 T7) ∧ (¬ OKR S (Xi S 904 74) 1 → NT3 T9 = ntF (NT3 T7) 4 (pR S (Xi S 904 74)))) := by first | (have t := K153; exact ⟨fun _ => (by have t := nt168_; rw [if_neg (show ¬ (1 : Int) = 0 by decide)] at t; exact t), fun q => absurd O153.o q⟩) | exact ⟨fun q => absurd q N157.o, fun _ => (by have t := nt168_; rw [(hFT7.cx 908 rfl _).1, (hFT7.cx 950 rfl _).1, show Xi T2 904 74 = Xi S 904 74 by omega] at t; rw [if_pos (show (0 : Int) = 0 from rfl)] at t; exact t)⟩
            clear nt168_
            refine y_return rfl rfl ?_
            exact ⟨hHT9, hFT9, rfl, (by obtain ⟨x1, a1, b1⟩ := A90_.o; exact rw14_of hz0.1 a1 b1 n120.o Y168.o.1 Y168.o.2 hp.o.1 hp.o.2.1 hp.o.2.2)⟩
          · refine y_iconst rfl ?_
            have K153 : True := trivial
            have O153 : Hid (OKR S (Xi S 904 74) 1) := ⟨by omega, by omega⟩
            refine y_goto rfl rfl ?_
            refine y_iconst rfl ?_
            refine y_aload_n rfl rfl ?_
            refine y_gfr rfl rfl rfl rfl rfl (hHT7.r 904 67 950 rfl) ?_
            refine y_aload_n rfl rfl ?_
            refine y_gfi rfl rfl rfl rfl rfl ?_
            have w213 : (Xi T7 904 74) = (Xi T2 904 74) := (show Xi T7 904 74 = Xi T2 904 74 from w148.x _ _ rfl)
            rw [w213]
            refine y_ialoadP (n := 2600) rfl rfl (by unfold rg; omega) (fun w214 w215 => ?_)
            have w216 : -2147483648 ≤ (Xi T7 950 (((Xi T2 904 74)).toNat)) ∧ (Xi T7 950 (((Xi T2 904 74)).toNat)) ≤ 2147483647 := Xi_rgI
            refine y_callV rfl rfl rfl (t_mo_need__p hHT7 1 4 (Xi T7 950 (((Xi T2 904 74)).toNat)) ⟨by omega, by omega⟩ ⟨by omega, by omega⟩ ⟨by omega, by omega⟩ _) ?_
            rintro _ T10 ⟨hHT10, w225, rfl, nt168_⟩
            have hFT10 : FR md_mo_askWay__p S T10 := FR.tr hFT7 w225 rfl
            show Pl _ _ _ _ _ _ [] _ _
            have Y168 : Hid ((OKR S (Xi S 904 74) 1 → NT3 T10 = NT3 T7) ∧ (¬ OKR S (Xi S 904 74) 1 → NT3 T10 = ntF (NT3 T7) 4 (pR S (Xi S 904 74)))) := by first | (have t := K153; exact ⟨fun _ => (by have t := nt168_; rw [if_neg (show ¬ (1 : Int) = 0 by decide)] at t; exact t), fun q => absurd O153.o q⟩) | exact ⟨fun q => absurd q N157.o, fun _ => (by have t := nt168_; rw [(hFT7.cx 908 rfl _).1, (hFT7.cx 950 rfl _).1, show Xi T2 904 74 = Xi S 904 74 by omega] at t; rw [if_pos (show (0 : Int) = 0 from rfl)] at t; exact t)⟩
            clear nt168_
            refine y_return rfl rfl ?_
            exact ⟨hHT10, hFT10, rfl, (by obtain ⟨x1, a1, b1⟩ := A90_.o; exact rw14_of hz0.1 a1 b1 n120.o Y168.o.1 Y168.o.2 hp.o.1 hp.o.2.1 hp.o.2.2)⟩
    refine y_aload_n rfl rfl ?_
    refine y_gfi rfl rfl rfl rfl rfl ?_
    refine y_iconst rfl ?_
    refine y_icmp_le rfl rfl (by unfold rg; omega) (by unfold rg; omega) (fun w233 => ?_) (fun w234 => ?_)
    · exact Pl_weak (C90 T1 hHT1 hFT1  (by first | (have t := K87; exact ⟨_, A69.o, B87.o⟩) | exact ⟨_, A69.o, by rw [if_neg (by omega)]⟩) (by omega) (by omega) (by omega)) (by omega) (And.intro rfl (True.intro))
    · refine y_aload_n rfl rfl ?_
      refine y_iconst rfl ?_
      refine y_aload_n rfl rfl ?_
      refine y_gfr rfl rfl rfl rfl rfl (hHT1.r 904 67 950 rfl) ?_
      refine y_iload_n rfl rfl ?_
      refine y_iconst rfl ?_
      refine y_iadd rfl ?_
      refine y_ialoadP (n := 2600) rfl rfl (by unfold rg; omega) (fun w235 w236 => ?_)
      have w237 : -2147483648 ≤ (Xi T1 950 (((v1 + 1)).toNat)) ∧ (Xi T1 950 (((v1 + 1)).toNat)) ≤ 2147483647 := Xi_rgI
      refine y_callV rfl rfl rfl (t_mo_note__p hHT1 4 (Xi T1 950 (((v1 + 1)).toNat)) ⟨by omega, by omega⟩ ⟨by omega, by omega⟩ _) ?_
      rintro _ T11 ⟨hHT11, w239, rfl, nt87_⟩
      have hFT11 : FR md_mo_askWay__p S T11 := FR.tr hFT1 w239 rfl
      show Pl _ _ _ _ _ _ [] _ _
      have K87 : True := trivial
      have B87 : Hid (NT3 T11 = if 1 < Xi S 904 72 then ntF (NT3 T1) 4 (pR S (Xi S 904 71 + 1)) else NT3 T1) := by have t := nt87_; rw [(hFT1.cx 908 rfl _).1, (hFT1.cx 950 rfl _).1, i69] at t; rw [if_pos (by omega)]; exact t
      have w240 : Xi T11 904 108 = Xi T1 904 108 := (show Xi T11 904 108 = Xi T1 904 108 from w239.x _ _ rfl)
      have w241 : Xi T11 904 15 = Xi T1 904 15 := (show Xi T11 904 15 = Xi T1 904 15 from w239.x _ _ rfl)
      have w242 : Xi T11 904 19 = Xi T1 904 19 := (show Xi T11 904 19 = Xi T1 904 19 from w239.x _ _ rfl)
      have w243 : Xi T11 904 71 = Xi T1 904 71 := (show Xi T11 904 71 = Xi T1 904 71 from w239.x _ _ rfl)
      have w244 : Xi T11 904 72 = Xi T1 904 72 := (show Xi T11 904 72 = Xi T1 904 72 from w239.x _ _ rfl)
      have w245 : Xi T11 904 74 = Xi T1 904 74 := (show Xi T11 904 74 = Xi T1 904 74 from w239.x _ _ rfl)
      have w246 : Xi T11 904 78 = Xi T1 904 78 := (show Xi T11 904 78 = Xi T1 904 78 from w239.x _ _ rfl)
      exact Pl_weak (C90 T11 hHT11 hFT11  (by first | (have t := K87; exact ⟨_, A69.o, B87.o⟩) | exact ⟨_, A69.o, by rw [if_neg (by omega)]⟩) (by omega) (by omega) (by omega)) (by omega) (And.intro rfl (True.intro))
  refine y_aload_n rfl rfl ?_
  refine y_gfi rfl rfl rfl rfl rfl ?_
  refine y_istore_n rfl rfl rfl ?_
  refine y_aload_n rfl rfl ?_
  refine y_iload_n rfl rfl ?_
  refine y_callV rfl rfl rfl (t_mo_meansNothing__p hH (Xi S 904 71) ⟨by omega, by omega⟩ (by first | assumption | exact (LSP_FR hF rfl rfl (by assumption : LSP S))) (by first | assumption | omega) (by first | assumption | exact (RBD_FR hF rfl (by assumption : RBD S))) _) ?_
  rintro _ _ ⟨rfl, z247, rfl, w247, f7⟩
  show Pl _ _ _ _ _ _ [iv z247] _ _
  have f7_ := Hid.i f7
  clear f7
  refine y_if_eq rfl rfl (by unfold rg; omega) (fun w248 => ?_) (fun w249 => ?_)
  · refine y_aload_n rfl rfl ?_
    have m27 : rmR S (Xi S 904 71) ≠ -1 := f7_.o.2 (by omega)
    refine y_iload_n rfl rfl ?_
    refine y_iconst rfl ?_
    refine y_callV rfl rfl rfl (t_mo_meansRun__p hH (Xi S 904 71) 4 ⟨by omega, by omega⟩ ⟨by omega, by omega⟩ (by first | assumption | exact (LSP_FR hF rfl rfl (by assumption : LSP S))) (by first | assumption | omega) (by first | assumption | exact (RBD_FR hF rfl (by assumption : RBD S))) _) ?_
    rintro _ _ ⟨rfl, z250, rfl, w250, f30⟩
    show Pl _ _ _ _ _ _ [iv z250] _ _
    refine y_istore_n rfl rfl rfl ?_
    refine y_aload_n rfl rfl ?_
    refine y_iload_n rfl rfl ?_
    refine y_iconst rfl ?_
    refine y_icmp_eq rfl rfl (by unfold rg; omega) (by unfold rg; omega) (fun w251 => ?_) (fun w252 => ?_)
    · refine y_iconst rfl ?_
      refine y_iconst rfl ?_
      refine y_aload_n rfl rfl ?_
      refine y_gfr rfl rfl rfl rfl rfl (hH.r 904 67 950 rfl) ?_
      refine y_iload_n rfl rfl ?_
      refine y_ialoadP (n := 2600) rfl rfl (by unfold rg; omega) (fun w253 w254 => ?_)
      have w255 : -2147483648 ≤ (Xi S 950 (((Xi S 904 71)).toNat)) ∧ (Xi S 950 (((Xi S 904 71)).toNat)) ≤ 2147483647 := Xi_rgI
      refine y_callV rfl rfl rfl (t_mo_need__p hH 0 4 (Xi S 950 (((Xi S 904 71)).toNat)) ⟨by omega, by omega⟩ ⟨by omega, by omega⟩ ⟨by omega, by omega⟩ _) ?_
      rintro _ T12 ⟨hHT12, w257, rfl, nt66_⟩
      have hFT12 : FR md_mo_askWay__p S T12 := FR.tr hF w257 rfl
      show Pl _ _ _ _ _ _ [] _ _
      have K66 : True := trivial
      have W66 : Hid (W1R S (NT3 T12)) := by first | (have t := K54; exact ⟨fun q => absurd q m27, fun q => absurd q m27, fun _ _ => (by have t := nt66_; rw [if_neg (show ¬ (1 : Int) = 0 by decide)] at t; exact t), fun _ q => absurd ⟨by omega, by omega⟩ q⟩) | exact ⟨fun q => absurd q m27, fun q => absurd q m27, fun _ q => absurd (by first | (have t := K48; have u := q.2; omega) | (have u := q.1; omega)) id, fun _ _ => (by have t := nt66_; rw [if_pos (show (0 : Int) = 0 from rfl)] at t; exact t)⟩
      clear nt66_
      have w258 : Xi T12 904 108 = Xi S 904 108 := (show Xi T12 904 108 = Xi S 904 108 from w257.x _ _ rfl)
      have w259 : Xi T12 904 15 = Xi S 904 15 := (show Xi T12 904 15 = Xi S 904 15 from w257.x _ _ rfl)
      have w260 : Xi T12 904 19 = Xi S 904 19 := (show Xi T12 904 19 = Xi S 904 19 from w257.x _ _ rfl)
      have w261 : Xi T12 904 71 = Xi S 904 71 := (show Xi T12 904 71 = Xi S 904 71 from w257.x _ _ rfl)
      have w262 : Xi T12 904 72 = Xi S 904 72 := (show Xi T12 904 72 = Xi S 904 72 from w257.x _ _ rfl)
      have w263 : Xi T12 904 74 = Xi S 904 74 := (show Xi T12 904 74 = Xi S 904 74 from w257.x _ _ rfl)
      have w264 : Xi T12 904 78 = Xi S 904 78 := (show Xi T12 904 78 = Xi S 904 78 from w257.x _ _ rfl)
      exact Pl_weak (C69 T12 hHT12 hFT12 ((Xi S 904 71)) (by omega) (rfl) (by first | exact W21 | exact W66) (by omega) (by omega) (by omega)) (by omega) (And.intro rfl (And.intro rfl (True.intro)))
    · refine y_aload_n rfl rfl ?_
      have k40 := hko.o ((z250).toNat)
      refine y_aload_n rfl rfl ?_
      refine y_gfr rfl rfl rfl rfl rfl (hH.r 904 20 918 rfl) ?_
      refine y_iload_n rfl rfl ?_
      refine y_ialoadP (n := 24) rfl rfl (by unfold rg; omega) (fun w265 w266 => ?_)
      have w267 : -2147483648 ≤ (Xi S 918 ((z250).toNat)) ∧ (Xi S 918 ((z250).toNat)) ≤ 2147483647 := Xi_rgI
      refine y_iconst rfl ?_
      refine y_callV rfl rfl rfl (t_mo_isBelow__p hH (Xi S 918 ((z250).toNat)) 1 ⟨by omega, by omega⟩ ⟨by omega, by omega⟩ (by first | assumption | exact (ABV_FR hF rfl (by assumption : ABV S))) _) ?_
      rintro _ _ ⟨rfl, z268, rfl, w268, f48⟩
      show Pl _ _ _ _ _ _ [iv z268, .ref 904] _ _
      have K48 : z268 = blR S (Xi S 918 (rnR S (Xi S 904 71) 4).toNat) 1 := by have t := f48; rw [f30] at t; exact t
      refine y_if_eq rfl rfl (by unfold rg; omega) (fun w269 => ?_) (fun w270 => ?_)
      · refine y_iconst rfl ?_
        refine y_iconst rfl ?_
        refine y_aload_n rfl rfl ?_
        refine y_gfr rfl rfl rfl rfl rfl (hH.r 904 67 950 rfl) ?_
        refine y_iload_n rfl rfl ?_
        refine y_ialoadP (n := 2600) rfl rfl (by unfold rg; omega) (fun w271 w272 => ?_)
        have w273 : -2147483648 ≤ (Xi S 950 (((Xi S 904 71)).toNat)) ∧ (Xi S 950 (((Xi S 904 71)).toNat)) ≤ 2147483647 := Xi_rgI
        refine y_callV rfl rfl rfl (t_mo_need__p hH 0 4 (Xi S 950 (((Xi S 904 71)).toNat)) ⟨by omega, by omega⟩ ⟨by omega, by omega⟩ ⟨by omega, by omega⟩ _) ?_
        rintro _ T13 ⟨hHT13, w275, rfl, nt66_⟩
        have hFT13 : FR md_mo_askWay__p S T13 := FR.tr hF w275 rfl
        show Pl _ _ _ _ _ _ [] _ _
        have K66 : True := trivial
        have W66 : Hid (W1R S (NT3 T13)) := by first | (have t := K54; exact ⟨fun q => absurd q m27, fun q => absurd q m27, fun _ _ => (by have t := nt66_; rw [if_neg (show ¬ (1 : Int) = 0 by decide)] at t; exact t), fun _ q => absurd ⟨by omega, by omega⟩ q⟩) | exact ⟨fun q => absurd q m27, fun q => absurd q m27, fun _ q => absurd (by first | (have t := K48; have u := q.2; omega) | (have u := q.1; omega)) id, fun _ _ => (by have t := nt66_; rw [if_pos (show (0 : Int) = 0 from rfl)] at t; exact t)⟩
        clear nt66_
        have w276 : Xi T13 904 108 = Xi S 904 108 := (show Xi T13 904 108 = Xi S 904 108 from w275.x _ _ rfl)
        have w277 : Xi T13 904 15 = Xi S 904 15 := (show Xi T13 904 15 = Xi S 904 15 from w275.x _ _ rfl)
        have w278 : Xi T13 904 19 = Xi S 904 19 := (show Xi T13 904 19 = Xi S 904 19 from w275.x _ _ rfl)
        have w279 : Xi T13 904 71 = Xi S 904 71 := (show Xi T13 904 71 = Xi S 904 71 from w275.x _ _ rfl)
        have w280 : Xi T13 904 72 = Xi S 904 72 := (show Xi T13 904 72 = Xi S 904 72 from w275.x _ _ rfl)
        have w281 : Xi T13 904 74 = Xi S 904 74 := (show Xi T13 904 74 = Xi S 904 74 from w275.x _ _ rfl)
        have w282 : Xi T13 904 78 = Xi S 904 78 := (show Xi T13 904 78 = Xi S 904 78 from w275.x _ _ rfl)
        exact Pl_weak (C69 T13 hHT13 hFT13 ((Xi S 904 71)) (by omega) (rfl) (by first | exact W21 | exact W66) (by omega) (by omega) (by omega)) (by omega) (And.intro rfl (And.intro rfl (True.intro)))
      · refine y_iconst rfl ?_
        have K54 : True := trivial
        refine y_goto rfl rfl ?_
        refine y_iconst rfl ?_
        refine y_aload_n rfl rfl ?_
        refine y_gfr rfl rfl rfl rfl rfl (hH.r 904 67 950 rfl) ?_
        refine y_iload_n rfl rfl ?_
        refine y_ialoadP (n := 2600) rfl rfl (by unfold rg; omega) (fun w283 w284 => ?_)
        have w285 : -2147483648 ≤ (Xi S 950 (((Xi S 904 71)).toNat)) ∧ (Xi S 950 (((Xi S 904 71)).toNat)) ≤ 2147483647 := Xi_rgI
        refine y_callV rfl rfl rfl (t_mo_need__p hH 1 4 (Xi S 950 (((Xi S 904 71)).toNat)) ⟨by omega, by omega⟩ ⟨by omega, by omega⟩ ⟨by omega, by omega⟩ _) ?_
        rintro _ T14 ⟨hHT14, w287, rfl, nt66_⟩
        have hFT14 : FR md_mo_askWay__p S T14 := FR.tr hF w287 rfl
        show Pl _ _ _ _ _ _ [] _ _
        have K66 : True := trivial
        have W66 : Hid (W1R S (NT3 T14)) := by first | (have t := K54; exact ⟨fun q => absurd q m27, fun q => absurd q m27, fun _ _ => (by have t := nt66_; rw [if_neg (show ¬ (1 : Int) = 0 by decide)] at t; exact t), fun _ q => absurd ⟨by omega, by omega⟩ q⟩) | exact ⟨fun q => absurd q m27, fun q => absurd q m27, fun _ q => absurd (by first | (have t := K48; have u := q.2; omega) | (have u := q.1; omega)) id, fun _ _ => (by have t := nt66_; rw [if_pos (show (0 : Int) = 0 from rfl)] at t; exact t)⟩
        clear nt66_
        have w288 : Xi T14 904 108 = Xi S 904 108 := (show Xi T14 904 108 = Xi S 904 108 from w287.x _ _ rfl)
        have w289 : Xi T14 904 15 = Xi S 904 15 := (show Xi T14 904 15 = Xi S 904 15 from w287.x _ _ rfl)
        have w290 : Xi T14 904 19 = Xi S 904 19 := (show Xi T14 904 19 = Xi S 904 19 from w287.x _ _ rfl)
        have w291 : Xi T14 904 71 = Xi S 904 71 := (show Xi T14 904 71 = Xi S 904 71 from w287.x _ _ rfl)
        have w292 : Xi T14 904 72 = Xi S 904 72 := (show Xi T14 904 72 = Xi S 904 72 from w287.x _ _ rfl)
        have w293 : Xi T14 904 74 = Xi S 904 74 := (show Xi T14 904 74 = Xi S 904 74 from w287.x _ _ rfl)
        have w294 : Xi T14 904 78 = Xi S 904 78 := (show Xi T14 904 78 = Xi S 904 78 from w287.x _ _ rfl)
        exact Pl_weak (C69 T14 hHT14 hFT14 ((Xi S 904 71)) (by omega) (rfl) (by first | exact W21 | exact W66) (by omega) (by omega) (by omega)) (by omega) (And.intro rfl (And.intro rfl (True.intro)))
  · refine y_aload_n rfl rfl ?_
    have m13 : rmR S (Xi S 904 71) = -1 := f7_.o.1 (by omega)
    refine y_iload_n rfl rfl ?_
    refine y_aload_n rfl rfl ?_
    refine y_gfi rfl rfl rfl rfl rfl ?_
    refine y_bipush rfl rfl ?_
    refine y_callV rfl rfl rfl (t_mo_mustBeNew__p hH (Xi S 904 71) (Xi S 904 19) 24 ⟨by omega, by omega⟩ ⟨by omega, by omega⟩ ⟨by omega, by omega⟩ (by first | assumption | exact (LSP_FR hF rfl rfl (by assumption : LSP S))) (by first | assumption | omega) (by first | assumption | exact (RBD_FR hF rfl (by assumption : RBD S))) (by first | assumption | omega) _) ?_
    rintro _ T15 ⟨hHT15, w296, rfl, y21_, m21_⟩
    have hFT15 : FR md_mo_askWay__p S T15 := FR.tr hF w296 rfl
    show Pl _ _ _ _ _ _ [] _ _
    have K21 : True := trivial
    have q21 : Hid (nwR S (Xi S 904 71) ↔ nwR0 S (Xi S 904 71)) := nwR_0 (fun _ => rfl) rfl hz0.2
    have W21 : Hid (W1R S (NT3 T15)) := ⟨fun _ q => (y21_ (q21.o.2 q)).1, fun _ q => (m21_ (fun w => q (q21.o.1 w))).1, fun q => absurd m13 q, fun q => absurd m13 q⟩
    clear y21_ m21_
    refine y_goto rfl rfl ?_
    have w297 : Xi T15 904 15 = Xi S 904 15 := (show Xi T15 904 15 = Xi S 904 15 from w296.x _ _ rfl)
    have w298 : Xi T15 904 19 = Xi S 904 19 := (show Xi T15 904 19 = Xi S 904 19 from w296.x _ _ rfl)
    have w299 : Xi T15 904 71 = Xi S 904 71 := (show Xi T15 904 71 = Xi S 904 71 from w296.x _ _ rfl)
    have w300 : Xi T15 904 72 = Xi S 904 72 := (show Xi T15 904 72 = Xi S 904 72 from w296.x _ _ rfl)
    have w301 : Xi T15 904 74 = Xi S 904 74 := (show Xi T15 904 74 = Xi S 904 74 from w296.x _ _ rfl)
    have w302 : Xi T15 904 78 = Xi S 904 78 := (show Xi T15 904 78 = Xi S 904 78 from w296.x _ _ rfl)
    exact Pl_weak (C69 T15 hHT15 hFT15 ((Xi S 904 71)) (by omega) (rfl) (by first | exact W21 | exact W66) (by omega) (by omega) (by omega)) (by omega) (And.intro rfl (And.intro rfl (True.intro)))
def md_mo_asked__14 : List rec := [(904, 905, 64, 65), (904, 905, 104, 105), (904, 905, 105, 106), (904, 905, 106, 107), (904, 905, 108, 109), (904, 905, 109, 110), (904, 905, 110, 111), (904, 905, 112, 113), (904, 905, 113, 114), (904, 905, 115, 116), (904, 905, 116, 117), (904, 905, 117, 118), (904, 905, 125, 126), (904, 905, 128, 129), (904, 905, 129, 130), (904, 905, 130, 131), (904, 905, 142, 143), (904, 905, 144, 145), (904, 905, 146, 147), (904, 905, 147, 148), (904, 905, 150, 151), (904, 905, 151, 152), (904, 905, 153, 154), (904, 905, 154, 155), (904, 905, 156, 157), (904, 905, 157, 158), (904, 905, 158, 159), (904, 905, 160, 161), (966, 967, 0, 100000), (967, 968, 0, 100000), (968, 969, 0, 100000), (969, 970, 0, 100000), (970, 971, 0, 100000), (971, 972, 0, 100000), (972, 973, 0, 100000), (973, 974, 0, 100000), (974, 975, 0, 100000), (975, 976, 0, 100000), (976, 977, 0, 100000), (977, 978, 0, 100000), (978, 979, 0, 100000), (979, 980, 0, 100000), (980, 981, 0, 100000), (981, 982, 0, 100000), (982, 983, 0, 100000), (983, 984, 0, 100000), (984, 985, 0, 100000), (985, 986, 0, 100000), (986, 987, 0, 100000), (987, 988, 0, 100000), (988, 989, 0, 100000), (989, 990, 0, 100000), (990, 991, 0, 100000), (991, 992, 0, 100000), (992, 993, 0, 100000), (993, 994, 0, 100000), (994, 995, 0, 100000)]
abbrev Q_mo_asked__14 (S : sS) (first : Int) : pst := fun r S1 => RI S1 ∧ FR md_mo_asked__14 S S1 ∧ (r = none ∧ (RW14 S (NT3 S1)))
set_option maxRecDepth 100000 in
theorem t_mo_asked__14 {S : sS} (hH : RI S) (first : Int) (hfirst : 0 ≤ first ∧ first ≤ 5001) (hLS : LSP S) (h15 : 0 ≤ Xi S 904 15) (hRB : RBD S) (hs : Xi S 904 70 = 14) (hB : ABV S) (hob : 0 ≤ Xi S 904 19 ∧ Xi S 904 19 ≤ 24) (hko : Hid (∀ j : Nat, -1 ≤ Xi S 918 j ∧ Xi S 918 j ≤ 15)) (hrr : 0 ≤ Xi S 904 71 ∧ Xi S 904 71 ≤ 2600 ∧ -2 ≤ Xi S 904 78 ∧ Xi S 904 78 ≤ 2600 ∧ -1 ≤ Xi S 904 74 ∧ Xi S 904 74 ≤ 2600 ∧ 0 ≤ Xi S 904 72 ∧ Xi S 904 72 ≤ 2600) (hp : Hid ((1 < Xi S 904 72 → pR S (Xi S 904 71) < pR S (Xi S 904 71 + 1) ∧ pR S (Xi S 904 71 + 1) < pR S (Xi S 904 78)) ∧ pR S (Xi S 904 71) < pR S (Xi S 904 78) ∧ pR S (Xi S 904 78) < pR S (Xi S 904 74))) (d : Nat) : Mp lay0 (d + 13) m_mo_asked [.ref 904, iv first] S (Q_mo_asked__14 S first) := by
  refine Mp_R rfl rfl (fun fu => ?_)
  have hF : FR md_mo_asked__14 S S := FR.rf
  have w1 : -2147483648 ≤ Xi S 904 104 ∧ Xi S 904 104 ≤ 2147483647 := Xi_rgI
  have w2 : -2147483648 ≤ Xi S 904 105 ∧ Xi S 904 105 ≤ 2147483647 := Xi_rgI
  have w3 : -2147483648 ≤ Xi S 904 106 ∧ Xi S 904 106 ≤ 2147483647 := Xi_rgI
  have w4 : -2147483648 ≤ Xi S 904 108 ∧ Xi S 904 108 ≤ 2147483647 := Xi_rgI
  have w5 : -2147483648 ≤ Xi S 904 15 ∧ Xi S 904 15 ≤ 2147483647 := Xi_rgI
  have w6 : -2147483648 ≤ Xi S 904 19 ∧ Xi S 904 19 ≤ 2147483647 := Xi_rgI
  have w7 : -2147483648 ≤ Xi S 904 70 ∧ Xi S 904 70 ≤ 2147483647 := Xi_rgI
  have w8 : -2147483648 ≤ Xi S 904 71 ∧ Xi S 904 71 ≤ 2147483647 := Xi_rgI
  have w9 : -2147483648 ≤ Xi S 904 72 ∧ Xi S 904 72 ≤ 2147483647 := Xi_rgI
  have w10 : -2147483648 ≤ Xi S 904 74 ∧ Xi S 904 74 ≤ 2147483647 := Xi_rgI
  have w11 : -2147483648 ≤ Xi S 904 78 ∧ Xi S 904 78 ≤ 2147483647 := Xi_rgI
  refine y_aload_n rfl rfl ?_
  refine y_iconst rfl ?_
  refine y_pfi rfl rfl rfl rfl ?_
  obtain ⟨U1, eU1⟩ : ∃ T : sS, T = uI S 904 106 (Int32.ofInt 0) := ⟨_, rfl⟩
  rw [← eU1]
  have hHU1 : RI U1 := by rw [eU1]; exact RI_w hH
  have hFU1 : FR md_mo_asked__14 S U1 := by rw [eU1]; exact FR.wI hF (mdf_i (r := (904, 905, 106, 107)) (List.mem_of_getElem? (i := 3) rfl) (inR_i (by omega) (by omega) (by omega) (by omega)))
  have w12 : Xi U1 904 106 = 0 := by rw [eU1]; exact Xi_same (by unfold rg; omega)
  refine y_aload_n rfl rfl ?_
  refine y_iconst rfl ?_
  refine y_pfi rfl rfl rfl rfl ?_
  obtain ⟨U2, eU2⟩ : ∃ T : sS, T = uI U1 904 108 (Int32.ofInt 0) := ⟨_, rfl⟩
  rw [← eU2]
  have hHU2 : RI U2 := by rw [eU2]; exact RI_w hHU1
  have hFU2 : FR md_mo_asked__14 S U2 := by rw [eU2]; exact FR.wI hFU1 (mdf_i (r := (904, 905, 108, 109)) (List.mem_of_getElem? (i := 4) rfl) (inR_i (by omega) (by omega) (by omega) (by omega)))
  have w13 : Xi U2 904 108 = 0 := by rw [eU2]; exact Xi_same (by unfold rg; omega)
  refine y_aload_n rfl rfl ?_
  refine y_iconst rfl ?_
  refine y_pfi rfl rfl rfl rfl ?_
  obtain ⟨U3, eU3⟩ : ∃ T : sS, T = uI U2 904 115 (Int32.ofInt (-1)) := ⟨_, rfl⟩
  rw [← eU3]
  have hHU3 : RI U3 := by rw [eU3]; exact RI_w hHU2
  have hFU3 : FR md_mo_asked__14 S U3 := by rw [eU3]; exact FR.wI hFU2 (mdf_i (r := (904, 905, 115, 116)) (List.mem_of_getElem? (i := 9) rfl) (inR_i (by omega) (by omega) (by omega) (by omega)))
  have w14 : Xi U3 904 115 = (-1) := by rw [eU3]; exact Xi_same (by unfold rg; omega)
  refine y_aload_n rfl rfl ?_
  refine y_iconst rfl ?_
  refine y_pfi rfl rfl rfl rfl ?_
  obtain ⟨U4, eU4⟩ : ∃ T : sS, T = uI U3 904 116 (Int32.ofInt (-1)) := ⟨_, rfl⟩
  rw [← eU4]
  have hHU4 : RI U4 := by rw [eU4]; exact RI_w hHU3
  have hFU4 : FR md_mo_asked__14 S U4 := by rw [eU4]; exact FR.wI hFU3 (mdf_i (r := (904, 905, 116, 117)) (List.mem_of_getElem? (i := 10) rfl) (inR_i (by omega) (by omega) (by omega) (by omega)))
  have w15 : Xi U4 904 116 = (-1) := by rw [eU4]; exact Xi_same (by unfold rg; omega)
  refine y_aload_n rfl rfl ?_
  refine y_gfi rfl rfl rfl rfl rfl ?_
  have w16 : (Xi U4 904 70) = (Xi S 904 70) := (show Xi U4 904 70 = Xi U3 904 70 from by rw [eU4]; exact Xi_ne (by omega)).trans ( (show Xi U3 904 70 = Xi U2 904 70 from by rw [eU3]; exact Xi_ne (by omega)).trans ( (show Xi U2 904 70 = Xi U1 904 70 from by rw [eU2]; exact Xi_ne (by omega)).trans ((show Xi U1 904 70 = Xi S 904 70 from by rw [eU1]; exact Xi_ne (by omega)))))
  rw [w16]
  refine y_tsw rfl rfl rfl rfl (by unfold rg; omega) (fun w17 => ?_) (fun ii tt hii w17 => ?_)
  · exfalso; omega
  · match ii, hii with
    | 0, hii =>
      cases hii
      have w18 : (Xi S 904 70) = 0 := by simpa using w17
      exfalso; omega
    | 1, hii =>
      cases hii
      have w19 : (Xi S 904 70) = 1 := by simpa using w17
      exfalso; omega
    | 2, hii =>
      cases hii
      have w20 : (Xi S 904 70) = 2 := by simpa using w17
      exfalso; omega
    | 3, hii =>
      cases hii
      have w21 : (Xi S 904 70) = 3 := by simpa using w17
      exfalso; omega
    | 4, hii =>
      cases hii
      have w22 : (Xi S 904 70) = 4 := by simpa using w17
      exfalso; omega
    | 5, hii =>
      cases hii
      have w23 : (Xi S 904 70) = 5 := by simpa using w17
      exfalso; omega
    | 6, hii =>
      cases hii
      have w24 : (Xi S 904 70) = 6 := by simpa using w17
      exfalso; omega
    | 7, hii =>
      cases hii
      have w25 : (Xi S 904 70) = 7 := by simpa using w17
      exfalso; omega
    | 8, hii =>
      cases hii
      have w26 : (Xi S 904 70) = 8 := by simpa using w17
      exfalso; omega
    | 9, hii =>
      cases hii
      have w27 : (Xi S 904 70) = 9 := by simpa using w17
      exfalso; omega
    | 10, hii =>
      cases hii
      have w28 : (Xi S 904 70) = 10 := by simpa using w17
      exfalso; omega
    | 11, hii =>
      cases hii
      have w29 : (Xi S 904 70) = 11 := by simpa using w17
      exfalso; omega
    | 12, hii =>
      cases hii
      have w30 : (Xi S 904 70) = 12 := by simpa using w17
      exfalso; omega
    | 13, hii =>
      cases hii
      have w31 : (Xi S 904 70) = 13 := by simpa using w17
      exfalso; omega
    | 14, hii =>
      cases hii
      have w32 : (Xi S 904 70) = 14 := by simpa using w17
      refine y_aload_n rfl rfl ?_
      have w35 : Xi U4 904 106 = Xi U1 904 106 := (show Xi U4 904 106 = Xi U3 904 106 from by rw [eU4]; exact Xi_ne (by omega)).trans ( (show Xi U3 904 106 = Xi U2 904 106 from by rw [eU3]; exact Xi_ne (by omega)).trans ((show Xi U2 904 106 = Xi U1 904 106 from by rw [eU2]; exact Xi_ne (by omega))))
      have w36 : Xi U4 904 108 = Xi U2 904 108 := (show Xi U4 904 108 = Xi U3 904 108 from by rw [eU4]; exact Xi_ne (by omega)).trans ((show Xi U3 904 108 = Xi U2 904 108 from by rw [eU3]; exact Xi_ne (by omega)))
      have w37 : Xi U4 904 15 = Xi S 904 15 := (show Xi U4 904 15 = Xi U3 904 15 from by rw [eU4]; exact Xi_ne (by omega)).trans ( (show Xi U3 904 15 = Xi U2 904 15 from by rw [eU3]; exact Xi_ne (by omega)).trans ( (show Xi U2 904 15 = Xi U1 904 15 from by rw [eU2]; exact Xi_ne (by omega)).trans ((show Xi U1 904 15 = Xi S 904 15 from by rw [eU1]; exact Xi_ne (by omega)))))
      have w38 : Xi U4 904 19 = Xi S 904 19 := (show Xi U4 904 19 = Xi U3 904 19 from by rw [eU4]; exact Xi_ne (by omega)).trans ( (show Xi U3 904 19 = Xi U2 904 19 from by rw [eU3]; exact Xi_ne (by omega)).trans ( (show Xi U2 904 19 = Xi U1 904 19 from by rw [eU2]; exact Xi_ne (by omega)).trans ((show Xi U1 904 19 = Xi S 904 19 from by rw [eU1]; exact Xi_ne (by omega)))))
      have w40 : Xi U4 904 71 = Xi S 904 71 := (show Xi U4 904 71 = Xi U3 904 71 from by rw [eU4]; exact Xi_ne (by omega)).trans ( (show Xi U3 904 71 = Xi U2 904 71 from by rw [eU3]; exact Xi_ne (by omega)).trans ( (show Xi U2 904 71 = Xi U1 904 71 from by rw [eU2]; exact Xi_ne (by omega)).trans ((show Xi U1 904 71 = Xi S 904 71 from by rw [eU1]; exact Xi_ne (by omega)))))
      have w41 : Xi U4 904 72 = Xi S 904 72 := (show Xi U4 904 72 = Xi U3 904 72 from by rw [eU4]; exact Xi_ne (by omega)).trans ( (show Xi U3 904 72 = Xi U2 904 72 from by rw [eU3]; exact Xi_ne (by omega)).trans ( (show Xi U2 904 72 = Xi U1 904 72 from by rw [eU2]; exact Xi_ne (by omega)).trans ((show Xi U1 904 72 = Xi S 904 72 from by rw [eU1]; exact Xi_ne (by omega)))))
      have w42 : Xi U4 904 74 = Xi S 904 74 := (show Xi U4 904 74 = Xi U3 904 74 from by rw [eU4]; exact Xi_ne (by omega)).trans ( (show Xi U3 904 74 = Xi U2 904 74 from by rw [eU3]; exact Xi_ne (by omega)).trans ( (show Xi U2 904 74 = Xi U1 904 74 from by rw [eU2]; exact Xi_ne (by omega)).trans ((show Xi U1 904 74 = Xi S 904 74 from by rw [eU1]; exact Xi_ne (by omega)))))
      have w43 : Xi U4 904 78 = Xi S 904 78 := (show Xi U4 904 78 = Xi U3 904 78 from by rw [eU4]; exact Xi_ne (by omega)).trans ( (show Xi U3 904 78 = Xi U2 904 78 from by rw [eU3]; exact Xi_ne (by omega)).trans ( (show Xi U2 904 78 = Xi U1 904 78 from by rw [eU2]; exact Xi_ne (by omega)).trans ((show Xi U1 904 78 = Xi S 904 78 from by rw [eU1]; exact Xi_ne (by omega)))))
      refine y_callV rfl rfl rfl (t_mo_askWay__p hHU4 (by first | assumption | exact (LSP_FR hFU4 rfl rfl (by assumption : LSP S))) (by first | assumption | omega) (by first | assumption | exact (RBD_FR hFU4 rfl (by assumption : RBD S))) (⟨by omega, by omega⟩) (by first | assumption | exact (ABV_FR hFU4 rfl (by assumption : ABV S))) (by first | assumption | omega) (fun j => by rw [(hFU4.cx 918 rfl j).1]; exact hko.o j) (by first | assumption | omega) (by rw [hFU4.x 904 71 rfl, hFU4.x 904 72 rfl, hFU4.x 904 74 rfl, hFU4.x 904 78 rfl]; simp only [pR_sm (SMR_FR hFU4 rfl rfl)]; exact hp) _) ?_
      rintro _ T5 ⟨hHT5, w45, rfl, o314⟩
      have hFT5 : FR md_mo_asked__14 S T5 := FR.tr hFU4 w45 rfl
      show Pl _ _ _ _ _ _ [] _ _
      have O314 : RW14 S (NT3 T5) := RW14_sm (SMR_FR hFU4 rfl rfl) hFU4 rfl rfl rfl o314
      refine y_goto rfl rfl ?_
      refine y_return rfl rfl ?_
      exact ⟨hHT5, hFT5, rfl, (O314)⟩
    | 15, hii =>
      cases hii
      have w53 : (Xi S 904 70) = 15 := by simpa using w17
      exfalso; omega
    | 16, hii =>
      cases hii
      have w54 : (Xi S 904 70) = 16 := by simpa using w17
      exfalso; omega
    | 17, hii =>
      cases hii
      have w55 : (Xi S 904 70) = 17 := by simpa using w17
      exfalso; omega
    | 18, hii =>
      cases hii
      have w56 : (Xi S 904 70) = 18 := by simpa using w17
      exfalso; omega
    | 19, hii =>
      cases hii
      have w57 : (Xi S 904 70) = 19 := by simpa using w17
      exfalso; omega
    | 20, hii =>
      cases hii
      have w58 : (Xi S 904 70) = 20 := by simpa using w17
      exfalso; omega
    | n + 21, hii => exact absurd hii (by simp)
def md_mo_objectTold__p : List rec := [(904, 905, 15, 16), (904, 905, 19, 20), (912, 913, 0, 100000), (913, 914, 0, 100000), (914, 915, 0, 100000), (915, 916, 0, 100000), (916, 917, 0, 100000), (918, 919, 0, 100000), (919, 920, 0, 100000), (920, 921, 0, 100000), (925, 926, 0, 100000), (930, 931, 0, 100000)]
abbrev Q_mo_objectTold__p (S : sS) (rn : Int) (kind : Int) : pst := fun r S1 => RI S1 ∧ FR md_mo_objectTold__p S S1 ∧ (∃ z : Int, r = some (iv z) ∧ (-2147483648 ≤ z ∧ z ≤ 2147483647) ∧ (OTR S S1 z rn kind))
set_option maxRecDepth 100000 in
theorem t_mo_objectTold__p {S : sS} (hH : RI S) (rn : Int) (kind : Int) (hrn : -2147483648 ≤ rn ∧ rn ≤ 2147483647) (hkind : -2147483648 ≤ kind ∧ kind ≤ 2147483647) (hLS : LSP S) (h15 : 0 ≤ Xi S 904 15) (hRB : RBD S) (ha : 0 ≤ Xi S 904 19 ∧ Xi S 904 19 ≤ 24) (hn : Hid (rnR S rn 4 = -1 → Xi S 904 19 ≤ 23)) (d : Nat) : Mp lay0 (d + 5) m_mo_objectTold [.ref 904, iv rn, iv kind] S (Q_mo_objectTold__p S rn kind) := by
  refine Mp_R rfl rfl (fun fu => ?_)
  have hF : FR md_mo_objectTold__p S S := FR.rf
  have w1 : -2147483648 ≤ Xi S 904 15 ∧ Xi S 904 15 ≤ 2147483647 := Xi_rgI
  have w2 : -2147483648 ≤ Xi S 904 19 ∧ Xi S 904 19 ≤ 2147483647 := Xi_rgI
  refine y_aload_n rfl rfl ?_
  refine y_iload_n rfl rfl ?_
  refine y_iconst rfl ?_
  refine y_callV rfl rfl rfl (t_mo_meansRun__p hH rn 4 ⟨by omega, by omega⟩ ⟨by omega, by omega⟩ (by first | assumption | exact (by assumption : LSP S)) (by first | assumption | omega) (by first | assumption | exact (RBD_FR hF rfl (by assumption : RBD S))) _) ?_
  rintro _ _ ⟨rfl, z3, rfl, w3, f3⟩
  show Pl _ _ _ _ _ _ [iv z3] _ _
  refine y_istore_n rfl rfl rfl ?_
  refine y_iload_n rfl rfl ?_
  refine y_iconst rfl ?_
  refine y_icmp_ne rfl rfl (by unfold rg; omega) (by unfold rg; omega) (fun w4 => ?_) (fun w5 => ?_)
  · refine y_iload_n rfl rfl ?_
    refine y_ireturn rfl rfl ?_
    exact ⟨hH, hF, _, rfl, ⟨by omega, by omega⟩, (by first | (have t := K22; exact ⟨fun q => absurd n12 q, fun _ => ⟨z14, TLW_pre e22 (fun k j h => by rcases h with h | h | h | h <;> rw [h] <;> first | exact (F14.cx 912 rfl j).1 | exact (F14.cx 914 rfl j).1 | exact (F14.cx 915 rfl j).1 | exact (F14.cx 916 rfl j).1) (fun j => (F14.cx 913 rfl j).2) (F14.x 904 15 rfl) (fun j => (F14.cx 910 rfl j).2) (fun j => (F14.cx 950 rfl j).1) (fun j => (F14.cx 951 rfl j).1), aob_k e14 (F22.x 904 19 rfl) (fun i j hi => by rcases hi with h | h | h | h | h <;> rw [h] <;> first | exact (F22.cx 918 rfl j).1 | exact (F22.cx 919 rfl j).1 | exact (F22.cx 920 rfl j).1 | exact (F22.cx 925 rfl j).1 | exact (F22.cx 930 rfl j).1)⟩⟩) | exact ⟨fun _ => ⟨f3, rfl⟩, fun q => absurd q (by omega)⟩)⟩
  · refine y_aload_n rfl rfl ?_
    have n12 : rnR S rn 4 = -1 := by omega
    have b12 : Xi S 904 19 ≤ 23 := hn.o n12
    refine y_iload_n rfl rfl ?_
    refine y_callV rfl rfl rfl (t_mo_addObject__p hH kind ⟨by omega, by omega⟩ (by first | assumption | omega) _) ?_
    rintro _ T1 ⟨hHT1, w7, z6, rfl, w6, z14, e14⟩
    have hFT1 : FR md_mo_objectTold__p S T1 := FR.tr hF w7 rfl
    show Pl _ _ _ _ _ _ [iv z6] _ _
    have F14 := (by assumption : FR md_mo_addObject__p S T1)
    refine y_istore_n rfl rfl rfl ?_
    refine y_aload_n rfl rfl ?_
    refine y_iconst rfl ?_
    refine y_iload_n rfl rfl ?_
    refine y_iload_n rfl rfl ?_
    refine y_callV rfl rfl rfl (t_mo_tellRun__p hHT1 4 z6 rn ⟨by omega, by omega⟩ ⟨by omega, by omega⟩ ⟨by omega, by omega⟩ (by first | assumption | exact (RBD_FR hFT1 rfl (by assumption : RBD S))) _) ?_
    rintro _ T2 ⟨hHT2, w10, rfl, e22_⟩
    have hFT2 : FR md_mo_objectTold__p S T2 := FR.tr hFT1 w10 rfl
    show Pl _ _ _ _ _ _ [] _ _
    have K22 : True := trivial
    have F22 := (by assumption : FR md_mo_tellRun__p T1 T2)
    have e22 : TLW T1 T2 T1 4 (Xi S 904 19) rn := by have t := e22_; rw [z14] at t; exact t
    refine y_iload_n rfl rfl ?_
    refine y_ireturn rfl rfl ?_
    exact ⟨hHT2, hFT2, _, rfl, ⟨by omega, by omega⟩, (by first | (have t := K22; exact ⟨fun q => absurd n12 q, fun _ => ⟨z14, TLW_pre e22 (fun k j h => by rcases h with h | h | h | h <;> rw [h] <;> first | exact (F14.cx 912 rfl j).1 | exact (F14.cx 914 rfl j).1 | exact (F14.cx 915 rfl j).1 | exact (F14.cx 916 rfl j).1) (fun j => (F14.cx 913 rfl j).2) (F14.x 904 15 rfl) (fun j => (F14.cx 910 rfl j).2) (fun j => (F14.cx 950 rfl j).1) (fun j => (F14.cx 951 rfl j).1), aob_k e14 (F22.x 904 19 rfl) (fun i j hi => by rcases hi with h | h | h | h | h <;> rw [h] <;> first | exact (F22.cx 918 rfl j).1 | exact (F22.cx 919 rfl j).1 | exact (F22.cx 920 rfl j).1 | exact (F22.cx 925 rfl j).1 | exact (F22.cx 930 rfl j).1)⟩⟩) | exact ⟨fun _ => ⟨f3, rfl⟩, fun q => absurd q (by omega)⟩)⟩
def md_mo_doWay__p : List rec := [(904, 905, 15, 16), (904, 905, 19, 20), (904, 905, 51, 52), (904, 905, 60, 61), (904, 905, 105, 106), (904, 905, 106, 107), (912, 913, 0, 100000), (913, 914, 0, 100000), (914, 915, 0, 100000), (915, 916, 0, 100000), (916, 917, 0, 100000), (918, 919, 0, 100000), (919, 920, 0, 100000), (920, 921, 0, 100000), (925, 926, 0, 100000), (930, 931, 0, 100000), (943, 944, 0, 100000), (944, 945, 0, 100000), (945, 946, 0, 100000)]
abbrev Q_mo_doWay__p (S : sS) : pst := fun r S1 => RI S1 ∧ FR md_mo_doWay__p S S1 ∧ (r = none ∧ (RD14 S S1))
set_option maxRecDepth 100000 in
theorem t_mo_doWay__p {S : sS} (hH : RI S) (hLS : LSP S) (h15 : 0 ≤ Xi S 904 15) (hRB : RBD S) (hrr : 0 ≤ Xi S 904 71 ∧ Xi S 904 71 ≤ 2600 ∧ -2 ≤ Xi S 904 78 ∧ Xi S 904 78 ≤ 2600 ∧ -1 ≤ Xi S 904 74 ∧ Xi S 904 74 ≤ 2600 ∧ 0 ≤ Xi S 904 72 ∧ Xi S 904 72 ≤ 2600) (hz0 : Xi S 904 106 = 0) (ha : 0 ≤ Xi S 904 19 ∧ Xi S 904 19 ≤ 24) (hn : Hid (rnR S (Xi S 904 71) 4 = -1 → Xi S 904 19 ≤ 23)) (hw : 0 ≤ Xi S 904 51 ∧ Xi S 904 51 ≤ 144) (d : Nat) : Mp lay0 (d + 6) m_mo_doWay [.ref 904] S (Q_mo_doWay__p S) := by
  refine Mp_R rfl rfl (fun fu => ?_)
  have hF : FR md_mo_doWay__p S S := FR.rf
  have w1 : -2147483648 ≤ Xi S 904 106 ∧ Xi S 904 106 ≤ 2147483647 := Xi_rgI
  have w2 : -2147483648 ≤ Xi S 904 15 ∧ Xi S 904 15 ≤ 2147483647 := Xi_rgI
  have w3 : -2147483648 ≤ Xi S 904 19 ∧ Xi S 904 19 ≤ 2147483647 := Xi_rgI
  have w4 : -2147483648 ≤ Xi S 904 51 ∧ Xi S 904 51 ≤ 2147483647 := Xi_rgI
  have w5 : -2147483648 ≤ Xi S 904 71 ∧ Xi S 904 71 ≤ 2147483647 := Xi_rgI
  have w6 : -2147483648 ≤ Xi S 904 72 ∧ Xi S 904 72 ≤ 2147483647 := Xi_rgI
  have w7 : -2147483648 ≤ Xi S 904 74 ∧ Xi S 904 74 ≤ 2147483647 := Xi_rgI
  have w8 : -2147483648 ≤ Xi S 904 78 ∧ Xi S 904 78 ≤ 2147483647 := Xi_rgI
  have C39 : ∀ (n39 : Nat) (_ : n39 ≤ fu) (T1 : sS) (_ : RI T1) (_ : FR md_mo_doWay__p S T1) (v1 : Int) (v2 : Int) (v3 : Int) (v4 : Int), (-2147483648 ≤ v1 ∧ v1 ≤ 2147483647) → (-2147483648 ≤ v2 ∧ v2 ≤ 2147483647) → (-2147483648 ≤ v3 ∧ v3 ≤ 2147483647) → (0 ≤ v4 ∧ v4 ≤ 144) → (v1 = rnR S (Xi S 904 78) 12) → (v2 = rnR S (Xi S 904 74) 4) → (0 ≤ v4 ∧ v4 ≤ Xi S 904 51) → (Hid (∃ A : sS, OTR S A v3 (Xi S 904 71) 1 ∧ FR lOT S A ∧ T1 = uI A 904 60 (Int32.ofInt v3))) → (Hid (NWY S v2 v1 v4)) → (Hid (SWR S T1)) → (Xi T1 904 51 = Xi S 904 51) → (Xi T1 904 106 = 0) → (Xi T1 904 71 = Xi S 904 71) → Pl n39 lay0 (d + 5) m_mo_doWay 39 [(0, .ref 904), (1, iv v1), (2, iv v2), (3, iv v3), (4, iv v4)] [] T1 (Q_mo_doWay__p S) := by
    intro n39
    induction n39 with
    | zero => intros; exact Pl_0
    | succ n39 ih39 =>
      intro hm39 T1 hHT1 hFT1 v1 v2 v3 v4 w9 w10 w11 w12 i1 i2 w13 E39 n39 w39 w14 w15 w16
      have w17 : Xi T1 904 16 = Xi S 904 16 := hFT1.x _ _ rfl
      have w18 : Xi T1 904 69 = Xi S 904 69 := hFT1.x _ _ rfl
      have w19 : Xi T1 904 71 = Xi S 904 71 := hFT1.x _ _ rfl
      have w20 : Xi T1 904 72 = Xi S 904 72 := hFT1.x _ _ rfl
      have w21 : Xi T1 904 74 = Xi S 904 74 := hFT1.x _ _ rfl
      have w22 : Xi T1 904 78 = Xi S 904 78 := hFT1.x _ _ rfl
      have w23 : -2147483648 ≤ Xi T1 904 106 ∧ Xi T1 904 106 ≤ 2147483647 := Xi_rgI
      have w24 : -2147483648 ≤ Xi T1 904 15 ∧ Xi T1 904 15 ≤ 2147483647 := Xi_rgI
      have w25 : -2147483648 ≤ Xi T1 904 51 ∧ Xi T1 904 51 ≤ 2147483647 := Xi_rgI
      have w26 : -2147483648 ≤ Xi T1 904 71 ∧ Xi T1 904 71 ≤ 2147483647 := Xi_rgI
      refine ys_iload rfl rfl ?_
      refine y_aload_n rfl rfl ?_
      refine y_gfi rfl rfl rfl rfl rfl ?_
      refine y_icmp_ge rfl rfl (by unfold rg; omega) (by unfold rg; omega) (fun w27 => ?_) (fun w28 => ?_)
      · refine y_aload_n rfl rfl ?_
        refine y_gfr rfl rfl rfl rfl rfl (hHT1.r 904 52 943 rfl) ?_
        refine y_aload_n rfl rfl ?_
        refine y_gfi rfl rfl rfl rfl rfl ?_
        refine y_iload_n rfl rfl ?_
        refine y_iastoreP (n := 200) rfl rfl (by unfold rg; omega) (fun w29 w30 => ?_)
        obtain ⟨U2, eU2⟩ : ∃ T : sS, T = uI T1 943 (((Xi T1 904 51)).toNat) (Int32.ofInt v2) := ⟨_, rfl⟩
        rw [← eU2]
        have hHU2 : RI U2 := by rw [eU2]; exact RI_w hHT1
        have hFU2 : FR md_mo_doWay__p S U2 := by rw [eU2]; exact FR.wI hFT1 (mdf_i (r := (943, 944, 0, 100000)) (List.mem_of_getElem? (i := 16) rfl) (inR_i (by omega) (by omega) (by omega) (by omega)))
        have w31 : Xi U2 943 (((Xi T1 904 51)).toNat) = v2 := by rw [eU2]; exact Xi_same (by unfold rg; omega)
        have ee111 := eU2
        refine y_aload_n rfl rfl ?_
        refine y_gfr rfl rfl rfl rfl rfl (hHU2.r 904 53 944 rfl) ?_
        refine y_aload_n rfl rfl ?_
        refine y_gfi rfl rfl rfl rfl rfl ?_
        have w32 : (Xi U2 904 51) = (Xi T1 904 51) := (show Xi U2 904 51 = Xi T1 904 51 from by rw [eU2]; exact Xi_ne (by omega))
        rw [w32]
        refine y_iload_n rfl rfl ?_
        refine y_iastoreP (n := 200) rfl rfl (by unfold rg; omega) (fun w33 w34 => ?_)
        obtain ⟨U3, eU3⟩ : ∃ T : sS, T = uI U2 944 (((Xi T1 904 51)).toNat) (Int32.ofInt v1) := ⟨_, rfl⟩
        rw [← eU3]
        have hHU3 : RI U3 := by rw [eU3]; exact RI_w hHU2
        have hFU3 : FR md_mo_doWay__p S U3 := by rw [eU3]; exact FR.wI hFU2 (mdf_i (r := (944, 945, 0, 100000)) (List.mem_of_getElem? (i := 17) rfl) (inR_i (by omega) (by omega) (by omega) (by omega)))
        have w35 : Xi U3 944 (((Xi T1 904 51)).toNat) = v1 := by rw [eU3]; exact Xi_same (by unfold rg; omega)
        have ee121 := eU3
        refine y_aload_n rfl rfl ?_
        refine y_gfr rfl rfl rfl rfl rfl (hHU3.r 904 54 945 rfl) ?_
        refine y_aload_n rfl rfl ?_
        refine y_gfi rfl rfl rfl rfl rfl ?_
        have w36 : (Xi U3 904 51) = (Xi T1 904 51) := (show Xi U3 904 51 = Xi U2 904 51 from by rw [eU3]; exact Xi_ne (by omega)).trans ((show Xi U2 904 51 = Xi T1 904 51 from by rw [eU2]; exact Xi_ne (by omega)))
        rw [w36]
        refine y_iload_n rfl rfl ?_
        refine y_iastoreP (n := 200) rfl rfl (by unfold rg; omega) (fun w37 w38 => ?_)
        obtain ⟨U4, eU4⟩ : ∃ T : sS, T = uI U3 945 (((Xi T1 904 51)).toNat) (Int32.ofInt v3) := ⟨_, rfl⟩
        rw [← eU4]
        have hHU4 : RI U4 := by rw [eU4]; exact RI_w hHU3
        have hFU4 : FR md_mo_doWay__p S U4 := by rw [eU4]; exact FR.wI hFU3 (mdf_i (r := (945, 946, 0, 100000)) (List.mem_of_getElem? (i := 18) rfl) (inR_i (by omega) (by omega) (by omega) (by omega)))
        have w39 : Xi U4 945 (((Xi T1 904 51)).toNat) = v3 := by rw [eU4]; exact Xi_same (by unfold rg; omega)
        have ee131 := eU4
        refine y_aload_n rfl rfl ?_
        refine y_dup rfl rfl ?_
        refine y_gfi rfl rfl rfl rfl rfl ?_
        have w40 : (Xi U4 904 51) = (Xi T1 904 51) := (show Xi U4 904 51 = Xi U3 904 51 from by rw [eU4]; exact Xi_ne (by omega)).trans ( (show Xi U3 904 51 = Xi U2 904 51 from by rw [eU3]; exact Xi_ne (by omega)).trans ((show Xi U2 904 51 = Xi T1 904 51 from by rw [eU2]; exact Xi_ne (by omega))))
        rw [w40]
        refine y_iconst rfl ?_
        refine y_iadd rfl ?_
        refine y_pfi rfl rfl rfl rfl ?_
        obtain ⟨U5, eU5⟩ : ∃ T : sS, T = uI U4 904 51 (Int32.ofInt ((Xi T1 904 51) + 1)) := ⟨_, rfl⟩
        rw [← eU5]
        have hHU5 : RI U5 := by rw [eU5]; exact RI_w hHU4
        have hFU5 : FR md_mo_doWay__p S U5 := by rw [eU5]; exact FR.wI hFU4 (mdf_i (r := (904, 905, 51, 52)) (List.mem_of_getElem? (i := 2) rfl) (inR_i (by omega) (by omega) (by omega) (by omega)))
        have w41 : Xi U5 904 51 = ((Xi T1 904 51) + 1) := by rw [eU5]; exact Xi_same (by unfold rg; omega)
        have R139 : U5 = uI (uI (uI (uI T1 943 (Xi S 904 51).toNat (Int32.ofInt (rnR S (Xi S 904 74) 4))) 944 (Xi S 904 51).toNat (Int32.ofInt (rnR S (Xi S 904 78) 12))) 945 (Xi S 904 51).toNat (Int32.ofInt v3)) 904 51 (Int32.ofInt (Xi S 904 51 + 1)) := by rw [eU5, ee131, ee121, ee111, show Xi T1 904 51 = Xi S 904 51 by omega, i1, i2]
        refine y_return rfl rfl ?_
        exact ⟨hHU5, hFU5, rfl, (by obtain ⟨A, a1, a3, a2⟩ := E39.o; first | (have t := K92; exact ⟨A, v3, a1, a3, Or.inl ⟨v4.toNat, by omega, x70.1, x70.2.1, fun q => absurd q (by rw [← x70.2.2]; omega), fun _ => W92⟩⟩) | (have t := K70; exact ⟨A, v3, a1, a3, Or.inl ⟨v4.toNat, by omega, x70.1, x70.2.1, fun _ => a2, fun q => absurd (by rw [← x70.2.2]; omega) q⟩⟩) | exact ⟨A, v3, a1, a3, Or.inr ⟨by have t := n39.o; rw [i1, i2, show v4 = Xi S 904 51 by omega] at t; exact t, by rw [R139, a2]⟩⟩)⟩
      · refine y_aload_n rfl rfl ?_
        refine y_gfr rfl rfl rfl rfl rfl (hHT1.r 904 52 943 rfl) ?_
        refine y_iload rfl rfl ?_
        refine y_ialoadP (n := 200) rfl rfl (by unfold rg; omega) (fun w45 w46 => ?_)
        have w47 : -2147483648 ≤ (Xi T1 943 ((v4).toNat)) ∧ (Xi T1 943 ((v4).toNat)) ≤ 2147483647 := Xi_rgI
        refine y_iload_n rfl rfl ?_
        refine y_icmp_ne rfl rfl (by unfold rg; omega) (by unfold rg; omega) (fun w48 => ?_) (fun w49 => ?_)
        · refine y_iinc rfl rfl rfl rfl ?_
          have n96 : Hid (NWY S v2 v1 (v4 + 1)) := fun k hk => by by_cases q : k = v4.toNat; (rw [q, ← w39.o.2 943 _ (by omega), ← w39.o.2 944 _ (by omega)]; omega); exact n39.o k (by omega)
          refine y_goto rfl rfl ?_
          exact Pl_weak (ih39 (by omega) T1 hHT1 hFT1 (v1) (v2) (v3) ((v4 + 1)) (by omega) (by omega) (by omega) (by omega) (by first | exact i1 | exact f7) (by first | exact i2 | exact f17) (by omega) (by first | exact E39 | exact ⟨_, o27_.o, F27, ee33⟩) (by first | exact n96 | exact fun k hk => absurd hk (by omega)) (by first | exact w39 | exact W33) (by omega) (by omega) (by omega)) (by omega) (And.intro rfl (And.intro rfl (And.intro rfl (And.intro rfl (And.intro rfl (True.intro))))))
        · refine y_aload_n rfl rfl ?_
          refine y_gfr rfl rfl rfl rfl rfl (hHT1.r 904 53 944 rfl) ?_
          refine y_iload rfl rfl ?_
          refine y_ialoadP (n := 200) rfl rfl (by unfold rg; omega) (fun w50 w51 => ?_)
          have w52 : -2147483648 ≤ (Xi T1 944 ((v4).toNat)) ∧ (Xi T1 944 ((v4).toNat)) ≤ 2147483647 := Xi_rgI
          refine y_iload_n rfl rfl ?_
          refine y_icmp_ne rfl rfl (by unfold rg; omega) (by unfold rg; omega) (fun w53 => ?_) (fun w54 => ?_)
          · refine y_iinc rfl rfl rfl rfl ?_
            have n96 : Hid (NWY S v2 v1 (v4 + 1)) := fun k hk => by by_cases q : k = v4.toNat; (rw [q, ← w39.o.2 943 _ (by omega), ← w39.o.2 944 _ (by omega)]; omega); exact n39.o k (by omega)
            refine y_goto rfl rfl ?_
            exact Pl_weak (ih39 (by omega) T1 hHT1 hFT1 (v1) (v2) (v3) ((v4 + 1)) (by omega) (by omega) (by omega) (by omega) (by first | exact i1 | exact f7) (by first | exact i2 | exact f17) (by omega) (by first | exact E39 | exact ⟨_, o27_.o, F27, ee33⟩) (by first | exact n96 | exact fun k hk => absurd hk (by omega)) (by first | exact w39 | exact W33) (by omega) (by omega) (by omega)) (by omega) (And.intro rfl (And.intro rfl (And.intro rfl (And.intro rfl (And.intro rfl (True.intro))))))
          · refine y_aload_n rfl rfl ?_
            have K70 : True := trivial
            refine y_gfr rfl rfl rfl rfl rfl (hHT1.r 904 54 945 rfl) ?_
            refine y_iload rfl rfl ?_
            refine y_ialoadP (n := 200) rfl rfl (by unfold rg; omega) (fun w55 w56 => ?_)
            have w57 : -2147483648 ≤ (Xi T1 945 ((v4).toNat)) ∧ (Xi T1 945 ((v4).toNat)) ≤ 2147483647 := Xi_rgI
            have x70 : Xi S 943 v4.toNat = rnR S (Xi S 904 74) 4 ∧ Xi S 944 v4.toNat = rnR S (Xi S 904 78) 12 ∧ (Xi T1 945 ((v4).toNat)) = Xi S 945 v4.toNat := ⟨by rw [← i2, ← w39.o.2 943 _ (by omega)]; omega, by rw [← i1, ← w39.o.2 944 _ (by omega)]; omega, w39.o.2 945 _ (by omega)⟩
            refine y_iload_n rfl rfl ?_
            refine y_icmp_eq rfl rfl (by unfold rg; omega) (by unfold rg; omega) (fun w58 => ?_) (fun w59 => ?_)
            · refine y_return rfl rfl ?_
              exact ⟨hHT1, hFT1, rfl, (by obtain ⟨A, a1, a3, a2⟩ := E39.o; first | (have t := K92; exact ⟨A, v3, a1, a3, Or.inl ⟨v4.toNat, by omega, x70.1, x70.2.1, fun q => absurd q (by rw [← x70.2.2]; omega), fun _ => W92⟩⟩) | (have t := K70; exact ⟨A, v3, a1, a3, Or.inl ⟨v4.toNat, by omega, x70.1, x70.2.1, fun _ => a2, fun q => absurd (by rw [← x70.2.2]; omega) q⟩⟩) | exact ⟨A, v3, a1, a3, Or.inr ⟨by have t := n39.o; rw [i1, i2, show v4 = Xi S 904 51 by omega] at t; exact t, by rw [R139, a2]⟩⟩)⟩
            · refine y_aload_n rfl rfl ?_
              refine y_iconst rfl ?_
              refine y_aload_n rfl rfl ?_
              refine y_gfr rfl rfl rfl rfl rfl (hHT1.r 904 67 950 rfl) ?_
              refine y_aload_n rfl rfl ?_
              refine y_gfi rfl rfl rfl rfl rfl ?_
              refine y_ialoadP (n := 2600) rfl rfl (by unfold rg; omega) (fun w60 w61 => ?_)
              have w62 : -2147483648 ≤ (Xi T1 950 (((Xi T1 904 71)).toNat)) ∧ (Xi T1 950 (((Xi T1 904 71)).toNat)) ≤ 2147483647 := Xi_rgI
              refine y_callV rfl rfl rfl (t_mo_wrong__p hHT1 5 (Xi T1 950 (((Xi T1 904 71)).toNat)) ⟨by omega, by omega⟩ ⟨by omega, by omega⟩ _) ?_
              rintro _ T6 ⟨hHT6, w64, rfl, w92, k92⟩
              have hFT6 : FR md_mo_doWay__p S T6 := FR.tr hFT1 w64 rfl
              show Pl _ _ _ _ _ _ [] _ _
              have K92 : True := trivial
              have W92 : NTB (NT3 T6) 5 (pR S (Xi S 904 71)) := by have t := w92 (by omega); rw [(hFT1.cx 908 rfl _).1, (hFT1.cx 950 rfl _).1, show Xi T1 904 71 = Xi S 904 71 by omega] at t; exact t
              refine y_return rfl rfl ?_
              have w66 : Xi T6 904 51 = Xi T1 904 51 := (show Xi T6 904 51 = Xi T1 904 51 from w64.x _ _ rfl)
              exact ⟨hHT6, hFT6, rfl, (by obtain ⟨A, a1, a3, a2⟩ := E39.o; first | (have t := K92; exact ⟨A, v3, a1, a3, Or.inl ⟨v4.toNat, by omega, x70.1, x70.2.1, fun q => absurd q (by rw [← x70.2.2]; omega), fun _ => W92⟩⟩) | (have t := K70; exact ⟨A, v3, a1, a3, Or.inl ⟨v4.toNat, by omega, x70.1, x70.2.1, fun _ => a2, fun q => absurd (by rw [← x70.2.2]; omega) q⟩⟩) | exact ⟨A, v3, a1, a3, Or.inr ⟨by have t := n39.o; rw [i1, i2, show v4 = Xi S 904 51 by omega] at t; exact t, by rw [R139, a2]⟩⟩)⟩
  refine y_aload_n rfl rfl ?_
  refine y_aload_n rfl rfl ?_
  refine y_gfi rfl rfl rfl rfl rfl ?_
  refine y_bipush rfl rfl ?_
  refine y_callV rfl rfl rfl (t_mo_meansRun__p hH (Xi S 904 78) 12 ⟨by omega, by omega⟩ ⟨by omega, by omega⟩ (by first | assumption | exact (by assumption : LSP S)) (by first | assumption | omega) (by first | assumption | exact (RBD_FR hF rfl (by assumption : RBD S))) _) ?_
  rintro _ _ ⟨rfl, z68, rfl, w68, f7⟩
  show Pl _ _ _ _ _ _ [iv z68] _ _
  refine y_istore_n rfl rfl rfl ?_
  refine y_aload_n rfl rfl ?_
  refine y_aload_n rfl rfl ?_
  refine y_gfi rfl rfl rfl rfl rfl ?_
  refine y_iconst rfl ?_
  refine y_callV rfl rfl rfl (t_mo_meansRun__p hH (Xi S 904 74) 4 ⟨by omega, by omega⟩ ⟨by omega, by omega⟩ (by first | assumption | exact (by assumption : LSP S)) (by first | assumption | omega) (by first | assumption | exact (RBD_FR hF rfl (by assumption : RBD S))) _) ?_
  rintro _ _ ⟨rfl, z69, rfl, w69, f17⟩
  show Pl _ _ _ _ _ _ [iv z69] _ _
  refine y_istore_n rfl rfl rfl ?_
  refine y_aload_n rfl rfl ?_
  refine y_aload_n rfl rfl ?_
  refine y_gfi rfl rfl rfl rfl rfl ?_
  refine y_iconst rfl ?_
  refine y_callV rfl rfl rfl (t_mo_objectTold__p hH (Xi S 904 71) 1 ⟨by omega, by omega⟩ ⟨by omega, by omega⟩ (by first | assumption | exact (by assumption : LSP S)) (by first | assumption | omega) (by first | assumption | exact (RBD_FR hF rfl (by assumption : RBD S))) (by first | assumption | omega) (by first | assumption | omega) _) ?_
  rintro _ T7 ⟨hHT7, w71, z70, rfl, w70, o27⟩
  have hFT7 : FR md_mo_doWay__p S T7 := FR.tr hF w71 rfl
  show Pl _ _ _ _ _ _ [iv z70] _ _
  have F27 := (by assumption : FR md_mo_objectTold__p S T7)
  have o27_ := Hid.i o27
  clear o27
  refine y_istore_n rfl rfl rfl ?_
  refine y_aload_n rfl rfl ?_
  refine y_iload_n rfl rfl ?_
  refine y_pfi rfl rfl rfl rfl ?_
  obtain ⟨U8, eU8⟩ : ∃ T : sS, T = uI T7 904 60 (Int32.ofInt z70) := ⟨_, rfl⟩
  rw [← eU8]
  have hHU8 : RI U8 := by rw [eU8]; exact RI_w hHT7
  have hFU8 : FR md_mo_doWay__p S U8 := by rw [eU8]; exact FR.wI hFT7 (mdf_i (r := (904, 905, 60, 61)) (List.mem_of_getElem? (i := 3) rfl) (inR_i (by omega) (by omega) (by omega) (by omega)))
  have w72 : Xi U8 904 60 = z70 := by rw [eU8]; exact Xi_same (by unfold rg; omega)
  have ee33 := eU8
  have W33 : Hid (SWR S U8) := ⟨by rw [eU8, Xi_ne (by omega), F27.x 904 51 rfl], fun k j hk => by rw [eU8, Xi_ne (by omega)]; rcases hk with h | h | h <;> rw [h] <;> first | exact (F27.cx 943 rfl j).1 | exact (F27.cx 944 rfl j).1 | exact (F27.cx 945 rfl j).1⟩
  refine y_iconst rfl ?_
  refine y_istore rfl rfl rfl ?_
  have w73 : Xi U8 904 106 = Xi S 904 106 := (show Xi U8 904 106 = Xi T7 904 106 from by rw [eU8]; exact Xi_ne (by omega)).trans ((show Xi T7 904 106 = Xi S 904 106 from w71.x _ _ rfl))
  have w74 : Xi U8 904 15 = Xi T7 904 15 := (show Xi U8 904 15 = Xi T7 904 15 from by rw [eU8]; exact Xi_ne (by omega))
  have w75 : Xi U8 904 51 = Xi S 904 51 := (show Xi U8 904 51 = Xi T7 904 51 from by rw [eU8]; exact Xi_ne (by omega)).trans ((show Xi T7 904 51 = Xi S 904 51 from w71.x _ _ rfl))
  have w76 : Xi U8 904 71 = Xi S 904 71 := (show Xi U8 904 71 = Xi T7 904 71 from by rw [eU8]; exact Xi_ne (by omega)).trans ((show Xi T7 904 71 = Xi S 904 71 from w71.x _ _ rfl))
  exact Pl_weak (C39 fu (by omega) U8 hHU8 hFU8 (z68) (z69) (z70) (0) (by omega) (by omega) (by omega) (by omega) (by first | exact i1 | exact f7) (by first | exact i2 | exact f17) (by omega) (by first | exact E39 | exact ⟨_, o27_.o, F27, ee33⟩) (by first | exact n96 | exact fun k hk => absurd hk (by omega)) (by first | exact w39 | exact W33) (by omega) (by omega) (by omega)) (by omega) (And.intro rfl (And.intro rfl (And.intro rfl (And.intro rfl (And.intro rfl (True.intro))))))
def md_mo_does__14 : List rec := [(904, 905, 15, 16), (904, 905, 16, 17), (904, 905, 18, 19), (904, 905, 19, 20), (904, 905, 23, 24), (904, 905, 30, 31), (904, 905, 32, 33), (904, 905, 41, 42), (904, 905, 47, 48), (904, 905, 49, 50), (904, 905, 51, 52), (904, 905, 55, 56), (904, 905, 60, 61), (904, 905, 64, 65), (904, 905, 73, 74), (904, 905, 105, 106), (904, 905, 106, 107), (904, 905, 113, 114), (904, 905, 117, 118), (912, 913, 0, 100000), (913, 914, 0, 100000), (914, 915, 0, 100000), (915, 916, 0, 100000), (916, 917, 0, 100000), (917, 918, 0, 100000), (918, 919, 0, 100000), (919, 920, 0, 100000), (920, 921, 0, 100000), (921, 922, 0, 100000), (922, 923, 0, 100000), (923, 924, 0, 100000), (924, 925, 0, 100000), (925, 926, 0, 100000), (926, 927, 0, 100000), (927, 928, 0, 100000), (928, 929, 0, 100000), (929, 930, 0, 100000), (930, 931, 0, 100000), (931, 932, 0, 100000), (932, 933, 0, 100000), (933, 934, 0, 100000), (934, 935, 0, 100000), (935, 936, 0, 100000), (936, 937, 0, 100000), (937, 938, 0, 100000), (938, 939, 0, 100000), (939, 940, 0, 100000), (940, 941, 0, 100000), (941, 942, 0, 100000), (942, 943, 0, 100000), (943, 944, 0, 100000), (944, 945, 0, 100000), (945, 946, 0, 100000), (946, 947, 0, 100000), (947, 948, 0, 100000), (948, 949, 0, 100000), (949, 950, 0, 100000)]
abbrev Q_mo_does__14 (S : sS) (first : Int) : pst := fun r S1 => RI S1 ∧ FR md_mo_does__14 S S1 ∧ (r = none ∧ (RD14 S S1))
set_option maxRecDepth 100000 in
theorem t_mo_does__14 {S : sS} (hH : RI S) (first : Int) (hfirst : 0 ≤ first ∧ first ≤ 5001) (hLS : LSP S) (h15 : 0 ≤ Xi S 904 15) (hRB : RBD S) (hrr : 0 ≤ Xi S 904 71 ∧ Xi S 904 71 ≤ 2600 ∧ -2 ≤ Xi S 904 78 ∧ Xi S 904 78 ≤ 2600 ∧ -1 ≤ Xi S 904 74 ∧ Xi S 904 74 ≤ 2600 ∧ 0 ≤ Xi S 904 72 ∧ Xi S 904 72 ≤ 2600) (hs : Xi S 904 70 = 14) (hz0 : Xi S 904 106 = 0) (ha : 0 ≤ Xi S 904 19 ∧ Xi S 904 19 ≤ 24) (hn : Hid (rnR S (Xi S 904 71) 4 = -1 → Xi S 904 19 ≤ 23)) (hw : 0 ≤ Xi S 904 51 ∧ Xi S 904 51 ≤ 144) (d : Nat) : Mp lay0 (d + 8) m_mo_does [.ref 904, iv first] S (Q_mo_does__14 S first) := by
  refine Mp_R rfl rfl (fun fu => ?_)
  have hF : FR md_mo_does__14 S S := FR.rf
  have w1 : -2147483648 ≤ Xi S 904 106 ∧ Xi S 904 106 ≤ 2147483647 := Xi_rgI
  have w2 : -2147483648 ≤ Xi S 904 15 ∧ Xi S 904 15 ≤ 2147483647 := Xi_rgI
  have w3 : -2147483648 ≤ Xi S 904 19 ∧ Xi S 904 19 ≤ 2147483647 := Xi_rgI
  have w4 : -2147483648 ≤ Xi S 904 51 ∧ Xi S 904 51 ≤ 2147483647 := Xi_rgI
  have w5 : -2147483648 ≤ Xi S 904 70 ∧ Xi S 904 70 ≤ 2147483647 := Xi_rgI
  have w6 : -2147483648 ≤ Xi S 904 71 ∧ Xi S 904 71 ≤ 2147483647 := Xi_rgI
  have w7 : -2147483648 ≤ Xi S 904 72 ∧ Xi S 904 72 ≤ 2147483647 := Xi_rgI
  have w8 : -2147483648 ≤ Xi S 904 74 ∧ Xi S 904 74 ≤ 2147483647 := Xi_rgI
  have w9 : -2147483648 ≤ Xi S 904 78 ∧ Xi S 904 78 ≤ 2147483647 := Xi_rgI
  have C300 : ∀ (n300 : Nat) (_ : n300 ≤ fu) (T1 : sS) (_ : RI T1) (_ : FR md_mo_does__14 S T1) (v2 : Int), (-2147483648 ≤ v2 ∧ v2 ≤ 2147483647) → ((1 : Int) = 0) → Pl n300 lay0 (d + 7) m_mo_does 300 [(0, .ref 904), (2, iv v2)] [] T1 (Q_mo_does__14 S first) := by
    intro n300
    induction n300 with
    | zero => intros; exact Pl_0
    | succ n300 ih300 =>
      intro hm300 T1 hHT1 hFT1 v2 w10 w11
      have w12 : Xi T1 904 110 = Xi S 904 110 := hFT1.x _ _ rfl
      have w13 : Xi T1 904 112 = Xi S 904 112 := hFT1.x _ _ rfl
      have w14 : Xi T1 904 142 = Xi S 904 142 := hFT1.x _ _ rfl
      have w15 : Xi T1 904 69 = Xi S 904 69 := hFT1.x _ _ rfl
      have w16 : Xi T1 904 70 = Xi S 904 70 := hFT1.x _ _ rfl
      have w17 : Xi T1 904 71 = Xi S 904 71 := hFT1.x _ _ rfl
      have w18 : Xi T1 904 72 = Xi S 904 72 := hFT1.x _ _ rfl
      have w19 : Xi T1 904 74 = Xi S 904 74 := hFT1.x _ _ rfl
      have w20 : Xi T1 904 78 = Xi S 904 78 := hFT1.x _ _ rfl
      have w21 : Xi T1 904 94 = Xi S 904 94 := hFT1.x _ _ rfl
      have w22 : Xi T1 951 1 = Xi S 951 1 := hFT1.x _ _ rfl
      have w23 : Xi T1 951 2 = Xi S 951 2 := hFT1.x _ _ rfl
      have w24 : Xi T1 967 0 = Xi S 967 0 := hFT1.x _ _ rfl
      have w25 : -2147483648 ≤ Xi T1 904 15 ∧ Xi T1 904 15 ≤ 2147483647 := Xi_rgI
      have w26 : -2147483648 ≤ Xi T1 904 70 ∧ Xi T1 904 70 ≤ 2147483647 := Xi_rgI
      exfalso; omega
  refine y_aload_n rfl rfl ?_
  refine y_gfi rfl rfl rfl rfl rfl ?_
  refine y_tsw rfl rfl rfl rfl (by unfold rg; omega) (fun w27 => ?_) (fun ii tt hii w27 => ?_)
  · refine y_return rfl rfl ?_
    exact ⟨hH, hF, rfl, (by first | (have t := K362; exact o362) | (exfalso; omega))⟩
  · match ii, hii with
    | 0, hii =>
      cases hii
      have w28 : (Xi S 904 70) = 0 := by simpa using w27
      exfalso; omega
    | 1, hii =>
      cases hii
      have w29 : (Xi S 904 70) = 1 := by simpa using w27
      exfalso; omega
    | 2, hii =>
      cases hii
      have w30 : (Xi S 904 70) = 2 := by simpa using w27
      exfalso; omega
    | 3, hii =>
      cases hii
      have w31 : (Xi S 904 70) = 3 := by simpa using w27
      refine y_return rfl rfl ?_
      exact ⟨hH, hF, rfl, (by first | (have t := K362; exact o362) | (exfalso; omega))⟩
    | 4, hii =>
      cases hii
      have w32 : (Xi S 904 70) = 4 := by simpa using w27
      refine y_return rfl rfl ?_
      exact ⟨hH, hF, rfl, (by first | (have t := K362; exact o362) | (exfalso; omega))⟩
    | 5, hii =>
      cases hii
      have w33 : (Xi S 904 70) = 5 := by simpa using w27
      refine y_return rfl rfl ?_
      exact ⟨hH, hF, rfl, (by first | (have t := K362; exact o362) | (exfalso; omega))⟩
    | 6, hii =>
      cases hii
      have w34 : (Xi S 904 70) = 6 := by simpa using w27
      refine y_return rfl rfl ?_
      exact ⟨hH, hF, rfl, (by first | (have t := K362; exact o362) | (exfalso; omega))⟩
    | 7, hii =>
      cases hii
      have w35 : (Xi S 904 70) = 7 := by simpa using w27
      exfalso; omega
    | 8, hii =>
      cases hii
      have w36 : (Xi S 904 70) = 8 := by simpa using w27
      exfalso; omega
    | 9, hii =>
      cases hii
      have w37 : (Xi S 904 70) = 9 := by simpa using w27
      exfalso; omega
    | 10, hii =>
      cases hii
      have w38 : (Xi S 904 70) = 10 := by simpa using w27
      exfalso; omega
    | 11, hii =>
      cases hii
      have w39 : (Xi S 904 70) = 11 := by simpa using w27
      exfalso; omega
    | 12, hii =>
      cases hii
      have w40 : (Xi S 904 70) = 12 := by simpa using w27
      exfalso; omega
    | 13, hii =>
      cases hii
      have w41 : (Xi S 904 70) = 13 := by simpa using w27
      exfalso; omega
    | 14, hii =>
      cases hii
      have w42 : (Xi S 904 70) = 14 := by simpa using w27
      refine y_aload_n rfl rfl ?_
      refine y_callV rfl rfl rfl (t_mo_doWay__p hH (by first | assumption | exact (by assumption : LSP S)) (by first | assumption | omega) (by first | assumption | exact (RBD_FR hF rfl (by assumption : RBD S))) (by first | assumption | omega) (by first | assumption | omega) (by first | assumption | omega) (by first | assumption | omega) (by first | assumption | omega) _) ?_
      rintro _ T2 ⟨hHT2, w44, rfl, o362⟩
      have hFT2 : FR md_mo_does__14 S T2 := FR.tr hF w44 rfl
      show Pl _ _ _ _ _ _ [] _ _
      have K362 : True := trivial
      refine y_goto rfl rfl ?_
      refine y_return rfl rfl ?_
      exact ⟨hHT2, hFT2, rfl, (by first | (have t := K362; exact o362) | (exfalso; omega))⟩
    | 15, hii =>
      cases hii
      have w46 : (Xi S 904 70) = 15 := by simpa using w27
      exfalso; omega
    | 16, hii =>
      cases hii
      have w47 : (Xi S 904 70) = 16 := by simpa using w27
      exfalso; omega
    | 17, hii =>
      cases hii
      have w48 : (Xi S 904 70) = 17 := by simpa using w27
      exfalso; omega
    | 18, hii =>
      cases hii
      have w49 : (Xi S 904 70) = 18 := by simpa using w27
      exfalso; omega
    | 19, hii =>
      cases hii
      have w50 : (Xi S 904 70) = 19 := by simpa using w27
      exfalso; omega
    | 20, hii =>
      cases hii
      have w51 : (Xi S 904 70) = 20 := by simpa using w27
      exfalso; omega
    | n + 21, hii => exact absurd hii (by simp)
end
