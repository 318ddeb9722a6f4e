/-! SAFETY: told sentences: ways, properties, contraries, actions, kinds -/
theorem tw_c {S T : sS} {r z : Int} {l : List rec} (h : FR l S T) (e : (kdis l kA && !(mdf l 1 3)) = true) (e2 : (kdis l [(877, 878)] && !(mdf l 876 7)) = true) (e5 : kdis l [(5, 6)] = true) (hn : z = 1 → mnV S r (ruF S r (Xi S 876 7)) = -1 → Xi T 891 9 = Xi S 891 9 + 1 ∧ Xi T 892 (Xi S 891 9).toNat = r ∧ Xi S 5 2 + Xi T 891 9 ≤ 24) (ho : z = 1 → mnV S r (ruF S r (Xi S 876 7)) ≠ -1 → mnV S r (ruF S r (Xi S 876 7)) / 256 = 2 ∧ Xi T 891 9 = Xi S 891 9) (h0 : 0 ≤ Xi S 891 9) (hz : z = 1) (hf : fob T r = -1) : Xi T 5 2 < 24 := by
  rw [fob_FR h e e2] at hf
  rw [(h.smk e5).x 5 rfl]
  by_cases q : mnV S r (ruF S r (Xi S 876 7)) = -1
  · have t := hn hz q
    omega
  · have t := (ho hz q).1
    unfold fob fnd at hf
    rw [if_pos t] at hf
    omega
theorem WI_on {S T : sS} {r : Int} (hH : HI S) (h : FR md_re_objectOrNew S T) (hL : LEX T) (hc : fob S r = -1 → Xi T 5 2 = Xi S 5 2 + 1) (hn : fob S r ≠ -1 → Xi T 5 2 = Xi S 5 2) (ho : ∀ j, j ≠ 2 → Xi T 5 j = Xi S 5 j) (hW : WI S) : WI T :=
  WI_g hH h rfl rfl rfl rfl rfl hL (fun j => by
    by_cases e : j = 2
    · rw [e]
      by_cases q : fob S r = -1
      · rw [hc q]; omega
      · rw [hn q]; exact Int.le_refl _
    · rw [ho j e]; exact Int.le_refl _) (ho 3 (by decide)) (VAL_fr h rfl (ho 4 (by decide)) hW.2.2.2.2.2.2.2) hW
theorem WI_can {l : List rec} {S T : sS} {n : Int} (hH : HI S) (h : FR l S T) (e3 : (kdis l kX && !(mdf l 20 1)) = true) (e4 : (kdis l kG && (!(mdf l 20 1) && (!(mdf l 246 8) && !(mdf l 246 5)))) = true) (e5 : kdis l [(12, 14)] = true) (e6 : (kdis l [(248, 272)] && !(mdf l 246 2)) = true) (e7 : (kdis l [(883, 884), (885, 887), (19, 20)] && !(mdf l 882 3)) = true) (e8 : kdis l [(8, 9)] = true) (hL : LEX T) (ho : ∀ j, j ≠ 3 → Xi T 5 j = Xi S 5 j) (h3 : Xi T 5 3 = Xi S 5 3 + 2) (hn : n = Xi S 5 3) (h11 : ∀ a : Nat, a ≠ n.toNat → a ≠ (n + 1).toNat → Xi T 11 a = Xi S 11 a) (hn1 : Xi T 11 n.toNat ≠ -1) (hn2 : Xi T 11 (n + 1).toNat ≠ -1) (hW : WI S) : WI T := by
  obtain ⟨w1, w2, w3, w4, w5, w6, w7, w8⟩ := hW
  have h5 : ∀ j, Xi S 5 j ≤ Xi T 5 j := fun j => by
    by_cases e : j = 3
    · rw [e, h3]; omega
    · rw [ho j e]; exact Int.le_refl _
  have g := FR_sG hH h e4 (h5 3) (h5 8)
  have k5 := h.smk e5
  simp only [Bool.and_eq_true, Bool.not_eq_true'] at e6 e7 e4
  have k6 := h.smk e6.1
  have k7 := h.smk e7.1
  have h24 : 0 ≤ Xi S 246 2 ∧ Xi S 246 2 ≤ 24 := hH.c _ _
  have h53 : 0 ≤ Xi S 5 3 ∧ Xi S 5 3 ≤ 24 := hH.c _ _
  refine ⟨hL, TX_FR h e3 w2, DEF_sG hH g (fun a ha => ⟨h11 a (by omega) (by omega), k5.x 12 rfl a, k5.x 13 rfl a⟩) (fun a h1 h2 => ?_) w3, RUL_sG hH g (fun i hi j => k6.x _ (inK_i (a := 248) (b := 272) (by decide) (by omega) (by omega)) j) (h.x 246 2 e6.2) w4, ?_, ?_, ?_, VAL_fr h e8 (ho 4 (by decide)) w8⟩
  · have e : a = n.toNat ∨ a = (n + 1).toNat := by omega
    rcases e with e | e <;> (rw [e]; assumption)
  · intro i hi
    rw [h.x 882 3 e7.2] at hi
    rw [k7.x 883 rfl, k7.x 885 rfl, k7.x 886 rfl, k7.x 19 rfl, ho 8 (by decide)]
    exact w5 i hi
  · obtain ⟨a, b⟩ := w6
    refine ⟨by rw [ho 8 (by decide)]; exact a, ?_⟩
    simp only [k7.x 19 rfl]
    exact b
  · unfold CC at *
    rw [h.x 246 5 e4.2.2.2, h.x 246 2 e6.2, h3]
    omega
/-! SAFETY of methods: printed by wip/safe (vc.py, decl.py) -/
def md_vo_makeContrary__2 : List rec := [(10, 11, 0, 100000), (11, 12, 0, 100000)]
abbrev Q_vo_makeContrary__2 (S : sS) (first : Int) (kind : Int) : pst := fun r S1 => HI S1 ∧ FR md_vo_makeContrary__2 S S1 ∧ (r = none ∧ (Xi S1 11 first.toNat = first + 1 ∧ Xi S1 11 (first + 1).toNat = first) ∧ (∀ a : Nat, a ≠ first.toNat → a ≠ (first + 1).toNat → Xi S1 11 a = Xi S 11 a))
set_option maxRecDepth 100000 in
theorem t_vo_makeContrary__2 {S : sS} (hH : HI S) (first : Int) (kind : Int) (hfirst : 0 ≤ first ∧ first ≤ 22) (hkind : 0 ≤ kind ∧ kind ≤ 15) (d : Nat) : Mt lay0 (d + 1) m_vo_makeContrary [.ref 1, iv first, iv kind] S (Q_vo_makeContrary__2 S first kind) := by
  refine Mt_R rfl rfl ?_
  have hF : FR md_vo_makeContrary__2 S S := FR.rf
  refine l_aload_n rfl rfl ?_
  refine l_gfr rfl rfl rfl rfl rfl (hH.r 1 9 10 rfl) ?_
  refine l_iload_n rfl rfl ?_
  refine l_iload_n rfl rfl ?_
  refine l_iastore (n := 24) rfl rfl (by omega) (by omega) (by unfold rg; omega) ?_
  obtain ⟨U1, eU1⟩ : ∃ T : sS, T = uI S 10 ((first).toNat) (Int32.ofInt kind) := ⟨_, rfl⟩
  rw [← eU1]
  have hHU1 : HI U1 := by rw [eU1]; exact HI_w hH (show 0 ≤ kind by omega) (show kind ≤ 15 by omega)
  have hFU1 : FR md_vo_makeContrary__2 S U1 := by rw [eU1]; exact FR.wI hF (mdf_i (r := (10, 11, 0, 100000)) (List.mem_of_getElem? (i := 0) rfl) (inR_i (by omega) (by omega) (by omega) (by omega)))
  have w1 : Xi U1 10 ((first).toNat) = kind := by rw [eU1]; exact Xi_same (by unfold rg; omega)
  refine l_aload_n rfl rfl ?_
  refine l_gfr rfl rfl rfl rfl rfl (hHU1.r 1 9 10 rfl) ?_
  refine l_iload_n rfl rfl ?_
  refine l_iconst rfl ?_
  refine l_iadd rfl ?_
  refine l_iload_n rfl rfl ?_
  refine l_iastore (n := 24) rfl rfl (by omega) (by omega) (by unfold rg; omega) ?_
  obtain ⟨U2, eU2⟩ : ∃ T : sS, T = uI U1 10 (((first + 1)).toNat) (Int32.ofInt kind) := ⟨_, rfl⟩
  rw [← eU2]
  have hHU2 : HI U2 := by rw [eU2]; exact HI_w hHU1 (show 0 ≤ kind by omega) (show kind ≤ 15 by omega)
  have hFU2 : FR md_vo_makeContrary__2 S U2 := by rw [eU2]; exact FR.wI hFU1 (mdf_i (r := (10, 11, 0, 100000)) (List.mem_of_getElem? (i := 0) rfl) (inR_i (by omega) (by omega) (by omega) (by omega)))
  have w2 : Xi U2 10 (((first + 1)).toNat) = kind := by rw [eU2]; exact Xi_same (by unfold rg; omega)
  refine l_aload_n rfl rfl ?_
  refine l_gfr rfl rfl rfl rfl rfl (hHU2.r 1 10 11 rfl) ?_
  refine l_iload_n rfl rfl ?_
  refine l_iload_n rfl rfl ?_
  refine l_iconst rfl ?_
  refine l_iadd rfl ?_
  refine l_iastore (n := 24) rfl rfl (by omega) (by omega) (by unfold rg; omega) ?_
  obtain ⟨U3, eU3⟩ : ∃ T : sS, T = uI U2 11 ((first).toNat) (Int32.ofInt (first + 1)) := ⟨_, rfl⟩
  rw [← eU3]
  have hHU3 : HI U3 := by rw [eU3]; exact HI_w hHU2 (show -1 ≤ (first + 1) by omega) (show (first + 1) ≤ 23 by omega)
  have hFU3 : FR md_vo_makeContrary__2 S U3 := by rw [eU3]; exact FR.wI hFU2 (mdf_i (r := (11, 12, 0, 100000)) (List.mem_of_getElem? (i := 1) rfl) (inR_i (by omega) (by omega) (by omega) (by omega)))
  have w3 : Xi U3 11 ((first).toNat) = (first + 1) := by rw [eU3]; exact Xi_same (by unfold rg; omega)
  refine l_aload_n rfl rfl ?_
  refine l_gfr rfl rfl rfl rfl rfl (hHU3.r 1 10 11 rfl) ?_
  refine l_iload_n rfl rfl ?_
  refine l_iconst rfl ?_
  refine l_iadd rfl ?_
  refine l_iload_n rfl rfl ?_
  refine l_iastore (n := 24) rfl rfl (by omega) (by omega) (by unfold rg; omega) ?_
  obtain ⟨U4, eU4⟩ : ∃ T : sS, T = uI U3 11 (((first + 1)).toNat) (Int32.ofInt first) := ⟨_, rfl⟩
  rw [← eU4]
  have hHU4 : HI U4 := by rw [eU4]; exact HI_w hHU3 (show -1 ≤ first by omega) (show first ≤ 23 by omega)
  have hFU4 : FR md_vo_makeContrary__2 S U4 := by rw [eU4]; exact FR.wI hFU3 (mdf_i (r := (11, 12, 0, 100000)) (List.mem_of_getElem? (i := 1) rfl) (inR_i (by omega) (by omega) (by omega) (by omega)))
  have w4 : Xi U4 11 (((first + 1)).toNat) = first := by rw [eU4]; exact Xi_same (by unfold rg; omega)
  refine l_return rfl rfl ?_
  exact ⟨hHU4, hFU4, rfl, (⟨by rw [eU4, Xi_ne (by omega)]; omega, by omega⟩), (fun a h1 h2 => by rw [eU4, Xi_ne (by omega), eU3, Xi_ne (by omega), eU2, Xi_ne (by omega), eU1, Xi_ne (by omega)])⟩
def md_re_takeObjectOrNew__2 : List rec := [(876, 877, 8, 9), (876, 877, 9, 10), (891, 892, 9, 10), (892, 893, 0, 100000), (893, 894, 0, 100000)]
abbrev Q_re_takeObjectOrNew__2 (S : sS) (from_ : Int) (kind : Int) : pst := fun r S1 => HI S1 ∧ FR md_re_takeObjectOrNew__2 S S1 ∧ (∃ z : Int, r = some (iv z) ∧ (0 ≤ z ∧ z ≤ 1) ∧ (Xi S 891 9 ≤ Xi S1 891 9) ∧ (z = 0 → Xi S1 876 8 ≠ 0) ∧ (z = 1 → mnV S from_ (ruF S from_ (Xi S 876 7)) = -1 → Xi S1 891 9 = Xi S 891 9 + 1 ∧ Xi S1 892 (Xi S 891 9).toNat = from_ ∧ Xi S 5 2 + Xi S1 891 9 ≤ 24) ∧ (z = 1 → mnV S from_ (ruF S from_ (Xi S 876 7)) ≠ -1 → mnV S from_ (ruF S from_ (Xi S 876 7)) / 256 = 2 ∧ Xi S1 891 9 = Xi S 891 9) ∧ (∀ j : Nat, (j : Int) < Xi S 891 9 → Xi S1 892 j = Xi S 892 j))
set_option maxRecDepth 100000 in
theorem t_re_takeObjectOrNew__2 {S : sS} (hH : HI S) (from_ : Int) (kind : Int) (hfrom_ : 0 ≤ from_ ∧ from_ ≤ 5129) (hkind : -1 ≤ kind ∧ kind ≤ 15) (hL : LEX S) (d : Nat) : Mt lay0 (d + 3) m_re_takeObjectOrNew [.ref 891, iv from_, iv kind] S (Q_re_takeObjectOrNew__2 S from_ kind) := by
  refine Mt_R rfl rfl ?_
  have hF : FR md_re_takeObjectOrNew__2 S S := FR.rf
  have w1 : 0 ≤ Xi S 5 2 ∧ Xi S 5 2 ≤ 24 := hH.c _ _
  have w2 : 0 ≤ Xi S 876 7 ∧ Xi S 876 7 ≤ 5125 := hH.c _ _
  have w3 : 0 ≤ Xi S 891 9 ∧ Xi S 891 9 ≤ 24 := hH.c _ _
  have C81 : Rl lay0 (d + 2) m_re_takeObjectOrNew 81 [(0, .ref 891), (1, iv from_)] [] S (Q_re_takeObjectOrNew__2 S from_ kind) := by
    refine l_aload_n rfl rfl ?_
    refine l_gfr rfl rfl rfl rfl rfl (hH.r 891 0 876 rfl) ?_
    refine l_iconst rfl ?_
    refine l_iload_n rfl rfl ?_
    refine l_callV rfl rfl rfl (t_to_wrong hH 4 from_ ⟨by omega, by omega⟩ ⟨by omega, by omega⟩ _) ?_
    rintro _ T1 ⟨hHT1, w7, z6, rfl, w6, w4, w5⟩
    have hFT1 : FR md_re_takeObjectOrNew__2 S T1 := FR.tr hF w7 rfl
    show Rl _ _ _ _ _ [iv z6] _ _
    refine l_if_eq rfl rfl (by unfold rg; omega) (fun w8 => ?_) (fun w9 => ?_)
    · refine l_iconst rfl ?_
      refine l_ireturn rfl rfl ?_
      have w10 : 0 ≤ Xi T1 876 8 ∧ Xi T1 876 8 ≤ 9 := hHT1.c _ _
      have w11 : Xi T1 891 9 = Xi S 891 9 := (show Xi T1 891 9 = Xi S 891 9 from w7.x _ _ rfl)
      exact ⟨hHT1, hFT1, _, rfl, ⟨by omega, by omega⟩, (by omega), (by omega), (by omega), (by omega), (by first | exact fun j hj => ((by assumption : ∀ j : Nat, (j : Int) < Xi S 891 9 → Xi T1 892 j = Xi S 892 j ∧ Xi T1 893 j = Xi S 893 j) j hj).1 | exact fun j _ => ((by assumption : FR md_to_wrong S T1).cx 892 rfl j).1 | exact fun j _ => rfl)⟩
    · refine l_iconst rfl ?_
      refine l_goto rfl rfl ?_
      refine l_ireturn rfl rfl ?_
      have w13 : 0 ≤ Xi T1 876 8 ∧ Xi T1 876 8 ≤ 9 := hHT1.c _ _
      have w14 : Xi T1 891 9 = Xi S 891 9 := (show Xi T1 891 9 = Xi S 891 9 from w7.x _ _ rfl)
      exact ⟨hHT1, hFT1, _, rfl, ⟨by omega, by omega⟩, (by omega), (by omega), (by omega), (by omega), (by first | exact fun j hj => ((by assumption : ∀ j : Nat, (j : Int) < Xi S 891 9 → Xi T1 892 j = Xi S 892 j ∧ Xi T1 893 j = Xi S 893 j) j hj).1 | exact fun j _ => ((by assumption : FR md_to_wrong S T1).cx 892 rfl j).1 | exact fun j _ => rfl)⟩
  refine l_aload_n rfl rfl ?_
  refine l_gfr rfl rfl rfl rfl rfl (hH.r 891 0 876 rfl) ?_
  refine l_iload_n rfl rfl ?_
  refine l_callV rfl rfl rfl (t_to_runEnd hH from_ ⟨by omega, by omega⟩ _) ?_
  rintro _ _ ⟨rfl, z24, rfl, w24, w17, w18, w19, w20, w21, w22, w23⟩
  clear w19 w20 w21 w22
  show Rl _ _ _ _ _ [iv z24] _ _
  refine l_istore_n rfl rfl rfl ?_
  refine l_aload_n rfl rfl ?_
  refine l_gfr rfl rfl rfl rfl rfl (hH.r 891 2 1 rfl) ?_
  refine l_aload_n rfl rfl ?_
  refine l_gfr rfl rfl rfl rfl rfl (hH.r 891 0 876 rfl) ?_
  refine l_gfr rfl rfl rfl rfl rfl (hH.r 876 2 879 rfl) ?_
  refine l_iload_n rfl rfl ?_
  refine l_iload_n rfl rfl ?_
  refine l_callV rfl rfl rfl (t_vo_meaning hH 879 5130 from_ z24 rfl ⟨by omega, by omega⟩ ⟨by omega, by omega⟩ ⟨by omega, by omega⟩ (by first | assumption | exact (LEX_FR hF rfl rfl (by assumption : LEX S))) _) ?_
  rintro _ _ ⟨rfl, z28, rfl, w28, w25, w26, w27⟩
  show Rl _ _ _ _ _ [iv z28] _ _
  have hmnz28 := mOK_n (z := z28) (by assumption)
  have hmv : mnV S from_ (ruF S from_ (Xi S 876 7)) = z28 := by have t := mnV_of (S := S) (a := from_) (b := z24) (z := z28) (by assumption) (by assumption); rw [show z24 = ruF S from_ (Xi S 876 7) by omega] at t; exact t
  refine l_istore rfl rfl rfl ?_
  refine l_iload rfl rfl ?_
  refine l_iconst rfl ?_
  refine l_icmp_ne rfl rfl (by unfold rg; omega) (by unfold rg; omega) (fun w29 => ?_) (fun w30 => ?_)
  · refine l_iload rfl rfl ?_
    refine l_bipush rfl rfl ?_
    refine l_ishr8 rfl (by unfold rg; omega) ?_
    refine l_iconst rfl ?_
    refine l_icmp_ne rfl rfl (by unfold rg; omega) (by unfold rg; omega) (fun w32 => ?_) (fun w33 => ?_)
    · exact Rl_weak (C81  ) (And.intro rfl (And.intro rfl (True.intro)))
    · refine l_iload_n rfl rfl ?_
      refine l_iconst rfl ?_
      refine l_icmp_eq rfl rfl (by unfold rg; omega) (by unfold rg; omega) (fun w34 => ?_) (fun w35 => ?_)
      · refine l_iconst rfl ?_
        refine l_goto rfl rfl ?_
        refine l_ireturn rfl rfl ?_
        have w36 : 0 ≤ Xi S 876 8 ∧ Xi S 876 8 ≤ 9 := hH.c _ _
        exact ⟨hH, hF, _, rfl, ⟨by omega, by omega⟩, (by omega), (by omega), (by omega), (by omega), (by first | exact fun j hj => ((by assumption : ∀ j : Nat, (j : Int) < Xi S 891 9 → Xi S 892 j = Xi S 892 j ∧ Xi S 893 j = Xi S 893 j) j hj).1 | exact fun j _ => ((by assumption : FR md_to_wrong S S).cx 892 rfl j).1 | exact fun j _ => rfl)⟩
      · refine l_aload_n rfl rfl ?_
        refine l_gfr rfl rfl rfl rfl rfl (hH.r 891 3 20 rfl) ?_
        refine l_iload rfl rfl ?_
        refine l_sipush rfl rfl ?_
        refine l_iand255 rfl (by unfold rg; omega) ?_
        have w39 := fb2 hH (lx (z := z28) (by assumption) (by omega) (by omega))
        refine l_iload_n rfl rfl ?_
        refine l_callV rfl rfl rfl (t_wo_isA hH (z28 % 256) kind ⟨by omega, by omega⟩ ⟨by omega, by omega⟩ _) ?_
        rintro _ _ ⟨rfl, z41, rfl, w41, w40⟩
        show Rl _ _ _ _ _ [iv z41] _ _
        refine l_if_ne rfl rfl (by unfold rg; omega) (fun w42 => ?_) (fun w43 => ?_)
        · refine l_iconst rfl ?_
          refine l_goto rfl rfl ?_
          refine l_ireturn rfl rfl ?_
          have w44 : 0 ≤ Xi S 876 8 ∧ Xi S 876 8 ≤ 9 := hH.c _ _
          exact ⟨hH, hF, _, rfl, ⟨by omega, by omega⟩, (by omega), (by omega), (by omega), (by omega), (by first | exact fun j hj => ((by assumption : ∀ j : Nat, (j : Int) < Xi S 891 9 → Xi S 892 j = Xi S 892 j ∧ Xi S 893 j = Xi S 893 j) j hj).1 | exact fun j _ => ((by assumption : FR md_to_wrong S S).cx 892 rfl j).1 | exact fun j _ => rfl)⟩
        · exact Rl_weak (C81  ) (And.intro rfl (And.intro rfl (True.intro)))
  · refine l_aload_n rfl rfl ?_
    refine l_iload_n rfl rfl ?_
    refine l_iload_n rfl rfl ?_
    refine l_aload_n rfl rfl ?_
    refine l_gfr rfl rfl rfl rfl rfl (hH.r 891 2 1 rfl) ?_
    refine l_iconst rfl ?_
    refine l_callV rfl rfl rfl (t_vo_countOf hH 2 ⟨by omega, by omega⟩ _) ?_
    rintro _ _ ⟨rfl, z49, rfl, w49, w46, w47, w48⟩
    have w50 : z49 = Xi S 5 2 ∧ 0 ≤ Xi S 5 2 ∧ Xi S 5 2 ≤ 24 := ⟨(w46 (by omega) (by omega)).1, hH.c 5 2⟩
    clear w46 w47 w48
    show Rl _ _ _ _ _ [iv z49, iv z24, iv from_, .ref 891] _ _
    refine l_bipush rfl rfl ?_
    refine l_callV rfl rfl rfl (t_re_takeNew hH from_ z24 z49 24 ⟨by omega, by omega⟩ ⟨by omega, by omega⟩ ⟨by omega, by omega⟩ ⟨by omega, by omega⟩ (by first | assumption | exact (LEX_FR hF rfl rfl (by assumption : LEX S))) _) ?_
    rintro _ T2 ⟨hHT2, w58, z57, rfl, w57, w52, w53, w54, w55, w56⟩
    have hFT2 : FR md_re_takeObjectOrNew__2 S T2 := FR.tr hF w58 rfl
    show Rl _ _ _ _ _ [iv z57] _ _
    refine l_ireturn rfl (retI_z (by omega)) ?_
    have w59 : 0 ≤ Xi T2 876 8 ∧ Xi T2 876 8 ≤ 9 := hHT2.c _ _
    have w60 : 0 ≤ Xi T2 891 9 ∧ Xi T2 891 9 ≤ 24 := hHT2.c _ _
    exact ⟨hHT2, hFT2, _, rfl, ⟨by omega, by omega⟩, (by omega), (by omega), (by omega), (by omega), (by first | exact fun j hj => ((by assumption : ∀ j : Nat, (j : Int) < Xi S 891 9 → Xi T2 892 j = Xi S 892 j ∧ Xi T2 893 j = Xi S 893 j) j hj).1 | exact fun j _ => ((by assumption : FR md_to_wrong S T2).cx 892 rfl j).1 | exact fun j _ => rfl)⟩
def md_re_tellWay : List rec := [(1, 2, 3, 4), (2, 3, 0, 100000), (3, 4, 0, 100000), (4, 5, 0, 100000), (5, 6, 0, 100000), (20, 21, 12, 13), (21, 22, 0, 100000), (22, 23, 0, 100000), (23, 24, 0, 100000), (196, 220, 0, 100000), (221, 245, 0, 100000), (876, 877, 8, 9), (876, 877, 9, 10), (891, 892, 9, 10), (891, 892, 10, 11), (892, 893, 0, 100000), (893, 894, 0, 100000)]
abbrev Q_re_tellWay (S : sS) : pst := fun r S1 => HI S1 ∧ FR md_re_tellWay S S1 ∧ (∃ z : Int, r = some (iv z) ∧ (0 ≤ z ∧ z ≤ 1) ∧ (z = 1 → WI S1) ∧ (z = 0 → Xi S1 876 8 ≠ 0))
set_option maxRecDepth 100000 in
theorem t_re_tellWay {S : sS} (hH : HI S) (hW : WI S) (hn0 : Xi S 891 9 = 0) (d : Nat) : Mt lay0 (d + 5) m_re_tellWay [.ref 891] S (Q_re_tellWay S) := by
  refine Mt_R rfl rfl ?_
  have hF : FR md_re_tellWay S S := FR.rf
  have w1 : 0 ≤ Xi S 891 9 ∧ Xi S 891 9 ≤ 24 := hH.c _ _
  have hL := hW.1
  have hX := hW.2.1
  refine l_aload_n rfl rfl ?_
  refine l_gfr rfl rfl rfl rfl rfl (hH.r 891 1 890 rfl) ?_
  refine l_gfi rfl rfl rfl rfl rfl ?_
  have w2 : -1 ≤ (Xi S 890 3) ∧ (Xi S 890 3) ≤ 5124 := hH.c _ _
  refine l_istore_n rfl rfl rfl ?_
  refine l_aload_n rfl rfl ?_
  refine l_gfr rfl rfl rfl rfl rfl (hH.r 891 0 876 rfl) ?_
  refine l_iconst rfl ?_
  have w3 : 0 ≤ Xi S 876 7 ∧ Xi S 876 7 ≤ 5125 := hH.c _ _
  refine l_callV rfl rfl rfl (t_to_behindArt hH 0 ⟨by omega, by omega⟩ _) ?_
  rintro _ _ ⟨rfl, z5, rfl, w5, w4⟩
  show Rl _ _ _ _ _ [iv z5] _ _
  refine l_istore_n rfl rfl rfl ?_
  refine l_aload_n rfl rfl ?_
  refine l_iload_n rfl rfl ?_
  refine l_iconst rfl ?_
  have w6 : 0 ≤ Xi S 5 2 ∧ Xi S 5 2 ≤ 24 := hH.c _ _
  refine l_callV rfl rfl rfl (t_re_takeObjectOrNew__2 hH z5 1 ⟨by omega, by omega⟩ ⟨by omega, by omega⟩ (by first | assumption | exact (by first | assumption | exact (by assumption : WI S).1 : LEX S)) _) ?_
  rintro _ T1 ⟨hHT1, w15, z14, rfl, w14, w9, w10, w11, w12, w13⟩
  have hFT1 : FR md_re_tellWay S T1 := FR.tr hF w15 rfl
  show Rl _ _ _ _ _ [iv z14] _ _
  have hcw : z14 = 1 → fob T1 z5 = -1 → Xi T1 5 2 < 24 := fun q1 q2 => tw_c (z := z14) (by assumption : FR md_re_takeObjectOrNew__2 S T1) rfl rfl rfl (by assumption) (by assumption) (by omega) q1 q2
  refine l_if_ne rfl rfl (by unfold rg; omega) (fun w16 => ?_) (fun w17 => ?_)
  · refine l_aload_n rfl rfl ?_
    refine l_callV rfl rfl rfl (t_re_secondName hHT1 _) ?_
    rintro _ _ ⟨rfl, z18, rfl, w18⟩
    show Rl _ _ _ _ _ [iv z18] _ _
    refine l_iconst rfl ?_
    refine l_icmp_eq rfl rfl (by unfold rg; omega) (by unfold rg; omega) (fun w19 => ?_) (fun w20 => ?_)
    · refine l_aload_n rfl rfl ?_
      refine l_gfr rfl rfl rfl rfl rfl (hHT1.r 891 0 876 rfl) ?_
      refine l_iload_n rfl rfl ?_
      refine l_iconst rfl ?_
      refine l_iadd rfl ?_
      have w21 : Xi T1 876 7 = Xi S 876 7 := (show Xi T1 876 7 = Xi S 876 7 from w15.x _ _ rfl)
      refine l_callV rfl rfl rfl (t_to_runEnd hHT1 ((Xi S 890 3) + 1) ⟨by omega, by omega⟩ _) ?_
      rintro _ _ ⟨rfl, z30, rfl, w30, w23, w24, w25, w26, w27, w28, w29⟩
      clear w25 w26 w27 w28
      show Rl _ _ _ _ _ [iv z30] _ _
      refine l_istore_n rfl rfl rfl ?_
      refine l_aload_n rfl rfl ?_
      refine l_gfr rfl rfl rfl rfl rfl (hHT1.r 891 4 895 rfl) ?_
      refine l_bipush rfl rfl ?_
      refine l_iload_n rfl rfl ?_
      refine l_iconst rfl ?_
      refine l_iadd rfl ?_
      refine l_iload_n rfl rfl ?_
      refine l_callV rfl rfl rfl (t_me_find hHT1 14 ((Xi S 890 3) + 1) z30 ⟨by omega, by omega⟩ ⟨by omega, by omega⟩ ⟨by omega, by omega⟩ (by first | assumption | exact (LEX_FR w15 rfl rfl (by first | assumption | exact (by assumption : WI S).1 : LEX S))) _) ?_
      rintro _ _ ⟨rfl, z34, rfl, w34, w31, w32, w33⟩
      have w35 : z34 ≠ -1 → _ := fun h => fb14 hHT1 (w31 h)
      clear w32
      show Rl _ _ _ _ _ [iv z34] _ _
      refine l_istore rfl rfl rfl ?_
      refine l_iload rfl rfl ?_
      refine l_iconst rfl ?_
      refine l_icmp_ne rfl rfl (by unfold rg; omega) (by unfold rg; omega) (fun w36 => ?_) (fun w37 => ?_)
      · refine l_aload_n rfl rfl ?_
        refine l_gfr rfl rfl rfl rfl rfl (hHT1.r 891 0 876 rfl) ?_
        refine l_iload_n rfl rfl ?_
        refine l_iconst rfl ?_
        refine l_iadd rfl ?_
        refine l_callV rfl rfl rfl (t_to_behindArt hHT1 (z30 + 1) ⟨by omega, by omega⟩ _) ?_
        rintro _ _ ⟨rfl, z41, rfl, w41, w40⟩
        show Rl _ _ _ _ _ [iv z41] _ _
        refine l_istore rfl rfl rfl ?_
        refine l_aload_n rfl rfl ?_
        refine l_gfr rfl rfl rfl rfl rfl (hHT1.r 891 4 895 rfl) ?_
        refine l_iconst rfl ?_
        refine l_iload rfl rfl ?_
        refine l_aload_n rfl rfl ?_
        refine l_gfr rfl rfl rfl rfl rfl (hHT1.r 891 0 876 rfl) ?_
        refine l_iload rfl rfl ?_
        refine l_callV rfl rfl rfl (t_to_runEnd hHT1 z41 ⟨by omega, by omega⟩ _) ?_
        rintro _ _ ⟨rfl, z51, rfl, w51, w44, w45, w46, w47, w48, w49, w50⟩
        clear w46 w47 w48 w49
        show Rl _ _ _ _ _ [iv z51, iv z41, iv 2, .ref 895] _ _
        refine l_callV rfl rfl rfl (t_me_find hHT1 2 z41 z51 ⟨by omega, by omega⟩ ⟨by omega, by omega⟩ ⟨by omega, by omega⟩ (by first | assumption | exact (LEX_FR w15 rfl rfl (by first | assumption | exact (by assumption : WI S).1 : LEX S))) _) ?_
        rintro _ _ ⟨rfl, z55, rfl, w55, w52, w53, w54⟩
        have w56 : z55 ≠ -1 → _ := fun h => fb2 hHT1 (w52 h)
        clear w53
        show Rl _ _ _ _ _ [iv z55] _ _
        refine l_istore rfl rfl rfl ?_
        refine l_iload rfl rfl ?_
        refine l_iconst rfl ?_
        refine l_icmp_eq rfl rfl (by unfold rg; omega) (by unfold rg; omega) (fun w57 => ?_) (fun w58 => ?_)
        · refine l_aload_n rfl rfl ?_
          refine l_gfr rfl rfl rfl rfl rfl (hHT1.r 891 0 876 rfl) ?_
          refine l_iconst rfl ?_
          refine l_iload rfl rfl ?_
          refine l_callV rfl rfl rfl (t_to_wrong hHT1 4 z41 ⟨by omega, by omega⟩ ⟨by omega, by omega⟩ _) ?_
          rintro _ T2 ⟨hHT2, w62, z61, rfl, w61, w59, w60⟩
          have hFT2 : FR md_re_tellWay S T2 := FR.tr hFT1 w62 rfl
          show Rl _ _ _ _ _ [iv z61] _ _
          refine l_ireturn rfl (retI_z (by omega)) ?_
          have w63 : 0 ≤ Xi T2 876 8 ∧ Xi T2 876 8 ≤ 9 := hHT2.c _ _
          exact ⟨hHT2, hFT2, _, rfl, ⟨by omega, by omega⟩, (by first | (intro hz; omega) | (intro _; assumption) | (intro hz; apply_assumption; omega) | (intro _; exact (WI_FR hHT1 w62 rfl rfl rfl rfl rfl rfl rfl rfl rfl (WI_FR hH w15 rfl rfl rfl rfl rfl rfl rfl rfl rfl (by assumption : WI S))))), (by omega)⟩
        · refine l_aload_n rfl rfl ?_
          refine l_gfr rfl rfl rfl rfl rfl (hHT1.r 891 3 20 rfl) ?_
          refine l_iload rfl rfl ?_
          refine l_iconst rfl ?_
          refine l_callV rfl rfl rfl (t_wo_isA hHT1 z55 1 ⟨by omega, by omega⟩ ⟨by omega, by omega⟩ _) ?_
          rintro _ _ ⟨rfl, z65, rfl, w65, w64⟩
          show Rl _ _ _ _ _ [iv z65] _ _
          refine l_if_ne rfl rfl (by unfold rg; omega) (fun w66 => ?_) (fun w67 => ?_)
          · refine l_aload_n rfl rfl ?_
            refine l_aload_n rfl rfl ?_
            refine l_iload_n rfl rfl ?_
            refine l_iconst rfl ?_
            have hWp : WI T1 := (WI_FR hH w15 rfl rfl rfl rfl rfl rfl rfl rfl rfl (by assumption : WI S))
            have hHp := hHT1
            have w68 : Xi T1 5 2 = Xi S 5 2 := (show Xi T1 5 2 = Xi S 5 2 from w15.x _ _ rfl)
            refine l_callV rfl rfl rfl (t_re_objectOrNew hHT1 z5 1 ⟨by omega, by omega⟩ ⟨by omega, by omega⟩ (by first | assumption | exact (LEX_FR w15 rfl rfl (by first | assumption | exact (by assumption : WI S).1 : LEX S))) (hcw (by omega)) _) ?_
            rintro _ T3 ⟨hHT3, w76, z75, rfl, w75, w70, w71, w72, w73, w74⟩
            have hFT3 : FR md_re_tellWay S T3 := FR.tr hFT1 w76 rfl
            show Rl _ _ _ _ _ [iv z75, .ref 891] _ _
            have hWo : WI T3 := WI_on hHp (by assumption : FR md_re_objectOrNew T1 T3) (by assumption) (by assumption) (by assumption) (by assumption) hWp
            refine l_pfi rfl rfl rfl rfl ?_
            obtain ⟨U4, eU4⟩ : ∃ T : sS, T = uI T3 891 10 (Int32.ofInt z75) := ⟨_, rfl⟩
            rw [← eU4]
            have hHU4 : HI U4 := by rw [eU4]; exact HI_w hHT3 (show -1 ≤ z75 by omega) (show z75 ≤ 23 by omega)
            have hFU4 : FR md_re_tellWay S U4 := by rw [eU4]; exact FR.wI hFT3 (mdf_i (r := (891, 892, 10, 11)) (List.mem_of_getElem? (i := 14) rfl) (inR_i (by omega) (by omega) (by omega) (by omega)))
            have w77 : Xi U4 891 10 = z75 := by rw [eU4]; exact Xi_same (by unfold rg; omega)
            refine l_aload_n rfl rfl ?_
            refine l_gfr rfl rfl rfl rfl rfl (hHU4.r 891 3 20 rfl) ?_
            refine l_iload rfl rfl ?_
            refine l_iload rfl rfl ?_
            refine l_aload_n rfl rfl ?_
            refine l_gfi rfl rfl rfl rfl rfl ?_
            refine l_callV rfl rfl rfl (t_wo_tellWay hHU4 z55 z34 (Xi U4 891 10) ⟨by omega, by omega⟩ ⟨by omega, by omega⟩ ⟨by omega, by omega⟩ _) ?_
            rintro _ T5 ⟨hHT5, w79, z78, rfl, w78⟩
            have hFT5 : FR md_re_tellWay S T5 := FR.tr hFU4 w79 rfl
            show Rl _ _ _ _ _ [iv z78] _ _
            refine l_if_ne rfl rfl (by unfold rg; omega) (fun w80 => ?_) (fun w81 => ?_)
            · refine l_iconst rfl ?_
              refine l_goto rfl rfl ?_
              refine l_ireturn rfl rfl ?_
              have w82 : Xi T5 876 8 = Xi T1 876 8 := (show Xi T5 876 8 = Xi U4 876 8 from w79.x _ _ rfl).trans ( (show Xi U4 876 8 = Xi T3 876 8 from by rw [eU4]; exact Xi_ne (by omega)).trans ((show Xi T3 876 8 = Xi T1 876 8 from w76.x _ _ rfl)))
              have w83 : 0 ≤ Xi T1 876 8 ∧ Xi T1 876 8 ≤ 9 := hHT1.c _ _
              exact ⟨hHT5, hFT5, _, rfl, ⟨by omega, by omega⟩, (by first | (intro hz; omega) | (intro _; assumption) | (intro hz; apply_assumption; omega) | (intro _; exact (WI_FR hHU4 w79 rfl rfl rfl rfl rfl rfl rfl rfl rfl (WI_FR hHT3 (FR_e eU4) rfl rfl rfl rfl rfl rfl rfl rfl rfl (by assumption : WI T3))))), (by omega)⟩
            · refine l_aload_n rfl rfl ?_
              refine l_gfr rfl rfl rfl rfl rfl (hHT5.r 891 0 876 rfl) ?_
              refine l_iconst rfl ?_
              refine l_iload_n rfl rfl ?_
              refine l_callV rfl rfl rfl (t_to_wrong hHT5 5 z5 ⟨by omega, by omega⟩ ⟨by omega, by omega⟩ _) ?_
              rintro _ T6 ⟨hHT6, w87, z86, rfl, w86, w84, w85⟩
              have hFT6 : FR md_re_tellWay S T6 := FR.tr hFT5 w87 rfl
              show Rl _ _ _ _ _ [iv z86] _ _
              refine l_if_eq rfl rfl (by unfold rg; omega) (fun w88 => ?_) (fun w89 => ?_)
              · refine l_iconst rfl ?_
                refine l_ireturn rfl rfl ?_
                have w90 : 0 ≤ Xi T6 876 8 ∧ Xi T6 876 8 ≤ 9 := hHT6.c _ _
                exact ⟨hHT6, hFT6, _, rfl, ⟨by omega, by omega⟩, (by first | (intro hz; omega) | (intro _; assumption) | (intro hz; apply_assumption; omega) | (intro _; exact (WI_FR hHT5 w87 rfl rfl rfl rfl rfl rfl rfl rfl rfl (WI_FR hHU4 w79 rfl rfl rfl rfl rfl rfl rfl rfl rfl (WI_FR hHT3 (FR_e eU4) rfl rfl rfl rfl rfl rfl rfl rfl rfl (by assumption : WI T3)))))), (by omega)⟩
              · refine l_iconst rfl ?_
                refine l_goto rfl rfl ?_
                refine l_ireturn rfl rfl ?_
                have w91 : 0 ≤ Xi T6 876 8 ∧ Xi T6 876 8 ≤ 9 := hHT6.c _ _
                exact ⟨hHT6, hFT6, _, rfl, ⟨by omega, by omega⟩, (by first | (intro hz; omega) | (intro _; assumption) | (intro hz; apply_assumption; omega) | (intro _; exact (WI_FR hHT5 w87 rfl rfl rfl rfl rfl rfl rfl rfl rfl (WI_FR hHU4 w79 rfl rfl rfl rfl rfl rfl rfl rfl rfl (WI_FR hHT3 (FR_e eU4) rfl rfl rfl rfl rfl rfl rfl rfl rfl (by assumption : WI T3)))))), (by omega)⟩
          · refine l_aload_n rfl rfl ?_
            refine l_gfr rfl rfl rfl rfl rfl (hHT1.r 891 0 876 rfl) ?_
            refine l_iconst rfl ?_
            refine l_iload rfl rfl ?_
            refine l_callV rfl rfl rfl (t_to_wrong hHT1 4 z41 ⟨by omega, by omega⟩ ⟨by omega, by omega⟩ _) ?_
            rintro _ T7 ⟨hHT7, w95, z94, rfl, w94, w92, w93⟩
            have hFT7 : FR md_re_tellWay S T7 := FR.tr hFT1 w95 rfl
            show Rl _ _ _ _ _ [iv z94] _ _
            refine l_ireturn rfl (retI_z (by omega)) ?_
            have w96 : 0 ≤ Xi T7 876 8 ∧ Xi T7 876 8 ≤ 9 := hHT7.c _ _
            exact ⟨hHT7, hFT7, _, rfl, ⟨by omega, by omega⟩, (by first | (intro hz; omega) | (intro _; assumption) | (intro hz; apply_assumption; omega) | (intro _; exact (WI_FR hHT1 w95 rfl rfl rfl rfl rfl rfl rfl rfl rfl (WI_FR hH w15 rfl rfl rfl rfl rfl rfl rfl rfl rfl (by assumption : WI S))))), (by omega)⟩
      · refine l_aload_n rfl rfl ?_
        refine l_gfr rfl rfl rfl rfl rfl (hHT1.r 891 0 876 rfl) ?_
        refine l_iconst rfl ?_
        refine l_iload_n rfl rfl ?_
        refine l_iconst rfl ?_
        refine l_iadd rfl ?_
        refine l_callV rfl rfl rfl (t_to_wrong hHT1 4 ((Xi S 890 3) + 1) ⟨by omega, by omega⟩ ⟨by omega, by omega⟩ _) ?_
        rintro _ T8 ⟨hHT8, w100, z99, rfl, w99, w97, w98⟩
        have hFT8 : FR md_re_tellWay S T8 := FR.tr hFT1 w100 rfl
        show Rl _ _ _ _ _ [iv z99] _ _
        refine l_ireturn rfl (retI_z (by omega)) ?_
        have w101 : 0 ≤ Xi T8 876 8 ∧ Xi T8 876 8 ≤ 9 := hHT8.c _ _
        exact ⟨hHT8, hFT8, _, rfl, ⟨by omega, by omega⟩, (by first | (intro hz; omega) | (intro _; assumption) | (intro hz; apply_assumption; omega) | (intro _; exact (WI_FR hHT1 w100 rfl rfl rfl rfl rfl rfl rfl rfl rfl (WI_FR hH w15 rfl rfl rfl rfl rfl rfl rfl rfl rfl (by assumption : WI S))))), (by omega)⟩
    · refine l_aload_n rfl rfl ?_
      refine l_gfr rfl rfl rfl rfl rfl (hHT1.r 891 0 876 rfl) ?_
      refine l_iconst rfl ?_
      refine l_aload_n rfl rfl ?_
      refine l_callV rfl rfl rfl (t_re_secondName hHT1 _) ?_
      rintro _ _ ⟨rfl, z102, rfl, w102⟩
      show Rl _ _ _ _ _ [iv z102, iv 4, .ref 876] _ _
      refine l_callV rfl rfl rfl (t_to_wrong hHT1 4 z102 ⟨by omega, by omega⟩ ⟨by omega, by omega⟩ _) ?_
      rintro _ T9 ⟨hHT9, w106, z105, rfl, w105, w103, w104⟩
      have hFT9 : FR md_re_tellWay S T9 := FR.tr hFT1 w106 rfl
      show Rl _ _ _ _ _ [iv z105] _ _
      refine l_ireturn rfl (retI_z (by omega)) ?_
      have w107 : 0 ≤ Xi T9 876 8 ∧ Xi T9 876 8 ≤ 9 := hHT9.c _ _
      exact ⟨hHT9, hFT9, _, rfl, ⟨by omega, by omega⟩, (by first | (intro hz; omega) | (intro _; assumption) | (intro hz; apply_assumption; omega) | (intro _; exact (WI_FR hHT1 w106 rfl rfl rfl rfl rfl rfl rfl rfl rfl (WI_FR hH w15 rfl rfl rfl rfl rfl rfl rfl rfl rfl (by assumption : WI S))))), (by omega)⟩
  · refine l_iconst rfl ?_
    refine l_ireturn rfl rfl ?_
    have w108 : 0 ≤ Xi T1 876 8 ∧ Xi T1 876 8 ≤ 9 := hHT1.c _ _
    exact ⟨hHT1, hFT1, _, rfl, ⟨by omega, by omega⟩, (by first | (intro hz; omega) | (intro _; assumption) | (intro hz; apply_assumption; omega) | (intro _; exact (WI_FR hH w15 rfl rfl rfl rfl rfl rfl rfl rfl rfl (by assumption : WI S)))), (by omega)⟩
def md_re_tellHas : List rec := [(1, 2, 3, 4), (2, 3, 0, 100000), (3, 4, 0, 100000), (4, 5, 0, 100000), (5, 6, 0, 100000), (7, 8, 0, 100000), (9, 10, 0, 100000), (876, 877, 8, 9), (876, 877, 9, 10), (891, 892, 9, 10), (892, 893, 0, 100000), (893, 894, 0, 100000)]
abbrev Q_re_tellHas (S : sS) : pst := fun r S1 => HI S1 ∧ FR md_re_tellHas S S1 ∧ (∃ z : Int, r = some (iv z) ∧ (0 ≤ z ∧ z ≤ 1) ∧ (z = 1 → WI S1) ∧ (z = 0 → Xi S1 876 8 ≠ 0))
set_option maxRecDepth 100000 in
theorem t_re_tellHas {S : sS} (hH : HI S) (hW : WI S) (hn0 : Xi S 891 9 = 0) (d : Nat) : Mt lay0 (d + 4) m_re_tellHas [.ref 891] S (Q_re_tellHas S) := by
  refine Mt_R rfl rfl ?_
  have hF : FR md_re_tellHas S S := FR.rf
  have w1 : 0 ≤ Xi S 5 5 ∧ Xi S 5 5 ≤ 12 := hH.c _ _
  have w2 : 0 ≤ Xi S 891 9 ∧ Xi S 891 9 ≤ 24 := hH.c _ _
  have hL := hW.1
  have hX := hW.2.1
  have hc1 : 0 ≤ Xi S 5 1 ∧ Xi S 5 1 ≤ 8 := hH.c _ _
  have hc5 : 0 ≤ Xi S 5 5 ∧ Xi S 5 5 ≤ 12 := hH.c _ _
  have h890 : -1 ≤ Xi S 890 3 ∧ Xi S 890 3 ≤ 5124 := hH.c _ _
  have C126 : ∀  (v1 : Int) (v4 : Int) (v5 : Int) (v6 : Int) (v7 : Int), (0 ≤ v1 ∧ v1 ≤ 1) → (2 ≤ v4 ∧ v4 ≤ 5127) → (2 ≤ v5 ∧ v5 ≤ 5127) → (0 ≤ v6 ∧ v6 ≤ 15) → (-1 ≤ v7 ∧ v7 ≤ 3647) → (v7 % 256 ≤ 7 ∧ 0 ≤ v7 % 256) → Rl lay0 (d + 3) m_re_tellHas 126 [(0, .ref 891), (1, iv v1), (4, iv v4), (5, iv v5), (6, iv v6), (7, iv v7)] [] S (Q_re_tellHas S) := by
    intro v1 v4 v5 v6 v7 w3 w4 w5 w6 w7 w8
    have C175 : ∀  (T1 : sS) (_ : HI T1) (_ : FR md_re_tellHas S T1) (v1 : Int) (v4 : Int) (v5 : Int) (v6 : Int) (v7 : Int) (v8 : Int), (0 ≤ v1 ∧ v1 ≤ 1) → (2 ≤ v4 ∧ v4 ≤ 5127) → (2 ≤ v5 ∧ v5 ≤ 5127) → (0 ≤ v6 ∧ v6 ≤ 15) → (-1 ≤ v7 ∧ v7 ≤ 3647) → (-1 ≤ v8 ∧ v8 ≤ 3647) → (WI T1) → (v7 % 256 ≤ 7 ∧ 0 ≤ v7 % 256) → (v8 = -1 → Xi S 5 5 < 12) → (v8 / 256 = 5 → v8 % 256 < Xi S 5 5 ∧ 0 ≤ v8 % 256) → (Xi T1 5 5 = Xi S 5 5) → Rl lay0 (d + 3) m_re_tellHas 175 [(0, .ref 891), (1, iv v1), (4, iv v4), (5, iv v5), (6, iv v6), (7, iv v7), (8, iv v8)] [] T1 (Q_re_tellHas S) := by
      intro T1 hHT1 hFT1 v1 v4 v5 v6 v7 v8 w9 w10 w11 w12 w13 w14 hW175 w15 w16 w17 w18
      have w19 : Xi T1 876 7 = Xi S 876 7 := hFT1.x _ _ rfl
      have w20 : 0 ≤ Xi T1 5 5 ∧ Xi T1 5 5 ≤ 12 := hHT1.c _ _
      have C201 : ∀  (v1 : Int) (v4 : Int) (v5 : Int) (v6 : Int) (v7 : Int) (v8 : Int), (0 ≤ v1 ∧ v1 ≤ 1) → (2 ≤ v4 ∧ v4 ≤ 5127) → (2 ≤ v5 ∧ v5 ≤ 5127) → (0 ≤ v6 ∧ v6 ≤ 15) → (-1 ≤ v7 ∧ v7 ≤ 3647) → (-1 ≤ v8 ∧ v8 ≤ 3647) → (WI T1) → (v7 % 256 ≤ 7 ∧ 0 ≤ v7 % 256) → (v8 = -1 → Xi S 5 5 < 12) → (v8 = -1 ∨ (v8 % 256 < Xi S 5 5 ∧ 0 ≤ v8 % 256)) → (Xi T1 5 5 = Xi S 5 5) → Rl lay0 (d + 3) m_re_tellHas 201 [(0, .ref 891), (1, iv v1), (4, iv v4), (5, iv v5), (6, iv v6), (7, iv v7), (8, iv v8)] [] T1 (Q_re_tellHas S) := by
        intro v1 v4 v5 v6 v7 v8 w21 w22 w23 w24 w25 w26 hW201 w27 w28 w29 w30
        have C252 : ∀  (T2 : sS) (_ : HI T2) (_ : FR md_re_tellHas S T2) (v1 : Int) (v6 : Int) (v7 : Int) (v9 : Int), (0 ≤ v1 ∧ v1 ≤ 1) → (0 ≤ v6 ∧ v6 ≤ 15) → (-1 ≤ v7 ∧ v7 ≤ 3647) → (0 ≤ v9 ∧ v9 ≤ 11) → (WI T2) → (v7 % 256 ≤ 7 ∧ 0 ≤ v7 % 256) → (0 ≤ v9 ∧ v9 ≤ 11) → Rl lay0 (d + 3) m_re_tellHas 252 [(0, .ref 891), (1, iv v1), (6, iv v6), (7, iv v7), (9, iv v9)] [] T2 (Q_re_tellHas S) := by
          intro T2 hHT2 hFT2 v1 v6 v7 v9 w31 w32 w33 w34 hW252 w35 w36
          have w37 : Xi T2 876 7 = Xi S 876 7 := hFT2.x _ _ rfl
          refine l_aload_n rfl rfl ?_
          refine l_gfr rfl rfl rfl rfl rfl (hHT2.r 891 2 1 rfl) ?_
          refine l_gfr rfl rfl rfl rfl rfl (hHT2.r 1 8 9 rfl) ?_
          refine l_iload rfl rfl ?_
          refine l_iaload (n := 12) rfl rfl (by omega) (by omega) (by unfold rg; omega) ?_
          have w38 : 0 ≤ (Xi T2 9 ((v9).toNat)) ∧ (Xi T2 9 ((v9).toNat)) ≤ 7 := hHT2.c _ _
          refine l_iload rfl rfl ?_
          refine l_sipush rfl rfl ?_
          refine l_iand255 rfl (by unfold rg; omega) ?_
          refine l_icmp_eq rfl rfl (by unfold rg; omega) (by unfold rg; omega) (fun w40 => ?_) (fun w41 => ?_)
          · refine l_aload_n rfl rfl ?_
            refine l_gfr rfl rfl rfl rfl rfl (hHT2.r 891 2 1 rfl) ?_
            refine l_gfr rfl rfl rfl rfl rfl (hHT2.r 1 6 7 rfl) ?_
            refine l_iload rfl rfl ?_
            refine l_dup2 rfl rfl ?_
            refine l_iaload (n := 16) rfl rfl (by omega) (by omega) (by unfold rg; omega) ?_
            have w42 : -2147483648 ≤ (Xi T2 7 ((v6).toNat)) ∧ (Xi T2 7 ((v6).toNat)) ≤ 2147483647 := Xi_rgI
            refine l_iconst rfl ?_
            refine l_iload rfl rfl ?_
            refine l_ishlF rfl ?_
            have w43 : -2147483648 ≤ (ishlF 1 v9) ∧ (ishlF 1 v9) ≤ 2147483647 := ishlF_rg
            refine l_iorF rfl ?_
            have w44 : -2147483648 ≤ (iorF (Xi T2 7 ((v6).toNat)) (ishlF 1 v9)) ∧ (iorF (Xi T2 7 ((v6).toNat)) (ishlF 1 v9)) ≤ 2147483647 := iorF_rg
            have w44b : (0 : Int) ≤ (Xi T2 7 ((v6).toNat)) → (0 : Int) ≤ (ishlF 1 v9) → 0 ≤ (iorF (Xi T2 7 ((v6).toNat)) (ishlF 1 v9)) := iorF_nn (by unfold rg; omega) (by unfold rg; omega)
            refine l_iastore (n := 16) rfl rfl (by omega) (by omega) (by unfold rg; omega) ?_
            obtain ⟨U3, eU3⟩ : ∃ T : sS, T = uI T2 7 ((v6).toNat) (Int32.ofInt (iorF (Xi T2 7 ((v6).toNat)) (ishlF 1 v9))) := ⟨_, rfl⟩
            rw [← eU3]
            have hHU3 : HI U3 := by rw [eU3]; exact HI_any hHT2 (rfl)
            have hFU3 : FR md_re_tellHas S U3 := by rw [eU3]; exact FR.wI hFT2 (mdf_i (r := (7, 8, 0, 100000)) (List.mem_of_getElem? (i := 5) rfl) (inR_i (by omega) (by omega) (by omega) (by omega)))
            have w45 : Xi U3 7 ((v6).toNat) = (iorF (Xi T2 7 ((v6).toNat)) (ishlF 1 v9)) := by rw [eU3]; exact Xi_same (by unfold rg; omega)
            refine l_iconst rfl ?_
            refine l_ireturn rfl rfl ?_
            have w48 : Xi U3 876 8 = Xi T2 876 8 := (show Xi U3 876 8 = Xi T2 876 8 from by rw [eU3]; exact Xi_ne (by omega))
            have w49 : 0 ≤ Xi T2 876 8 ∧ Xi T2 876 8 ≤ 9 := hHT2.c _ _
            exact ⟨hHU3, hFU3, _, rfl, ⟨by omega, by omega⟩, (by first | (intro hz; omega) | (intro _; assumption) | (intro hz; apply_assumption; omega) | (intro _; exact (WI_FR hHT2 (FR_e eU3) rfl rfl rfl rfl rfl rfl rfl rfl rfl (by assumption : WI T2)))), (by omega)⟩
          · refine l_aload_n rfl rfl ?_
            refine l_gfr rfl rfl rfl rfl rfl (hHT2.r 891 0 876 rfl) ?_
            refine l_iconst rfl ?_
            refine l_iload_n rfl rfl ?_
            refine l_callV rfl rfl rfl (t_to_wrong hHT2 5 v1 ⟨by omega, by omega⟩ ⟨by omega, by omega⟩ _) ?_
            rintro _ T4 ⟨hHT4, w54, z53, rfl, w53, w51, w52⟩
            have hFT4 : FR md_re_tellHas S T4 := FR.tr hFT2 w54 rfl
            show Rl _ _ _ _ _ [iv z53] _ _
            refine l_ireturn rfl (retI_z (by omega)) ?_
            have w57 : 0 ≤ Xi T4 876 8 ∧ Xi T4 876 8 ≤ 9 := hHT4.c _ _
            exact ⟨hHT4, hFT4, _, rfl, ⟨by omega, by omega⟩, (by first | (intro hz; omega) | (intro _; assumption) | (intro hz; apply_assumption; omega) | (intro _; exact (WI_FR hHT2 w54 rfl rfl rfl rfl rfl rfl rfl rfl rfl (by assumption : WI T2)))), (by omega)⟩
        refine l_iload rfl rfl ?_
        refine l_sipush rfl rfl ?_
        refine l_iand255 rfl (by unfold rg; omega) ?_
        refine l_istore rfl rfl rfl ?_
        refine l_iload rfl rfl ?_
        refine l_iconst rfl ?_
        refine l_icmp_ne rfl rfl (by unfold rg; omega) (by unfold rg; omega) (fun w59 => ?_) (fun w60 => ?_)
        · have w61 : 0 ≤ Xi T1 5 5 ∧ Xi T1 5 5 ≤ 12 := hHT1.c _ _
          exact Rl_weak (C252 T1 hHT1 hFT1 (v1) (v6) (v7) ((v8 % 256)) (by omega) (by omega) (by omega) (by omega) (by first | assumption | exact (by assumption : WI T1)) (by omega) (by omega)) (And.intro rfl (And.intro rfl (And.intro rfl (And.intro rfl (And.intro rfl (True.intro))))))
        · refine l_aload_n rfl rfl ?_
          refine l_gfr rfl rfl rfl rfl rfl (hHT1.r 891 2 1 rfl) ?_
          refine l_iconst rfl ?_
          refine l_aload_n rfl rfl ?_
          refine l_gfr rfl rfl rfl rfl rfl (hHT1.r 891 0 876 rfl) ?_
          refine l_gfr rfl rfl rfl rfl rfl (hHT1.r 876 2 879 rfl) ?_
          refine l_iload rfl rfl ?_
          refine l_iload rfl rfl ?_
          have hWp : WI T1 := (by assumption : WI T1)
          have hHp := hHT1
          refine l_callV rfl rfl rfl (t_vo_tellNew hHT1 5 879 5130 v4 v5 ⟨by omega, by omega⟩ rfl ⟨by omega, by omega⟩ ⟨by omega, by omega⟩ ⟨by omega, by omega⟩ (by first | assumption | exact (by first | assumption | exact (by assumption : WI T1).1 : LEX T1)) (show Xi T1 5 5 + 1 ≤ 12 by first | omega | (have hz : Xi T1 5 5 = Xi T1 5 (5 : Int).toNat := rfl; omega)) (by first | assumption | omega) _) ?_
          rintro _ T5 ⟨hHT5, w69, z68, rfl, w68, w63, w64, w65, w66, w67⟩
          have hFT5 : FR md_re_tellHas S T5 := FR.tr hFT1 w69 rfl
          show Rl _ _ _ _ _ [iv z68] _ _
          have hz5 : z68 = Xi T1 5 5 := by have t := (by assumption : z68 = Xi T1 5 (5 : Int).toNat); exact t
          have hc5 : Xi T5 5 5 = Xi T1 5 5 + 1 := by have t := (by assumption : Xi T5 5 (5 : Int).toNat = Xi T1 5 (5 : Int).toNat + 1); exact t
          have hWt : WI T5 := WI_tn (s := 5) hHp (by assumption : FR md_vo_tellNew T1 T5) (by assumption) (by assumption) (by assumption) (by decide) (by decide) hWp
          refine l_istore rfl rfl rfl ?_
          refine l_aload_n rfl rfl ?_
          refine l_gfr rfl rfl rfl rfl rfl (hHT5.r 891 2 1 rfl) ?_
          refine l_gfr rfl rfl rfl rfl rfl (hHT5.r 1 8 9 rfl) ?_
          refine l_iload rfl rfl ?_
          refine l_iload rfl rfl ?_
          refine l_sipush rfl rfl ?_
          refine l_iand255 rfl (by unfold rg; omega) ?_
          refine l_iastore (n := 12) rfl rfl (by omega) (by omega) (by unfold rg; omega) ?_
          obtain ⟨U6, eU6⟩ : ∃ T : sS, T = uI T5 9 ((z68).toNat) (Int32.ofInt (v7 % 256)) := ⟨_, rfl⟩
          rw [← eU6]
          have hHU6 : HI U6 := by rw [eU6]; exact HI_w hHT5 (show 0 ≤ (v7 % 256) by omega) (show (v7 % 256) ≤ 7 by omega)
          have hFU6 : FR md_re_tellHas S U6 := by rw [eU6]; exact FR.wI hFT5 (mdf_i (r := (9, 10, 0, 100000)) (List.mem_of_getElem? (i := 6) rfl) (inR_i (by omega) (by omega) (by omega) (by omega)))
          have w71 : Xi U6 9 ((z68).toNat) = (v7 % 256) := by rw [eU6]; exact Xi_same (by unfold rg; omega)
          have w72 : Xi U6 5 5 = Xi T5 5 5 := (show Xi U6 5 5 = Xi T5 5 5 from by rw [eU6]; exact Xi_ne (by omega))
          have w73 : 0 ≤ Xi T5 5 5 ∧ Xi T5 5 5 ≤ 12 := hHT5.c _ _
          exact Rl_weak (C252 U6 hHU6 hFU6 (v1) (v6) (v7) (z68) (by omega) (by omega) (by omega) (by omega) (by first | assumption | exact (WI_FR hHT5 (FR_e eU6) rfl rfl rfl rfl rfl rfl rfl rfl rfl (by assumption : WI T5))) (by omega) (by omega)) (And.intro rfl (And.intro rfl (And.intro rfl (And.intro rfl (And.intro rfl (True.intro))))))
      refine l_iload rfl rfl ?_
      refine l_iconst rfl ?_
      refine l_icmp_eq rfl rfl (by unfold rg; omega) (by unfold rg; omega) (fun w74 => ?_) (fun w75 => ?_)
      · have w76 : 0 ≤ Xi T1 5 5 ∧ Xi T1 5 5 ≤ 12 := hHT1.c _ _
        exact Rl_weak (C201 (v1) (v4) (v5) (v6) (v7) (v8) (by omega) (by omega) (by omega) (by omega) (by omega) (by omega) (by first | assumption | exact (by assumption : WI T1)) (by omega) (by omega) (by omega) (by omega)) (And.intro rfl (And.intro rfl (And.intro rfl (And.intro rfl (And.intro rfl (And.intro rfl (And.intro rfl (True.intro))))))))
      · refine l_iload rfl rfl ?_
        refine l_bipush rfl rfl ?_
        refine l_ishr8 rfl (by unfold rg; omega) ?_
        refine l_iconst rfl ?_
        refine l_icmp_eq rfl rfl (by unfold rg; omega) (by unfold rg; omega) (fun w78 => ?_) (fun w79 => ?_)
        · have w80 : 0 ≤ Xi T1 5 5 ∧ Xi T1 5 5 ≤ 12 := hHT1.c _ _
          exact Rl_weak (C201 (v1) (v4) (v5) (v6) (v7) (v8) (by omega) (by omega) (by omega) (by omega) (by omega) (by omega) (by first | assumption | exact (by assumption : WI T1)) (by omega) (by omega) (by omega) (by omega)) (And.intro rfl (And.intro rfl (And.intro rfl (And.intro rfl (And.intro rfl (And.intro rfl (And.intro rfl (True.intro))))))))
        · refine l_aload_n rfl rfl ?_
          refine l_gfr rfl rfl rfl rfl rfl (hHT1.r 891 0 876 rfl) ?_
          refine l_iconst rfl ?_
          refine l_iload rfl rfl ?_
          refine l_callV rfl rfl rfl (t_to_wrong hHT1 4 v4 ⟨by omega, by omega⟩ ⟨by omega, by omega⟩ _) ?_
          rintro _ T7 ⟨hHT7, w85, z84, rfl, w84, w82, w83⟩
          have hFT7 : FR md_re_tellHas S T7 := FR.tr hFT1 w85 rfl
          show Rl _ _ _ _ _ [iv z84] _ _
          refine l_ireturn rfl (retI_z (by omega)) ?_
          have w88 : 0 ≤ Xi T7 876 8 ∧ Xi T7 876 8 ≤ 9 := hHT7.c _ _
          exact ⟨hHT7, hFT7, _, rfl, ⟨by omega, by omega⟩, (by first | (intro hz; omega) | (intro _; assumption) | (intro hz; apply_assumption; omega) | (intro _; exact (WI_FR hHT1 w85 rfl rfl rfl rfl rfl rfl rfl rfl rfl (by assumption : WI T1)))), (by omega)⟩
    refine l_aload_n rfl rfl ?_
    refine l_gfr rfl rfl rfl rfl rfl (hH.r 891 2 1 rfl) ?_
    refine l_aload_n rfl rfl ?_
    refine l_gfr rfl rfl rfl rfl rfl (hH.r 891 0 876 rfl) ?_
    refine l_gfr rfl rfl rfl rfl rfl (hH.r 876 2 879 rfl) ?_
    refine l_iload rfl rfl ?_
    refine l_iload rfl rfl ?_
    refine l_callV rfl rfl rfl (t_vo_meaning hH 879 5130 v4 v5 rfl ⟨by omega, by omega⟩ ⟨by omega, by omega⟩ ⟨by omega, by omega⟩ (by first | assumption | exact (by first | assumption | exact (by assumption : WI S).1 : LEX S)) _) ?_
    rintro _ _ ⟨rfl, z93, rfl, w93, w90, w91, w92⟩
    show Rl _ _ _ _ _ [iv z93] _ _
    have hmnz93 := mOK_n (z := z93) (by assumption)
    have hfb5 : z93 / 256 = 5 → z93 % 256 < Xi S 5 5 ∧ 0 ≤ z93 % 256 := fun e => ⟨(fb5 hH (lx (by assumption) e (by omega))).2.2, (fb5 hH (lx (by assumption) e (by omega))).1⟩
    refine l_istore rfl rfl rfl ?_
    refine l_iload rfl rfl ?_
    refine l_iconst rfl ?_
    refine l_icmp_ne rfl rfl (by unfold rg; omega) (by unfold rg; omega) (fun w94 => ?_) (fun w95 => ?_)
    · have w96 : 0 ≤ Xi S 5 5 ∧ Xi S 5 5 ≤ 12 := hH.c _ _
      exact Rl_weak (C175 S hH hF (v1) (v4) (v5) (v6) (v7) (z93) (by omega) (by omega) (by omega) (by omega) (by omega) (by omega) (by first | assumption | exact (by assumption : WI S)) (by omega) (by omega) (by omega) (by omega)) (And.intro rfl (And.intro rfl (And.intro rfl (And.intro rfl (And.intro rfl (And.intro rfl (And.intro rfl (True.intro))))))))
    · refine l_aload_n rfl rfl ?_
      refine l_iload rfl rfl ?_
      refine l_iload rfl rfl ?_
      refine l_aload_n rfl rfl ?_
      refine l_gfr rfl rfl rfl rfl rfl (hH.r 891 2 1 rfl) ?_
      refine l_iconst rfl ?_
      refine l_callV rfl rfl rfl (t_vo_countOf hH 5 ⟨by omega, by omega⟩ _) ?_
      rintro _ _ ⟨rfl, z101, rfl, w101, w98, w99, w100⟩
      have w102 : z101 = Xi S 5 5 ∧ 0 ≤ Xi S 5 5 ∧ Xi S 5 5 ≤ 12 := ⟨(w98 (by omega) (by omega)).1, hH.c 5 5⟩
      clear w98 w99 w100
      show Rl _ _ _ _ _ [iv z101, iv v5, iv v4, .ref 891] _ _
      refine l_bipush rfl rfl ?_
      refine l_callV rfl rfl rfl (t_re_takeNew hH v4 v5 z101 12 ⟨by omega, by omega⟩ ⟨by omega, by omega⟩ ⟨by omega, by omega⟩ ⟨by omega, by omega⟩ (by first | assumption | exact (by first | assumption | exact (by assumption : WI S).1 : LEX S)) _) ?_
      rintro _ T8 ⟨hHT8, w111, z110, rfl, w110, w105, w106, w107, w108, w109⟩
      have hFT8 : FR md_re_tellHas S T8 := FR.tr hF w111 rfl
      show Rl _ _ _ _ _ [iv z110] _ _
      refine l_if_ne rfl rfl (by unfold rg; omega) (fun w112 => ?_) (fun w113 => ?_)
      · have w114 : Xi T8 5 5 = Xi S 5 5 := (show Xi T8 5 5 = Xi S 5 5 from w111.x _ _ rfl)
        exact Rl_weak (C175 T8 hHT8 hFT8 (v1) (v4) (v5) (v6) (v7) (z93) (by omega) (by omega) (by omega) (by omega) (by omega) (by omega) (by first | assumption | exact (WI_FR hH w111 rfl rfl rfl rfl rfl rfl rfl rfl rfl (by assumption : WI S))) (by omega) (by omega) (by omega) (by omega)) (And.intro rfl (And.intro rfl (And.intro rfl (And.intro rfl (And.intro rfl (And.intro rfl (And.intro rfl (True.intro))))))))
      · refine l_iconst rfl ?_
        refine l_ireturn rfl rfl ?_
        have w118 : 0 ≤ Xi T8 876 8 ∧ Xi T8 876 8 ≤ 9 := hHT8.c _ _
        exact ⟨hHT8, hFT8, _, rfl, ⟨by omega, by omega⟩, (by first | (intro hz; omega) | (intro _; assumption) | (intro hz; apply_assumption; omega) | (intro _; exact (WI_FR hH w111 rfl rfl rfl rfl rfl rfl rfl rfl rfl (by assumption : WI S)))), (by omega)⟩
  refine l_aload_n rfl rfl ?_
  refine l_gfr rfl rfl rfl rfl rfl (hH.r 891 0 876 rfl) ?_
  refine l_iconst rfl ?_
  have w120 : 0 ≤ Xi S 876 7 ∧ Xi S 876 7 ≤ 5125 := hH.c _ _
  refine l_callV rfl rfl rfl (t_to_behindArt hH 0 ⟨by omega, by omega⟩ _) ?_
  rintro _ _ ⟨rfl, z122, rfl, w122, w121⟩
  show Rl _ _ _ _ _ [iv z122] _ _
  refine l_istore_n rfl rfl rfl ?_
  refine l_aload_n rfl rfl ?_
  refine l_gfr rfl rfl rfl rfl rfl (hH.r 891 1 890 rfl) ?_
  refine l_gfi rfl rfl rfl rfl rfl ?_
  have w123 : -1 ≤ (Xi S 890 3) ∧ (Xi S 890 3) ≤ 5124 := hH.c _ _
  refine l_iconst rfl ?_
  refine l_iadd rfl ?_
  refine l_istore_n rfl rfl rfl ?_
  refine l_aload_n rfl rfl ?_
  refine l_gfr rfl rfl rfl rfl rfl (hH.r 891 0 876 rfl) ?_
  refine l_iload_n rfl rfl ?_
  refine l_callV rfl rfl rfl (t_to_runEnd hH ((Xi S 890 3) + 2) ⟨by omega, by omega⟩ _) ?_
  rintro _ _ ⟨rfl, z133, rfl, w133, w126, w127, w128, w129, w130, w131, w132⟩
  clear w128 w129 w130 w131
  show Rl _ _ _ _ _ [iv z133] _ _
  refine l_istore_n rfl rfl rfl ?_
  refine l_iload_n rfl rfl ?_
  refine l_iconst rfl ?_
  refine l_iadd rfl ?_
  refine l_istore rfl rfl rfl ?_
  refine l_aload_n rfl rfl ?_
  refine l_gfr rfl rfl rfl rfl rfl (hH.r 891 0 876 rfl) ?_
  refine l_iload rfl rfl ?_
  refine l_callV rfl rfl rfl (t_to_runEnd hH (z133 + 1) ⟨by omega, by omega⟩ _) ?_
  rintro _ _ ⟨rfl, z143, rfl, w143, w136, w137, w138, w139, w140, w141, w142⟩
  clear w138 w139 w140 w141
  show Rl _ _ _ _ _ [iv z143] _ _
  refine l_istore rfl rfl rfl ?_
  refine l_aload_n rfl rfl ?_
  refine l_gfr rfl rfl rfl rfl rfl (hH.r 891 4 895 rfl) ?_
  refine l_iconst rfl ?_
  refine l_iload_n rfl rfl ?_
  refine l_aload_n rfl rfl ?_
  refine l_gfr rfl rfl rfl rfl rfl (hH.r 891 0 876 rfl) ?_
  refine l_iload_n rfl rfl ?_
  refine l_callV rfl rfl rfl (t_to_runEnd hH z122 ⟨by omega, by omega⟩ _) ?_
  rintro _ _ ⟨rfl, z153, rfl, w153, w146, w147, w148, w149, w150, w151, w152⟩
  clear w148 w149 w150 w151
  show Rl _ _ _ _ _ [iv z153, iv z122, iv 0, .ref 895] _ _
  refine l_callV rfl rfl rfl (t_me_find hH 0 z122 z153 ⟨by omega, by omega⟩ ⟨by omega, by omega⟩ ⟨by omega, by omega⟩ (by first | assumption | exact (by first | assumption | exact (by assumption : WI S).1 : LEX S)) _) ?_
  rintro _ _ ⟨rfl, z158, rfl, w158, w155, w156, w157⟩
  have w159 : z158 ≠ -1 → _ := fun h => fb0 hH (w155 h)
  clear w156
  show Rl _ _ _ _ _ [iv z158] _ _
  refine l_istore rfl rfl rfl ?_
  refine l_iload rfl rfl ?_
  refine l_iconst rfl ?_
  refine l_icmp_ne rfl rfl (by unfold rg; omega) (by unfold rg; omega) (fun w160 => ?_) (fun w161 => ?_)
  · refine l_aload_n rfl rfl ?_
    refine l_gfr rfl rfl rfl rfl rfl (hH.r 891 2 1 rfl) ?_
    refine l_aload_n rfl rfl ?_
    refine l_gfr rfl rfl rfl rfl rfl (hH.r 891 0 876 rfl) ?_
    refine l_gfr rfl rfl rfl rfl rfl (hH.r 876 2 879 rfl) ?_
    refine l_iload_n rfl rfl ?_
    refine l_iload_n rfl rfl ?_
    refine l_callV rfl rfl rfl (t_vo_meaning hH 879 5130 ((Xi S 890 3) + 2) z133 rfl ⟨by omega, by omega⟩ ⟨by omega, by omega⟩ ⟨by omega, by omega⟩ (by first | assumption | exact (by first | assumption | exact (by assumption : WI S).1 : LEX S)) _) ?_
    rintro _ _ ⟨rfl, z166, rfl, w166, w163, w164, w165⟩
    show Rl _ _ _ _ _ [iv z166] _ _
    have hmnz166 := mOK_n (z := z166) (by assumption)
    have hfb1 : z166 / 256 = 1 → z166 % 256 < Xi S 5 1 ∧ 0 ≤ z166 % 256 := fun e => ⟨(fb1 hH (lx (by assumption) e (by omega))).2.2, (fb1 hH (lx (by assumption) e (by omega))).1⟩
    have hfb12 : z166 / 256 = 12 → z166 % 256 < Xi S 5 1 ∧ 0 ≤ z166 % 256 := fun e => ⟨(fb12 hH (lx (by assumption) e (by omega))).2.2, (fb12 hH (lx (by assumption) e (by omega))).1⟩
    refine l_istore rfl rfl rfl ?_
    refine l_iload rfl rfl ?_
    refine l_bipush rfl rfl ?_
    refine l_ishr8 rfl (by unfold rg; omega) ?_
    refine l_iconst rfl ?_
    refine l_icmp_eq rfl rfl (by unfold rg; omega) (by unfold rg; omega) (fun w168 => ?_) (fun w169 => ?_)
    · have w170 : 0 ≤ Xi S 5 5 ∧ Xi S 5 5 ≤ 12 := hH.c _ _
      exact Rl_weak (C126 (z122) ((z133 + 1)) (z143) (z158) (z166) (by omega) (by omega) (by omega) (by omega) (by omega) (by omega)) (And.intro rfl (And.intro rfl (And.intro rfl (And.intro rfl (And.intro rfl (And.intro rfl (True.intro)))))))
    · refine l_iload rfl rfl ?_
      refine l_bipush rfl rfl ?_
      refine l_ishr8 rfl (by unfold rg; omega) ?_
      refine l_bipush rfl rfl ?_
      refine l_icmp_eq rfl rfl (by unfold rg; omega) (by unfold rg; omega) (fun w172 => ?_) (fun w173 => ?_)
      · have w174 : 0 ≤ Xi S 5 5 ∧ Xi S 5 5 ≤ 12 := hH.c _ _
        exact Rl_weak (C126 (z122) ((z133 + 1)) (z143) (z158) (z166) (by omega) (by omega) (by omega) (by omega) (by omega) (by omega)) (And.intro rfl (And.intro rfl (And.intro rfl (And.intro rfl (And.intro rfl (And.intro rfl (True.intro)))))))
      · refine l_aload_n rfl rfl ?_
        refine l_gfr rfl rfl rfl rfl rfl (hH.r 891 0 876 rfl) ?_
        refine l_iconst rfl ?_
        refine l_iload_n rfl rfl ?_
        refine l_callV rfl rfl rfl (t_to_wrong hH 4 ((Xi S 890 3) + 2) ⟨by omega, by omega⟩ ⟨by omega, by omega⟩ _) ?_
        rintro _ T9 ⟨hHT9, w179, z178, rfl, w178, w176, w177⟩
        have hFT9 : FR md_re_tellHas S T9 := FR.tr hF w179 rfl
        show Rl _ _ _ _ _ [iv z178] _ _
        refine l_ireturn rfl (retI_z (by omega)) ?_
        have w182 : 0 ≤ Xi T9 876 8 ∧ Xi T9 876 8 ≤ 9 := hHT9.c _ _
        exact ⟨hHT9, hFT9, _, rfl, ⟨by omega, by omega⟩, (by first | (intro hz; omega) | (intro _; assumption) | (intro hz; apply_assumption; omega) | (intro _; exact (WI_FR hH w179 rfl rfl rfl rfl rfl rfl rfl rfl rfl (by assumption : WI S)))), (by omega)⟩
  · refine l_aload_n rfl rfl ?_
    refine l_gfr rfl rfl rfl rfl rfl (hH.r 891 0 876 rfl) ?_
    refine l_iconst rfl ?_
    refine l_iload_n rfl rfl ?_
    refine l_callV rfl rfl rfl (t_to_wrong hH 4 z122 ⟨by omega, by omega⟩ ⟨by omega, by omega⟩ _) ?_
    rintro _ T10 ⟨hHT10, w187, z186, rfl, w186, w184, w185⟩
    have hFT10 : FR md_re_tellHas S T10 := FR.tr hF w187 rfl
    show Rl _ _ _ _ _ [iv z186] _ _
    refine l_ireturn rfl (retI_z (by omega)) ?_
    have w190 : 0 ≤ Xi T10 876 8 ∧ Xi T10 876 8 ≤ 9 := hHT10.c _ _
    exact ⟨hHT10, hFT10, _, rfl, ⟨by omega, by omega⟩, (by first | (intro hz; omega) | (intro _; assumption) | (intro hz; apply_assumption; omega) | (intro _; exact (WI_FR hH w187 rfl rfl rfl rfl rfl rfl rfl rfl rfl (by assumption : WI S)))), (by omega)⟩
def md_re_tellCan : List rec := [(1, 2, 3, 4), (2, 3, 0, 100000), (3, 4, 0, 100000), (4, 5, 0, 100000), (5, 6, 0, 100000), (10, 11, 0, 100000), (11, 12, 0, 100000), (876, 877, 8, 9), (876, 877, 9, 10), (891, 892, 9, 10), (892, 893, 0, 100000), (893, 894, 0, 100000)]
abbrev Q_re_tellCan (S : sS) : pst := fun r S1 => HI S1 ∧ FR md_re_tellCan S S1 ∧ (∃ z : Int, r = some (iv z) ∧ (0 ≤ z ∧ z ≤ 1) ∧ (z = 1 → WI S1) ∧ (z = 0 → Xi S1 876 8 ≠ 0))
set_option maxRecDepth 100000 in
theorem t_re_tellCan {S : sS} (hH : HI S) (hW : WI S) (hn0 : Xi S 891 9 = 0) (d : Nat) : Mt lay0 (d + 4) m_re_tellCan [.ref 891] S (Q_re_tellCan S) := by
  refine Mt_R rfl rfl ?_
  have hF : FR md_re_tellCan S S := FR.rf
  have w1 : 0 ≤ Xi S 891 9 ∧ Xi S 891 9 ≤ 24 := hH.c _ _
  have hL := hW.1
  have hX := hW.2.1
  have h890 : -1 ≤ Xi S 890 3 ∧ Xi S 890 3 ≤ 5124 := hH.c _ _
  have hc3 : 0 ≤ Xi S 5 3 ∧ Xi S 5 3 ≤ 24 := hH.c _ _
  refine l_aload_n rfl rfl ?_
  refine l_gfr rfl rfl rfl rfl rfl (hH.r 891 0 876 rfl) ?_
  refine l_iconst rfl ?_
  have w3 : 0 ≤ Xi S 876 7 ∧ Xi S 876 7 ≤ 5125 := hH.c _ _
  refine l_callV rfl rfl rfl (t_to_behindArt hH 0 ⟨by omega, by omega⟩ _) ?_
  rintro _ _ ⟨rfl, z5, rfl, w5, w4⟩
  show Rl _ _ _ _ _ [iv z5] _ _
  refine l_istore_n rfl rfl rfl ?_
  refine l_aload_n rfl rfl ?_
  refine l_gfr rfl rfl rfl rfl rfl (hH.r 891 1 890 rfl) ?_
  refine l_gfi rfl rfl rfl rfl rfl ?_
  have w6 : -1 ≤ (Xi S 890 3) ∧ (Xi S 890 3) ≤ 5124 := hH.c _ _
  refine l_iconst rfl ?_
  refine l_iadd rfl ?_
  refine l_istore_n rfl rfl rfl ?_
  refine l_aload_n rfl rfl ?_
  refine l_gfr rfl rfl rfl rfl rfl (hH.r 891 0 876 rfl) ?_
  refine l_iload_n rfl rfl ?_
  refine l_callV rfl rfl rfl (t_to_runEnd hH ((Xi S 890 3) + 2) ⟨by omega, by omega⟩ _) ?_
  rintro _ _ ⟨rfl, z16, rfl, w16, w9, w10, w11, w12, w13, w14, w15⟩
  clear w11 w12 w13 w14
  show Rl _ _ _ _ _ [iv z16] _ _
  refine l_istore_n rfl rfl rfl ?_
  refine l_aload_n rfl rfl ?_
  refine l_gfr rfl rfl rfl rfl rfl (hH.r 891 0 876 rfl) ?_
  refine l_iload_n rfl rfl ?_
  refine l_iconst rfl ?_
  refine l_iadd rfl ?_
  refine l_callV rfl rfl rfl (t_to_runEnd hH (z16 + 1) ⟨by omega, by omega⟩ _) ?_
  rintro _ _ ⟨rfl, z26, rfl, w26, w19, w20, w21, w22, w23, w24, w25⟩
  clear w21 w22 w23 w24
  show Rl _ _ _ _ _ [iv z26] _ _
  refine l_istore rfl rfl rfl ?_
  refine l_aload_n rfl rfl ?_
  refine l_gfr rfl rfl rfl rfl rfl (hH.r 891 4 895 rfl) ?_
  refine l_iconst rfl ?_
  refine l_iload_n rfl rfl ?_
  refine l_aload_n rfl rfl ?_
  refine l_gfr rfl rfl rfl rfl rfl (hH.r 891 0 876 rfl) ?_
  refine l_iload_n rfl rfl ?_
  refine l_callV rfl rfl rfl (t_to_runEnd hH z5 ⟨by omega, by omega⟩ _) ?_
  rintro _ _ ⟨rfl, z36, rfl, w36, w29, w30, w31, w32, w33, w34, w35⟩
  clear w31 w32 w33 w34
  show Rl _ _ _ _ _ [iv z36, iv z5, iv 0, .ref 895] _ _
  have w37 : 0 ≤ Xi S 5 3 ∧ Xi S 5 3 ≤ 24 := hH.c _ _
  refine l_callV rfl rfl rfl (t_me_find hH 0 z5 z36 ⟨by omega, by omega⟩ ⟨by omega, by omega⟩ ⟨by omega, by omega⟩ (by first | assumption | exact (by first | assumption | exact (by assumption : WI S).1 : LEX S)) _) ?_
  rintro _ _ ⟨rfl, z41, rfl, w41, w38, w39, w40⟩
  have w42 : z41 ≠ -1 → _ := fun h => fb0 hH (w38 h)
  clear w39
  show Rl _ _ _ _ _ [iv z41] _ _
  refine l_istore rfl rfl rfl ?_
  refine l_iload rfl rfl ?_
  refine l_iconst rfl ?_
  refine l_icmp_ne rfl rfl (by unfold rg; omega) (by unfold rg; omega) (fun w43 => ?_) (fun w44 => ?_)
  · refine l_aload_n rfl rfl ?_
    refine l_gfr rfl rfl rfl rfl rfl (hH.r 891 2 1 rfl) ?_
    refine l_iconst rfl ?_
    refine l_callV rfl rfl rfl (t_vo_countOf hH 3 ⟨by omega, by omega⟩ _) ?_
    rintro _ _ ⟨rfl, z49, rfl, w49, w46, w47, w48⟩
    have w50 : z49 = Xi S 5 3 ∧ 0 ≤ Xi S 5 3 ∧ Xi S 5 3 ≤ 24 := ⟨(w46 (by omega) (by omega)).1, hH.c 5 3⟩
    clear w46 w47 w48
    show Rl _ _ _ _ _ [iv z49] _ _
    refine l_istore rfl rfl rfl ?_
    refine l_aload_n rfl rfl ?_
    refine l_iload_n rfl rfl ?_
    refine l_iload_n rfl rfl ?_
    refine l_iload rfl rfl ?_
    refine l_bipush rfl rfl ?_
    refine l_callV rfl rfl rfl (t_re_takeNew hH ((Xi S 890 3) + 2) z16 z49 24 ⟨by omega, by omega⟩ ⟨by omega, by omega⟩ ⟨by omega, by omega⟩ ⟨by omega, by omega⟩ (by first | assumption | exact (by first | assumption | exact (by assumption : WI S).1 : LEX S)) _) ?_
    rintro _ T1 ⟨hHT1, w59, z58, rfl, w58, w53, w54, w55, w56, w57⟩
    have hFT1 : FR md_re_tellCan S T1 := FR.tr hF w59 rfl
    show Rl _ _ _ _ _ [iv z58] _ _
    refine l_if_eq rfl rfl (by unfold rg; omega) (fun w60 => ?_) (fun w61 => ?_)
    · refine l_iconst rfl ?_
      refine l_ireturn rfl rfl ?_
      have w64 : 0 ≤ Xi T1 876 8 ∧ Xi T1 876 8 ≤ 9 := hHT1.c _ _
      exact ⟨hHT1, hFT1, _, rfl, ⟨by omega, by omega⟩, (by first | (intro hz; omega) | (intro _; assumption) | (intro hz; apply_assumption; omega) | (intro _; exact (WI_FR hH w59 rfl rfl rfl rfl rfl rfl rfl rfl rfl (by assumption : WI S)))), (by omega)⟩
    · refine l_aload_n rfl rfl ?_
      refine l_iload_n rfl rfl ?_
      refine l_iconst rfl ?_
      refine l_iadd rfl ?_
      refine l_iload rfl rfl ?_
      refine l_iload rfl rfl ?_
      refine l_bipush rfl rfl ?_
      have w65 : Xi T1 5 3 = Xi S 5 3 := (show Xi T1 5 3 = Xi S 5 3 from w59.x _ _ rfl)
      have w67 : 0 ≤ Xi T1 891 9 ∧ Xi T1 891 9 ≤ 24 := hHT1.c _ _
      refine l_callV rfl rfl rfl (t_re_takeNew hHT1 (z16 + 1) z26 z49 24 ⟨by omega, by omega⟩ ⟨by omega, by omega⟩ ⟨by omega, by omega⟩ ⟨by omega, by omega⟩ (by first | assumption | exact (LEX_FR w59 rfl rfl (by first | assumption | exact (by assumption : WI S).1 : LEX S))) _) ?_
      rintro _ T2 ⟨hHT2, w74, z73, rfl, w73, w68, w69, w70, w71, w72⟩
      have hFT2 : FR md_re_tellCan S T2 := FR.tr hFT1 w74 rfl
      show Rl _ _ _ _ _ [iv z73] _ _
      refine l_if_ne rfl rfl (by unfold rg; omega) (fun w75 => ?_) (fun w76 => ?_)
      · refine l_aload_n rfl rfl ?_
        refine l_gfr rfl rfl rfl rfl rfl (hHT2.r 891 2 1 rfl) ?_
        refine l_iconst rfl ?_
        refine l_aload_n rfl rfl ?_
        refine l_gfr rfl rfl rfl rfl rfl (hHT2.r 891 0 876 rfl) ?_
        refine l_gfr rfl rfl rfl rfl rfl (hHT2.r 876 2 879 rfl) ?_
        refine l_iload_n rfl rfl ?_
        refine l_iload_n rfl rfl ?_
        have hWp : WI T2 := (WI_FR hHT1 w74 rfl rfl rfl rfl rfl rfl rfl rfl rfl (WI_FR hH w59 rfl rfl rfl rfl rfl rfl rfl rfl rfl (by assumption : WI S)))
        have hHp := hHT2
        have hP0 := FR.rf (l := md_re_tellCan) (S := T2)
        have w77 : Xi T2 5 3 = Xi S 5 3 := (show Xi T2 5 3 = Xi T1 5 3 from w74.x _ _ rfl).trans ((show Xi T1 5 3 = Xi S 5 3 from w59.x _ _ rfl))
        refine l_callV rfl rfl rfl (t_vo_tellNew hHT2 3 879 5130 ((Xi S 890 3) + 2) z16 ⟨by omega, by omega⟩ rfl ⟨by omega, by omega⟩ ⟨by omega, by omega⟩ ⟨by omega, by omega⟩ (by first | assumption | exact (LEX_FR w74 rfl rfl (LEX_FR w59 rfl rfl (by first | assumption | exact (by assumption : WI S).1 : LEX S)))) (show Xi T2 5 3 + 1 ≤ 24 by first | omega | (have hz : Xi T2 5 3 = Xi T2 5 (3 : Int).toNat := rfl; omega)) (by first | assumption | omega) _) ?_
        rintro _ T3 ⟨hHT3, w85, z84, rfl, w84, w79, w80, w81, w82, w83⟩
        have hFT3 : FR md_re_tellCan S T3 := FR.tr hFT2 w85 rfl
        show Rl _ _ _ _ _ [iv z84] _ _
        have hz3 : z84 = Xi T2 5 3 := by have t := (by assumption : z84 = Xi T2 5 (3 : Int).toNat); exact t
        have hc3a : Xi T3 5 3 = Xi T2 5 3 + 1 := by have t := (by assumption : Xi T3 5 (3 : Int).toNat = Xi T2 5 (3 : Int).toNat + 1); exact t
        have ho3a : ∀ j, j ≠ 3 → Xi T3 5 j = Xi T2 5 j := by have t := (by assumption : ∀ j, j ≠ (3 : Int).toNat → Xi T3 5 j = Xi T2 5 j); exact t
        have h11a : ∀ a, Xi T3 11 a = Xi T2 11 a := fun a => ((by assumption : FR md_vo_tellNew T2 T3).cx 11 rfl a).1
        have hP1 := FR.tr hP0 (by assumption : FR md_vo_tellNew T2 T3) rfl
        refine l_istore rfl rfl rfl ?_
        refine l_aload_n rfl rfl ?_
        refine l_gfr rfl rfl rfl rfl rfl (hHT3.r 891 2 1 rfl) ?_
        refine l_iconst rfl ?_
        refine l_aload_n rfl rfl ?_
        refine l_gfr rfl rfl rfl rfl rfl (hHT3.r 891 0 876 rfl) ?_
        refine l_gfr rfl rfl rfl rfl rfl (hHT3.r 876 2 879 rfl) ?_
        refine l_iload_n rfl rfl ?_
        refine l_iconst rfl ?_
        refine l_iadd rfl ?_
        refine l_iload rfl rfl ?_
        have w86 : 0 ≤ Xi T3 5 3 ∧ Xi T3 5 3 ≤ 24 := hHT3.c _ _
        refine l_callV rfl rfl rfl (t_vo_tellNew hHT3 3 879 5130 (z16 + 1) z26 ⟨by omega, by omega⟩ rfl ⟨by omega, by omega⟩ ⟨by omega, by omega⟩ ⟨by omega, by omega⟩ (by first | assumption | exact (by first | assumption | exact (by assumption : WI T3).1 : LEX T3)) (show Xi T3 5 3 + 1 ≤ 24 by first | omega | (have hz : Xi T3 5 3 = Xi T3 5 (3 : Int).toNat := rfl; omega)) (by first | assumption | omega) _) ?_
        rintro _ T4 ⟨hHT4, w93, z92, rfl, w92, w87, w88, w89, w90, w91⟩
        have hFT4 : FR md_re_tellCan S T4 := FR.tr hFT3 w93 rfl
        show Rl _ _ _ _ _ [iv z92] _ _
        have hc3b : Xi T4 5 3 = Xi T3 5 3 + 1 := by have t := (by assumption : Xi T4 5 (3 : Int).toNat = Xi T3 5 (3 : Int).toNat + 1); exact t
        have ho3b : ∀ j, j ≠ 3 → Xi T4 5 j = Xi T3 5 j := by have t := (by assumption : ∀ j, j ≠ (3 : Int).toNat → Xi T4 5 j = Xi T3 5 j); exact t
        have h11b : ∀ a, Xi T4 11 a = Xi T3 11 a := fun a => ((by assumption : FR md_vo_tellNew T3 T4).cx 11 rfl a).1
        have hP2 := FR.tr hP1 (by assumption : FR md_vo_tellNew T3 T4) rfl
        have hL2 : LEX T4 := by assumption
        refine l_pop rfl rfl ?_
        refine l_aload_n rfl rfl ?_
        refine l_gfr rfl rfl rfl rfl rfl (hHT4.r 891 2 1 rfl) ?_
        refine l_iload rfl rfl ?_
        refine l_iload rfl rfl ?_
        refine l_callV rfl rfl rfl (t_vo_makeContrary__2 hHT4 z84 z41 ⟨by omega, by omega⟩ ⟨by omega, by omega⟩ _) ?_
        rintro _ T5 ⟨hHT5, w98, rfl, w95, w96⟩
        have hFT5 : FR md_re_tellCan S T5 := FR.tr hFT4 w98 rfl
        show Rl _ _ _ _ _ [] _ _
        have hP3 := FR.tr hP2 (by assumption : FR md_vo_makeContrary__2 T4 T5) rfl
        have hL3 : LEX T5 := LEX_FR (by assumption : FR md_vo_makeContrary__2 T4 T5) rfl rfl hL2
        have h5q : ∀ j, Xi T5 5 j = Xi T4 5 j := fun j => ((by assumption : FR md_vo_makeContrary__2 T4 T5).cx 5 rfl j).1
        have hWe : WI T5 := WI_can hHp hP3 rfl rfl rfl rfl rfl rfl hL3 (fun j hj => (h5q j).trans ((ho3b j hj).trans (ho3a j hj))) (by have t := h5q 3; omega) hz3 (fun a h1 h2 => ((by assumption : ∀ a : Nat, a ≠ (z84).toNat → a ≠ (z84 + 1).toNat → Xi T5 11 a = Xi T4 11 a) a h1 h2).trans ((h11b a).trans (h11a a))) (by omega) (by omega) hWp
        refine l_iconst rfl ?_
        refine l_ireturn rfl rfl ?_
        have w101 : Xi T5 876 8 = Xi T2 876 8 := (show Xi T5 876 8 = Xi T4 876 8 from w98.x _ _ rfl).trans ( (show Xi T4 876 8 = Xi T3 876 8 from w93.x _ _ rfl).trans ((show Xi T3 876 8 = Xi T2 876 8 from w85.x _ _ rfl)))
        have w102 : 0 ≤ Xi T2 876 8 ∧ Xi T2 876 8 ≤ 9 := hHT2.c _ _
        exact ⟨hHT5, hFT5, _, rfl, ⟨by omega, by omega⟩, (by first | (intro hz; omega) | (intro _; assumption) | (intro hz; apply_assumption; omega) | (intro _; exact (by assumption : WI T5))), (by omega)⟩
      · refine l_iconst rfl ?_
        refine l_ireturn rfl rfl ?_
        have w105 : 0 ≤ Xi T2 876 8 ∧ Xi T2 876 8 ≤ 9 := hHT2.c _ _
        exact ⟨hHT2, hFT2, _, rfl, ⟨by omega, by omega⟩, (by first | (intro hz; omega) | (intro _; assumption) | (intro hz; apply_assumption; omega) | (intro _; exact (WI_FR hHT1 w74 rfl rfl rfl rfl rfl rfl rfl rfl rfl (WI_FR hH w59 rfl rfl rfl rfl rfl rfl rfl rfl rfl (by assumption : WI S))))), (by omega)⟩
  · refine l_aload_n rfl rfl ?_
    refine l_gfr rfl rfl rfl rfl rfl (hH.r 891 0 876 rfl) ?_
    refine l_iconst rfl ?_
    refine l_iload_n rfl rfl ?_
    refine l_callV rfl rfl rfl (t_to_wrong hH 4 z5 ⟨by omega, by omega⟩ ⟨by omega, by omega⟩ _) ?_
    rintro _ T6 ⟨hHT6, w110, z109, rfl, w109, w107, w108⟩
    have hFT6 : FR md_re_tellCan S T6 := FR.tr hF w110 rfl
    show Rl _ _ _ _ _ [iv z109] _ _
    refine l_ireturn rfl (retI_z (by omega)) ?_
    have w113 : 0 ≤ Xi T6 876 8 ∧ Xi T6 876 8 ≤ 9 := hHT6.c _ _
    exact ⟨hHT6, hFT6, _, rfl, ⟨by omega, by omega⟩, (by first | (intro hz; omega) | (intro _; assumption) | (intro hz; apply_assumption; omega) | (intro _; exact (WI_FR hH w110 rfl rfl rfl rfl rfl rfl rfl rfl rfl (by assumption : WI S)))), (by omega)⟩
/-! SAFETY: told sentences: actions -/
theorem WI_ac {S T U : sS} {z : Int} {v : Int32} (hH : HI S) (h : FR md_vo_tellNew S T) (hL : LEX T) (hc : Xi T 5 8 = Xi S 5 8 + 1) (ho : ∀ j, j ≠ 8 → Xi T 5 j = Xi S 5 j) (e : U = uI T 19 z.toNat v) (hz : z = Xi S 5 8) (hW : WI S) : WI U := by
  obtain ⟨w1, w2, w3, w4, w5, w6, w7, w8⟩ := hW
  have h8 : 0 ≤ Xi S 5 8 ∧ Xi S 5 8 ≤ 12 := hH.c _ _
  have f := FR_e e
  have k := h.smk (ks := [(8, 9), (11, 14), (19, 20), (66, 106), (107, 147), (148, 188), (248, 272), (274, 876), (883, 884), (885, 887), (902, 904)]) rfl
  have x5 : ∀ j, Xi U 5 j = Xi T 5 j := fun j => (f.cx 5 rfl j).1
  have x19 : ∀ j : Nat, (j : Int) < Xi S 5 8 → Xi U 19 j = Xi S 19 j := fun j hj => by
    rw [e, Xi_ne (by omega)]; exact k.x 19 rfl j
  have xx : ∀ a j, inK [(8, 9), (11, 14), (66, 106), (107, 147), (148, 188), (248, 272), (274, 876), (883, 884), (885, 887), (902, 904)] a = true → Xi U a j = Xi S a j := fun a j ha => by
    rw [e, Xi_ne (fun q => by rw [q.1] at ha; cases ha)]
    refine k.x a ?_ j
    obtain ⟨y, hy, h1⟩ := List.any_eq_true.mp ha
    exact List.any_eq_true.mpr ⟨y, by
      simp only [List.mem_cons, List.not_mem_nil, or_false] at hy ⊢
      rcases hy with hy | hy | hy | hy | hy | hy | hy | hy | hy | hy <;> simp [hy], h1⟩
  have x246 : ∀ j, Xi U 246 j = Xi S 246 j := fun j => by rw [(f.cx 246 rfl j).1]; exact (h.cx 246 rfl j).1
  have x882 : Xi U 882 3 = Xi S 882 3 := by rw [(f.cx 882 rfl 3).1]; exact (h.cx 882 rfl 3).1
  have t20 : U.2.2 20 1 = S.2.2 20 1 := by rw [e]; exact (h 20 1 rfl).2.2
  have h24 : 0 ≤ Xi S 246 2 ∧ Xi S 246 2 ≤ 24 := hH.c _ _
  have r8 : 0 ≤ Xi S 246 8 ∧ Xi S 246 8 ≤ 1666 := hH.c _ _
  have g : sG S U := by
    refine ⟨fun a j ha => ?_, t20, ⟨by rw [x246]; exact Int.le_refl _, by rw [x246]; exact r8.2, fun j _ => ⟨xx 274 j rfl, xx 275 j rfl⟩⟩, by rw [x5, ho 3 (by decide)]; exact Int.le_refl _, by rw [x5, hc]; omega, x19, by rw [x246]; exact Int.le_refl _, fun c hc1 _ j => xx (276 + c) j (inK_i (a := 274) (b := 876) (by decide) (by omega) (by omega))⟩
    have a1 := k a j (by
      obtain ⟨q, hq, h1⟩ := List.any_eq_true.mp ha
      rw [List.mem_singleton] at hq
      subst hq
      rw [Bool.and_eq_true] at h1
      exact inK_i (a := 902) (b := 904) (by decide) (Nat.le_of_ble_eq_true h1.1) (Nat.le_of_ble_eq_true h1.2))
    have hne : a ≠ 19 := fun q => by rw [q] at ha; cases ha
    have a2 : U.1 a j = T.1 a j ∧ U.2.1 a j = T.2.1 a j ∧ U.2.2 a j = T.2.2 a j := by
      refine f a j ?_
      unfold mdf inR
      simp only [List.any_cons, List.any_nil, Bool.or_false]
      rcases Nat.lt_or_gt_of_ne hne with q | q
      · rw [show Nat.ble 19 a = false from Bool.eq_false_iff.mpr (fun w => by have := Nat.le_of_ble_eq_true w; omega)]; rfl
      · rw [show Nat.blt a (19 + 1) = false from Bool.eq_false_iff.mpr (fun w => by have := Nat.le_of_ble_eq_true w; omega)]; simp
    exact ⟨a2.1.trans a1.1, a2.2.1.trans a1.2.1, a2.2.2.trans a1.2.2⟩
  refine ⟨LEX_FR f rfl rfl hL, fun r p hr hp hk => ?_, DEF_sG hH g (fun a _ => ⟨xx 11 a rfl, xx 12 a rfl, xx 13 a rfl⟩) (fun a h1 h2 => by rw [x5, ho 3 (by decide)] at h2; omega) w3, RUL_sG hH g (fun i hi j => xx (248 + i) j (inK_i (a := 248) (b := 272) (by decide) (by omega) (by omega))) (x246 2) w4, fun i hi => ?_, ?_, ?_, fun t => ?_⟩
  · rw [xx (66 + r) p (inK_i (a := 66) (b := 106) (by decide) (by omega) (by omega))] at hk
    rw [xx (107 + r) p (inK_i (a := 107) (b := 147) (by decide) (by omega) (by omega)), xx (148 + r) p (inK_i (a := 148) (b := 188) (by decide) (by omega) (by omega))]
    exact TXT_eq t20 (w2 r p hr hp hk)
  · rw [x882] at hi
    obtain ⟨a, b⟩ := w5 i hi
    have ra : 0 ≤ Xi S 883 i ∧ Xi S 883 i ≤ 11 := hH.c _ _
    rw [xx 883 i rfl, xx 885 i rfl, xx 886 i rfl, x19 _ (by omega), x5, hc]
    exact ⟨by omega, b⟩
  · obtain ⟨a, b0, b1, b2, b3, b4⟩ := w6
    unfold AK
    rw [x5, hc, x19 0 (by omega), x19 1 (by omega), x19 2 (by omega), x19 3 (by omega), x19 4 (by omega)]
    exact ⟨by omega, b0, b1, b2, b3, b4⟩
  · unfold CC at *
    rw [x246, x246, x5, ho 3 (by decide)]
    exact w7
  · rw [vals_fr (fun j => xx 8 j rfl) (by rw [x5]; exact ho 4 (by decide))]
    exact w8 t
/-! SAFETY of methods: printed by wip/safe (vc.py, decl.py) -/
def md_re_tellActions : List rec := [(1, 2, 3, 4), (2, 3, 0, 100000), (3, 4, 0, 100000), (4, 5, 0, 100000), (5, 6, 0, 100000), (19, 20, 0, 100000), (876, 877, 8, 9), (876, 877, 9, 10), (891, 892, 9, 10), (892, 893, 0, 100000), (893, 894, 0, 100000)]
abbrev Q_re_tellActions (S : sS) : pst := fun r S1 => HI S1 ∧ FR md_re_tellActions S S1 ∧ (∃ z : Int, r = some (iv z) ∧ (0 ≤ z ∧ z ≤ 1) ∧ (z = 1 → WI S1) ∧ (z = 0 → Xi S1 876 8 ≠ 0))
set_option maxRecDepth 100000 in
theorem t_re_tellActions {S : sS} (hH : HI S) (hW : WI S) (hn0 : Xi S 891 9 = 0) (d : Nat) : Mt lay0 (d + 4) m_re_tellActions [.ref 891] S (Q_re_tellActions S) := by
  refine Mt_R rfl rfl ?_
  have hF : FR md_re_tellActions S S := FR.rf
  have w1 : 0 ≤ Xi S 5 8 ∧ Xi S 5 8 ≤ 12 := hH.c _ _
  have w2 : -1 ≤ Xi S 890 3 ∧ Xi S 890 3 ≤ 5124 := hH.c _ _
  have w3 : 0 ≤ Xi S 891 9 ∧ Xi S 891 9 ≤ 24 := hH.c _ _
  have hL := hW.1
  have hX := hW.2.1
  have h890 : -1 ≤ Xi S 890 3 ∧ Xi S 890 3 ≤ 5124 := hH.c _ _
  have hc8 : 0 ≤ Xi S 5 8 ∧ Xi S 5 8 ≤ 12 := hH.c _ _
  have C10 : ∀ (n10 : Nat) (T1 : sS) (_ : HI T1) (_ : FR md_re_tellActions S T1) (v1 : Int) (v2 : Int), (-1 ≤ v1 ∧ v1 ≤ 5124) → (0 ≤ v2 ∧ v2 ≤ 5124) → (WI T1) → (Xi T1 891 9 = 0 ∨ Xi S 5 8 + Xi T1 891 9 ≤ 12) → (Xi T1 5 8 = Xi S 5 8) → (v1 = Xi S 890 3) → n10 = (5125 - v2).toNat → Rl lay0 (d + 3) m_re_tellActions 10 [(0, .ref 891), (1, iv v1), (2, iv v2)] [] T1 (Q_re_tellActions S) := by
    intro n10
    induction n10 using Nat.strongRecOn with
    | ind n10 ih10 =>
      intro T1 hHT1 hFT1 v1 v2 w4 w5 hW10 w6 w7 w8 hm10
      have w9 : Xi T1 876 7 = Xi S 876 7 := hFT1.x _ _ rfl
      have w10 : Xi T1 890 3 = Xi S 890 3 := hFT1.x _ _ rfl
      have w11 : 0 ≤ Xi T1 5 8 ∧ Xi T1 5 8 ≤ 12 := hHT1.c _ _
      have w12 : 0 ≤ Xi T1 891 9 ∧ Xi T1 891 9 ≤ 24 := hHT1.c _ _
      have C117 : ∀  (T2 : sS) (_ : HI T2) (_ : FR md_re_tellActions S T2) (v2 : Int), (-1 ≤ v2 ∧ v2 ≤ 15) → (WI T2) → (Xi T2 891 9 = 0 ∨ Xi S 5 8 + Xi T2 891 9 ≤ 12) → (Xi T2 5 8 = Xi S 5 8) → Rl lay0 (d + 3) m_re_tellActions 117 [(0, .ref 891), (2, iv v2)] [] T2 (Q_re_tellActions S) := by
        intro T2 hHT2 hFT2 v2 w13 hW117 w14 w15
        have w16 : Xi T2 876 7 = Xi S 876 7 := hFT2.x _ _ rfl
        have w17 : Xi T2 890 3 = Xi S 890 3 := hFT2.x _ _ rfl
        have w18 : 0 ≤ Xi T2 5 8 ∧ Xi T2 5 8 ≤ 12 := hHT2.c _ _
        have w19 : 0 ≤ Xi T2 891 9 ∧ Xi T2 891 9 ≤ 24 := hHT2.c _ _
        have C119 : ∀ (n119 : Nat) (T3 : sS) (_ : HI T3) (_ : FR md_re_tellActions S T3) (v2 : Int) (v3 : Int), (-1 ≤ v2 ∧ v2 ≤ 15) → (0 ≤ v3 ∧ v3 ≤ 24) → (WI T3) → (Xi T3 891 9 = 0 ∨ Xi S 5 8 + Xi T3 891 9 ≤ 12) → (Xi T3 5 8 = Xi S 5 8 + v3) → (v3 ≤ Xi T3 891 9) → n119 = (25 - v3).toNat → Rl lay0 (d + 3) m_re_tellActions 119 [(0, .ref 891), (2, iv v2), (3, iv v3)] [] T3 (Q_re_tellActions S) := by
          intro n119
          induction n119 using Nat.strongRecOn with
          | ind n119 ih119 =>
            intro T3 hHT3 hFT3 v2 v3 w20 w21 hW119 w22 w23 w24 hm119
            have w25 : Xi T3 876 7 = Xi S 876 7 := hFT3.x _ _ rfl
            have w26 : Xi T3 890 3 = Xi S 890 3 := hFT3.x _ _ rfl
            have w27 : 0 ≤ Xi T3 5 8 ∧ Xi T3 5 8 ≤ 12 := hHT3.c _ _
            have w28 : 0 ≤ Xi T3 891 9 ∧ Xi T3 891 9 ≤ 24 := hHT3.c _ _
            refine l_iload_n rfl rfl ?_
            refine l_aload_n rfl rfl ?_
            refine l_gfi rfl rfl rfl rfl rfl ?_
            refine l_icmp_ge rfl rfl (by unfold rg; omega) (by unfold rg; omega) (fun w29 => ?_) (fun w30 => ?_)
            · refine l_iconst rfl ?_
              refine l_ireturn rfl rfl ?_
              have w32 : 0 ≤ Xi T3 876 8 ∧ Xi T3 876 8 ≤ 9 := hHT3.c _ _
              exact ⟨hHT3, hFT3, _, rfl, ⟨by omega, by omega⟩, (by first | (intro hz; omega) | (intro _; assumption) | (intro hz; apply_assumption; omega) | (intro _; exact (by assumption : WI T3))), (by omega)⟩
            · refine l_aload_n rfl rfl ?_
              refine l_gfr rfl rfl rfl rfl rfl (hHT3.r 891 2 1 rfl) ?_
              refine l_gfr rfl rfl rfl rfl rfl (hHT3.r 1 18 19 rfl) ?_
              refine l_aload_n rfl rfl ?_
              refine l_gfr rfl rfl rfl rfl rfl (hHT3.r 891 2 1 rfl) ?_
              refine l_bipush rfl rfl ?_
              refine l_aload_n rfl rfl ?_
              refine l_gfr rfl rfl rfl rfl rfl (hHT3.r 891 0 876 rfl) ?_
              refine l_gfr rfl rfl rfl rfl rfl (hHT3.r 876 2 879 rfl) ?_
              refine l_aload_n rfl rfl ?_
              refine l_gfr rfl rfl rfl rfl rfl (hHT3.r 891 7 892 rfl) ?_
              refine l_iload_n rfl rfl ?_
              refine l_iaload (n := 24) rfl rfl (by omega) (by omega) (by unfold rg; omega) ?_
              have w34 : 0 ≤ (Xi T3 892 ((v3).toNat)) ∧ (Xi T3 892 ((v3).toNat)) ≤ 5130 := hHT3.c _ _
              refine l_aload_n rfl rfl ?_
              refine l_gfr rfl rfl rfl rfl rfl (hHT3.r 891 8 893 rfl) ?_
              refine l_iload_n rfl rfl ?_
              refine l_iaload (n := 24) rfl rfl (by omega) (by omega) (by unfold rg; omega) ?_
              have w35 : 0 ≤ (Xi T3 893 ((v3).toNat)) ∧ (Xi T3 893 ((v3).toNat)) ≤ 5130 := hHT3.c _ _
              have hWp : WI T3 := (by assumption : WI T3)
              have hHp := hHT3
              refine l_callV rfl rfl rfl (t_vo_tellNew hHT3 8 879 5130 (Xi T3 892 ((v3).toNat)) (Xi T3 893 ((v3).toNat)) ⟨by omega, by omega⟩ rfl ⟨by omega, by omega⟩ ⟨by omega, by omega⟩ ⟨by omega, by omega⟩ (by first | assumption | exact (by first | assumption | exact (by assumption : WI T3).1 : LEX T3)) (show Xi T3 5 8 + 1 ≤ 12 by first | omega | (have hz : Xi T3 5 8 = Xi T3 5 (8 : Int).toNat := rfl; omega)) (by first | assumption | omega) _) ?_
              rintro _ T4 ⟨hHT4, w44, z43, rfl, w43, w38, w39, w40, w41, w42⟩
              have hFT4 : FR md_re_tellActions S T4 := FR.tr hFT3 w44 rfl
              show Rl _ _ _ _ _ [iv z43, .ref 19] _ _
              have hz8 : z43 = Xi T3 5 8 := by have t := (by assumption : z43 = Xi T3 5 (8 : Int).toNat); exact t
              have hc8b : Xi T4 5 8 = Xi T3 5 8 + 1 := by have t := (by assumption : Xi T4 5 (8 : Int).toNat = Xi T3 5 (8 : Int).toNat + 1); exact t
              have ho8 : ∀ j, j ≠ 8 → Xi T4 5 j = Xi T3 5 j := by have t := (by assumption : ∀ j, j ≠ (8 : Int).toNat → Xi T4 5 j = Xi T3 5 j); exact t
              have hfr8 : FR md_vo_tellNew T3 T4 := by assumption
              have hL8 : LEX T4 := by assumption
              refine l_iload_n rfl rfl ?_
              refine l_iastore (n := 12) rfl rfl (by omega) (by omega) (by unfold rg; omega) ?_
              obtain ⟨U5, eU5⟩ : ∃ T : sS, T = uI T4 19 ((z43).toNat) (Int32.ofInt v2) := ⟨_, rfl⟩
              rw [← eU5]
              have hHU5 : HI U5 := by rw [eU5]; exact HI_w hHT4 (show -2 ≤ v2 by omega) (show v2 ≤ 15 by omega)
              have hFU5 : FR md_re_tellActions S U5 := by rw [eU5]; exact FR.wI hFT4 (mdf_i (r := (19, 20, 0, 100000)) (List.mem_of_getElem? (i := 5) rfl) (inR_i (by omega) (by omega) (by omega) (by omega)))
              have w45 : Xi U5 19 ((z43).toNat) = v2 := by rw [eU5]; exact Xi_same (by unfold rg; omega)
              have hWa : WI U5 := WI_ac hHp hfr8 hL8 hc8b ho8 eU5 hz8 hWp
              refine l_iinc rfl rfl rfl rfl ?_
              refine l_goto rfl rfl ?_
              have w46 : Xi U5 5 8 = Xi T4 5 8 := (show Xi U5 5 8 = Xi T4 5 8 from by rw [eU5]; exact Xi_ne (by omega))
              have w47 : 0 ≤ Xi T4 5 8 ∧ Xi T4 5 8 ≤ 12 := hHT4.c _ _
              have w48 : Xi U5 891 9 = Xi T3 891 9 := (show Xi U5 891 9 = Xi T4 891 9 from by rw [eU5]; exact Xi_ne (by omega)).trans ((show Xi T4 891 9 = Xi T3 891 9 from w44.x _ _ rfl))
              exact Rl_weak (ih119 _ (by omega) U5 hHU5 hFU5 (v2) ((v3 + 1)) (by omega) (by omega) (by first | assumption | exact (by assumption : WI U5)) (by omega) (by omega) (by omega) rfl) (And.intro rfl (And.intro rfl (And.intro rfl (True.intro))))
        refine l_iconst rfl ?_
        refine l_istore_n rfl rfl rfl ?_
        exact Rl_weak (C119 _ T2 hHT2 hFT2 (v2) (0) (by omega) (by omega) (by first | assumption | exact (by assumption : WI T2)) (by omega) (by omega) (by omega) rfl) (And.intro rfl (And.intro rfl (And.intro rfl (True.intro))))
      refine l_iload_n rfl rfl ?_
      refine l_iload_n rfl rfl ?_
      refine l_icmp_ge rfl rfl (by unfold rg; omega) (by unfold rg; omega) (fun w52 => ?_) (fun w53 => ?_)
      · refine l_iconst rfl ?_
        refine l_istore_n rfl rfl rfl ?_
        refine l_aload_n rfl rfl ?_
        refine l_gfr rfl rfl rfl rfl rfl (hHT1.r 891 0 876 rfl) ?_
        refine l_iload_n rfl rfl ?_
        refine l_iconst rfl ?_
        refine l_iadd rfl ?_
        have w55 : 0 ≤ Xi T1 876 7 ∧ Xi T1 876 7 ≤ 5125 := hHT1.c _ _
        refine l_callV rfl rfl rfl (t_to_typeAt hHT1 (v1 + 3) ⟨by omega, by omega⟩ _) ?_
        rintro _ _ ⟨rfl, z60, rfl, w60, w57, w58, w59⟩
        clear w58 w59
        show Rl _ _ _ _ _ [iv z60] _ _
        refine l_bipush rfl rfl ?_
        refine l_icmp_ne rfl rfl (by unfold rg; omega) (by unfold rg; omega) (fun w61 => ?_) (fun w62 => ?_)
        · have w63 : 0 ≤ Xi T1 5 8 ∧ Xi T1 5 8 ≤ 12 := hHT1.c _ _
          exact Rl_weak (C117 T1 hHT1 hFT1 ((-1)) (by omega) (by first | assumption | exact (by assumption : WI T1)) (by omega) (by omega)) (And.intro rfl (And.intro rfl (True.intro)))
        · refine l_aload_n rfl rfl ?_
          refine l_gfr rfl rfl rfl rfl rfl (hHT1.r 891 4 895 rfl) ?_
          refine l_iconst rfl ?_
          refine l_iload_n rfl rfl ?_
          refine l_bipush rfl rfl ?_
          refine l_iadd rfl ?_
          refine l_aload_n rfl rfl ?_
          refine l_gfr rfl rfl rfl rfl rfl (hHT1.r 891 0 876 rfl) ?_
          refine l_iload_n rfl rfl ?_
          refine l_bipush rfl rfl ?_
          refine l_iadd rfl ?_
          refine l_callV rfl rfl rfl (t_to_runEnd hHT1 (v1 + 6) ⟨by omega, by omega⟩ _) ?_
          rintro _ _ ⟨rfl, z75, rfl, w75, w68, w69, w70, w71, w72, w73, w74⟩
          clear w70 w71 w72 w73
          show Rl _ _ _ _ _ [iv z75, iv (v1 + 6), iv 0, .ref 895] _ _
          refine l_callV rfl rfl rfl (t_me_find hHT1 0 (v1 + 6) z75 ⟨by omega, by omega⟩ ⟨by omega, by omega⟩ ⟨by omega, by omega⟩ (by first | assumption | exact (by first | assumption | exact (by assumption : WI T1).1 : LEX T1)) _) ?_
          rintro _ _ ⟨rfl, z81, rfl, w81, w78, w79, w80⟩
          have w82 : z81 ≠ -1 → _ := fun h => fb0 hHT1 (w78 h)
          clear w79
          show Rl _ _ _ _ _ [iv z81] _ _
          refine l_istore_n rfl rfl rfl ?_
          refine l_iload_n rfl rfl ?_
          refine l_iconst rfl ?_
          refine l_icmp_ne rfl rfl (by unfold rg; omega) (by unfold rg; omega) (fun w83 => ?_) (fun w84 => ?_)
          · have w85 : 0 ≤ Xi T1 5 8 ∧ Xi T1 5 8 ≤ 12 := hHT1.c _ _
            exact Rl_weak (C117 T1 hHT1 hFT1 (z81) (by omega) (by first | assumption | exact (by assumption : WI T1)) (by omega) (by omega)) (And.intro rfl (And.intro rfl (True.intro)))
          · refine l_aload_n rfl rfl ?_
            refine l_gfr rfl rfl rfl rfl rfl (hHT1.r 891 0 876 rfl) ?_
            refine l_iconst rfl ?_
            refine l_iload_n rfl rfl ?_
            refine l_bipush rfl rfl ?_
            refine l_iadd rfl ?_
            refine l_callV rfl rfl rfl (t_to_wrong hHT1 4 (v1 + 6) ⟨by omega, by omega⟩ ⟨by omega, by omega⟩ _) ?_
            rintro _ T6 ⟨hHT6, w92, z91, rfl, w91, w89, w90⟩
            have hFT6 : FR md_re_tellActions S T6 := FR.tr hFT1 w92 rfl
            show Rl _ _ _ _ _ [iv z91] _ _
            refine l_ireturn rfl (retI_z (by omega)) ?_
            have w95 : 0 ≤ Xi T6 876 8 ∧ Xi T6 876 8 ≤ 9 := hHT6.c _ _
            exact ⟨hHT6, hFT6, _, rfl, ⟨by omega, by omega⟩, (by first | (intro hz; omega) | (intro _; assumption) | (intro hz; apply_assumption; omega) | (intro _; exact (WI_FR hHT1 w92 rfl rfl rfl rfl rfl rfl rfl rfl rfl (by assumption : WI T1)))), (by omega)⟩
      · refine l_aload_n rfl rfl ?_
        refine l_iload_n rfl rfl ?_
        have w99 : 0 ≤ Xi T1 876 7 ∧ Xi T1 876 7 ≤ 5125 := hHT1.c _ _
        have w100 : -1 ≤ Xi T1 890 3 ∧ Xi T1 890 3 ≤ 5124 := hHT1.c _ _
        refine l_callV rfl rfl rfl (t_re_beginsName hHT1 v2 ⟨by omega, by omega⟩ _) ?_
        rintro _ _ ⟨rfl, z104, rfl, w104, w102, w103⟩
        show Rl _ _ _ _ _ [iv z104] _ _
        refine l_if_eq rfl rfl (by unfold rg; omega) (fun w105 => ?_) (fun w106 => ?_)
        · refine l_iinc rfl rfl rfl rfl ?_
          refine l_goto rfl rfl ?_
          exact Rl_weak (ih10 _ (by omega) T1 hHT1 hFT1 (v1) ((v2 + 1)) (by omega) (by omega) (by first | assumption | exact (by assumption : WI T1)) (by omega) (by omega) (by omega) rfl) (And.intro rfl (And.intro rfl (And.intro rfl (True.intro))))
        · refine l_aload_n rfl rfl ?_
          refine l_iload_n rfl rfl ?_
          refine l_aload_n rfl rfl ?_
          refine l_gfr rfl rfl rfl rfl rfl (hHT1.r 891 0 876 rfl) ?_
          refine l_iload_n rfl rfl ?_
          refine l_callV rfl rfl rfl (t_to_runEnd hHT1 v2 ⟨by omega, by omega⟩ _) ?_
          rintro _ _ ⟨rfl, z119, rfl, w119, w112, w113, w114, w115, w116, w117, w118⟩
          clear w114 w115 w116 w117
          show Rl _ _ _ _ _ [iv z119, iv v2, .ref 891] _ _
          refine l_aload_n rfl rfl ?_
          refine l_gfr rfl rfl rfl rfl rfl (hHT1.r 891 2 1 rfl) ?_
          refine l_bipush rfl rfl ?_
          refine l_callV rfl rfl rfl (t_vo_countOf hHT1 8 ⟨by omega, by omega⟩ _) ?_
          rintro _ _ ⟨rfl, z125, rfl, w125, w122, w123, w124⟩
          have w126 : z125 = Xi T1 5 8 ∧ 0 ≤ Xi T1 5 8 ∧ Xi T1 5 8 ≤ 12 := ⟨(w122 (by omega) (by omega)).1, hHT1.c 5 8⟩
          clear w122 w123 w124
          show Rl _ _ _ _ _ [iv z125, iv z119, iv v2, .ref 891] _ _
          refine l_bipush rfl rfl ?_
          refine l_callV rfl rfl rfl (t_re_takeNew hHT1 v2 z119 z125 12 ⟨by omega, by omega⟩ ⟨by omega, by omega⟩ ⟨by omega, by omega⟩ ⟨by omega, by omega⟩ (by first | assumption | exact (by first | assumption | exact (by assumption : WI T1).1 : LEX T1)) _) ?_
          rintro _ T7 ⟨hHT7, w135, z134, rfl, w134, w129, w130, w131, w132, w133⟩
          have hFT7 : FR md_re_tellActions S T7 := FR.tr hFT1 w135 rfl
          show Rl _ _ _ _ _ [iv z134] _ _
          refine l_if_ne rfl rfl (by unfold rg; omega) (fun w136 => ?_) (fun w137 => ?_)
          · refine l_iinc rfl rfl rfl rfl ?_
            refine l_goto rfl rfl ?_
            have w138 : Xi T7 5 8 = Xi T1 5 8 := (show Xi T7 5 8 = Xi T1 5 8 from w135.x _ _ rfl)
            have w140 : 0 ≤ Xi T7 891 9 ∧ Xi T7 891 9 ≤ 24 := hHT7.c _ _
            exact Rl_weak (ih10 _ (by omega) T7 hHT7 hFT7 (v1) ((v2 + 1)) (by omega) (by omega) (by first | assumption | exact (WI_FR hHT1 w135 rfl rfl rfl rfl rfl rfl rfl rfl rfl (by assumption : WI T1))) (by omega) (by omega) (by omega) rfl) (And.intro rfl (And.intro rfl (And.intro rfl (True.intro))))
          · refine l_iconst rfl ?_
            refine l_ireturn rfl rfl ?_
            have w143 : 0 ≤ Xi T7 876 8 ∧ Xi T7 876 8 ≤ 9 := hHT7.c _ _
            exact ⟨hHT7, hFT7, _, rfl, ⟨by omega, by omega⟩, (by first | (intro hz; omega) | (intro _; assumption) | (intro hz; apply_assumption; omega) | (intro _; exact (WI_FR hHT1 w135 rfl rfl rfl rfl rfl rfl rfl rfl rfl (by assumption : WI T1)))), (by omega)⟩
  refine l_aload_n rfl rfl ?_
  refine l_gfr rfl rfl rfl rfl rfl (hH.r 891 1 890 rfl) ?_
  refine l_gfi rfl rfl rfl rfl rfl ?_
  refine l_istore_n rfl rfl rfl ?_
  refine l_iconst rfl ?_
  refine l_istore_n rfl rfl rfl ?_
  exact Rl_weak (C10 _ S hH hF ((Xi S 890 3)) (0) (by omega) (by omega) (by first | assumption | exact (by assumption : WI S)) (by omega) (by omega) (by omega) rfl) (And.intro rfl (And.intro rfl (And.intro rfl (True.intro))))
/-! SAFETY: told sentences: kinds, values -/
/-- the names told new have one to three words -/
def NW (S : sS) : Prop := ∀ i : Nat, (i : Int) < Xi S 891 9 → 1 ≤ Xi S 893 i - Xi S 892 i ∧ Xi S 893 i - Xi S 892 i ≤ 3
theorem NW_FR {l : List rec} {S T : sS} (h : FR l S T) (e : (kdis l [(892, 894)] && !(mdf l 891 9)) = true) (hn : NW S) : NW T := by
  simp only [Bool.and_eq_true, Bool.not_eq_true'] at e
  have k := h.smk e.1
  intro i hi
  rw [h.x 891 9 e.2] at hi
  rw [k.x 892 rfl, k.x 893 rfl]
  exact hn i hi
theorem nw_0 {S : sS} (h : Xi S 891 9 = 0) : NW S := fun i hi => by omega
theorem nw_s {S T : sS} {a b : Int} (hn : NW S) (h1 : Xi T 891 9 = Xi S 891 9 + 1) (h2 : Xi T 892 (Xi S 891 9).toNat = a) (h3 : Xi T 893 (Xi S 891 9).toNat = b) (h4 : 1 ≤ b - a) (h5 : b - a ≤ 3) (h0 : 0 ≤ Xi S 891 9) (hk : ∀ j : Nat, (j : Int) < Xi S 891 9 → Xi T 892 j = Xi S 892 j ∧ Xi T 893 j = Xi S 893 j) : NW T := fun i hi => by
  by_cases e : (i : Int) < Xi S 891 9
  · rw [(hk i e).1, (hk i e).2]; exact hn i e
  · rw [show i = (Xi S 891 9).toNat by omega, h2, h3]; omega
theorem cap01 {S : sS} {v : Int} (hv : v = 0 ∨ v = 1) (h : Xi S 5 v.toNat + 1 ≤ 16 - 8 * v) : Xi S 5 v.toNat + 1 ≤ (lh 5 v.toNat).2 := by
  rcases hv with rfl | rfl
  · exact (by omega : Xi S 5 (0 : Int).toNat + 1 ≤ 16)
  · exact (by omega : Xi S 5 (1 : Int).toNat + 1 ≤ 8)
theorem c01 {S : sS} {v : Int} : (v = 0 → Xi S 5 v.toNat = Xi S 5 0) ∧ (v = 1 → Xi S 5 v.toNat = Xi S 5 1) := ⟨fun e => by rw [e]; rfl, fun e => by rw [e]; rfl⟩
/-! the values of all TYPES -/
theorem valn_add {S : sS} {t : Int} : ∀ (n : Nat) (i c : Int), valn S t n i c = c + valn S t n i 0 := by
  intro n
  induction n with
  | zero => intro i c; show c = c + 0; omega
  | succ n ih =>
    intro i c
    show valn S t n (i + 1) (c + _) = c + valn S t n (i + 1) (0 + _)
    rw [ih (i + 1) (c + _), ih (i + 1) (0 + _)]
    omega
theorem val_sum {S : sS} (h : ∀ j, 0 ≤ Xi S 8 j ∧ Xi S 8 j ≤ 7) : ∀ (n : Nat) (i : Int), valn S 0 n i 0 + valn S 1 n i 0 + valn S 2 n i 0 + valn S 3 n i 0 + valn S 4 n i 0 + valn S 5 n i 0 + valn S 6 n i 0 + valn S 7 n i 0 = n := by
  intro n
  induction n with
  | zero => intro i; rfl
  | succ n ih =>
    intro i
    have t := ih (i + 1)
    have hb := h i.toNat
    have u : ∀ t : Int, valn S t (n + 1) i 0 = (0 + (if Xi S 8 i.toNat = t then 1 else 0)) + valn S t n (i + 1) 0 := fun t => by
      show valn S t n (i + 1) (0 + _) = _
      exact valn_add _ _ _
    rw [u 0, u 1, u 2, u 3, u 4, u 5, u 6, u 7]
    have e : Xi S 8 i.toNat = 0 ∨ Xi S 8 i.toNat = 1 ∨ Xi S 8 i.toNat = 2 ∨ Xi S 8 i.toNat = 3 ∨ Xi S 8 i.toNat = 4 ∨ Xi S 8 i.toNat = 5 ∨ Xi S 8 i.toNat = 6 ∨ Xi S 8 i.toNat = 7 := by omega
    rcases e with e | e | e | e | e | e | e | e <;> (rw [e]; simp only [reduceIte, Int.reduceEq]; omega)
theorem val_64 {S : sS} {t n : Int} (hH : HI S) (hv : VAL S) (h0 : 0 ≤ t) (h7 : t ≤ 7) (hn : vals S t + n ≤ 8) : Xi S 5 4 + n ≤ 64 := by
  have a := val_sum (S := S) (fun j => hH.c 8 j) (Xi S 5 4).toNat 0
  have c4 : 0 ≤ Xi S 5 4 ∧ Xi S 5 4 ≤ 64 := hH.c _ _
  have b0 := hv 0
  have b1 := hv 1
  have b2 := hv 2
  have b3 := hv 3
  have b4 := hv 4
  have b5 := hv 5
  have b6 := hv 6
  have b7 := hv 7
  unfold vals at *
  have e : t = 0 ∨ t = 1 ∨ t = 2 ∨ t = 3 ∨ t = 4 ∨ t = 5 ∨ t = 6 ∨ t = 7 := by omega
  rcases e with rfl | rfl | rfl | rfl | rfl | rfl | rfl | rfl <;> omega
theorem valn_app {S : sS} {t : Int} : ∀ (n : Nat) (i c : Int), valn S t (n + 1) i c = valn S t n i c + (if Xi S 8 (i + n).toNat = t then 1 else 0) := by
  intro n
  induction n with
  | zero => intro i c; show c + _ = c + _; rw [show i + ((0 : Nat) : Int) = i by omega]
  | succ n ih =>
    intro i c
    show valn S t (n + 1) (i + 1) _ = valn S t n (i + 1) _ + _
    rw [ih (i + 1) _, show i + 1 + (n : Int) = i + ((n + 1 : Nat) : Int) by omega]
/-- a value more -/
theorem vals_app {S T U : sS} {z ty t : Int} (h0 : 0 ≤ Xi S 5 4) (h8 : ∀ j, Xi T 8 j = Xi S 8 j) (hc : Xi T 5 4 = Xi S 5 4 + 1) (e : U = uI T 8 z.toNat (Int32.ofInt ty)) (hz : z = Xi S 5 4) (hr : rg ty) : vals U t = vals S t + (if ty = t then 1 else 0) := by
  have x5 : Xi U 5 4 = Xi S 5 4 + 1 := by rw [e, Xi_ne (by omega)]; exact hc
  unfold vals
  rw [x5, show (Xi S 5 4 + 1).toNat = (Xi S 5 4).toNat + 1 by omega, valn_app]
  have a : ∀ (n : Nat) (i c : Int), 0 ≤ i → i + n ≤ Xi S 5 4 → valn U t n i c = valn S t n i c := by
    intro n
    induction n with
    | zero => intro i c _ _; rfl
    | succ n ih =>
      intro i c h1 h2
      show valn U t n (i + 1) (c + (if Xi U 8 i.toNat = t then 1 else 0)) = valn S t n (i + 1) (c + (if Xi S 8 i.toNat = t then 1 else 0))
      rw [show Xi U 8 i.toNat = Xi S 8 i.toNat by rw [e, Xi_ne (by omega)]; exact h8 _]
      exact ih (i + 1) _ (by omega) (by omega)
  rw [a _ 0 0 (by omega) (by omega), show (0 : Int) + ((Xi S 5 4).toNat : Int) = z by omega, e, Xi_same hr]
/-! SAFETY of methods: printed by wip/safe (vc.py, decl.py) -/
def md_re_tellKinds : List rec := [(1, 2, 3, 4), (2, 3, 0, 100000), (3, 4, 0, 100000), (4, 5, 0, 100000), (5, 6, 0, 100000), (6, 7, 0, 100000), (7, 8, 0, 100000), (876, 877, 8, 9), (876, 877, 9, 10), (891, 892, 9, 10), (892, 893, 0, 100000), (893, 894, 0, 100000), (894, 895, 0, 100000)]
abbrev Q_re_tellKinds (S : sS) : pst := fun r S1 => HI S1 ∧ FR md_re_tellKinds S S1 ∧ (∃ z : Int, r = some (iv z) ∧ (0 ≤ z ∧ z ≤ 1) ∧ (z = 1 → WI S1) ∧ (z = 0 → Xi S1 876 8 ≠ 0))
set_option maxRecDepth 100000 in
theorem t_re_tellKinds {S : sS} (hH : HI S) (hW : WI S) (hn0 : Xi S 891 9 = 0) (d : Nat) : Mt lay0 (d + 4) m_re_tellKinds [.ref 891] S (Q_re_tellKinds S) := by
  refine Mt_R rfl rfl ?_
  have hF : FR md_re_tellKinds S S := FR.rf
  have w1 : -1 ≤ Xi S 890 3 ∧ Xi S 890 3 ≤ 5124 := hH.c _ _
  have w2 : 0 ≤ Xi S 891 9 ∧ Xi S 891 9 ≤ 24 := hH.c _ _
  have hL := hW.1
  have hX := hW.2.1
  have h890 : -1 ≤ Xi S 890 3 ∧ Xi S 890 3 ≤ 5124 := hH.c _ _
  have hk0 : Xi S 5 (0 : Int).toNat ≤ 16 := (hH.c 5 0).2
  have hk1 : Xi S 5 (1 : Int).toNat ≤ 8 := (hH.c 5 1).2
  have C68 : ∀ (n68 : Nat) (T1 : sS) (_ : HI T1) (_ : FR md_re_tellKinds S T1) (v1 : Int) (v2 : Int) (v3 : Int) (v4 : Int) (v5 : Int), (-1 ≤ v1 ∧ v1 ≤ 5124) → (0 ≤ v2 ∧ v2 ≤ 1) → (0 ≤ v3 ∧ v3 ≤ 1) → (0 ≤ v4 ∧ v4 ≤ 1) → (0 ≤ v5 ∧ v5 ≤ 5124) → (WI T1) → (NW T1) → (v1 = Xi S 890 3) → (v4 = v3) → (Xi S 5 v4.toNat + Xi T1 891 9 ≤ 16 - 8 * v3) → (Xi T1 5 v4.toNat = Xi S 5 v4.toNat) → n68 = (5125 - v5).toNat → Rl lay0 (d + 3) m_re_tellKinds 68 [(0, .ref 891), (1, iv v1), (2, iv v2), (3, iv v3), (4, iv v4), (5, iv v5)] [] T1 (Q_re_tellKinds S) := by
    intro n68
    induction n68 using Nat.strongRecOn with
    | ind n68 ih68 =>
      intro T1 hHT1 hFT1 v1 v2 v3 v4 v5 w3 w4 w5 w6 w7 hW68 hN68 w8 w9 w10 h5_68 hm68
      have w11 : Xi T1 876 7 = Xi S 876 7 := hFT1.x _ _ rfl
      have w12 : Xi T1 890 3 = Xi S 890 3 := hFT1.x _ _ rfl
      have w13 : 0 ≤ Xi T1 891 9 ∧ Xi T1 891 9 ≤ 24 := hHT1.c _ _
      have C190 : ∀  (T2 : sS) (_ : HI T2) (_ : FR md_re_tellKinds S T2) (v3 : Int) (v4 : Int) (v5 : Int), (0 ≤ v3 ∧ v3 ≤ 1) → (0 ≤ v4 ∧ v4 ≤ 1) → (0 ≤ v5 ∧ v5 ≤ 15) → (WI T2) → (NW T2) → (v4 = v3) → (Xi S 5 v4.toNat + Xi T2 891 9 ≤ 16 - 8 * v3) → (Xi T2 5 v4.toNat = Xi S 5 v4.toNat) → Rl lay0 (d + 3) m_re_tellKinds 190 [(0, .ref 891), (3, iv v3), (4, iv v4), (5, iv v5)] [] T2 (Q_re_tellKinds S) := by
        intro T2 hHT2 hFT2 v3 v4 v5 w14 w15 w16 hW190 hN190 w17 w18 h5_190
        have w19 : Xi T2 876 7 = Xi S 876 7 := hFT2.x _ _ rfl
        have w20 : Xi T2 890 3 = Xi S 890 3 := hFT2.x _ _ rfl
        have w21 : 0 ≤ Xi T2 891 9 ∧ Xi T2 891 9 ≤ 24 := hHT2.c _ _
        have C204 : ∀ (n204 : Nat) (T3 : sS) (_ : HI T3) (_ : FR md_re_tellKinds S T3) (v3 : Int) (v4 : Int) (v5 : Int) (v6 : Int) (v7 : Int), (0 ≤ v3 ∧ v3 ≤ 1) → (0 ≤ v4 ∧ v4 ≤ 1) → (0 ≤ v5 ∧ v5 ≤ 15) → (0 ≤ v6 ∧ v6 ≤ 16) → (0 ≤ v7 ∧ v7 ≤ 24) → (WI T3) → (NW T3) → (v4 = v3) → (Xi S 5 v4.toNat + Xi T3 891 9 ≤ 16 - 8 * v3) → (v6 = Xi S 5 v4.toNat) → (Xi T3 5 v4.toNat = v6 + v7) → (v7 ≤ Xi T3 891 9) → n204 = (25 - v7).toNat → Rl lay0 (d + 3) m_re_tellKinds 204 [(0, .ref 891), (3, iv v3), (4, iv v4), (5, iv v5), (6, iv v6), (7, iv v7)] [] T3 (Q_re_tellKinds S) := by
          intro n204
          induction n204 using Nat.strongRecOn with
          | ind n204 ih204 =>
            intro T3 hHT3 hFT3 v3 v4 v5 v6 v7 w22 w23 w24 w25 w26 hW204 hN204 w27 w28 w29 h5_204 w30 hm204
            have w31 : Xi T3 876 7 = Xi S 876 7 := hFT3.x _ _ rfl
            have w32 : Xi T3 890 3 = Xi S 890 3 := hFT3.x _ _ rfl
            have w33 : 0 ≤ Xi T3 891 9 ∧ Xi T3 891 9 ≤ 24 := hHT3.c _ _
            have C281 : ∀ (n281 : Nat) (T4 : sS) (_ : HI T4) (_ : FR md_re_tellKinds S T4) (v3 : Int) (v6 : Int) (v7 : Int), (0 ≤ v3 ∧ v3 ≤ 1) → (0 ≤ v6 ∧ v6 ≤ 16) → (0 ≤ v7 ∧ v7 ≤ 24) → (WI T4) → (NW T4) → (v4 = v3) → (Xi S 5 v4.toNat + Xi T4 891 9 ≤ 16 - 8 * v3) → (v6 = Xi S 5 v4.toNat) → (Xi T4 5 v4.toNat = v6 + Xi T4 891 9) → n281 = (25 - v7).toNat → Rl lay0 (d + 3) m_re_tellKinds 281 [(0, .ref 891), (3, iv v3), (6, iv v6), (7, iv v7)] [] T4 (Q_re_tellKinds S) := by
              intro n281
              induction n281 using Nat.strongRecOn with
              | ind n281 ih281 =>
                intro T4 hHT4 hFT4 v3 v6 v7 w34 w35 w36 hW281 hN281 w37 w38 w39 h5_281 hm281
                have w40 : Xi T4 876 7 = Xi S 876 7 := hFT4.x _ _ rfl
                have w41 : Xi T4 890 3 = Xi S 890 3 := hFT4.x _ _ rfl
                have w42 : 0 ≤ Xi T4 891 9 ∧ Xi T4 891 9 ≤ 24 := hHT4.c _ _
                refine l_iload rfl rfl ?_
                refine l_aload_n rfl rfl ?_
                refine l_gfi rfl rfl rfl rfl rfl ?_
                refine l_icmp_ge rfl rfl (by unfold rg; omega) (by unfold rg; omega) (fun w43 => ?_) (fun w44 => ?_)
                · refine l_iconst rfl ?_
                  refine l_ireturn rfl rfl ?_
                  have w45 : 0 ≤ Xi T4 876 8 ∧ Xi T4 876 8 ≤ 9 := hHT4.c _ _
                  exact ⟨hHT4, hFT4, _, rfl, ⟨by omega, by omega⟩, (by first | (intro hz; omega) | (intro _; assumption) | (intro hz; apply_assumption; omega) | (intro _; exact (by assumption : WI T4))), (by omega)⟩
                · refine l_aload_n rfl rfl ?_
                  refine l_iload_n rfl rfl ?_
                  refine l_if_eq rfl rfl (by unfold rg; omega) (fun w47 => ?_) (fun w48 => ?_)
                  · refine l_bipush rfl rfl ?_
                    refine l_iload rfl rfl ?_
                    refine l_iload rfl rfl ?_
                    refine l_iadd rfl ?_
                    have hc01 := c01 (S := T4) (v := v4)
                    have hWr : WI T4 := (by assumption : WI T4)
                    have hHq := hHT4
                    have hnw := hN281 v7.toNat (by omega)
                    refine l_aload_n rfl rfl ?_
                    refine l_gfr rfl rfl rfl rfl rfl (hHT4.r 891 7 892 rfl) ?_
                    refine l_iload rfl rfl ?_
                    refine l_iaload (n := 24) rfl rfl (by omega) (by omega) (by unfold rg; omega) ?_
                    have w49 : 0 ≤ (Xi T4 892 ((v7).toNat)) ∧ (Xi T4 892 ((v7).toNat)) ≤ 5130 := hHT4.c _ _
                    refine l_aload_n rfl rfl ?_
                    refine l_gfr rfl rfl rfl rfl rfl (hHT4.r 891 8 893 rfl) ?_
                    refine l_iload rfl rfl ?_
                    refine l_iaload (n := 24) rfl rfl (by omega) (by omega) (by unfold rg; omega) ?_
                    have w50 : 0 ≤ (Xi T4 893 ((v7).toNat)) ∧ (Xi T4 893 ((v7).toNat)) ≤ 5130 := hHT4.c _ _
                    refine l_callV rfl rfl rfl (t_re_nameWithS hHT4 11 (v6 + v7) (Xi T4 892 ((v7).toNat)) (Xi T4 893 ((v7).toNat)) ⟨by omega, by omega⟩ ⟨by omega, by omega⟩ ⟨by omega, by omega⟩ ⟨by omega, by omega⟩ (by first | assumption | exact (by first | assumption | exact (by assumption : WI T4).1 : LEX T4)) (by unfold lexB; omega) (by first | assumption | omega) _) ?_
                    rintro _ T5 ⟨hHT5, w55, rfl, w52, w53⟩
                    have hFT5 : FR md_re_tellKinds S T5 := FR.tr hFT4 w55 rfl
                    show Rl _ _ _ _ _ [] _ _
                    have hWs : WI T5 := WI_ns hHq (by assumption : FR md_re_nameWithS T4 T5) (by assumption) (by assumption) hWr
                    have h5s := (by assumption : ∀ j, Xi T5 5 j = Xi T4 5 j) v4.toNat
                    refine l_iinc rfl rfl rfl rfl ?_
                    refine l_goto rfl rfl ?_
                    have w56 : Xi T5 891 9 = Xi T4 891 9 := (show Xi T5 891 9 = Xi T4 891 9 from w55.x _ _ rfl)
                    exact Rl_weak (ih281 _ (by omega) T5 hHT5 hFT5 (v3) (v6) ((v7 + 1)) (by omega) (by omega) (by omega) (by first | assumption | exact (by assumption : WI T5)) (by first | assumption | exact (NW_FR w55 rfl (by assumption : NW T4))) (by omega) (by omega) (by omega) (by omega) rfl) (And.intro rfl (And.intro rfl (And.intro rfl (And.intro rfl (True.intro)))))
                  · refine l_bipush rfl rfl ?_
                    refine l_goto rfl rfl ?_
                    refine l_iload rfl rfl ?_
                    refine l_iload rfl rfl ?_
                    refine l_iadd rfl ?_
                    have hc01 := c01 (S := T4) (v := v4)
                    have hWr : WI T4 := (by assumption : WI T4)
                    have hHq := hHT4
                    have hnw := hN281 v7.toNat (by omega)
                    refine l_aload_n rfl rfl ?_
                    refine l_gfr rfl rfl rfl rfl rfl (hHT4.r 891 7 892 rfl) ?_
                    refine l_iload rfl rfl ?_
                    refine l_iaload (n := 24) rfl rfl (by omega) (by omega) (by unfold rg; omega) ?_
                    have w58 : 0 ≤ (Xi T4 892 ((v7).toNat)) ∧ (Xi T4 892 ((v7).toNat)) ≤ 5130 := hHT4.c _ _
                    refine l_aload_n rfl rfl ?_
                    refine l_gfr rfl rfl rfl rfl rfl (hHT4.r 891 8 893 rfl) ?_
                    refine l_iload rfl rfl ?_
                    refine l_iaload (n := 24) rfl rfl (by omega) (by omega) (by unfold rg; omega) ?_
                    have w59 : 0 ≤ (Xi T4 893 ((v7).toNat)) ∧ (Xi T4 893 ((v7).toNat)) ≤ 5130 := hHT4.c _ _
                    refine l_callV rfl rfl rfl (t_re_nameWithS hHT4 12 (v6 + v7) (Xi T4 892 ((v7).toNat)) (Xi T4 893 ((v7).toNat)) ⟨by omega, by omega⟩ ⟨by omega, by omega⟩ ⟨by omega, by omega⟩ ⟨by omega, by omega⟩ (by first | assumption | exact (by first | assumption | exact (by assumption : WI T4).1 : LEX T4)) (by unfold lexB; omega) (by first | assumption | omega) _) ?_
                    rintro _ T6 ⟨hHT6, w64, rfl, w61, w62⟩
                    have hFT6 : FR md_re_tellKinds S T6 := FR.tr hFT4 w64 rfl
                    show Rl _ _ _ _ _ [] _ _
                    have hWs : WI T6 := WI_ns hHq (by assumption : FR md_re_nameWithS T4 T6) (by assumption) (by assumption) hWr
                    have h5s := (by assumption : ∀ j, Xi T6 5 j = Xi T4 5 j) v4.toNat
                    refine l_iinc rfl rfl rfl rfl ?_
                    refine l_goto rfl rfl ?_
                    have w65 : Xi T6 891 9 = Xi T4 891 9 := (show Xi T6 891 9 = Xi T4 891 9 from w64.x _ _ rfl)
                    exact Rl_weak (ih281 _ (by omega) T6 hHT6 hFT6 (v3) (v6) ((v7 + 1)) (by omega) (by omega) (by omega) (by first | assumption | exact (by assumption : WI T6)) (by first | assumption | exact (NW_FR w64 rfl (by assumption : NW T4))) (by omega) (by omega) (by omega) (by omega) rfl) (And.intro rfl (And.intro rfl (And.intro rfl (And.intro rfl (True.intro)))))
            refine l_iload rfl rfl ?_
            refine l_aload_n rfl rfl ?_
            refine l_gfi rfl rfl rfl rfl rfl ?_
            refine l_icmp_ge rfl rfl (by unfold rg; omega) (by unfold rg; omega) (fun w67 => ?_) (fun w68 => ?_)
            · refine l_iconst rfl ?_
              refine l_istore rfl rfl rfl ?_
              exact Rl_weak (C281 _ T3 hHT3 hFT3 (v3) (v6) (0) (by omega) (by omega) (by omega) (by first | assumption | exact (by assumption : WI T3)) (by first | assumption | exact (by assumption : NW T3)) (by omega) (by omega) (by omega) (by omega) rfl) (And.intro rfl (And.intro rfl (And.intro rfl (And.intro rfl (True.intro)))))
            · refine l_aload_n rfl rfl ?_
              refine l_gfr rfl rfl rfl rfl rfl (hHT3.r 891 2 1 rfl) ?_
              refine l_iload rfl rfl ?_
              refine l_aload_n rfl rfl ?_
              refine l_gfr rfl rfl rfl rfl rfl (hHT3.r 891 0 876 rfl) ?_
              refine l_gfr rfl rfl rfl rfl rfl (hHT3.r 876 2 879 rfl) ?_
              refine l_aload_n rfl rfl ?_
              refine l_gfr rfl rfl rfl rfl rfl (hHT3.r 891 7 892 rfl) ?_
              refine l_iload rfl rfl ?_
              refine l_iaload (n := 24) rfl rfl (by omega) (by omega) (by unfold rg; omega) ?_
              have w70 : 0 ≤ (Xi T3 892 ((v7).toNat)) ∧ (Xi T3 892 ((v7).toNat)) ≤ 5130 := hHT3.c _ _
              refine l_aload_n rfl rfl ?_
              refine l_gfr rfl rfl rfl rfl rfl (hHT3.r 891 8 893 rfl) ?_
              refine l_iload rfl rfl ?_
              refine l_iaload (n := 24) rfl rfl (by omega) (by omega) (by unfold rg; omega) ?_
              have w71 : 0 ≤ (Xi T3 893 ((v7).toNat)) ∧ (Xi T3 893 ((v7).toNat)) ≤ 5130 := hHT3.c _ _
              have hWp : WI T3 := (by assumption : WI T3)
              have hHp := hHT3
              refine l_callV rfl rfl rfl (t_vo_tellNew hHT3 v4 879 5130 (Xi T3 892 ((v7).toNat)) (Xi T3 893 ((v7).toNat)) ⟨by omega, by omega⟩ rfl ⟨by omega, by omega⟩ ⟨by omega, by omega⟩ ⟨by omega, by omega⟩ (by first | assumption | exact (by first | assumption | exact (by assumption : WI T3).1 : LEX T3)) (cap01 (by omega) (by omega)) (by first | assumption | omega) _) ?_
              rintro _ T7 ⟨hHT7, w79, z78, rfl, w78, w73, w74, w75, w76, w77⟩
              have hFT7 : FR md_re_tellKinds S T7 := FR.tr hFT3 w79 rfl
              show Rl _ _ _ _ _ [iv z78] _ _
              have hWt : WI T7 := WI_tn (s := v4) hHp (by assumption : FR md_vo_tellNew T3 T7) (by assumption) (by assumption) (by assumption) (by omega) (by omega) hWp
              have hNt : NW T7 := NW_FR (by assumption : FR md_vo_tellNew T3 T7) rfl hN204
              refine l_istore rfl rfl rfl ?_
              refine l_iload_n rfl rfl ?_
              refine l_if_ne rfl rfl (by unfold rg; omega) (fun w80 => ?_) (fun w81 => ?_)
              · refine l_iinc rfl rfl rfl rfl ?_
                refine l_goto rfl rfl ?_
                have w82 : Xi T7 891 9 = Xi T3 891 9 := (show Xi T7 891 9 = Xi T3 891 9 from w79.x _ _ rfl)
                exact Rl_weak (ih204 _ (by omega) T7 hHT7 hFT7 (v3) (v4) (v5) (v6) ((v7 + 1)) (by omega) (by omega) (by omega) (by omega) (by omega) (by first | assumption | exact (by assumption : WI T7)) (by first | assumption | exact (NW_FR w79 rfl (by assumption : NW T3))) (by omega) (by omega) (by omega) (by first | omega | (rw [((FR_e rfl).cx 5 rfl _).1, ((FR_e ).cx 5 rfl _).1]; omega)) (by omega) rfl) (And.intro rfl (And.intro rfl (And.intro rfl (And.intro rfl (And.intro rfl (And.intro rfl (True.intro)))))))
              · refine l_aload_n rfl rfl ?_
                refine l_gfr rfl rfl rfl rfl rfl (hHT7.r 891 2 1 rfl) ?_
                refine l_gfr rfl rfl rfl rfl rfl (hHT7.r 1 5 6 rfl) ?_
                refine l_iload rfl rfl ?_
                refine l_iload rfl rfl ?_
                refine l_iastore (n := 16) rfl rfl (by omega) (by omega) (by unfold rg; omega) ?_
                obtain ⟨U8, eU8⟩ : ∃ T : sS, T = uI T7 6 ((z78).toNat) (Int32.ofInt v5) := ⟨_, rfl⟩
                rw [← eU8]
                have hHU8 : HI U8 := by rw [eU8]; exact HI_w hHT7 (show -1 ≤ v5 by omega) (show v5 ≤ 15 by omega)
                have hFU8 : FR md_re_tellKinds S U8 := by rw [eU8]; exact FR.wI hFT7 (mdf_i (r := (6, 7, 0, 100000)) (List.mem_of_getElem? (i := 5) rfl) (inR_i (by omega) (by omega) (by omega) (by omega)))
                have w84 : Xi U8 6 ((z78).toNat) = v5 := by rw [eU8]; exact Xi_same (by unfold rg; omega)
                refine l_aload_n rfl rfl ?_
                refine l_gfr rfl rfl rfl rfl rfl (hHU8.r 891 2 1 rfl) ?_
                refine l_gfr rfl rfl rfl rfl rfl (hHU8.r 1 6 7 rfl) ?_
                refine l_iload rfl rfl ?_
                refine l_iconst rfl ?_
                refine l_iastore (n := 16) rfl rfl (by omega) (by omega) (by unfold rg; omega) ?_
                obtain ⟨U9, eU9⟩ : ∃ T : sS, T = uI U8 7 ((z78).toNat) (Int32.ofInt 0) := ⟨_, rfl⟩
                rw [← eU9]
                have hHU9 : HI U9 := by rw [eU9]; exact HI_any hHU8 (rfl)
                have hFU9 : FR md_re_tellKinds S U9 := by rw [eU9]; exact FR.wI hFU8 (mdf_i (r := (7, 8, 0, 100000)) (List.mem_of_getElem? (i := 6) rfl) (inR_i (by omega) (by omega) (by omega) (by omega)))
                have w85 : Xi U9 7 ((z78).toNat) = 0 := by rw [eU9]; exact Xi_same (by unfold rg; omega)
                refine l_iinc rfl rfl rfl rfl ?_
                refine l_goto rfl rfl ?_
                have w86 : Xi U9 891 9 = Xi T3 891 9 := (show Xi U9 891 9 = Xi U8 891 9 from by rw [eU9]; exact Xi_ne (by omega)).trans ( (show Xi U8 891 9 = Xi T7 891 9 from by rw [eU8]; exact Xi_ne (by omega)).trans ((show Xi T7 891 9 = Xi T3 891 9 from w79.x _ _ rfl)))
                exact Rl_weak (ih204 _ (by omega) U9 hHU9 hFU9 (v3) (v4) (v5) (v6) ((v7 + 1)) (by omega) (by omega) (by omega) (by omega) (by omega) (by first | assumption | exact (WI_FR hHU8 (FR_e eU9) rfl rfl rfl rfl rfl rfl rfl rfl rfl (WI_FR hHT7 (FR_e eU8) rfl rfl rfl rfl rfl rfl rfl rfl rfl (by assumption : WI T7)))) (by first | assumption | exact (NW_FR (FR_e eU9) rfl (NW_FR (FR_e eU8) rfl (NW_FR w79 rfl (by assumption : NW T3))))) (by omega) (by omega) (by omega) (by first | omega | (rw [((FR_e eU9).cx 5 rfl _).1, ((FR_e eU8).cx 5 rfl _).1]; omega)) (by omega) rfl) (And.intro rfl (And.intro rfl (And.intro rfl (And.intro rfl (And.intro rfl (And.intro rfl (True.intro)))))))
        refine l_aload_n rfl rfl ?_
        refine l_gfr rfl rfl rfl rfl rfl (hHT2.r 891 2 1 rfl) ?_
        refine l_iload rfl rfl ?_
        refine l_callV rfl rfl rfl (t_vo_countOf hHT2 v4 ⟨by omega, by omega⟩ _) ?_
        rintro _ _ ⟨rfl, z92, rfl, w92, w89, w90, w91⟩
        clear w90 w91
        show Rl _ _ _ _ _ [iv z92] _ _
        refine l_istore rfl rfl rfl ?_
        refine l_iconst rfl ?_
        refine l_istore rfl rfl rfl ?_
        exact Rl_weak (C204 _ T2 hHT2 hFT2 (v3) (v4) (v5) (z92) (0) (by omega) (by omega) (by omega) (by omega) (by omega) (by first | assumption | exact (by assumption : WI T2)) (by first | assumption | exact (by assumption : NW T2)) (by omega) (by omega) (by omega) (by first | omega | (rw [((FR_e rfl).cx 5 rfl _).1, ((FR_e ).cx 5 rfl _).1]; omega)) (by omega) rfl) (And.intro rfl (And.intro rfl (And.intro rfl (And.intro rfl (And.intro rfl (And.intro rfl (True.intro)))))))
      refine l_iload rfl rfl ?_
      refine l_iload_n rfl rfl ?_
      refine l_icmp_ge rfl rfl (by unfold rg; omega) (by unfold rg; omega) (fun w94 => ?_) (fun w95 => ?_)
      · refine l_iconst rfl ?_
        refine l_istore rfl rfl rfl ?_
        refine l_iload_n rfl rfl ?_
        refine l_if_eq rfl rfl (by unfold rg; omega) (fun w96 => ?_) (fun w97 => ?_)
        · have w98 : 0 ≤ Xi T1 891 9 ∧ Xi T1 891 9 ≤ 24 := hHT1.c _ _
          exact Rl_weak (C190 T1 hHT1 hFT1 (v3) (v4) (0) (by omega) (by omega) (by omega) (by first | assumption | exact (by assumption : WI T1)) (by first | assumption | exact (by assumption : NW T1)) (by omega) (by omega) (by exact h5_68)) (And.intro rfl (And.intro rfl (And.intro rfl (And.intro rfl (True.intro)))))
        · refine l_iload_n rfl rfl ?_
          refine l_if_ne rfl rfl (by unfold rg; omega) (fun w99 => ?_) (fun w100 => ?_)
          · have w101 : 0 ≤ Xi T1 891 9 ∧ Xi T1 891 9 ≤ 24 := hHT1.c _ _
            exact Rl_weak (C190 T1 hHT1 hFT1 (v3) (v4) (0) (by omega) (by omega) (by omega) (by first | assumption | exact (by assumption : WI T1)) (by first | assumption | exact (by assumption : NW T1)) (by omega) (by omega) (by exact h5_68)) (And.intro rfl (And.intro rfl (And.intro rfl (And.intro rfl (True.intro)))))
          · refine l_aload_n rfl rfl ?_
            refine l_gfr rfl rfl rfl rfl rfl (hHT1.r 891 0 876 rfl) ?_
            refine l_iload_n rfl rfl ?_
            refine l_iconst rfl ?_
            refine l_iadd rfl ?_
            have w102 : 0 ≤ Xi T1 876 7 ∧ Xi T1 876 7 ≤ 5125 := hHT1.c _ _
            refine l_callV rfl rfl rfl (t_to_behindArt hHT1 (v1 + 4) ⟨by omega, by omega⟩ _) ?_
            rintro _ _ ⟨rfl, z105, rfl, w105, w104⟩
            show Rl _ _ _ _ _ [iv z105] _ _
            refine l_istore rfl rfl rfl ?_
            refine l_aload_n rfl rfl ?_
            refine l_gfr rfl rfl rfl rfl rfl (hHT1.r 891 4 895 rfl) ?_
            refine l_iconst rfl ?_
            refine l_iload rfl rfl ?_
            refine l_aload_n rfl rfl ?_
            refine l_gfr rfl rfl rfl rfl rfl (hHT1.r 891 0 876 rfl) ?_
            refine l_iload rfl rfl ?_
            refine l_callV rfl rfl rfl (t_to_runEnd hHT1 z105 ⟨by omega, by omega⟩ _) ?_
            rintro _ _ ⟨rfl, z115, rfl, w115, w108, w109, w110, w111, w112, w113, w114⟩
            clear w110 w112 w113
            show Rl _ _ _ _ _ [iv z115, iv z105, iv 0, .ref 895] _ _
            refine l_callV rfl rfl rfl (t_me_find hHT1 0 z105 z115 ⟨by omega, by omega⟩ ⟨by omega, by omega⟩ ⟨by omega, by omega⟩ (by first | assumption | exact (by first | assumption | exact (by assumption : WI T1).1 : LEX T1)) _) ?_
            rintro _ _ ⟨rfl, z120, rfl, w120, w117, w118, w119⟩
            have w121 : z120 ≠ -1 → _ := fun h => fb0 hHT1 (w117 h)
            clear w118
            show Rl _ _ _ _ _ [iv z120] _ _
            refine l_istore rfl rfl rfl ?_
            refine l_iload rfl rfl ?_
            refine l_iconst rfl ?_
            refine l_icmp_ne rfl rfl (by unfold rg; omega) (by unfold rg; omega) (fun w122 => ?_) (fun w123 => ?_)
            · have w124 : 0 ≤ Xi T1 891 9 ∧ Xi T1 891 9 ≤ 24 := hHT1.c _ _
              exact Rl_weak (C190 T1 hHT1 hFT1 (v3) (v4) (z120) (by omega) (by omega) (by omega) (by first | assumption | exact (by assumption : WI T1)) (by first | assumption | exact (by assumption : NW T1)) (by omega) (by omega) (by exact h5_68)) (And.intro rfl (And.intro rfl (And.intro rfl (And.intro rfl (True.intro)))))
            · refine l_aload_n rfl rfl ?_
              refine l_gfr rfl rfl rfl rfl rfl (hHT1.r 891 0 876 rfl) ?_
              refine l_iconst rfl ?_
              refine l_iload rfl rfl ?_
              refine l_callV rfl rfl rfl (t_to_wrong hHT1 4 z105 ⟨by omega, by omega⟩ ⟨by omega, by omega⟩ _) ?_
              rintro _ T10 ⟨hHT10, w129, z128, rfl, w128, w126, w127⟩
              have hFT10 : FR md_re_tellKinds S T10 := FR.tr hFT1 w129 rfl
              show Rl _ _ _ _ _ [iv z128] _ _
              refine l_ireturn rfl (retI_z (by omega)) ?_
              have w130 : 0 ≤ Xi T10 876 8 ∧ Xi T10 876 8 ≤ 9 := hHT10.c _ _
              exact ⟨hHT10, hFT10, _, rfl, ⟨by omega, by omega⟩, (by first | (intro hz; omega) | (intro _; assumption) | (intro hz; apply_assumption; omega) | (intro _; exact (WI_FR hHT1 w129 rfl rfl rfl rfl rfl rfl rfl rfl rfl (by assumption : WI T1)))), (by omega)⟩
      · refine l_aload_n rfl rfl ?_
        refine l_iload rfl rfl ?_
        have w133 : 0 ≤ Xi T1 876 7 ∧ Xi T1 876 7 ≤ 5125 := hHT1.c _ _
        have w134 : -1 ≤ Xi T1 890 3 ∧ Xi T1 890 3 ≤ 5124 := hHT1.c _ _
        refine l_callV rfl rfl rfl (t_re_beginsName hHT1 v5 ⟨by omega, by omega⟩ _) ?_
        rintro _ _ ⟨rfl, z138, rfl, w138, w136, w137⟩
        show Rl _ _ _ _ _ [iv z138] _ _
        refine l_if_eq rfl rfl (by unfold rg; omega) (fun w139 => ?_) (fun w140 => ?_)
        · refine l_iinc rfl rfl rfl rfl ?_
          refine l_goto rfl rfl ?_
          exact Rl_weak (ih68 _ (by omega) T1 hHT1 hFT1 (v1) (v2) (v3) (v4) ((v5 + 1)) (by omega) (by omega) (by omega) (by omega) (by omega) (by first | assumption | exact (by assumption : WI T1)) (by first | exact nw_0 hn0 | exact hNs (by omega) | exact hN68) (by omega) (by omega) (by omega) (by first | exact h5_68 | exact ((by assumption : FR md_re_takeNew T1 T1).cx 5 rfl _).1.trans h5_68 | rfl) rfl) (And.intro rfl (And.intro rfl (And.intro rfl (And.intro rfl (And.intro rfl (And.intro rfl (True.intro)))))))
        · refine l_aload_n rfl rfl ?_
          refine l_iload rfl rfl ?_
          refine l_aload_n rfl rfl ?_
          refine l_gfr rfl rfl rfl rfl rfl (hHT1.r 891 0 876 rfl) ?_
          refine l_iload rfl rfl ?_
          refine l_callV rfl rfl rfl (t_to_runEnd hHT1 v5 ⟨by omega, by omega⟩ _) ?_
          rintro _ _ ⟨rfl, z151, rfl, w151, w144, w145, w146, w147, w148, w149, w150⟩
          clear w146 w148 w149
          show Rl _ _ _ _ _ [iv z151, iv v5, .ref 891] _ _
          refine l_aload_n rfl rfl ?_
          refine l_gfr rfl rfl rfl rfl rfl (hHT1.r 891 2 1 rfl) ?_
          refine l_iload rfl rfl ?_
          refine l_callV rfl rfl rfl (t_vo_countOf hHT1 v4 ⟨by omega, by omega⟩ _) ?_
          rintro _ _ ⟨rfl, z156, rfl, w156, w153, w154, w155⟩
          clear w154 w155
          show Rl _ _ _ _ _ [iv z156, iv z151, iv v5, .ref 891] _ _
          refine l_iload_n rfl rfl ?_
          refine l_if_eq rfl rfl (by unfold rg; omega) (fun w157 => ?_) (fun w158 => ?_)
          · refine l_bipush rfl rfl ?_
            refine l_callV rfl rfl rfl (t_re_takeNew hHT1 v5 z151 z156 16 ⟨by omega, by omega⟩ ⟨by omega, by omega⟩ ⟨by omega, by omega⟩ ⟨by omega, by omega⟩ (by first | assumption | exact (by first | assumption | exact (by assumption : WI T1).1 : LEX T1)) _) ?_
            rintro _ T11 ⟨hHT11, w166, z165, rfl, w165, w160, w161, w162, w163, w164⟩
            have hFT11 : FR md_re_tellKinds S T11 := FR.tr hFT1 w166 rfl
            show Rl _ _ _ _ _ [iv z165] _ _
            have h90 : 0 ≤ Xi T1 891 9 ∧ Xi T1 891 9 ≤ 24 := hHT1.c _ _
            have hNs : z165 = 1 → NW T11 := fun q => nw_s hN68 (by omega) rfl rfl (by omega) (by omega) (by omega) (by assumption)
            refine l_if_ne rfl rfl (by unfold rg; omega) (fun w167 => ?_) (fun w168 => ?_)
            · refine l_iinc rfl rfl rfl rfl ?_
              refine l_goto rfl rfl ?_
              have w169 : 0 ≤ Xi T11 891 9 ∧ Xi T11 891 9 ≤ 24 := hHT11.c _ _
              exact Rl_weak (ih68 _ (by omega) T11 hHT11 hFT11 (v1) (v2) (v3) (v4) ((v5 + 1)) (by omega) (by omega) (by omega) (by omega) (by omega) (by first | assumption | exact (WI_FR hHT1 w166 rfl rfl rfl rfl rfl rfl rfl rfl rfl (by assumption : WI T1))) (by first | exact nw_0 hn0 | exact hNs (by omega) | exact hN68) (by omega) (by omega) (by omega) (by first | exact h5_68 | exact ((by assumption : FR md_re_takeNew T1 T11).cx 5 rfl _).1.trans h5_68 | rfl) rfl) (And.intro rfl (And.intro rfl (And.intro rfl (And.intro rfl (And.intro rfl (And.intro rfl (True.intro)))))))
            · refine l_iconst rfl ?_
              refine l_ireturn rfl rfl ?_
              have w170 : 0 ≤ Xi T11 876 8 ∧ Xi T11 876 8 ≤ 9 := hHT11.c _ _
              exact ⟨hHT11, hFT11, _, rfl, ⟨by omega, by omega⟩, (by first | (intro hz; omega) | (intro _; assumption) | (intro hz; apply_assumption; omega) | (intro _; exact (WI_FR hHT1 w166 rfl rfl rfl rfl rfl rfl rfl rfl rfl (by assumption : WI T1)))), (by omega)⟩
          · refine l_bipush rfl rfl ?_
            refine l_goto rfl rfl ?_
            refine l_callV rfl rfl rfl (t_re_takeNew hHT1 v5 z151 z156 8 ⟨by omega, by omega⟩ ⟨by omega, by omega⟩ ⟨by omega, by omega⟩ ⟨by omega, by omega⟩ (by first | assumption | exact (by first | assumption | exact (by assumption : WI T1).1 : LEX T1)) _) ?_
            rintro _ T12 ⟨hHT12, w179, z178, rfl, w178, w173, w174, w175, w176, w177⟩
            have hFT12 : FR md_re_tellKinds S T12 := FR.tr hFT1 w179 rfl
            show Rl _ _ _ _ _ [iv z178] _ _
            have h90 : 0 ≤ Xi T1 891 9 ∧ Xi T1 891 9 ≤ 24 := hHT1.c _ _
            have hNs : z178 = 1 → NW T12 := fun q => nw_s hN68 (by omega) rfl rfl (by omega) (by omega) (by omega) (by assumption)
            refine l_if_ne rfl rfl (by unfold rg; omega) (fun w180 => ?_) (fun w181 => ?_)
            · refine l_iinc rfl rfl rfl rfl ?_
              refine l_goto rfl rfl ?_
              have w182 : 0 ≤ Xi T12 891 9 ∧ Xi T12 891 9 ≤ 24 := hHT12.c _ _
              exact Rl_weak (ih68 _ (by omega) T12 hHT12 hFT12 (v1) (v2) (v3) (v4) ((v5 + 1)) (by omega) (by omega) (by omega) (by omega) (by omega) (by first | assumption | exact (WI_FR hHT1 w179 rfl rfl rfl rfl rfl rfl rfl rfl rfl (by assumption : WI T1))) (by first | exact nw_0 hn0 | exact hNs (by omega) | exact hN68) (by omega) (by omega) (by omega) (by first | exact h5_68 | exact ((by assumption : FR md_re_takeNew T1 T12).cx 5 rfl _).1.trans h5_68 | rfl) rfl) (And.intro rfl (And.intro rfl (And.intro rfl (And.intro rfl (And.intro rfl (And.intro rfl (True.intro)))))))
            · refine l_iconst rfl ?_
              refine l_ireturn rfl rfl ?_
              have w183 : 0 ≤ Xi T12 876 8 ∧ Xi T12 876 8 ≤ 9 := hHT12.c _ _
              exact ⟨hHT12, hFT12, _, rfl, ⟨by omega, by omega⟩, (by first | (intro hz; omega) | (intro _; assumption) | (intro hz; apply_assumption; omega) | (intro _; exact (WI_FR hHT1 w179 rfl rfl rfl rfl rfl rfl rfl rfl rfl (by assumption : WI T1)))), (by omega)⟩
  refine l_aload_n rfl rfl ?_
  refine l_gfr rfl rfl rfl rfl rfl (hH.r 891 1 890 rfl) ?_
  refine l_gfi rfl rfl rfl rfl rfl ?_
  refine l_istore_n rfl rfl rfl ?_
  refine l_aload_n rfl rfl ?_
  refine l_gfr rfl rfl rfl rfl rfl (hH.r 891 0 876 rfl) ?_
  refine l_iload_n rfl rfl ?_
  refine l_iconst rfl ?_
  refine l_iadd rfl ?_
  have w185 : 0 ≤ Xi S 876 7 ∧ Xi S 876 7 ≤ 5125 := hH.c _ _
  refine l_callV rfl rfl rfl (t_to_typeAt hH ((Xi S 890 3) + 3) ⟨by omega, by omega⟩ _) ?_
  rintro _ _ ⟨rfl, z190, rfl, w190, w187, w188, w189⟩
  clear w188 w189
  show Rl _ _ _ _ _ [iv z190] _ _
  refine l_bipush rfl rfl ?_
  refine l_icmp_ne rfl rfl (by unfold rg; omega) (by unfold rg; omega) (fun w191 => ?_) (fun w192 => ?_)
  · refine l_iconst rfl ?_
    refine l_istore_n rfl rfl rfl ?_
    refine l_iload_n rfl rfl ?_
    refine l_if_eq rfl rfl (by unfold rg; omega) (fun w193 => ?_) (fun w194 => absurd w194 (by omega))
    · refine l_iconst rfl ?_
      refine l_istore_n rfl rfl rfl ?_
      refine l_iload_n rfl rfl ?_
      refine l_if_eq rfl rfl (by unfold rg; omega) (fun w195 => ?_) (fun w196 => absurd w196 (by omega))
      · refine l_iconst rfl ?_
        refine l_istore rfl rfl rfl ?_
        refine l_iconst rfl ?_
        refine l_istore rfl rfl rfl ?_
        exact Rl_weak (C68 _ S hH hF ((Xi S 890 3)) (0) (0) (0) (0) (by omega) (by omega) (by omega) (by omega) (by omega) (by first | assumption | exact (by assumption : WI S)) (by first | exact nw_0 hn0 | exact hNs (by omega) | exact hN68) (by omega) (by omega) (by omega) (by first | exact h5_68 | exact ((by assumption : FR md_re_takeNew S S).cx 5 rfl _).1.trans h5_68 | rfl) rfl) (And.intro rfl (And.intro rfl (And.intro rfl (And.intro rfl (And.intro rfl (And.intro rfl (True.intro)))))))
  · refine l_iconst rfl ?_
    refine l_goto rfl rfl ?_
    refine l_istore_n rfl rfl rfl ?_
    refine l_iload_n rfl rfl ?_
    refine l_if_eq rfl rfl (by unfold rg; omega) (fun w198 => absurd w198 (by omega)) (fun w199 => ?_)
    · refine l_aload_n rfl rfl ?_
      refine l_gfr rfl rfl rfl rfl rfl (hH.r 891 0 876 rfl) ?_
      refine l_iload_n rfl rfl ?_
      refine l_iconst rfl ?_
      refine l_iadd rfl ?_
      refine l_callV rfl rfl rfl (t_to_typeAt hH ((Xi S 890 3) + 4) ⟨by omega, by omega⟩ _) ?_
      rintro _ _ ⟨rfl, z205, rfl, w205, w202, w203, w204⟩
      clear w203 w204
      show Rl _ _ _ _ _ [iv z205] _ _
      refine l_bipush rfl rfl ?_
      refine l_icmp_ne rfl rfl (by unfold rg; omega) (by unfold rg; omega) (fun w206 => ?_) (fun w207 => ?_)
      · refine l_iconst rfl ?_
        refine l_istore_n rfl rfl rfl ?_
        refine l_iload_n rfl rfl ?_
        refine l_if_eq rfl rfl (by unfold rg; omega) (fun w208 => ?_) (fun w209 => absurd w209 (by omega))
        · refine l_iconst rfl ?_
          refine l_istore rfl rfl rfl ?_
          refine l_iconst rfl ?_
          refine l_istore rfl rfl rfl ?_
          exact Rl_weak (C68 _ S hH hF ((Xi S 890 3)) (1) (0) (0) (0) (by omega) (by omega) (by omega) (by omega) (by omega) (by first | assumption | exact (by assumption : WI S)) (by first | exact nw_0 hn0 | exact hNs (by omega) | exact hN68) (by omega) (by omega) (by omega) (by first | exact h5_68 | exact ((by assumption : FR md_re_takeNew S S).cx 5 rfl _).1.trans h5_68 | rfl) rfl) (And.intro rfl (And.intro rfl (And.intro rfl (And.intro rfl (And.intro rfl (And.intro rfl (True.intro)))))))
      · refine l_iconst rfl ?_
        refine l_goto rfl rfl ?_
        refine l_istore_n rfl rfl rfl ?_
        refine l_iload_n rfl rfl ?_
        refine l_if_eq rfl rfl (by unfold rg; omega) (fun w211 => absurd w211 (by omega)) (fun w212 => ?_)
        · refine l_iconst rfl ?_
          refine l_goto rfl rfl ?_
          refine l_istore rfl rfl rfl ?_
          refine l_iconst rfl ?_
          refine l_istore rfl rfl rfl ?_
          exact Rl_weak (C68 _ S hH hF ((Xi S 890 3)) (1) (1) (1) (0) (by omega) (by omega) (by omega) (by omega) (by omega) (by first | assumption | exact (by assumption : WI S)) (by first | exact nw_0 hn0 | exact hNs (by omega) | exact hN68) (by omega) (by omega) (by omega) (by first | exact h5_68 | exact ((by assumption : FR md_re_takeNew S S).cx 5 rfl _).1.trans h5_68 | rfl) rfl) (And.intro rfl (And.intro rfl (And.intro rfl (And.intro rfl (And.intro rfl (And.intro rfl (True.intro)))))))
/-! SAFETY: told sentences: values -/
theorem WI_va {S T U : sS} {z ty : Int} (hH : HI S) (h : FR md_vo_tellNew S T) (hL : LEX T) (hc : Xi T 5 4 = Xi S 5 4 + 1) (ho : ∀ j, j ≠ 4 → Xi T 5 j = Xi S 5 j) (e : U = uI T 8 z.toNat (Int32.ofInt ty)) (hva : ∀ t, vals U t = vals S t + (if ty = t then 1 else 0)) (hb : vals S ty + 1 ≤ 8) (hW : WI S) : WI U := by
  have f := FR_e e
  have f2 : FR ((8, 9, z.toNat, z.toNat + 1) :: md_vo_tellNew) S U := fun k j hm => by
    unfold mdf at hm
    rw [List.any_cons, Bool.or_eq_false_iff] at hm
    obtain ⟨a1, a2, a3⟩ := h k j hm.2
    obtain ⟨b1, b2, b3⟩ := f k j (by unfold mdf; rw [List.any_cons, Bool.or_eq_false_iff]; exact ⟨hm.1, rfl⟩)
    exact ⟨b1.trans a1, b2.trans a2, b3.trans a3⟩
  have x5 : ∀ j, Xi U 5 j = Xi T 5 j := fun j => (f.cx 5 rfl j).1
  refine WI_g hH f2 rfl rfl rfl rfl rfl (LEX_FR f rfl rfl hL) (fun j => ?_) (by rw [x5]; exact ho 3 (by decide)) (fun t => ?_) hW
  · rw [x5]
    by_cases q : j = 4
    · rw [q, hc]; omega
    · rw [ho j q]; exact Int.le_refl _
  · rw [hva t]
    have w := hW.2.2.2.2.2.2.2 t
    by_cases q : ty = t
    · rw [if_pos q, ← q]; exact hb
    · rw [if_neg q]; omega
/-! SAFETY of methods: printed by wip/safe (vc.py, decl.py) -/
def md_re_tellValues : List rec := [(1, 2, 3, 4), (2, 3, 0, 100000), (3, 4, 0, 100000), (4, 5, 0, 100000), (5, 6, 0, 100000), (8, 9, 0, 100000), (876, 877, 8, 9), (876, 877, 9, 10), (891, 892, 9, 10), (892, 893, 0, 100000), (893, 894, 0, 100000)]
abbrev Q_re_tellValues (S : sS) : pst := fun r S1 => HI S1 ∧ FR md_re_tellValues S S1 ∧ (∃ z : Int, r = some (iv z) ∧ (0 ≤ z ∧ z ≤ 1) ∧ (z = 1 → WI S1) ∧ (z = 0 → Xi S1 876 8 ≠ 0))
set_option maxRecDepth 100000 in
theorem t_re_tellValues {S : sS} (hH : HI S) (hW : WI S) (hn0 : Xi S 891 9 = 0) (d : Nat) : Mt lay0 (d + 4) m_re_tellValues [.ref 891] S (Q_re_tellValues S) := by
  refine Mt_R rfl rfl ?_
  have hF : FR md_re_tellValues S S := FR.rf
  have w1 : 0 ≤ Xi S 891 9 ∧ Xi S 891 9 ≤ 24 := hH.c _ _
  have hL := hW.1
  have hX := hW.2.1
  have h890 : -1 ≤ Xi S 890 3 ∧ Xi S 890 3 ≤ 5124 := hH.c _ _
  have hv7 := hW.2.2.2.2.2.2.2
  have C60 : ∀ (n60 : Nat) (T1 : sS) (_ : HI T1) (_ : FR md_re_tellValues S T1) (v2 : Int) (v3 : Int), (0 ≤ v2 ∧ v2 ≤ 7) → (0 ≤ v3 ∧ v3 ≤ 5129) → (WI T1) → (vals T1 v2 = vals S v2) → (vals S v2 + Xi T1 891 9 ≤ 8) → n60 = (5130 - v3).toNat → Rl lay0 (d + 3) m_re_tellValues 60 [(0, .ref 891), (2, iv v2), (3, iv v3)] [] T1 (Q_re_tellValues S) := by
    intro n60
    induction n60 using Nat.strongRecOn with
    | ind n60 ih60 =>
      intro T1 hHT1 hFT1 v2 v3 w2 w3 hW60 hv60 w4 hm60
      have w5 : Xi T1 876 7 = Xi S 876 7 := hFT1.x _ _ rfl
      have w6 : 0 ≤ Xi T1 891 9 ∧ Xi T1 891 9 ≤ 24 := hHT1.c _ _
      have C119 : ∀ (n119 : Nat) (T2 : sS) (_ : HI T2) (_ : FR md_re_tellValues S T2) (v2 : Int) (v3 : Int), (0 ≤ v2 ∧ v2 ≤ 7) → (0 ≤ v3 ∧ v3 ≤ 24) → (WI T2) → (vals T2 v2 = vals S v2 + v3) → (vals S v2 + Xi T2 891 9 ≤ 8) → (v3 ≤ Xi T2 891 9) → n119 = (25 - v3).toNat → Rl lay0 (d + 3) m_re_tellValues 119 [(0, .ref 891), (2, iv v2), (3, iv v3)] [] T2 (Q_re_tellValues S) := by
        intro n119
        induction n119 using Nat.strongRecOn with
        | ind n119 ih119 =>
          intro T2 hHT2 hFT2 v2 v3 w7 w8 hW119 hv119 w9 w10 hm119
          have w11 : Xi T2 876 7 = Xi S 876 7 := hFT2.x _ _ rfl
          have w12 : 0 ≤ Xi T2 891 9 ∧ Xi T2 891 9 ≤ 24 := hHT2.c _ _
          refine l_iload_n rfl rfl ?_
          refine l_aload_n rfl rfl ?_
          refine l_gfi rfl rfl rfl rfl rfl ?_
          refine l_icmp_ge rfl rfl (by unfold rg; omega) (by unfold rg; omega) (fun w13 => ?_) (fun w14 => ?_)
          · refine l_iconst rfl ?_
            refine l_ireturn rfl rfl ?_
            have w16 : 0 ≤ Xi T2 876 8 ∧ Xi T2 876 8 ≤ 9 := hHT2.c _ _
            exact ⟨hHT2, hFT2, _, rfl, ⟨by omega, by omega⟩, (by first | (intro hz; omega) | (intro _; assumption) | (intro hz; apply_assumption; omega) | (intro _; exact (by assumption : WI T2))), (by omega)⟩
          · refine l_aload_n rfl rfl ?_
            refine l_gfr rfl rfl rfl rfl rfl (hHT2.r 891 2 1 rfl) ?_
            refine l_gfr rfl rfl rfl rfl rfl (hHT2.r 1 7 8 rfl) ?_
            refine l_aload_n rfl rfl ?_
            refine l_gfr rfl rfl rfl rfl rfl (hHT2.r 891 2 1 rfl) ?_
            refine l_iconst rfl ?_
            refine l_aload_n rfl rfl ?_
            refine l_gfr rfl rfl rfl rfl rfl (hHT2.r 891 0 876 rfl) ?_
            refine l_gfr rfl rfl rfl rfl rfl (hHT2.r 876 2 879 rfl) ?_
            refine l_aload_n rfl rfl ?_
            refine l_gfr rfl rfl rfl rfl rfl (hHT2.r 891 7 892 rfl) ?_
            refine l_iload_n rfl rfl ?_
            refine l_iaload (n := 24) rfl rfl (by omega) (by omega) (by unfold rg; omega) ?_
            have w18 : 0 ≤ (Xi T2 892 ((v3).toNat)) ∧ (Xi T2 892 ((v3).toNat)) ≤ 5130 := hHT2.c _ _
            refine l_aload_n rfl rfl ?_
            refine l_gfr rfl rfl rfl rfl rfl (hHT2.r 891 8 893 rfl) ?_
            refine l_iload_n rfl rfl ?_
            refine l_iaload (n := 24) rfl rfl (by omega) (by omega) (by unfold rg; omega) ?_
            have w19 : 0 ≤ (Xi T2 893 ((v3).toNat)) ∧ (Xi T2 893 ((v3).toNat)) ≤ 5130 := hHT2.c _ _
            have hWp : WI T2 := (by assumption : WI T2)
            have hHp := hHT2
            have h64 := val_64 (t := v2) (n := 1) hHT2 hWp.2.2.2.2.2.2.2 (by omega) (by omega) (by omega)
            have w20 : 0 ≤ Xi T2 876 7 ∧ Xi T2 876 7 ≤ 5125 := hHT2.c _ _
            refine l_callV rfl rfl rfl (t_vo_tellNew hHT2 4 879 5130 (Xi T2 892 ((v3).toNat)) (Xi T2 893 ((v3).toNat)) ⟨by omega, by omega⟩ rfl ⟨by omega, by omega⟩ ⟨by omega, by omega⟩ ⟨by omega, by omega⟩ (by first | assumption | exact (by first | assumption | exact (by assumption : WI T2).1 : LEX T2)) (show Xi T2 5 4 + 1 ≤ 64 by first | omega | (have hz : Xi T2 5 4 = Xi T2 5 (4 : Int).toNat := rfl; omega)) (by first | assumption | omega) _) ?_
            rintro _ T3 ⟨hHT3, w28, z27, rfl, w27, w22, w23, w24, w25, w26⟩
            have hFT3 : FR md_re_tellValues S T3 := FR.tr hFT2 w28 rfl
            show Rl _ _ _ _ _ [iv z27, .ref 8] _ _
            have hz4 : z27 = Xi T2 5 4 := by have t := (by assumption : z27 = Xi T2 5 (4 : Int).toNat); exact t
            have hc4 : Xi T3 5 4 = Xi T2 5 4 + 1 := by have t := (by assumption : Xi T3 5 (4 : Int).toNat = Xi T2 5 (4 : Int).toNat + 1); exact t
            have ho4 : ∀ j, j ≠ 4 → Xi T3 5 j = Xi T2 5 j := by have t := (by assumption : ∀ j, j ≠ (4 : Int).toNat → Xi T3 5 j = Xi T2 5 j); exact t
            have hfr4 : FR md_vo_tellNew T2 T3 := by assumption
            have hL4 : LEX T3 := by assumption
            have h40 : 0 ≤ Xi T2 5 4 ∧ Xi T2 5 4 ≤ 64 := hHT2.c _ _
            refine l_iload_n rfl rfl ?_
            refine l_iastore (n := 64) rfl rfl (by omega) (by omega) (by unfold rg; omega) ?_
            obtain ⟨U4, eU4⟩ : ∃ T : sS, T = uI T3 8 ((z27).toNat) (Int32.ofInt v2) := ⟨_, rfl⟩
            rw [← eU4]
            have hHU4 : HI U4 := by rw [eU4]; exact HI_w hHT3 (show 0 ≤ v2 by omega) (show v2 ≤ 7 by omega)
            have hFU4 : FR md_re_tellValues S U4 := by rw [eU4]; exact FR.wI hFT3 (mdf_i (r := (8, 9, 0, 100000)) (List.mem_of_getElem? (i := 5) rfl) (inR_i (by omega) (by omega) (by omega) (by omega)))
            have w29 : Xi U4 8 ((z27).toNat) = v2 := by rw [eU4]; exact Xi_same (by unfold rg; omega)
            have hva := fun t => vals_app (t := t) (by omega) (fun j => (hfr4.cx 8 rfl j).1) hc4 eU4 hz4 (by unfold rg; omega)
            have hWv : WI U4 := WI_va hHp hfr4 hL4 hc4 ho4 eU4 hva (by omega) hWp
            refine l_iinc rfl rfl rfl rfl ?_
            refine l_goto rfl rfl ?_
            have w30 : Xi U4 876 7 = Xi T2 876 7 := (show Xi U4 876 7 = Xi T3 876 7 from by rw [eU4]; exact Xi_ne (by omega)).trans ((show Xi T3 876 7 = Xi T2 876 7 from w28.x _ _ rfl))
            have w32 : Xi U4 891 9 = Xi T2 891 9 := (show Xi U4 891 9 = Xi T3 891 9 from by rw [eU4]; exact Xi_ne (by omega)).trans ((show Xi T3 891 9 = Xi T2 891 9 from w28.x _ _ rfl))
            exact Rl_weak (ih119 _ (by omega) U4 hHU4 hFU4 (v2) ((v3 + 1)) (by omega) (by omega) (by first | assumption | exact (by assumption : WI U4)) (by first | (have t := hva v2; rw [if_pos rfl] at t; omega) | omega) (by omega) (by omega) rfl) (And.intro rfl (And.intro rfl (And.intro rfl (True.intro))))
      refine l_iload_n rfl rfl ?_
      refine l_aload_n rfl rfl ?_
      refine l_gfr rfl rfl rfl rfl rfl (hHT1.r 891 0 876 rfl) ?_
      have w34 : 0 ≤ Xi T1 876 7 ∧ Xi T1 876 7 ≤ 5125 := hHT1.c _ _
      refine l_callV rfl rfl rfl (t_to_lastRow hHT1 _) ?_
      rintro _ _ ⟨rfl, z37, rfl, w37, w36⟩
      show Rl _ _ _ _ _ [iv z37, iv v3] _ _
      refine l_icmp_ge rfl rfl (by unfold rg; omega) (by unfold rg; omega) (fun w38 => ?_) (fun w39 => ?_)
      · refine l_iconst rfl ?_
        refine l_istore_n rfl rfl rfl ?_
        exact Rl_weak (C119 _ T1 hHT1 hFT1 (v2) (0) (by omega) (by omega) (by first | assumption | exact (by assumption : WI T1)) (by first | (have t := hva v2; rw [if_pos rfl] at t; omega) | omega) (by omega) (by omega) rfl) (And.intro rfl (And.intro rfl (And.intro rfl (True.intro))))
      · refine l_aload_n rfl rfl ?_
        refine l_gfr rfl rfl rfl rfl rfl (hHT1.r 891 0 876 rfl) ?_
        refine l_iload_n rfl rfl ?_
        refine l_iconst rfl ?_
        refine l_callV rfl rfl rfl (t_to_beginsRun hHT1 v3 0 ⟨by omega, by omega⟩ ⟨by omega, by omega⟩ _) ?_
        rintro _ _ ⟨rfl, z46, rfl, w46, w44, w45⟩
        show Rl _ _ _ _ _ [iv z46] _ _
        refine l_if_eq rfl rfl (by unfold rg; omega) (fun w47 => ?_) (fun w48 => ?_)
        · refine l_iinc rfl rfl rfl rfl ?_
          refine l_goto rfl rfl ?_
          exact Rl_weak (ih60 _ (by omega) T1 hHT1 hFT1 (v2) ((v3 + 1)) (by omega) (by omega) (by first | assumption | exact (by assumption : WI T1)) (by first | rfl | exact hv60 | exact (vals_fr (fun j => ((by assumption : FR md_re_takeNew T1 T1).cx 8 rfl j).1) (((by assumption : FR md_re_takeNew T1 T1).cx 5 rfl 4).1)).trans hv60) (by omega) rfl) (And.intro rfl (And.intro rfl (And.intro rfl (True.intro))))
        · refine l_aload_n rfl rfl ?_
          refine l_iload_n rfl rfl ?_
          refine l_aload_n rfl rfl ?_
          refine l_gfr rfl rfl rfl rfl rfl (hHT1.r 891 0 876 rfl) ?_
          refine l_iload_n rfl rfl ?_
          refine l_callV rfl rfl rfl (t_to_runEnd hHT1 v3 ⟨by omega, by omega⟩ _) ?_
          rintro _ _ ⟨rfl, z60, rfl, w60, w53, w54, w55, w56, w57, w58, w59⟩
          clear w55 w56 w57 w58
          show Rl _ _ _ _ _ [iv z60, iv v3, .ref 891] _ _
          refine l_aload_n rfl rfl ?_
          refine l_gfr rfl rfl rfl rfl rfl (hHT1.r 891 2 1 rfl) ?_
          refine l_iload_n rfl rfl ?_
          refine l_callV rfl rfl rfl (t_vo_valuesOf hHT1 v2 ⟨by omega, by omega⟩ _) ?_
          rintro _ _ ⟨rfl, z64, rfl, w64, w63⟩
          show Rl _ _ _ _ _ [iv z64, iv z60, iv v3, .ref 891] _ _
          have hvs : z64 = vals S v2 := (by assumption : z64 = vals T1 v2).trans hv60
          refine l_bipush rfl rfl ?_
          refine l_callV rfl rfl rfl (t_re_takeNew hHT1 v3 z60 z64 8 ⟨by omega, by omega⟩ ⟨by omega, by omega⟩ ⟨by omega, by omega⟩ ⟨by omega, by omega⟩ (by first | assumption | exact (by first | assumption | exact (by assumption : WI T1).1 : LEX T1)) _) ?_
          rintro _ T5 ⟨hHT5, w73, z72, rfl, w72, w67, w68, w69, w70, w71⟩
          have hFT5 : FR md_re_tellValues S T5 := FR.tr hFT1 w73 rfl
          show Rl _ _ _ _ _ [iv z72] _ _
          refine l_if_ne rfl rfl (by unfold rg; omega) (fun w74 => ?_) (fun w75 => ?_)
          · refine l_iinc rfl rfl rfl rfl ?_
            refine l_goto rfl rfl ?_
            have w76 : Xi T5 876 7 = Xi T1 876 7 := (show Xi T5 876 7 = Xi T1 876 7 from w73.x _ _ rfl)
            have w78 : 0 ≤ Xi T5 891 9 ∧ Xi T5 891 9 ≤ 24 := hHT5.c _ _
            exact Rl_weak (ih60 _ (by omega) T5 hHT5 hFT5 (v2) ((v3 + 1)) (by omega) (by omega) (by first | assumption | exact (WI_FR hHT1 w73 rfl rfl rfl rfl rfl rfl rfl rfl rfl (by assumption : WI T1))) (by first | rfl | exact hv60 | exact (vals_fr (fun j => ((by assumption : FR md_re_takeNew T1 T5).cx 8 rfl j).1) (((by assumption : FR md_re_takeNew T1 T5).cx 5 rfl 4).1)).trans hv60) (by omega) rfl) (And.intro rfl (And.intro rfl (And.intro rfl (True.intro))))
          · refine l_iconst rfl ?_
            refine l_ireturn rfl rfl ?_
            have w81 : 0 ≤ Xi T5 876 8 ∧ Xi T5 876 8 ≤ 9 := hHT5.c _ _
            exact ⟨hHT5, hFT5, _, rfl, ⟨by omega, by omega⟩, (by first | (intro hz; omega) | (intro _; assumption) | (intro hz; apply_assumption; omega) | (intro _; exact (WI_FR hHT1 w73 rfl rfl rfl rfl rfl rfl rfl rfl rfl (by assumption : WI T1)))), (by omega)⟩
  refine l_aload_n rfl rfl ?_
  refine l_gfr rfl rfl rfl rfl rfl (hH.r 891 0 876 rfl) ?_
  refine l_iconst rfl ?_
  have w83 : 0 ≤ Xi S 876 7 ∧ Xi S 876 7 ≤ 5125 := hH.c _ _
  refine l_callV rfl rfl rfl (t_to_behindArt hH 0 ⟨by omega, by omega⟩ _) ?_
  rintro _ _ ⟨rfl, z86, rfl, w86, w85⟩
  show Rl _ _ _ _ _ [iv z86] _ _
  refine l_istore_n rfl rfl rfl ?_
  refine l_aload_n rfl rfl ?_
  refine l_iload_n rfl rfl ?_
  refine l_callV rfl rfl rfl (t_re_typeMeant hH z86 ⟨by omega, by omega⟩ (by first | assumption | exact (by first | assumption | exact (by assumption : WI S).1 : LEX S)) _) ?_
  rintro _ _ ⟨rfl, z89, rfl, w89⟩
  show Rl _ _ _ _ _ [iv z89] _ _
  refine l_istore_n rfl rfl rfl ?_
  refine l_iload_n rfl rfl ?_
  refine l_iconst rfl ?_
  refine l_icmp_eq rfl rfl (by unfold rg; omega) (by unfold rg; omega) (fun w90 => ?_) (fun w91 => ?_)
  · refine l_aload_n rfl rfl ?_
    refine l_gfr rfl rfl rfl rfl rfl (hH.r 891 0 876 rfl) ?_
    refine l_iconst rfl ?_
    refine l_iload_n rfl rfl ?_
    refine l_iconst rfl ?_
    refine l_icmp_ne rfl rfl (by unfold rg; omega) (by unfold rg; omega) (fun w92 => ?_) (fun w93 => ?_)
    · refine l_aload_n rfl rfl ?_
      refine l_callV rfl rfl rfl (t_re_secondName hH _) ?_
      rintro _ _ ⟨rfl, z96, rfl, w96⟩
      show Rl _ _ _ _ _ [iv z96, iv 4, .ref 876] _ _
      refine l_callV rfl rfl rfl (t_to_wrong hH 4 z96 ⟨by omega, by omega⟩ ⟨by omega, by omega⟩ _) ?_
      rintro _ T6 ⟨hHT6, w102, z101, rfl, w101, w99, w100⟩
      have hFT6 : FR md_re_tellValues S T6 := FR.tr hF w102 rfl
      show Rl _ _ _ _ _ [iv z101] _ _
      refine l_ireturn rfl (retI_z (by omega)) ?_
      have w105 : 0 ≤ Xi T6 876 8 ∧ Xi T6 876 8 ≤ 9 := hHT6.c _ _
      exact ⟨hHT6, hFT6, _, rfl, ⟨by omega, by omega⟩, (by first | (intro hz; omega) | (intro _; assumption) | (intro hz; apply_assumption; omega) | (intro _; exact (WI_FR hH w102 rfl rfl rfl rfl rfl rfl rfl rfl rfl (by assumption : WI S)))), (by omega)⟩
    · refine l_iload_n rfl rfl ?_
      refine l_goto rfl rfl ?_
      refine l_callV rfl rfl rfl (t_to_wrong hH 4 z86 ⟨by omega, by omega⟩ ⟨by omega, by omega⟩ _) ?_
      rintro _ T7 ⟨hHT7, w113, z112, rfl, w112, w110, w111⟩
      have hFT7 : FR md_re_tellValues S T7 := FR.tr hF w113 rfl
      show Rl _ _ _ _ _ [iv z112] _ _
      refine l_ireturn rfl (retI_z (by omega)) ?_
      have w116 : 0 ≤ Xi T7 876 8 ∧ Xi T7 876 8 ≤ 9 := hHT7.c _ _
      exact ⟨hHT7, hFT7, _, rfl, ⟨by omega, by omega⟩, (by first | (intro hz; omega) | (intro _; assumption) | (intro hz; apply_assumption; omega) | (intro _; exact (WI_FR hH w113 rfl rfl rfl rfl rfl rfl rfl rfl rfl (by assumption : WI S)))), (by omega)⟩
  · refine l_aload_n rfl rfl ?_
    refine l_callV rfl rfl rfl (t_re_secondName hH _) ?_
    rintro _ _ ⟨rfl, z121, rfl, w121⟩
    show Rl _ _ _ _ _ [iv z121] _ _
    refine l_iconst rfl ?_
    refine l_icmp_eq rfl rfl (by unfold rg; omega) (by unfold rg; omega) (fun w122 => ?_) (fun w123 => ?_)
    · refine l_aload_n rfl rfl ?_
      refine l_gfr rfl rfl rfl rfl rfl (hH.r 891 1 890 rfl) ?_
      refine l_gfi rfl rfl rfl rfl rfl ?_
      have w124 : -1 ≤ (Xi S 890 3) ∧ (Xi S 890 3) ≤ 5124 := hH.c _ _
      refine l_iconst rfl ?_
      refine l_iadd rfl ?_
      have hvb := hv7 z89
      refine l_istore_n rfl rfl rfl ?_
      exact Rl_weak (C60 _ S hH hF (z89) (((Xi S 890 3) + 1)) (by omega) (by omega) (by first | assumption | exact (by assumption : WI S)) (by first | rfl | exact hv60 | exact (vals_fr (fun j => ((by assumption : FR md_re_takeNew S S).cx 8 rfl j).1) (((by assumption : FR md_re_takeNew S S).cx 5 rfl 4).1)).trans hv60) (by omega) rfl) (And.intro rfl (And.intro rfl (And.intro rfl (True.intro))))
    · refine l_aload_n rfl rfl ?_
      refine l_gfr rfl rfl rfl rfl rfl (hH.r 891 0 876 rfl) ?_
      refine l_iconst rfl ?_
      refine l_iload_n rfl rfl ?_
      refine l_iconst rfl ?_
      refine l_icmp_ne rfl rfl (by unfold rg; omega) (by unfold rg; omega) (fun w127 => ?_) (fun w128 => ?_)
      · refine l_aload_n rfl rfl ?_
        refine l_callV rfl rfl rfl (t_re_secondName hH _) ?_
        rintro _ _ ⟨rfl, z131, rfl, w131⟩
        show Rl _ _ _ _ _ [iv z131, iv 4, .ref 876] _ _
        refine l_callV rfl rfl rfl (t_to_wrong hH 4 z131 ⟨by omega, by omega⟩ ⟨by omega, by omega⟩ _) ?_
        rintro _ T8 ⟨hHT8, w137, z136, rfl, w136, w134, w135⟩
        have hFT8 : FR md_re_tellValues S T8 := FR.tr hF w137 rfl
        show Rl _ _ _ _ _ [iv z136] _ _
        refine l_ireturn rfl (retI_z (by omega)) ?_
        have w140 : 0 ≤ Xi T8 876 8 ∧ Xi T8 876 8 ≤ 9 := hHT8.c _ _
        exact ⟨hHT8, hFT8, _, rfl, ⟨by omega, by omega⟩, (by first | (intro hz; omega) | (intro _; assumption) | (intro hz; apply_assumption; omega) | (intro _; exact (WI_FR hH w137 rfl rfl rfl rfl rfl rfl rfl rfl rfl (by assumption : WI S)))), (by omega)⟩
      · refine l_iload_n rfl rfl ?_
        refine l_goto rfl rfl ?_
        refine l_callV rfl rfl rfl (t_to_wrong hH 4 z86 ⟨by omega, by omega⟩ ⟨by omega, by omega⟩ _) ?_
        rintro _ T9 ⟨hHT9, w148, z147, rfl, w147, w145, w146⟩
        have hFT9 : FR md_re_tellValues S T9 := FR.tr hF w148 rfl
        show Rl _ _ _ _ _ [iv z147] _ _
        refine l_ireturn rfl (retI_z (by omega)) ?_
        have w151 : 0 ≤ Xi T9 876 8 ∧ Xi T9 876 8 ≤ 9 := hHT9.c _ _
        exact ⟨hHT9, hFT9, _, rfl, ⟨by omega, by omega⟩, (by first | (intro hz; omega) | (intro _; assumption) | (intro hz; apply_assumption; omega) | (intro _; exact (WI_FR hH w148 rfl rfl rfl rfl rfl rfl rfl rfl rfl (by assumption : WI S)))), (by omega)⟩
/-! SAFETY of methods: printed by wip/safe (vc.py, decl.py) -/
def md_re_tellSentence : List rec := [(1, 2, 3, 4), (2, 3, 0, 100000), (3, 4, 0, 100000), (4, 5, 0, 100000), (5, 6, 0, 100000), (6, 7, 0, 100000), (7, 8, 0, 100000), (8, 9, 0, 100000), (9, 10, 0, 100000), (10, 11, 0, 100000), (11, 12, 0, 100000), (14, 15, 0, 100000), (15, 16, 0, 100000), (16, 17, 0, 100000), (17, 18, 0, 100000), (19, 20, 0, 100000), (20, 21, 12, 13), (21, 22, 0, 100000), (22, 23, 0, 100000), (23, 24, 0, 100000), (25, 65, 0, 100000), (66, 106, 0, 100000), (107, 147, 0, 100000), (148, 188, 0, 100000), (189, 195, 0, 100000), (196, 220, 0, 100000), (221, 245, 0, 100000), (876, 877, 8, 9), (876, 877, 9, 10), (891, 892, 9, 10), (891, 892, 10, 11), (891, 892, 11, 12), (891, 892, 12, 13), (892, 893, 0, 100000), (893, 894, 0, 100000), (894, 895, 0, 100000), (895, 896, 8, 9), (895, 896, 9, 10), (895, 896, 10, 11), (895, 896, 11, 12), (895, 896, 12, 13), (895, 896, 13, 14), (895, 896, 14, 15), (896, 897, 0, 100000), (897, 898, 0, 100000), (898, 899, 0, 100000)]
abbrev Q_re_tellSentence (S : sS) : pst := fun r S1 => HI S1 ∧ FR md_re_tellSentence S S1 ∧ (∃ z : Int, r = some (iv z) ∧ (0 ≤ z ∧ z ≤ 1) ∧ (z = 1 → WI S1) ∧ (z = 0 → Xi S1 876 8 ≠ 0))
set_option maxRecDepth 100000 in
theorem t_re_tellSentence {S : sS} (hH : HI S) (hW : WI S) (hT : TOK S) (hS : SRX S) (d : Nat) : Mt lay0 (d + 7) m_re_tellSentence [.ref 891] S (Q_re_tellSentence S) := by
  refine Mt_R rfl rfl ?_
  have hF : FR md_re_tellSentence S S := FR.rf
  have hL := hW.1
  have hX := hW.2.1
  refine l_aload_n rfl rfl ?_
  refine l_iconst rfl ?_
  refine l_pfi rfl rfl rfl rfl ?_
  obtain ⟨U1, eU1⟩ : ∃ T : sS, T = uI S 891 9 (Int32.ofInt 0) := ⟨_, rfl⟩
  rw [← eU1]
  have hHU1 : HI U1 := by rw [eU1]; exact HI_w hH (show 0 ≤ 0 by omega) (show 0 ≤ 24 by omega)
  have hFU1 : FR md_re_tellSentence S U1 := by rw [eU1]; exact FR.wI hF (mdf_i (r := (891, 892, 9, 10)) (List.mem_of_getElem? (i := 29) rfl) (inR_i (by omega) (by omega) (by omega) (by omega)))
  have w1 : Xi U1 891 9 = 0 := by rw [eU1]; exact Xi_same (by unfold rg; omega)
  refine l_aload_n rfl rfl ?_
  refine l_iconst rfl ?_
  refine l_pfi rfl rfl rfl rfl ?_
  obtain ⟨U2, eU2⟩ : ∃ T : sS, T = uI U1 891 11 (Int32.ofInt 0) := ⟨_, rfl⟩
  rw [← eU2]
  have hHU2 : HI U2 := by rw [eU2]; exact HI_w hHU1 (show 0 ≤ 0 by omega) (show 0 ≤ 5 by omega)
  have hFU2 : FR md_re_tellSentence S U2 := by rw [eU2]; exact FR.wI hFU1 (mdf_i (r := (891, 892, 11, 12)) (List.mem_of_getElem? (i := 31) rfl) (inR_i (by omega) (by omega) (by omega) (by omega)))
  have w2 : Xi U2 891 11 = 0 := by rw [eU2]; exact Xi_same (by unfold rg; omega)
  refine l_aload_n rfl rfl ?_
  refine l_gfr rfl rfl rfl rfl rfl (hHU2.r 891 1 890 rfl) ?_
  refine l_gfi rfl rfl rfl rfl rfl ?_
  have w3 : 0 ≤ (Xi U2 890 2) ∧ (Xi U2 890 2) ≤ 20 := hHU2.c _ _
  refine l_tsw rfl rfl rfl rfl (by unfold rg; omega) (fun w4 => ?_) (fun ii tt hii w4 => ?_)
  · refine l_aload_n rfl rfl ?_
    refine l_callV rfl rfl rfl (t_re_tellLoose hHU2 (by first | assumption | exact (WI_FR hHU1 (FR_e eU2) rfl rfl rfl rfl rfl rfl rfl rfl rfl (WI_FR hH (FR_e eU1) rfl rfl rfl rfl rfl rfl rfl rfl rfl (by assumption : WI S)))) _) ?_
    rintro _ T3 ⟨hHT3, w8, z7, rfl, w7, w5, w6⟩
    have hFT3 : FR md_re_tellSentence S T3 := FR.tr hFU2 w8 rfl
    show Rl _ _ _ _ _ [iv z7] _ _
    refine l_ireturn rfl (retI_z (by omega)) ?_
    have w9 : 0 ≤ Xi T3 876 8 ∧ Xi T3 876 8 ≤ 9 := hHT3.c _ _
    exact ⟨hHT3, hFT3, _, rfl, ⟨by omega, by omega⟩, (by first | (intro hz; omega) | (intro _; assumption) | (intro hz; apply_assumption; omega) | (intro _; exact (WI_FR hHU2 w8 rfl rfl rfl rfl rfl rfl rfl rfl rfl (WI_FR hHU1 (FR_e eU2) rfl rfl rfl rfl rfl rfl rfl rfl rfl (WI_FR hH (FR_e eU1) rfl rfl rfl rfl rfl rfl rfl rfl rfl (by assumption : WI S)))))), (by omega)⟩
  · match ii, hii with
    | 0, hii =>
      cases hii
      have w10 : (Xi U2 890 2) = 9 := by simpa using w4
      refine l_aload_n rfl rfl ?_
      refine l_callV rfl rfl rfl (t_re_tellProperty hHU2 (by first | assumption | exact (WI_FR hHU1 (FR_e eU2) rfl rfl rfl rfl rfl rfl rfl rfl rfl (WI_FR hH (FR_e eU1) rfl rfl rfl rfl rfl rfl rfl rfl rfl (by assumption : WI S)))) (by first | assumption | exact (TOK_FR hFU2 rfl rfl rfl (by assumption : TOK S))) (by first | assumption | exact (SRX_FR hFU2 rfl (by assumption : SRX S))) _) ?_
      rintro _ T4 ⟨hHT4, w14, z13, rfl, w13, w11, w12⟩
      have hFT4 : FR md_re_tellSentence S T4 := FR.tr hFU2 w14 rfl
      show Rl _ _ _ _ _ [iv z13] _ _
      refine l_ireturn rfl (retI_z (by omega)) ?_
      have w15 : 0 ≤ Xi T4 876 8 ∧ Xi T4 876 8 ≤ 9 := hHT4.c _ _
      exact ⟨hHT4, hFT4, _, rfl, ⟨by omega, by omega⟩, (by first | (intro hz; omega) | (intro _; assumption) | (intro hz; apply_assumption; omega) | (intro _; exact (by assumption : WI T4))), (by omega)⟩
    | 1, hii =>
      cases hii
      have w16 : (Xi U2 890 2) = 10 := by simpa using w4
      refine l_aload_n rfl rfl ?_
      have w17 : Xi U2 891 9 = Xi U1 891 9 := (show Xi U2 891 9 = Xi U1 891 9 from by rw [eU2]; exact Xi_ne (by omega))
      have w18 : 0 ≤ Xi U1 891 9 ∧ Xi U1 891 9 ≤ 24 := hHU1.c _ _
      refine l_callV rfl rfl rfl (t_re_tellKinds hHU2 (by first | assumption | exact (WI_FR hHU1 (FR_e eU2) rfl rfl rfl rfl rfl rfl rfl rfl rfl (WI_FR hH (FR_e eU1) rfl rfl rfl rfl rfl rfl rfl rfl rfl (by assumption : WI S)))) (by first | assumption | omega) _) ?_
      rintro _ T5 ⟨hHT5, w22, z21, rfl, w21, w19, w20⟩
      have hFT5 : FR md_re_tellSentence S T5 := FR.tr hFU2 w22 rfl
      show Rl _ _ _ _ _ [iv z21] _ _
      refine l_ireturn rfl (retI_z (by omega)) ?_
      have w23 : 0 ≤ Xi T5 876 8 ∧ Xi T5 876 8 ≤ 9 := hHT5.c _ _
      exact ⟨hHT5, hFT5, _, rfl, ⟨by omega, by omega⟩, (by first | (intro hz; omega) | (intro _; assumption) | (intro hz; apply_assumption; omega) | (intro _; exact (by assumption : WI T5))), (by omega)⟩
    | 2, hii =>
      cases hii
      have w24 : (Xi U2 890 2) = 11 := by simpa using w4
      refine l_aload_n rfl rfl ?_
      have w25 : Xi U2 891 9 = Xi U1 891 9 := (show Xi U2 891 9 = Xi U1 891 9 from by rw [eU2]; exact Xi_ne (by omega))
      have w26 : 0 ≤ Xi U1 891 9 ∧ Xi U1 891 9 ≤ 24 := hHU1.c _ _
      refine l_callV rfl rfl rfl (t_re_tellActions hHU2 (by first | assumption | exact (WI_FR hHU1 (FR_e eU2) rfl rfl rfl rfl rfl rfl rfl rfl rfl (WI_FR hH (FR_e eU1) rfl rfl rfl rfl rfl rfl rfl rfl rfl (by assumption : WI S)))) (by first | assumption | omega) _) ?_
      rintro _ T6 ⟨hHT6, w30, z29, rfl, w29, w27, w28⟩
      have hFT6 : FR md_re_tellSentence S T6 := FR.tr hFU2 w30 rfl
      show Rl _ _ _ _ _ [iv z29] _ _
      refine l_ireturn rfl (retI_z (by omega)) ?_
      have w31 : 0 ≤ Xi T6 876 8 ∧ Xi T6 876 8 ≤ 9 := hHT6.c _ _
      exact ⟨hHT6, hFT6, _, rfl, ⟨by omega, by omega⟩, (by first | (intro hz; omega) | (intro _; assumption) | (intro hz; apply_assumption; omega) | (intro _; exact (by assumption : WI T6))), (by omega)⟩
    | 3, hii =>
      cases hii
      have w32 : (Xi U2 890 2) = 12 := by simpa using w4
      refine l_aload_n rfl rfl ?_
      have w33 : 0 ≤ Xi U2 891 11 ∧ Xi U2 891 11 ≤ 5 := hHU2.c _ _
      have w34 : Xi U2 891 9 = Xi U1 891 9 := (show Xi U2 891 9 = Xi U1 891 9 from by rw [eU2]; exact Xi_ne (by omega))
      have w35 : 0 ≤ Xi U1 891 9 ∧ Xi U1 891 9 ≤ 24 := hHU1.c _ _
      refine l_callV rfl rfl rfl (t_re_tellObjects hHU2 (by first | assumption | exact (WI_FR hHU1 (FR_e eU2) rfl rfl rfl rfl rfl rfl rfl rfl rfl (WI_FR hH (FR_e eU1) rfl rfl rfl rfl rfl rfl rfl rfl rfl (by assumption : WI S)))) (by first | assumption | omega) (by first | assumption | omega) _) ?_
      rintro _ T7 ⟨hHT7, w39, z38, rfl, w38, w36, w37⟩
      have hFT7 : FR md_re_tellSentence S T7 := FR.tr hFU2 w39 rfl
      show Rl _ _ _ _ _ [iv z38] _ _
      refine l_ireturn rfl (retI_z (by omega)) ?_
      have w40 : 0 ≤ Xi T7 876 8 ∧ Xi T7 876 8 ≤ 9 := hHT7.c _ _
      exact ⟨hHT7, hFT7, _, rfl, ⟨by omega, by omega⟩, (by first | (intro hz; omega) | (intro _; assumption) | (intro hz; apply_assumption; omega) | (intro _; exact (by assumption : WI T7))), (by omega)⟩
    | 4, hii =>
      cases hii
      have w41 : (Xi U2 890 2) = 13 := by simpa using w4
      refine l_aload_n rfl rfl ?_
      have w42 : 0 ≤ Xi U2 891 11 ∧ Xi U2 891 11 ≤ 5 := hHU2.c _ _
      have w43 : Xi U2 891 9 = Xi U1 891 9 := (show Xi U2 891 9 = Xi U1 891 9 from by rw [eU2]; exact Xi_ne (by omega))
      have w44 : 0 ≤ Xi U1 891 9 ∧ Xi U1 891 9 ≤ 24 := hHU1.c _ _
      refine l_callV rfl rfl rfl (t_re_tellObjects hHU2 (by first | assumption | exact (WI_FR hHU1 (FR_e eU2) rfl rfl rfl rfl rfl rfl rfl rfl rfl (WI_FR hH (FR_e eU1) rfl rfl rfl rfl rfl rfl rfl rfl rfl (by assumption : WI S)))) (by first | assumption | omega) (by first | assumption | omega) _) ?_
      rintro _ T8 ⟨hHT8, w48, z47, rfl, w47, w45, w46⟩
      have hFT8 : FR md_re_tellSentence S T8 := FR.tr hFU2 w48 rfl
      show Rl _ _ _ _ _ [iv z47] _ _
      refine l_ireturn rfl (retI_z (by omega)) ?_
      have w49 : 0 ≤ Xi T8 876 8 ∧ Xi T8 876 8 ≤ 9 := hHT8.c _ _
      exact ⟨hHT8, hFT8, _, rfl, ⟨by omega, by omega⟩, (by first | (intro hz; omega) | (intro _; assumption) | (intro hz; apply_assumption; omega) | (intro _; exact (by assumption : WI T8))), (by omega)⟩
    | 5, hii =>
      cases hii
      have w50 : (Xi U2 890 2) = 14 := by simpa using w4
      refine l_aload_n rfl rfl ?_
      have w51 : Xi U2 891 9 = Xi U1 891 9 := (show Xi U2 891 9 = Xi U1 891 9 from by rw [eU2]; exact Xi_ne (by omega))
      have w52 : 0 ≤ Xi U1 891 9 ∧ Xi U1 891 9 ≤ 24 := hHU1.c _ _
      refine l_callV rfl rfl rfl (t_re_tellWay hHU2 (by first | assumption | exact (WI_FR hHU1 (FR_e eU2) rfl rfl rfl rfl rfl rfl rfl rfl rfl (WI_FR hH (FR_e eU1) rfl rfl rfl rfl rfl rfl rfl rfl rfl (by assumption : WI S)))) (by first | assumption | omega) _) ?_
      rintro _ T9 ⟨hHT9, w56, z55, rfl, w55, w53, w54⟩
      have hFT9 : FR md_re_tellSentence S T9 := FR.tr hFU2 w56 rfl
      show Rl _ _ _ _ _ [iv z55] _ _
      refine l_ireturn rfl (retI_z (by omega)) ?_
      have w57 : 0 ≤ Xi T9 876 8 ∧ Xi T9 876 8 ≤ 9 := hHT9.c _ _
      exact ⟨hHT9, hFT9, _, rfl, ⟨by omega, by omega⟩, (by first | (intro hz; omega) | (intro _; assumption) | (intro hz; apply_assumption; omega) | (intro _; exact (by assumption : WI T9))), (by omega)⟩
    | 6, hii =>
      cases hii
      have w58 : (Xi U2 890 2) = 15 := by simpa using w4
      refine l_aload_n rfl rfl ?_
      refine l_callV rfl rfl rfl (t_re_tellsUsually hHU2 _) ?_
      rintro _ _ ⟨rfl, z59, rfl, w59⟩
      show Rl _ _ _ _ _ [iv z59] _ _
      refine l_if_eq rfl rfl (by unfold rg; omega) (fun w60 => ?_) (fun w61 => ?_)
      · refine l_aload_n rfl rfl ?_
        refine l_callV rfl rfl rfl (t_re_tellsValues hHU2 (by first | assumption | exact (LEX_FR (FR_e eU2) rfl rfl (LEX_FR (FR_e eU1) rfl rfl (by first | assumption | exact (by assumption : WI S).1 : LEX S)))) _) ?_
        rintro _ _ ⟨rfl, z62, rfl, w62⟩
        show Rl _ _ _ _ _ [iv z62] _ _
        refine l_if_eq rfl rfl (by unfold rg; omega) (fun w63 => ?_) (fun w64 => ?_)
        · refine l_aload_n rfl rfl ?_
          have w65 : 0 ≤ Xi U2 891 11 ∧ Xi U2 891 11 ≤ 5 := hHU2.c _ _
          have w66 : Xi U2 891 9 = Xi U1 891 9 := (show Xi U2 891 9 = Xi U1 891 9 from by rw [eU2]; exact Xi_ne (by omega))
          have w67 : 0 ≤ Xi U1 891 9 ∧ Xi U1 891 9 ≤ 24 := hHU1.c _ _
          refine l_callV rfl rfl rfl (t_re_tellPlain hHU2 (by first | assumption | exact (WI_FR hHU1 (FR_e eU2) rfl rfl rfl rfl rfl rfl rfl rfl rfl (WI_FR hH (FR_e eU1) rfl rfl rfl rfl rfl rfl rfl rfl rfl (by assumption : WI S)))) (by first | assumption | omega) (by first | assumption | omega) _) ?_
          rintro _ T10 ⟨hHT10, w71, z70, rfl, w70, w68, w69⟩
          have hFT10 : FR md_re_tellSentence S T10 := FR.tr hFU2 w71 rfl
          show Rl _ _ _ _ _ [iv z70] _ _
          refine l_ireturn rfl (retI_z (by omega)) ?_
          have w72 : 0 ≤ Xi T10 876 8 ∧ Xi T10 876 8 ≤ 9 := hHT10.c _ _
          exact ⟨hHT10, hFT10, _, rfl, ⟨by omega, by omega⟩, (by first | (intro hz; omega) | (intro _; assumption) | (intro hz; apply_assumption; omega) | (intro _; exact (by assumption : WI T10))), (by omega)⟩
        · refine l_aload_n rfl rfl ?_
          have w73 : Xi U2 891 9 = Xi U1 891 9 := (show Xi U2 891 9 = Xi U1 891 9 from by rw [eU2]; exact Xi_ne (by omega))
          have w74 : 0 ≤ Xi U1 891 9 ∧ Xi U1 891 9 ≤ 24 := hHU1.c _ _
          refine l_callV rfl rfl rfl (t_re_tellValues hHU2 (by first | assumption | exact (WI_FR hHU1 (FR_e eU2) rfl rfl rfl rfl rfl rfl rfl rfl rfl (WI_FR hH (FR_e eU1) rfl rfl rfl rfl rfl rfl rfl rfl rfl (by assumption : WI S)))) (by first | assumption | omega) _) ?_
          rintro _ T11 ⟨hHT11, w78, z77, rfl, w77, w75, w76⟩
          have hFT11 : FR md_re_tellSentence S T11 := FR.tr hFU2 w78 rfl
          show Rl _ _ _ _ _ [iv z77] _ _
          refine l_goto rfl rfl ?_
          refine l_ireturn rfl (retI_z (by omega)) ?_
          have w79 : 0 ≤ Xi T11 876 8 ∧ Xi T11 876 8 ≤ 9 := hHT11.c _ _
          exact ⟨hHT11, hFT11, _, rfl, ⟨by omega, by omega⟩, (by first | (intro hz; omega) | (intro _; assumption) | (intro hz; apply_assumption; omega) | (intro _; exact (by assumption : WI T11))), (by omega)⟩
      · refine l_aload_n rfl rfl ?_
        refine l_callV rfl rfl rfl (t_re_tellUsually hHU2 (by first | assumption | exact (WI_FR hHU1 (FR_e eU2) rfl rfl rfl rfl rfl rfl rfl rfl rfl (WI_FR hH (FR_e eU1) rfl rfl rfl rfl rfl rfl rfl rfl rfl (by assumption : WI S)))) _) ?_
        rintro _ T12 ⟨hHT12, w83, z82, rfl, w82, w80, w81⟩
        have hFT12 : FR md_re_tellSentence S T12 := FR.tr hFU2 w83 rfl
        show Rl _ _ _ _ _ [iv z82] _ _
        refine l_goto rfl rfl ?_
        refine l_ireturn rfl (retI_z (by omega)) ?_
        have w84 : 0 ≤ Xi T12 876 8 ∧ Xi T12 876 8 ≤ 9 := hHT12.c _ _
        exact ⟨hHT12, hFT12, _, rfl, ⟨by omega, by omega⟩, (by first | (intro hz; omega) | (intro _; assumption) | (intro hz; apply_assumption; omega) | (intro _; exact (by assumption : WI T12))), (by omega)⟩
    | 7, hii =>
      cases hii
      have w85 : (Xi U2 890 2) = 16 := by simpa using w4
      refine l_aload_n rfl rfl ?_
      have w86 : Xi U2 891 9 = Xi U1 891 9 := (show Xi U2 891 9 = Xi U1 891 9 from by rw [eU2]; exact Xi_ne (by omega))
      have w87 : 0 ≤ Xi U1 891 9 ∧ Xi U1 891 9 ≤ 24 := hHU1.c _ _
      refine l_callV rfl rfl rfl (t_re_tellValues hHU2 (by first | assumption | exact (WI_FR hHU1 (FR_e eU2) rfl rfl rfl rfl rfl rfl rfl rfl rfl (WI_FR hH (FR_e eU1) rfl rfl rfl rfl rfl rfl rfl rfl rfl (by assumption : WI S)))) (by first | assumption | omega) _) ?_
      rintro _ T13 ⟨hHT13, w91, z90, rfl, w90, w88, w89⟩
      have hFT13 : FR md_re_tellSentence S T13 := FR.tr hFU2 w91 rfl
      show Rl _ _ _ _ _ [iv z90] _ _
      refine l_ireturn rfl (retI_z (by omega)) ?_
      have w92 : 0 ≤ Xi T13 876 8 ∧ Xi T13 876 8 ≤ 9 := hHT13.c _ _
      exact ⟨hHT13, hFT13, _, rfl, ⟨by omega, by omega⟩, (by first | (intro hz; omega) | (intro _; assumption) | (intro hz; apply_assumption; omega) | (intro _; exact (by assumption : WI T13))), (by omega)⟩
    | 8, hii =>
      cases hii
      have w93 : (Xi U2 890 2) = 17 := by simpa using w4
      refine l_aload_n rfl rfl ?_
      have w94 : Xi U2 891 9 = Xi U1 891 9 := (show Xi U2 891 9 = Xi U1 891 9 from by rw [eU2]; exact Xi_ne (by omega))
      have w95 : 0 ≤ Xi U1 891 9 ∧ Xi U1 891 9 ≤ 24 := hHU1.c _ _
      refine l_callV rfl rfl rfl (t_re_tellHas hHU2 (by first | assumption | exact (WI_FR hHU1 (FR_e eU2) rfl rfl rfl rfl rfl rfl rfl rfl rfl (WI_FR hH (FR_e eU1) rfl rfl rfl rfl rfl rfl rfl rfl rfl (by assumption : WI S)))) (by first | assumption | omega) _) ?_
      rintro _ T14 ⟨hHT14, w99, z98, rfl, w98, w96, w97⟩
      have hFT14 : FR md_re_tellSentence S T14 := FR.tr hFU2 w99 rfl
      show Rl _ _ _ _ _ [iv z98] _ _
      refine l_ireturn rfl (retI_z (by omega)) ?_
      have w100 : 0 ≤ Xi T14 876 8 ∧ Xi T14 876 8 ≤ 9 := hHT14.c _ _
      exact ⟨hHT14, hFT14, _, rfl, ⟨by omega, by omega⟩, (by first | (intro hz; omega) | (intro _; assumption) | (intro hz; apply_assumption; omega) | (intro _; exact (by assumption : WI T14))), (by omega)⟩
    | 9, hii =>
      cases hii
      have w101 : (Xi U2 890 2) = 18 := by simpa using w4
      refine l_aload_n rfl rfl ?_
      have w102 : Xi U2 891 9 = Xi U1 891 9 := (show Xi U2 891 9 = Xi U1 891 9 from by rw [eU2]; exact Xi_ne (by omega))
      have w103 : 0 ≤ Xi U1 891 9 ∧ Xi U1 891 9 ≤ 24 := hHU1.c _ _
      refine l_callV rfl rfl rfl (t_re_tellCan hHU2 (by first | assumption | exact (WI_FR hHU1 (FR_e eU2) rfl rfl rfl rfl rfl rfl rfl rfl rfl (WI_FR hH (FR_e eU1) rfl rfl rfl rfl rfl rfl rfl rfl rfl (by assumption : WI S)))) (by first | assumption | omega) _) ?_
      rintro _ T15 ⟨hHT15, w107, z106, rfl, w106, w104, w105⟩
      have hFT15 : FR md_re_tellSentence S T15 := FR.tr hFU2 w107 rfl
      show Rl _ _ _ _ _ [iv z106] _ _
      refine l_ireturn rfl (retI_z (by omega)) ?_
      have w108 : 0 ≤ Xi T15 876 8 ∧ Xi T15 876 8 ≤ 9 := hHT15.c _ _
      exact ⟨hHT15, hFT15, _, rfl, ⟨by omega, by omega⟩, (by first | (intro hz; omega) | (intro _; assumption) | (intro hz; apply_assumption; omega) | (intro _; exact (by assumption : WI T15))), (by omega)⟩
    | 10, hii =>
      cases hii
      have w109 : (Xi U2 890 2) = 19 := by simpa using w4
      refine l_aload_n rfl rfl ?_
      have w110 : Xi U2 891 9 = Xi U1 891 9 := (show Xi U2 891 9 = Xi U1 891 9 from by rw [eU2]; exact Xi_ne (by omega))
      have w111 : 0 ≤ Xi U1 891 9 ∧ Xi U1 891 9 ≤ 24 := hHU1.c _ _
      refine l_callV rfl rfl rfl (t_re_tellRelation hHU2 (by first | assumption | exact (WI_FR hHU1 (FR_e eU2) rfl rfl rfl rfl rfl rfl rfl rfl rfl (WI_FR hH (FR_e eU1) rfl rfl rfl rfl rfl rfl rfl rfl rfl (by assumption : WI S)))) (by first | assumption | omega) _) ?_
      rintro _ T16 ⟨hHT16, w115, z114, rfl, w114, w112, w113⟩
      have hFT16 : FR md_re_tellSentence S T16 := FR.tr hFU2 w115 rfl
      show Rl _ _ _ _ _ [iv z114] _ _
      refine l_ireturn rfl (retI_z (by omega)) ?_
      have w116 : 0 ≤ Xi T16 876 8 ∧ Xi T16 876 8 ≤ 9 := hHT16.c _ _
      exact ⟨hHT16, hFT16, _, rfl, ⟨by omega, by omega⟩, (by first | (intro hz; omega) | (intro _; assumption) | (intro hz; apply_assumption; omega) | (intro _; exact (by assumption : WI T16))), (by omega)⟩
    | n + 11, hii => exact absurd hii (by simp)
/-! SAFETY: commands understood -/
def KCM (S T : sS) : Prop := ∀ i : Nat, (i : Int) < Xi S 882 3 → Xi T 885 i = Xi S 885 i ∧ Xi T 886 i = Xi S 886 i
theorem KCM.rf {S : sS} : KCM S S := fun _ _ => ⟨rfl, rfl⟩
theorem kcm_w5 {S T U : sS} {a : Int} {v : Int32} (e : U = uI T 885 a.toNat v) (h : KCM S T) (h0 : 0 ≤ Xi S 882 3) (ha : Xi S 882 3 ≤ a) : KCM S U := fun i hi => by
  rw [e, Xi_ne (by omega), Xi_ne (by omega)]; exact h i hi
theorem kcm_w6 {S T U : sS} {a : Int} {v : Int32} (e : U = uI T 886 a.toNat v) (h : KCM S T) (h0 : 0 ≤ Xi S 882 3) (ha : Xi S 882 3 ≤ a) : KCM S U := fun i hi => by
  rw [e, Xi_ne (by omega), Xi_ne (by omega)]; exact h i hi
theorem kcm_f {l : List rec} {S T U : sS} (h : FR l T U) (e : kdis l [(885, 887)] = true) (hk : KCM S T) : KCM S U := fun i hi => by
  have k := h.smk e
  rw [k.x 885 rfl, k.x 886 rfl]; exact hk i hi
theorem WI_c {l : List rec} {S T : sS} (hH : HI S) (h : FR l S T) (e1 : mdf l 1 3 = false) (e2 : dL l = true) (e3 : (kdis l kX && !(mdf l 20 1)) = true) (e4 : (kdis l kG && (!(mdf l 20 1) && (!(mdf l 246 8) && !(mdf l 246 5)))) = true) (e5 : kdis l [(5, 6), (11, 14)] = true) (e6 : (kdis l [(5, 6), (248, 272)] && !(mdf l 246 2)) = true) (e8 : kdis l [(8, 9)] = true) (e9 : kdis l [(19, 20), (5, 6)] = true) (hC : CMD T) (hW : WI S) : WI T := by
  obtain ⟨w1, w2, w3, w4, _, w6, w7, w8⟩ := hW
  have k5 := h.smk e5
  have e6b := e6
  simp only [Bool.and_eq_true, Bool.not_eq_true'] at e6b
  have e4b := e4
  simp only [Bool.and_eq_true, Bool.not_eq_true'] at e4b
  refine ⟨LEX_FR h e1 e2 w1, TX_FR h e3 w2, DEF_FR hH h e4 e5 w3, RUL_FR hH h e4 e6 w4, hC, AK_FR h e9 w6, ?_, fun t => ?_⟩
  · unfold CC
    rw [h.x 246 5 e4b.2.2.2, h.x 246 2 e6b.2, k5.x 5 rfl]
    exact w7
  · rw [vals_fr (fun j => (h.smk e8).x 8 rfl j) (k5.x 5 rfl 4)]
    exact w8 t
theorem CMD_add {S P U : sS} {a : Int} (hH : HI S) (hC : CMD S) (hk : KCM S P) (x3 : Xi P 882 3 = Xi S 882 3) (x883 : ∀ i, Xi P 883 i = Xi S 883 i) (f5 : ∀ j, Xi U 5 j = Xi S 5 j) (f19 : ∀ j, Xi U 19 j = Xi S 19 j) (f85 : ∀ j, Xi U 885 j = Xi P 885 j) (f86 : ∀ j, Xi U 886 j = Xi P 886 j) (u3 : Xi U 882 3 = Xi P 882 3 + 1) (ua : Xi U 883 (Xi P 882 3).toNat = a) (uo : ∀ i : Nat, (i : Int) < Xi P 882 3 → Xi U 883 i = Xi P 883 i) (ha : a < Xi S 5 8) (h1 : Xi P 885 (Xi P 882 3).toNat = -1 → Xi S 19 a.toNat = -1) (h2 : Xi S 19 a.toNat = -2 → Xi P 886 (Xi P 882 3).toNat = -2) : CMD U := by
  have h20 : 0 ≤ Xi S 882 3 ∧ Xi S 882 3 ≤ 20 := hH.c _ _
  intro i hi
  rw [u3] at hi
  rw [f85, f86, f5]
  by_cases e : (i : Int) < Xi P 882 3
  · rw [uo i e, x883, f19, (hk i (by omega)).1, (hk i (by omega)).2]
    exact hC i (by omega)
  · rw [show i = (Xi P 882 3).toNat by omega, ua, f19]
    exact ⟨ha, h1, h2⟩


