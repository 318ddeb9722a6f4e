/-! SAFETY of methods: printed by wip/safe (vc.py, decl.py) -/
theorem cnR_c {S T : sS} {f s : Int} (h : ∀ r, rnR T r s = rnR S r s) : ∀ m : Nat, cnR T f s m = cnR S f s m
  | 0 => rfl
  | m + 1 => by
    show cnR T f s m + (if rnR T (f + m) s = -1 then 1 else 0) = cnR S f s m + (if rnR S (f + m) s = -1 then 1 else 0)
    rw [cnR_c h m, h]
theorem ona_bk {l : List rec} {S T : sS} (h : FR l S T) (e : ((kdis l kLX && mD l [15]) && (kdis l [(950, 952)] && mD l [19, 71, 72])) = true) (hO : ONA T) : ONA S := by
  simp only [Bool.and_eq_true] at e
  obtain ⟨⟨a1, a2⟩, b, c⟩ := e
  have a : (kdis l kLX && mD l [15]) = true := by rw [a1, a2]; rfl
  have r : ∀ x, rnR T x 4 = rnR S x 4 := fun x => rnR_FR h a b
  have k := h.smk b
  unfold ONA ON at *
  obtain ⟨x, y, z⟩ := hO
  rw [mD_x h c 19 (by decide), mD_x h c 71 (by decide), mD_x h c 72 (by decide), cnR_c r] at y
  refine ⟨x, y, fun i h0 hi q => ?_⟩
  have t := z i h0 (by rw [mD_x h c 72 (by decide)]; exact hi) (by rw [mD_x h c 71 (by decide), r]; exact q)
  rw [mD_x h c 19 (by decide), mD_x h c 71 (by decide), cnR_c r, k.x 951 rfl] at t
  exact t
theorem ona_fw {l : List rec} {S T : sS} (h : FR l S T) (e : ((kdis l kLX && mD l [15]) && (kdis l [(950, 952)] && mD l [19, 71, 72])) = true) (hO : ONA S) : ONA T := by
  simp only [Bool.and_eq_true] at e
  obtain ⟨⟨a1, a2⟩, b, c⟩ := e
  have a : (kdis l kLX && mD l [15]) = true := by rw [a1, a2]; rfl
  have r : ∀ x, rnR T x 4 = rnR S x 4 := fun x => rnR_FR h a b
  have k := h.smk b
  unfold ONA ON at *
  rw [mD_x h c 19 (by decide), mD_x h c 71 (by decide), mD_x h c 72 (by decide)]
  obtain ⟨x, y, z⟩ := hO
  refine ⟨x, by rw [cnR_c r]; exact y, fun i h0 hi q => ?_⟩
  rw [r] at q
  rw [cnR_c r, k.x 951 rfl]
  exact z i h0 hi q
theorem aq_c {T : sS} {a b k v a2 b2 k2 v2 : Int} (h : 1 ≤ adR T a b k 0 v) (e1 : a2 = a) (e2 : b2 = b) (e3 : k2 = k) (e4 : v2 = v) : 1 ≤ adR T a2 b2 k2 0 v2 := by rw [e1, e2, e3, e4]; exact h
def md_mo_doFifteen : List rec := [(904, 905, 15, 16), (904, 905, 19, 20), (904, 905, 30, 31), (904, 905, 60, 61), (904, 905, 64, 65), (904, 905, 73, 74), (904, 905, 105, 106), (904, 905, 106, 107), (904, 905, 113, 114), (912, 913, 0, 100000), (913, 914, 0, 100000), (914, 915, 0, 100000), (915, 916, 0, 100000), (916, 917, 0, 100000), (918, 919, 0, 100000), (919, 920, 0, 100000), (920, 921, 0, 100000), (925, 926, 0, 100000), (926, 927, 0, 100000), (927, 928, 0, 100000), (930, 931, 0, 100000), (931, 932, 0, 100000), (932, 933, 0, 100000), (933, 934, 0, 100000), (934, 935, 0, 100000), (935, 936, 0, 100000)]
abbrev Q_mo_doFifteen (S : sS) (n : Nat) : pst := fun r S1 => HI S1 ∧ FR md_mo_doFifteen S S1 ∧ (r = none ∧ (TXM S1) ∧ (WYM S1) ∧ (LXM S1) ∧ (LCN S1) ∧ (GR S1 S) ∧ (VTM S1) ∧ (VCN S1) ∧ (Xi S1 904 60 < Xi S1 904 19))
set_option maxRecDepth 100000 in
set_option maxHeartbeats 4000000 in
theorem c120_mo_doFifteen {S : sS} (hH : HI S) (n : Nat) (hT : TK S n) (hv : RNV S n) (hM : LXM S) (hX : TXM S) (hW : WYM S) (hLC : LCN S) (hB : ABV S) (hC : DCM S) (hl : Xi S 904 71 + Xi S 904 72 ≤ Xi S 904 69) (hV : VTM S) (hVC : VCN S) (hd : Xi S 904 60 < Xi S 904 19) (h1 : 1 ≤ Xi S 904 72) (h6 : 1 ≤ Xi S 904 16) (hs : Xi S 904 70 ≠ 13) (hw : 0 ≤ Xi S 904 78 ∧ Xi S 904 78 < Xi S 904 69) (k1 : Xi S 904 142 = 1 → rnR S (Xi S 904 71) 0 ≠ -1 ∧ ADM S (Xi S 967 0)) (k2 : Xi S 904 142 = 2 → 1 < r2R S (Xi S 904 71) 2 3 ∧ cvR S (r2R S (Xi S 904 71) 2 3) (Xi S 904 30).toNat + (Xi S 904 69 - Xi S 904 78) ≤ 8 ∧ ∀ r : Int, Xi S 904 78 ≤ r → r < Xi S 904 69 → Xi S 951 r.toNat ≤ 3) (k3 : Xi S 904 142 = 3 → ONA S ∧ Xi S 904 110 < Xi S 904 16 ∧ ∀ i : Nat, (i : Int) < Xi S 904 112 → ADM S (Xi S 967 i)) (k4 : Xi S 904 142 ≠ 1 → Xi S 904 142 ≠ 2 → Xi S 904 142 ≠ 3 → AQ4 S) (d : Nat) : ∀ (n120 : Nat) (T1 : sS) (_ : HI T1) (_ : FR md_mo_doFifteen S T1) (v2 : Int) (v3 : Int), (2 ≤ v2 ∧ v2 ≤ 7) → (0 ≤ v3 ∧ v3 ≤ 2600) → (Xi T1 904 69 = Xi S 904 69) → (Xi T1 904 71 = Xi S 904 71) → (Xi T1 904 72 = Xi S 904 72) → (Xi T1 904 75 = Xi S 904 75) → (Xi T1 904 78 = Xi S 904 78) → (v2 = r2R S (Xi S 904 71) 2 3) → (2 ≤ v2) → (Xi S 904 78 ≤ v3 ∧ v3 ≤ Xi S 904 69) → (Xi S 904 142 = 2) → (Xi S 904 30 + (Xi S 904 69 - Xi S 904 78) ≤ 48) → (Xi T1 904 30 = Xi S 904 30 + (v3 - Xi S 904 78)) → (Xi T1 904 60 = Xi S 904 60 ∧ Xi T1 904 19 = Xi S 904 19) → (TXM T1) → (WYM T1) → (LXM T1) → (LCN T1) → (GR T1 S) → (VTM T1) → (∀ t : Int, cvR T1 t (Xi T1 904 30).toNat = cvR S t (Xi S 904 30).toNat + (if t = v2 then v3 - Xi S 904 78 else 0)) → n120 = (2601 - v3).toNat → Rl lay0 (d + 6) m_mo_doFifteen 120 [(0, .ref 904), (2, iv v2), (3, iv v3)] [] T1 (Q_mo_doFifteen S n) := by
  have hF : FR md_mo_doFifteen S S := FR.rf
  have w1 : 0 ≤ Xi S 904 110 ∧ Xi S 904 110 ≤ 15 := hH.c _ _
  have w2 : 0 ≤ Xi S 904 112 ∧ Xi S 904 112 ≤ 6 := hH.c _ _
  have w3 : -1 ≤ Xi S 904 113 ∧ Xi S 904 113 ≤ 6411 := hH.c _ _
  have w4 : 0 ≤ Xi S 904 142 ∧ Xi S 904 142 ≤ 4 := hH.c _ _
  have w5 : 0 ≤ Xi S 904 16 ∧ Xi S 904 16 ≤ 16 := hH.c _ _
  have w6 : 0 ≤ Xi S 904 19 ∧ Xi S 904 19 ≤ 24 := hH.c _ _
  have w7 : 0 ≤ Xi S 904 23 ∧ Xi S 904 23 ≤ 24 := hH.c _ _
  have w8 : 0 ≤ Xi S 904 30 ∧ Xi S 904 30 ≤ 64 := hH.c _ _
  have w9 : 0 ≤ Xi S 904 32 ∧ Xi S 904 32 ≤ 12 := hH.c _ _
  have w10 : -1 ≤ Xi S 904 60 ∧ Xi S 904 60 ≤ 23 := hH.c _ _
  have w11 : 0 ≤ Xi S 904 69 ∧ Xi S 904 69 ≤ 2600 := hH.c _ _
  have w12 : 0 ≤ Xi S 904 70 ∧ Xi S 904 70 ≤ 20 := hH.c _ _
  have w13 : 0 ≤ Xi S 904 71 ∧ Xi S 904 71 ≤ 2600 := hH.c _ _
  have w14 : 0 ≤ Xi S 904 72 ∧ Xi S 904 72 ≤ 2600 := hH.c _ _
  have w15 : 0 ≤ Xi S 904 75 ∧ Xi S 904 75 ≤ 1 := hH.c _ _
  have w16 : -2 ≤ Xi S 904 78 ∧ Xi S 904 78 ≤ 5010 := hH.c _ _
  have w17 : -1 ≤ Xi S 967 0 ∧ Xi S 967 0 ≤ 6411 := hH.c _ _
  have hn5 := hT.1
  have hc69 : 0 ≤ Xi S 904 69 ∧ Xi S 904 69 ≤ 2600 := hH.c _ _
  have hc71 : 0 ≤ Xi S 904 71 ∧ Xi S 904 71 ≤ 2600 := hH.c _ _
  have hc72 : 0 ≤ Xi S 904 72 ∧ Xi S 904 72 ≤ 2600 := hH.c _ _
  have hrf : ∀ r : Int, 0 ≤ r → r < Xi S 904 69 → Xi S 950 r.toNat ≤ n := fun r a b => by have := hv r.toNat (by omega); omega
  have hc15 : 0 ≤ Xi S 904 15 ∧ Xi S 904 15 ≤ 300 := hH.c _ _
  have hl9 := lcn_le hH hLC
  have hc3 : 0 ≤ Xi S 904 23 ∧ Xi S 904 23 ≤ 24 := hH.c _ _
  have hc19 : 0 ≤ Xi S 904 19 ∧ Xi S 904 19 ≤ 24 := hH.c _ _
  have hc32 : 0 ≤ Xi S 904 32 ∧ Xi S 904 32 ≤ 12 := hH.c _ _
  have hc30 : 0 ≤ Xi S 904 30 ∧ Xi S 904 30 ≤ 64 := hH.c _ _
  have hc16 : 0 ≤ Xi S 904 16 ∧ Xi S 904 16 ≤ 16 := hH.c _ _
  have hc18 : 0 ≤ Xi S 904 18 ∧ Xi S 904 18 ≤ 8 := hH.c _ _
  have hk1 : Xi S 904 142 = 1 → rnR S (Xi S 904 71) 0 ≠ -1 ∧ ((0 ≤ Xi S 967 0 ∧ Xi S 967 0 < Xi S 904 23) ∨ (100 ≤ Xi S 967 0 ∧ Xi S 967 0 % 100 < Xi S 904 32 ∧ Xi S 967 0 ≤ 6411)) := k1
  have hk2 : Xi S 904 142 = 2 → 1 < r2R S (Xi S 904 71) 2 3 := fun q => (k2 q).1
  have hrw := hrf (Xi S 904 78) hw.1 hw.2
  have hqw : Xi S 950 (Xi S 904 78).toNat + Xi S 951 (Xi S 904 78).toNat ≤ n := (hv (Xi S 904 78).toNat (by omega)).1
  intro n120
  induction n120 using Nat.strongRecOn with
  | ind n120 ih120 =>
    intro T1 hHT1 hFT1 v2 v3 w18 w19 w20 w21 w22 w23 w24 w25 w26 w27 w28 w29 w30 w31 X120 W120 M120 L120 G120 V120 C120 hm120
    have w32 : Xi T1 904 110 = Xi S 904 110 := hFT1.x _ _ rfl
    have w33 : Xi T1 904 112 = Xi S 904 112 := hFT1.x _ _ rfl
    have w34 : Xi T1 904 142 = Xi S 904 142 := hFT1.x _ _ rfl
    have w35 : Xi T1 904 16 = Xi S 904 16 := hFT1.x _ _ rfl
    have w36 : Xi T1 904 23 = Xi S 904 23 := hFT1.x _ _ rfl
    have w37 : Xi T1 904 32 = Xi S 904 32 := hFT1.x _ _ rfl
    have w38 : Xi T1 904 69 = Xi S 904 69 := hFT1.x _ _ rfl
    have w39 : Xi T1 904 70 = Xi S 904 70 := hFT1.x _ _ rfl
    have w40 : Xi T1 904 71 = Xi S 904 71 := hFT1.x _ _ rfl
    have w41 : Xi T1 904 72 = Xi S 904 72 := hFT1.x _ _ rfl
    have w42 : Xi T1 904 74 = Xi S 904 74 := hFT1.x _ _ rfl
    have w43 : Xi T1 904 75 = Xi S 904 75 := hFT1.x _ _ rfl
    have w44 : Xi T1 904 78 = Xi S 904 78 := hFT1.x _ _ rfl
    have w45 : Xi T1 967 0 = Xi S 967 0 := hFT1.x _ _ rfl
    have w46 : 0 ≤ Xi T1 904 19 ∧ Xi T1 904 19 ≤ 24 := hHT1.c _ _
    have w47 : 0 ≤ Xi T1 904 30 ∧ Xi T1 904 30 ≤ 64 := hHT1.c _ _
    have w48 : -1 ≤ Xi T1 904 60 ∧ Xi T1 904 60 ≤ 23 := hHT1.c _ _
    have w49 : 0 ≤ Xi T1 904 69 ∧ Xi T1 904 69 ≤ 2600 := hHT1.c _ _
    have w50 : 0 ≤ Xi T1 904 71 ∧ Xi T1 904 71 ≤ 2600 := hHT1.c _ _
    have w51 : 0 ≤ Xi T1 904 72 ∧ Xi T1 904 72 ≤ 2600 := hHT1.c _ _
    have w52 : 0 ≤ Xi T1 904 75 ∧ Xi T1 904 75 ≤ 1 := hHT1.c _ _
    have w53 : -2 ≤ Xi T1 904 78 ∧ Xi T1 904 78 ≤ 5010 := hHT1.c _ _
    refine l_iload_n rfl rfl ?_
    refine l_aload_n rfl rfl ?_
    refine l_gfi rfl rfl rfl rfl rfl ?_
    refine l_icmp_ge rfl rfl (by unfold rg; omega) (by unfold rg; omega) (fun w54 => ?_) (fun w55 => ?_)
    · refine l_goto rfl rfl ?_
      refine l_return rfl rfl ?_
      have w56 : 0 ≤ Xi T1 904 106 ∧ Xi T1 904 106 ≤ 9 := hHT1.c _ _
      have w57 : -1 ≤ Xi T1 904 113 ∧ Xi T1 904 113 ≤ 6411 := hHT1.c _ _
      have w58 : 0 ≤ Xi T1 904 15 ∧ Xi T1 904 15 ≤ 300 := hHT1.c _ _
      have w60 : 0 ≤ Xi T1 904 23 ∧ Xi T1 904 23 ≤ 24 := hHT1.c _ _
      have w62 : 0 ≤ Xi T1 904 32 ∧ Xi T1 904 32 ≤ 12 := hHT1.c _ _
      exact ⟨hHT1, hFT1, rfl, (by first | assumption | exact (by assumption : TXM T1)), (by first | assumption | exact (by assumption : WYM T1)), (by first | assumption | exact (by assumption : LXM T1)), (by first | assumption | exact (by assumption : LCN T1)), (by first | assumption | exact (by assumption : GR T1 S)), (by first | assumption | exact (by assumption : VTM T1)), (by first | assumption | exact (by assumption : VCN T1) | exact (fun t ht => by rw [C120 t]; by_cases q : t = v2; (rw [if_pos q, q]; have u := (k2 (by omega)).2.1; rw [show r2R S (Xi S 904 71) 2 3 = v2 by omega] at u; omega); (rw [if_neg q]; have u := hVC t ht; omega))), (by omega)⟩
    · refine l_aload_n rfl rfl ?_
      refine l_gfr rfl rfl rfl rfl rfl (hHT1.r 904 31 927 rfl) ?_
      refine l_aload_n rfl rfl ?_
      refine l_gfi rfl rfl rfl rfl rfl ?_
      refine l_iload_n rfl rfl ?_
      refine l_iastore (n := 64) rfl rfl (by omega) (by omega) (by unfold rg; omega) ?_
      obtain ⟨U2, eU2⟩ : ∃ T : sS, T = uI T1 927 (((Xi T1 904 30)).toNat) (Int32.ofInt v2) := ⟨_, rfl⟩
      rw [← eU2]
      have hHU2 : HI U2 := by rw [eU2]; exact HI_w hHT1 (show 0 ≤ v2 by omega) (show v2 ≤ 7 by omega)
      have hFU2 : FR md_mo_doFifteen S U2 := by rw [eU2]; exact FR.wI hFT1 (mdf_i (r := (927, 928, 0, 100000)) (List.mem_of_getElem? (i := 19) rfl) (inR_i (by omega) (by omega) (by omega) (by omega)))
      have w69 : Xi U2 927 (((Xi T1 904 30)).toNat) = v2 := by rw [eU2]; exact Xi_same (by unfold rg; omega)
      have b137 : ∀ j : Nat, (j : Int) < Xi T1 904 30 → Xi U2 927 j = Xi T1 927 j := fun j hj => by rw [eU2, Xi_ne (by omega)]
      have a137 : Xi U2 927 (Xi T1 904 30).toNat = v2 := by assumption
      have x137 : LXK U2 T1 (Xi T1 904 15) := LXK_FR (FR_e eU2) rfl
      have c137 : Xi U2 904 15 = Xi T1 904 15 ∧ Xi U2 904 30 = Xi T1 904 30 := ⟨by rw [eU2, Xi_ne (by omega)], by rw [eU2, Xi_ne (by omega)]⟩
      have l137 := lcn_le hHT1 L120
      refine l_aload_n rfl rfl ?_
      refine l_bipush rfl rfl ?_
      refine l_aload_n rfl rfl ?_
      refine l_gfi rfl rfl rfl rfl rfl ?_
      have w70 : (Xi U2 904 30) = (Xi T1 904 30) := (show Xi U2 904 30 = Xi T1 904 30 from by rw [eU2]; exact Xi_ne (by omega))
      rw [w70]
      refine l_iload_n rfl rfl ?_
      have w71 : Xi U2 904 106 = Xi T1 904 106 := (show Xi U2 904 106 = Xi T1 904 106 from by rw [eU2]; exact Xi_ne (by omega))
      have w72 : 0 ≤ Xi T1 904 106 ∧ Xi T1 904 106 ≤ 9 := hHT1.c _ _
      have w73 : Xi U2 904 113 = Xi T1 904 113 := (show Xi U2 904 113 = Xi T1 904 113 from by rw [eU2]; exact Xi_ne (by omega))
      have w74 : -1 ≤ Xi T1 904 113 ∧ Xi T1 904 113 ≤ 6411 := hHT1.c _ _
      have w75 : Xi U2 904 15 = Xi T1 904 15 := (show Xi U2 904 15 = Xi T1 904 15 from by rw [eU2]; exact Xi_ne (by omega))
      have w76 : 0 ≤ Xi T1 904 15 ∧ Xi T1 904 15 ≤ 300 := hHT1.c _ _
      have w77 : Xi U2 904 19 = Xi T1 904 19 := (show Xi U2 904 19 = Xi T1 904 19 from by rw [eU2]; exact Xi_ne (by omega))
      have w79 : Xi U2 904 23 = Xi T1 904 23 := (show Xi U2 904 23 = Xi T1 904 23 from by rw [eU2]; exact Xi_ne (by omega))
      have w80 : 0 ≤ Xi T1 904 23 ∧ Xi T1 904 23 ≤ 24 := hHT1.c _ _
      have w81 : Xi U2 904 30 = Xi T1 904 30 := (show Xi U2 904 30 = Xi T1 904 30 from by rw [eU2]; exact Xi_ne (by omega))
      have w83 : Xi U2 904 32 = Xi T1 904 32 := (show Xi U2 904 32 = Xi T1 904 32 from by rw [eU2]; exact Xi_ne (by omega))
      have w84 : 0 ≤ Xi T1 904 32 ∧ Xi T1 904 32 ≤ 12 := hHT1.c _ _
      have w85 : Xi U2 904 60 = Xi T1 904 60 := (show Xi U2 904 60 = Xi T1 904 60 from by rw [eU2]; exact Xi_ne (by omega))
      have w87 : Xi U2 904 69 = Xi T1 904 69 := (show Xi U2 904 69 = Xi T1 904 69 from by rw [eU2]; exact Xi_ne (by omega))
      have w89 : Xi U2 904 71 = Xi T1 904 71 := (show Xi U2 904 71 = Xi T1 904 71 from by rw [eU2]; exact Xi_ne (by omega))
      have w91 : Xi U2 904 72 = Xi T1 904 72 := (show Xi U2 904 72 = Xi T1 904 72 from by rw [eU2]; exact Xi_ne (by omega))
      have w93 : Xi U2 904 75 = Xi T1 904 75 := (show Xi U2 904 75 = Xi T1 904 75 from by rw [eU2]; exact Xi_ne (by omega))
      have w95 : Xi U2 904 78 = Xi T1 904 78 := (show Xi U2 904 78 = Xi T1 904 78 from by rw [eU2]; exact Xi_ne (by omega))
      refine l_callV rfl rfl rfl (t_mo_tellRun hHU2 n 6 (Xi T1 904 30) v3 ⟨by omega, by omega⟩ ⟨by omega, by omega⟩ ⟨by omega, by omega⟩ (by first | assumption | exact (TK_FR hFU2 rfl (by assumption : TK S _))) (by first | assumption | exact (RNV_FR hFU2 rfl (by assumption : RNV S _))) (by first | assumption | omega) (by rw [(hFU2.cx 951 rfl _).1]; exact (k2 (by omega)).2.2 v3 (by omega) (by omega)) (by first | assumption | omega) _) ?_
      rintro _ T3 ⟨hHT3, w99, rfl, w97, e146, k146⟩
      have hFT3 : FR md_mo_doFifteen S T3 := FR.tr hFU2 w99 rfl
      show Rl _ _ _ _ _ [] _ _
      have b146 : ∀ j : Nat, (j : Int) < Xi T1 904 30 → Xi T3 927 j = Xi T1 927 j := fun j hj => ((by assumption : FR md_mo_tellRun U2 T3).cx 927 rfl j).1.trans (b137 j hj)
      have a146 : Xi T3 927 (Xi T1 904 30).toNat = v2 := ((by assumption : FR md_mo_tellRun U2 T3).cx 927 rfl _).1.trans a137
      have x146 : LXK T3 T1 (Xi T1 904 15) := x137.tr k146 (by omega)
      have c146 : Xi T3 904 15 = Xi T1 904 15 + 1 ∧ Xi T3 904 30 = Xi T1 904 30 := ⟨by omega, ((by assumption : FR md_mo_tellRun U2 T3).x 904 30 rfl).trans c137.2⟩
      have d146 : Xi T3 914 (Xi T1 904 15).toNat = 6 ∧ Xi T3 915 (Xi T1 904 15).toNat = Xi T1 904 30 := by rw [← c137.1]; exact ⟨e146.1, e146.2.trans (by first | exact c137.2 | omega | rfl)⟩
      refine l_aload_n rfl rfl ?_
      refine l_dup rfl rfl ?_
      refine l_gfi rfl rfl rfl rfl rfl ?_
      have w100 : (Xi T3 904 30) = (Xi T1 904 30) := (show Xi T3 904 30 = Xi U2 904 30 from w99.x _ _ rfl).trans ((show Xi U2 904 30 = Xi T1 904 30 from by rw [eU2]; exact Xi_ne (by omega)))
      rw [w100]
      refine l_iconst rfl ?_
      refine l_iadd rfl ?_
      refine l_pfi rfl rfl rfl rfl ?_
      obtain ⟨U4, eU4⟩ : ∃ T : sS, T = uI T3 904 30 (Int32.ofInt ((Xi T1 904 30) + 1)) := ⟨_, rfl⟩
      rw [← eU4]
      have hHU4 : HI U4 := by rw [eU4]; exact HI_w hHT3 (show 0 ≤ ((Xi T1 904 30) + 1) by omega) (show ((Xi T1 904 30) + 1) ≤ 64 by omega)
      have hFU4 : FR md_mo_doFifteen S U4 := by rw [eU4]; exact FR.wI hFT3 (mdf_i (r := (904, 905, 30, 31)) (List.mem_of_getElem? (i := 2) rfl) (inR_i (by omega) (by omega) (by omega) (by omega)))
      have w101 : Xi U4 904 30 = ((Xi T1 904 30) + 1) := by rw [eU4]; exact Xi_same (by unfold rg; omega)
      have b156 : ∀ j : Nat, (j : Int) < Xi T1 904 30 → Xi U4 927 j = Xi T1 927 j := fun j hj => by rw [eU4, Xi_ne (by omega)]; exact b146 j hj
      have a156 : Xi U4 927 (Xi T1 904 30).toNat = v2 := by rw [eU4, Xi_ne (by omega)]; exact a146
      have x156 : LXK U4 T1 (Xi T1 904 15) := x146.fr (FR_e eU4) rfl
      have c156 : Xi U4 904 15 = Xi T1 904 15 + 1 ∧ Xi U4 904 30 = Xi T1 904 30 + 1 := ⟨by have t : Xi U4 904 15 = Xi T3 904 15 := (by rw [eU4, Xi_ne (by omega)]); omega, by omega⟩
      have h30 : 0 ≤ Xi T1 904 30 ∧ 0 ≤ Xi T1 904 15 := ⟨(hHT1.c 904 30).1, (hHT1.c 904 15).1⟩
      have d156 : Xi U4 914 (Xi T1 904 15).toNat = 6 ∧ Xi U4 915 (Xi T1 904 15).toNat = Xi T1 904 30 := ⟨by rw [eU4, Xi_ne (by omega)]; exact d146.1, by rw [eU4, Xi_ne (by omega)]; exact d146.2⟩
      have z156_16 : Xi U4 904 16 = Xi T1 904 16 := (hFU4.x 904 16 rfl).trans (hFT1.x 904 16 rfl).symm
      have z156_18 : Xi U4 904 18 = Xi T1 904 18 := (hFU4.x 904 18 rfl).trans (hFT1.x 904 18 rfl).symm
      have z156_23 : Xi U4 904 23 = Xi T1 904 23 := (hFU4.x 904 23 rfl).trans (hFT1.x 904 23 rfl).symm
      have z156_32 : Xi U4 904 32 = Xi T1 904 32 := (hFU4.x 904 32 rfl).trans (hFT1.x 904 32 rfl).symm
      have z156_41 : Xi U4 904 41 = Xi T1 904 41 := (hFU4.x 904 41 rfl).trans (hFT1.x 904 41 rfl).symm
      have z156_47 : Xi U4 904 47 = Xi T1 904 47 := (hFU4.x 904 47 rfl).trans (hFT1.x 904 47 rfl).symm
      have z156_49 : Xi U4 904 49 = Xi T1 904 49 := (hFU4.x 904 49 rfl).trans (hFT1.x 904 49 rfl).symm
      have z156_19 : Xi U4 904 19 = Xi T1 904 19 := ((show Xi U4 904 19 = Xi T3 904 19 from by rw [eU4]; exact Xi_ne (by omega)).trans ((show Xi T3 904 19 = Xi U2 904 19 from w99.x _ _ rfl).trans ((show Xi U2 904 19 = Xi T1 904 19 from by rw [eU2]; exact Xi_ne (by omega)))))
      have g156 : GR U4 T1 := gr_m GR.rf (by omega) (by omega) (by omega) (by omega) (by omega) (by omega) (by omega) (by omega) (by omega) (fun i _ => ⟨((hFU4.cx 922 rfl i).1).trans ((hFT1.cx 922 rfl i).1).symm, ((hFU4.cx 923 rfl i).1).trans ((hFT1.cx 923 rfl i).1).symm, ((hFU4.cx 924 rfl i).1).trans ((hFT1.cx 924 rfl i).1).symm⟩) (fun i _ => ((hFU4.cx 928 rfl i).1).trans ((hFT1.cx 928 rfl i).1).symm) (fun i _ => ((hFU4.cx 942 rfl i).1).trans ((hFT1.cx 942 rfl i).1).symm)
      have M156 : LXM U4 := lxm_gr M120 x156 g156 (by omega) (Or.inr ⟨by omega, by rw [d156.1, d156.2, cM6]; omega⟩)
      have L156 : LCN U4 := lcn_i L120 (pls_le x156 (by omega) (by omega) (by omega)) (by omega)
      have G156 : GR U4 S := G120.tr g156
      have V156 : VTM U4 := vtm_add V120 b156 a156 (by omega) (by omega) (by omega)
      have C156 : ∀ t : Int, cvR U4 t (Xi U4 904 30).toNat = cvR S t (Xi S 904 30).toNat + (if t = v2 then v3 + 1 - Xi S 904 78 else 0) := fun t => (by rw [cv_add (t := t) b156 a156 (by omega) (by omega), C120 t]; by_cases q : t = v2; (rw [if_pos q, if_pos q, if_pos q]; omega); (rw [if_neg q, if_neg q, if_neg q]; omega))
      refine l_iinc rfl rfl rfl rfl ?_
      refine l_goto rfl rfl ?_
      have w102 : Xi U4 904 106 = Xi T1 904 106 := (show Xi U4 904 106 = Xi T3 904 106 from by rw [eU4]; exact Xi_ne (by omega)).trans ( (show Xi T3 904 106 = Xi U2 904 106 from w99.x _ _ rfl).trans ((show Xi U2 904 106 = Xi T1 904 106 from by rw [eU2]; exact Xi_ne (by omega))))
      have w104 : Xi U4 904 113 = Xi T1 904 113 := (show Xi U4 904 113 = Xi T3 904 113 from by rw [eU4]; exact Xi_ne (by omega)).trans ( (show Xi T3 904 113 = Xi U2 904 113 from w99.x _ _ rfl).trans ((show Xi U2 904 113 = Xi T1 904 113 from by rw [eU2]; exact Xi_ne (by omega))))
      have w106 : Xi U4 904 15 = Xi T3 904 15 := (show Xi U4 904 15 = Xi T3 904 15 from by rw [eU4]; exact Xi_ne (by omega))
      have w107 : 0 ≤ Xi T3 904 15 ∧ Xi T3 904 15 ≤ 300 := hHT3.c _ _
      have w108 : Xi U4 904 19 = Xi T1 904 19 := (show Xi U4 904 19 = Xi T3 904 19 from by rw [eU4]; exact Xi_ne (by omega)).trans ( (show Xi T3 904 19 = Xi U2 904 19 from w99.x _ _ rfl).trans ((show Xi U2 904 19 = Xi T1 904 19 from by rw [eU2]; exact Xi_ne (by omega))))
      have w110 : Xi U4 904 23 = Xi T1 904 23 := (show Xi U4 904 23 = Xi T3 904 23 from by rw [eU4]; exact Xi_ne (by omega)).trans ( (show Xi T3 904 23 = Xi U2 904 23 from w99.x _ _ rfl).trans ((show Xi U2 904 23 = Xi T1 904 23 from by rw [eU2]; exact Xi_ne (by omega))))
      have w112 : 0 ≤ Xi U4 904 30 ∧ Xi U4 904 30 ≤ 64 := hHU4.c _ _
      have w113 : Xi U4 904 32 = Xi T1 904 32 := (show Xi U4 904 32 = Xi T3 904 32 from by rw [eU4]; exact Xi_ne (by omega)).trans ( (show Xi T3 904 32 = Xi U2 904 32 from w99.x _ _ rfl).trans ((show Xi U2 904 32 = Xi T1 904 32 from by rw [eU2]; exact Xi_ne (by omega))))
      have w115 : Xi U4 904 60 = Xi T1 904 60 := (show Xi U4 904 60 = Xi T3 904 60 from by rw [eU4]; exact Xi_ne (by omega)).trans ( (show Xi T3 904 60 = Xi U2 904 60 from w99.x _ _ rfl).trans ((show Xi U2 904 60 = Xi T1 904 60 from by rw [eU2]; exact Xi_ne (by omega))))
      have w117 : Xi U4 904 69 = Xi T1 904 69 := (show Xi U4 904 69 = Xi T3 904 69 from by rw [eU4]; exact Xi_ne (by omega)).trans ( (show Xi T3 904 69 = Xi U2 904 69 from w99.x _ _ rfl).trans ((show Xi U2 904 69 = Xi T1 904 69 from by rw [eU2]; exact Xi_ne (by omega))))
      have w119 : Xi U4 904 71 = Xi T1 904 71 := (show Xi U4 904 71 = Xi T3 904 71 from by rw [eU4]; exact Xi_ne (by omega)).trans ( (show Xi T3 904 71 = Xi U2 904 71 from w99.x _ _ rfl).trans ((show Xi U2 904 71 = Xi T1 904 71 from by rw [eU2]; exact Xi_ne (by omega))))
      have w121 : Xi U4 904 72 = Xi T1 904 72 := (show Xi U4 904 72 = Xi T3 904 72 from by rw [eU4]; exact Xi_ne (by omega)).trans ( (show Xi T3 904 72 = Xi U2 904 72 from w99.x _ _ rfl).trans ((show Xi U2 904 72 = Xi T1 904 72 from by rw [eU2]; exact Xi_ne (by omega))))
      have w123 : Xi U4 904 75 = Xi T1 904 75 := (show Xi U4 904 75 = Xi T3 904 75 from by rw [eU4]; exact Xi_ne (by omega)).trans ( (show Xi T3 904 75 = Xi U2 904 75 from w99.x _ _ rfl).trans ((show Xi U2 904 75 = Xi T1 904 75 from by rw [eU2]; exact Xi_ne (by omega))))
      have w125 : Xi U4 904 78 = Xi T1 904 78 := (show Xi U4 904 78 = Xi T3 904 78 from by rw [eU4]; exact Xi_ne (by omega)).trans ( (show Xi T3 904 78 = Xi U2 904 78 from w99.x _ _ rfl).trans ((show Xi U2 904 78 = Xi T1 904 78 from by rw [eU2]; exact Xi_ne (by omega))))
      exact Rl_weak (ih120 _ (by omega) U4 hHU4 hFU4 (v2) ((v3 + 1)) (by omega) (by omega) (by omega) (by omega) (by omega) (by omega) (by omega) (by omega) (by omega) (by omega) (by omega) (by omega) (by omega) (by omega) (by first | assumption | exact (TXM_FR (FR_e eU4) rfl (TXM_FR w99 rfl (TXM_FR (FR_e eU2) rfl (by assumption : TXM T1))))) (by first | assumption | exact (WYM_FR (FR_e eU4) rfl (WYM_FR w99 rfl (WYM_FR (FR_e eU2) rfl (by assumption : WYM T1))))) (by first | assumption | exact (by assumption : LXM U4)) (by first | assumption | exact (by assumption : LCN U4)) (by first | assumption | exact GR.rf) (by first | assumption | exact (by assumption : VTM U4)) (by first | exact C156 | exact fun t => by rw [show Xi S 904 78 - Xi S 904 78 = 0 by omega]; split <;> exact (Int.add_zero _).symm) rfl) (And.intro rfl (And.intro rfl (And.intro rfl (True.intro))))
set_option maxRecDepth 100000 in
set_option maxHeartbeats 4000000 in
theorem c190_mo_doFifteen {S : sS} (hH : HI S) (n : Nat) (hT : TK S n) (hv : RNV S n) (hM : LXM S) (hX : TXM S) (hW : WYM S) (hLC : LCN S) (hB : ABV S) (hC : DCM S) (hl : Xi S 904 71 + Xi S 904 72 ≤ Xi S 904 69) (hV : VTM S) (hVC : VCN S) (hd : Xi S 904 60 < Xi S 904 19) (h1 : 1 ≤ Xi S 904 72) (h6 : 1 ≤ Xi S 904 16) (hs : Xi S 904 70 ≠ 13) (hw : 0 ≤ Xi S 904 78 ∧ Xi S 904 78 < Xi S 904 69) (k1 : Xi S 904 142 = 1 → rnR S (Xi S 904 71) 0 ≠ -1 ∧ ADM S (Xi S 967 0)) (k2 : Xi S 904 142 = 2 → 1 < r2R S (Xi S 904 71) 2 3 ∧ cvR S (r2R S (Xi S 904 71) 2 3) (Xi S 904 30).toNat + (Xi S 904 69 - Xi S 904 78) ≤ 8 ∧ ∀ r : Int, Xi S 904 78 ≤ r → r < Xi S 904 69 → Xi S 951 r.toNat ≤ 3) (k3 : Xi S 904 142 = 3 → ONA S ∧ Xi S 904 110 < Xi S 904 16 ∧ ∀ i : Nat, (i : Int) < Xi S 904 112 → ADM S (Xi S 967 i)) (k4 : Xi S 904 142 ≠ 1 → Xi S 904 142 ≠ 2 → Xi S 904 142 ≠ 3 → AQ4 S) (d : Nat) : ∀ (n190 : Nat) (T5 : sS) (_ : HI T5) (_ : FR md_mo_doFifteen S T5) (v1 : Int) (v2 : Int), (0 ≤ v1 ∧ v1 ≤ 5001) → (0 ≤ v2 ∧ v2 ≤ 2600) → (Xi T5 904 69 = Xi S 904 69) → (Xi T5 904 71 = Xi S 904 71) → (Xi T5 904 72 = Xi S 904 72) → (Xi T5 904 75 = Xi S 904 75) → (Xi T5 904 78 = Xi S 904 78) → (WYM T5) → (v1 = Xi S 950 (Xi S 904 78).toNat) → (Xi T5 904 60 < Xi T5 904 19) → (Xi T5 904 19 = Xi S 904 19) → (Xi T5 904 23 = Xi S 904 23) → (Xi T5 904 32 = Xi S 904 32) → (TXM T5) → (AQ4 T5) → (LXM T5) → (LCN T5) → (GR T5 S) → (VTM T5) → (VCN T5) → (v2 ≤ Xi S 904 72) → n190 = (2601 - v2).toNat → Rl lay0 (d + 6) m_mo_doFifteen 190 [(0, .ref 904), (1, iv v1), (2, iv v2)] [] T5 (Q_mo_doFifteen S n) := by
  have C120 := c120_mo_doFifteen hH n hT hv hM hX hW hLC hB hC hl hV hVC hd h1 h6 hs hw k1 k2 k3 k4 d 
  have hF : FR md_mo_doFifteen S S := FR.rf
  have w1 : 0 ≤ Xi S 904 110 ∧ Xi S 904 110 ≤ 15 := hH.c _ _
  have w2 : 0 ≤ Xi S 904 112 ∧ Xi S 904 112 ≤ 6 := hH.c _ _
  have w3 : -1 ≤ Xi S 904 113 ∧ Xi S 904 113 ≤ 6411 := hH.c _ _
  have w4 : 0 ≤ Xi S 904 142 ∧ Xi S 904 142 ≤ 4 := hH.c _ _
  have w5 : 0 ≤ Xi S 904 16 ∧ Xi S 904 16 ≤ 16 := hH.c _ _
  have w6 : 0 ≤ Xi S 904 19 ∧ Xi S 904 19 ≤ 24 := hH.c _ _
  have w7 : 0 ≤ Xi S 904 23 ∧ Xi S 904 23 ≤ 24 := hH.c _ _
  have w8 : 0 ≤ Xi S 904 30 ∧ Xi S 904 30 ≤ 64 := hH.c _ _
  have w9 : 0 ≤ Xi S 904 32 ∧ Xi S 904 32 ≤ 12 := hH.c _ _
  have w10 : -1 ≤ Xi S 904 60 ∧ Xi S 904 60 ≤ 23 := hH.c _ _
  have w11 : 0 ≤ Xi S 904 69 ∧ Xi S 904 69 ≤ 2600 := hH.c _ _
  have w12 : 0 ≤ Xi S 904 70 ∧ Xi S 904 70 ≤ 20 := hH.c _ _
  have w13 : 0 ≤ Xi S 904 71 ∧ Xi S 904 71 ≤ 2600 := hH.c _ _
  have w14 : 0 ≤ Xi S 904 72 ∧ Xi S 904 72 ≤ 2600 := hH.c _ _
  have w15 : 0 ≤ Xi S 904 75 ∧ Xi S 904 75 ≤ 1 := hH.c _ _
  have w16 : -2 ≤ Xi S 904 78 ∧ Xi S 904 78 ≤ 5010 := hH.c _ _
  have w17 : -1 ≤ Xi S 967 0 ∧ Xi S 967 0 ≤ 6411 := hH.c _ _
  have hn5 := hT.1
  have hc69 : 0 ≤ Xi S 904 69 ∧ Xi S 904 69 ≤ 2600 := hH.c _ _
  have hc71 : 0 ≤ Xi S 904 71 ∧ Xi S 904 71 ≤ 2600 := hH.c _ _
  have hc72 : 0 ≤ Xi S 904 72 ∧ Xi S 904 72 ≤ 2600 := hH.c _ _
  have hrf : ∀ r : Int, 0 ≤ r → r < Xi S 904 69 → Xi S 950 r.toNat ≤ n := fun r a b => by have := hv r.toNat (by omega); omega
  have hc15 : 0 ≤ Xi S 904 15 ∧ Xi S 904 15 ≤ 300 := hH.c _ _
  have hl9 := lcn_le hH hLC
  have hc3 : 0 ≤ Xi S 904 23 ∧ Xi S 904 23 ≤ 24 := hH.c _ _
  have hc19 : 0 ≤ Xi S 904 19 ∧ Xi S 904 19 ≤ 24 := hH.c _ _
  have hc32 : 0 ≤ Xi S 904 32 ∧ Xi S 904 32 ≤ 12 := hH.c _ _
  have hc30 : 0 ≤ Xi S 904 30 ∧ Xi S 904 30 ≤ 64 := hH.c _ _
  have hc16 : 0 ≤ Xi S 904 16 ∧ Xi S 904 16 ≤ 16 := hH.c _ _
  have hc18 : 0 ≤ Xi S 904 18 ∧ Xi S 904 18 ≤ 8 := hH.c _ _
  have hk1 : Xi S 904 142 = 1 → rnR S (Xi S 904 71) 0 ≠ -1 ∧ ((0 ≤ Xi S 967 0 ∧ Xi S 967 0 < Xi S 904 23) ∨ (100 ≤ Xi S 967 0 ∧ Xi S 967 0 % 100 < Xi S 904 32 ∧ Xi S 967 0 ≤ 6411)) := k1
  have hk2 : Xi S 904 142 = 2 → 1 < r2R S (Xi S 904 71) 2 3 := fun q => (k2 q).1
  have hrw := hrf (Xi S 904 78) hw.1 hw.2
  have hqw : Xi S 950 (Xi S 904 78).toNat + Xi S 951 (Xi S 904 78).toNat ≤ n := (hv (Xi S 904 78).toNat (by omega)).1
  intro n190
  induction n190 using Nat.strongRecOn with
  | ind n190 ih190 =>
    intro T5 hHT5 hFT5 v1 v2 w127 w128 w129 w130 w131 w132 w133 W190 w134 w135 w136 w137 w138 X190 A190 M190 L190 G190 V190 C190 w139 hm190
    have w140 : Xi T5 904 110 = Xi S 904 110 := hFT5.x _ _ rfl
    have w141 : Xi T5 904 112 = Xi S 904 112 := hFT5.x _ _ rfl
    have w142 : Xi T5 904 142 = Xi S 904 142 := hFT5.x _ _ rfl
    have w143 : Xi T5 904 16 = Xi S 904 16 := hFT5.x _ _ rfl
    have w144 : Xi T5 904 23 = Xi S 904 23 := hFT5.x _ _ rfl
    have w145 : Xi T5 904 32 = Xi S 904 32 := hFT5.x _ _ rfl
    have w146 : Xi T5 904 69 = Xi S 904 69 := hFT5.x _ _ rfl
    have w147 : Xi T5 904 70 = Xi S 904 70 := hFT5.x _ _ rfl
    have w148 : Xi T5 904 71 = Xi S 904 71 := hFT5.x _ _ rfl
    have w149 : Xi T5 904 72 = Xi S 904 72 := hFT5.x _ _ rfl
    have w150 : Xi T5 904 74 = Xi S 904 74 := hFT5.x _ _ rfl
    have w151 : Xi T5 904 75 = Xi S 904 75 := hFT5.x _ _ rfl
    have w152 : Xi T5 904 78 = Xi S 904 78 := hFT5.x _ _ rfl
    have w153 : Xi T5 967 0 = Xi S 967 0 := hFT5.x _ _ rfl
    have w154 : 0 ≤ Xi T5 904 19 ∧ Xi T5 904 19 ≤ 24 := hHT5.c _ _
    have w155 : 0 ≤ Xi T5 904 23 ∧ Xi T5 904 23 ≤ 24 := hHT5.c _ _
    have w156 : 0 ≤ Xi T5 904 32 ∧ Xi T5 904 32 ≤ 12 := hHT5.c _ _
    have w157 : -1 ≤ Xi T5 904 60 ∧ Xi T5 904 60 ≤ 23 := hHT5.c _ _
    have w158 : 0 ≤ Xi T5 904 69 ∧ Xi T5 904 69 ≤ 2600 := hHT5.c _ _
    have w159 : 0 ≤ Xi T5 904 71 ∧ Xi T5 904 71 ≤ 2600 := hHT5.c _ _
    have w160 : 0 ≤ Xi T5 904 72 ∧ Xi T5 904 72 ≤ 2600 := hHT5.c _ _
    have w161 : 0 ≤ Xi T5 904 75 ∧ Xi T5 904 75 ≤ 1 := hHT5.c _ _
    have w162 : -2 ≤ Xi T5 904 78 ∧ Xi T5 904 78 ≤ 5010 := hHT5.c _ _
    have C267 : ∀  (T6 : sS) (_ : HI T6) (_ : FR md_mo_doFifteen S T6) (v1 : Int) (v2 : Int) (v3 : Int), (0 ≤ v1 ∧ v1 ≤ 5001) → (0 ≤ v2 ∧ v2 ≤ 2599) → (0 ≤ v3 ∧ v3 ≤ 23) → (Xi T6 904 69 = Xi S 904 69) → (Xi T6 904 71 = Xi S 904 71) → (Xi T6 904 72 = Xi S 904 72) → (Xi T6 904 75 = Xi S 904 75) → (Xi T6 904 78 = Xi S 904 78) → (WYM T6) → (v1 = Xi S 950 (Xi S 904 78).toNat) → (Xi T6 904 60 < Xi T6 904 19) → (Xi T6 904 19 = Xi S 904 19) → (Xi T6 904 23 = Xi S 904 23) → (Xi T6 904 32 = Xi S 904 32) → (TXM T6) → (AQ4 T6) → (LXM T6) → (LCN T6) → (GR T6 S) → (VTM T6) → (VCN T6) → (v2 < Xi S 904 72) → (0 ≤ v3 ∧ v3 < Xi S 904 19) → (ADM T6 (Xi T6 904 113)) → ((2601 - v2).toNat ≤ n190) → Rl lay0 (d + 6) m_mo_doFifteen 267 [(0, .ref 904), (1, iv v1), (2, iv v2), (3, iv v3)] [] T6 (Q_mo_doFifteen S n) := by
      intro T6 hHT6 hFT6 v1 v2 v3 w163 w164 w165 w166 w167 w168 w169 w170 W267 w171 w172 w173 w174 w175 X267 A267 M267 L267 G267 V267 C267 w176 w177 D267 w178
      have w179 : Xi T6 904 110 = Xi S 904 110 := hFT6.x _ _ rfl
      have w180 : Xi T6 904 112 = Xi S 904 112 := hFT6.x _ _ rfl
      have w181 : Xi T6 904 142 = Xi S 904 142 := hFT6.x _ _ rfl
      have w182 : Xi T6 904 16 = Xi S 904 16 := hFT6.x _ _ rfl
      have w183 : Xi T6 904 23 = Xi S 904 23 := hFT6.x _ _ rfl
      have w184 : Xi T6 904 32 = Xi S 904 32 := hFT6.x _ _ rfl
      have w185 : Xi T6 904 69 = Xi S 904 69 := hFT6.x _ _ rfl
      have w186 : Xi T6 904 70 = Xi S 904 70 := hFT6.x _ _ rfl
      have w187 : Xi T6 904 71 = Xi S 904 71 := hFT6.x _ _ rfl
      have w188 : Xi T6 904 72 = Xi S 904 72 := hFT6.x _ _ rfl
      have w189 : Xi T6 904 74 = Xi S 904 74 := hFT6.x _ _ rfl
      have w190 : Xi T6 904 75 = Xi S 904 75 := hFT6.x _ _ rfl
      have w191 : Xi T6 904 78 = Xi S 904 78 := hFT6.x _ _ rfl
      have w192 : Xi T6 967 0 = Xi S 967 0 := hFT6.x _ _ rfl
      have w193 : -1 ≤ Xi T6 904 113 ∧ Xi T6 904 113 ≤ 6411 := hHT6.c _ _
      have w194 : 0 ≤ Xi T6 904 19 ∧ Xi T6 904 19 ≤ 24 := hHT6.c _ _
      have w195 : 0 ≤ Xi T6 904 23 ∧ Xi T6 904 23 ≤ 24 := hHT6.c _ _
      have w196 : 0 ≤ Xi T6 904 32 ∧ Xi T6 904 32 ≤ 12 := hHT6.c _ _
      have w197 : -1 ≤ Xi T6 904 60 ∧ Xi T6 904 60 ≤ 23 := hHT6.c _ _
      have w198 : 0 ≤ Xi T6 904 69 ∧ Xi T6 904 69 ≤ 2600 := hHT6.c _ _
      have w199 : 0 ≤ Xi T6 904 71 ∧ Xi T6 904 71 ≤ 2600 := hHT6.c _ _
      have w200 : 0 ≤ Xi T6 904 72 ∧ Xi T6 904 72 ≤ 2600 := hHT6.c _ _
      have w201 : 0 ≤ Xi T6 904 75 ∧ Xi T6 904 75 ≤ 1 := hHT6.c _ _
      have w202 : -2 ≤ Xi T6 904 78 ∧ Xi T6 904 78 ≤ 5010 := hHT6.c _ _
      refine l_aload_n rfl rfl ?_
      refine l_iload_n rfl rfl ?_
      refine l_aload_n rfl rfl ?_
      refine l_gfi rfl rfl rfl rfl rfl ?_
      have a270 : (0 ≤ (Xi T6 904 113) ∧ (Xi T6 904 113) < Xi T6 904 23) ∨ (100 ≤ (Xi T6 904 113) ∧ (Xi T6 904 113) % 100 < Xi T6 904 32 ∧ (Xi T6 904 113) ≤ 6411) := D267
      have b270 : 0 ≤ (Xi T6 904 113) ∧ (Xi T6 904 113) ≤ 6411 := by have c : 0 ≤ Xi T6 904 23 ∧ Xi T6 904 23 ≤ 24 := hHT6.c _ _; omega
      refine l_aload_n rfl rfl ?_
      refine l_gfi rfl rfl rfl rfl rfl ?_
      refine l_if_ne rfl rfl (by unfold rg; omega) (fun w203 => ?_) (fun w204 => ?_)
      · refine l_iconst rfl ?_
        refine l_callV rfl rfl rfl (t_mo_tellRead hHT6 v3 (Xi T6 904 113) 0 ⟨by omega, by omega⟩ ⟨by omega, by omega⟩ ⟨by omega, by omega⟩ (by first | assumption | omega) (by first | assumption | omega) (by first | assumption | exact (by assumption : TXM T6)) _) ?_
        rintro _ T7 ⟨hHT7, w220, z219, rfl, w219, w218⟩
        have hFT7 : FR md_mo_doFifteen S T7 := FR.tr hFT6 w220 rfl
        show Rl _ _ _ _ _ [iv z219] _ _
        refine l_if_ne rfl rfl (by unfold rg; omega) (fun w221 => ?_) (fun w222 => ?_)
        · refine l_iinc rfl rfl rfl rfl ?_
          refine l_goto rfl rfl ?_
          have w223 : Xi T7 904 106 = Xi T6 904 106 := (show Xi T7 904 106 = Xi T6 904 106 from w220.x _ _ rfl)
          have w224 : 0 ≤ Xi T6 904 106 ∧ Xi T6 904 106 ≤ 9 := hHT6.c _ _
          have w225 : Xi T7 904 113 = Xi T6 904 113 := (show Xi T7 904 113 = Xi T6 904 113 from w220.x _ _ rfl)
          have w227 : Xi T7 904 15 = Xi T6 904 15 := (show Xi T7 904 15 = Xi T6 904 15 from w220.x _ _ rfl)
          have w228 : 0 ≤ Xi T6 904 15 ∧ Xi T6 904 15 ≤ 300 := hHT6.c _ _
          have w229 : Xi T7 904 19 = Xi T6 904 19 := (show Xi T7 904 19 = Xi T6 904 19 from w220.x _ _ rfl)
          have w231 : Xi T7 904 23 = Xi T6 904 23 := (show Xi T7 904 23 = Xi T6 904 23 from w220.x _ _ rfl)
          have w233 : Xi T7 904 30 = Xi T6 904 30 := (show Xi T7 904 30 = Xi T6 904 30 from w220.x _ _ rfl)
          have w234 : 0 ≤ Xi T6 904 30 ∧ Xi T6 904 30 ≤ 64 := hHT6.c _ _
          have w235 : Xi T7 904 32 = Xi T6 904 32 := (show Xi T7 904 32 = Xi T6 904 32 from w220.x _ _ rfl)
          have w237 : Xi T7 904 60 = Xi T6 904 60 := (show Xi T7 904 60 = Xi T6 904 60 from w220.x _ _ rfl)
          have w239 : Xi T7 904 69 = Xi T6 904 69 := (show Xi T7 904 69 = Xi T6 904 69 from w220.x _ _ rfl)
          have w241 : Xi T7 904 71 = Xi T6 904 71 := (show Xi T7 904 71 = Xi T6 904 71 from w220.x _ _ rfl)
          have w243 : Xi T7 904 72 = Xi T6 904 72 := (show Xi T7 904 72 = Xi T6 904 72 from w220.x _ _ rfl)
          have w245 : Xi T7 904 75 = Xi T6 904 75 := (show Xi T7 904 75 = Xi T6 904 75 from w220.x _ _ rfl)
          have w247 : Xi T7 904 78 = Xi T6 904 78 := (show Xi T7 904 78 = Xi T6 904 78 from w220.x _ _ rfl)
          exact Rl_weak (ih190 _ (by omega) T7 hHT7 hFT7 (v1) ((v2 + 1)) (by omega) (by omega) (by omega) (by omega) (by omega) (by omega) (by omega) (by first | assumption | exact (WYM_FR w220 rfl (by assumption : WYM T6))) (by omega) (by omega) (by omega) (by omega) (by omega) (by first | assumption | exact (by assumption : TXM T7)) (by first | exact k4 (by omega) (by omega) (by omega) | exact (AQ4_FR w220 rfl (by assumption : AQ4 T6))) (by first | assumption | exact (LXM_FR w220 rfl (by assumption : LXM T6))) (by first | assumption | exact (LCN_FR w220 rfl (by assumption : LCN T6))) (by first | exact GR.rf | exact (GR_FR w220 rfl (by assumption : GR T6 S))) (by first | assumption | exact (VTM_FR w220 rfl (by assumption : VTM T6))) (by first | assumption | exact (VCN_FR w220 rfl (by assumption : VCN T6))) (by omega) rfl) (And.intro rfl (And.intro rfl (And.intro rfl (True.intro))))
        · refine l_aload_n rfl rfl ?_
          refine l_iconst rfl ?_
          refine l_aload_n rfl rfl ?_
          refine l_gfr rfl rfl rfl rfl rfl (hHT7.r 904 67 950 rfl) ?_
          refine l_aload_n rfl rfl ?_
          refine l_gfi rfl rfl rfl rfl rfl ?_
          have w249 : (Xi T7 904 71) = (Xi T6 904 71) := (show Xi T7 904 71 = Xi T6 904 71 from w220.x _ _ rfl)
          rw [w249]
          refine l_iload_n rfl rfl ?_
          refine l_iadd rfl ?_
          refine l_iaload (n := 2600) rfl rfl (by omega) (by omega) (by unfold rg; omega) ?_
          have w250 : 0 ≤ (Xi T7 950 ((((Xi T6 904 71) + v2)).toNat)) ∧ (Xi T7 950 ((((Xi T6 904 71) + v2)).toNat)) ≤ 5010 := hHT7.c _ _
          have e303 : (Xi T7 950 ((((Xi T6 904 71) + v2)).toNat)) ≤ n := by rw [(hFT7.cx 950 rfl _).1]; exact hrf _ (by omega) (by omega)
          have w251 : Xi T7 904 106 = Xi T6 904 106 := (show Xi T7 904 106 = Xi T6 904 106 from w220.x _ _ rfl)
          have w252 : 0 ≤ Xi T6 904 106 ∧ Xi T6 904 106 ≤ 9 := hHT6.c _ _
          have w263 : Xi T7 904 32 = Xi T6 904 32 := (show Xi T7 904 32 = Xi T6 904 32 from w220.x _ _ rfl)
          have w269 : Xi T7 904 71 = Xi T6 904 71 := (show Xi T7 904 71 = Xi T6 904 71 from w220.x _ _ rfl)
          refine l_callV rfl rfl rfl (t_mo_wrong hHT7 5 (Xi T7 950 ((((Xi T6 904 71) + v2)).toNat)) ⟨by omega, by omega⟩ ⟨by omega, by omega⟩ _) ?_
          rintro _ T8 ⟨hHT8, w279, rfl, w277⟩
          have hFT8 : FR md_mo_doFifteen S T8 := FR.tr hFT7 w279 rfl
          show Rl _ _ _ _ _ [] _ _
          refine l_iinc rfl rfl rfl rfl ?_
          refine l_goto rfl rfl ?_
          have w280 : 0 ≤ Xi T8 904 106 ∧ Xi T8 904 106 ≤ 9 := hHT8.c _ _
          have w281 : Xi T8 904 113 = Xi T6 904 113 := (show Xi T8 904 113 = Xi T7 904 113 from w279.x _ _ rfl).trans ((show Xi T7 904 113 = Xi T6 904 113 from w220.x _ _ rfl))
          have w283 : Xi T8 904 15 = Xi T6 904 15 := (show Xi T8 904 15 = Xi T7 904 15 from w279.x _ _ rfl).trans ((show Xi T7 904 15 = Xi T6 904 15 from w220.x _ _ rfl))
          have w284 : 0 ≤ Xi T6 904 15 ∧ Xi T6 904 15 ≤ 300 := hHT6.c _ _
          have w285 : Xi T8 904 19 = Xi T6 904 19 := (show Xi T8 904 19 = Xi T7 904 19 from w279.x _ _ rfl).trans ((show Xi T7 904 19 = Xi T6 904 19 from w220.x _ _ rfl))
          have w287 : Xi T8 904 23 = Xi T6 904 23 := (show Xi T8 904 23 = Xi T7 904 23 from w279.x _ _ rfl).trans ((show Xi T7 904 23 = Xi T6 904 23 from w220.x _ _ rfl))
          have w289 : Xi T8 904 30 = Xi T6 904 30 := (show Xi T8 904 30 = Xi T7 904 30 from w279.x _ _ rfl).trans ((show Xi T7 904 30 = Xi T6 904 30 from w220.x _ _ rfl))
          have w290 : 0 ≤ Xi T6 904 30 ∧ Xi T6 904 30 ≤ 64 := hHT6.c _ _
          have w291 : Xi T8 904 32 = Xi T6 904 32 := (show Xi T8 904 32 = Xi T7 904 32 from w279.x _ _ rfl).trans ((show Xi T7 904 32 = Xi T6 904 32 from w220.x _ _ rfl))
          have w293 : Xi T8 904 60 = Xi T6 904 60 := (show Xi T8 904 60 = Xi T7 904 60 from w279.x _ _ rfl).trans ((show Xi T7 904 60 = Xi T6 904 60 from w220.x _ _ rfl))
          have w295 : Xi T8 904 69 = Xi T6 904 69 := (show Xi T8 904 69 = Xi T7 904 69 from w279.x _ _ rfl).trans ((show Xi T7 904 69 = Xi T6 904 69 from w220.x _ _ rfl))
          have w297 : Xi T8 904 71 = Xi T6 904 71 := (show Xi T8 904 71 = Xi T7 904 71 from w279.x _ _ rfl).trans ((show Xi T7 904 71 = Xi T6 904 71 from w220.x _ _ rfl))
          have w299 : Xi T8 904 72 = Xi T6 904 72 := (show Xi T8 904 72 = Xi T7 904 72 from w279.x _ _ rfl).trans ((show Xi T7 904 72 = Xi T6 904 72 from w220.x _ _ rfl))
          have w301 : Xi T8 904 75 = Xi T6 904 75 := (show Xi T8 904 75 = Xi T7 904 75 from w279.x _ _ rfl).trans ((show Xi T7 904 75 = Xi T6 904 75 from w220.x _ _ rfl))
          have w303 : Xi T8 904 78 = Xi T6 904 78 := (show Xi T8 904 78 = Xi T7 904 78 from w279.x _ _ rfl).trans ((show Xi T7 904 78 = Xi T6 904 78 from w220.x _ _ rfl))
          exact Rl_weak (ih190 _ (by omega) T8 hHT8 hFT8 (v1) ((v2 + 1)) (by omega) (by omega) (by omega) (by omega) (by omega) (by omega) (by omega) (by first | assumption | exact (WYM_FR w279 rfl (WYM_FR w220 rfl (by assumption : WYM T6)))) (by omega) (by omega) (by omega) (by omega) (by omega) (by first | assumption | exact (TXM_FR w279 rfl (by assumption : TXM T7))) (by first | exact k4 (by omega) (by omega) (by omega) | exact (AQ4_FR w279 rfl (AQ4_FR w220 rfl (by assumption : AQ4 T6)))) (by first | assumption | exact (LXM_FR w279 rfl (LXM_FR w220 rfl (by assumption : LXM T6)))) (by first | assumption | exact (LCN_FR w279 rfl (LCN_FR w220 rfl (by assumption : LCN T6)))) (by first | exact GR.rf | exact (GR_FR w279 rfl (GR_FR w220 rfl (by assumption : GR T6 S)))) (by first | assumption | exact (VTM_FR w279 rfl (VTM_FR w220 rfl (by assumption : VTM T6)))) (by first | assumption | exact (VCN_FR w279 rfl (VCN_FR w220 rfl (by assumption : VCN T6)))) (by omega) rfl) (And.intro rfl (And.intro rfl (And.intro rfl (True.intro))))
      · refine l_iconst rfl ?_
        refine l_goto rfl rfl ?_
        refine l_callV rfl rfl rfl (t_mo_tellRead hHT6 v3 (Xi T6 904 113) 1 ⟨by omega, by omega⟩ ⟨by omega, by omega⟩ ⟨by omega, by omega⟩ (by first | assumption | omega) (by first | assumption | omega) (by first | assumption | exact (by assumption : TXM T6)) _) ?_
        rintro _ T9 ⟨hHT9, w320, z319, rfl, w319, w318⟩
        have hFT9 : FR md_mo_doFifteen S T9 := FR.tr hFT6 w320 rfl
        show Rl _ _ _ _ _ [iv z319] _ _
        refine l_if_ne rfl rfl (by unfold rg; omega) (fun w321 => ?_) (fun w322 => ?_)
        · refine l_iinc rfl rfl rfl rfl ?_
          refine l_goto rfl rfl ?_
          have w323 : Xi T9 904 106 = Xi T6 904 106 := (show Xi T9 904 106 = Xi T6 904 106 from w320.x _ _ rfl)
          have w324 : 0 ≤ Xi T6 904 106 ∧ Xi T6 904 106 ≤ 9 := hHT6.c _ _
          have w325 : Xi T9 904 113 = Xi T6 904 113 := (show Xi T9 904 113 = Xi T6 904 113 from w320.x _ _ rfl)
          have w327 : Xi T9 904 15 = Xi T6 904 15 := (show Xi T9 904 15 = Xi T6 904 15 from w320.x _ _ rfl)
          have w328 : 0 ≤ Xi T6 904 15 ∧ Xi T6 904 15 ≤ 300 := hHT6.c _ _
          have w329 : Xi T9 904 19 = Xi T6 904 19 := (show Xi T9 904 19 = Xi T6 904 19 from w320.x _ _ rfl)
          have w331 : Xi T9 904 23 = Xi T6 904 23 := (show Xi T9 904 23 = Xi T6 904 23 from w320.x _ _ rfl)
          have w333 : Xi T9 904 30 = Xi T6 904 30 := (show Xi T9 904 30 = Xi T6 904 30 from w320.x _ _ rfl)
          have w334 : 0 ≤ Xi T6 904 30 ∧ Xi T6 904 30 ≤ 64 := hHT6.c _ _
          have w335 : Xi T9 904 32 = Xi T6 904 32 := (show Xi T9 904 32 = Xi T6 904 32 from w320.x _ _ rfl)
          have w337 : Xi T9 904 60 = Xi T6 904 60 := (show Xi T9 904 60 = Xi T6 904 60 from w320.x _ _ rfl)
          have w339 : Xi T9 904 69 = Xi T6 904 69 := (show Xi T9 904 69 = Xi T6 904 69 from w320.x _ _ rfl)
          have w341 : Xi T9 904 71 = Xi T6 904 71 := (show Xi T9 904 71 = Xi T6 904 71 from w320.x _ _ rfl)
          have w343 : Xi T9 904 72 = Xi T6 904 72 := (show Xi T9 904 72 = Xi T6 904 72 from w320.x _ _ rfl)
          have w345 : Xi T9 904 75 = Xi T6 904 75 := (show Xi T9 904 75 = Xi T6 904 75 from w320.x _ _ rfl)
          have w347 : Xi T9 904 78 = Xi T6 904 78 := (show Xi T9 904 78 = Xi T6 904 78 from w320.x _ _ rfl)
          exact Rl_weak (ih190 _ (by omega) T9 hHT9 hFT9 (v1) ((v2 + 1)) (by omega) (by omega) (by omega) (by omega) (by omega) (by omega) (by omega) (by first | assumption | exact (WYM_FR w320 rfl (by assumption : WYM T6))) (by omega) (by omega) (by omega) (by omega) (by omega) (by first | assumption | exact (by assumption : TXM T9)) (by first | exact k4 (by omega) (by omega) (by omega) | exact (AQ4_FR w320 rfl (by assumption : AQ4 T6))) (by first | assumption | exact (LXM_FR w320 rfl (by assumption : LXM T6))) (by first | assumption | exact (LCN_FR w320 rfl (by assumption : LCN T6))) (by first | exact GR.rf | exact (GR_FR w320 rfl (by assumption : GR T6 S))) (by first | assumption | exact (VTM_FR w320 rfl (by assumption : VTM T6))) (by first | assumption | exact (VCN_FR w320 rfl (by assumption : VCN T6))) (by omega) rfl) (And.intro rfl (And.intro rfl (And.intro rfl (True.intro))))
        · refine l_aload_n rfl rfl ?_
          refine l_iconst rfl ?_
          refine l_aload_n rfl rfl ?_
          refine l_gfr rfl rfl rfl rfl rfl (hHT9.r 904 67 950 rfl) ?_
          refine l_aload_n rfl rfl ?_
          refine l_gfi rfl rfl rfl rfl rfl ?_
          have w349 : (Xi T9 904 71) = (Xi T6 904 71) := (show Xi T9 904 71 = Xi T6 904 71 from w320.x _ _ rfl)
          rw [w349]
          refine l_iload_n rfl rfl ?_
          refine l_iadd rfl ?_
          refine l_iaload (n := 2600) rfl rfl (by omega) (by omega) (by unfold rg; omega) ?_
          have w350 : 0 ≤ (Xi T9 950 ((((Xi T6 904 71) + v2)).toNat)) ∧ (Xi T9 950 ((((Xi T6 904 71) + v2)).toNat)) ≤ 5010 := hHT9.c _ _
          have e303 : (Xi T9 950 ((((Xi T6 904 71) + v2)).toNat)) ≤ n := by rw [(hFT9.cx 950 rfl _).1]; exact hrf _ (by omega) (by omega)
          have w351 : Xi T9 904 106 = Xi T6 904 106 := (show Xi T9 904 106 = Xi T6 904 106 from w320.x _ _ rfl)
          have w352 : 0 ≤ Xi T6 904 106 ∧ Xi T6 904 106 ≤ 9 := hHT6.c _ _
          have w369 : Xi T9 904 71 = Xi T6 904 71 := (show Xi T9 904 71 = Xi T6 904 71 from w320.x _ _ rfl)
          refine l_callV rfl rfl rfl (t_mo_wrong hHT9 5 (Xi T9 950 ((((Xi T6 904 71) + v2)).toNat)) ⟨by omega, by omega⟩ ⟨by omega, by omega⟩ _) ?_
          rintro _ T10 ⟨hHT10, w379, rfl, w377⟩
          have hFT10 : FR md_mo_doFifteen S T10 := FR.tr hFT9 w379 rfl
          show Rl _ _ _ _ _ [] _ _
          refine l_iinc rfl rfl rfl rfl ?_
          refine l_goto rfl rfl ?_
          have w380 : 0 ≤ Xi T10 904 106 ∧ Xi T10 904 106 ≤ 9 := hHT10.c _ _
          have w381 : Xi T10 904 113 = Xi T6 904 113 := (show Xi T10 904 113 = Xi T9 904 113 from w379.x _ _ rfl).trans ((show Xi T9 904 113 = Xi T6 904 113 from w320.x _ _ rfl))
          have w383 : Xi T10 904 15 = Xi T6 904 15 := (show Xi T10 904 15 = Xi T9 904 15 from w379.x _ _ rfl).trans ((show Xi T9 904 15 = Xi T6 904 15 from w320.x _ _ rfl))
          have w384 : 0 ≤ Xi T6 904 15 ∧ Xi T6 904 15 ≤ 300 := hHT6.c _ _
          have w385 : Xi T10 904 19 = Xi T6 904 19 := (show Xi T10 904 19 = Xi T9 904 19 from w379.x _ _ rfl).trans ((show Xi T9 904 19 = Xi T6 904 19 from w320.x _ _ rfl))
          have w387 : Xi T10 904 23 = Xi T6 904 23 := (show Xi T10 904 23 = Xi T9 904 23 from w379.x _ _ rfl).trans ((show Xi T9 904 23 = Xi T6 904 23 from w320.x _ _ rfl))
          have w389 : Xi T10 904 30 = Xi T6 904 30 := (show Xi T10 904 30 = Xi T9 904 30 from w379.x _ _ rfl).trans ((show Xi T9 904 30 = Xi T6 904 30 from w320.x _ _ rfl))
          have w390 : 0 ≤ Xi T6 904 30 ∧ Xi T6 904 30 ≤ 64 := hHT6.c _ _
          have w391 : Xi T10 904 32 = Xi T6 904 32 := (show Xi T10 904 32 = Xi T9 904 32 from w379.x _ _ rfl).trans ((show Xi T9 904 32 = Xi T6 904 32 from w320.x _ _ rfl))
          have w393 : Xi T10 904 60 = Xi T6 904 60 := (show Xi T10 904 60 = Xi T9 904 60 from w379.x _ _ rfl).trans ((show Xi T9 904 60 = Xi T6 904 60 from w320.x _ _ rfl))
          have w395 : Xi T10 904 69 = Xi T6 904 69 := (show Xi T10 904 69 = Xi T9 904 69 from w379.x _ _ rfl).trans ((show Xi T9 904 69 = Xi T6 904 69 from w320.x _ _ rfl))
          have w397 : Xi T10 904 71 = Xi T6 904 71 := (show Xi T10 904 71 = Xi T9 904 71 from w379.x _ _ rfl).trans ((show Xi T9 904 71 = Xi T6 904 71 from w320.x _ _ rfl))
          have w399 : Xi T10 904 72 = Xi T6 904 72 := (show Xi T10 904 72 = Xi T9 904 72 from w379.x _ _ rfl).trans ((show Xi T9 904 72 = Xi T6 904 72 from w320.x _ _ rfl))
          have w401 : Xi T10 904 75 = Xi T6 904 75 := (show Xi T10 904 75 = Xi T9 904 75 from w379.x _ _ rfl).trans ((show Xi T9 904 75 = Xi T6 904 75 from w320.x _ _ rfl))
          have w403 : Xi T10 904 78 = Xi T6 904 78 := (show Xi T10 904 78 = Xi T9 904 78 from w379.x _ _ rfl).trans ((show Xi T9 904 78 = Xi T6 904 78 from w320.x _ _ rfl))
          exact Rl_weak (ih190 _ (by omega) T10 hHT10 hFT10 (v1) ((v2 + 1)) (by omega) (by omega) (by omega) (by omega) (by omega) (by omega) (by omega) (by first | assumption | exact (WYM_FR w379 rfl (WYM_FR w320 rfl (by assumption : WYM T6)))) (by omega) (by omega) (by omega) (by omega) (by omega) (by first | assumption | exact (TXM_FR w379 rfl (by assumption : TXM T9))) (by first | exact k4 (by omega) (by omega) (by omega) | exact (AQ4_FR w379 rfl (AQ4_FR w320 rfl (by assumption : AQ4 T6)))) (by first | assumption | exact (LXM_FR w379 rfl (LXM_FR w320 rfl (by assumption : LXM T6)))) (by first | assumption | exact (LCN_FR w379 rfl (LCN_FR w320 rfl (by assumption : LCN T6)))) (by first | exact GR.rf | exact (GR_FR w379 rfl (GR_FR w320 rfl (by assumption : GR T6 S)))) (by first | assumption | exact (VTM_FR w379 rfl (VTM_FR w320 rfl (by assumption : VTM T6)))) (by first | assumption | exact (VCN_FR w379 rfl (VCN_FR w320 rfl (by assumption : VCN T6)))) (by omega) rfl) (And.intro rfl (And.intro rfl (And.intro rfl (True.intro))))
    have C233 : ∀  (T11 : sS) (_ : HI T11) (_ : FR md_mo_doFifteen S T11) (v1 : Int) (v2 : Int) (v3 : Int), (0 ≤ v1 ∧ v1 ≤ 5001) → (0 ≤ v2 ∧ v2 ≤ 2599) → (0 ≤ v3 ∧ v3 ≤ 23) → (Xi T11 904 69 = Xi S 904 69) → (Xi T11 904 71 = Xi S 904 71) → (Xi T11 904 72 = Xi S 904 72) → (Xi T11 904 75 = Xi S 904 75) → (Xi T11 904 78 = Xi S 904 78) → (WYM T11) → (v1 = Xi S 950 (Xi S 904 78).toNat) → (Xi T11 904 60 < Xi T11 904 19) → (Xi T11 904 19 = Xi S 904 19) → (Xi T11 904 23 = Xi S 904 23) → (Xi T11 904 32 = Xi S 904 32) → (TXM T11) → (AQ4 T11) → (LXM T11) → (LCN T11) → (GR T11 S) → (VTM T11) → (VCN T11) → (v2 < Xi S 904 72) → (0 ≤ v3 ∧ v3 < Xi S 904 19) → (v3 = rnR T11 (Xi T11 904 71 + v2) 4) → ((2601 - v2).toNat ≤ n190) → Rl lay0 (d + 6) m_mo_doFifteen 233 [(0, .ref 904), (1, iv v1), (2, iv v2), (3, iv v3)] [] T11 (Q_mo_doFifteen S n) := by
      intro T11 hHT11 hFT11 v1 v2 v3 w405 w406 w407 w408 w409 w410 w411 w412 W233 w413 w414 w415 w416 w417 X233 A233 M233 L233 G233 V233 C233 w418 w419 r233 w420
      have w421 : Xi T11 904 110 = Xi S 904 110 := hFT11.x _ _ rfl
      have w422 : Xi T11 904 112 = Xi S 904 112 := hFT11.x _ _ rfl
      have w423 : Xi T11 904 142 = Xi S 904 142 := hFT11.x _ _ rfl
      have w424 : Xi T11 904 16 = Xi S 904 16 := hFT11.x _ _ rfl
      have w425 : Xi T11 904 23 = Xi S 904 23 := hFT11.x _ _ rfl
      have w426 : Xi T11 904 32 = Xi S 904 32 := hFT11.x _ _ rfl
      have w427 : Xi T11 904 69 = Xi S 904 69 := hFT11.x _ _ rfl
      have w428 : Xi T11 904 70 = Xi S 904 70 := hFT11.x _ _ rfl
      have w429 : Xi T11 904 71 = Xi S 904 71 := hFT11.x _ _ rfl
      have w430 : Xi T11 904 72 = Xi S 904 72 := hFT11.x _ _ rfl
      have w431 : Xi T11 904 74 = Xi S 904 74 := hFT11.x _ _ rfl
      have w432 : Xi T11 904 75 = Xi S 904 75 := hFT11.x _ _ rfl
      have w433 : Xi T11 904 78 = Xi S 904 78 := hFT11.x _ _ rfl
      have w434 : Xi T11 967 0 = Xi S 967 0 := hFT11.x _ _ rfl
      have w435 : 0 ≤ Xi T11 904 19 ∧ Xi T11 904 19 ≤ 24 := hHT11.c _ _
      have w436 : 0 ≤ Xi T11 904 23 ∧ Xi T11 904 23 ≤ 24 := hHT11.c _ _
      have w437 : 0 ≤ Xi T11 904 32 ∧ Xi T11 904 32 ≤ 12 := hHT11.c _ _
      have w438 : -1 ≤ Xi T11 904 60 ∧ Xi T11 904 60 ≤ 23 := hHT11.c _ _
      have w439 : 0 ≤ Xi T11 904 69 ∧ Xi T11 904 69 ≤ 2600 := hHT11.c _ _
      have w440 : 0 ≤ Xi T11 904 71 ∧ Xi T11 904 71 ≤ 2600 := hHT11.c _ _
      have w441 : 0 ≤ Xi T11 904 72 ∧ Xi T11 904 72 ≤ 2600 := hHT11.c _ _
      have w442 : 0 ≤ Xi T11 904 75 ∧ Xi T11 904 75 ≤ 1 := hHT11.c _ _
      have w443 : -2 ≤ Xi T11 904 78 ∧ Xi T11 904 78 ≤ 5010 := hHT11.c _ _
      refine l_aload_n rfl rfl ?_
      refine l_iload_n rfl rfl ?_
      refine l_aload_n rfl rfl ?_
      refine l_gfr rfl rfl rfl rfl rfl (hHT11.r 904 68 951 rfl) ?_
      refine l_aload_n rfl rfl ?_
      refine l_gfi rfl rfl rfl rfl rfl ?_
      refine l_iaload (n := 2600) rfl rfl (by omega) (by omega) (by unfold rg; omega) ?_
      have w444 : 0 ≤ (Xi T11 951 (((Xi T11 904 78)).toNat)) ∧ (Xi T11 951 (((Xi T11 904 78)).toNat)) ≤ 5010 := hHT11.c _ _
      have e243 : (Xi T11 951 (((Xi T11 904 78)).toNat)) = Xi S 951 (Xi S 904 78).toNat := by rw [(hFT11.cx 951 rfl _).1]; exact congrArg (fun t : Int => Xi S 951 t.toNat) (by omega)
      refine l_aload_n rfl rfl ?_
      refine l_gfr rfl rfl rfl rfl rfl (hHT11.r 904 20 918 rfl) ?_
      refine l_iload_n rfl rfl ?_
      refine l_iaload (n := 24) rfl rfl (by omega) (by omega) (by unfold rg; omega) ?_
      have w445 : 0 ≤ (Xi T11 918 ((v3).toNat)) ∧ (Xi T11 918 ((v3).toNat)) ≤ 15 := hHT11.c _ _
      have e249 : (Xi T11 918 ((v3).toNat)) = Xi T11 918 (v3).toNat := rfl
      refine l_iconst rfl ?_
      refine l_aload_n rfl rfl ?_
      refine l_gfi rfl rfl rfl rfl rfl ?_
      refine l_if_ne rfl rfl (by unfold rg; omega) (fun w446 => ?_) (fun w447 => ?_)
      · refine l_iconst rfl ?_
        have w448 : 0 ≤ Xi T11 904 106 ∧ Xi T11 904 106 ≤ 9 := hHT11.c _ _
        have w449 : -1 ≤ Xi T11 904 113 ∧ Xi T11 904 113 ≤ 6411 := hHT11.c _ _
        have w450 : 0 ≤ Xi T11 904 15 ∧ Xi T11 904 15 ≤ 300 := hHT11.c _ _
        have w453 : 0 ≤ Xi T11 904 30 ∧ Xi T11 904 30 ≤ 64 := hHT11.c _ _
        refine l_callV rfl rfl rfl (t_mo_adjective__2 hHT11 v1 (Xi T11 951 (((Xi T11 904 78)).toNat)) (Xi T11 918 ((v3).toNat)) 0 0 ⟨by omega, by omega⟩ ⟨by omega, by omega⟩ ⟨by omega, by omega⟩ ⟨by omega, by omega⟩ ⟨by omega, by omega⟩ (by first | assumption | omega) (by first | assumption | exact (by assumption : LXM T11)) (by first | assumption | exact (ABV_FR hFT11 rfl (by assumption : ABV S))) (by first | assumption | exact (DCM_FR hFT11 rfl (by assumption : DCM S))) _) ?_
        rintro _ T12 ⟨hHT12, w463, z462, rfl, w462, f263, w461, f263⟩
        have hFT12 : FR md_mo_doFifteen S T12 := FR.tr hFT11 w463 rfl
        show Rl _ _ _ _ _ [iv z462] _ _
        have w263 : v1 = Xi T11 950 (Xi T11 904 78).toNat := by rw [(hFT11.cx 950 rfl _).1, show Xi T11 904 78 = Xi S 904 78 by omega]; omega
        have A263 : 1 ≤ z462 := by have t := (A233 v2 (by omega) (by omega)).2; rw [← r233] at t; rw [f263]; exact aq_c t w263 rfl rfl (by omega)
        have D263 : ADM T12 (Xi T12 904 113) := (by assumption : 1 ≤ z462 → ADM T12 (Xi T12 904 113)) A263
        refine l_pop rfl rfl ?_
        have w464 : Xi T12 904 106 = Xi T11 904 106 := (show Xi T12 904 106 = Xi T11 904 106 from w463.x _ _ rfl)
        have w466 : -1 ≤ Xi T12 904 113 ∧ Xi T12 904 113 ≤ 6411 := hHT12.c _ _
        have w467 : Xi T12 904 15 = Xi T11 904 15 := (show Xi T12 904 15 = Xi T11 904 15 from w463.x _ _ rfl)
        have w469 : Xi T12 904 19 = Xi T11 904 19 := (show Xi T12 904 19 = Xi T11 904 19 from w463.x _ _ rfl)
        have w471 : Xi T12 904 23 = Xi T11 904 23 := (show Xi T12 904 23 = Xi T11 904 23 from w463.x _ _ rfl)
        have w473 : Xi T12 904 30 = Xi T11 904 30 := (show Xi T12 904 30 = Xi T11 904 30 from w463.x _ _ rfl)
        have w475 : Xi T12 904 32 = Xi T11 904 32 := (show Xi T12 904 32 = Xi T11 904 32 from w463.x _ _ rfl)
        have w477 : Xi T12 904 60 = Xi T11 904 60 := (show Xi T12 904 60 = Xi T11 904 60 from w463.x _ _ rfl)
        have w479 : Xi T12 904 69 = Xi T11 904 69 := (show Xi T12 904 69 = Xi T11 904 69 from w463.x _ _ rfl)
        have w481 : Xi T12 904 71 = Xi T11 904 71 := (show Xi T12 904 71 = Xi T11 904 71 from w463.x _ _ rfl)
        have w483 : Xi T12 904 72 = Xi T11 904 72 := (show Xi T12 904 72 = Xi T11 904 72 from w463.x _ _ rfl)
        have w485 : Xi T12 904 75 = Xi T11 904 75 := (show Xi T12 904 75 = Xi T11 904 75 from w463.x _ _ rfl)
        have w487 : Xi T12 904 78 = Xi T11 904 78 := (show Xi T12 904 78 = Xi T11 904 78 from w463.x _ _ rfl)
        exact Rl_weak (C267 T12 hHT12 hFT12 (v1) (v2) (v3) (by omega) (by omega) (by omega) (by omega) (by omega) (by omega) (by omega) (by omega) (by first | assumption | exact (WYM_FR w463 rfl (by assumption : WYM T11))) (by omega) (by omega) (by omega) (by omega) (by omega) (by first | assumption | exact (TXM_FR w463 rfl (by assumption : TXM T11))) ((AQ4_FR w463 rfl (by assumption : AQ4 T11))) (by first | assumption | exact (LXM_FR w463 rfl (by assumption : LXM T11))) (by first | assumption | exact (LCN_FR w463 rfl (by assumption : LCN T11))) ((GR_FR w463 rfl (by assumption : GR T11 S))) (by first | assumption | exact (VTM_FR w463 rfl (by assumption : VTM T11))) (by first | assumption | exact (VCN_FR w463 rfl (by assumption : VCN T11))) (by omega) (by omega) (D263) (by omega)) (And.intro rfl (And.intro rfl (And.intro rfl (And.intro rfl (True.intro)))))
      · refine l_iconst rfl ?_
        refine l_goto rfl rfl ?_
        have w489 : 0 ≤ Xi T11 904 106 ∧ Xi T11 904 106 ≤ 9 := hHT11.c _ _
        have w490 : -1 ≤ Xi T11 904 113 ∧ Xi T11 904 113 ≤ 6411 := hHT11.c _ _
        have w491 : 0 ≤ Xi T11 904 15 ∧ Xi T11 904 15 ≤ 300 := hHT11.c _ _
        have w494 : 0 ≤ Xi T11 904 30 ∧ Xi T11 904 30 ≤ 64 := hHT11.c _ _
        refine l_callV rfl rfl rfl (t_mo_adjective__2 hHT11 v1 (Xi T11 951 (((Xi T11 904 78)).toNat)) (Xi T11 918 ((v3).toNat)) 0 1 ⟨by omega, by omega⟩ ⟨by omega, by omega⟩ ⟨by omega, by omega⟩ ⟨by omega, by omega⟩ ⟨by omega, by omega⟩ (by first | assumption | omega) (by first | assumption | exact (by assumption : LXM T11)) (by first | assumption | exact (ABV_FR hFT11 rfl (by assumption : ABV S))) (by first | assumption | exact (DCM_FR hFT11 rfl (by assumption : DCM S))) _) ?_
        rintro _ T13 ⟨hHT13, w504, z503, rfl, w503, f263, w502, f263⟩
        have hFT13 : FR md_mo_doFifteen S T13 := FR.tr hFT11 w504 rfl
        show Rl _ _ _ _ _ [iv z503] _ _
        have w263 : v1 = Xi T11 950 (Xi T11 904 78).toNat := by rw [(hFT11.cx 950 rfl _).1, show Xi T11 904 78 = Xi S 904 78 by omega]; omega
        have A263 : 1 ≤ z503 := by have t := (A233 v2 (by omega) (by omega)).2; rw [← r233] at t; rw [f263]; exact aq_c t w263 rfl rfl (by omega)
        have D263 : ADM T13 (Xi T13 904 113) := (by assumption : 1 ≤ z503 → ADM T13 (Xi T13 904 113)) A263
        refine l_pop rfl rfl ?_
        have w505 : Xi T13 904 106 = Xi T11 904 106 := (show Xi T13 904 106 = Xi T11 904 106 from w504.x _ _ rfl)
        have w507 : -1 ≤ Xi T13 904 113 ∧ Xi T13 904 113 ≤ 6411 := hHT13.c _ _
        have w508 : Xi T13 904 15 = Xi T11 904 15 := (show Xi T13 904 15 = Xi T11 904 15 from w504.x _ _ rfl)
        have w510 : Xi T13 904 19 = Xi T11 904 19 := (show Xi T13 904 19 = Xi T11 904 19 from w504.x _ _ rfl)
        have w512 : Xi T13 904 23 = Xi T11 904 23 := (show Xi T13 904 23 = Xi T11 904 23 from w504.x _ _ rfl)
        have w514 : Xi T13 904 30 = Xi T11 904 30 := (show Xi T13 904 30 = Xi T11 904 30 from w504.x _ _ rfl)
        have w516 : Xi T13 904 32 = Xi T11 904 32 := (show Xi T13 904 32 = Xi T11 904 32 from w504.x _ _ rfl)
        have w518 : Xi T13 904 60 = Xi T11 904 60 := (show Xi T13 904 60 = Xi T11 904 60 from w504.x _ _ rfl)
        have w520 : Xi T13 904 69 = Xi T11 904 69 := (show Xi T13 904 69 = Xi T11 904 69 from w504.x _ _ rfl)
        have w522 : Xi T13 904 71 = Xi T11 904 71 := (show Xi T13 904 71 = Xi T11 904 71 from w504.x _ _ rfl)
        have w524 : Xi T13 904 72 = Xi T11 904 72 := (show Xi T13 904 72 = Xi T11 904 72 from w504.x _ _ rfl)
        have w526 : Xi T13 904 75 = Xi T11 904 75 := (show Xi T13 904 75 = Xi T11 904 75 from w504.x _ _ rfl)
        have w528 : Xi T13 904 78 = Xi T11 904 78 := (show Xi T13 904 78 = Xi T11 904 78 from w504.x _ _ rfl)
        exact Rl_weak (C267 T13 hHT13 hFT13 (v1) (v2) (v3) (by omega) (by omega) (by omega) (by omega) (by omega) (by omega) (by omega) (by omega) (by first | assumption | exact (WYM_FR w504 rfl (by assumption : WYM T11))) (by omega) (by omega) (by omega) (by omega) (by omega) (by first | assumption | exact (TXM_FR w504 rfl (by assumption : TXM T11))) ((AQ4_FR w504 rfl (by assumption : AQ4 T11))) (by first | assumption | exact (LXM_FR w504 rfl (by assumption : LXM T11))) (by first | assumption | exact (LCN_FR w504 rfl (by assumption : LCN T11))) ((GR_FR w504 rfl (by assumption : GR T11 S))) (by first | assumption | exact (VTM_FR w504 rfl (by assumption : VTM T11))) (by first | assumption | exact (VCN_FR w504 rfl (by assumption : VCN T11))) (by omega) (by omega) (D263) (by omega)) (And.intro rfl (And.intro rfl (And.intro rfl (And.intro rfl (True.intro)))))
    refine l_iload_n rfl rfl ?_
    refine l_aload_n rfl rfl ?_
    refine l_gfi rfl rfl rfl rfl rfl ?_
    refine l_icmp_ge rfl rfl (by unfold rg; omega) (by unfold rg; omega) (fun w530 => ?_) (fun w531 => ?_)
    · refine l_return rfl rfl ?_
      have w532 : 0 ≤ Xi T5 904 106 ∧ Xi T5 904 106 ≤ 9 := hHT5.c _ _
      have w533 : -1 ≤ Xi T5 904 113 ∧ Xi T5 904 113 ≤ 6411 := hHT5.c _ _
      have w534 : 0 ≤ Xi T5 904 15 ∧ Xi T5 904 15 ≤ 300 := hHT5.c _ _
      have w537 : 0 ≤ Xi T5 904 30 ∧ Xi T5 904 30 ≤ 64 := hHT5.c _ _
      exact ⟨hHT5, hFT5, rfl, (by first | assumption | exact (by assumption : TXM T5)), (by first | assumption | exact (by assumption : WYM T5)), (by first | assumption | exact (by assumption : LXM T5)), (by first | assumption | exact (by assumption : LCN T5)), (by first | assumption | exact (by assumption : GR T5 S)), (by first | assumption | exact (by assumption : VTM T5)), (by first | assumption | exact (by assumption : VCN T5) | exact (fun t ht => by rw [C120 t]; by_cases q : t = v2; (rw [if_pos q, q]; have u := (k2 (by omega)).2.1; rw [show r2R S (Xi S 904 71) 2 3 = v2 by omega] at u; omega); (rw [if_neg q]; have u := hVC t ht; omega))), (by omega)⟩
    · refine l_aload_n rfl rfl ?_
      refine l_gfi rfl rfl rfl rfl rfl ?_
      have w545 : 0 ≤ (Xi T5 904 106) ∧ (Xi T5 904 106) ≤ 9 := hHT5.c _ _
      refine l_if_ne rfl rfl (by unfold rg; omega) (fun w546 => ?_) (fun w547 => ?_)
      · refine l_return rfl rfl ?_
        have w548 : 0 ≤ Xi T5 904 106 ∧ Xi T5 904 106 ≤ 9 := hHT5.c _ _
        have w549 : -1 ≤ Xi T5 904 113 ∧ Xi T5 904 113 ≤ 6411 := hHT5.c _ _
        have w550 : 0 ≤ Xi T5 904 15 ∧ Xi T5 904 15 ≤ 300 := hHT5.c _ _
        have w553 : 0 ≤ Xi T5 904 30 ∧ Xi T5 904 30 ≤ 64 := hHT5.c _ _
        exact ⟨hHT5, hFT5, rfl, (by first | assumption | exact (by assumption : TXM T5)), (by first | assumption | exact (by assumption : WYM T5)), (by first | assumption | exact (by assumption : LXM T5)), (by first | assumption | exact (by assumption : LCN T5)), (by first | assumption | exact (by assumption : GR T5 S)), (by first | assumption | exact (by assumption : VTM T5)), (by first | assumption | exact (by assumption : VCN T5) | exact (fun t ht => by rw [C120 t]; by_cases q : t = v2; (rw [if_pos q, q]; have u := (k2 (by omega)).2.1; rw [show r2R S (Xi S 904 71) 2 3 = v2 by omega] at u; omega); (rw [if_neg q]; have u := hVC t ht; omega))), (by omega)⟩
      · refine l_aload_n rfl rfl ?_
        refine l_aload_n rfl rfl ?_
        refine l_gfi rfl rfl rfl rfl rfl ?_
        refine l_iload_n rfl rfl ?_
        refine l_iadd rfl ?_
        refine l_iconst rfl ?_
        refine l_callV rfl rfl rfl (t_mo_meansRun__2 hHT5 n ((Xi T5 904 71) + v2) 4 ⟨by omega, by omega⟩ ⟨by omega, by omega⟩ (by first | assumption | exact (TK_FR hFT5 rfl (by assumption : TK S _))) (by first | assumption | exact (RNV_FR hFT5 rfl (by assumption : RNV S _))) (by first | assumption | omega) (by first | assumption | exact (by assumption : LXM T5)) _) ?_
        rintro _ _ ⟨rfl, z576, rfl, w576, w574, w575⟩
        show Rl _ _ _ _ _ [iv z576] _ _
        have A213 := A190 v2 (by omega) (by omega)
        have r213 : z576 = rnR T5 (Xi T5 904 71 + v2) 4 := by assumption
        have x213 : z576 ≠ -1 → z576 < Xi T5 904 19 := fun q => by have t := (by assumption : z576 ≠ -1 → z576 < cM T5 4) q; rw [cM4] at t; exact t
        have n213 : z576 ≠ -1 := by rw [r213]; exact A213.1
        refine l_istore_n rfl rfl rfl ?_
        refine l_aload_n rfl rfl ?_
        refine l_iload_n rfl rfl ?_
        refine l_if_ne rfl rfl (by unfold rg; omega) (fun w577 => ?_) (fun w578 => ?_)
        · refine l_aload_n rfl rfl ?_
          refine l_gfi rfl rfl rfl rfl rfl ?_
          refine l_pfi rfl rfl rfl rfl ?_
          obtain ⟨U14, eU14⟩ : ∃ T : sS, T = uI T5 904 60 (Int32.ofInt (Xi T5 904 60)) := ⟨_, rfl⟩
          rw [← eU14]
          have hHU14 : HI U14 := by rw [eU14]; exact HI_w hHT5 (show -1 ≤ (Xi T5 904 60) by omega) (show (Xi T5 904 60) ≤ 23 by omega)
          have hFU14 : FR md_mo_doFifteen S U14 := by rw [eU14]; exact FR.wI hFT5 (mdf_i (r := (904, 905, 60, 61)) (List.mem_of_getElem? (i := 3) rfl) (inR_i (by omega) (by omega) (by omega) (by omega)))
          have w579 : Xi U14 904 60 = (Xi T5 904 60) := by rw [eU14]; exact Xi_same (by unfold rg; omega)
          have w580 : Xi U14 904 106 = Xi T5 904 106 := (show Xi U14 904 106 = Xi T5 904 106 from by rw [eU14]; exact Xi_ne (by omega))
          have w581 : 0 ≤ Xi T5 904 106 ∧ Xi T5 904 106 ≤ 9 := hHT5.c _ _
          have w582 : Xi U14 904 113 = Xi T5 904 113 := (show Xi U14 904 113 = Xi T5 904 113 from by rw [eU14]; exact Xi_ne (by omega))
          have w583 : -1 ≤ Xi T5 904 113 ∧ Xi T5 904 113 ≤ 6411 := hHT5.c _ _
          have w584 : Xi U14 904 15 = Xi T5 904 15 := (show Xi U14 904 15 = Xi T5 904 15 from by rw [eU14]; exact Xi_ne (by omega))
          have w585 : 0 ≤ Xi T5 904 15 ∧ Xi T5 904 15 ≤ 300 := hHT5.c _ _
          have w586 : Xi U14 904 19 = Xi T5 904 19 := (show Xi U14 904 19 = Xi T5 904 19 from by rw [eU14]; exact Xi_ne (by omega))
          have w588 : Xi U14 904 23 = Xi T5 904 23 := (show Xi U14 904 23 = Xi T5 904 23 from by rw [eU14]; exact Xi_ne (by omega))
          have w590 : Xi U14 904 30 = Xi T5 904 30 := (show Xi U14 904 30 = Xi T5 904 30 from by rw [eU14]; exact Xi_ne (by omega))
          have w591 : 0 ≤ Xi T5 904 30 ∧ Xi T5 904 30 ≤ 64 := hHT5.c _ _
          have w592 : Xi U14 904 32 = Xi T5 904 32 := (show Xi U14 904 32 = Xi T5 904 32 from by rw [eU14]; exact Xi_ne (by omega))
          have w594 : -1 ≤ Xi U14 904 60 ∧ Xi U14 904 60 ≤ 23 := hHU14.c _ _
          have w595 : Xi U14 904 69 = Xi T5 904 69 := (show Xi U14 904 69 = Xi T5 904 69 from by rw [eU14]; exact Xi_ne (by omega))
          have w597 : Xi U14 904 71 = Xi T5 904 71 := (show Xi U14 904 71 = Xi T5 904 71 from by rw [eU14]; exact Xi_ne (by omega))
          have w599 : Xi U14 904 72 = Xi T5 904 72 := (show Xi U14 904 72 = Xi T5 904 72 from by rw [eU14]; exact Xi_ne (by omega))
          have w601 : Xi U14 904 75 = Xi T5 904 75 := (show Xi U14 904 75 = Xi T5 904 75 from by rw [eU14]; exact Xi_ne (by omega))
          have w603 : Xi U14 904 78 = Xi T5 904 78 := (show Xi U14 904 78 = Xi T5 904 78 from by rw [eU14]; exact Xi_ne (by omega))
          exact Rl_weak (C233 U14 hHU14 hFU14 (v1) (v2) (z576) (by omega) (by omega) (by omega) (by omega) (by omega) (by omega) (by omega) (by omega) (by first | assumption | exact (WYM_FR (FR_e eU14) rfl (by assumption : WYM T5))) (by omega) (by omega) (by omega) (by omega) (by omega) (by first | assumption | exact (TXM_FR (FR_e eU14) rfl (by assumption : TXM T5))) ((AQ4_FR (FR_e eU14) rfl (by assumption : AQ4 T5))) (by first | assumption | exact (LXM_FR (FR_e eU14) rfl (by assumption : LXM T5))) (by first | assumption | exact (LCN_FR (FR_e eU14) rfl (by assumption : LCN T5))) ((GR_FR (FR_e eU14) rfl (by assumption : GR T5 S))) (by first | assumption | exact (VTM_FR (FR_e eU14) rfl (by assumption : VTM T5))) (by first | assumption | exact (VCN_FR (FR_e eU14) rfl (by assumption : VCN T5))) (by omega) (by omega) ((by assumption : _ = rnR T5 (Xi T5 904 71 + v2) 4).trans (by rw [show Xi U14 904 71 = Xi T5 904 71 by omega]; exact (rnR_FR (FR_e eU14) rfl rfl).symm)) (by omega)) (And.intro rfl (And.intro rfl (And.intro rfl (And.intro rfl (True.intro)))))
        · refine l_iload_n rfl rfl ?_
          refine l_goto rfl rfl ?_
          refine l_pfi rfl rfl rfl rfl ?_
          obtain ⟨U15, eU15⟩ : ∃ T : sS, T = uI T5 904 60 (Int32.ofInt z576) := ⟨_, rfl⟩
          rw [← eU15]
          have hHU15 : HI U15 := by rw [eU15]; exact HI_w hHT5 (show -1 ≤ z576 by omega) (show z576 ≤ 23 by omega)
          have hFU15 : FR md_mo_doFifteen S U15 := by rw [eU15]; exact FR.wI hFT5 (mdf_i (r := (904, 905, 60, 61)) (List.mem_of_getElem? (i := 3) rfl) (inR_i (by omega) (by omega) (by omega) (by omega)))
          have w605 : Xi U15 904 60 = z576 := by rw [eU15]; exact Xi_same (by unfold rg; omega)
          have w606 : Xi U15 904 106 = Xi T5 904 106 := (show Xi U15 904 106 = Xi T5 904 106 from by rw [eU15]; exact Xi_ne (by omega))
          have w607 : 0 ≤ Xi T5 904 106 ∧ Xi T5 904 106 ≤ 9 := hHT5.c _ _
          have w608 : Xi U15 904 113 = Xi T5 904 113 := (show Xi U15 904 113 = Xi T5 904 113 from by rw [eU15]; exact Xi_ne (by omega))
          have w609 : -1 ≤ Xi T5 904 113 ∧ Xi T5 904 113 ≤ 6411 := hHT5.c _ _
          have w610 : Xi U15 904 15 = Xi T5 904 15 := (show Xi U15 904 15 = Xi T5 904 15 from by rw [eU15]; exact Xi_ne (by omega))
          have w611 : 0 ≤ Xi T5 904 15 ∧ Xi T5 904 15 ≤ 300 := hHT5.c _ _
          have w612 : Xi U15 904 19 = Xi T5 904 19 := (show Xi U15 904 19 = Xi T5 904 19 from by rw [eU15]; exact Xi_ne (by omega))
          have w614 : Xi U15 904 23 = Xi T5 904 23 := (show Xi U15 904 23 = Xi T5 904 23 from by rw [eU15]; exact Xi_ne (by omega))
          have w616 : Xi U15 904 30 = Xi T5 904 30 := (show Xi U15 904 30 = Xi T5 904 30 from by rw [eU15]; exact Xi_ne (by omega))
          have w617 : 0 ≤ Xi T5 904 30 ∧ Xi T5 904 30 ≤ 64 := hHT5.c _ _
          have w618 : Xi U15 904 32 = Xi T5 904 32 := (show Xi U15 904 32 = Xi T5 904 32 from by rw [eU15]; exact Xi_ne (by omega))
          have w620 : -1 ≤ Xi U15 904 60 ∧ Xi U15 904 60 ≤ 23 := hHU15.c _ _
          have w621 : Xi U15 904 69 = Xi T5 904 69 := (show Xi U15 904 69 = Xi T5 904 69 from by rw [eU15]; exact Xi_ne (by omega))
          have w623 : Xi U15 904 71 = Xi T5 904 71 := (show Xi U15 904 71 = Xi T5 904 71 from by rw [eU15]; exact Xi_ne (by omega))
          have w625 : Xi U15 904 72 = Xi T5 904 72 := (show Xi U15 904 72 = Xi T5 904 72 from by rw [eU15]; exact Xi_ne (by omega))
          have w627 : Xi U15 904 75 = Xi T5 904 75 := (show Xi U15 904 75 = Xi T5 904 75 from by rw [eU15]; exact Xi_ne (by omega))
          have w629 : Xi U15 904 78 = Xi T5 904 78 := (show Xi U15 904 78 = Xi T5 904 78 from by rw [eU15]; exact Xi_ne (by omega))
          exact Rl_weak (C233 U15 hHU15 hFU15 (v1) (v2) (z576) (by omega) (by omega) (by omega) (by omega) (by omega) (by omega) (by omega) (by omega) (by first | assumption | exact (WYM_FR (FR_e eU15) rfl (by assumption : WYM T5))) (by omega) (by omega) (by omega) (by omega) (by omega) (by first | assumption | exact (TXM_FR (FR_e eU15) rfl (by assumption : TXM T5))) ((AQ4_FR (FR_e eU15) rfl (by assumption : AQ4 T5))) (by first | assumption | exact (LXM_FR (FR_e eU15) rfl (by assumption : LXM T5))) (by first | assumption | exact (LCN_FR (FR_e eU15) rfl (by assumption : LCN T5))) ((GR_FR (FR_e eU15) rfl (by assumption : GR T5 S))) (by first | assumption | exact (VTM_FR (FR_e eU15) rfl (by assumption : VTM T5))) (by first | assumption | exact (VCN_FR (FR_e eU15) rfl (by assumption : VCN T5))) (by omega) (by omega) ((by assumption : _ = rnR T5 (Xi T5 904 71 + v2) 4).trans (by rw [show Xi U15 904 71 = Xi T5 904 71 by omega]; exact (rnR_FR (FR_e eU15) rfl rfl).symm)) (by omega)) (And.intro rfl (And.intro rfl (And.intro rfl (And.intro rfl (True.intro)))))
set_option maxRecDepth 100000 in
set_option maxHeartbeats 4000000 in
theorem t_mo_doFifteen {S : sS} (hH : HI S) (n : Nat) (hT : TK S n) (hv : RNV S n) (hM : LXM S) (hX : TXM S) (hW : WYM S) (hLC : LCN S) (hB : ABV S) (hC : DCM S) (hl : Xi S 904 71 + Xi S 904 72 ≤ Xi S 904 69) (hV : VTM S) (hVC : VCN S) (hd : Xi S 904 60 < Xi S 904 19) (h1 : 1 ≤ Xi S 904 72) (h6 : 1 ≤ Xi S 904 16) (hs : Xi S 904 70 ≠ 13) (hw : 0 ≤ Xi S 904 78 ∧ Xi S 904 78 < Xi S 904 69) (k1 : Xi S 904 142 = 1 → rnR S (Xi S 904 71) 0 ≠ -1 ∧ ADM S (Xi S 967 0)) (k2 : Xi S 904 142 = 2 → 1 < r2R S (Xi S 904 71) 2 3 ∧ cvR S (r2R S (Xi S 904 71) 2 3) (Xi S 904 30).toNat + (Xi S 904 69 - Xi S 904 78) ≤ 8 ∧ ∀ r : Int, Xi S 904 78 ≤ r → r < Xi S 904 69 → Xi S 951 r.toNat ≤ 3) (k3 : Xi S 904 142 = 3 → ONA S ∧ Xi S 904 110 < Xi S 904 16 ∧ ∀ i : Nat, (i : Int) < Xi S 904 112 → ADM S (Xi S 967 i)) (k4 : Xi S 904 142 ≠ 1 → Xi S 904 142 ≠ 2 → Xi S 904 142 ≠ 3 → AQ4 S) (d : Nat) : Mt lay0 (d + 7) m_mo_doFifteen [.ref 904] S (Q_mo_doFifteen S n) := by
  refine Mt_R rfl rfl ?_
  have C120 := c120_mo_doFifteen hH n hT hv hM hX hW hLC hB hC hl hV hVC hd h1 h6 hs hw k1 k2 k3 k4 d 
  have C190 := c190_mo_doFifteen hH n hT hv hM hX hW hLC hB hC hl hV hVC hd h1 h6 hs hw k1 k2 k3 k4 d 
  have hF : FR md_mo_doFifteen S S := FR.rf
  have w1 : 0 ≤ Xi S 904 110 ∧ Xi S 904 110 ≤ 15 := hH.c _ _
  have w2 : 0 ≤ Xi S 904 112 ∧ Xi S 904 112 ≤ 6 := hH.c _ _
  have w3 : -1 ≤ Xi S 904 113 ∧ Xi S 904 113 ≤ 6411 := hH.c _ _
  have w4 : 0 ≤ Xi S 904 142 ∧ Xi S 904 142 ≤ 4 := hH.c _ _
  have w5 : 0 ≤ Xi S 904 16 ∧ Xi S 904 16 ≤ 16 := hH.c _ _
  have w6 : 0 ≤ Xi S 904 19 ∧ Xi S 904 19 ≤ 24 := hH.c _ _
  have w7 : 0 ≤ Xi S 904 23 ∧ Xi S 904 23 ≤ 24 := hH.c _ _
  have w8 : 0 ≤ Xi S 904 30 ∧ Xi S 904 30 ≤ 64 := hH.c _ _
  have w9 : 0 ≤ Xi S 904 32 ∧ Xi S 904 32 ≤ 12 := hH.c _ _
  have w10 : -1 ≤ Xi S 904 60 ∧ Xi S 904 60 ≤ 23 := hH.c _ _
  have w11 : 0 ≤ Xi S 904 69 ∧ Xi S 904 69 ≤ 2600 := hH.c _ _
  have w12 : 0 ≤ Xi S 904 70 ∧ Xi S 904 70 ≤ 20 := hH.c _ _
  have w13 : 0 ≤ Xi S 904 71 ∧ Xi S 904 71 ≤ 2600 := hH.c _ _
  have w14 : 0 ≤ Xi S 904 72 ∧ Xi S 904 72 ≤ 2600 := hH.c _ _
  have w15 : 0 ≤ Xi S 904 75 ∧ Xi S 904 75 ≤ 1 := hH.c _ _
  have w16 : -2 ≤ Xi S 904 78 ∧ Xi S 904 78 ≤ 5010 := hH.c _ _
  have w17 : -1 ≤ Xi S 967 0 ∧ Xi S 967 0 ≤ 6411 := hH.c _ _
  have hn5 := hT.1
  have hc69 : 0 ≤ Xi S 904 69 ∧ Xi S 904 69 ≤ 2600 := hH.c _ _
  have hc71 : 0 ≤ Xi S 904 71 ∧ Xi S 904 71 ≤ 2600 := hH.c _ _
  have hc72 : 0 ≤ Xi S 904 72 ∧ Xi S 904 72 ≤ 2600 := hH.c _ _
  have hrf : ∀ r : Int, 0 ≤ r → r < Xi S 904 69 → Xi S 950 r.toNat ≤ n := fun r a b => by have := hv r.toNat (by omega); omega
  have hc15 : 0 ≤ Xi S 904 15 ∧ Xi S 904 15 ≤ 300 := hH.c _ _
  have hl9 := lcn_le hH hLC
  have hc3 : 0 ≤ Xi S 904 23 ∧ Xi S 904 23 ≤ 24 := hH.c _ _
  have hc19 : 0 ≤ Xi S 904 19 ∧ Xi S 904 19 ≤ 24 := hH.c _ _
  have hc32 : 0 ≤ Xi S 904 32 ∧ Xi S 904 32 ≤ 12 := hH.c _ _
  have hc30 : 0 ≤ Xi S 904 30 ∧ Xi S 904 30 ≤ 64 := hH.c _ _
  have hc16 : 0 ≤ Xi S 904 16 ∧ Xi S 904 16 ≤ 16 := hH.c _ _
  have hc18 : 0 ≤ Xi S 904 18 ∧ Xi S 904 18 ≤ 8 := hH.c _ _
  have hk1 : Xi S 904 142 = 1 → rnR S (Xi S 904 71) 0 ≠ -1 ∧ ((0 ≤ Xi S 967 0 ∧ Xi S 967 0 < Xi S 904 23) ∨ (100 ≤ Xi S 967 0 ∧ Xi S 967 0 % 100 < Xi S 904 32 ∧ Xi S 967 0 ≤ 6411)) := k1
  have hk2 : Xi S 904 142 = 2 → 1 < r2R S (Xi S 904 71) 2 3 := fun q => (k2 q).1
  have hrw := hrf (Xi S 904 78) hw.1 hw.2
  have hqw : Xi S 950 (Xi S 904 78).toNat + Xi S 951 (Xi S 904 78).toNat ≤ n := (hv (Xi S 904 78).toNat (by omega)).1
  refine l_aload_n rfl rfl ?_
  refine l_gfr rfl rfl rfl rfl rfl (hH.r 904 67 950 rfl) ?_
  refine l_aload_n rfl rfl ?_
  refine l_gfi rfl rfl rfl rfl rfl ?_
  refine l_iaload (n := 2600) rfl rfl (by omega) (by omega) (by unfold rg; omega) ?_
  have w631 : 0 ≤ (Xi S 950 (((Xi S 904 78)).toNat)) ∧ (Xi S 950 (((Xi S 904 78)).toNat)) ≤ 5010 := hH.c _ _
  have e8 : (Xi S 950 (((Xi S 904 78)).toNat)) = Xi S 950 (Xi S 904 78).toNat := by first | rfl | exact (hF.cx 950 rfl _).1 | (rw [(hF.cx 950 rfl _).1]; exact congrArg (fun t : Int => Xi S 950 t.toNat) (by omega))
  refine l_istore_n rfl rfl rfl ?_
  refine l_aload_n rfl rfl ?_
  refine l_gfi rfl rfl rfl rfl rfl ?_
  refine l_iconst rfl ?_
  refine l_icmp_ne rfl rfl (by unfold rg; omega) (by unfold rg; omega) (fun w632 => ?_) (fun w633 => ?_)
  · refine l_aload_n rfl rfl ?_
    refine l_gfi rfl rfl rfl rfl rfl ?_
    refine l_iconst rfl ?_
    refine l_icmp_ne rfl rfl (by unfold rg; omega) (by unfold rg; omega) (fun w634 => ?_) (fun w635 => ?_)
    · refine l_aload_n rfl rfl ?_
      refine l_gfi rfl rfl rfl rfl rfl ?_
      refine l_iconst rfl ?_
      refine l_icmp_ne rfl rfl (by unfold rg; omega) (by unfold rg; omega) (fun w636 => ?_) (fun w637 => ?_)
      · refine l_iconst rfl ?_
        refine l_istore_n rfl rfl rfl ?_
        have w638 : 0 ≤ Xi S 904 106 ∧ Xi S 904 106 ≤ 9 := hH.c _ _
        have w640 : 0 ≤ Xi S 904 15 ∧ Xi S 904 15 ≤ 300 := hH.c _ _
        exact Rl_weak (C190 _ S hH hF ((Xi S 950 (((Xi S 904 78)).toNat))) (0) (by omega) (by omega) (by omega) (by omega) (by omega) (by omega) (by omega) (by first | assumption | exact (by assumption : WYM S)) (by omega) (by omega) (by omega) (by omega) (by omega) (by first | assumption | exact (by assumption : TXM S)) (by first | exact k4 (by omega) (by omega) (by omega) | exact (by assumption : AQ4 S)) (by first | assumption | exact (by assumption : LXM S)) (by first | assumption | exact (by assumption : LCN S)) (by first | exact GR.rf | exact GR.rf) (by first | assumption | exact (by assumption : VTM S)) (by first | assumption | exact (by assumption : VCN S)) (by omega) rfl) (And.intro rfl (And.intro rfl (And.intro rfl (True.intro))))
      · refine l_aload_n rfl rfl ?_
        refine l_iconst rfl ?_
        refine l_pfi rfl rfl rfl rfl ?_
        obtain ⟨U16, eU16⟩ : ∃ T : sS, T = uI S 904 73 (Int32.ofInt 0) := ⟨_, rfl⟩
        rw [← eU16]
        have hHU16 : HI U16 := by rw [eU16]; exact HI_w hH (show 0 ≤ 0 by omega) (show 0 ≤ 5 by omega)
        have hFU16 : FR md_mo_doFifteen S U16 := by rw [eU16]; exact FR.wI hF (mdf_i (r := (904, 905, 73, 74)) (List.mem_of_getElem? (i := 5) rfl) (inR_i (by omega) (by omega) (by omega) (by omega)))
        have w651 : Xi U16 904 73 = 0 := by rw [eU16]; exact Xi_same (by unfold rg; omega)
        refine l_aload_n rfl rfl ?_
        have w652 : Xi U16 904 106 = Xi S 904 106 := (show Xi U16 904 106 = Xi S 904 106 from by rw [eU16]; exact Xi_ne (by omega))
        have w653 : 0 ≤ Xi S 904 106 ∧ Xi S 904 106 ≤ 9 := hH.c _ _
        have w654 : Xi U16 904 110 = Xi S 904 110 := (show Xi U16 904 110 = Xi S 904 110 from by rw [eU16]; exact Xi_ne (by omega))
        have w656 : Xi U16 904 112 = Xi S 904 112 := (show Xi U16 904 112 = Xi S 904 112 from by rw [eU16]; exact Xi_ne (by omega))
        have w658 : Xi U16 904 113 = Xi S 904 113 := (show Xi U16 904 113 = Xi S 904 113 from by rw [eU16]; exact Xi_ne (by omega))
        have w660 : Xi U16 904 15 = Xi S 904 15 := (show Xi U16 904 15 = Xi S 904 15 from by rw [eU16]; exact Xi_ne (by omega))
        have w661 : 0 ≤ Xi S 904 15 ∧ Xi S 904 15 ≤ 300 := hH.c _ _
        have w662 : Xi U16 904 16 = Xi S 904 16 := (show Xi U16 904 16 = Xi S 904 16 from by rw [eU16]; exact Xi_ne (by omega))
        have w664 : Xi U16 904 19 = Xi S 904 19 := (show Xi U16 904 19 = Xi S 904 19 from by rw [eU16]; exact Xi_ne (by omega))
        have w666 : Xi U16 904 23 = Xi S 904 23 := (show Xi U16 904 23 = Xi S 904 23 from by rw [eU16]; exact Xi_ne (by omega))
        have w668 : Xi U16 904 30 = Xi S 904 30 := (show Xi U16 904 30 = Xi S 904 30 from by rw [eU16]; exact Xi_ne (by omega))
        have w670 : Xi U16 904 32 = Xi S 904 32 := (show Xi U16 904 32 = Xi S 904 32 from by rw [eU16]; exact Xi_ne (by omega))
        have w672 : Xi U16 904 60 = Xi S 904 60 := (show Xi U16 904 60 = Xi S 904 60 from by rw [eU16]; exact Xi_ne (by omega))
        have w674 : Xi U16 904 69 = Xi S 904 69 := (show Xi U16 904 69 = Xi S 904 69 from by rw [eU16]; exact Xi_ne (by omega))
        have w676 : Xi U16 904 70 = Xi S 904 70 := (show Xi U16 904 70 = Xi S 904 70 from by rw [eU16]; exact Xi_ne (by omega))
        have w678 : Xi U16 904 71 = Xi S 904 71 := (show Xi U16 904 71 = Xi S 904 71 from by rw [eU16]; exact Xi_ne (by omega))
        have w680 : Xi U16 904 72 = Xi S 904 72 := (show Xi U16 904 72 = Xi S 904 72 from by rw [eU16]; exact Xi_ne (by omega))
        have w682 : 0 ≤ Xi U16 904 73 ∧ Xi U16 904 73 ≤ 5 := hHU16.c _ _
        have w683 : Xi U16 904 74 = Xi S 904 74 := (show Xi U16 904 74 = Xi S 904 74 from by rw [eU16]; exact Xi_ne (by omega))
        have w684 : 0 ≤ Xi S 904 74 ∧ Xi S 904 74 ≤ 2600 := hH.c _ _
        have w685 : Xi U16 904 75 = Xi S 904 75 := (show Xi U16 904 75 = Xi S 904 75 from by rw [eU16]; exact Xi_ne (by omega))
        have w687 : Xi U16 904 78 = Xi S 904 78 := (show Xi U16 904 78 = Xi S 904 78 from by rw [eU16]; exact Xi_ne (by omega))
        refine l_callV rfl rfl rfl (t_mo_doDescribed hHU16 n (by first | assumption | exact (TK_FR hFU16 rfl (by assumption : TK S _))) (by first | assumption | exact (RNV_FR hFU16 rfl (by assumption : RNV S _))) (by first | assumption | exact (LXM_FR (FR_e eU16) rfl (by assumption : LXM S))) (by first | assumption | exact (TXM_FR (FR_e eU16) rfl (by assumption : TXM S))) (by first | assumption | exact (WYM_FR (FR_e eU16) rfl (by assumption : WYM S))) (by first | assumption | exact (LCN_FR (FR_e eU16) rfl (by assumption : LCN S))) (by first | assumption | exact (ABV_FR hFU16 rfl (by assumption : ABV S))) (by first | assumption | omega) (ona_fw (FR_e eU16) rfl (k3 (by omega)).1) (by first | assumption | omega) (by first | assumption | omega) (fun _ => ⟨by have t := (k3 (by omega)).2.1; rw [eU16, Xi_ne (by omega), Xi_ne (by omega)]; exact t, fun i hi => (by have t := (k3 (by omega)).2.2 i (by rw [eU16, Xi_ne (by omega)] at hi; exact hi); unfold ADM at *; rw [eU16, Xi_ne (by omega), Xi_ne (by omega), Xi_ne (by omega)]; exact t)⟩) (fun q => absurd q (by rw [eU16, Xi_same (by unfold rg; omega)]; omega)) _) ?_
        rintro _ T17 ⟨hHT17, w696, rfl, w689, w690, w691, w692, w693, w694⟩
        have hFT17 : FR md_mo_doFifteen S T17 := FR.tr hFU16 w696 rfl
        show Rl _ _ _ _ _ [] _ _
        refine l_goto rfl rfl ?_
        refine l_return rfl rfl ?_
        have w697 : 0 ≤ Xi T17 904 106 ∧ Xi T17 904 106 ≤ 9 := hHT17.c _ _
        have w698 : Xi T17 904 113 = Xi S 904 113 := (show Xi T17 904 113 = Xi U16 904 113 from w696.x _ _ rfl).trans ((show Xi U16 904 113 = Xi S 904 113 from by rw [eU16]; exact Xi_ne (by omega)))
        have w700 : 0 ≤ Xi T17 904 15 ∧ Xi T17 904 15 ≤ 300 := hHT17.c _ _
        have w701 : 0 ≤ Xi T17 904 19 ∧ Xi T17 904 19 ≤ 24 := hHT17.c _ _
        have w702 : Xi T17 904 23 = Xi S 904 23 := (show Xi T17 904 23 = Xi U16 904 23 from w696.x _ _ rfl).trans ((show Xi U16 904 23 = Xi S 904 23 from by rw [eU16]; exact Xi_ne (by omega)))
        have w704 : Xi T17 904 30 = Xi S 904 30 := (show Xi T17 904 30 = Xi U16 904 30 from w696.x _ _ rfl).trans ((show Xi U16 904 30 = Xi S 904 30 from by rw [eU16]; exact Xi_ne (by omega)))
        have w706 : Xi T17 904 32 = Xi S 904 32 := (show Xi T17 904 32 = Xi U16 904 32 from w696.x _ _ rfl).trans ((show Xi U16 904 32 = Xi S 904 32 from by rw [eU16]; exact Xi_ne (by omega)))
        have w708 : -1 ≤ Xi T17 904 60 ∧ Xi T17 904 60 ≤ 23 := hHT17.c _ _
        have w709 : Xi T17 904 69 = Xi S 904 69 := (show Xi T17 904 69 = Xi U16 904 69 from w696.x _ _ rfl).trans ((show Xi U16 904 69 = Xi S 904 69 from by rw [eU16]; exact Xi_ne (by omega)))
        have w711 : Xi T17 904 71 = Xi S 904 71 := (show Xi T17 904 71 = Xi U16 904 71 from w696.x _ _ rfl).trans ((show Xi U16 904 71 = Xi S 904 71 from by rw [eU16]; exact Xi_ne (by omega)))
        have w713 : Xi T17 904 72 = Xi S 904 72 := (show Xi T17 904 72 = Xi U16 904 72 from w696.x _ _ rfl).trans ((show Xi U16 904 72 = Xi S 904 72 from by rw [eU16]; exact Xi_ne (by omega)))
        have w715 : Xi T17 904 75 = Xi S 904 75 := (show Xi T17 904 75 = Xi U16 904 75 from w696.x _ _ rfl).trans ((show Xi U16 904 75 = Xi S 904 75 from by rw [eU16]; exact Xi_ne (by omega)))
        have w717 : Xi T17 904 78 = Xi S 904 78 := (show Xi T17 904 78 = Xi U16 904 78 from w696.x _ _ rfl).trans ((show Xi U16 904 78 = Xi S 904 78 from by rw [eU16]; exact Xi_ne (by omega)))
        exact ⟨hHT17, hFT17, rfl, (by first | assumption | exact (by assumption : TXM T17)), (by first | assumption | exact (by assumption : WYM T17)), (by first | assumption | exact (by assumption : LXM T17)), (by first | assumption | exact (by assumption : LCN T17)), (by first | assumption | exact (GR.tr (GR_FR (FR_e eU16) rfl GR.rf) (by assumption : GR T17 U16))), (by first | assumption | exact (VTM_FR w696 rfl (VTM_FR (FR_e eU16) rfl (by assumption : VTM S)))), (by first | assumption | exact (VCN_FR w696 rfl (VCN_FR (FR_e eU16) rfl (by assumption : VCN S))) | exact (fun t ht => by rw [C120 t]; by_cases q : t = v2; (rw [if_pos q, q]; have u := (k2 (by omega)).2.1; rw [show r2R S (Xi S 904 71) 2 3 = v2 by omega] at u; omega); (rw [if_neg q]; have u := hVC t ht; omega))), (by omega)⟩
    · refine l_aload_n rfl rfl ?_
      refine l_aload_n rfl rfl ?_
      refine l_gfi rfl rfl rfl rfl rfl ?_
      have w719 : 0 ≤ Xi S 904 106 ∧ Xi S 904 106 ≤ 9 := hH.c _ _
      have w721 : 0 ≤ Xi S 904 15 ∧ Xi S 904 15 ≤ 300 := hH.c _ _
      have w722 : 0 ≤ Xi S 904 18 ∧ Xi S 904 18 ≤ 8 := hH.c _ _
      refine l_callV rfl rfl rfl (t_mo_typeOrPlural__3 hH n (Xi S 904 71) ⟨by omega, by omega⟩ (by first | assumption | exact (TK_FR hF rfl (by assumption : TK S _))) (by first | assumption | exact (RNV_FR hF rfl (by assumption : RNV S _))) (by first | assumption | omega) (by first | assumption | exact (by assumption : LXM S)) _) ?_
      rintro _ _ ⟨rfl, z735, rfl, w735, w733, w734⟩
      show Rl _ _ _ _ _ [iv z735] _ _
      have r111 : z735 = r2R S (Xi S 904 71) 2 3 := by assumption
      have v111 := vcn_le (ty := z735) hH hV hVC (by have t := hk2 (by omega); omega) (by omega)
      have s111 : Xi S 904 30 + (Xi S 904 69 - Xi S 904 78) ≤ 48 := by have t := (k2 (by omega)).2.1; rw [← r111] at t; omega
      refine l_istore_n rfl rfl rfl ?_
      refine l_aload_n rfl rfl ?_
      refine l_gfi rfl rfl rfl rfl rfl ?_
      refine l_istore_n rfl rfl rfl ?_
      exact Rl_weak (C120 _ S hH hF (z735) ((Xi S 904 78)) (by omega) (by omega) (by omega) (by omega) (by omega) (by omega) (by omega) (by omega) (by omega) (by omega) (by omega) (by omega) (by omega) (by omega) (by first | assumption | exact (by assumption : TXM S)) (by first | assumption | exact (by assumption : WYM S)) (by first | assumption | exact (by assumption : LXM S)) (by first | assumption | exact (by assumption : LCN S)) (by first | assumption | exact GR.rf) (by first | assumption | exact (by assumption : VTM S)) (by first | exact C156 | exact fun t => by rw [show Xi S 904 78 - Xi S 904 78 = 0 by omega]; split <;> exact (Int.add_zero _).symm) rfl) (And.intro rfl (And.intro rfl (And.intro rfl (True.intro))))
  · refine l_aload_n rfl rfl ?_
    refine l_aload_n rfl rfl ?_
    refine l_gfi rfl rfl rfl rfl rfl ?_
    refine l_iconst rfl ?_
    refine l_callV rfl rfl rfl (t_mo_meansRun__2 hH n (Xi S 904 71) 0 ⟨by omega, by omega⟩ ⟨by omega, by omega⟩ (by first | assumption | exact (TK_FR hF rfl (by assumption : TK S _))) (by first | assumption | exact (RNV_FR hF rfl (by assumption : RNV S _))) (by first | assumption | omega) (by first | assumption | exact (by assumption : LXM S)) _) ?_
    rintro _ _ ⟨rfl, z764, rfl, w764, w762, w763⟩
    show Rl _ _ _ _ _ [iv z764] _ _
    have x24 : z764 ≠ -1 → z764 < Xi S 904 16 := fun q => by have t := (by assumption : z764 ≠ -1 → z764 < cM S 0) q; rw [cM0] at t; exact t
    have r24 : z764 = rnR S (Xi S 904 71) 0 := by assumption
    refine l_istore_n rfl rfl rfl ?_
    refine l_aload_n rfl rfl ?_
    refine l_gfr rfl rfl rfl rfl rfl (hH.r 904 111 967 rfl) ?_
    refine l_iconst rfl ?_
    refine l_iaload (n := 6) rfl rfl (by omega) (by omega) (by unfold rg; omega) ?_
    have w765 : -1 ≤ (Xi S 967 ((0 : Int).toNat)) ∧ (Xi S 967 ((0 : Int).toNat)) ≤ 6411 := hH.c _ _
    have w766 : (Xi S 967 ((0 : Int).toNat)) = Xi S 967 0 := rfl
    have e33 : (Xi S 967 ((0 : Int).toNat)) = Xi S 967 0 := by first | rfl | exact (hF.cx 967 rfl _).1
    refine l_istore_n rfl rfl rfl ?_
    refine l_iload_n rfl rfl ?_
    refine l_bipush rfl rfl ?_
    refine l_icmp_ge rfl rfl (by unfold rg; omega) (by unfold rg; omega) (fun w767 => ?_) (fun w768 => ?_)
    · refine l_aload_n rfl rfl ?_
      refine l_iload_n rfl rfl ?_
      refine l_iload_n rfl rfl ?_
      refine l_bipush rfl rfl ?_
      refine l_iremP rfl (by omega) (by omega) (by unfold rg; omega) (by unfold rg; omega) ?_
      refine l_iload_n rfl rfl ?_
      refine l_bipush rfl rfl ?_
      refine l_idivP rfl (by omega) (by omega) (by unfold rg; omega) (by unfold rg; omega) ?_
      refine l_iconst rfl ?_
      refine l_isub rfl ?_
      refine l_iconst rfl ?_
      refine l_callV rfl rfl rfl (t_mo_tellKind hH z764 ((Xi S 967 ((0 : Int).toNat)) % 100) (((Xi S 967 ((0 : Int).toNat)) / 100) - 1) 0 ⟨by omega, by omega⟩ ⟨by omega, by omega⟩ ⟨by omega, by omega⟩ ⟨by omega, by omega⟩ (by first | assumption | exact (by assumption : TXM S)) (by first | assumption | omega) (by first | assumption | omega) (fun _ => Or.inl rfl) _) ?_
      rintro _ T18 ⟨hHT18, w787, z786, rfl, w786, w785⟩
      have hFT18 : FR md_mo_doFifteen S T18 := FR.tr hF w787 rfl
      show Rl _ _ _ _ _ [iv z786] _ _
      refine l_istore rfl rfl rfl ?_
      refine l_iload rfl rfl ?_
      refine l_if_ne rfl rfl (by unfold rg; omega) (fun w788 => ?_) (fun w789 => ?_)
      · refine l_goto rfl rfl ?_
        refine l_return rfl rfl ?_
        have w790 : Xi T18 904 106 = Xi S 904 106 := (show Xi T18 904 106 = Xi S 904 106 from w787.x _ _ rfl)
        have w791 : 0 ≤ Xi S 904 106 ∧ Xi S 904 106 ≤ 9 := hH.c _ _
        have w792 : Xi T18 904 113 = Xi S 904 113 := (show Xi T18 904 113 = Xi S 904 113 from w787.x _ _ rfl)
        have w794 : Xi T18 904 15 = Xi S 904 15 := (show Xi T18 904 15 = Xi S 904 15 from w787.x _ _ rfl)
        have w795 : 0 ≤ Xi S 904 15 ∧ Xi S 904 15 ≤ 300 := hH.c _ _
        have w796 : Xi T18 904 19 = Xi S 904 19 := (show Xi T18 904 19 = Xi S 904 19 from w787.x _ _ rfl)
        have w798 : Xi T18 904 23 = Xi S 904 23 := (show Xi T18 904 23 = Xi S 904 23 from w787.x _ _ rfl)
        have w800 : Xi T18 904 30 = Xi S 904 30 := (show Xi T18 904 30 = Xi S 904 30 from w787.x _ _ rfl)
        have w802 : Xi T18 904 32 = Xi S 904 32 := (show Xi T18 904 32 = Xi S 904 32 from w787.x _ _ rfl)
        have w804 : Xi T18 904 60 = Xi S 904 60 := (show Xi T18 904 60 = Xi S 904 60 from w787.x _ _ rfl)
        have w806 : Xi T18 904 69 = Xi S 904 69 := (show Xi T18 904 69 = Xi S 904 69 from w787.x _ _ rfl)
        have w808 : Xi T18 904 71 = Xi S 904 71 := (show Xi T18 904 71 = Xi S 904 71 from w787.x _ _ rfl)
        have w810 : Xi T18 904 72 = Xi S 904 72 := (show Xi T18 904 72 = Xi S 904 72 from w787.x _ _ rfl)
        have w812 : Xi T18 904 75 = Xi S 904 75 := (show Xi T18 904 75 = Xi S 904 75 from w787.x _ _ rfl)
        have w814 : Xi T18 904 78 = Xi S 904 78 := (show Xi T18 904 78 = Xi S 904 78 from w787.x _ _ rfl)
        exact ⟨hHT18, hFT18, rfl, (by first | assumption | exact (by assumption : TXM T18)), (by first | assumption | exact (WYM_FR w787 rfl (by assumption : WYM S))), (by first | assumption | exact (LXM_FR w787 rfl (by assumption : LXM S))), (by first | assumption | exact (LCN_FR w787 rfl (by assumption : LCN S))), (by first | assumption | exact (GR_FR w787 rfl GR.rf)), (by first | assumption | exact (VTM_FR w787 rfl (by assumption : VTM S))), (by first | assumption | exact (VCN_FR w787 rfl (by assumption : VCN S)) | exact (fun t ht => by rw [C120 t]; by_cases q : t = v2; (rw [if_pos q, q]; have u := (k2 (by omega)).2.1; rw [show r2R S (Xi S 904 71) 2 3 = v2 by omega] at u; omega); (rw [if_neg q]; have u := hVC t ht; omega))), (by omega)⟩
      · refine l_aload_n rfl rfl ?_
        refine l_iconst rfl ?_
        refine l_aload_n rfl rfl ?_
        refine l_gfr rfl rfl rfl rfl rfl (hHT18.r 904 67 950 rfl) ?_
        refine l_aload_n rfl rfl ?_
        refine l_gfi rfl rfl rfl rfl rfl ?_
        have w816 : (Xi T18 904 71) = (Xi S 904 71) := (show Xi T18 904 71 = Xi S 904 71 from w787.x _ _ rfl)
        rw [w816]
        refine l_iaload (n := 2600) rfl rfl (by omega) (by omega) (by unfold rg; omega) ?_
        have w817 : 0 ≤ (Xi T18 950 (((Xi S 904 71)).toNat)) ∧ (Xi T18 950 (((Xi S 904 71)).toNat)) ≤ 5010 := hHT18.c _ _
        have e91 : (Xi T18 950 (((Xi S 904 71)).toNat)) = Xi S 950 (Xi S 904 71).toNat := by first | rfl | exact (hFT18.cx 950 rfl _).1 | (rw [(hFT18.cx 950 rfl _).1]; exact congrArg (fun t : Int => Xi S 950 t.toNat) (by omega))
        have f91 := hrf (Xi S 904 71) (by omega) (by omega)
        have w818 : Xi T18 904 106 = Xi S 904 106 := (show Xi T18 904 106 = Xi S 904 106 from w787.x _ _ rfl)
        have w819 : 0 ≤ Xi S 904 106 ∧ Xi S 904 106 ≤ 9 := hH.c _ _
        have w836 : Xi T18 904 71 = Xi S 904 71 := (show Xi T18 904 71 = Xi S 904 71 from w787.x _ _ rfl)
        refine l_callV rfl rfl rfl (t_mo_wrong hHT18 5 (Xi T18 950 (((Xi S 904 71)).toNat)) ⟨by omega, by omega⟩ ⟨by omega, by omega⟩ _) ?_
        rintro _ T19 ⟨hHT19, w846, rfl, w844⟩
        have hFT19 : FR md_mo_doFifteen S T19 := FR.tr hFT18 w846 rfl
        show Rl _ _ _ _ _ [] _ _
        refine l_goto rfl rfl ?_
        refine l_return rfl rfl ?_
        have w847 : 0 ≤ Xi T19 904 106 ∧ Xi T19 904 106 ≤ 9 := hHT19.c _ _
        have w848 : Xi T19 904 113 = Xi S 904 113 := (show Xi T19 904 113 = Xi T18 904 113 from w846.x _ _ rfl).trans ((show Xi T18 904 113 = Xi S 904 113 from w787.x _ _ rfl))
        have w850 : Xi T19 904 15 = Xi S 904 15 := (show Xi T19 904 15 = Xi T18 904 15 from w846.x _ _ rfl).trans ((show Xi T18 904 15 = Xi S 904 15 from w787.x _ _ rfl))
        have w851 : 0 ≤ Xi S 904 15 ∧ Xi S 904 15 ≤ 300 := hH.c _ _
        have w852 : Xi T19 904 19 = Xi S 904 19 := (show Xi T19 904 19 = Xi T18 904 19 from w846.x _ _ rfl).trans ((show Xi T18 904 19 = Xi S 904 19 from w787.x _ _ rfl))
        have w854 : Xi T19 904 23 = Xi S 904 23 := (show Xi T19 904 23 = Xi T18 904 23 from w846.x _ _ rfl).trans ((show Xi T18 904 23 = Xi S 904 23 from w787.x _ _ rfl))
        have w856 : Xi T19 904 30 = Xi S 904 30 := (show Xi T19 904 30 = Xi T18 904 30 from w846.x _ _ rfl).trans ((show Xi T18 904 30 = Xi S 904 30 from w787.x _ _ rfl))
        have w858 : Xi T19 904 32 = Xi S 904 32 := (show Xi T19 904 32 = Xi T18 904 32 from w846.x _ _ rfl).trans ((show Xi T18 904 32 = Xi S 904 32 from w787.x _ _ rfl))
        have w860 : Xi T19 904 60 = Xi S 904 60 := (show Xi T19 904 60 = Xi T18 904 60 from w846.x _ _ rfl).trans ((show Xi T18 904 60 = Xi S 904 60 from w787.x _ _ rfl))
        have w862 : Xi T19 904 69 = Xi S 904 69 := (show Xi T19 904 69 = Xi T18 904 69 from w846.x _ _ rfl).trans ((show Xi T18 904 69 = Xi S 904 69 from w787.x _ _ rfl))
        have w864 : Xi T19 904 71 = Xi S 904 71 := (show Xi T19 904 71 = Xi T18 904 71 from w846.x _ _ rfl).trans ((show Xi T18 904 71 = Xi S 904 71 from w787.x _ _ rfl))
        have w866 : Xi T19 904 72 = Xi S 904 72 := (show Xi T19 904 72 = Xi T18 904 72 from w846.x _ _ rfl).trans ((show Xi T18 904 72 = Xi S 904 72 from w787.x _ _ rfl))
        have w868 : Xi T19 904 75 = Xi S 904 75 := (show Xi T19 904 75 = Xi T18 904 75 from w846.x _ _ rfl).trans ((show Xi T18 904 75 = Xi S 904 75 from w787.x _ _ rfl))
        have w870 : Xi T19 904 78 = Xi S 904 78 := (show Xi T19 904 78 = Xi T18 904 78 from w846.x _ _ rfl).trans ((show Xi T18 904 78 = Xi S 904 78 from w787.x _ _ rfl))
        exact ⟨hHT19, hFT19, rfl, (by first | assumption | exact (TXM_FR w846 rfl (by assumption : TXM T18))), (by first | assumption | exact (WYM_FR w846 rfl (WYM_FR w787 rfl (by assumption : WYM S)))), (by first | assumption | exact (LXM_FR w846 rfl (LXM_FR w787 rfl (by assumption : LXM S)))), (by first | assumption | exact (LCN_FR w846 rfl (LCN_FR w787 rfl (by assumption : LCN S)))), (by first | assumption | exact (GR_FR w846 rfl (GR_FR w787 rfl GR.rf))), (by first | assumption | exact (VTM_FR w846 rfl (VTM_FR w787 rfl (by assumption : VTM S)))), (by first | assumption | exact (VCN_FR w846 rfl (VCN_FR w787 rfl (by assumption : VCN S))) | exact (fun t ht => by rw [C120 t]; by_cases q : t = v2; (rw [if_pos q, q]; have u := (k2 (by omega)).2.1; rw [show r2R S (Xi S 904 71) 2 3 = v2 by omega] at u; omega); (rw [if_neg q]; have u := hVC t ht; omega))), (by omega)⟩
    · refine l_aload_n rfl rfl ?_
      refine l_aload_n rfl rfl ?_
      refine l_gfr rfl rfl rfl rfl rfl (hH.r 904 29 926 rfl) ?_
      refine l_bipush rfl rfl ?_
      refine l_iload_n rfl rfl ?_
      refine l_imul rfl ?_
      refine l_iload_n rfl rfl ?_
      refine l_iconst rfl ?_
      refine l_callV rfl rfl rfl (t_mo_tellIs__2 hH (24 * z764) (Xi S 967 ((0 : Int).toNat)) 1 ⟨by omega, by omega⟩ ⟨by omega, by omega⟩ ⟨by omega, by omega⟩ (by first | assumption | omega) _) ?_
      rintro _ T20 ⟨hHT20, w886, z885, rfl, w885⟩
      have hFT20 : FR md_mo_doFifteen S T20 := FR.tr hF w886 rfl
      show Rl _ _ _ _ _ [iv z885] _ _
      refine l_goto rfl rfl ?_
      refine l_istore rfl rfl rfl ?_
      refine l_iload rfl rfl ?_
      refine l_if_ne rfl rfl (by unfold rg; omega) (fun w887 => ?_) (fun w888 => ?_)
      · refine l_goto rfl rfl ?_
        refine l_return rfl rfl ?_
        have w889 : Xi T20 904 106 = Xi S 904 106 := (show Xi T20 904 106 = Xi S 904 106 from w886.x _ _ rfl)
        have w890 : 0 ≤ Xi S 904 106 ∧ Xi S 904 106 ≤ 9 := hH.c _ _
        have w891 : Xi T20 904 113 = Xi S 904 113 := (show Xi T20 904 113 = Xi S 904 113 from w886.x _ _ rfl)
        have w893 : Xi T20 904 15 = Xi S 904 15 := (show Xi T20 904 15 = Xi S 904 15 from w886.x _ _ rfl)
        have w894 : 0 ≤ Xi S 904 15 ∧ Xi S 904 15 ≤ 300 := hH.c _ _
        have w895 : Xi T20 904 19 = Xi S 904 19 := (show Xi T20 904 19 = Xi S 904 19 from w886.x _ _ rfl)
        have w897 : Xi T20 904 23 = Xi S 904 23 := (show Xi T20 904 23 = Xi S 904 23 from w886.x _ _ rfl)
        have w899 : Xi T20 904 30 = Xi S 904 30 := (show Xi T20 904 30 = Xi S 904 30 from w886.x _ _ rfl)
        have w901 : Xi T20 904 32 = Xi S 904 32 := (show Xi T20 904 32 = Xi S 904 32 from w886.x _ _ rfl)
        have w903 : Xi T20 904 60 = Xi S 904 60 := (show Xi T20 904 60 = Xi S 904 60 from w886.x _ _ rfl)
        have w905 : Xi T20 904 69 = Xi S 904 69 := (show Xi T20 904 69 = Xi S 904 69 from w886.x _ _ rfl)
        have w907 : Xi T20 904 71 = Xi S 904 71 := (show Xi T20 904 71 = Xi S 904 71 from w886.x _ _ rfl)
        have w909 : Xi T20 904 72 = Xi S 904 72 := (show Xi T20 904 72 = Xi S 904 72 from w886.x _ _ rfl)
        have w911 : Xi T20 904 75 = Xi S 904 75 := (show Xi T20 904 75 = Xi S 904 75 from w886.x _ _ rfl)
        have w913 : Xi T20 904 78 = Xi S 904 78 := (show Xi T20 904 78 = Xi S 904 78 from w886.x _ _ rfl)
        exact ⟨hHT20, hFT20, rfl, (by first | assumption | exact (TXM_FR w886 rfl (by assumption : TXM S))), (by first | assumption | exact (WYM_FR w886 rfl (by assumption : WYM S))), (by first | assumption | exact (LXM_FR w886 rfl (by assumption : LXM S))), (by first | assumption | exact (LCN_FR w886 rfl (by assumption : LCN S))), (by first | assumption | exact (GR_FR w886 rfl GR.rf)), (by first | assumption | exact (VTM_FR w886 rfl (by assumption : VTM S))), (by first | assumption | exact (VCN_FR w886 rfl (by assumption : VCN S)) | exact (fun t ht => by rw [C120 t]; by_cases q : t = v2; (rw [if_pos q, q]; have u := (k2 (by omega)).2.1; rw [show r2R S (Xi S 904 71) 2 3 = v2 by omega] at u; omega); (rw [if_neg q]; have u := hVC t ht; omega))), (by omega)⟩
      · refine l_aload_n rfl rfl ?_
        refine l_iconst rfl ?_
        refine l_aload_n rfl rfl ?_
        refine l_gfr rfl rfl rfl rfl rfl (hHT20.r 904 67 950 rfl) ?_
        refine l_aload_n rfl rfl ?_
        refine l_gfi rfl rfl rfl rfl rfl ?_
        have w915 : (Xi T20 904 71) = (Xi S 904 71) := (show Xi T20 904 71 = Xi S 904 71 from w886.x _ _ rfl)
        rw [w915]
        refine l_iaload (n := 2600) rfl rfl (by omega) (by omega) (by unfold rg; omega) ?_
        have w916 : 0 ≤ (Xi T20 950 (((Xi S 904 71)).toNat)) ∧ (Xi T20 950 (((Xi S 904 71)).toNat)) ≤ 5010 := hHT20.c _ _
        have e91 : (Xi T20 950 (((Xi S 904 71)).toNat)) = Xi S 950 (Xi S 904 71).toNat := by first | rfl | exact (hFT20.cx 950 rfl _).1 | (rw [(hFT20.cx 950 rfl _).1]; exact congrArg (fun t : Int => Xi S 950 t.toNat) (by omega))
        have f91 := hrf (Xi S 904 71) (by omega) (by omega)
        have w917 : Xi T20 904 106 = Xi S 904 106 := (show Xi T20 904 106 = Xi S 904 106 from w886.x _ _ rfl)
        have w918 : 0 ≤ Xi S 904 106 ∧ Xi S 904 106 ≤ 9 := hH.c _ _
        have w935 : Xi T20 904 71 = Xi S 904 71 := (show Xi T20 904 71 = Xi S 904 71 from w886.x _ _ rfl)
        refine l_callV rfl rfl rfl (t_mo_wrong hHT20 5 (Xi T20 950 (((Xi S 904 71)).toNat)) ⟨by omega, by omega⟩ ⟨by omega, by omega⟩ _) ?_
        rintro _ T21 ⟨hHT21, w945, rfl, w943⟩
        have hFT21 : FR md_mo_doFifteen S T21 := FR.tr hFT20 w945 rfl
        show Rl _ _ _ _ _ [] _ _
        refine l_goto rfl rfl ?_
        refine l_return rfl rfl ?_
        have w946 : 0 ≤ Xi T21 904 106 ∧ Xi T21 904 106 ≤ 9 := hHT21.c _ _
        have w947 : Xi T21 904 113 = Xi S 904 113 := (show Xi T21 904 113 = Xi T20 904 113 from w945.x _ _ rfl).trans ((show Xi T20 904 113 = Xi S 904 113 from w886.x _ _ rfl))
        have w949 : Xi T21 904 15 = Xi S 904 15 := (show Xi T21 904 15 = Xi T20 904 15 from w945.x _ _ rfl).trans ((show Xi T20 904 15 = Xi S 904 15 from w886.x _ _ rfl))
        have w950 : 0 ≤ Xi S 904 15 ∧ Xi S 904 15 ≤ 300 := hH.c _ _
        have w951 : Xi T21 904 19 = Xi S 904 19 := (show Xi T21 904 19 = Xi T20 904 19 from w945.x _ _ rfl).trans ((show Xi T20 904 19 = Xi S 904 19 from w886.x _ _ rfl))
        have w953 : Xi T21 904 23 = Xi S 904 23 := (show Xi T21 904 23 = Xi T20 904 23 from w945.x _ _ rfl).trans ((show Xi T20 904 23 = Xi S 904 23 from w886.x _ _ rfl))
        have w955 : Xi T21 904 30 = Xi S 904 30 := (show Xi T21 904 30 = Xi T20 904 30 from w945.x _ _ rfl).trans ((show Xi T20 904 30 = Xi S 904 30 from w886.x _ _ rfl))
        have w957 : Xi T21 904 32 = Xi S 904 32 := (show Xi T21 904 32 = Xi T20 904 32 from w945.x _ _ rfl).trans ((show Xi T20 904 32 = Xi S 904 32 from w886.x _ _ rfl))
        have w959 : Xi T21 904 60 = Xi S 904 60 := (show Xi T21 904 60 = Xi T20 904 60 from w945.x _ _ rfl).trans ((show Xi T20 904 60 = Xi S 904 60 from w886.x _ _ rfl))
        have w961 : Xi T21 904 69 = Xi S 904 69 := (show Xi T21 904 69 = Xi T20 904 69 from w945.x _ _ rfl).trans ((show Xi T20 904 69 = Xi S 904 69 from w886.x _ _ rfl))
        have w963 : Xi T21 904 71 = Xi S 904 71 := (show Xi T21 904 71 = Xi T20 904 71 from w945.x _ _ rfl).trans ((show Xi T20 904 71 = Xi S 904 71 from w886.x _ _ rfl))
        have w965 : Xi T21 904 72 = Xi S 904 72 := (show Xi T21 904 72 = Xi T20 904 72 from w945.x _ _ rfl).trans ((show Xi T20 904 72 = Xi S 904 72 from w886.x _ _ rfl))
        have w967 : Xi T21 904 75 = Xi S 904 75 := (show Xi T21 904 75 = Xi T20 904 75 from w945.x _ _ rfl).trans ((show Xi T20 904 75 = Xi S 904 75 from w886.x _ _ rfl))
        have w969 : Xi T21 904 78 = Xi S 904 78 := (show Xi T21 904 78 = Xi T20 904 78 from w945.x _ _ rfl).trans ((show Xi T20 904 78 = Xi S 904 78 from w886.x _ _ rfl))
        exact ⟨hHT21, hFT21, rfl, (by first | assumption | exact (TXM_FR w945 rfl (TXM_FR w886 rfl (by assumption : TXM S)))), (by first | assumption | exact (WYM_FR w945 rfl (WYM_FR w886 rfl (by assumption : WYM S)))), (by first | assumption | exact (LXM_FR w945 rfl (LXM_FR w886 rfl (by assumption : LXM S)))), (by first | assumption | exact (LCN_FR w945 rfl (LCN_FR w886 rfl (by assumption : LCN S)))), (by first | assumption | exact (GR_FR w945 rfl (GR_FR w886 rfl GR.rf))), (by first | assumption | exact (VTM_FR w945 rfl (VTM_FR w886 rfl (by assumption : VTM S)))), (by first | assumption | exact (VCN_FR w945 rfl (VCN_FR w886 rfl (by assumption : VCN S))) | exact (fun t ht => by rw [C120 t]; by_cases q : t = v2; (rw [if_pos q, q]; have u := (k2 (by omega)).2.1; rw [show r2R S (Xi S 904 71) 2 3 = v2 by omega] at u; omega); (rw [if_neg q]; have u := hVC t ht; omega))), (by omega)⟩
