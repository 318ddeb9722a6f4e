/-! SAFETY of methods: printed by wip/safe (vc.py, decl.py) -/
/-! SAFETY of the reference: whom a rule is about -/
def RA (S : sS) (r : Nat) : Prop := (Xi S 981 r ≠ -1 → nM S r) ∧ ∀ k : Nat, (k : Int) < Xi S 982 r → nM S r ∧ ADM S (Xi S 983 (6 * r + k))
theorem rz_0 {S : sS} {r : Nat} (h1 : Xi S 981 r = -1) (h2 : Xi S 982 r = 0) : RA S r := ⟨fun q => absurd h1 q, fun k hk => by omega⟩
theorem rz_1 {S : sS} {r : Nat} (h : nM S r) (h2 : ∀ k : Nat, (k : Int) < Xi S 982 r → ADM S (Xi S 983 (6 * r + k))) : RA S r := ⟨fun _ => h, fun k hk => ⟨h, h2 k hk⟩⟩
theorem nm_i {S T : sS} {r : Nat} {a : Int} (h : Xi T 979 r = a) (h0 : 0 ≤ a) (h1 : 0 ≤ Xi S 942 a.toNat) (e : ∀ j, Xi T 942 j = Xi S 942 j) : nM T r := by
  unfold nM
  rw [h, e]
  exact ⟨h0, h1⟩
/-- the other rules stay -/
def KRL (T S : sS) (l : Int) : Prop := ∀ r : Nat, (r : Int) ≠ l → Xi T 979 r = Xi S 979 r ∧ Xi T 980 r = Xi S 980 r ∧ Xi T 981 r = Xi S 981 r ∧ Xi T 982 r = Xi S 982 r ∧ ∀ k : Nat, k < 6 → Xi T 983 (6 * r + k) = Xi S 983 (6 * r + k)
theorem KRL.rf {S : sS} {l : Int} : KRL S S l := fun _ _ => ⟨rfl, rfl, rfl, rfl, fun _ _ => rfl⟩
theorem KRL.w {T U S : sS} {l : Int} {k j : Nat} {v : Int32} (h : KRL T S l) (e : U = uI T k j v) (hj : (k < 979 ∨ 983 < k) ∨ (k ≠ 983 ∧ (j : Int) = l)) : KRL U S l := fun r hr => by
  obtain ⟨a, b, c, d, f⟩ := h r hr
  refine ⟨?_, ?_, ?_, ?_, fun i hi => ?_⟩
  · rw [e, Xi_ne (by omega)]; exact a
  · rw [e, Xi_ne (by omega)]; exact b
  · rw [e, Xi_ne (by omega)]; exact c
  · rw [e, Xi_ne (by omega)]; exact d
  · rw [e, Xi_ne (by omega)]; exact f i hi
theorem KRL_FR {m : List rec} {T U S : sS} {l : Int} (f : FR m T U) (e : kdis m [(979, 984)] = true) (h : KRL T S l) : KRL U S l := fun r hr => by
  have q := f.smk e
  obtain ⟨a, b, c, d, g⟩ := h r hr
  refine ⟨?_, ?_, ?_, ?_, fun i hi => ?_⟩
  · rw [q.x 979 rfl]; exact a
  · rw [q.x 980 rfl]; exact b
  · rw [q.x 981 rfl]; exact c
  · rw [q.x 982 rfl]; exact d
  · rw [q.x 983 rfl]; exact g i hi
theorem KRL.cp {T U S : sS} {l x : Int} (h : KRL T S l) (e : U = cpI T 967 983 (0 : Int).toNat x.toNat (6 : Int).toNat) (hx : x = 6 * l) (h0 : 0 ≤ l) : KRL U S l := fun r hr => by
  obtain ⟨a, b, c, d, g⟩ := h r hr
  refine ⟨?_, ?_, ?_, ?_, fun i hi => ?_⟩
  · rw [e, cpI_ne (Or.inl (by decide))]; exact a
  · rw [e, cpI_ne (Or.inl (by decide))]; exact b
  · rw [e, cpI_ne (Or.inl (by decide))]; exact c
  · rw [e, cpI_ne (Or.inl (by decide))]; exact d
  · rw [e, cpI_ne (Or.inr (by omega))]; exact g i hi
theorem adx_s {S T : sS} {f a : Int} (h : ADX T f a) (e1 : Xi T 904 23 = Xi S 904 23) (e2 : Xi T 904 32 = Xi S 904 32) (e3 : ∀ j, Xi T 922 j = Xi S 922 j) : ADX S f a := by
  unfold ADX ADM at *
  rw [e1, e2, e3] at h
  exact h
theorem ra_cp {S P T : sS} {l x : Int} (e : T = cpI P 967 983 (0 : Int).toNat x.toNat (6 : Int).toNat) (hx : x = 6 * l) (h0 : 0 ≤ l) (hc : Xi T 982 l.toNat ≤ 6) (h : ∀ i : Nat, (i : Int) < Xi T 982 l.toNat → ADX S 1 (Xi P 967 i)) (e1 : Xi T 904 23 = Xi S 904 23) (e2 : Xi T 904 32 = Xi S 904 32) : ∀ k : Nat, (k : Int) < Xi T 982 l.toNat → ADM T (Xi T 983 (6 * l.toNat + k)) := fun k hk => by
  have y : Xi T 983 (6 * l.toNat + k) = Xi P 967 k := by
    rw [e]
    have t := cpI_in (S := P) (a := 967) (b := 983) (s := (0 : Int).toNat) (t := x.toNat) (n := (6 : Int).toNat) (j := 6 * l.toNat + k) (by omega)
    rw [show (0 : Int).toNat + (6 * l.toNat + k - x.toNat) = k by omega] at t
    exact t
  have t := (h k hk).1
  unfold ADM at *
  rw [e1, e2, y]
  exact t
def md_mo_actingMeant : List rec := [(904, 905, 64, 65), (904, 905, 104, 105), (904, 905, 105, 106), (904, 905, 106, 107), (904, 905, 109, 110), (904, 905, 110, 111), (904, 905, 112, 113), (904, 905, 113, 114), (904, 905, 116, 117), (904, 905, 128, 129), (904, 905, 129, 130), (967, 968, 0, 100000), (968, 969, 0, 100000), (979, 980, 0, 100000), (980, 981, 0, 100000), (981, 982, 0, 100000), (982, 983, 0, 100000), (983, 984, 0, 100000)]
abbrev Q_mo_actingMeant (S : sS) (n : Nat) (l : Int) : pst := fun r S1 => HI S1 ∧ FR md_mo_actingMeant S S1 ∧ (r = none ∧ (Xi S 904 106 ≠ 0 → Xi S1 904 106 ≠ 0) ∧ (RA S1 l.toNat) ∧ (Xi S1 979 l.toNat < Xi S 904 49) ∧ (Xi S 904 70 = 6 → Xi S1 979 l.toNat = -1) ∧ (0 ≤ Xi S1 904 116 → nM S1 l.toNat) ∧ (KRL S1 S l))
set_option maxRecDepth 100000 in
set_option maxHeartbeats 8000000 in
theorem t_mo_actingMeant {S : sS} (hH : HI S) (n : Nat) (l : Int) (hl : 0 ≤ l ∧ l ≤ 23) (hT : TK S n) (hv : RNV S n) (hM : LXM S) (hB : ABV S) (hC : DCM S) (ha : Xi S 904 70 ≠ 6 → Xi S 904 102 < Xi S 904 69 ∧ Xi S 904 103 < Xi S 904 69) (d : Nat) : Mt lay0 (d + 11) m_mo_actingMeant [.ref 904, iv l] S (Q_mo_actingMeant S n l) := by
  refine Mt_R rfl rfl ?_
  have hF : FR md_mo_actingMeant S S := FR.rf
  have w1 : 0 ≤ Xi S 904 102 ∧ Xi S 904 102 ≤ 2600 := hH.c _ _
  have w2 : -1 ≤ Xi S 904 103 ∧ Xi S 904 103 ≤ 2600 := hH.c _ _
  have w3 : 0 ≤ Xi S 904 106 ∧ Xi S 904 106 ≤ 9 := hH.c _ _
  have w4 : 0 ≤ Xi S 904 110 ∧ Xi S 904 110 ≤ 15 := hH.c _ _
  have w5 : 0 ≤ Xi S 904 112 ∧ Xi S 904 112 ≤ 6 := hH.c _ _
  have w6 : -1 ≤ Xi S 904 116 ∧ Xi S 904 116 ≤ 15 := hH.c _ _
  have w7 : 0 ≤ Xi S 904 128 ∧ Xi S 904 128 ≤ 11 := hH.c _ _
  have w8 : -1 ≤ Xi S 904 129 ∧ Xi S 904 129 ≤ 23 := hH.c _ _
  have w9 : 0 ≤ Xi S 904 16 ∧ Xi S 904 16 ≤ 16 := hH.c _ _
  have w10 : 0 ≤ Xi S 904 19 ∧ Xi S 904 19 ≤ 24 := hH.c _ _
  have w11 : 0 ≤ Xi S 904 49 ∧ Xi S 904 49 ≤ 12 := hH.c _ _
  have w12 : 0 ≤ Xi S 904 69 ∧ Xi S 904 69 ≤ 2600 := hH.c _ _
  have w13 : 0 ≤ Xi S 904 70 ∧ Xi S 904 70 ≤ 20 := hH.c _ _
  have hn5 := hT.1
  have hc69 : 0 ≤ Xi S 904 69 ∧ Xi S 904 69 ≤ 2600 := hH.c _ _
  have hc19 : 0 ≤ Xi S 904 19 ∧ Xi S 904 19 ≤ 24 := hH.c _ _
  have hc49 : 0 ≤ Xi S 904 49 ∧ Xi S 904 49 ≤ 12 := hH.c _ _
  have hc16 : 0 ≤ Xi S 904 16 ∧ Xi S 904 16 ≤ 16 := hH.c _ _
  have hrf : ∀ r : Int, 0 ≤ r → r < Xi S 904 69 → Xi S 950 r.toNat + Xi S 951 r.toNat ≤ n ∧ 1 ≤ Xi S 951 r.toNat := fun r a b => hv r.toNat (by omega)
  have C33 : ∀  (T1 : sS) (_ : HI T1) (_ : FR md_mo_actingMeant S T1), (Xi T1 979 (l).toNat = -1) → (Xi T1 981 (l).toNat = -1) → (Xi T1 982 (l).toNat = 0) → (Xi T1 904 116 = -1) → (Xi T1 904 106 = Xi S 904 106) → (Xi T1 904 70 = Xi S 904 70) → (Xi T1 904 102 = Xi S 904 102) → (Xi T1 904 103 = Xi S 904 103) → (Xi T1 904 69 = Xi S 904 69) → (KRL T1 S l) → Rl lay0 (d + 10) m_mo_actingMeant 33 [(0, .ref 904), (1, iv l)] [] T1 (Q_mo_actingMeant S n l) := by
    intro T1 hHT1 hFT1 w14 w15 w16 w17 w18 w19 w20 w21 w22 K33
    have w23 : Xi T1 904 102 = Xi S 904 102 := hFT1.x _ _ rfl
    have w24 : Xi T1 904 103 = Xi S 904 103 := hFT1.x _ _ rfl
    have w25 : Xi T1 904 16 = Xi S 904 16 := hFT1.x _ _ rfl
    have w26 : Xi T1 904 19 = Xi S 904 19 := hFT1.x _ _ rfl
    have w27 : Xi T1 904 49 = Xi S 904 49 := hFT1.x _ _ rfl
    have w28 : Xi T1 904 69 = Xi S 904 69 := hFT1.x _ _ rfl
    have w29 : Xi T1 904 70 = Xi S 904 70 := hFT1.x _ _ rfl
    have w30 : 0 ≤ Xi T1 904 102 ∧ Xi T1 904 102 ≤ 2600 := hHT1.c _ _
    have w31 : -1 ≤ Xi T1 904 103 ∧ Xi T1 904 103 ≤ 2600 := hHT1.c _ _
    have w32 : 0 ≤ Xi T1 904 106 ∧ Xi T1 904 106 ≤ 9 := hHT1.c _ _
    have w33 : -1 ≤ Xi T1 904 116 ∧ Xi T1 904 116 ≤ 15 := hHT1.c _ _
    have w34 : 0 ≤ Xi T1 904 69 ∧ Xi T1 904 69 ≤ 2600 := hHT1.c _ _
    have w35 : 0 ≤ Xi T1 904 70 ∧ Xi T1 904 70 ≤ 20 := hHT1.c _ _
    have C105 : ∀  (T2 : sS) (_ : HI T2) (_ : FR md_mo_actingMeant S T2) (v3 : Int), (0 ≤ v3 ∧ v3 ≤ 4) → (Xi T2 979 (l).toNat = -1) → (Xi T2 981 (l).toNat = -1) → (Xi T2 982 (l).toNat = 0) → (Xi T2 904 116 = -1) → (Xi S 904 106 ≠ 0 → Xi T2 904 106 ≠ 0) → (Xi S 904 70 ≠ 6) → (KRL T2 S l) → (1 ≤ v3 → (0 ≤ Xi T2 904 128 ∧ Xi T2 904 128 < Xi S 904 49) ∧ Xi T2 904 129 < Xi S 904 19 ∧ (Xi T2 904 129 ≠ -1 → 0 ≤ Xi S 942 (Xi T2 904 128).toNat)) → Rl lay0 (d + 10) m_mo_actingMeant 105 [(0, .ref 904), (1, iv l), (3, iv v3)] [] T2 (Q_mo_actingMeant S n l) := by
      intro T2 hHT2 hFT2 v3 w36 w37 w38 w39 w40 w41 w42 K105 A105
      have w43 : Xi T2 904 102 = Xi S 904 102 := hFT2.x _ _ rfl
      have w44 : Xi T2 904 103 = Xi S 904 103 := hFT2.x _ _ rfl
      have w45 : Xi T2 904 16 = Xi S 904 16 := hFT2.x _ _ rfl
      have w46 : Xi T2 904 19 = Xi S 904 19 := hFT2.x _ _ rfl
      have w47 : Xi T2 904 49 = Xi S 904 49 := hFT2.x _ _ rfl
      have w48 : Xi T2 904 69 = Xi S 904 69 := hFT2.x _ _ rfl
      have w49 : Xi T2 904 70 = Xi S 904 70 := hFT2.x _ _ rfl
      have w50 : 0 ≤ Xi T2 904 106 ∧ Xi T2 904 106 ≤ 9 := hHT2.c _ _
      have w51 : -1 ≤ Xi T2 904 116 ∧ Xi T2 904 116 ≤ 15 := hHT2.c _ _
      have w52 : 0 ≤ Xi T2 904 128 ∧ Xi T2 904 128 ≤ 11 := hHT2.c _ _
      have w53 : -1 ≤ Xi T2 904 129 ∧ Xi T2 904 129 ≤ 23 := hHT2.c _ _
      refine l_iload_n rfl rfl ?_
      refine l_if_le rfl rfl (by unfold rg; omega) (fun w54 => ?_) (fun w55 => ?_)
      · refine l_return rfl rfl ?_
        have w56 : 0 ≤ Xi T2 904 102 ∧ Xi T2 904 102 ≤ 2600 := hHT2.c _ _
        have w57 : -1 ≤ Xi T2 904 103 ∧ Xi T2 904 103 ≤ 2600 := hHT2.c _ _
        have w58 : 0 ≤ Xi T2 904 106 ∧ Xi T2 904 106 ≤ 9 := hHT2.c _ _
        have w59 : -1 ≤ Xi T2 904 116 ∧ Xi T2 904 116 ≤ 15 := hHT2.c _ _
        have w60 : 0 ≤ Xi T2 904 128 ∧ Xi T2 904 128 ≤ 11 := hHT2.c _ _
        have w61 : -1 ≤ Xi T2 904 129 ∧ Xi T2 904 129 ≤ 23 := hHT2.c _ _
        have w62 : 0 ≤ Xi T2 904 69 ∧ Xi T2 904 69 ≤ 2600 := hHT2.c _ _
        have w63 : 0 ≤ Xi T2 904 70 ∧ Xi T2 904 70 ≤ 20 := hHT2.c _ _
        exact ⟨hHT2, hFT2, rfl, (by omega), (by first | exact (fun _ => rz_1 (nm_i (S := S) (a := v3) (by omega) (by omega) (by omega) (fun j => (hFT2.cx 942 rfl j).1)) M457) M457 | exact rz_0 (by omega) (by omega)), (by omega), (by omega), (by first | exact fun x => absurd x (by omega) | exact fun x => nm_i (S := S) (a := v3) (by omega) (by omega) (by omega) (fun j => (hFT2.cx 942 rfl j).1) | exact fun x => (by have t := A105 (by omega); exact nm_i (S := S) (a := Xi T2 904 128) (by omega) t.1.1 (by first | exact t.2.2 (by omega) | exact m160 (by omega)) (fun j => (hFT2.cx 942 rfl j).1))), ((by assumption : KRL T2 S _))⟩
      · refine l_aload_n rfl rfl ?_
        refine l_gfr rfl rfl rfl rfl rfl (hHT2.r 904 132 979 rfl) ?_
        refine l_iload_n rfl rfl ?_
        refine l_aload_n rfl rfl ?_
        refine l_gfi rfl rfl rfl rfl rfl ?_
        refine l_iastore (n := 24) rfl rfl (by omega) (by omega) (by unfold rg; omega) ?_
        obtain ⟨U3, eU3⟩ : ∃ T : sS, T = uI T2 979 ((l).toNat) (Int32.ofInt (Xi T2 904 128)) := ⟨_, rfl⟩
        rw [← eU3]
        have hHU3 : HI U3 := by rw [eU3]; exact HI_w hHT2 (show -1 ≤ (Xi T2 904 128) by omega) (show (Xi T2 904 128) ≤ 11 by omega)
        have hFU3 : FR md_mo_actingMeant S U3 := by rw [eU3]; exact FR.wI hFT2 (mdf_i (r := (979, 980, 0, 100000)) (List.mem_of_getElem? (i := 13) rfl) (inR_i (by omega) (by omega) (by omega) (by omega)))
        have w64 : Xi U3 979 ((l).toNat) = (Xi T2 904 128) := by rw [eU3]; exact Xi_same (by unfold rg; omega)
        refine l_aload_n rfl rfl ?_
        refine l_gfr rfl rfl rfl rfl rfl (hHU3.r 904 133 980 rfl) ?_
        refine l_iload_n rfl rfl ?_
        refine l_aload_n rfl rfl ?_
        refine l_gfi rfl rfl rfl rfl rfl ?_
        have w65 : (Xi U3 904 129) = (Xi T2 904 129) := (show Xi U3 904 129 = Xi T2 904 129 from by rw [eU3]; exact Xi_ne (by omega))
        rw [w65]
        refine l_iastore (n := 24) rfl rfl (by omega) (by omega) (by unfold rg; omega) ?_
        obtain ⟨U4, eU4⟩ : ∃ T : sS, T = uI U3 980 ((l).toNat) (Int32.ofInt (Xi T2 904 129)) := ⟨_, rfl⟩
        rw [← eU4]
        have hHU4 : HI U4 := by rw [eU4]; exact HI_w hHU3 (show -1 ≤ (Xi T2 904 129) by omega) (show (Xi T2 904 129) ≤ 23 by omega)
        have hFU4 : FR md_mo_actingMeant S U4 := by rw [eU4]; exact FR.wI hFU3 (mdf_i (r := (980, 981, 0, 100000)) (List.mem_of_getElem? (i := 14) rfl) (inR_i (by omega) (by omega) (by omega) (by omega)))
        have w66 : Xi U4 980 ((l).toNat) = (Xi T2 904 129) := by rw [eU4]; exact Xi_same (by unfold rg; omega)
        refine l_aload_n rfl rfl ?_
        refine l_aload_n rfl rfl ?_
        refine l_gfi rfl rfl rfl rfl rfl ?_
        have w67 : (Xi U4 904 129) = (Xi T2 904 129) := (show Xi U4 904 129 = Xi U3 904 129 from by rw [eU4]; exact Xi_ne (by omega)).trans ((show Xi U3 904 129 = Xi T2 904 129 from by rw [eU3]; exact Xi_ne (by omega)))
        rw [w67]
        refine l_iconst rfl ?_
        refine l_icmp_eq rfl rfl (by unfold rg; omega) (by unfold rg; omega) (fun w68 => ?_) (fun w69 => ?_)
        · refine l_iconst rfl ?_
          refine l_aload_n rfl rfl ?_
          refine l_gfr rfl rfl rfl rfl rfl (hHU4.r 904 50 942 rfl) ?_
          refine l_aload_n rfl rfl ?_
          refine l_gfi rfl rfl rfl rfl rfl ?_
          have w70 : (Xi U4 904 128) = (Xi T2 904 128) := (show Xi U4 904 128 = Xi U3 904 128 from by rw [eU4]; exact Xi_ne (by omega)).trans ((show Xi U3 904 128 = Xi T2 904 128 from by rw [eU3]; exact Xi_ne (by omega)))
          rw [w70]
          refine l_iaload (n := 12) rfl rfl (by omega) (by omega) (by unfold rg; omega) ?_
          have w71 : -2 ≤ (Xi U4 942 (((Xi T2 904 128)).toNat)) ∧ (Xi U4 942 (((Xi T2 904 128)).toNat)) ≤ 15 := hHU4.c _ _
          have e159 : (Xi U4 942 (((Xi T2 904 128)).toNat)) = Xi S 942 (Xi T2 904 128).toNat := by first | exact (hFU4.cx 942 rfl _).1 | (rw [(hFU4.cx 942 rfl _).1]; exact congrArg (fun t : Int => Xi S 942 t.toNat) (by omega))
          refine l_max rfl rfl rfl (by unfold rg; omega) (by unfold rg; omega) ?_
          have g160 : -1 ≤ (if (-1) < (Xi U4 942 (((Xi T2 904 128)).toNat)) then (Xi U4 942 (((Xi T2 904 128)).toNat)) else (-1)) ∧ (if (-1) < (Xi U4 942 (((Xi T2 904 128)).toNat)) then (Xi U4 942 (((Xi T2 904 128)).toNat)) else (-1)) ≤ 15 := by split <;> omega
          have m160 : 0 ≤ (if (-1) < (Xi U4 942 (((Xi T2 904 128)).toNat)) then (Xi U4 942 (((Xi T2 904 128)).toNat)) else (-1)) → 0 ≤ Xi S 942 (Xi T2 904 128).toNat := fun q => (by rw [← e159]; split at q <;> omega)
          refine l_pfi rfl rfl rfl rfl ?_
          obtain ⟨U5, eU5⟩ : ∃ T : sS, T = uI U4 904 116 (Int32.ofInt (if (-1) < (Xi U4 942 (((Xi T2 904 128)).toNat)) then (Xi U4 942 (((Xi T2 904 128)).toNat)) else (-1))) := ⟨_, rfl⟩
          rw [← eU5]
          have hHU5 : HI U5 := by rw [eU5]; exact HI_w hHU4 (show -1 ≤ (if (-1) < (Xi U4 942 (((Xi T2 904 128)).toNat)) then (Xi U4 942 (((Xi T2 904 128)).toNat)) else (-1)) by omega) (show (if (-1) < (Xi U4 942 (((Xi T2 904 128)).toNat)) then (Xi U4 942 (((Xi T2 904 128)).toNat)) else (-1)) ≤ 15 by omega)
          have hFU5 : FR md_mo_actingMeant S U5 := by rw [eU5]; exact FR.wI hFU4 (mdf_i (r := (904, 905, 116, 117)) (List.mem_of_getElem? (i := 8) rfl) (inR_i (by omega) (by omega) (by omega) (by omega)))
          have w72 : Xi U5 904 116 = (if (-1) < (Xi U4 942 (((Xi T2 904 128)).toNat)) then (Xi U4 942 (((Xi T2 904 128)).toNat)) else (-1)) := by rw [eU5]; exact Xi_same (by unfold rg; omega)
          refine l_return rfl rfl ?_
          have w73 : Xi U5 979 (l).toNat = Xi U3 979 (l).toNat := (show Xi U5 979 (l).toNat = Xi U4 979 (l).toNat from by rw [eU5]; exact Xi_ne (by omega)).trans ((show Xi U4 979 (l).toNat = Xi U3 979 (l).toNat from by rw [eU4]; exact Xi_ne (by omega)))
          have w74 : Xi U5 981 (l).toNat = Xi T2 981 (l).toNat := (show Xi U5 981 (l).toNat = Xi U4 981 (l).toNat from by rw [eU5]; exact Xi_ne (by omega)).trans ( (show Xi U4 981 (l).toNat = Xi U3 981 (l).toNat from by rw [eU4]; exact Xi_ne (by omega)).trans ((show Xi U3 981 (l).toNat = Xi T2 981 (l).toNat from by rw [eU3]; exact Xi_ne (by omega))))
          have w75 : Xi U5 982 (l).toNat = Xi T2 982 (l).toNat := (show Xi U5 982 (l).toNat = Xi U4 982 (l).toNat from by rw [eU5]; exact Xi_ne (by omega)).trans ( (show Xi U4 982 (l).toNat = Xi U3 982 (l).toNat from by rw [eU4]; exact Xi_ne (by omega)).trans ((show Xi U3 982 (l).toNat = Xi T2 982 (l).toNat from by rw [eU3]; exact Xi_ne (by omega))))
          have w76 : Xi U5 904 102 = Xi T2 904 102 := (show Xi U5 904 102 = Xi U4 904 102 from by rw [eU5]; exact Xi_ne (by omega)).trans ( (show Xi U4 904 102 = Xi U3 904 102 from by rw [eU4]; exact Xi_ne (by omega)).trans ((show Xi U3 904 102 = Xi T2 904 102 from by rw [eU3]; exact Xi_ne (by omega))))
          have w77 : 0 ≤ Xi T2 904 102 ∧ Xi T2 904 102 ≤ 2600 := hHT2.c _ _
          have w78 : Xi U5 904 103 = Xi T2 904 103 := (show Xi U5 904 103 = Xi U4 904 103 from by rw [eU5]; exact Xi_ne (by omega)).trans ( (show Xi U4 904 103 = Xi U3 904 103 from by rw [eU4]; exact Xi_ne (by omega)).trans ((show Xi U3 904 103 = Xi T2 904 103 from by rw [eU3]; exact Xi_ne (by omega))))
          have w79 : -1 ≤ Xi T2 904 103 ∧ Xi T2 904 103 ≤ 2600 := hHT2.c _ _
          have w80 : Xi U5 904 106 = Xi T2 904 106 := (show Xi U5 904 106 = Xi U4 904 106 from by rw [eU5]; exact Xi_ne (by omega)).trans ( (show Xi U4 904 106 = Xi U3 904 106 from by rw [eU4]; exact Xi_ne (by omega)).trans ((show Xi U3 904 106 = Xi T2 904 106 from by rw [eU3]; exact Xi_ne (by omega))))
          have w81 : 0 ≤ Xi T2 904 106 ∧ Xi T2 904 106 ≤ 9 := hHT2.c _ _
          have w82 : -1 ≤ Xi U5 904 116 ∧ Xi U5 904 116 ≤ 15 := hHU5.c _ _
          have w83 : Xi U5 904 128 = Xi T2 904 128 := (show Xi U5 904 128 = Xi U4 904 128 from by rw [eU5]; exact Xi_ne (by omega)).trans ( (show Xi U4 904 128 = Xi U3 904 128 from by rw [eU4]; exact Xi_ne (by omega)).trans ((show Xi U3 904 128 = Xi T2 904 128 from by rw [eU3]; exact Xi_ne (by omega))))
          have w84 : 0 ≤ Xi T2 904 128 ∧ Xi T2 904 128 ≤ 11 := hHT2.c _ _
          have w85 : Xi U5 904 129 = Xi T2 904 129 := (show Xi U5 904 129 = Xi U4 904 129 from by rw [eU5]; exact Xi_ne (by omega)).trans ( (show Xi U4 904 129 = Xi U3 904 129 from by rw [eU4]; exact Xi_ne (by omega)).trans ((show Xi U3 904 129 = Xi T2 904 129 from by rw [eU3]; exact Xi_ne (by omega))))
          have w86 : -1 ≤ Xi T2 904 129 ∧ Xi T2 904 129 ≤ 23 := hHT2.c _ _
          have w87 : Xi U5 904 69 = Xi T2 904 69 := (show Xi U5 904 69 = Xi U4 904 69 from by rw [eU5]; exact Xi_ne (by omega)).trans ( (show Xi U4 904 69 = Xi U3 904 69 from by rw [eU4]; exact Xi_ne (by omega)).trans ((show Xi U3 904 69 = Xi T2 904 69 from by rw [eU3]; exact Xi_ne (by omega))))
          have w88 : 0 ≤ Xi T2 904 69 ∧ Xi T2 904 69 ≤ 2600 := hHT2.c _ _
          have w89 : Xi U5 904 70 = Xi T2 904 70 := (show Xi U5 904 70 = Xi U4 904 70 from by rw [eU5]; exact Xi_ne (by omega)).trans ( (show Xi U4 904 70 = Xi U3 904 70 from by rw [eU4]; exact Xi_ne (by omega)).trans ((show Xi U3 904 70 = Xi T2 904 70 from by rw [eU3]; exact Xi_ne (by omega))))
          have w90 : 0 ≤ Xi T2 904 70 ∧ Xi T2 904 70 ≤ 20 := hHT2.c _ _
          exact ⟨hHU5, hFU5, rfl, (by omega), (by first | exact (fun _ => rz_1 (nm_i (S := S) (a := v3) (by omega) (by omega) (by omega) (fun j => (hFU5.cx 942 rfl j).1)) M457) M457 | exact rz_0 (by omega) (by omega)), (by omega), (by omega), (by first | exact fun x => absurd x (by omega) | exact fun x => nm_i (S := S) (a := v3) (by omega) (by omega) (by omega) (fun j => (hFU5.cx 942 rfl j).1) | exact fun x => (by have t := A105 (by omega); exact nm_i (S := S) (a := Xi T2 904 128) (by omega) t.1.1 (by first | exact t.2.2 (by omega) | exact m160 (by omega)) (fun j => (hFU5.cx 942 rfl j).1))), ((KRL.w (KRL.w (KRL.w (by assumption : KRL T2 S _) eU3 (by omega)) eU4 (by omega)) eU5 (by omega)))⟩
        · refine l_aload_n rfl rfl ?_
          refine l_gfr rfl rfl rfl rfl rfl (hHU4.r 904 20 918 rfl) ?_
          refine l_aload_n rfl rfl ?_
          refine l_gfi rfl rfl rfl rfl rfl ?_
          have w91 : (Xi U4 904 129) = (Xi T2 904 129) := (show Xi U4 904 129 = Xi U3 904 129 from by rw [eU4]; exact Xi_ne (by omega)).trans ((show Xi U3 904 129 = Xi T2 904 129 from by rw [eU3]; exact Xi_ne (by omega)))
          rw [w91]
          refine l_iaload (n := 24) rfl rfl (by omega) (by omega) (by unfold rg; omega) ?_
          have w92 : 0 ≤ (Xi U4 918 (((Xi T2 904 129)).toNat)) ∧ (Xi U4 918 (((Xi T2 904 129)).toNat)) ≤ 15 := hHU4.c _ _
          refine l_goto rfl rfl ?_
          refine l_pfi rfl rfl rfl rfl ?_
          obtain ⟨U6, eU6⟩ : ∃ T : sS, T = uI U4 904 116 (Int32.ofInt (Xi U4 918 (((Xi T2 904 129)).toNat))) := ⟨_, rfl⟩
          rw [← eU6]
          have hHU6 : HI U6 := by rw [eU6]; exact HI_w hHU4 (show -1 ≤ (Xi U4 918 (((Xi T2 904 129)).toNat)) by omega) (show (Xi U4 918 (((Xi T2 904 129)).toNat)) ≤ 15 by omega)
          have hFU6 : FR md_mo_actingMeant S U6 := by rw [eU6]; exact FR.wI hFU4 (mdf_i (r := (904, 905, 116, 117)) (List.mem_of_getElem? (i := 8) rfl) (inR_i (by omega) (by omega) (by omega) (by omega)))
          have w93 : Xi U6 904 116 = (Xi U4 918 (((Xi T2 904 129)).toNat)) := by rw [eU6]; exact Xi_same (by unfold rg; omega)
          refine l_return rfl rfl ?_
          have w94 : Xi U6 979 (l).toNat = Xi U3 979 (l).toNat := (show Xi U6 979 (l).toNat = Xi U4 979 (l).toNat from by rw [eU6]; exact Xi_ne (by omega)).trans ((show Xi U4 979 (l).toNat = Xi U3 979 (l).toNat from by rw [eU4]; exact Xi_ne (by omega)))
          have w95 : Xi U6 981 (l).toNat = Xi T2 981 (l).toNat := (show Xi U6 981 (l).toNat = Xi U4 981 (l).toNat from by rw [eU6]; exact Xi_ne (by omega)).trans ( (show Xi U4 981 (l).toNat = Xi U3 981 (l).toNat from by rw [eU4]; exact Xi_ne (by omega)).trans ((show Xi U3 981 (l).toNat = Xi T2 981 (l).toNat from by rw [eU3]; exact Xi_ne (by omega))))
          have w96 : Xi U6 982 (l).toNat = Xi T2 982 (l).toNat := (show Xi U6 982 (l).toNat = Xi U4 982 (l).toNat from by rw [eU6]; exact Xi_ne (by omega)).trans ( (show Xi U4 982 (l).toNat = Xi U3 982 (l).toNat from by rw [eU4]; exact Xi_ne (by omega)).trans ((show Xi U3 982 (l).toNat = Xi T2 982 (l).toNat from by rw [eU3]; exact Xi_ne (by omega))))
          have w97 : Xi U6 904 102 = Xi T2 904 102 := (show Xi U6 904 102 = Xi U4 904 102 from by rw [eU6]; exact Xi_ne (by omega)).trans ( (show Xi U4 904 102 = Xi U3 904 102 from by rw [eU4]; exact Xi_ne (by omega)).trans ((show Xi U3 904 102 = Xi T2 904 102 from by rw [eU3]; exact Xi_ne (by omega))))
          have w98 : 0 ≤ Xi T2 904 102 ∧ Xi T2 904 102 ≤ 2600 := hHT2.c _ _
          have w99 : Xi U6 904 103 = Xi T2 904 103 := (show Xi U6 904 103 = Xi U4 904 103 from by rw [eU6]; exact Xi_ne (by omega)).trans ( (show Xi U4 904 103 = Xi U3 904 103 from by rw [eU4]; exact Xi_ne (by omega)).trans ((show Xi U3 904 103 = Xi T2 904 103 from by rw [eU3]; exact Xi_ne (by omega))))
          have w100 : -1 ≤ Xi T2 904 103 ∧ Xi T2 904 103 ≤ 2600 := hHT2.c _ _
          have w101 : Xi U6 904 106 = Xi T2 904 106 := (show Xi U6 904 106 = Xi U4 904 106 from by rw [eU6]; exact Xi_ne (by omega)).trans ( (show Xi U4 904 106 = Xi U3 904 106 from by rw [eU4]; exact Xi_ne (by omega)).trans ((show Xi U3 904 106 = Xi T2 904 106 from by rw [eU3]; exact Xi_ne (by omega))))
          have w102 : 0 ≤ Xi T2 904 106 ∧ Xi T2 904 106 ≤ 9 := hHT2.c _ _
          have w103 : -1 ≤ Xi U6 904 116 ∧ Xi U6 904 116 ≤ 15 := hHU6.c _ _
          have w104 : Xi U6 904 128 = Xi T2 904 128 := (show Xi U6 904 128 = Xi U4 904 128 from by rw [eU6]; exact Xi_ne (by omega)).trans ( (show Xi U4 904 128 = Xi U3 904 128 from by rw [eU4]; exact Xi_ne (by omega)).trans ((show Xi U3 904 128 = Xi T2 904 128 from by rw [eU3]; exact Xi_ne (by omega))))
          have w105 : 0 ≤ Xi T2 904 128 ∧ Xi T2 904 128 ≤ 11 := hHT2.c _ _
          have w106 : Xi U6 904 129 = Xi T2 904 129 := (show Xi U6 904 129 = Xi U4 904 129 from by rw [eU6]; exact Xi_ne (by omega)).trans ( (show Xi U4 904 129 = Xi U3 904 129 from by rw [eU4]; exact Xi_ne (by omega)).trans ((show Xi U3 904 129 = Xi T2 904 129 from by rw [eU3]; exact Xi_ne (by omega))))
          have w107 : -1 ≤ Xi T2 904 129 ∧ Xi T2 904 129 ≤ 23 := hHT2.c _ _
          have w108 : Xi U6 904 69 = Xi T2 904 69 := (show Xi U6 904 69 = Xi U4 904 69 from by rw [eU6]; exact Xi_ne (by omega)).trans ( (show Xi U4 904 69 = Xi U3 904 69 from by rw [eU4]; exact Xi_ne (by omega)).trans ((show Xi U3 904 69 = Xi T2 904 69 from by rw [eU3]; exact Xi_ne (by omega))))
          have w109 : 0 ≤ Xi T2 904 69 ∧ Xi T2 904 69 ≤ 2600 := hHT2.c _ _
          have w110 : Xi U6 904 70 = Xi T2 904 70 := (show Xi U6 904 70 = Xi U4 904 70 from by rw [eU6]; exact Xi_ne (by omega)).trans ( (show Xi U4 904 70 = Xi U3 904 70 from by rw [eU4]; exact Xi_ne (by omega)).trans ((show Xi U3 904 70 = Xi T2 904 70 from by rw [eU3]; exact Xi_ne (by omega))))
          have w111 : 0 ≤ Xi T2 904 70 ∧ Xi T2 904 70 ≤ 20 := hHT2.c _ _
          exact ⟨hHU6, hFU6, rfl, (by omega), (by first | exact (fun _ => rz_1 (nm_i (S := S) (a := v3) (by omega) (by omega) (by omega) (fun j => (hFU6.cx 942 rfl j).1)) M457) M457 | exact rz_0 (by omega) (by omega)), (by omega), (by omega), (by first | exact fun x => absurd x (by omega) | exact fun x => nm_i (S := S) (a := v3) (by omega) (by omega) (by omega) (fun j => (hFU6.cx 942 rfl j).1) | exact fun x => (by have t := A105 (by omega); exact nm_i (S := S) (a := Xi T2 904 128) (by omega) t.1.1 (by first | exact t.2.2 (by omega) | exact m160 (by omega)) (fun j => (hFU6.cx 942 rfl j).1))), ((KRL.w (KRL.w (KRL.w (by assumption : KRL T2 S _) eU3 (by omega)) eU4 (by omega)) eU6 (by omega)))⟩
    have C208 : ∀  (T7 : sS) (_ : HI T7) (_ : FR md_mo_actingMeant S T7) (v3 : Int) (v4 : Int), (0 ≤ v3 ∧ v3 ≤ 11) → (-1 ≤ v4 ∧ v4 ≤ 2600) → (Xi T7 979 (l).toNat = -1) → (Xi T7 981 (l).toNat = -1) → (Xi T7 982 (l).toNat = 0) → (Xi T7 904 116 = -1) → (Xi S 904 106 ≠ 0 → Xi T7 904 106 ≠ 0) → (Xi S 904 70 ≠ 6) → (KRL T7 S l) → (0 ≤ v3 ∧ v3 < Xi S 904 49) → (0 ≤ v4 ∧ v4 < Xi S 904 69) → Rl lay0 (d + 10) m_mo_actingMeant 208 [(0, .ref 904), (1, iv l), (3, iv v3), (4, iv v4)] [] T7 (Q_mo_actingMeant S n l) := by
      intro T7 hHT7 hFT7 v3 v4 w112 w113 w114 w115 w116 w117 w118 w119 K208 w120 w121
      have w122 : Xi T7 904 102 = Xi S 904 102 := hFT7.x _ _ rfl
      have w123 : Xi T7 904 103 = Xi S 904 103 := hFT7.x _ _ rfl
      have w124 : Xi T7 904 16 = Xi S 904 16 := hFT7.x _ _ rfl
      have w125 : Xi T7 904 19 = Xi S 904 19 := hFT7.x _ _ rfl
      have w126 : Xi T7 904 49 = Xi S 904 49 := hFT7.x _ _ rfl
      have w127 : Xi T7 904 69 = Xi S 904 69 := hFT7.x _ _ rfl
      have w128 : Xi T7 904 70 = Xi S 904 70 := hFT7.x _ _ rfl
      have w129 : 0 ≤ Xi T7 904 106 ∧ Xi T7 904 106 ≤ 9 := hHT7.c _ _
      have w130 : -1 ≤ Xi T7 904 116 ∧ Xi T7 904 116 ≤ 15 := hHT7.c _ _
      have C244 : ∀  (T8 : sS) (_ : HI T8) (_ : FR md_mo_actingMeant S T8) (v3 : Int) (v4 : Int), (0 ≤ v3 ∧ v3 ≤ 11) → (0 ≤ v4 ∧ v4 ≤ 2599) → (Xi T8 979 (l).toNat = -1) → (Xi T8 981 (l).toNat = -1) → (Xi T8 982 (l).toNat = 0) → (Xi T8 904 116 = -1) → (Xi S 904 106 ≠ 0 → Xi T8 904 106 ≠ 0) → (Xi S 904 70 ≠ 6) → (KRL T8 S l) → (0 ≤ v3 ∧ v3 < Xi S 904 49) → (0 ≤ Xi S 942 (v3).toNat) → (0 ≤ v4 ∧ v4 < Xi S 904 69) → Rl lay0 (d + 10) m_mo_actingMeant 244 [(0, .ref 904), (1, iv l), (3, iv v3), (4, iv v4)] [] T8 (Q_mo_actingMeant S n l) := by
        intro T8 hHT8 hFT8 v3 v4 w131 w132 w133 w134 w135 w136 w137 w138 K244 w139 w140 w141
        have w142 : Xi T8 904 102 = Xi S 904 102 := hFT8.x _ _ rfl
        have w143 : Xi T8 904 103 = Xi S 904 103 := hFT8.x _ _ rfl
        have w144 : Xi T8 904 16 = Xi S 904 16 := hFT8.x _ _ rfl
        have w145 : Xi T8 904 19 = Xi S 904 19 := hFT8.x _ _ rfl
        have w146 : Xi T8 904 49 = Xi S 904 49 := hFT8.x _ _ rfl
        have w147 : Xi T8 904 69 = Xi S 904 69 := hFT8.x _ _ rfl
        have w148 : Xi T8 904 70 = Xi S 904 70 := hFT8.x _ _ rfl
        have w149 : 0 ≤ Xi T8 904 106 ∧ Xi T8 904 106 ≤ 9 := hHT8.c _ _
        have w150 : -1 ≤ Xi T8 904 116 ∧ Xi T8 904 116 ≤ 15 := hHT8.c _ _
        have C287 : ∀  (v3 : Int) (v4 : Int) (v5 : Int), (0 ≤ v3 ∧ v3 ≤ 11) → (0 ≤ v4 ∧ v4 ≤ 2599) → (-1 ≤ v5 ∧ v5 ≤ 23) → (0 ≤ v3 ∧ v3 < Xi S 904 49) → (0 ≤ Xi S 942 (v3).toNat) → (0 ≤ v4 ∧ v4 < Xi S 904 69) → (v5 ≠ -1 → v5 < Xi S 904 19) → (Xi T8 979 (l).toNat = -1) → (Xi T8 981 (l).toNat = -1) → (Xi T8 982 (l).toNat = 0) → (Xi S 904 106 ≠ 0 → Xi T8 904 106 ≠ 0) → (Xi S 904 70 ≠ 6) → (KRL T8 S l) → Rl lay0 (d + 10) m_mo_actingMeant 287 [(0, .ref 904), (1, iv l), (3, iv v3), (4, iv v4), (5, iv v5)] [] T8 (Q_mo_actingMeant S n l) := by
          intro v3 v4 v5 w151 w152 w153 w154 w155 w156 w157 w158 w159 w160 w161 w162 K287
          have C352 : ∀  (T9 : sS) (_ : HI T9) (_ : FR md_mo_actingMeant S T9) (v3 : Int) (v4 : Int) (v5 : Int) (v6 : Int), (0 ≤ v3 ∧ v3 ≤ 11) → (0 ≤ v4 ∧ v4 ≤ 2599) → (-1 ≤ v5 ∧ v5 ≤ 23) → (0 ≤ v6 ∧ v6 ≤ 1) → (0 ≤ v3 ∧ v3 < Xi S 904 49) → (0 ≤ Xi S 942 (v3).toNat) → (0 ≤ v4 ∧ v4 < Xi S 904 69) → (v5 ≠ -1 → v5 < Xi S 904 19) → (Xi T9 979 (l).toNat = -1) → (Xi T9 981 (l).toNat = -1) → (Xi T9 982 (l).toNat = 0) → (Xi S 904 106 ≠ 0 → Xi T9 904 106 ≠ 0) → (Xi S 904 70 ≠ 6) → (KRL T9 S l) → (v6 ≠ 0 → Xi T9 904 110 < Xi S 904 16 ∧ ∀ i : Nat, (i : Int) < Xi T9 904 112 → ADX S 1 (Xi T9 967 i)) → Rl lay0 (d + 10) m_mo_actingMeant 352 [(0, .ref 904), (1, iv l), (3, iv v3), (4, iv v4), (5, iv v5), (6, iv v6)] [] T9 (Q_mo_actingMeant S n l) := by
            intro T9 hHT9 hFT9 v3 v4 v5 v6 w163 w164 w165 w166 w167 w168 w169 w170 w171 w172 w173 w174 w175 K352 R352
            have w176 : Xi T9 904 102 = Xi S 904 102 := hFT9.x _ _ rfl
            have w177 : Xi T9 904 103 = Xi S 904 103 := hFT9.x _ _ rfl
            have w178 : Xi T9 904 16 = Xi S 904 16 := hFT9.x _ _ rfl
            have w179 : Xi T9 904 19 = Xi S 904 19 := hFT9.x _ _ rfl
            have w180 : Xi T9 904 49 = Xi S 904 49 := hFT9.x _ _ rfl
            have w181 : Xi T9 904 69 = Xi S 904 69 := hFT9.x _ _ rfl
            have w182 : Xi T9 904 70 = Xi S 904 70 := hFT9.x _ _ rfl
            have w183 : 0 ≤ Xi T9 904 106 ∧ Xi T9 904 106 ≤ 9 := hHT9.c _ _
            have w184 : 0 ≤ Xi T9 904 110 ∧ Xi T9 904 110 ≤ 15 := hHT9.c _ _
            have w185 : 0 ≤ Xi T9 904 112 ∧ Xi T9 904 112 ≤ 6 := hHT9.c _ _
            refine l_aload_n rfl rfl ?_
            refine l_aload_n rfl rfl ?_
            refine l_gfr rfl rfl rfl rfl rfl (hHT9.r 904 67 950 rfl) ?_
            refine l_iload rfl rfl ?_
            refine l_iaload (n := 2600) rfl rfl (by omega) (by omega) (by unfold rg; omega) ?_
            have w186 : 0 ≤ (Xi T9 950 ((v4).toNat)) ∧ (Xi T9 950 ((v4).toNat)) ≤ 5010 := hHT9.c _ _
            have e359 : (Xi T9 950 ((v4).toNat)) ≤ n := by have t := hrf v4 (by omega) (by omega); first | (rw [(hFT9.cx 950 rfl _).1]; omega) | (rw [(hFT9.cx 950 rfl _).1]; omega) | (rw [(hFT9.cx 950 rfl _).1]; omega)
            have w187 : 0 ≤ Xi T9 904 102 ∧ Xi T9 904 102 ≤ 2600 := hHT9.c _ _
            have w188 : -1 ≤ Xi T9 904 103 ∧ Xi T9 904 103 ≤ 2600 := hHT9.c _ _
            have w189 : 0 ≤ Xi T9 904 106 ∧ Xi T9 904 106 ≤ 9 := hHT9.c _ _
            have w190 : -1 ≤ Xi T9 904 116 ∧ Xi T9 904 116 ≤ 15 := hHT9.c _ _
            have w191 : 0 ≤ Xi T9 904 128 ∧ Xi T9 904 128 ≤ 11 := hHT9.c _ _
            have w192 : -1 ≤ Xi T9 904 129 ∧ Xi T9 904 129 ≤ 23 := hHT9.c _ _
            have w193 : 0 ≤ Xi T9 904 69 ∧ Xi T9 904 69 ≤ 2600 := hHT9.c _ _
            have w194 : 0 ≤ Xi T9 904 70 ∧ Xi T9 904 70 ≤ 20 := hHT9.c _ _
            refine l_callV rfl rfl rfl (t_mo_oneReading hHT9 (Xi T9 950 ((v4).toNat)) ⟨by omega, by omega⟩ _) ?_
            rintro _ T10 ⟨hHT10, w197, rfl, w195⟩
            have hFT10 : FR md_mo_actingMeant S T10 := FR.tr hFT9 w197 rfl
            show Rl _ _ _ _ _ [] _ _
            refine l_aload_n rfl rfl ?_
            refine l_gfr rfl rfl rfl rfl rfl (hHT10.r 904 132 979 rfl) ?_
            refine l_iload_n rfl rfl ?_
            refine l_iload_n rfl rfl ?_
            refine l_iastore (n := 24) rfl rfl (by omega) (by omega) (by unfold rg; omega) ?_
            obtain ⟨U11, eU11⟩ : ∃ T : sS, T = uI T10 979 ((l).toNat) (Int32.ofInt v3) := ⟨_, rfl⟩
            rw [← eU11]
            have hHU11 : HI U11 := by rw [eU11]; exact HI_w hHT10 (show -1 ≤ v3 by omega) (show v3 ≤ 11 by omega)
            have hFU11 : FR md_mo_actingMeant S U11 := by rw [eU11]; exact FR.wI hFT10 (mdf_i (r := (979, 980, 0, 100000)) (List.mem_of_getElem? (i := 13) rfl) (inR_i (by omega) (by omega) (by omega) (by omega)))
            have w198 : Xi U11 979 ((l).toNat) = v3 := by rw [eU11]; exact Xi_same (by unfold rg; omega)
            refine l_aload_n rfl rfl ?_
            refine l_gfr rfl rfl rfl rfl rfl (hHU11.r 904 133 980 rfl) ?_
            refine l_iload_n rfl rfl ?_
            refine l_iload rfl rfl ?_
            refine l_iastore (n := 24) rfl rfl (by omega) (by omega) (by unfold rg; omega) ?_
            obtain ⟨U12, eU12⟩ : ∃ T : sS, T = uI U11 980 ((l).toNat) (Int32.ofInt v5) := ⟨_, rfl⟩
            rw [← eU12]
            have hHU12 : HI U12 := by rw [eU12]; exact HI_w hHU11 (show -1 ≤ v5 by omega) (show v5 ≤ 23 by omega)
            have hFU12 : FR md_mo_actingMeant S U12 := by rw [eU12]; exact FR.wI hFU11 (mdf_i (r := (980, 981, 0, 100000)) (List.mem_of_getElem? (i := 14) rfl) (inR_i (by omega) (by omega) (by omega) (by omega)))
            have w199 : Xi U12 980 ((l).toNat) = v5 := by rw [eU12]; exact Xi_same (by unfold rg; omega)
            refine l_aload_n rfl rfl ?_
            refine l_iload rfl rfl ?_
            refine l_iconst rfl ?_
            refine l_icmp_eq rfl rfl (by unfold rg; omega) (by unfold rg; omega) (fun w200 => ?_) (fun w201 => ?_)
            · refine l_iload rfl rfl ?_
              refine l_if_eq rfl rfl (by unfold rg; omega) (fun w202 => ?_) (fun w203 => ?_)
              · refine l_iconst rfl ?_
                refine l_pfi rfl rfl rfl rfl ?_
                obtain ⟨U13, eU13⟩ : ∃ T : sS, T = uI U12 904 116 (Int32.ofInt (-1)) := ⟨_, rfl⟩
                rw [← eU13]
                have hHU13 : HI U13 := by rw [eU13]; exact HI_w hHU12 (show -1 ≤ (-1) by omega) (show (-1) ≤ 15 by omega)
                have hFU13 : FR md_mo_actingMeant S U13 := by rw [eU13]; exact FR.wI hFU12 (mdf_i (r := (904, 905, 116, 117)) (List.mem_of_getElem? (i := 8) rfl) (inR_i (by omega) (by omega) (by omega) (by omega)))
                have w204 : Xi U13 904 116 = (-1) := by rw [eU13]; exact Xi_same (by unfold rg; omega)
                refine l_iload rfl rfl ?_
                refine l_if_eq rfl rfl (by unfold rg; omega) (fun w205 => ?_) (fun w206 => ?_)
                · refine l_return rfl rfl ?_
                  have w207 : Xi U13 979 (l).toNat = Xi U11 979 (l).toNat := (show Xi U13 979 (l).toNat = Xi U12 979 (l).toNat from by rw [eU13]; exact Xi_ne (by omega)).trans ((show Xi U12 979 (l).toNat = Xi U11 979 (l).toNat from by rw [eU12]; exact Xi_ne (by omega)))
                  have w208 : Xi U13 981 (l).toNat = Xi T9 981 (l).toNat := (show Xi U13 981 (l).toNat = Xi U12 981 (l).toNat from by rw [eU13]; exact Xi_ne (by omega)).trans ( (show Xi U12 981 (l).toNat = Xi U11 981 (l).toNat from by rw [eU12]; exact Xi_ne (by omega)).trans ( (show Xi U11 981 (l).toNat = Xi T10 981 (l).toNat from by rw [eU11]; exact Xi_ne (by omega)).trans ((show Xi T10 981 (l).toNat = Xi T9 981 (l).toNat from (w197.cx 981 rfl _).1))))
                  have w209 : Xi U13 982 (l).toNat = Xi T9 982 (l).toNat := (show Xi U13 982 (l).toNat = Xi U12 982 (l).toNat from by rw [eU13]; exact Xi_ne (by omega)).trans ( (show Xi U12 982 (l).toNat = Xi U11 982 (l).toNat from by rw [eU12]; exact Xi_ne (by omega)).trans ( (show Xi U11 982 (l).toNat = Xi T10 982 (l).toNat from by rw [eU11]; exact Xi_ne (by omega)).trans ((show Xi T10 982 (l).toNat = Xi T9 982 (l).toNat from (w197.cx 982 rfl _).1))))
                  have w210 : Xi U13 904 102 = Xi T9 904 102 := (show Xi U13 904 102 = Xi U12 904 102 from by rw [eU13]; exact Xi_ne (by omega)).trans ( (show Xi U12 904 102 = Xi U11 904 102 from by rw [eU12]; exact Xi_ne (by omega)).trans ( (show Xi U11 904 102 = Xi T10 904 102 from by rw [eU11]; exact Xi_ne (by omega)).trans ((show Xi T10 904 102 = Xi T9 904 102 from w197.x _ _ rfl))))
                  have w211 : 0 ≤ Xi T9 904 102 ∧ Xi T9 904 102 ≤ 2600 := hHT9.c _ _
                  have w212 : Xi U13 904 103 = Xi T9 904 103 := (show Xi U13 904 103 = Xi U12 904 103 from by rw [eU13]; exact Xi_ne (by omega)).trans ( (show Xi U12 904 103 = Xi U11 904 103 from by rw [eU12]; exact Xi_ne (by omega)).trans ( (show Xi U11 904 103 = Xi T10 904 103 from by rw [eU11]; exact Xi_ne (by omega)).trans ((show Xi T10 904 103 = Xi T9 904 103 from w197.x _ _ rfl))))
                  have w213 : -1 ≤ Xi T9 904 103 ∧ Xi T9 904 103 ≤ 2600 := hHT9.c _ _
                  have w214 : Xi U13 904 106 = Xi T10 904 106 := (show Xi U13 904 106 = Xi U12 904 106 from by rw [eU13]; exact Xi_ne (by omega)).trans ( (show Xi U12 904 106 = Xi U11 904 106 from by rw [eU12]; exact Xi_ne (by omega)).trans ((show Xi U11 904 106 = Xi T10 904 106 from by rw [eU11]; exact Xi_ne (by omega))))
                  have w215 : 0 ≤ Xi T10 904 106 ∧ Xi T10 904 106 ≤ 9 := hHT10.c _ _
                  have w216 : -1 ≤ Xi U13 904 116 ∧ Xi U13 904 116 ≤ 15 := hHU13.c _ _
                  have w217 : Xi U13 904 128 = Xi T9 904 128 := (show Xi U13 904 128 = Xi U12 904 128 from by rw [eU13]; exact Xi_ne (by omega)).trans ( (show Xi U12 904 128 = Xi U11 904 128 from by rw [eU12]; exact Xi_ne (by omega)).trans ( (show Xi U11 904 128 = Xi T10 904 128 from by rw [eU11]; exact Xi_ne (by omega)).trans ((show Xi T10 904 128 = Xi T9 904 128 from w197.x _ _ rfl))))
                  have w218 : 0 ≤ Xi T9 904 128 ∧ Xi T9 904 128 ≤ 11 := hHT9.c _ _
                  have w219 : Xi U13 904 129 = Xi T9 904 129 := (show Xi U13 904 129 = Xi U12 904 129 from by rw [eU13]; exact Xi_ne (by omega)).trans ( (show Xi U12 904 129 = Xi U11 904 129 from by rw [eU12]; exact Xi_ne (by omega)).trans ( (show Xi U11 904 129 = Xi T10 904 129 from by rw [eU11]; exact Xi_ne (by omega)).trans ((show Xi T10 904 129 = Xi T9 904 129 from w197.x _ _ rfl))))
                  have w220 : -1 ≤ Xi T9 904 129 ∧ Xi T9 904 129 ≤ 23 := hHT9.c _ _
                  have w221 : Xi U13 904 69 = Xi T9 904 69 := (show Xi U13 904 69 = Xi U12 904 69 from by rw [eU13]; exact Xi_ne (by omega)).trans ( (show Xi U12 904 69 = Xi U11 904 69 from by rw [eU12]; exact Xi_ne (by omega)).trans ( (show Xi U11 904 69 = Xi T10 904 69 from by rw [eU11]; exact Xi_ne (by omega)).trans ((show Xi T10 904 69 = Xi T9 904 69 from w197.x _ _ rfl))))
                  have w222 : 0 ≤ Xi T9 904 69 ∧ Xi T9 904 69 ≤ 2600 := hHT9.c _ _
                  have w223 : Xi U13 904 70 = Xi T9 904 70 := (show Xi U13 904 70 = Xi U12 904 70 from by rw [eU13]; exact Xi_ne (by omega)).trans ( (show Xi U12 904 70 = Xi U11 904 70 from by rw [eU12]; exact Xi_ne (by omega)).trans ( (show Xi U11 904 70 = Xi T10 904 70 from by rw [eU11]; exact Xi_ne (by omega)).trans ((show Xi T10 904 70 = Xi T9 904 70 from w197.x _ _ rfl))))
                  have w224 : 0 ≤ Xi T9 904 70 ∧ Xi T9 904 70 ≤ 20 := hHT9.c _ _
                  exact ⟨hHU13, hFU13, rfl, (by omega), (by first | exact (fun _ => rz_1 (nm_i (S := S) (a := v3) (by omega) (by omega) (by omega) (fun j => (hFU13.cx 942 rfl j).1)) M457) M457 | exact rz_0 (by omega) (by omega)), (by omega), (by omega), (by first | exact fun x => absurd x (by omega) | exact fun x => nm_i (S := S) (a := v3) (by omega) (by omega) (by omega) (fun j => (hFU13.cx 942 rfl j).1) | exact fun x => (by have t := A105 (by omega); exact nm_i (S := S) (a := Xi T2 904 128) (by omega) t.1.1 (by first | exact t.2.2 (by omega) | exact m160 (by omega)) (fun j => (hFU13.cx 942 rfl j).1))), ((KRL.w (KRL.w (KRL.w (KRL_FR w197 rfl (by assumption : KRL T9 S _)) eU11 (by omega)) eU12 (by omega)) eU13 (by omega)))⟩
                · refine l_iload rfl rfl ?_
                  refine l_iconst rfl ?_
                  refine l_icmp_ne rfl rfl (by unfold rg; omega) (by unfold rg; omega) (fun w225 => ?_) (fun w226 => ?_)
                  · refine l_return rfl rfl ?_
                    have w227 : Xi U13 979 (l).toNat = Xi U11 979 (l).toNat := (show Xi U13 979 (l).toNat = Xi U12 979 (l).toNat from by rw [eU13]; exact Xi_ne (by omega)).trans ((show Xi U12 979 (l).toNat = Xi U11 979 (l).toNat from by rw [eU12]; exact Xi_ne (by omega)))
                    have w228 : Xi U13 981 (l).toNat = Xi T9 981 (l).toNat := (show Xi U13 981 (l).toNat = Xi U12 981 (l).toNat from by rw [eU13]; exact Xi_ne (by omega)).trans ( (show Xi U12 981 (l).toNat = Xi U11 981 (l).toNat from by rw [eU12]; exact Xi_ne (by omega)).trans ( (show Xi U11 981 (l).toNat = Xi T10 981 (l).toNat from by rw [eU11]; exact Xi_ne (by omega)).trans ((show Xi T10 981 (l).toNat = Xi T9 981 (l).toNat from (w197.cx 981 rfl _).1))))
                    have w229 : Xi U13 982 (l).toNat = Xi T9 982 (l).toNat := (show Xi U13 982 (l).toNat = Xi U12 982 (l).toNat from by rw [eU13]; exact Xi_ne (by omega)).trans ( (show Xi U12 982 (l).toNat = Xi U11 982 (l).toNat from by rw [eU12]; exact Xi_ne (by omega)).trans ( (show Xi U11 982 (l).toNat = Xi T10 982 (l).toNat from by rw [eU11]; exact Xi_ne (by omega)).trans ((show Xi T10 982 (l).toNat = Xi T9 982 (l).toNat from (w197.cx 982 rfl _).1))))
                    have w230 : Xi U13 904 102 = Xi T9 904 102 := (show Xi U13 904 102 = Xi U12 904 102 from by rw [eU13]; exact Xi_ne (by omega)).trans ( (show Xi U12 904 102 = Xi U11 904 102 from by rw [eU12]; exact Xi_ne (by omega)).trans ( (show Xi U11 904 102 = Xi T10 904 102 from by rw [eU11]; exact Xi_ne (by omega)).trans ((show Xi T10 904 102 = Xi T9 904 102 from w197.x _ _ rfl))))
                    have w231 : 0 ≤ Xi T9 904 102 ∧ Xi T9 904 102 ≤ 2600 := hHT9.c _ _
                    have w232 : Xi U13 904 103 = Xi T9 904 103 := (show Xi U13 904 103 = Xi U12 904 103 from by rw [eU13]; exact Xi_ne (by omega)).trans ( (show Xi U12 904 103 = Xi U11 904 103 from by rw [eU12]; exact Xi_ne (by omega)).trans ( (show Xi U11 904 103 = Xi T10 904 103 from by rw [eU11]; exact Xi_ne (by omega)).trans ((show Xi T10 904 103 = Xi T9 904 103 from w197.x _ _ rfl))))
                    have w233 : -1 ≤ Xi T9 904 103 ∧ Xi T9 904 103 ≤ 2600 := hHT9.c _ _
                    have w234 : Xi U13 904 106 = Xi T10 904 106 := (show Xi U13 904 106 = Xi U12 904 106 from by rw [eU13]; exact Xi_ne (by omega)).trans ( (show Xi U12 904 106 = Xi U11 904 106 from by rw [eU12]; exact Xi_ne (by omega)).trans ((show Xi U11 904 106 = Xi T10 904 106 from by rw [eU11]; exact Xi_ne (by omega))))
                    have w235 : 0 ≤ Xi T10 904 106 ∧ Xi T10 904 106 ≤ 9 := hHT10.c _ _
                    have w236 : -1 ≤ Xi U13 904 116 ∧ Xi U13 904 116 ≤ 15 := hHU13.c _ _
                    have w237 : Xi U13 904 128 = Xi T9 904 128 := (show Xi U13 904 128 = Xi U12 904 128 from by rw [eU13]; exact Xi_ne (by omega)).trans ( (show Xi U12 904 128 = Xi U11 904 128 from by rw [eU12]; exact Xi_ne (by omega)).trans ( (show Xi U11 904 128 = Xi T10 904 128 from by rw [eU11]; exact Xi_ne (by omega)).trans ((show Xi T10 904 128 = Xi T9 904 128 from w197.x _ _ rfl))))
                    have w238 : 0 ≤ Xi T9 904 128 ∧ Xi T9 904 128 ≤ 11 := hHT9.c _ _
                    have w239 : Xi U13 904 129 = Xi T9 904 129 := (show Xi U13 904 129 = Xi U12 904 129 from by rw [eU13]; exact Xi_ne (by omega)).trans ( (show Xi U12 904 129 = Xi U11 904 129 from by rw [eU12]; exact Xi_ne (by omega)).trans ( (show Xi U11 904 129 = Xi T10 904 129 from by rw [eU11]; exact Xi_ne (by omega)).trans ((show Xi T10 904 129 = Xi T9 904 129 from w197.x _ _ rfl))))
                    have w240 : -1 ≤ Xi T9 904 129 ∧ Xi T9 904 129 ≤ 23 := hHT9.c _ _
                    have w241 : Xi U13 904 69 = Xi T9 904 69 := (show Xi U13 904 69 = Xi U12 904 69 from by rw [eU13]; exact Xi_ne (by omega)).trans ( (show Xi U12 904 69 = Xi U11 904 69 from by rw [eU12]; exact Xi_ne (by omega)).trans ( (show Xi U11 904 69 = Xi T10 904 69 from by rw [eU11]; exact Xi_ne (by omega)).trans ((show Xi T10 904 69 = Xi T9 904 69 from w197.x _ _ rfl))))
                    have w242 : 0 ≤ Xi T9 904 69 ∧ Xi T9 904 69 ≤ 2600 := hHT9.c _ _
                    have w243 : Xi U13 904 70 = Xi T9 904 70 := (show Xi U13 904 70 = Xi U12 904 70 from by rw [eU13]; exact Xi_ne (by omega)).trans ( (show Xi U12 904 70 = Xi U11 904 70 from by rw [eU12]; exact Xi_ne (by omega)).trans ( (show Xi U11 904 70 = Xi T10 904 70 from by rw [eU11]; exact Xi_ne (by omega)).trans ((show Xi T10 904 70 = Xi T9 904 70 from w197.x _ _ rfl))))
                    have w244 : 0 ≤ Xi T9 904 70 ∧ Xi T9 904 70 ≤ 20 := hHT9.c _ _
                    exact ⟨hHU13, hFU13, rfl, (by omega), (by first | exact (fun _ => rz_1 (nm_i (S := S) (a := v3) (by omega) (by omega) (by omega) (fun j => (hFU13.cx 942 rfl j).1)) M457) M457 | exact rz_0 (by omega) (by omega)), (by omega), (by omega), (by first | exact fun x => absurd x (by omega) | exact fun x => nm_i (S := S) (a := v3) (by omega) (by omega) (by omega) (fun j => (hFU13.cx 942 rfl j).1) | exact fun x => (by have t := A105 (by omega); exact nm_i (S := S) (a := Xi T2 904 128) (by omega) t.1.1 (by first | exact t.2.2 (by omega) | exact m160 (by omega)) (fun j => (hFU13.cx 942 rfl j).1))), ((KRL.w (KRL.w (KRL.w (KRL_FR w197 rfl (by assumption : KRL T9 S _)) eU11 (by omega)) eU12 (by omega)) eU13 (by omega)))⟩
                  · refine l_aload_n rfl rfl ?_
                    refine l_gfr rfl rfl rfl rfl rfl (hHU13.r 904 134 981 rfl) ?_
                    refine l_iload_n rfl rfl ?_
                    refine l_aload_n rfl rfl ?_
                    refine l_gfi rfl rfl rfl rfl rfl ?_
                    have w245 : (Xi U13 904 110) = (Xi T9 904 110) := (show Xi U13 904 110 = Xi U12 904 110 from by rw [eU13]; exact Xi_ne (by omega)).trans ( (show Xi U12 904 110 = Xi U11 904 110 from by rw [eU12]; exact Xi_ne (by omega)).trans ( (show Xi U11 904 110 = Xi T10 904 110 from by rw [eU11]; exact Xi_ne (by omega)).trans ((show Xi T10 904 110 = Xi T9 904 110 from w197.x _ _ rfl))))
                    rw [w245]
                    refine l_iastore (n := 24) rfl rfl (by omega) (by omega) (by unfold rg; omega) ?_
                    obtain ⟨U14, eU14⟩ : ∃ T : sS, T = uI U13 981 ((l).toNat) (Int32.ofInt (Xi T9 904 110)) := ⟨_, rfl⟩
                    rw [← eU14]
                    have hHU14 : HI U14 := by rw [eU14]; exact HI_w hHU13 (show -1 ≤ (Xi T9 904 110) by omega) (show (Xi T9 904 110) ≤ 15 by omega)
                    have hFU14 : FR md_mo_actingMeant S U14 := by rw [eU14]; exact FR.wI hFU13 (mdf_i (r := (981, 982, 0, 100000)) (List.mem_of_getElem? (i := 15) rfl) (inR_i (by omega) (by omega) (by omega) (by omega)))
                    have w246 : Xi U14 981 ((l).toNat) = (Xi T9 904 110) := by rw [eU14]; exact Xi_same (by unfold rg; omega)
                    refine l_aload_n rfl rfl ?_
                    refine l_gfr rfl rfl rfl rfl rfl (hHU14.r 904 135 982 rfl) ?_
                    refine l_iload_n rfl rfl ?_
                    refine l_aload_n rfl rfl ?_
                    refine l_gfi rfl rfl rfl rfl rfl ?_
                    have w247 : (Xi U14 904 112) = (Xi T9 904 112) := (show Xi U14 904 112 = Xi U13 904 112 from by rw [eU14]; exact Xi_ne (by omega)).trans ( (show Xi U13 904 112 = Xi U12 904 112 from by rw [eU13]; exact Xi_ne (by omega)).trans ( (show Xi U12 904 112 = Xi U11 904 112 from by rw [eU12]; exact Xi_ne (by omega)).trans ( (show Xi U11 904 112 = Xi T10 904 112 from by rw [eU11]; exact Xi_ne (by omega)).trans ((show Xi T10 904 112 = Xi T9 904 112 from w197.x _ _ rfl)))))
                    rw [w247]
                    refine l_iastore (n := 24) rfl rfl (by omega) (by omega) (by unfold rg; omega) ?_
                    obtain ⟨U15, eU15⟩ : ∃ T : sS, T = uI U14 982 ((l).toNat) (Int32.ofInt (Xi T9 904 112)) := ⟨_, rfl⟩
                    rw [← eU15]
                    have hHU15 : HI U15 := by rw [eU15]; exact HI_w hHU14 (show 0 ≤ (Xi T9 904 112) by omega) (show (Xi T9 904 112) ≤ 6 by omega)
                    have hFU15 : FR md_mo_actingMeant S U15 := by rw [eU15]; exact FR.wI hFU14 (mdf_i (r := (982, 983, 0, 100000)) (List.mem_of_getElem? (i := 16) rfl) (inR_i (by omega) (by omega) (by omega) (by omega)))
                    have w248 : Xi U15 982 ((l).toNat) = (Xi T9 904 112) := by rw [eU15]; exact Xi_same (by unfold rg; omega)
                    refine l_aload_n rfl rfl ?_
                    refine l_gfr rfl rfl rfl rfl rfl (hHU15.r 904 111 967 rfl) ?_
                    refine l_iconst rfl ?_
                    refine l_aload_n rfl rfl ?_
                    refine l_gfr rfl rfl rfl rfl rfl (hHU15.r 904 136 983 rfl) ?_
                    refine l_bipush rfl rfl ?_
                    refine l_iload_n rfl rfl ?_
                    refine l_imul rfl ?_
                    refine l_bipush rfl rfl ?_
                    refine l_acp rfl rfl rfl (acpI (A := 6) (B := 144) rfl rfl (by omega) (by omega) (by omega) (by omega) (by omega) (by omega) (by omega)) ?_
                    obtain ⟨T16, eT16⟩ : ∃ T : sS, T = cpI U15 967 983 (0 : Int).toNat ((6 * l) : Int).toNat (6 : Int).toNat := ⟨_, rfl⟩
                    rw [← eT16]
                    have hHT16 : HI T16 := by rw [eT16]; exact HI_cpI hHU15 (fun j _ _ => hHU15.c 967 _)
                    have w249 : FR [(983, 984, 0, 100000)] U15 T16 := by rw [eT16]; exact FR_cpI (by omega)
                    have hFT16 : FR md_mo_actingMeant S T16 := FR.tr hFU15 w249 rfl
                    have q457 : Xi T16 982 (l).toNat = Xi U15 982 (l).toNat := ((by assumption : FR [(983, 984, 0, 100000)] U15 T16).cx 982 rfl _).1
                    have c457 : Xi T16 982 (l).toNat ≤ 6 := (hHT16.c 982 _).2
                    have M457 := ra_cp (S := S) (l := l) eT16 (by omega) (by omega) c457 (fun i hi => (by rw [(fun j => ((FR_e eU15).cx 967 rfl j).1.trans (((FR_e eU14).cx 967 rfl j).1.trans (((FR_e eU13).cx 967 rfl j).1.trans (((FR_e eU12).cx 967 rfl j).1.trans (((FR_e eU11).cx 967 rfl j).1.trans (((w197).cx 967 rfl j).1)))))) i]; exact (R352 (by omega)).2 i (by omega))) (hFT16.x 904 23 rfl) (hFT16.x 904 32 rfl)
                    refine l_return rfl rfl ?_
                    have w250 : Xi T16 979 (l).toNat = Xi U11 979 (l).toNat := (show Xi T16 979 (l).toNat = Xi U15 979 (l).toNat from (w249.cx 979 rfl _).1).trans ( (show Xi U15 979 (l).toNat = Xi U14 979 (l).toNat from by rw [eU15]; exact Xi_ne (by omega)).trans ( (show Xi U14 979 (l).toNat = Xi U13 979 (l).toNat from by rw [eU14]; exact Xi_ne (by omega)).trans ( (show Xi U13 979 (l).toNat = Xi U12 979 (l).toNat from by rw [eU13]; exact Xi_ne (by omega)).trans ((show Xi U12 979 (l).toNat = Xi U11 979 (l).toNat from by rw [eU12]; exact Xi_ne (by omega))))))
                    have w251 : Xi T16 981 (l).toNat = Xi U14 981 (l).toNat := (show Xi T16 981 (l).toNat = Xi U15 981 (l).toNat from (w249.cx 981 rfl _).1).trans ((show Xi U15 981 (l).toNat = Xi U14 981 (l).toNat from by rw [eU15]; exact Xi_ne (by omega)))
                    have w252 : Xi T16 982 (l).toNat = Xi U15 982 (l).toNat := (show Xi T16 982 (l).toNat = Xi U15 982 (l).toNat from (w249.cx 982 rfl _).1)
                    have w253 : Xi T16 904 102 = Xi T9 904 102 := (show Xi T16 904 102 = Xi U15 904 102 from w249.x _ _ rfl).trans ( (show Xi U15 904 102 = Xi U14 904 102 from by rw [eU15]; exact Xi_ne (by omega)).trans ( (show Xi U14 904 102 = Xi U13 904 102 from by rw [eU14]; exact Xi_ne (by omega)).trans ( (show Xi U13 904 102 = Xi U12 904 102 from by rw [eU13]; exact Xi_ne (by omega)).trans ( (show Xi U12 904 102 = Xi U11 904 102 from by rw [eU12]; exact Xi_ne (by omega)).trans ( (show Xi U11 904 102 = Xi T10 904 102 from by rw [eU11]; exact Xi_ne (by omega)).trans ((show Xi T10 904 102 = Xi T9 904 102 from w197.x _ _ rfl)))))))
                    have w254 : 0 ≤ Xi T9 904 102 ∧ Xi T9 904 102 ≤ 2600 := hHT9.c _ _
                    have w255 : Xi T16 904 103 = Xi T9 904 103 := (show Xi T16 904 103 = Xi U15 904 103 from w249.x _ _ rfl).trans ( (show Xi U15 904 103 = Xi U14 904 103 from by rw [eU15]; exact Xi_ne (by omega)).trans ( (show Xi U14 904 103 = Xi U13 904 103 from by rw [eU14]; exact Xi_ne (by omega)).trans ( (show Xi U13 904 103 = Xi U12 904 103 from by rw [eU13]; exact Xi_ne (by omega)).trans ( (show Xi U12 904 103 = Xi U11 904 103 from by rw [eU12]; exact Xi_ne (by omega)).trans ( (show Xi U11 904 103 = Xi T10 904 103 from by rw [eU11]; exact Xi_ne (by omega)).trans ((show Xi T10 904 103 = Xi T9 904 103 from w197.x _ _ rfl)))))))
                    have w256 : -1 ≤ Xi T9 904 103 ∧ Xi T9 904 103 ≤ 2600 := hHT9.c _ _
                    have w257 : Xi T16 904 106 = Xi T10 904 106 := (show Xi T16 904 106 = Xi U15 904 106 from w249.x _ _ rfl).trans ( (show Xi U15 904 106 = Xi U14 904 106 from by rw [eU15]; exact Xi_ne (by omega)).trans ( (show Xi U14 904 106 = Xi U13 904 106 from by rw [eU14]; exact Xi_ne (by omega)).trans ( (show Xi U13 904 106 = Xi U12 904 106 from by rw [eU13]; exact Xi_ne (by omega)).trans ( (show Xi U12 904 106 = Xi U11 904 106 from by rw [eU12]; exact Xi_ne (by omega)).trans ((show Xi U11 904 106 = Xi T10 904 106 from by rw [eU11]; exact Xi_ne (by omega)))))))
                    have w258 : 0 ≤ Xi T10 904 106 ∧ Xi T10 904 106 ≤ 9 := hHT10.c _ _
                    have w259 : Xi T16 904 116 = Xi U13 904 116 := (show Xi T16 904 116 = Xi U15 904 116 from w249.x _ _ rfl).trans ( (show Xi U15 904 116 = Xi U14 904 116 from by rw [eU15]; exact Xi_ne (by omega)).trans ((show Xi U14 904 116 = Xi U13 904 116 from by rw [eU14]; exact Xi_ne (by omega))))
                    have w260 : -1 ≤ Xi U13 904 116 ∧ Xi U13 904 116 ≤ 15 := hHU13.c _ _
                    have w261 : Xi T16 904 128 = Xi T9 904 128 := (show Xi T16 904 128 = Xi U15 904 128 from w249.x _ _ rfl).trans ( (show Xi U15 904 128 = Xi U14 904 128 from by rw [eU15]; exact Xi_ne (by omega)).trans ( (show Xi U14 904 128 = Xi U13 904 128 from by rw [eU14]; exact Xi_ne (by omega)).trans ( (show Xi U13 904 128 = Xi U12 904 128 from by rw [eU13]; exact Xi_ne (by omega)).trans ( (show Xi U12 904 128 = Xi U11 904 128 from by rw [eU12]; exact Xi_ne (by omega)).trans ( (show Xi U11 904 128 = Xi T10 904 128 from by rw [eU11]; exact Xi_ne (by omega)).trans ((show Xi T10 904 128 = Xi T9 904 128 from w197.x _ _ rfl)))))))
                    have w262 : 0 ≤ Xi T9 904 128 ∧ Xi T9 904 128 ≤ 11 := hHT9.c _ _
                    have w263 : Xi T16 904 129 = Xi T9 904 129 := (show Xi T16 904 129 = Xi U15 904 129 from w249.x _ _ rfl).trans ( (show Xi U15 904 129 = Xi U14 904 129 from by rw [eU15]; exact Xi_ne (by omega)).trans ( (show Xi U14 904 129 = Xi U13 904 129 from by rw [eU14]; exact Xi_ne (by omega)).trans ( (show Xi U13 904 129 = Xi U12 904 129 from by rw [eU13]; exact Xi_ne (by omega)).trans ( (show Xi U12 904 129 = Xi U11 904 129 from by rw [eU12]; exact Xi_ne (by omega)).trans ( (show Xi U11 904 129 = Xi T10 904 129 from by rw [eU11]; exact Xi_ne (by omega)).trans ((show Xi T10 904 129 = Xi T9 904 129 from w197.x _ _ rfl)))))))
                    have w264 : -1 ≤ Xi T9 904 129 ∧ Xi T9 904 129 ≤ 23 := hHT9.c _ _
                    have w265 : Xi T16 904 69 = Xi T9 904 69 := (show Xi T16 904 69 = Xi U15 904 69 from w249.x _ _ rfl).trans ( (show Xi U15 904 69 = Xi U14 904 69 from by rw [eU15]; exact Xi_ne (by omega)).trans ( (show Xi U14 904 69 = Xi U13 904 69 from by rw [eU14]; exact Xi_ne (by omega)).trans ( (show Xi U13 904 69 = Xi U12 904 69 from by rw [eU13]; exact Xi_ne (by omega)).trans ( (show Xi U12 904 69 = Xi U11 904 69 from by rw [eU12]; exact Xi_ne (by omega)).trans ( (show Xi U11 904 69 = Xi T10 904 69 from by rw [eU11]; exact Xi_ne (by omega)).trans ((show Xi T10 904 69 = Xi T9 904 69 from w197.x _ _ rfl)))))))
                    have w266 : 0 ≤ Xi T9 904 69 ∧ Xi T9 904 69 ≤ 2600 := hHT9.c _ _
                    have w267 : Xi T16 904 70 = Xi T9 904 70 := (show Xi T16 904 70 = Xi U15 904 70 from w249.x _ _ rfl).trans ( (show Xi U15 904 70 = Xi U14 904 70 from by rw [eU15]; exact Xi_ne (by omega)).trans ( (show Xi U14 904 70 = Xi U13 904 70 from by rw [eU14]; exact Xi_ne (by omega)).trans ( (show Xi U13 904 70 = Xi U12 904 70 from by rw [eU13]; exact Xi_ne (by omega)).trans ( (show Xi U12 904 70 = Xi U11 904 70 from by rw [eU12]; exact Xi_ne (by omega)).trans ( (show Xi U11 904 70 = Xi T10 904 70 from by rw [eU11]; exact Xi_ne (by omega)).trans ((show Xi T10 904 70 = Xi T9 904 70 from w197.x _ _ rfl)))))))
                    have w268 : 0 ≤ Xi T9 904 70 ∧ Xi T9 904 70 ≤ 20 := hHT9.c _ _
                    exact ⟨hHT16, hFT16, rfl, (by omega), (by first | exact (fun _ => rz_1 (nm_i (S := S) (a := v3) (by omega) (by omega) (by omega) (fun j => (hFT16.cx 942 rfl j).1)) M457) M457 | exact rz_0 (by omega) (by omega)), (by omega), (by omega), (by first | exact fun x => absurd x (by omega) | exact fun x => nm_i (S := S) (a := v3) (by omega) (by omega) (by omega) (fun j => (hFT16.cx 942 rfl j).1) | exact fun x => (by have t := A105 (by omega); exact nm_i (S := S) (a := Xi T2 904 128) (by omega) t.1.1 (by first | exact t.2.2 (by omega) | exact m160 (by omega)) (fun j => (hFT16.cx 942 rfl j).1))), ((KRL.cp (KRL.w (KRL.w (KRL.w (KRL.w (KRL.w (KRL_FR w197 rfl (by assumption : KRL T9 S _)) eU11 (by omega)) eU12 (by omega)) eU13 (by omega)) eU14 (by omega)) eU15 (by omega)) eT16 (by omega) (by omega)))⟩
              · refine l_aload_n rfl rfl ?_
                refine l_gfi rfl rfl rfl rfl rfl ?_
                have w269 : (Xi U12 904 110) = (Xi T9 904 110) := (show Xi U12 904 110 = Xi U11 904 110 from by rw [eU12]; exact Xi_ne (by omega)).trans ( (show Xi U11 904 110 = Xi T10 904 110 from by rw [eU11]; exact Xi_ne (by omega)).trans ((show Xi T10 904 110 = Xi T9 904 110 from w197.x _ _ rfl)))
                rw [w269]
                refine l_goto rfl rfl ?_
                refine l_pfi rfl rfl rfl rfl ?_
                obtain ⟨U17, eU17⟩ : ∃ T : sS, T = uI U12 904 116 (Int32.ofInt (Xi T9 904 110)) := ⟨_, rfl⟩
                rw [← eU17]
                have hHU17 : HI U17 := by rw [eU17]; exact HI_w hHU12 (show -1 ≤ (Xi T9 904 110) by omega) (show (Xi T9 904 110) ≤ 15 by omega)
                have hFU17 : FR md_mo_actingMeant S U17 := by rw [eU17]; exact FR.wI hFU12 (mdf_i (r := (904, 905, 116, 117)) (List.mem_of_getElem? (i := 8) rfl) (inR_i (by omega) (by omega) (by omega) (by omega)))
                have w270 : Xi U17 904 116 = (Xi T9 904 110) := by rw [eU17]; exact Xi_same (by unfold rg; omega)
                refine l_iload rfl rfl ?_
                refine l_if_eq rfl rfl (by unfold rg; omega) (fun w271 => ?_) (fun w272 => ?_)
                · refine l_return rfl rfl ?_
                  have w273 : Xi U17 979 (l).toNat = Xi U11 979 (l).toNat := (show Xi U17 979 (l).toNat = Xi U12 979 (l).toNat from by rw [eU17]; exact Xi_ne (by omega)).trans ((show Xi U12 979 (l).toNat = Xi U11 979 (l).toNat from by rw [eU12]; exact Xi_ne (by omega)))
                  have w274 : Xi U17 981 (l).toNat = Xi T9 981 (l).toNat := (show Xi U17 981 (l).toNat = Xi U12 981 (l).toNat from by rw [eU17]; exact Xi_ne (by omega)).trans ( (show Xi U12 981 (l).toNat = Xi U11 981 (l).toNat from by rw [eU12]; exact Xi_ne (by omega)).trans ( (show Xi U11 981 (l).toNat = Xi T10 981 (l).toNat from by rw [eU11]; exact Xi_ne (by omega)).trans ((show Xi T10 981 (l).toNat = Xi T9 981 (l).toNat from (w197.cx 981 rfl _).1))))
                  have w275 : Xi U17 982 (l).toNat = Xi T9 982 (l).toNat := (show Xi U17 982 (l).toNat = Xi U12 982 (l).toNat from by rw [eU17]; exact Xi_ne (by omega)).trans ( (show Xi U12 982 (l).toNat = Xi U11 982 (l).toNat from by rw [eU12]; exact Xi_ne (by omega)).trans ( (show Xi U11 982 (l).toNat = Xi T10 982 (l).toNat from by rw [eU11]; exact Xi_ne (by omega)).trans ((show Xi T10 982 (l).toNat = Xi T9 982 (l).toNat from (w197.cx 982 rfl _).1))))
                  have w276 : Xi U17 904 102 = Xi T9 904 102 := (show Xi U17 904 102 = Xi U12 904 102 from by rw [eU17]; exact Xi_ne (by omega)).trans ( (show Xi U12 904 102 = Xi U11 904 102 from by rw [eU12]; exact Xi_ne (by omega)).trans ( (show Xi U11 904 102 = Xi T10 904 102 from by rw [eU11]; exact Xi_ne (by omega)).trans ((show Xi T10 904 102 = Xi T9 904 102 from w197.x _ _ rfl))))
                  have w277 : 0 ≤ Xi T9 904 102 ∧ Xi T9 904 102 ≤ 2600 := hHT9.c _ _
                  have w278 : Xi U17 904 103 = Xi T9 904 103 := (show Xi U17 904 103 = Xi U12 904 103 from by rw [eU17]; exact Xi_ne (by omega)).trans ( (show Xi U12 904 103 = Xi U11 904 103 from by rw [eU12]; exact Xi_ne (by omega)).trans ( (show Xi U11 904 103 = Xi T10 904 103 from by rw [eU11]; exact Xi_ne (by omega)).trans ((show Xi T10 904 103 = Xi T9 904 103 from w197.x _ _ rfl))))
                  have w279 : -1 ≤ Xi T9 904 103 ∧ Xi T9 904 103 ≤ 2600 := hHT9.c _ _
                  have w280 : Xi U17 904 106 = Xi T10 904 106 := (show Xi U17 904 106 = Xi U12 904 106 from by rw [eU17]; exact Xi_ne (by omega)).trans ( (show Xi U12 904 106 = Xi U11 904 106 from by rw [eU12]; exact Xi_ne (by omega)).trans ((show Xi U11 904 106 = Xi T10 904 106 from by rw [eU11]; exact Xi_ne (by omega))))
                  have w281 : 0 ≤ Xi T10 904 106 ∧ Xi T10 904 106 ≤ 9 := hHT10.c _ _
                  have w282 : -1 ≤ Xi U17 904 116 ∧ Xi U17 904 116 ≤ 15 := hHU17.c _ _
                  have w283 : Xi U17 904 128 = Xi T9 904 128 := (show Xi U17 904 128 = Xi U12 904 128 from by rw [eU17]; exact Xi_ne (by omega)).trans ( (show Xi U12 904 128 = Xi U11 904 128 from by rw [eU12]; exact Xi_ne (by omega)).trans ( (show Xi U11 904 128 = Xi T10 904 128 from by rw [eU11]; exact Xi_ne (by omega)).trans ((show Xi T10 904 128 = Xi T9 904 128 from w197.x _ _ rfl))))
                  have w284 : 0 ≤ Xi T9 904 128 ∧ Xi T9 904 128 ≤ 11 := hHT9.c _ _
                  have w285 : Xi U17 904 129 = Xi T9 904 129 := (show Xi U17 904 129 = Xi U12 904 129 from by rw [eU17]; exact Xi_ne (by omega)).trans ( (show Xi U12 904 129 = Xi U11 904 129 from by rw [eU12]; exact Xi_ne (by omega)).trans ( (show Xi U11 904 129 = Xi T10 904 129 from by rw [eU11]; exact Xi_ne (by omega)).trans ((show Xi T10 904 129 = Xi T9 904 129 from w197.x _ _ rfl))))
                  have w286 : -1 ≤ Xi T9 904 129 ∧ Xi T9 904 129 ≤ 23 := hHT9.c _ _
                  have w287 : Xi U17 904 69 = Xi T9 904 69 := (show Xi U17 904 69 = Xi U12 904 69 from by rw [eU17]; exact Xi_ne (by omega)).trans ( (show Xi U12 904 69 = Xi U11 904 69 from by rw [eU12]; exact Xi_ne (by omega)).trans ( (show Xi U11 904 69 = Xi T10 904 69 from by rw [eU11]; exact Xi_ne (by omega)).trans ((show Xi T10 904 69 = Xi T9 904 69 from w197.x _ _ rfl))))
                  have w288 : 0 ≤ Xi T9 904 69 ∧ Xi T9 904 69 ≤ 2600 := hHT9.c _ _
                  have w289 : Xi U17 904 70 = Xi T9 904 70 := (show Xi U17 904 70 = Xi U12 904 70 from by rw [eU17]; exact Xi_ne (by omega)).trans ( (show Xi U12 904 70 = Xi U11 904 70 from by rw [eU12]; exact Xi_ne (by omega)).trans ( (show Xi U11 904 70 = Xi T10 904 70 from by rw [eU11]; exact Xi_ne (by omega)).trans ((show Xi T10 904 70 = Xi T9 904 70 from w197.x _ _ rfl))))
                  have w290 : 0 ≤ Xi T9 904 70 ∧ Xi T9 904 70 ≤ 20 := hHT9.c _ _
                  exact ⟨hHU17, hFU17, rfl, (by omega), (by first | exact (fun _ => rz_1 (nm_i (S := S) (a := v3) (by omega) (by omega) (by omega) (fun j => (hFU17.cx 942 rfl j).1)) M457) M457 | exact rz_0 (by omega) (by omega)), (by omega), (by omega), (by first | exact fun x => absurd x (by omega) | exact fun x => nm_i (S := S) (a := v3) (by omega) (by omega) (by omega) (fun j => (hFU17.cx 942 rfl j).1) | exact fun x => (by have t := A105 (by omega); exact nm_i (S := S) (a := Xi T2 904 128) (by omega) t.1.1 (by first | exact t.2.2 (by omega) | exact m160 (by omega)) (fun j => (hFU17.cx 942 rfl j).1))), ((KRL.w (KRL.w (KRL.w (KRL_FR w197 rfl (by assumption : KRL T9 S _)) eU11 (by omega)) eU12 (by omega)) eU17 (by omega)))⟩
                · refine l_iload rfl rfl ?_
                  refine l_iconst rfl ?_
                  refine l_icmp_ne rfl rfl (by unfold rg; omega) (by unfold rg; omega) (fun w291 => ?_) (fun w292 => ?_)
                  · refine l_return rfl rfl ?_
                    have w293 : Xi U17 979 (l).toNat = Xi U11 979 (l).toNat := (show Xi U17 979 (l).toNat = Xi U12 979 (l).toNat from by rw [eU17]; exact Xi_ne (by omega)).trans ((show Xi U12 979 (l).toNat = Xi U11 979 (l).toNat from by rw [eU12]; exact Xi_ne (by omega)))
                    have w294 : Xi U17 981 (l).toNat = Xi T9 981 (l).toNat := (show Xi U17 981 (l).toNat = Xi U12 981 (l).toNat from by rw [eU17]; exact Xi_ne (by omega)).trans ( (show Xi U12 981 (l).toNat = Xi U11 981 (l).toNat from by rw [eU12]; exact Xi_ne (by omega)).trans ( (show Xi U11 981 (l).toNat = Xi T10 981 (l).toNat from by rw [eU11]; exact Xi_ne (by omega)).trans ((show Xi T10 981 (l).toNat = Xi T9 981 (l).toNat from (w197.cx 981 rfl _).1))))
                    have w295 : Xi U17 982 (l).toNat = Xi T9 982 (l).toNat := (show Xi U17 982 (l).toNat = Xi U12 982 (l).toNat from by rw [eU17]; exact Xi_ne (by omega)).trans ( (show Xi U12 982 (l).toNat = Xi U11 982 (l).toNat from by rw [eU12]; exact Xi_ne (by omega)).trans ( (show Xi U11 982 (l).toNat = Xi T10 982 (l).toNat from by rw [eU11]; exact Xi_ne (by omega)).trans ((show Xi T10 982 (l).toNat = Xi T9 982 (l).toNat from (w197.cx 982 rfl _).1))))
                    have w296 : Xi U17 904 102 = Xi T9 904 102 := (show Xi U17 904 102 = Xi U12 904 102 from by rw [eU17]; exact Xi_ne (by omega)).trans ( (show Xi U12 904 102 = Xi U11 904 102 from by rw [eU12]; exact Xi_ne (by omega)).trans ( (show Xi U11 904 102 = Xi T10 904 102 from by rw [eU11]; exact Xi_ne (by omega)).trans ((show Xi T10 904 102 = Xi T9 904 102 from w197.x _ _ rfl))))
                    have w297 : 0 ≤ Xi T9 904 102 ∧ Xi T9 904 102 ≤ 2600 := hHT9.c _ _
                    have w298 : Xi U17 904 103 = Xi T9 904 103 := (show Xi U17 904 103 = Xi U12 904 103 from by rw [eU17]; exact Xi_ne (by omega)).trans ( (show Xi U12 904 103 = Xi U11 904 103 from by rw [eU12]; exact Xi_ne (by omega)).trans ( (show Xi U11 904 103 = Xi T10 904 103 from by rw [eU11]; exact Xi_ne (by omega)).trans ((show Xi T10 904 103 = Xi T9 904 103 from w197.x _ _ rfl))))
                    have w299 : -1 ≤ Xi T9 904 103 ∧ Xi T9 904 103 ≤ 2600 := hHT9.c _ _
                    have w300 : Xi U17 904 106 = Xi T10 904 106 := (show Xi U17 904 106 = Xi U12 904 106 from by rw [eU17]; exact Xi_ne (by omega)).trans ( (show Xi U12 904 106 = Xi U11 904 106 from by rw [eU12]; exact Xi_ne (by omega)).trans ((show Xi U11 904 106 = Xi T10 904 106 from by rw [eU11]; exact Xi_ne (by omega))))
                    have w301 : 0 ≤ Xi T10 904 106 ∧ Xi T10 904 106 ≤ 9 := hHT10.c _ _
                    have w302 : -1 ≤ Xi U17 904 116 ∧ Xi U17 904 116 ≤ 15 := hHU17.c _ _
                    have w303 : Xi U17 904 128 = Xi T9 904 128 := (show Xi U17 904 128 = Xi U12 904 128 from by rw [eU17]; exact Xi_ne (by omega)).trans ( (show Xi U12 904 128 = Xi U11 904 128 from by rw [eU12]; exact Xi_ne (by omega)).trans ( (show Xi U11 904 128 = Xi T10 904 128 from by rw [eU11]; exact Xi_ne (by omega)).trans ((show Xi T10 904 128 = Xi T9 904 128 from w197.x _ _ rfl))))
                    have w304 : 0 ≤ Xi T9 904 128 ∧ Xi T9 904 128 ≤ 11 := hHT9.c _ _
                    have w305 : Xi U17 904 129 = Xi T9 904 129 := (show Xi U17 904 129 = Xi U12 904 129 from by rw [eU17]; exact Xi_ne (by omega)).trans ( (show Xi U12 904 129 = Xi U11 904 129 from by rw [eU12]; exact Xi_ne (by omega)).trans ( (show Xi U11 904 129 = Xi T10 904 129 from by rw [eU11]; exact Xi_ne (by omega)).trans ((show Xi T10 904 129 = Xi T9 904 129 from w197.x _ _ rfl))))
                    have w306 : -1 ≤ Xi T9 904 129 ∧ Xi T9 904 129 ≤ 23 := hHT9.c _ _
                    have w307 : Xi U17 904 69 = Xi T9 904 69 := (show Xi U17 904 69 = Xi U12 904 69 from by rw [eU17]; exact Xi_ne (by omega)).trans ( (show Xi U12 904 69 = Xi U11 904 69 from by rw [eU12]; exact Xi_ne (by omega)).trans ( (show Xi U11 904 69 = Xi T10 904 69 from by rw [eU11]; exact Xi_ne (by omega)).trans ((show Xi T10 904 69 = Xi T9 904 69 from w197.x _ _ rfl))))
                    have w308 : 0 ≤ Xi T9 904 69 ∧ Xi T9 904 69 ≤ 2600 := hHT9.c _ _
                    have w309 : Xi U17 904 70 = Xi T9 904 70 := (show Xi U17 904 70 = Xi U12 904 70 from by rw [eU17]; exact Xi_ne (by omega)).trans ( (show Xi U12 904 70 = Xi U11 904 70 from by rw [eU12]; exact Xi_ne (by omega)).trans ( (show Xi U11 904 70 = Xi T10 904 70 from by rw [eU11]; exact Xi_ne (by omega)).trans ((show Xi T10 904 70 = Xi T9 904 70 from w197.x _ _ rfl))))
                    have w310 : 0 ≤ Xi T9 904 70 ∧ Xi T9 904 70 ≤ 20 := hHT9.c _ _
                    exact ⟨hHU17, hFU17, rfl, (by omega), (by first | exact (fun _ => rz_1 (nm_i (S := S) (a := v3) (by omega) (by omega) (by omega) (fun j => (hFU17.cx 942 rfl j).1)) M457) M457 | exact rz_0 (by omega) (by omega)), (by omega), (by omega), (by first | exact fun x => absurd x (by omega) | exact fun x => nm_i (S := S) (a := v3) (by omega) (by omega) (by omega) (fun j => (hFU17.cx 942 rfl j).1) | exact fun x => (by have t := A105 (by omega); exact nm_i (S := S) (a := Xi T2 904 128) (by omega) t.1.1 (by first | exact t.2.2 (by omega) | exact m160 (by omega)) (fun j => (hFU17.cx 942 rfl j).1))), ((KRL.w (KRL.w (KRL.w (KRL_FR w197 rfl (by assumption : KRL T9 S _)) eU11 (by omega)) eU12 (by omega)) eU17 (by omega)))⟩
                  · refine l_aload_n rfl rfl ?_
                    refine l_gfr rfl rfl rfl rfl rfl (hHU17.r 904 134 981 rfl) ?_
                    refine l_iload_n rfl rfl ?_
                    refine l_aload_n rfl rfl ?_
                    refine l_gfi rfl rfl rfl rfl rfl ?_
                    have w311 : (Xi U17 904 110) = (Xi T9 904 110) := (show Xi U17 904 110 = Xi U12 904 110 from by rw [eU17]; exact Xi_ne (by omega)).trans ( (show Xi U12 904 110 = Xi U11 904 110 from by rw [eU12]; exact Xi_ne (by omega)).trans ( (show Xi U11 904 110 = Xi T10 904 110 from by rw [eU11]; exact Xi_ne (by omega)).trans ((show Xi T10 904 110 = Xi T9 904 110 from w197.x _ _ rfl))))
                    rw [w311]
                    refine l_iastore (n := 24) rfl rfl (by omega) (by omega) (by unfold rg; omega) ?_
                    obtain ⟨U18, eU18⟩ : ∃ T : sS, T = uI U17 981 ((l).toNat) (Int32.ofInt (Xi T9 904 110)) := ⟨_, rfl⟩
                    rw [← eU18]
                    have hHU18 : HI U18 := by rw [eU18]; exact HI_w hHU17 (show -1 ≤ (Xi T9 904 110) by omega) (show (Xi T9 904 110) ≤ 15 by omega)
                    have hFU18 : FR md_mo_actingMeant S U18 := by rw [eU18]; exact FR.wI hFU17 (mdf_i (r := (981, 982, 0, 100000)) (List.mem_of_getElem? (i := 15) rfl) (inR_i (by omega) (by omega) (by omega) (by omega)))
                    have w312 : Xi U18 981 ((l).toNat) = (Xi T9 904 110) := by rw [eU18]; exact Xi_same (by unfold rg; omega)
                    refine l_aload_n rfl rfl ?_
                    refine l_gfr rfl rfl rfl rfl rfl (hHU18.r 904 135 982 rfl) ?_
                    refine l_iload_n rfl rfl ?_
                    refine l_aload_n rfl rfl ?_
                    refine l_gfi rfl rfl rfl rfl rfl ?_
                    have w313 : (Xi U18 904 112) = (Xi T9 904 112) := (show Xi U18 904 112 = Xi U17 904 112 from by rw [eU18]; exact Xi_ne (by omega)).trans ( (show Xi U17 904 112 = Xi U12 904 112 from by rw [eU17]; exact Xi_ne (by omega)).trans ( (show Xi U12 904 112 = Xi U11 904 112 from by rw [eU12]; exact Xi_ne (by omega)).trans ( (show Xi U11 904 112 = Xi T10 904 112 from by rw [eU11]; exact Xi_ne (by omega)).trans ((show Xi T10 904 112 = Xi T9 904 112 from w197.x _ _ rfl)))))
                    rw [w313]
                    refine l_iastore (n := 24) rfl rfl (by omega) (by omega) (by unfold rg; omega) ?_
                    obtain ⟨U19, eU19⟩ : ∃ T : sS, T = uI U18 982 ((l).toNat) (Int32.ofInt (Xi T9 904 112)) := ⟨_, rfl⟩
                    rw [← eU19]
                    have hHU19 : HI U19 := by rw [eU19]; exact HI_w hHU18 (show 0 ≤ (Xi T9 904 112) by omega) (show (Xi T9 904 112) ≤ 6 by omega)
                    have hFU19 : FR md_mo_actingMeant S U19 := by rw [eU19]; exact FR.wI hFU18 (mdf_i (r := (982, 983, 0, 100000)) (List.mem_of_getElem? (i := 16) rfl) (inR_i (by omega) (by omega) (by omega) (by omega)))
                    have w314 : Xi U19 982 ((l).toNat) = (Xi T9 904 112) := by rw [eU19]; exact Xi_same (by unfold rg; omega)
                    refine l_aload_n rfl rfl ?_
                    refine l_gfr rfl rfl rfl rfl rfl (hHU19.r 904 111 967 rfl) ?_
                    refine l_iconst rfl ?_
                    refine l_aload_n rfl rfl ?_
                    refine l_gfr rfl rfl rfl rfl rfl (hHU19.r 904 136 983 rfl) ?_
                    refine l_bipush rfl rfl ?_
                    refine l_iload_n rfl rfl ?_
                    refine l_imul rfl ?_
                    refine l_bipush rfl rfl ?_
                    refine l_acp rfl rfl rfl (acpI (A := 6) (B := 144) rfl rfl (by omega) (by omega) (by omega) (by omega) (by omega) (by omega) (by omega)) ?_
                    obtain ⟨T20, eT20⟩ : ∃ T : sS, T = cpI U19 967 983 (0 : Int).toNat ((6 * l) : Int).toNat (6 : Int).toNat := ⟨_, rfl⟩
                    rw [← eT20]
                    have hHT20 : HI T20 := by rw [eT20]; exact HI_cpI hHU19 (fun j _ _ => hHU19.c 967 _)
                    have w315 : FR [(983, 984, 0, 100000)] U19 T20 := by rw [eT20]; exact FR_cpI (by omega)
                    have hFT20 : FR md_mo_actingMeant S T20 := FR.tr hFU19 w315 rfl
                    have q457 : Xi T20 982 (l).toNat = Xi U19 982 (l).toNat := ((by assumption : FR [(983, 984, 0, 100000)] U19 T20).cx 982 rfl _).1
                    have c457 : Xi T20 982 (l).toNat ≤ 6 := (hHT20.c 982 _).2
                    have M457 := ra_cp (S := S) (l := l) eT20 (by omega) (by omega) c457 (fun i hi => (by rw [(fun j => ((FR_e eU19).cx 967 rfl j).1.trans (((FR_e eU18).cx 967 rfl j).1.trans (((FR_e eU17).cx 967 rfl j).1.trans (((FR_e eU12).cx 967 rfl j).1.trans (((FR_e eU11).cx 967 rfl j).1.trans (((w197).cx 967 rfl j).1)))))) i]; exact (R352 (by omega)).2 i (by omega))) (hFT20.x 904 23 rfl) (hFT20.x 904 32 rfl)
                    refine l_return rfl rfl ?_
                    have w316 : Xi T20 979 (l).toNat = Xi U11 979 (l).toNat := (show Xi T20 979 (l).toNat = Xi U19 979 (l).toNat from (w315.cx 979 rfl _).1).trans ( (show Xi U19 979 (l).toNat = Xi U18 979 (l).toNat from by rw [eU19]; exact Xi_ne (by omega)).trans ( (show Xi U18 979 (l).toNat = Xi U17 979 (l).toNat from by rw [eU18]; exact Xi_ne (by omega)).trans ( (show Xi U17 979 (l).toNat = Xi U12 979 (l).toNat from by rw [eU17]; exact Xi_ne (by omega)).trans ((show Xi U12 979 (l).toNat = Xi U11 979 (l).toNat from by rw [eU12]; exact Xi_ne (by omega))))))
                    have w317 : Xi T20 981 (l).toNat = Xi U18 981 (l).toNat := (show Xi T20 981 (l).toNat = Xi U19 981 (l).toNat from (w315.cx 981 rfl _).1).trans ((show Xi U19 981 (l).toNat = Xi U18 981 (l).toNat from by rw [eU19]; exact Xi_ne (by omega)))
                    have w318 : Xi T20 982 (l).toNat = Xi U19 982 (l).toNat := (show Xi T20 982 (l).toNat = Xi U19 982 (l).toNat from (w315.cx 982 rfl _).1)
                    have w319 : Xi T20 904 102 = Xi T9 904 102 := (show Xi T20 904 102 = Xi U19 904 102 from w315.x _ _ rfl).trans ( (show Xi U19 904 102 = Xi U18 904 102 from by rw [eU19]; exact Xi_ne (by omega)).trans ( (show Xi U18 904 102 = Xi U17 904 102 from by rw [eU18]; exact Xi_ne (by omega)).trans ( (show Xi U17 904 102 = Xi U12 904 102 from by rw [eU17]; exact Xi_ne (by omega)).trans ( (show Xi U12 904 102 = Xi U11 904 102 from by rw [eU12]; exact Xi_ne (by omega)).trans ( (show Xi U11 904 102 = Xi T10 904 102 from by rw [eU11]; exact Xi_ne (by omega)).trans ((show Xi T10 904 102 = Xi T9 904 102 from w197.x _ _ rfl)))))))
                    have w320 : 0 ≤ Xi T9 904 102 ∧ Xi T9 904 102 ≤ 2600 := hHT9.c _ _
                    have w321 : Xi T20 904 103 = Xi T9 904 103 := (show Xi T20 904 103 = Xi U19 904 103 from w315.x _ _ rfl).trans ( (show Xi U19 904 103 = Xi U18 904 103 from by rw [eU19]; exact Xi_ne (by omega)).trans ( (show Xi U18 904 103 = Xi U17 904 103 from by rw [eU18]; exact Xi_ne (by omega)).trans ( (show Xi U17 904 103 = Xi U12 904 103 from by rw [eU17]; exact Xi_ne (by omega)).trans ( (show Xi U12 904 103 = Xi U11 904 103 from by rw [eU12]; exact Xi_ne (by omega)).trans ( (show Xi U11 904 103 = Xi T10 904 103 from by rw [eU11]; exact Xi_ne (by omega)).trans ((show Xi T10 904 103 = Xi T9 904 103 from w197.x _ _ rfl)))))))
                    have w322 : -1 ≤ Xi T9 904 103 ∧ Xi T9 904 103 ≤ 2600 := hHT9.c _ _
                    have w323 : Xi T20 904 106 = Xi T10 904 106 := (show Xi T20 904 106 = Xi U19 904 106 from w315.x _ _ rfl).trans ( (show Xi U19 904 106 = Xi U18 904 106 from by rw [eU19]; exact Xi_ne (by omega)).trans ( (show Xi U18 904 106 = Xi U17 904 106 from by rw [eU18]; exact Xi_ne (by omega)).trans ( (show Xi U17 904 106 = Xi U12 904 106 from by rw [eU17]; exact Xi_ne (by omega)).trans ( (show Xi U12 904 106 = Xi U11 904 106 from by rw [eU12]; exact Xi_ne (by omega)).trans ((show Xi U11 904 106 = Xi T10 904 106 from by rw [eU11]; exact Xi_ne (by omega)))))))
                    have w324 : 0 ≤ Xi T10 904 106 ∧ Xi T10 904 106 ≤ 9 := hHT10.c _ _
                    have w325 : Xi T20 904 116 = Xi U17 904 116 := (show Xi T20 904 116 = Xi U19 904 116 from w315.x _ _ rfl).trans ( (show Xi U19 904 116 = Xi U18 904 116 from by rw [eU19]; exact Xi_ne (by omega)).trans ((show Xi U18 904 116 = Xi U17 904 116 from by rw [eU18]; exact Xi_ne (by omega))))
                    have w326 : -1 ≤ Xi U17 904 116 ∧ Xi U17 904 116 ≤ 15 := hHU17.c _ _
                    have w327 : Xi T20 904 128 = Xi T9 904 128 := (show Xi T20 904 128 = Xi U19 904 128 from w315.x _ _ rfl).trans ( (show Xi U19 904 128 = Xi U18 904 128 from by rw [eU19]; exact Xi_ne (by omega)).trans ( (show Xi U18 904 128 = Xi U17 904 128 from by rw [eU18]; exact Xi_ne (by omega)).trans ( (show Xi U17 904 128 = Xi U12 904 128 from by rw [eU17]; exact Xi_ne (by omega)).trans ( (show Xi U12 904 128 = Xi U11 904 128 from by rw [eU12]; exact Xi_ne (by omega)).trans ( (show Xi U11 904 128 = Xi T10 904 128 from by rw [eU11]; exact Xi_ne (by omega)).trans ((show Xi T10 904 128 = Xi T9 904 128 from w197.x _ _ rfl)))))))
                    have w328 : 0 ≤ Xi T9 904 128 ∧ Xi T9 904 128 ≤ 11 := hHT9.c _ _
                    have w329 : Xi T20 904 129 = Xi T9 904 129 := (show Xi T20 904 129 = Xi U19 904 129 from w315.x _ _ rfl).trans ( (show Xi U19 904 129 = Xi U18 904 129 from by rw [eU19]; exact Xi_ne (by omega)).trans ( (show Xi U18 904 129 = Xi U17 904 129 from by rw [eU18]; exact Xi_ne (by omega)).trans ( (show Xi U17 904 129 = Xi U12 904 129 from by rw [eU17]; exact Xi_ne (by omega)).trans ( (show Xi U12 904 129 = Xi U11 904 129 from by rw [eU12]; exact Xi_ne (by omega)).trans ( (show Xi U11 904 129 = Xi T10 904 129 from by rw [eU11]; exact Xi_ne (by omega)).trans ((show Xi T10 904 129 = Xi T9 904 129 from w197.x _ _ rfl)))))))
                    have w330 : -1 ≤ Xi T9 904 129 ∧ Xi T9 904 129 ≤ 23 := hHT9.c _ _
                    have w331 : Xi T20 904 69 = Xi T9 904 69 := (show Xi T20 904 69 = Xi U19 904 69 from w315.x _ _ rfl).trans ( (show Xi U19 904 69 = Xi U18 904 69 from by rw [eU19]; exact Xi_ne (by omega)).trans ( (show Xi U18 904 69 = Xi U17 904 69 from by rw [eU18]; exact Xi_ne (by omega)).trans ( (show Xi U17 904 69 = Xi U12 904 69 from by rw [eU17]; exact Xi_ne (by omega)).trans ( (show Xi U12 904 69 = Xi U11 904 69 from by rw [eU12]; exact Xi_ne (by omega)).trans ( (show Xi U11 904 69 = Xi T10 904 69 from by rw [eU11]; exact Xi_ne (by omega)).trans ((show Xi T10 904 69 = Xi T9 904 69 from w197.x _ _ rfl)))))))
                    have w332 : 0 ≤ Xi T9 904 69 ∧ Xi T9 904 69 ≤ 2600 := hHT9.c _ _
                    have w333 : Xi T20 904 70 = Xi T9 904 70 := (show Xi T20 904 70 = Xi U19 904 70 from w315.x _ _ rfl).trans ( (show Xi U19 904 70 = Xi U18 904 70 from by rw [eU19]; exact Xi_ne (by omega)).trans ( (show Xi U18 904 70 = Xi U17 904 70 from by rw [eU18]; exact Xi_ne (by omega)).trans ( (show Xi U17 904 70 = Xi U12 904 70 from by rw [eU17]; exact Xi_ne (by omega)).trans ( (show Xi U12 904 70 = Xi U11 904 70 from by rw [eU12]; exact Xi_ne (by omega)).trans ( (show Xi U11 904 70 = Xi T10 904 70 from by rw [eU11]; exact Xi_ne (by omega)).trans ((show Xi T10 904 70 = Xi T9 904 70 from w197.x _ _ rfl)))))))
                    have w334 : 0 ≤ Xi T9 904 70 ∧ Xi T9 904 70 ≤ 20 := hHT9.c _ _
                    exact ⟨hHT20, hFT20, rfl, (by omega), (by first | exact (fun _ => rz_1 (nm_i (S := S) (a := v3) (by omega) (by omega) (by omega) (fun j => (hFT20.cx 942 rfl j).1)) M457) M457 | exact rz_0 (by omega) (by omega)), (by omega), (by omega), (by first | exact fun x => absurd x (by omega) | exact fun x => nm_i (S := S) (a := v3) (by omega) (by omega) (by omega) (fun j => (hFT20.cx 942 rfl j).1) | exact fun x => (by have t := A105 (by omega); exact nm_i (S := S) (a := Xi T2 904 128) (by omega) t.1.1 (by first | exact t.2.2 (by omega) | exact m160 (by omega)) (fun j => (hFT20.cx 942 rfl j).1))), ((KRL.cp (KRL.w (KRL.w (KRL.w (KRL.w (KRL.w (KRL_FR w197 rfl (by assumption : KRL T9 S _)) eU11 (by omega)) eU12 (by omega)) eU17 (by omega)) eU18 (by omega)) eU19 (by omega)) eT20 (by omega) (by omega)))⟩
            · refine l_aload_n rfl rfl ?_
              refine l_gfr rfl rfl rfl rfl rfl (hHU12.r 904 20 918 rfl) ?_
              refine l_iload rfl rfl ?_
              refine l_iaload (n := 24) rfl rfl (by omega) (by omega) (by unfold rg; omega) ?_
              have w335 : 0 ≤ (Xi U12 918 ((v5).toNat)) ∧ (Xi U12 918 ((v5).toNat)) ≤ 15 := hHU12.c _ _
              refine l_goto rfl rfl ?_
              refine l_pfi rfl rfl rfl rfl ?_
              obtain ⟨U21, eU21⟩ : ∃ T : sS, T = uI U12 904 116 (Int32.ofInt (Xi U12 918 ((v5).toNat))) := ⟨_, rfl⟩
              rw [← eU21]
              have hHU21 : HI U21 := by rw [eU21]; exact HI_w hHU12 (show -1 ≤ (Xi U12 918 ((v5).toNat)) by omega) (show (Xi U12 918 ((v5).toNat)) ≤ 15 by omega)
              have hFU21 : FR md_mo_actingMeant S U21 := by rw [eU21]; exact FR.wI hFU12 (mdf_i (r := (904, 905, 116, 117)) (List.mem_of_getElem? (i := 8) rfl) (inR_i (by omega) (by omega) (by omega) (by omega)))
              have w336 : Xi U21 904 116 = (Xi U12 918 ((v5).toNat)) := by rw [eU21]; exact Xi_same (by unfold rg; omega)
              refine l_iload rfl rfl ?_
              refine l_if_eq rfl rfl (by unfold rg; omega) (fun w337 => ?_) (fun w338 => ?_)
              · refine l_return rfl rfl ?_
                have w339 : Xi U21 979 (l).toNat = Xi U11 979 (l).toNat := (show Xi U21 979 (l).toNat = Xi U12 979 (l).toNat from by rw [eU21]; exact Xi_ne (by omega)).trans ((show Xi U12 979 (l).toNat = Xi U11 979 (l).toNat from by rw [eU12]; exact Xi_ne (by omega)))
                have w340 : Xi U21 981 (l).toNat = Xi T9 981 (l).toNat := (show Xi U21 981 (l).toNat = Xi U12 981 (l).toNat from by rw [eU21]; exact Xi_ne (by omega)).trans ( (show Xi U12 981 (l).toNat = Xi U11 981 (l).toNat from by rw [eU12]; exact Xi_ne (by omega)).trans ( (show Xi U11 981 (l).toNat = Xi T10 981 (l).toNat from by rw [eU11]; exact Xi_ne (by omega)).trans ((show Xi T10 981 (l).toNat = Xi T9 981 (l).toNat from (w197.cx 981 rfl _).1))))
                have w341 : Xi U21 982 (l).toNat = Xi T9 982 (l).toNat := (show Xi U21 982 (l).toNat = Xi U12 982 (l).toNat from by rw [eU21]; exact Xi_ne (by omega)).trans ( (show Xi U12 982 (l).toNat = Xi U11 982 (l).toNat from by rw [eU12]; exact Xi_ne (by omega)).trans ( (show Xi U11 982 (l).toNat = Xi T10 982 (l).toNat from by rw [eU11]; exact Xi_ne (by omega)).trans ((show Xi T10 982 (l).toNat = Xi T9 982 (l).toNat from (w197.cx 982 rfl _).1))))
                have w342 : Xi U21 904 102 = Xi T9 904 102 := (show Xi U21 904 102 = Xi U12 904 102 from by rw [eU21]; exact Xi_ne (by omega)).trans ( (show Xi U12 904 102 = Xi U11 904 102 from by rw [eU12]; exact Xi_ne (by omega)).trans ( (show Xi U11 904 102 = Xi T10 904 102 from by rw [eU11]; exact Xi_ne (by omega)).trans ((show Xi T10 904 102 = Xi T9 904 102 from w197.x _ _ rfl))))
                have w343 : 0 ≤ Xi T9 904 102 ∧ Xi T9 904 102 ≤ 2600 := hHT9.c _ _
                have w344 : Xi U21 904 103 = Xi T9 904 103 := (show Xi U21 904 103 = Xi U12 904 103 from by rw [eU21]; exact Xi_ne (by omega)).trans ( (show Xi U12 904 103 = Xi U11 904 103 from by rw [eU12]; exact Xi_ne (by omega)).trans ( (show Xi U11 904 103 = Xi T10 904 103 from by rw [eU11]; exact Xi_ne (by omega)).trans ((show Xi T10 904 103 = Xi T9 904 103 from w197.x _ _ rfl))))
                have w345 : -1 ≤ Xi T9 904 103 ∧ Xi T9 904 103 ≤ 2600 := hHT9.c _ _
                have w346 : Xi U21 904 106 = Xi T10 904 106 := (show Xi U21 904 106 = Xi U12 904 106 from by rw [eU21]; exact Xi_ne (by omega)).trans ( (show Xi U12 904 106 = Xi U11 904 106 from by rw [eU12]; exact Xi_ne (by omega)).trans ((show Xi U11 904 106 = Xi T10 904 106 from by rw [eU11]; exact Xi_ne (by omega))))
                have w347 : 0 ≤ Xi T10 904 106 ∧ Xi T10 904 106 ≤ 9 := hHT10.c _ _
                have w348 : -1 ≤ Xi U21 904 116 ∧ Xi U21 904 116 ≤ 15 := hHU21.c _ _
                have w349 : Xi U21 904 128 = Xi T9 904 128 := (show Xi U21 904 128 = Xi U12 904 128 from by rw [eU21]; exact Xi_ne (by omega)).trans ( (show Xi U12 904 128 = Xi U11 904 128 from by rw [eU12]; exact Xi_ne (by omega)).trans ( (show Xi U11 904 128 = Xi T10 904 128 from by rw [eU11]; exact Xi_ne (by omega)).trans ((show Xi T10 904 128 = Xi T9 904 128 from w197.x _ _ rfl))))
                have w350 : 0 ≤ Xi T9 904 128 ∧ Xi T9 904 128 ≤ 11 := hHT9.c _ _
                have w351 : Xi U21 904 129 = Xi T9 904 129 := (show Xi U21 904 129 = Xi U12 904 129 from by rw [eU21]; exact Xi_ne (by omega)).trans ( (show Xi U12 904 129 = Xi U11 904 129 from by rw [eU12]; exact Xi_ne (by omega)).trans ( (show Xi U11 904 129 = Xi T10 904 129 from by rw [eU11]; exact Xi_ne (by omega)).trans ((show Xi T10 904 129 = Xi T9 904 129 from w197.x _ _ rfl))))
                have w352 : -1 ≤ Xi T9 904 129 ∧ Xi T9 904 129 ≤ 23 := hHT9.c _ _
                have w353 : Xi U21 904 69 = Xi T9 904 69 := (show Xi U21 904 69 = Xi U12 904 69 from by rw [eU21]; exact Xi_ne (by omega)).trans ( (show Xi U12 904 69 = Xi U11 904 69 from by rw [eU12]; exact Xi_ne (by omega)).trans ( (show Xi U11 904 69 = Xi T10 904 69 from by rw [eU11]; exact Xi_ne (by omega)).trans ((show Xi T10 904 69 = Xi T9 904 69 from w197.x _ _ rfl))))
                have w354 : 0 ≤ Xi T9 904 69 ∧ Xi T9 904 69 ≤ 2600 := hHT9.c _ _
                have w355 : Xi U21 904 70 = Xi T9 904 70 := (show Xi U21 904 70 = Xi U12 904 70 from by rw [eU21]; exact Xi_ne (by omega)).trans ( (show Xi U12 904 70 = Xi U11 904 70 from by rw [eU12]; exact Xi_ne (by omega)).trans ( (show Xi U11 904 70 = Xi T10 904 70 from by rw [eU11]; exact Xi_ne (by omega)).trans ((show Xi T10 904 70 = Xi T9 904 70 from w197.x _ _ rfl))))
                have w356 : 0 ≤ Xi T9 904 70 ∧ Xi T9 904 70 ≤ 20 := hHT9.c _ _
                exact ⟨hHU21, hFU21, rfl, (by omega), (by first | exact (fun _ => rz_1 (nm_i (S := S) (a := v3) (by omega) (by omega) (by omega) (fun j => (hFU21.cx 942 rfl j).1)) M457) M457 | exact rz_0 (by omega) (by omega)), (by omega), (by omega), (by first | exact fun x => absurd x (by omega) | exact fun x => nm_i (S := S) (a := v3) (by omega) (by omega) (by omega) (fun j => (hFU21.cx 942 rfl j).1) | exact fun x => (by have t := A105 (by omega); exact nm_i (S := S) (a := Xi T2 904 128) (by omega) t.1.1 (by first | exact t.2.2 (by omega) | exact m160 (by omega)) (fun j => (hFU21.cx 942 rfl j).1))), ((KRL.w (KRL.w (KRL.w (KRL_FR w197 rfl (by assumption : KRL T9 S _)) eU11 (by omega)) eU12 (by omega)) eU21 (by omega)))⟩
              · refine l_iload rfl rfl ?_
                refine l_iconst rfl ?_
                refine l_icmp_ne rfl rfl (by unfold rg; omega) (by unfold rg; omega) (fun w357 => ?_) (fun w358 => ?_)
                · refine l_return rfl rfl ?_
                  have w359 : Xi U21 979 (l).toNat = Xi U11 979 (l).toNat := (show Xi U21 979 (l).toNat = Xi U12 979 (l).toNat from by rw [eU21]; exact Xi_ne (by omega)).trans ((show Xi U12 979 (l).toNat = Xi U11 979 (l).toNat from by rw [eU12]; exact Xi_ne (by omega)))
                  have w360 : Xi U21 981 (l).toNat = Xi T9 981 (l).toNat := (show Xi U21 981 (l).toNat = Xi U12 981 (l).toNat from by rw [eU21]; exact Xi_ne (by omega)).trans ( (show Xi U12 981 (l).toNat = Xi U11 981 (l).toNat from by rw [eU12]; exact Xi_ne (by omega)).trans ( (show Xi U11 981 (l).toNat = Xi T10 981 (l).toNat from by rw [eU11]; exact Xi_ne (by omega)).trans ((show Xi T10 981 (l).toNat = Xi T9 981 (l).toNat from (w197.cx 981 rfl _).1))))
                  have w361 : Xi U21 982 (l).toNat = Xi T9 982 (l).toNat := (show Xi U21 982 (l).toNat = Xi U12 982 (l).toNat from by rw [eU21]; exact Xi_ne (by omega)).trans ( (show Xi U12 982 (l).toNat = Xi U11 982 (l).toNat from by rw [eU12]; exact Xi_ne (by omega)).trans ( (show Xi U11 982 (l).toNat = Xi T10 982 (l).toNat from by rw [eU11]; exact Xi_ne (by omega)).trans ((show Xi T10 982 (l).toNat = Xi T9 982 (l).toNat from (w197.cx 982 rfl _).1))))
                  have w362 : Xi U21 904 102 = Xi T9 904 102 := (show Xi U21 904 102 = Xi U12 904 102 from by rw [eU21]; exact Xi_ne (by omega)).trans ( (show Xi U12 904 102 = Xi U11 904 102 from by rw [eU12]; exact Xi_ne (by omega)).trans ( (show Xi U11 904 102 = Xi T10 904 102 from by rw [eU11]; exact Xi_ne (by omega)).trans ((show Xi T10 904 102 = Xi T9 904 102 from w197.x _ _ rfl))))
                  have w363 : 0 ≤ Xi T9 904 102 ∧ Xi T9 904 102 ≤ 2600 := hHT9.c _ _
                  have w364 : Xi U21 904 103 = Xi T9 904 103 := (show Xi U21 904 103 = Xi U12 904 103 from by rw [eU21]; exact Xi_ne (by omega)).trans ( (show Xi U12 904 103 = Xi U11 904 103 from by rw [eU12]; exact Xi_ne (by omega)).trans ( (show Xi U11 904 103 = Xi T10 904 103 from by rw [eU11]; exact Xi_ne (by omega)).trans ((show Xi T10 904 103 = Xi T9 904 103 from w197.x _ _ rfl))))
                  have w365 : -1 ≤ Xi T9 904 103 ∧ Xi T9 904 103 ≤ 2600 := hHT9.c _ _
                  have w366 : Xi U21 904 106 = Xi T10 904 106 := (show Xi U21 904 106 = Xi U12 904 106 from by rw [eU21]; exact Xi_ne (by omega)).trans ( (show Xi U12 904 106 = Xi U11 904 106 from by rw [eU12]; exact Xi_ne (by omega)).trans ((show Xi U11 904 106 = Xi T10 904 106 from by rw [eU11]; exact Xi_ne (by omega))))
                  have w367 : 0 ≤ Xi T10 904 106 ∧ Xi T10 904 106 ≤ 9 := hHT10.c _ _
                  have w368 : -1 ≤ Xi U21 904 116 ∧ Xi U21 904 116 ≤ 15 := hHU21.c _ _
                  have w369 : Xi U21 904 128 = Xi T9 904 128 := (show Xi U21 904 128 = Xi U12 904 128 from by rw [eU21]; exact Xi_ne (by omega)).trans ( (show Xi U12 904 128 = Xi U11 904 128 from by rw [eU12]; exact Xi_ne (by omega)).trans ( (show Xi U11 904 128 = Xi T10 904 128 from by rw [eU11]; exact Xi_ne (by omega)).trans ((show Xi T10 904 128 = Xi T9 904 128 from w197.x _ _ rfl))))
                  have w370 : 0 ≤ Xi T9 904 128 ∧ Xi T9 904 128 ≤ 11 := hHT9.c _ _
                  have w371 : Xi U21 904 129 = Xi T9 904 129 := (show Xi U21 904 129 = Xi U12 904 129 from by rw [eU21]; exact Xi_ne (by omega)).trans ( (show Xi U12 904 129 = Xi U11 904 129 from by rw [eU12]; exact Xi_ne (by omega)).trans ( (show Xi U11 904 129 = Xi T10 904 129 from by rw [eU11]; exact Xi_ne (by omega)).trans ((show Xi T10 904 129 = Xi T9 904 129 from w197.x _ _ rfl))))
                  have w372 : -1 ≤ Xi T9 904 129 ∧ Xi T9 904 129 ≤ 23 := hHT9.c _ _
                  have w373 : Xi U21 904 69 = Xi T9 904 69 := (show Xi U21 904 69 = Xi U12 904 69 from by rw [eU21]; exact Xi_ne (by omega)).trans ( (show Xi U12 904 69 = Xi U11 904 69 from by rw [eU12]; exact Xi_ne (by omega)).trans ( (show Xi U11 904 69 = Xi T10 904 69 from by rw [eU11]; exact Xi_ne (by omega)).trans ((show Xi T10 904 69 = Xi T9 904 69 from w197.x _ _ rfl))))
                  have w374 : 0 ≤ Xi T9 904 69 ∧ Xi T9 904 69 ≤ 2600 := hHT9.c _ _
                  have w375 : Xi U21 904 70 = Xi T9 904 70 := (show Xi U21 904 70 = Xi U12 904 70 from by rw [eU21]; exact Xi_ne (by omega)).trans ( (show Xi U12 904 70 = Xi U11 904 70 from by rw [eU12]; exact Xi_ne (by omega)).trans ( (show Xi U11 904 70 = Xi T10 904 70 from by rw [eU11]; exact Xi_ne (by omega)).trans ((show Xi T10 904 70 = Xi T9 904 70 from w197.x _ _ rfl))))
                  have w376 : 0 ≤ Xi T9 904 70 ∧ Xi T9 904 70 ≤ 20 := hHT9.c _ _
                  exact ⟨hHU21, hFU21, rfl, (by omega), (by first | exact (fun _ => rz_1 (nm_i (S := S) (a := v3) (by omega) (by omega) (by omega) (fun j => (hFU21.cx 942 rfl j).1)) M457) M457 | exact rz_0 (by omega) (by omega)), (by omega), (by omega), (by first | exact fun x => absurd x (by omega) | exact fun x => nm_i (S := S) (a := v3) (by omega) (by omega) (by omega) (fun j => (hFU21.cx 942 rfl j).1) | exact fun x => (by have t := A105 (by omega); exact nm_i (S := S) (a := Xi T2 904 128) (by omega) t.1.1 (by first | exact t.2.2 (by omega) | exact m160 (by omega)) (fun j => (hFU21.cx 942 rfl j).1))), ((KRL.w (KRL.w (KRL.w (KRL_FR w197 rfl (by assumption : KRL T9 S _)) eU11 (by omega)) eU12 (by omega)) eU21 (by omega)))⟩
                · refine l_aload_n rfl rfl ?_
                  refine l_gfr rfl rfl rfl rfl rfl (hHU21.r 904 134 981 rfl) ?_
                  refine l_iload_n rfl rfl ?_
                  refine l_aload_n rfl rfl ?_
                  refine l_gfi rfl rfl rfl rfl rfl ?_
                  have w377 : (Xi U21 904 110) = (Xi T9 904 110) := (show Xi U21 904 110 = Xi U12 904 110 from by rw [eU21]; exact Xi_ne (by omega)).trans ( (show Xi U12 904 110 = Xi U11 904 110 from by rw [eU12]; exact Xi_ne (by omega)).trans ( (show Xi U11 904 110 = Xi T10 904 110 from by rw [eU11]; exact Xi_ne (by omega)).trans ((show Xi T10 904 110 = Xi T9 904 110 from w197.x _ _ rfl))))
                  rw [w377]
                  refine l_iastore (n := 24) rfl rfl (by omega) (by omega) (by unfold rg; omega) ?_
                  obtain ⟨U22, eU22⟩ : ∃ T : sS, T = uI U21 981 ((l).toNat) (Int32.ofInt (Xi T9 904 110)) := ⟨_, rfl⟩
                  rw [← eU22]
                  have hHU22 : HI U22 := by rw [eU22]; exact HI_w hHU21 (show -1 ≤ (Xi T9 904 110) by omega) (show (Xi T9 904 110) ≤ 15 by omega)
                  have hFU22 : FR md_mo_actingMeant S U22 := by rw [eU22]; exact FR.wI hFU21 (mdf_i (r := (981, 982, 0, 100000)) (List.mem_of_getElem? (i := 15) rfl) (inR_i (by omega) (by omega) (by omega) (by omega)))
                  have w378 : Xi U22 981 ((l).toNat) = (Xi T9 904 110) := by rw [eU22]; exact Xi_same (by unfold rg; omega)
                  refine l_aload_n rfl rfl ?_
                  refine l_gfr rfl rfl rfl rfl rfl (hHU22.r 904 135 982 rfl) ?_
                  refine l_iload_n rfl rfl ?_
                  refine l_aload_n rfl rfl ?_
                  refine l_gfi rfl rfl rfl rfl rfl ?_
                  have w379 : (Xi U22 904 112) = (Xi T9 904 112) := (show Xi U22 904 112 = Xi U21 904 112 from by rw [eU22]; exact Xi_ne (by omega)).trans ( (show Xi U21 904 112 = Xi U12 904 112 from by rw [eU21]; exact Xi_ne (by omega)).trans ( (show Xi U12 904 112 = Xi U11 904 112 from by rw [eU12]; exact Xi_ne (by omega)).trans ( (show Xi U11 904 112 = Xi T10 904 112 from by rw [eU11]; exact Xi_ne (by omega)).trans ((show Xi T10 904 112 = Xi T9 904 112 from w197.x _ _ rfl)))))
                  rw [w379]
                  refine l_iastore (n := 24) rfl rfl (by omega) (by omega) (by unfold rg; omega) ?_
                  obtain ⟨U23, eU23⟩ : ∃ T : sS, T = uI U22 982 ((l).toNat) (Int32.ofInt (Xi T9 904 112)) := ⟨_, rfl⟩
                  rw [← eU23]
                  have hHU23 : HI U23 := by rw [eU23]; exact HI_w hHU22 (show 0 ≤ (Xi T9 904 112) by omega) (show (Xi T9 904 112) ≤ 6 by omega)
                  have hFU23 : FR md_mo_actingMeant S U23 := by rw [eU23]; exact FR.wI hFU22 (mdf_i (r := (982, 983, 0, 100000)) (List.mem_of_getElem? (i := 16) rfl) (inR_i (by omega) (by omega) (by omega) (by omega)))
                  have w380 : Xi U23 982 ((l).toNat) = (Xi T9 904 112) := by rw [eU23]; exact Xi_same (by unfold rg; omega)
                  refine l_aload_n rfl rfl ?_
                  refine l_gfr rfl rfl rfl rfl rfl (hHU23.r 904 111 967 rfl) ?_
                  refine l_iconst rfl ?_
                  refine l_aload_n rfl rfl ?_
                  refine l_gfr rfl rfl rfl rfl rfl (hHU23.r 904 136 983 rfl) ?_
                  refine l_bipush rfl rfl ?_
                  refine l_iload_n rfl rfl ?_
                  refine l_imul rfl ?_
                  refine l_bipush rfl rfl ?_
                  refine l_acp rfl rfl rfl (acpI (A := 6) (B := 144) rfl rfl (by omega) (by omega) (by omega) (by omega) (by omega) (by omega) (by omega)) ?_
                  obtain ⟨T24, eT24⟩ : ∃ T : sS, T = cpI U23 967 983 (0 : Int).toNat ((6 * l) : Int).toNat (6 : Int).toNat := ⟨_, rfl⟩
                  rw [← eT24]
                  have hHT24 : HI T24 := by rw [eT24]; exact HI_cpI hHU23 (fun j _ _ => hHU23.c 967 _)
                  have w381 : FR [(983, 984, 0, 100000)] U23 T24 := by rw [eT24]; exact FR_cpI (by omega)
                  have hFT24 : FR md_mo_actingMeant S T24 := FR.tr hFU23 w381 rfl
                  have q457 : Xi T24 982 (l).toNat = Xi U23 982 (l).toNat := ((by assumption : FR [(983, 984, 0, 100000)] U23 T24).cx 982 rfl _).1
                  have c457 : Xi T24 982 (l).toNat ≤ 6 := (hHT24.c 982 _).2
                  have M457 := ra_cp (S := S) (l := l) eT24 (by omega) (by omega) c457 (fun i hi => (by rw [(fun j => ((FR_e eU23).cx 967 rfl j).1.trans (((FR_e eU22).cx 967 rfl j).1.trans (((FR_e eU21).cx 967 rfl j).1.trans (((FR_e eU12).cx 967 rfl j).1.trans (((FR_e eU11).cx 967 rfl j).1.trans (((w197).cx 967 rfl j).1)))))) i]; exact (R352 (by omega)).2 i (by omega))) (hFT24.x 904 23 rfl) (hFT24.x 904 32 rfl)
                  refine l_return rfl rfl ?_
                  have w382 : Xi T24 979 (l).toNat = Xi U11 979 (l).toNat := (show Xi T24 979 (l).toNat = Xi U23 979 (l).toNat from (w381.cx 979 rfl _).1).trans ( (show Xi U23 979 (l).toNat = Xi U22 979 (l).toNat from by rw [eU23]; exact Xi_ne (by omega)).trans ( (show Xi U22 979 (l).toNat = Xi U21 979 (l).toNat from by rw [eU22]; exact Xi_ne (by omega)).trans ( (show Xi U21 979 (l).toNat = Xi U12 979 (l).toNat from by rw [eU21]; exact Xi_ne (by omega)).trans ((show Xi U12 979 (l).toNat = Xi U11 979 (l).toNat from by rw [eU12]; exact Xi_ne (by omega))))))
                  have w383 : Xi T24 981 (l).toNat = Xi U22 981 (l).toNat := (show Xi T24 981 (l).toNat = Xi U23 981 (l).toNat from (w381.cx 981 rfl _).1).trans ((show Xi U23 981 (l).toNat = Xi U22 981 (l).toNat from by rw [eU23]; exact Xi_ne (by omega)))
                  have w384 : Xi T24 982 (l).toNat = Xi U23 982 (l).toNat := (show Xi T24 982 (l).toNat = Xi U23 982 (l).toNat from (w381.cx 982 rfl _).1)
                  have w385 : Xi T24 904 102 = Xi T9 904 102 := (show Xi T24 904 102 = Xi U23 904 102 from w381.x _ _ rfl).trans ( (show Xi U23 904 102 = Xi U22 904 102 from by rw [eU23]; exact Xi_ne (by omega)).trans ( (show Xi U22 904 102 = Xi U21 904 102 from by rw [eU22]; exact Xi_ne (by omega)).trans ( (show Xi U21 904 102 = Xi U12 904 102 from by rw [eU21]; exact Xi_ne (by omega)).trans ( (show Xi U12 904 102 = Xi U11 904 102 from by rw [eU12]; exact Xi_ne (by omega)).trans ( (show Xi U11 904 102 = Xi T10 904 102 from by rw [eU11]; exact Xi_ne (by omega)).trans ((show Xi T10 904 102 = Xi T9 904 102 from w197.x _ _ rfl)))))))
                  have w386 : 0 ≤ Xi T9 904 102 ∧ Xi T9 904 102 ≤ 2600 := hHT9.c _ _
                  have w387 : Xi T24 904 103 = Xi T9 904 103 := (show Xi T24 904 103 = Xi U23 904 103 from w381.x _ _ rfl).trans ( (show Xi U23 904 103 = Xi U22 904 103 from by rw [eU23]; exact Xi_ne (by omega)).trans ( (show Xi U22 904 103 = Xi U21 904 103 from by rw [eU22]; exact Xi_ne (by omega)).trans ( (show Xi U21 904 103 = Xi U12 904 103 from by rw [eU21]; exact Xi_ne (by omega)).trans ( (show Xi U12 904 103 = Xi U11 904 103 from by rw [eU12]; exact Xi_ne (by omega)).trans ( (show Xi U11 904 103 = Xi T10 904 103 from by rw [eU11]; exact Xi_ne (by omega)).trans ((show Xi T10 904 103 = Xi T9 904 103 from w197.x _ _ rfl)))))))
                  have w388 : -1 ≤ Xi T9 904 103 ∧ Xi T9 904 103 ≤ 2600 := hHT9.c _ _
                  have w389 : Xi T24 904 106 = Xi T10 904 106 := (show Xi T24 904 106 = Xi U23 904 106 from w381.x _ _ rfl).trans ( (show Xi U23 904 106 = Xi U22 904 106 from by rw [eU23]; exact Xi_ne (by omega)).trans ( (show Xi U22 904 106 = Xi U21 904 106 from by rw [eU22]; exact Xi_ne (by omega)).trans ( (show Xi U21 904 106 = Xi U12 904 106 from by rw [eU21]; exact Xi_ne (by omega)).trans ( (show Xi U12 904 106 = Xi U11 904 106 from by rw [eU12]; exact Xi_ne (by omega)).trans ((show Xi U11 904 106 = Xi T10 904 106 from by rw [eU11]; exact Xi_ne (by omega)))))))
                  have w390 : 0 ≤ Xi T10 904 106 ∧ Xi T10 904 106 ≤ 9 := hHT10.c _ _
                  have w391 : Xi T24 904 116 = Xi U21 904 116 := (show Xi T24 904 116 = Xi U23 904 116 from w381.x _ _ rfl).trans ( (show Xi U23 904 116 = Xi U22 904 116 from by rw [eU23]; exact Xi_ne (by omega)).trans ((show Xi U22 904 116 = Xi U21 904 116 from by rw [eU22]; exact Xi_ne (by omega))))
                  have w392 : -1 ≤ Xi U21 904 116 ∧ Xi U21 904 116 ≤ 15 := hHU21.c _ _
                  have w393 : Xi T24 904 128 = Xi T9 904 128 := (show Xi T24 904 128 = Xi U23 904 128 from w381.x _ _ rfl).trans ( (show Xi U23 904 128 = Xi U22 904 128 from by rw [eU23]; exact Xi_ne (by omega)).trans ( (show Xi U22 904 128 = Xi U21 904 128 from by rw [eU22]; exact Xi_ne (by omega)).trans ( (show Xi U21 904 128 = Xi U12 904 128 from by rw [eU21]; exact Xi_ne (by omega)).trans ( (show Xi U12 904 128 = Xi U11 904 128 from by rw [eU12]; exact Xi_ne (by omega)).trans ( (show Xi U11 904 128 = Xi T10 904 128 from by rw [eU11]; exact Xi_ne (by omega)).trans ((show Xi T10 904 128 = Xi T9 904 128 from w197.x _ _ rfl)))))))
                  have w394 : 0 ≤ Xi T9 904 128 ∧ Xi T9 904 128 ≤ 11 := hHT9.c _ _
                  have w395 : Xi T24 904 129 = Xi T9 904 129 := (show Xi T24 904 129 = Xi U23 904 129 from w381.x _ _ rfl).trans ( (show Xi U23 904 129 = Xi U22 904 129 from by rw [eU23]; exact Xi_ne (by omega)).trans ( (show Xi U22 904 129 = Xi U21 904 129 from by rw [eU22]; exact Xi_ne (by omega)).trans ( (show Xi U21 904 129 = Xi U12 904 129 from by rw [eU21]; exact Xi_ne (by omega)).trans ( (show Xi U12 904 129 = Xi U11 904 129 from by rw [eU12]; exact Xi_ne (by omega)).trans ( (show Xi U11 904 129 = Xi T10 904 129 from by rw [eU11]; exact Xi_ne (by omega)).trans ((show Xi T10 904 129 = Xi T9 904 129 from w197.x _ _ rfl)))))))
                  have w396 : -1 ≤ Xi T9 904 129 ∧ Xi T9 904 129 ≤ 23 := hHT9.c _ _
                  have w397 : Xi T24 904 69 = Xi T9 904 69 := (show Xi T24 904 69 = Xi U23 904 69 from w381.x _ _ rfl).trans ( (show Xi U23 904 69 = Xi U22 904 69 from by rw [eU23]; exact Xi_ne (by omega)).trans ( (show Xi U22 904 69 = Xi U21 904 69 from by rw [eU22]; exact Xi_ne (by omega)).trans ( (show Xi U21 904 69 = Xi U12 904 69 from by rw [eU21]; exact Xi_ne (by omega)).trans ( (show Xi U12 904 69 = Xi U11 904 69 from by rw [eU12]; exact Xi_ne (by omega)).trans ( (show Xi U11 904 69 = Xi T10 904 69 from by rw [eU11]; exact Xi_ne (by omega)).trans ((show Xi T10 904 69 = Xi T9 904 69 from w197.x _ _ rfl)))))))
                  have w398 : 0 ≤ Xi T9 904 69 ∧ Xi T9 904 69 ≤ 2600 := hHT9.c _ _
                  have w399 : Xi T24 904 70 = Xi T9 904 70 := (show Xi T24 904 70 = Xi U23 904 70 from w381.x _ _ rfl).trans ( (show Xi U23 904 70 = Xi U22 904 70 from by rw [eU23]; exact Xi_ne (by omega)).trans ( (show Xi U22 904 70 = Xi U21 904 70 from by rw [eU22]; exact Xi_ne (by omega)).trans ( (show Xi U21 904 70 = Xi U12 904 70 from by rw [eU21]; exact Xi_ne (by omega)).trans ( (show Xi U12 904 70 = Xi U11 904 70 from by rw [eU12]; exact Xi_ne (by omega)).trans ( (show Xi U11 904 70 = Xi T10 904 70 from by rw [eU11]; exact Xi_ne (by omega)).trans ((show Xi T10 904 70 = Xi T9 904 70 from w197.x _ _ rfl)))))))
                  have w400 : 0 ≤ Xi T9 904 70 ∧ Xi T9 904 70 ≤ 20 := hHT9.c _ _
                  exact ⟨hHT24, hFT24, rfl, (by omega), (by first | exact (fun _ => rz_1 (nm_i (S := S) (a := v3) (by omega) (by omega) (by omega) (fun j => (hFT24.cx 942 rfl j).1)) M457) M457 | exact rz_0 (by omega) (by omega)), (by omega), (by omega), (by first | exact fun x => absurd x (by omega) | exact fun x => nm_i (S := S) (a := v3) (by omega) (by omega) (by omega) (fun j => (hFT24.cx 942 rfl j).1) | exact fun x => (by have t := A105 (by omega); exact nm_i (S := S) (a := Xi T2 904 128) (by omega) t.1.1 (by first | exact t.2.2 (by omega) | exact m160 (by omega)) (fun j => (hFT24.cx 942 rfl j).1))), ((KRL.cp (KRL.w (KRL.w (KRL.w (KRL.w (KRL.w (KRL_FR w197 rfl (by assumption : KRL T9 S _)) eU11 (by omega)) eU12 (by omega)) eU21 (by omega)) eU22 (by omega)) eU23 (by omega)) eT24 (by omega) (by omega)))⟩
          refine l_aload_n rfl rfl ?_
          refine l_iconst rfl ?_
          refine l_pfi rfl rfl rfl rfl ?_
          obtain ⟨U25, eU25⟩ : ∃ T : sS, T = uI T8 904 109 (Int32.ofInt 0) := ⟨_, rfl⟩
          rw [← eU25]
          have hHU25 : HI U25 := by rw [eU25]; exact HI_any hHT8 (rfl)
          have hFU25 : FR md_mo_actingMeant S U25 := by rw [eU25]; exact FR.wI hFT8 (mdf_i (r := (904, 905, 109, 110)) (List.mem_of_getElem? (i := 4) rfl) (inR_i (by omega) (by omega) (by omega) (by omega)))
          have w401 : Xi U25 904 109 = 0 := by rw [eU25]; exact Xi_same (by unfold rg; omega)
          refine l_aload_n rfl rfl ?_
          refine l_aload_n rfl rfl ?_
          refine l_gfr rfl rfl rfl rfl rfl (hHU25.r 904 67 950 rfl) ?_
          refine l_iload rfl rfl ?_
          refine l_iaload (n := 2600) rfl rfl (by omega) (by omega) (by unfold rg; omega) ?_
          have w402 : 0 ≤ (Xi U25 950 ((v4).toNat)) ∧ (Xi U25 950 ((v4).toNat)) ≤ 5010 := hHU25.c _ _
          have e299 : (Xi U25 950 ((v4).toNat)) = Xi S 950 (v4).toNat := by first | rfl | exact (hFU25.cx 950 rfl _).1 | exact (hFT8.cx 950 rfl _).1 | exact (hFT8.cx 950 rfl _).1
          have g299 := hrf v4 (by omega) (by omega)
          refine l_aload_n rfl rfl ?_
          refine l_gfr rfl rfl rfl rfl rfl (hHU25.r 904 68 951 rfl) ?_
          refine l_iload rfl rfl ?_
          refine l_iaload (n := 2600) rfl rfl (by omega) (by omega) (by unfold rg; omega) ?_
          have w403 : 0 ≤ (Xi U25 951 ((v4).toNat)) ∧ (Xi U25 951 ((v4).toNat)) ≤ 5010 := hHU25.c _ _
          have e306 : (Xi U25 951 ((v4).toNat)) = Xi S 951 (v4).toNat := by first | rfl | exact (hFU25.cx 951 rfl _).1 | exact (hFT8.cx 951 rfl _).1 | exact (hFT8.cx 951 rfl _).1
          refine l_iconst rfl ?_
          refine l_iconst rfl ?_
          refine l_aload_n rfl rfl ?_
          refine l_gfr rfl rfl rfl rfl rfl (hHU25.r 904 50 942 rfl) ?_
          refine l_iload_n rfl rfl ?_
          refine l_iaload (n := 12) rfl rfl (by omega) (by omega) (by unfold rg; omega) ?_
          have w404 : -2 ≤ (Xi U25 942 ((v3).toNat)) ∧ (Xi U25 942 ((v3).toNat)) ≤ 15 := hHU25.c _ _
          have e314 : (Xi U25 942 ((v3).toNat)) = Xi S 942 (v3).toNat := by first | rfl | exact (hFU25.cx 942 rfl _).1 | exact (hFT8.cx 942 rfl _).1 | exact (hFT8.cx 942 rfl _).1
          have w405 : Xi U25 904 102 = Xi T8 904 102 := (show Xi U25 904 102 = Xi T8 904 102 from by rw [eU25]; exact Xi_ne (by omega))
          have w406 : 0 ≤ Xi T8 904 102 ∧ Xi T8 904 102 ≤ 2600 := hHT8.c _ _
          have w407 : Xi U25 904 103 = Xi T8 904 103 := (show Xi U25 904 103 = Xi T8 904 103 from by rw [eU25]; exact Xi_ne (by omega))
          have w408 : -1 ≤ Xi T8 904 103 ∧ Xi T8 904 103 ≤ 2600 := hHT8.c _ _
          have w409 : Xi U25 904 106 = Xi T8 904 106 := (show Xi U25 904 106 = Xi T8 904 106 from by rw [eU25]; exact Xi_ne (by omega))
          have w410 : 0 ≤ Xi T8 904 106 ∧ Xi T8 904 106 ≤ 9 := hHT8.c _ _
          have w411 : Xi U25 904 116 = Xi T8 904 116 := (show Xi U25 904 116 = Xi T8 904 116 from by rw [eU25]; exact Xi_ne (by omega))
          have w412 : -1 ≤ Xi T8 904 116 ∧ Xi T8 904 116 ≤ 15 := hHT8.c _ _
          have w413 : Xi U25 904 128 = Xi T8 904 128 := (show Xi U25 904 128 = Xi T8 904 128 from by rw [eU25]; exact Xi_ne (by omega))
          have w414 : 0 ≤ Xi T8 904 128 ∧ Xi T8 904 128 ≤ 11 := hHT8.c _ _
          have w415 : Xi U25 904 129 = Xi T8 904 129 := (show Xi U25 904 129 = Xi T8 904 129 from by rw [eU25]; exact Xi_ne (by omega))
          have w416 : -1 ≤ Xi T8 904 129 ∧ Xi T8 904 129 ≤ 23 := hHT8.c _ _
          have w417 : Xi U25 904 69 = Xi T8 904 69 := (show Xi U25 904 69 = Xi T8 904 69 from by rw [eU25]; exact Xi_ne (by omega))
          have w418 : 0 ≤ Xi T8 904 69 ∧ Xi T8 904 69 ≤ 2600 := hHT8.c _ _
          have w419 : Xi U25 904 70 = Xi T8 904 70 := (show Xi U25 904 70 = Xi T8 904 70 from by rw [eU25]; exact Xi_ne (by omega))
          have w420 : 0 ≤ Xi T8 904 70 ∧ Xi T8 904 70 ≤ 20 := hHT8.c _ _
          refine l_callV rfl rfl rfl (t_mo_describe hHU25 (Xi U25 950 ((v4).toNat)) (Xi U25 951 ((v4).toNat)) 0 1 (Xi U25 942 ((v3).toNat)) ⟨by omega, by omega⟩ ⟨by omega, by omega⟩ ⟨by omega, by omega⟩ ⟨by omega, by omega⟩ ⟨by omega, by omega⟩ (by first | assumption | exact (LXM_FR hFU25 rfl (by assumption : LXM S))) (by first | assumption | exact (ABV_FR hFU25 rfl (by assumption : ABV S))) (by first | assumption | exact (DCM_FR hFU25 rfl (by assumption : DCM S))) (by first | assumption | omega) (fun x => absurd (by omega) x) _) ?_
          rintro _ T26 ⟨hHT26, w423, rfl, w421⟩
          have hFT26 : FR md_mo_actingMeant S T26 := FR.tr hFU25 w423 rfl
          show Rl _ _ _ _ _ [] _ _
          have D315 : Xi T26 904 109 ≠ 0 → Xi T26 904 110 < Xi S 904 16 ∧ ∀ i : Nat, (i : Int) < Xi T26 904 112 → ADX S 1 (Xi T26 967 i) := fun x => (by have t := (by assumption : RDV T26 1) x; rw [hFT26.x 904 16 rfl] at t; exact ⟨t.1, fun i hi => adx_s (t.2 i hi) (hFT26.x 904 23 rfl) (hFT26.x 904 32 rfl) (fun j => (hFT26.cx 922 rfl j).1)⟩)
          refine l_aload_n rfl rfl ?_
          refine l_gfi rfl rfl rfl rfl rfl ?_
          have w424 : -2147483648 ≤ (Xi T26 904 109) ∧ (Xi T26 904 109) ≤ 2147483647 := Xi_rgI
          refine l_if_le rfl rfl (by unfold rg; omega) (fun w425 => ?_) (fun w426 => ?_)
          · refine l_iconst rfl ?_
            refine l_istore rfl rfl rfl ?_
            refine l_aload_n rfl rfl ?_
            refine l_dup rfl rfl ?_
            refine l_gfi rfl rfl rfl rfl rfl ?_
            refine l_iload rfl rfl ?_
            refine l_iconst rfl ?_
            refine l_icmp_eq rfl rfl (by unfold rg; omega) (by unfold rg; omega) (fun w427 => ?_) (fun w428 => ?_)
            · refine l_iconst rfl ?_
              refine l_iaddW rfl (fun c429 w429 => ?_)
              refine l_pfi rfl rfl rfl rfl ?_
              obtain ⟨U27, eU27⟩ : ∃ T : sS, T = uI T26 904 109 (Int32.ofInt c429) := ⟨_, rfl⟩
              rw [← eU27]
              have hHU27 : HI U27 := by rw [eU27]; exact HI_any hHT26 (rfl)
              have hFU27 : FR md_mo_actingMeant S U27 := by rw [eU27]; exact FR.wI hFT26 (mdf_i (r := (904, 905, 109, 110)) (List.mem_of_getElem? (i := 4) rfl) (inR_i (by omega) (by omega) (by omega) (by omega)))
              have w430 : Xi U27 904 109 = c429 := by rw [eU27]; exact Xi_same (by unfold rg; omega)
              have R349 : (0 : Int) ≠ 0 → Xi U27 904 110 < Xi S 904 16 ∧ ∀ i : Nat, (i : Int) < Xi U27 904 112 → ADX S 1 (Xi U27 967 i) := fun x => (by have t := D315 (by omega); refine ⟨by rw [eU27, Xi_ne (by omega)]; exact t.1, fun i hi => ?_⟩; rw [eU27, Xi_ne (by omega)] at hi ⊢; exact t.2 i hi)
              have w431 : Xi U27 979 (l).toNat = Xi T8 979 (l).toNat := (show Xi U27 979 (l).toNat = Xi T26 979 (l).toNat from by rw [eU27]; exact Xi_ne (by omega)).trans ( (show Xi T26 979 (l).toNat = Xi U25 979 (l).toNat from (w423.cx 979 rfl _).1).trans ((show Xi U25 979 (l).toNat = Xi T8 979 (l).toNat from by rw [eU25]; exact Xi_ne (by omega))))
              have w432 : Xi U27 981 (l).toNat = Xi T8 981 (l).toNat := (show Xi U27 981 (l).toNat = Xi T26 981 (l).toNat from by rw [eU27]; exact Xi_ne (by omega)).trans ( (show Xi T26 981 (l).toNat = Xi U25 981 (l).toNat from (w423.cx 981 rfl _).1).trans ((show Xi U25 981 (l).toNat = Xi T8 981 (l).toNat from by rw [eU25]; exact Xi_ne (by omega))))
              have w433 : Xi U27 982 (l).toNat = Xi T8 982 (l).toNat := (show Xi U27 982 (l).toNat = Xi T26 982 (l).toNat from by rw [eU27]; exact Xi_ne (by omega)).trans ( (show Xi T26 982 (l).toNat = Xi U25 982 (l).toNat from (w423.cx 982 rfl _).1).trans ((show Xi U25 982 (l).toNat = Xi T8 982 (l).toNat from by rw [eU25]; exact Xi_ne (by omega))))
              have w434 : Xi U27 904 102 = Xi T8 904 102 := (show Xi U27 904 102 = Xi T26 904 102 from by rw [eU27]; exact Xi_ne (by omega)).trans ( (show Xi T26 904 102 = Xi U25 904 102 from w423.x _ _ rfl).trans ((show Xi U25 904 102 = Xi T8 904 102 from by rw [eU25]; exact Xi_ne (by omega))))
              have w435 : 0 ≤ Xi T8 904 102 ∧ Xi T8 904 102 ≤ 2600 := hHT8.c _ _
              have w436 : Xi U27 904 103 = Xi T8 904 103 := (show Xi U27 904 103 = Xi T26 904 103 from by rw [eU27]; exact Xi_ne (by omega)).trans ( (show Xi T26 904 103 = Xi U25 904 103 from w423.x _ _ rfl).trans ((show Xi U25 904 103 = Xi T8 904 103 from by rw [eU25]; exact Xi_ne (by omega))))
              have w437 : -1 ≤ Xi T8 904 103 ∧ Xi T8 904 103 ≤ 2600 := hHT8.c _ _
              have w438 : Xi U27 904 106 = Xi T8 904 106 := (show Xi U27 904 106 = Xi T26 904 106 from by rw [eU27]; exact Xi_ne (by omega)).trans ( (show Xi T26 904 106 = Xi U25 904 106 from w423.x _ _ rfl).trans ((show Xi U25 904 106 = Xi T8 904 106 from by rw [eU25]; exact Xi_ne (by omega))))
              have w439 : 0 ≤ Xi T8 904 106 ∧ Xi T8 904 106 ≤ 9 := hHT8.c _ _
              have w440 : Xi U27 904 110 = Xi T26 904 110 := (show Xi U27 904 110 = Xi T26 904 110 from by rw [eU27]; exact Xi_ne (by omega))
              have w441 : 0 ≤ Xi T26 904 110 ∧ Xi T26 904 110 ≤ 15 := hHT26.c _ _
              have w442 : Xi U27 904 112 = Xi T26 904 112 := (show Xi U27 904 112 = Xi T26 904 112 from by rw [eU27]; exact Xi_ne (by omega))
              have w443 : 0 ≤ Xi T26 904 112 ∧ Xi T26 904 112 ≤ 6 := hHT26.c _ _
              have w444 : Xi U27 904 116 = Xi T8 904 116 := (show Xi U27 904 116 = Xi T26 904 116 from by rw [eU27]; exact Xi_ne (by omega)).trans ( (show Xi T26 904 116 = Xi U25 904 116 from w423.x _ _ rfl).trans ((show Xi U25 904 116 = Xi T8 904 116 from by rw [eU25]; exact Xi_ne (by omega))))
              have w445 : -1 ≤ Xi T8 904 116 ∧ Xi T8 904 116 ≤ 15 := hHT8.c _ _
              have w446 : Xi U27 904 128 = Xi T8 904 128 := (show Xi U27 904 128 = Xi T26 904 128 from by rw [eU27]; exact Xi_ne (by omega)).trans ( (show Xi T26 904 128 = Xi U25 904 128 from w423.x _ _ rfl).trans ((show Xi U25 904 128 = Xi T8 904 128 from by rw [eU25]; exact Xi_ne (by omega))))
              have w447 : 0 ≤ Xi T8 904 128 ∧ Xi T8 904 128 ≤ 11 := hHT8.c _ _
              have w448 : Xi U27 904 129 = Xi T8 904 129 := (show Xi U27 904 129 = Xi T26 904 129 from by rw [eU27]; exact Xi_ne (by omega)).trans ( (show Xi T26 904 129 = Xi U25 904 129 from w423.x _ _ rfl).trans ((show Xi U25 904 129 = Xi T8 904 129 from by rw [eU25]; exact Xi_ne (by omega))))
              have w449 : -1 ≤ Xi T8 904 129 ∧ Xi T8 904 129 ≤ 23 := hHT8.c _ _
              have w450 : Xi U27 904 69 = Xi T8 904 69 := (show Xi U27 904 69 = Xi T26 904 69 from by rw [eU27]; exact Xi_ne (by omega)).trans ( (show Xi T26 904 69 = Xi U25 904 69 from w423.x _ _ rfl).trans ((show Xi U25 904 69 = Xi T8 904 69 from by rw [eU25]; exact Xi_ne (by omega))))
              have w451 : 0 ≤ Xi T8 904 69 ∧ Xi T8 904 69 ≤ 2600 := hHT8.c _ _
              have w452 : Xi U27 904 70 = Xi T8 904 70 := (show Xi U27 904 70 = Xi T26 904 70 from by rw [eU27]; exact Xi_ne (by omega)).trans ( (show Xi T26 904 70 = Xi U25 904 70 from w423.x _ _ rfl).trans ((show Xi U25 904 70 = Xi T8 904 70 from by rw [eU25]; exact Xi_ne (by omega))))
              have w453 : 0 ≤ Xi T8 904 70 ∧ Xi T8 904 70 ≤ 20 := hHT8.c _ _
              exact Rl_weak (C352 U27 hHU27 hFU27 (v3) (v4) (v5) (0) (by omega) (by omega) (by omega) (by omega) (by omega) (by omega) (by omega) (by omega) (by omega) (by omega) (by omega) (by omega) (by omega) ((KRL.w (KRL_FR w423 rfl (KRL.w (by assumption : KRL T8 S _) eU25 (by omega))) eU27 (by omega))) (by first | exact R349 | exact fun x => absurd rfl x)) (And.intro rfl (And.intro rfl (And.intro rfl (And.intro rfl (And.intro rfl (And.intro rfl (True.intro)))))))
            · refine l_iconst rfl ?_
              refine l_goto rfl rfl ?_
              refine l_iaddW rfl (fun c454 w454 => ?_)
              refine l_pfi rfl rfl rfl rfl ?_
              obtain ⟨U28, eU28⟩ : ∃ T : sS, T = uI T26 904 109 (Int32.ofInt c454) := ⟨_, rfl⟩
              rw [← eU28]
              have hHU28 : HI U28 := by rw [eU28]; exact HI_any hHT26 (rfl)
              have hFU28 : FR md_mo_actingMeant S U28 := by rw [eU28]; exact FR.wI hFT26 (mdf_i (r := (904, 905, 109, 110)) (List.mem_of_getElem? (i := 4) rfl) (inR_i (by omega) (by omega) (by omega) (by omega)))
              have w455 : Xi U28 904 109 = c454 := by rw [eU28]; exact Xi_same (by unfold rg; omega)
              have R349 : (0 : Int) ≠ 0 → Xi U28 904 110 < Xi S 904 16 ∧ ∀ i : Nat, (i : Int) < Xi U28 904 112 → ADX S 1 (Xi U28 967 i) := fun x => (by have t := D315 (by omega); refine ⟨by rw [eU28, Xi_ne (by omega)]; exact t.1, fun i hi => ?_⟩; rw [eU28, Xi_ne (by omega)] at hi ⊢; exact t.2 i hi)
              have w456 : Xi U28 979 (l).toNat = Xi T8 979 (l).toNat := (show Xi U28 979 (l).toNat = Xi T26 979 (l).toNat from by rw [eU28]; exact Xi_ne (by omega)).trans ( (show Xi T26 979 (l).toNat = Xi U25 979 (l).toNat from (w423.cx 979 rfl _).1).trans ((show Xi U25 979 (l).toNat = Xi T8 979 (l).toNat from by rw [eU25]; exact Xi_ne (by omega))))
              have w457 : Xi U28 981 (l).toNat = Xi T8 981 (l).toNat := (show Xi U28 981 (l).toNat = Xi T26 981 (l).toNat from by rw [eU28]; exact Xi_ne (by omega)).trans ( (show Xi T26 981 (l).toNat = Xi U25 981 (l).toNat from (w423.cx 981 rfl _).1).trans ((show Xi U25 981 (l).toNat = Xi T8 981 (l).toNat from by rw [eU25]; exact Xi_ne (by omega))))
              have w458 : Xi U28 982 (l).toNat = Xi T8 982 (l).toNat := (show Xi U28 982 (l).toNat = Xi T26 982 (l).toNat from by rw [eU28]; exact Xi_ne (by omega)).trans ( (show Xi T26 982 (l).toNat = Xi U25 982 (l).toNat from (w423.cx 982 rfl _).1).trans ((show Xi U25 982 (l).toNat = Xi T8 982 (l).toNat from by rw [eU25]; exact Xi_ne (by omega))))
              have w459 : Xi U28 904 102 = Xi T8 904 102 := (show Xi U28 904 102 = Xi T26 904 102 from by rw [eU28]; exact Xi_ne (by omega)).trans ( (show Xi T26 904 102 = Xi U25 904 102 from w423.x _ _ rfl).trans ((show Xi U25 904 102 = Xi T8 904 102 from by rw [eU25]; exact Xi_ne (by omega))))
              have w460 : 0 ≤ Xi T8 904 102 ∧ Xi T8 904 102 ≤ 2600 := hHT8.c _ _
              have w461 : Xi U28 904 103 = Xi T8 904 103 := (show Xi U28 904 103 = Xi T26 904 103 from by rw [eU28]; exact Xi_ne (by omega)).trans ( (show Xi T26 904 103 = Xi U25 904 103 from w423.x _ _ rfl).trans ((show Xi U25 904 103 = Xi T8 904 103 from by rw [eU25]; exact Xi_ne (by omega))))
              have w462 : -1 ≤ Xi T8 904 103 ∧ Xi T8 904 103 ≤ 2600 := hHT8.c _ _
              have w463 : Xi U28 904 106 = Xi T8 904 106 := (show Xi U28 904 106 = Xi T26 904 106 from by rw [eU28]; exact Xi_ne (by omega)).trans ( (show Xi T26 904 106 = Xi U25 904 106 from w423.x _ _ rfl).trans ((show Xi U25 904 106 = Xi T8 904 106 from by rw [eU25]; exact Xi_ne (by omega))))
              have w464 : 0 ≤ Xi T8 904 106 ∧ Xi T8 904 106 ≤ 9 := hHT8.c _ _
              have w465 : Xi U28 904 110 = Xi T26 904 110 := (show Xi U28 904 110 = Xi T26 904 110 from by rw [eU28]; exact Xi_ne (by omega))
              have w466 : 0 ≤ Xi T26 904 110 ∧ Xi T26 904 110 ≤ 15 := hHT26.c _ _
              have w467 : Xi U28 904 112 = Xi T26 904 112 := (show Xi U28 904 112 = Xi T26 904 112 from by rw [eU28]; exact Xi_ne (by omega))
              have w468 : 0 ≤ Xi T26 904 112 ∧ Xi T26 904 112 ≤ 6 := hHT26.c _ _
              have w469 : Xi U28 904 116 = Xi T8 904 116 := (show Xi U28 904 116 = Xi T26 904 116 from by rw [eU28]; exact Xi_ne (by omega)).trans ( (show Xi T26 904 116 = Xi U25 904 116 from w423.x _ _ rfl).trans ((show Xi U25 904 116 = Xi T8 904 116 from by rw [eU25]; exact Xi_ne (by omega))))
              have w470 : -1 ≤ Xi T8 904 116 ∧ Xi T8 904 116 ≤ 15 := hHT8.c _ _
              have w471 : Xi U28 904 128 = Xi T8 904 128 := (show Xi U28 904 128 = Xi T26 904 128 from by rw [eU28]; exact Xi_ne (by omega)).trans ( (show Xi T26 904 128 = Xi U25 904 128 from w423.x _ _ rfl).trans ((show Xi U25 904 128 = Xi T8 904 128 from by rw [eU25]; exact Xi_ne (by omega))))
              have w472 : 0 ≤ Xi T8 904 128 ∧ Xi T8 904 128 ≤ 11 := hHT8.c _ _
              have w473 : Xi U28 904 129 = Xi T8 904 129 := (show Xi U28 904 129 = Xi T26 904 129 from by rw [eU28]; exact Xi_ne (by omega)).trans ( (show Xi T26 904 129 = Xi U25 904 129 from w423.x _ _ rfl).trans ((show Xi U25 904 129 = Xi T8 904 129 from by rw [eU25]; exact Xi_ne (by omega))))
              have w474 : -1 ≤ Xi T8 904 129 ∧ Xi T8 904 129 ≤ 23 := hHT8.c _ _
              have w475 : Xi U28 904 69 = Xi T8 904 69 := (show Xi U28 904 69 = Xi T26 904 69 from by rw [eU28]; exact Xi_ne (by omega)).trans ( (show Xi T26 904 69 = Xi U25 904 69 from w423.x _ _ rfl).trans ((show Xi U25 904 69 = Xi T8 904 69 from by rw [eU25]; exact Xi_ne (by omega))))
              have w476 : 0 ≤ Xi T8 904 69 ∧ Xi T8 904 69 ≤ 2600 := hHT8.c _ _
              have w477 : Xi U28 904 70 = Xi T8 904 70 := (show Xi U28 904 70 = Xi T26 904 70 from by rw [eU28]; exact Xi_ne (by omega)).trans ( (show Xi T26 904 70 = Xi U25 904 70 from w423.x _ _ rfl).trans ((show Xi U25 904 70 = Xi T8 904 70 from by rw [eU25]; exact Xi_ne (by omega))))
              have w478 : 0 ≤ Xi T8 904 70 ∧ Xi T8 904 70 ≤ 20 := hHT8.c _ _
              exact Rl_weak (C352 U28 hHU28 hFU28 (v3) (v4) (v5) (0) (by omega) (by omega) (by omega) (by omega) (by omega) (by omega) (by omega) (by omega) (by omega) (by omega) (by omega) (by omega) (by omega) ((KRL.w (KRL_FR w423 rfl (KRL.w (by assumption : KRL T8 S _) eU25 (by omega))) eU28 (by omega))) (by first | exact R349 | exact fun x => absurd rfl x)) (And.intro rfl (And.intro rfl (And.intro rfl (And.intro rfl (And.intro rfl (And.intro rfl (True.intro)))))))
          · refine l_iconst rfl ?_
            refine l_goto rfl rfl ?_
            refine l_istore rfl rfl rfl ?_
            refine l_aload_n rfl rfl ?_
            refine l_dup rfl rfl ?_
            refine l_gfi rfl rfl rfl rfl rfl ?_
            refine l_iload rfl rfl ?_
            refine l_iconst rfl ?_
            refine l_icmp_eq rfl rfl (by unfold rg; omega) (by unfold rg; omega) (fun w479 => ?_) (fun w480 => ?_)
            · refine l_iconst rfl ?_
              refine l_iaddW rfl (fun c481 w481 => ?_)
              refine l_pfi rfl rfl rfl rfl ?_
              obtain ⟨U29, eU29⟩ : ∃ T : sS, T = uI T26 904 109 (Int32.ofInt c481) := ⟨_, rfl⟩
              rw [← eU29]
              have hHU29 : HI U29 := by rw [eU29]; exact HI_any hHT26 (rfl)
              have hFU29 : FR md_mo_actingMeant S U29 := by rw [eU29]; exact FR.wI hFT26 (mdf_i (r := (904, 905, 109, 110)) (List.mem_of_getElem? (i := 4) rfl) (inR_i (by omega) (by omega) (by omega) (by omega)))
              have w482 : Xi U29 904 109 = c481 := by rw [eU29]; exact Xi_same (by unfold rg; omega)
              have R349 : (1 : Int) ≠ 0 → Xi U29 904 110 < Xi S 904 16 ∧ ∀ i : Nat, (i : Int) < Xi U29 904 112 → ADX S 1 (Xi U29 967 i) := fun x => (by have t := D315 (by omega); refine ⟨by rw [eU29, Xi_ne (by omega)]; exact t.1, fun i hi => ?_⟩; rw [eU29, Xi_ne (by omega)] at hi ⊢; exact t.2 i hi)
              have w483 : Xi U29 979 (l).toNat = Xi T8 979 (l).toNat := (show Xi U29 979 (l).toNat = Xi T26 979 (l).toNat from by rw [eU29]; exact Xi_ne (by omega)).trans ( (show Xi T26 979 (l).toNat = Xi U25 979 (l).toNat from (w423.cx 979 rfl _).1).trans ((show Xi U25 979 (l).toNat = Xi T8 979 (l).toNat from by rw [eU25]; exact Xi_ne (by omega))))
              have w484 : Xi U29 981 (l).toNat = Xi T8 981 (l).toNat := (show Xi U29 981 (l).toNat = Xi T26 981 (l).toNat from by rw [eU29]; exact Xi_ne (by omega)).trans ( (show Xi T26 981 (l).toNat = Xi U25 981 (l).toNat from (w423.cx 981 rfl _).1).trans ((show Xi U25 981 (l).toNat = Xi T8 981 (l).toNat from by rw [eU25]; exact Xi_ne (by omega))))
              have w485 : Xi U29 982 (l).toNat = Xi T8 982 (l).toNat := (show Xi U29 982 (l).toNat = Xi T26 982 (l).toNat from by rw [eU29]; exact Xi_ne (by omega)).trans ( (show Xi T26 982 (l).toNat = Xi U25 982 (l).toNat from (w423.cx 982 rfl _).1).trans ((show Xi U25 982 (l).toNat = Xi T8 982 (l).toNat from by rw [eU25]; exact Xi_ne (by omega))))
              have w486 : Xi U29 904 102 = Xi T8 904 102 := (show Xi U29 904 102 = Xi T26 904 102 from by rw [eU29]; exact Xi_ne (by omega)).trans ( (show Xi T26 904 102 = Xi U25 904 102 from w423.x _ _ rfl).trans ((show Xi U25 904 102 = Xi T8 904 102 from by rw [eU25]; exact Xi_ne (by omega))))
              have w487 : 0 ≤ Xi T8 904 102 ∧ Xi T8 904 102 ≤ 2600 := hHT8.c _ _
              have w488 : Xi U29 904 103 = Xi T8 904 103 := (show Xi U29 904 103 = Xi T26 904 103 from by rw [eU29]; exact Xi_ne (by omega)).trans ( (show Xi T26 904 103 = Xi U25 904 103 from w423.x _ _ rfl).trans ((show Xi U25 904 103 = Xi T8 904 103 from by rw [eU25]; exact Xi_ne (by omega))))
              have w489 : -1 ≤ Xi T8 904 103 ∧ Xi T8 904 103 ≤ 2600 := hHT8.c _ _
              have w490 : Xi U29 904 106 = Xi T8 904 106 := (show Xi U29 904 106 = Xi T26 904 106 from by rw [eU29]; exact Xi_ne (by omega)).trans ( (show Xi T26 904 106 = Xi U25 904 106 from w423.x _ _ rfl).trans ((show Xi U25 904 106 = Xi T8 904 106 from by rw [eU25]; exact Xi_ne (by omega))))
              have w491 : 0 ≤ Xi T8 904 106 ∧ Xi T8 904 106 ≤ 9 := hHT8.c _ _
              have w492 : Xi U29 904 110 = Xi T26 904 110 := (show Xi U29 904 110 = Xi T26 904 110 from by rw [eU29]; exact Xi_ne (by omega))
              have w493 : 0 ≤ Xi T26 904 110 ∧ Xi T26 904 110 ≤ 15 := hHT26.c _ _
              have w494 : Xi U29 904 112 = Xi T26 904 112 := (show Xi U29 904 112 = Xi T26 904 112 from by rw [eU29]; exact Xi_ne (by omega))
              have w495 : 0 ≤ Xi T26 904 112 ∧ Xi T26 904 112 ≤ 6 := hHT26.c _ _
              have w496 : Xi U29 904 116 = Xi T8 904 116 := (show Xi U29 904 116 = Xi T26 904 116 from by rw [eU29]; exact Xi_ne (by omega)).trans ( (show Xi T26 904 116 = Xi U25 904 116 from w423.x _ _ rfl).trans ((show Xi U25 904 116 = Xi T8 904 116 from by rw [eU25]; exact Xi_ne (by omega))))
              have w497 : -1 ≤ Xi T8 904 116 ∧ Xi T8 904 116 ≤ 15 := hHT8.c _ _
              have w498 : Xi U29 904 128 = Xi T8 904 128 := (show Xi U29 904 128 = Xi T26 904 128 from by rw [eU29]; exact Xi_ne (by omega)).trans ( (show Xi T26 904 128 = Xi U25 904 128 from w423.x _ _ rfl).trans ((show Xi U25 904 128 = Xi T8 904 128 from by rw [eU25]; exact Xi_ne (by omega))))
              have w499 : 0 ≤ Xi T8 904 128 ∧ Xi T8 904 128 ≤ 11 := hHT8.c _ _
              have w500 : Xi U29 904 129 = Xi T8 904 129 := (show Xi U29 904 129 = Xi T26 904 129 from by rw [eU29]; exact Xi_ne (by omega)).trans ( (show Xi T26 904 129 = Xi U25 904 129 from w423.x _ _ rfl).trans ((show Xi U25 904 129 = Xi T8 904 129 from by rw [eU25]; exact Xi_ne (by omega))))
              have w501 : -1 ≤ Xi T8 904 129 ∧ Xi T8 904 129 ≤ 23 := hHT8.c _ _
              have w502 : Xi U29 904 69 = Xi T8 904 69 := (show Xi U29 904 69 = Xi T26 904 69 from by rw [eU29]; exact Xi_ne (by omega)).trans ( (show Xi T26 904 69 = Xi U25 904 69 from w423.x _ _ rfl).trans ((show Xi U25 904 69 = Xi T8 904 69 from by rw [eU25]; exact Xi_ne (by omega))))
              have w503 : 0 ≤ Xi T8 904 69 ∧ Xi T8 904 69 ≤ 2600 := hHT8.c _ _
              have w504 : Xi U29 904 70 = Xi T8 904 70 := (show Xi U29 904 70 = Xi T26 904 70 from by rw [eU29]; exact Xi_ne (by omega)).trans ( (show Xi T26 904 70 = Xi U25 904 70 from w423.x _ _ rfl).trans ((show Xi U25 904 70 = Xi T8 904 70 from by rw [eU25]; exact Xi_ne (by omega))))
              have w505 : 0 ≤ Xi T8 904 70 ∧ Xi T8 904 70 ≤ 20 := hHT8.c _ _
              exact Rl_weak (C352 U29 hHU29 hFU29 (v3) (v4) (v5) (1) (by omega) (by omega) (by omega) (by omega) (by omega) (by omega) (by omega) (by omega) (by omega) (by omega) (by omega) (by omega) (by omega) ((KRL.w (KRL_FR w423 rfl (KRL.w (by assumption : KRL T8 S _) eU25 (by omega))) eU29 (by omega))) (by first | exact R349 | exact fun x => absurd rfl x)) (And.intro rfl (And.intro rfl (And.intro rfl (And.intro rfl (And.intro rfl (And.intro rfl (True.intro)))))))
            · refine l_iconst rfl ?_
              refine l_goto rfl rfl ?_
              refine l_iaddW rfl (fun c506 w506 => ?_)
              refine l_pfi rfl rfl rfl rfl ?_
              obtain ⟨U30, eU30⟩ : ∃ T : sS, T = uI T26 904 109 (Int32.ofInt c506) := ⟨_, rfl⟩
              rw [← eU30]
              have hHU30 : HI U30 := by rw [eU30]; exact HI_any hHT26 (rfl)
              have hFU30 : FR md_mo_actingMeant S U30 := by rw [eU30]; exact FR.wI hFT26 (mdf_i (r := (904, 905, 109, 110)) (List.mem_of_getElem? (i := 4) rfl) (inR_i (by omega) (by omega) (by omega) (by omega)))
              have w507 : Xi U30 904 109 = c506 := by rw [eU30]; exact Xi_same (by unfold rg; omega)
              have R349 : (1 : Int) ≠ 0 → Xi U30 904 110 < Xi S 904 16 ∧ ∀ i : Nat, (i : Int) < Xi U30 904 112 → ADX S 1 (Xi U30 967 i) := fun x => (by have t := D315 (by omega); refine ⟨by rw [eU30, Xi_ne (by omega)]; exact t.1, fun i hi => ?_⟩; rw [eU30, Xi_ne (by omega)] at hi ⊢; exact t.2 i hi)
              have w508 : Xi U30 979 (l).toNat = Xi T8 979 (l).toNat := (show Xi U30 979 (l).toNat = Xi T26 979 (l).toNat from by rw [eU30]; exact Xi_ne (by omega)).trans ( (show Xi T26 979 (l).toNat = Xi U25 979 (l).toNat from (w423.cx 979 rfl _).1).trans ((show Xi U25 979 (l).toNat = Xi T8 979 (l).toNat from by rw [eU25]; exact Xi_ne (by omega))))
              have w509 : Xi U30 981 (l).toNat = Xi T8 981 (l).toNat := (show Xi U30 981 (l).toNat = Xi T26 981 (l).toNat from by rw [eU30]; exact Xi_ne (by omega)).trans ( (show Xi T26 981 (l).toNat = Xi U25 981 (l).toNat from (w423.cx 981 rfl _).1).trans ((show Xi U25 981 (l).toNat = Xi T8 981 (l).toNat from by rw [eU25]; exact Xi_ne (by omega))))
              have w510 : Xi U30 982 (l).toNat = Xi T8 982 (l).toNat := (show Xi U30 982 (l).toNat = Xi T26 982 (l).toNat from by rw [eU30]; exact Xi_ne (by omega)).trans ( (show Xi T26 982 (l).toNat = Xi U25 982 (l).toNat from (w423.cx 982 rfl _).1).trans ((show Xi U25 982 (l).toNat = Xi T8 982 (l).toNat from by rw [eU25]; exact Xi_ne (by omega))))
              have w511 : Xi U30 904 102 = Xi T8 904 102 := (show Xi U30 904 102 = Xi T26 904 102 from by rw [eU30]; exact Xi_ne (by omega)).trans ( (show Xi T26 904 102 = Xi U25 904 102 from w423.x _ _ rfl).trans ((show Xi U25 904 102 = Xi T8 904 102 from by rw [eU25]; exact Xi_ne (by omega))))
              have w512 : 0 ≤ Xi T8 904 102 ∧ Xi T8 904 102 ≤ 2600 := hHT8.c _ _
              have w513 : Xi U30 904 103 = Xi T8 904 103 := (show Xi U30 904 103 = Xi T26 904 103 from by rw [eU30]; exact Xi_ne (by omega)).trans ( (show Xi T26 904 103 = Xi U25 904 103 from w423.x _ _ rfl).trans ((show Xi U25 904 103 = Xi T8 904 103 from by rw [eU25]; exact Xi_ne (by omega))))
              have w514 : -1 ≤ Xi T8 904 103 ∧ Xi T8 904 103 ≤ 2600 := hHT8.c _ _
              have w515 : Xi U30 904 106 = Xi T8 904 106 := (show Xi U30 904 106 = Xi T26 904 106 from by rw [eU30]; exact Xi_ne (by omega)).trans ( (show Xi T26 904 106 = Xi U25 904 106 from w423.x _ _ rfl).trans ((show Xi U25 904 106 = Xi T8 904 106 from by rw [eU25]; exact Xi_ne (by omega))))
              have w516 : 0 ≤ Xi T8 904 106 ∧ Xi T8 904 106 ≤ 9 := hHT8.c _ _
              have w517 : Xi U30 904 110 = Xi T26 904 110 := (show Xi U30 904 110 = Xi T26 904 110 from by rw [eU30]; exact Xi_ne (by omega))
              have w518 : 0 ≤ Xi T26 904 110 ∧ Xi T26 904 110 ≤ 15 := hHT26.c _ _
              have w519 : Xi U30 904 112 = Xi T26 904 112 := (show Xi U30 904 112 = Xi T26 904 112 from by rw [eU30]; exact Xi_ne (by omega))
              have w520 : 0 ≤ Xi T26 904 112 ∧ Xi T26 904 112 ≤ 6 := hHT26.c _ _
              have w521 : Xi U30 904 116 = Xi T8 904 116 := (show Xi U30 904 116 = Xi T26 904 116 from by rw [eU30]; exact Xi_ne (by omega)).trans ( (show Xi T26 904 116 = Xi U25 904 116 from w423.x _ _ rfl).trans ((show Xi U25 904 116 = Xi T8 904 116 from by rw [eU25]; exact Xi_ne (by omega))))
              have w522 : -1 ≤ Xi T8 904 116 ∧ Xi T8 904 116 ≤ 15 := hHT8.c _ _
              have w523 : Xi U30 904 128 = Xi T8 904 128 := (show Xi U30 904 128 = Xi T26 904 128 from by rw [eU30]; exact Xi_ne (by omega)).trans ( (show Xi T26 904 128 = Xi U25 904 128 from w423.x _ _ rfl).trans ((show Xi U25 904 128 = Xi T8 904 128 from by rw [eU25]; exact Xi_ne (by omega))))
              have w524 : 0 ≤ Xi T8 904 128 ∧ Xi T8 904 128 ≤ 11 := hHT8.c _ _
              have w525 : Xi U30 904 129 = Xi T8 904 129 := (show Xi U30 904 129 = Xi T26 904 129 from by rw [eU30]; exact Xi_ne (by omega)).trans ( (show Xi T26 904 129 = Xi U25 904 129 from w423.x _ _ rfl).trans ((show Xi U25 904 129 = Xi T8 904 129 from by rw [eU25]; exact Xi_ne (by omega))))
              have w526 : -1 ≤ Xi T8 904 129 ∧ Xi T8 904 129 ≤ 23 := hHT8.c _ _
              have w527 : Xi U30 904 69 = Xi T8 904 69 := (show Xi U30 904 69 = Xi T26 904 69 from by rw [eU30]; exact Xi_ne (by omega)).trans ( (show Xi T26 904 69 = Xi U25 904 69 from w423.x _ _ rfl).trans ((show Xi U25 904 69 = Xi T8 904 69 from by rw [eU25]; exact Xi_ne (by omega))))
              have w528 : 0 ≤ Xi T8 904 69 ∧ Xi T8 904 69 ≤ 2600 := hHT8.c _ _
              have w529 : Xi U30 904 70 = Xi T8 904 70 := (show Xi U30 904 70 = Xi T26 904 70 from by rw [eU30]; exact Xi_ne (by omega)).trans ( (show Xi T26 904 70 = Xi U25 904 70 from w423.x _ _ rfl).trans ((show Xi U25 904 70 = Xi T8 904 70 from by rw [eU25]; exact Xi_ne (by omega))))
              have w530 : 0 ≤ Xi T8 904 70 ∧ Xi T8 904 70 ≤ 20 := hHT8.c _ _
              exact Rl_weak (C352 U30 hHU30 hFU30 (v3) (v4) (v5) (1) (by omega) (by omega) (by omega) (by omega) (by omega) (by omega) (by omega) (by omega) (by omega) (by omega) (by omega) (by omega) (by omega) ((KRL.w (KRL_FR w423 rfl (KRL.w (by assumption : KRL T8 S _) eU25 (by omega))) eU30 (by omega))) (by first | exact R349 | exact fun x => absurd rfl x)) (And.intro rfl (And.intro rfl (And.intro rfl (And.intro rfl (And.intro rfl (And.intro rfl (True.intro)))))))
        refine l_aload_n rfl rfl ?_
        refine l_iload rfl rfl ?_
        refine l_iconst rfl ?_
        have w531 : 0 ≤ Xi T8 904 102 ∧ Xi T8 904 102 ≤ 2600 := hHT8.c _ _
        have w532 : -1 ≤ Xi T8 904 103 ∧ Xi T8 904 103 ≤ 2600 := hHT8.c _ _
        have w533 : 0 ≤ Xi T8 904 106 ∧ Xi T8 904 106 ≤ 9 := hHT8.c _ _
        have w534 : -1 ≤ Xi T8 904 116 ∧ Xi T8 904 116 ≤ 15 := hHT8.c _ _
        have w535 : 0 ≤ Xi T8 904 128 ∧ Xi T8 904 128 ≤ 11 := hHT8.c _ _
        have w536 : -1 ≤ Xi T8 904 129 ∧ Xi T8 904 129 ≤ 23 := hHT8.c _ _
        have w537 : 0 ≤ Xi T8 904 69 ∧ Xi T8 904 69 ≤ 2600 := hHT8.c _ _
        have w538 : 0 ≤ Xi T8 904 70 ∧ Xi T8 904 70 ≤ 20 := hHT8.c _ _
        refine l_callV rfl rfl rfl (t_mo_meansRun__2 hHT8 n v4 4 ⟨by omega, by omega⟩ ⟨by omega, by omega⟩ (by first | assumption | exact (TK_FR hFT8 rfl (by assumption : TK S _))) (by first | assumption | exact (RNV_FR hFT8 rfl (by assumption : RNV S _))) (by first | assumption | omega) (by first | assumption | exact (LXM_FR hFT8 rfl (by assumption : LXM S))) _) ?_
        rintro _ _ ⟨rfl, z541, rfl, w541, w539, w540⟩
        show Rl _ _ _ _ _ [iv z541] _ _
        have x248 : z541 ≠ -1 → z541 < Xi S 904 19 := fun q => by have t := (by assumption : z541 ≠ -1 → z541 < cM T8 4) q; rw [cM4, hFT8.x 904 19 rfl] at t; exact t
        refine l_istore rfl rfl rfl ?_
        refine l_iload rfl rfl ?_
        refine l_iconst rfl ?_
        refine l_icmp_eq rfl rfl (by unfold rg; omega) (by unfold rg; omega) (fun w542 => ?_) (fun w543 => ?_)
        · refine l_iconst rfl ?_
          refine l_istore rfl rfl rfl ?_
          have w544 : 0 ≤ Xi T8 904 102 ∧ Xi T8 904 102 ≤ 2600 := hHT8.c _ _
          have w545 : -1 ≤ Xi T8 904 103 ∧ Xi T8 904 103 ≤ 2600 := hHT8.c _ _
          have w546 : 0 ≤ Xi T8 904 106 ∧ Xi T8 904 106 ≤ 9 := hHT8.c _ _
          have w547 : -1 ≤ Xi T8 904 116 ∧ Xi T8 904 116 ≤ 15 := hHT8.c _ _
          have w548 : 0 ≤ Xi T8 904 128 ∧ Xi T8 904 128 ≤ 11 := hHT8.c _ _
          have w549 : -1 ≤ Xi T8 904 129 ∧ Xi T8 904 129 ≤ 23 := hHT8.c _ _
          have w550 : 0 ≤ Xi T8 904 69 ∧ Xi T8 904 69 ≤ 2600 := hHT8.c _ _
          have w551 : 0 ≤ Xi T8 904 70 ∧ Xi T8 904 70 ≤ 20 := hHT8.c _ _
          exact Rl_weak (C287 (v3) (v4) ((-1)) (by omega) (by omega) (by omega) (by omega) (by omega) (by omega) (by omega) (by omega) (by omega) (by omega) (by omega) (by omega) ((by assumption : KRL T8 S _))) (And.intro rfl (And.intro rfl (And.intro rfl (And.intro rfl (And.intro rfl (True.intro))))))
        · refine l_aload_n rfl rfl ?_
          refine l_aload_n rfl rfl ?_
          refine l_gfr rfl rfl rfl rfl rfl (hHT8.r 904 20 918 rfl) ?_
          refine l_iload rfl rfl ?_
          refine l_iaload (n := 24) rfl rfl (by omega) (by omega) (by unfold rg; omega) ?_
          have w552 : 0 ≤ (Xi T8 918 ((z541).toNat)) ∧ (Xi T8 918 ((z541).toNat)) ≤ 15 := hHT8.c _ _
          refine l_aload_n rfl rfl ?_
          refine l_gfr rfl rfl rfl rfl rfl (hHT8.r 904 50 942 rfl) ?_
          refine l_iload_n rfl rfl ?_
          refine l_iaload (n := 12) rfl rfl (by omega) (by omega) (by unfold rg; omega) ?_
          have w553 : -2 ≤ (Xi T8 942 ((v3).toNat)) ∧ (Xi T8 942 ((v3).toNat)) ≤ 15 := hHT8.c _ _
          have w554 : 0 ≤ Xi T8 904 102 ∧ Xi T8 904 102 ≤ 2600 := hHT8.c _ _
          have w555 : -1 ≤ Xi T8 904 103 ∧ Xi T8 904 103 ≤ 2600 := hHT8.c _ _
          have w556 : 0 ≤ Xi T8 904 106 ∧ Xi T8 904 106 ≤ 9 := hHT8.c _ _
          have w557 : -1 ≤ Xi T8 904 116 ∧ Xi T8 904 116 ≤ 15 := hHT8.c _ _
          have w558 : 0 ≤ Xi T8 904 128 ∧ Xi T8 904 128 ≤ 11 := hHT8.c _ _
          have w559 : -1 ≤ Xi T8 904 129 ∧ Xi T8 904 129 ≤ 23 := hHT8.c _ _
          have w560 : 0 ≤ Xi T8 904 69 ∧ Xi T8 904 69 ≤ 2600 := hHT8.c _ _
          have w561 : 0 ≤ Xi T8 904 70 ∧ Xi T8 904 70 ≤ 20 := hHT8.c _ _
          refine l_callV rfl rfl rfl (t_mo_isBelow hHT8 (Xi T8 918 ((z541).toNat)) (Xi T8 942 ((v3).toNat)) ⟨by omega, by omega⟩ ⟨by omega, by omega⟩ (by first | assumption | exact (ABV_FR hFT8 rfl (by assumption : ABV S))) _) ?_
          rintro _ _ ⟨rfl, z563, rfl, w563, w562⟩
          show Rl _ _ _ _ _ [iv z563] _ _
          refine l_if_eq rfl rfl (by unfold rg; omega) (fun w564 => ?_) (fun w565 => ?_)
          · refine l_iconst rfl ?_
            refine l_istore rfl rfl rfl ?_
            have w566 : 0 ≤ Xi T8 904 102 ∧ Xi T8 904 102 ≤ 2600 := hHT8.c _ _
            have w567 : -1 ≤ Xi T8 904 103 ∧ Xi T8 904 103 ≤ 2600 := hHT8.c _ _
            have w568 : 0 ≤ Xi T8 904 106 ∧ Xi T8 904 106 ≤ 9 := hHT8.c _ _
            have w569 : -1 ≤ Xi T8 904 116 ∧ Xi T8 904 116 ≤ 15 := hHT8.c _ _
            have w570 : 0 ≤ Xi T8 904 128 ∧ Xi T8 904 128 ≤ 11 := hHT8.c _ _
            have w571 : -1 ≤ Xi T8 904 129 ∧ Xi T8 904 129 ≤ 23 := hHT8.c _ _
            have w572 : 0 ≤ Xi T8 904 69 ∧ Xi T8 904 69 ≤ 2600 := hHT8.c _ _
            have w573 : 0 ≤ Xi T8 904 70 ∧ Xi T8 904 70 ≤ 20 := hHT8.c _ _
            exact Rl_weak (C287 (v3) (v4) ((-1)) (by omega) (by omega) (by omega) (by omega) (by omega) (by omega) (by omega) (by omega) (by omega) (by omega) (by omega) (by omega) ((by assumption : KRL T8 S _))) (And.intro rfl (And.intro rfl (And.intro rfl (And.intro rfl (And.intro rfl (True.intro))))))
          · refine l_iload rfl rfl ?_
            refine l_goto rfl rfl ?_
            refine l_istore rfl rfl rfl ?_
            have w574 : 0 ≤ Xi T8 904 102 ∧ Xi T8 904 102 ≤ 2600 := hHT8.c _ _
            have w575 : -1 ≤ Xi T8 904 103 ∧ Xi T8 904 103 ≤ 2600 := hHT8.c _ _
            have w576 : 0 ≤ Xi T8 904 106 ∧ Xi T8 904 106 ≤ 9 := hHT8.c _ _
            have w577 : -1 ≤ Xi T8 904 116 ∧ Xi T8 904 116 ≤ 15 := hHT8.c _ _
            have w578 : 0 ≤ Xi T8 904 128 ∧ Xi T8 904 128 ≤ 11 := hHT8.c _ _
            have w579 : -1 ≤ Xi T8 904 129 ∧ Xi T8 904 129 ≤ 23 := hHT8.c _ _
            have w580 : 0 ≤ Xi T8 904 69 ∧ Xi T8 904 69 ≤ 2600 := hHT8.c _ _
            have w581 : 0 ≤ Xi T8 904 70 ∧ Xi T8 904 70 ≤ 20 := hHT8.c _ _
            exact Rl_weak (C287 (v3) (v4) (z541) (by omega) (by omega) (by omega) (by omega) (by omega) (by omega) (by omega) (by omega) (by omega) (by omega) (by omega) (by omega) ((by assumption : KRL T8 S _))) (And.intro rfl (And.intro rfl (And.intro rfl (And.intro rfl (And.intro rfl (True.intro))))))
      refine l_aload_n rfl rfl ?_
      refine l_aload_n rfl rfl ?_
      refine l_gfr rfl rfl rfl rfl rfl (hHT7.r 904 50 942 rfl) ?_
      refine l_iload_n rfl rfl ?_
      refine l_iaload (n := 12) rfl rfl (by omega) (by omega) (by unfold rg; omega) ?_
      have w582 : -2 ≤ (Xi T7 942 ((v3).toNat)) ∧ (Xi T7 942 ((v3).toNat)) ≤ 15 := hHT7.c _ _
      have e214 : (Xi T7 942 ((v3).toNat)) = Xi S 942 (v3).toNat := by first | rfl | exact (hFT7.cx 942 rfl _).1 | exact (hFT7.cx 942 rfl _).1 | exact (hFT7.cx 942 rfl _).1
      refine l_if_lt rfl rfl (by unfold rg; omega) (fun w583 => ?_) (fun w584 => ?_)
      · refine l_iconst rfl ?_
        refine l_iconst rfl ?_
        refine l_aload_n rfl rfl ?_
        refine l_gfr rfl rfl rfl rfl rfl (hHT7.r 904 67 950 rfl) ?_
        refine l_iload rfl rfl ?_
        refine l_iaload (n := 2600) rfl rfl (by omega) (by omega) (by unfold rg; omega) ?_
        have w585 : 0 ≤ (Xi T7 950 ((v4).toNat)) ∧ (Xi T7 950 ((v4).toNat)) ≤ 5010 := hHT7.c _ _
        have e230 : (Xi T7 950 ((v4).toNat)) ≤ n := by have t := hrf v4 (by omega) (by omega); first | (rw [(hFT7.cx 950 rfl _).1]; omega) | (rw [(hFT7.cx 950 rfl _).1]; omega) | (rw [(hFT7.cx 950 rfl _).1]; omega)
        have w586 : 0 ≤ Xi T7 904 102 ∧ Xi T7 904 102 ≤ 2600 := hHT7.c _ _
        have w587 : -1 ≤ Xi T7 904 103 ∧ Xi T7 904 103 ≤ 2600 := hHT7.c _ _
        have w588 : 0 ≤ Xi T7 904 106 ∧ Xi T7 904 106 ≤ 9 := hHT7.c _ _
        have w589 : -1 ≤ Xi T7 904 116 ∧ Xi T7 904 116 ≤ 15 := hHT7.c _ _
        have w590 : 0 ≤ Xi T7 904 128 ∧ Xi T7 904 128 ≤ 11 := hHT7.c _ _
        have w591 : -1 ≤ Xi T7 904 129 ∧ Xi T7 904 129 ≤ 23 := hHT7.c _ _
        have w592 : 0 ≤ Xi T7 904 69 ∧ Xi T7 904 69 ≤ 2600 := hHT7.c _ _
        have w593 : 0 ≤ Xi T7 904 70 ∧ Xi T7 904 70 ≤ 20 := hHT7.c _ _
        refine l_callV rfl rfl rfl (t_mo_need hHT7 0 4 (Xi T7 950 ((v4).toNat)) ⟨by omega, by omega⟩ ⟨by omega, by omega⟩ ⟨by omega, by omega⟩ _) ?_
        rintro _ T31 ⟨hHT31, w597, rfl, w594, w595⟩
        have hFT31 : FR md_mo_actingMeant S T31 := FR.tr hFT7 w597 rfl
        show Rl _ _ _ _ _ [] _ _
        refine l_aload_n rfl rfl ?_
        refine l_gfr rfl rfl rfl rfl rfl (hHT31.r 904 50 942 rfl) ?_
        refine l_iload_n rfl rfl ?_
        refine l_iaload (n := 12) rfl rfl (by omega) (by omega) (by unfold rg; omega) ?_
        have w598 : (Xi T31 942 ((v3).toNat)) = (Xi T7 942 ((v3).toNat)) := (show Xi T31 942 ((v3).toNat) = Xi T7 942 ((v3).toNat) from w597.x _ _ rfl)
        rw [w598]
        have e239 : (Xi T7 942 ((v3).toNat)) = Xi S 942 (v3).toNat := by first | rfl | exact (hFT31.cx 942 rfl _).1 | exact (hFT7.cx 942 rfl _).1 | exact (hFT7.cx 942 rfl _).1
        refine l_if_ge rfl rfl (by unfold rg; omega) (fun w599 => ?_) (fun w600 => ?_)
        · have w601 : Xi T31 979 (l).toNat = Xi T7 979 (l).toNat := (show Xi T31 979 (l).toNat = Xi T7 979 (l).toNat from (w597.cx 979 rfl _).1)
          have w602 : Xi T31 981 (l).toNat = Xi T7 981 (l).toNat := (show Xi T31 981 (l).toNat = Xi T7 981 (l).toNat from (w597.cx 981 rfl _).1)
          have w603 : Xi T31 982 (l).toNat = Xi T7 982 (l).toNat := (show Xi T31 982 (l).toNat = Xi T7 982 (l).toNat from (w597.cx 982 rfl _).1)
          have w604 : Xi T31 904 102 = Xi T7 904 102 := (show Xi T31 904 102 = Xi T7 904 102 from w597.x _ _ rfl)
          have w605 : 0 ≤ Xi T7 904 102 ∧ Xi T7 904 102 ≤ 2600 := hHT7.c _ _
          have w606 : Xi T31 904 103 = Xi T7 904 103 := (show Xi T31 904 103 = Xi T7 904 103 from w597.x _ _ rfl)
          have w607 : -1 ≤ Xi T7 904 103 ∧ Xi T7 904 103 ≤ 2600 := hHT7.c _ _
          have w608 : 0 ≤ Xi T31 904 106 ∧ Xi T31 904 106 ≤ 9 := hHT31.c _ _
          have w609 : Xi T31 904 116 = Xi T7 904 116 := (show Xi T31 904 116 = Xi T7 904 116 from w597.x _ _ rfl)
          have w610 : -1 ≤ Xi T7 904 116 ∧ Xi T7 904 116 ≤ 15 := hHT7.c _ _
          have w611 : Xi T31 904 128 = Xi T7 904 128 := (show Xi T31 904 128 = Xi T7 904 128 from w597.x _ _ rfl)
          have w612 : 0 ≤ Xi T7 904 128 ∧ Xi T7 904 128 ≤ 11 := hHT7.c _ _
          have w613 : Xi T31 904 129 = Xi T7 904 129 := (show Xi T31 904 129 = Xi T7 904 129 from w597.x _ _ rfl)
          have w614 : -1 ≤ Xi T7 904 129 ∧ Xi T7 904 129 ≤ 23 := hHT7.c _ _
          have w615 : Xi T31 904 69 = Xi T7 904 69 := (show Xi T31 904 69 = Xi T7 904 69 from w597.x _ _ rfl)
          have w616 : 0 ≤ Xi T7 904 69 ∧ Xi T7 904 69 ≤ 2600 := hHT7.c _ _
          have w617 : Xi T31 904 70 = Xi T7 904 70 := (show Xi T31 904 70 = Xi T7 904 70 from w597.x _ _ rfl)
          have w618 : 0 ≤ Xi T7 904 70 ∧ Xi T7 904 70 ≤ 20 := hHT7.c _ _
          exact Rl_weak (C244 T31 hHT31 hFT31 (v3) (v4) (by omega) (by omega) (by omega) (by omega) (by omega) (by omega) (by omega) (by omega) ((KRL_FR w597 rfl (by assumption : KRL T7 S _))) (by omega) (by omega) (by omega)) (And.intro rfl (And.intro rfl (And.intro rfl (And.intro rfl (True.intro)))))
        · refine l_return rfl rfl ?_
          have w619 : Xi T31 979 (l).toNat = Xi T7 979 (l).toNat := (show Xi T31 979 (l).toNat = Xi T7 979 (l).toNat from (w597.cx 979 rfl _).1)
          have w620 : Xi T31 981 (l).toNat = Xi T7 981 (l).toNat := (show Xi T31 981 (l).toNat = Xi T7 981 (l).toNat from (w597.cx 981 rfl _).1)
          have w621 : Xi T31 982 (l).toNat = Xi T7 982 (l).toNat := (show Xi T31 982 (l).toNat = Xi T7 982 (l).toNat from (w597.cx 982 rfl _).1)
          have w622 : Xi T31 904 102 = Xi T7 904 102 := (show Xi T31 904 102 = Xi T7 904 102 from w597.x _ _ rfl)
          have w623 : 0 ≤ Xi T7 904 102 ∧ Xi T7 904 102 ≤ 2600 := hHT7.c _ _
          have w624 : Xi T31 904 103 = Xi T7 904 103 := (show Xi T31 904 103 = Xi T7 904 103 from w597.x _ _ rfl)
          have w625 : -1 ≤ Xi T7 904 103 ∧ Xi T7 904 103 ≤ 2600 := hHT7.c _ _
          have w626 : 0 ≤ Xi T31 904 106 ∧ Xi T31 904 106 ≤ 9 := hHT31.c _ _
          have w627 : Xi T31 904 116 = Xi T7 904 116 := (show Xi T31 904 116 = Xi T7 904 116 from w597.x _ _ rfl)
          have w628 : -1 ≤ Xi T7 904 116 ∧ Xi T7 904 116 ≤ 15 := hHT7.c _ _
          have w629 : Xi T31 904 128 = Xi T7 904 128 := (show Xi T31 904 128 = Xi T7 904 128 from w597.x _ _ rfl)
          have w630 : 0 ≤ Xi T7 904 128 ∧ Xi T7 904 128 ≤ 11 := hHT7.c _ _
          have w631 : Xi T31 904 129 = Xi T7 904 129 := (show Xi T31 904 129 = Xi T7 904 129 from w597.x _ _ rfl)
          have w632 : -1 ≤ Xi T7 904 129 ∧ Xi T7 904 129 ≤ 23 := hHT7.c _ _
          have w633 : Xi T31 904 69 = Xi T7 904 69 := (show Xi T31 904 69 = Xi T7 904 69 from w597.x _ _ rfl)
          have w634 : 0 ≤ Xi T7 904 69 ∧ Xi T7 904 69 ≤ 2600 := hHT7.c _ _
          have w635 : Xi T31 904 70 = Xi T7 904 70 := (show Xi T31 904 70 = Xi T7 904 70 from w597.x _ _ rfl)
          have w636 : 0 ≤ Xi T7 904 70 ∧ Xi T7 904 70 ≤ 20 := hHT7.c _ _
          exact ⟨hHT31, hFT31, rfl, (by omega), (by first | exact (fun _ => rz_1 (nm_i (S := S) (a := v3) (by omega) (by omega) (by omega) (fun j => (hFT31.cx 942 rfl j).1)) M457) M457 | exact rz_0 (by omega) (by omega)), (by omega), (by omega), (by first | exact fun x => absurd x (by omega) | exact fun x => nm_i (S := S) (a := v3) (by omega) (by omega) (by omega) (fun j => (hFT31.cx 942 rfl j).1) | exact fun x => (by have t := A105 (by omega); exact nm_i (S := S) (a := Xi T2 904 128) (by omega) t.1.1 (by first | exact t.2.2 (by omega) | exact m160 (by omega)) (fun j => (hFT31.cx 942 rfl j).1))), ((KRL_FR w597 rfl (by assumption : KRL T7 S _)))⟩
      · refine l_iconst rfl ?_
        refine l_goto rfl rfl ?_
        refine l_iconst rfl ?_
        refine l_aload_n rfl rfl ?_
        refine l_gfr rfl rfl rfl rfl rfl (hHT7.r 904 67 950 rfl) ?_
        refine l_iload rfl rfl ?_
        refine l_iaload (n := 2600) rfl rfl (by omega) (by omega) (by unfold rg; omega) ?_
        have w637 : 0 ≤ (Xi T7 950 ((v4).toNat)) ∧ (Xi T7 950 ((v4).toNat)) ≤ 5010 := hHT7.c _ _
        have e230 : (Xi T7 950 ((v4).toNat)) ≤ n := by have t := hrf v4 (by omega) (by omega); first | (rw [(hFT7.cx 950 rfl _).1]; omega) | (rw [(hFT7.cx 950 rfl _).1]; omega) | (rw [(hFT7.cx 950 rfl _).1]; omega)
        have w638 : 0 ≤ Xi T7 904 102 ∧ Xi T7 904 102 ≤ 2600 := hHT7.c _ _
        have w639 : -1 ≤ Xi T7 904 103 ∧ Xi T7 904 103 ≤ 2600 := hHT7.c _ _
        have w640 : 0 ≤ Xi T7 904 106 ∧ Xi T7 904 106 ≤ 9 := hHT7.c _ _
        have w641 : -1 ≤ Xi T7 904 116 ∧ Xi T7 904 116 ≤ 15 := hHT7.c _ _
        have w642 : 0 ≤ Xi T7 904 128 ∧ Xi T7 904 128 ≤ 11 := hHT7.c _ _
        have w643 : -1 ≤ Xi T7 904 129 ∧ Xi T7 904 129 ≤ 23 := hHT7.c _ _
        have w644 : 0 ≤ Xi T7 904 69 ∧ Xi T7 904 69 ≤ 2600 := hHT7.c _ _
        have w645 : 0 ≤ Xi T7 904 70 ∧ Xi T7 904 70 ≤ 20 := hHT7.c _ _
        refine l_callV rfl rfl rfl (t_mo_need hHT7 1 4 (Xi T7 950 ((v4).toNat)) ⟨by omega, by omega⟩ ⟨by omega, by omega⟩ ⟨by omega, by omega⟩ _) ?_
        rintro _ T32 ⟨hHT32, w649, rfl, w646, w647⟩
        have hFT32 : FR md_mo_actingMeant S T32 := FR.tr hFT7 w649 rfl
        show Rl _ _ _ _ _ [] _ _
        refine l_aload_n rfl rfl ?_
        refine l_gfr rfl rfl rfl rfl rfl (hHT32.r 904 50 942 rfl) ?_
        refine l_iload_n rfl rfl ?_
        refine l_iaload (n := 12) rfl rfl (by omega) (by omega) (by unfold rg; omega) ?_
        have w650 : (Xi T32 942 ((v3).toNat)) = (Xi T7 942 ((v3).toNat)) := (show Xi T32 942 ((v3).toNat) = Xi T7 942 ((v3).toNat) from w649.x _ _ rfl)
        rw [w650]
        have e239 : (Xi T7 942 ((v3).toNat)) = Xi S 942 (v3).toNat := by first | rfl | exact (hFT32.cx 942 rfl _).1 | exact (hFT7.cx 942 rfl _).1 | exact (hFT7.cx 942 rfl _).1
        refine l_if_ge rfl rfl (by unfold rg; omega) (fun w651 => ?_) (fun w652 => ?_)
        · have w653 : Xi T32 979 (l).toNat = Xi T7 979 (l).toNat := (show Xi T32 979 (l).toNat = Xi T7 979 (l).toNat from (w649.cx 979 rfl _).1)
          have w654 : Xi T32 981 (l).toNat = Xi T7 981 (l).toNat := (show Xi T32 981 (l).toNat = Xi T7 981 (l).toNat from (w649.cx 981 rfl _).1)
          have w655 : Xi T32 982 (l).toNat = Xi T7 982 (l).toNat := (show Xi T32 982 (l).toNat = Xi T7 982 (l).toNat from (w649.cx 982 rfl _).1)
          have w656 : Xi T32 904 102 = Xi T7 904 102 := (show Xi T32 904 102 = Xi T7 904 102 from w649.x _ _ rfl)
          have w657 : 0 ≤ Xi T7 904 102 ∧ Xi T7 904 102 ≤ 2600 := hHT7.c _ _
          have w658 : Xi T32 904 103 = Xi T7 904 103 := (show Xi T32 904 103 = Xi T7 904 103 from w649.x _ _ rfl)
          have w659 : -1 ≤ Xi T7 904 103 ∧ Xi T7 904 103 ≤ 2600 := hHT7.c _ _
          have w660 : 0 ≤ Xi T32 904 106 ∧ Xi T32 904 106 ≤ 9 := hHT32.c _ _
          have w661 : Xi T32 904 116 = Xi T7 904 116 := (show Xi T32 904 116 = Xi T7 904 116 from w649.x _ _ rfl)
          have w662 : -1 ≤ Xi T7 904 116 ∧ Xi T7 904 116 ≤ 15 := hHT7.c _ _
          have w663 : Xi T32 904 128 = Xi T7 904 128 := (show Xi T32 904 128 = Xi T7 904 128 from w649.x _ _ rfl)
          have w664 : 0 ≤ Xi T7 904 128 ∧ Xi T7 904 128 ≤ 11 := hHT7.c _ _
          have w665 : Xi T32 904 129 = Xi T7 904 129 := (show Xi T32 904 129 = Xi T7 904 129 from w649.x _ _ rfl)
          have w666 : -1 ≤ Xi T7 904 129 ∧ Xi T7 904 129 ≤ 23 := hHT7.c _ _
          have w667 : Xi T32 904 69 = Xi T7 904 69 := (show Xi T32 904 69 = Xi T7 904 69 from w649.x _ _ rfl)
          have w668 : 0 ≤ Xi T7 904 69 ∧ Xi T7 904 69 ≤ 2600 := hHT7.c _ _
          have w669 : Xi T32 904 70 = Xi T7 904 70 := (show Xi T32 904 70 = Xi T7 904 70 from w649.x _ _ rfl)
          have w670 : 0 ≤ Xi T7 904 70 ∧ Xi T7 904 70 ≤ 20 := hHT7.c _ _
          exact Rl_weak (C244 T32 hHT32 hFT32 (v3) (v4) (by omega) (by omega) (by omega) (by omega) (by omega) (by omega) (by omega) (by omega) ((KRL_FR w649 rfl (by assumption : KRL T7 S _))) (by omega) (by omega) (by omega)) (And.intro rfl (And.intro rfl (And.intro rfl (And.intro rfl (True.intro)))))
        · refine l_return rfl rfl ?_
          have w671 : Xi T32 979 (l).toNat = Xi T7 979 (l).toNat := (show Xi T32 979 (l).toNat = Xi T7 979 (l).toNat from (w649.cx 979 rfl _).1)
          have w672 : Xi T32 981 (l).toNat = Xi T7 981 (l).toNat := (show Xi T32 981 (l).toNat = Xi T7 981 (l).toNat from (w649.cx 981 rfl _).1)
          have w673 : Xi T32 982 (l).toNat = Xi T7 982 (l).toNat := (show Xi T32 982 (l).toNat = Xi T7 982 (l).toNat from (w649.cx 982 rfl _).1)
          have w674 : Xi T32 904 102 = Xi T7 904 102 := (show Xi T32 904 102 = Xi T7 904 102 from w649.x _ _ rfl)
          have w675 : 0 ≤ Xi T7 904 102 ∧ Xi T7 904 102 ≤ 2600 := hHT7.c _ _
          have w676 : Xi T32 904 103 = Xi T7 904 103 := (show Xi T32 904 103 = Xi T7 904 103 from w649.x _ _ rfl)
          have w677 : -1 ≤ Xi T7 904 103 ∧ Xi T7 904 103 ≤ 2600 := hHT7.c _ _
          have w678 : 0 ≤ Xi T32 904 106 ∧ Xi T32 904 106 ≤ 9 := hHT32.c _ _
          have w679 : Xi T32 904 116 = Xi T7 904 116 := (show Xi T32 904 116 = Xi T7 904 116 from w649.x _ _ rfl)
          have w680 : -1 ≤ Xi T7 904 116 ∧ Xi T7 904 116 ≤ 15 := hHT7.c _ _
          have w681 : Xi T32 904 128 = Xi T7 904 128 := (show Xi T32 904 128 = Xi T7 904 128 from w649.x _ _ rfl)
          have w682 : 0 ≤ Xi T7 904 128 ∧ Xi T7 904 128 ≤ 11 := hHT7.c _ _
          have w683 : Xi T32 904 129 = Xi T7 904 129 := (show Xi T32 904 129 = Xi T7 904 129 from w649.x _ _ rfl)
          have w684 : -1 ≤ Xi T7 904 129 ∧ Xi T7 904 129 ≤ 23 := hHT7.c _ _
          have w685 : Xi T32 904 69 = Xi T7 904 69 := (show Xi T32 904 69 = Xi T7 904 69 from w649.x _ _ rfl)
          have w686 : 0 ≤ Xi T7 904 69 ∧ Xi T7 904 69 ≤ 2600 := hHT7.c _ _
          have w687 : Xi T32 904 70 = Xi T7 904 70 := (show Xi T32 904 70 = Xi T7 904 70 from w649.x _ _ rfl)
          have w688 : 0 ≤ Xi T7 904 70 ∧ Xi T7 904 70 ≤ 20 := hHT7.c _ _
          exact ⟨hHT32, hFT32, rfl, (by omega), (by first | exact (fun _ => rz_1 (nm_i (S := S) (a := v3) (by omega) (by omega) (by omega) (fun j => (hFT32.cx 942 rfl j).1)) M457) M457 | exact rz_0 (by omega) (by omega)), (by omega), (by omega), (by first | exact fun x => absurd x (by omega) | exact fun x => nm_i (S := S) (a := v3) (by omega) (by omega) (by omega) (fun j => (hFT32.cx 942 rfl j).1) | exact fun x => (by have t := A105 (by omega); exact nm_i (S := S) (a := Xi T2 904 128) (by omega) t.1.1 (by first | exact t.2.2 (by omega) | exact m160 (by omega)) (fun j => (hFT32.cx 942 rfl j).1))), ((KRL_FR w649 rfl (by assumption : KRL T7 S _)))⟩
    refine l_aload_n rfl rfl ?_
    refine l_gfi rfl rfl rfl rfl rfl ?_
    refine l_bipush rfl rfl ?_
    refine l_icmp_ne rfl rfl (by unfold rg; omega) (by unfold rg; omega) (fun w689 => ?_) (fun w690 => ?_)
    · refine l_aload_n rfl rfl ?_
      refine l_gfi rfl rfl rfl rfl rfl ?_
      refine l_istore_n rfl rfl rfl ?_
      refine l_aload_n rfl rfl ?_
      refine l_gfi rfl rfl rfl rfl rfl ?_
      refine l_iconst rfl ?_
      refine l_icmp_ne rfl rfl (by unfold rg; omega) (by unfold rg; omega) (fun w691 => ?_) (fun w692 => ?_)
      · refine l_aload_n rfl rfl ?_
        refine l_iload_n rfl rfl ?_
        refine l_bipush rfl rfl ?_
        have w693 : 0 ≤ Xi T1 904 102 ∧ Xi T1 904 102 ≤ 2600 := hHT1.c _ _
        have w694 : -1 ≤ Xi T1 904 103 ∧ Xi T1 904 103 ≤ 2600 := hHT1.c _ _
        have w695 : 0 ≤ Xi T1 904 106 ∧ Xi T1 904 106 ≤ 9 := hHT1.c _ _
        have w696 : -1 ≤ Xi T1 904 116 ∧ Xi T1 904 116 ≤ 15 := hHT1.c _ _
        have w697 : 0 ≤ Xi T1 904 128 ∧ Xi T1 904 128 ≤ 11 := hHT1.c _ _
        have w698 : -1 ≤ Xi T1 904 129 ∧ Xi T1 904 129 ≤ 23 := hHT1.c _ _
        have w699 : 0 ≤ Xi T1 904 69 ∧ Xi T1 904 69 ≤ 2600 := hHT1.c _ _
        have w700 : 0 ≤ Xi T1 904 70 ∧ Xi T1 904 70 ≤ 20 := hHT1.c _ _
        refine l_callV rfl rfl rfl (t_mo_meansRun__2 hHT1 n (Xi T1 904 102) 11 ⟨by omega, by omega⟩ ⟨by omega, by omega⟩ (by first | assumption | exact (TK_FR hFT1 rfl (by assumption : TK S _))) (by first | assumption | exact (RNV_FR hFT1 rfl (by assumption : RNV S _))) (by first | assumption | omega) (by first | assumption | exact (LXM_FR hFT1 rfl (by assumption : LXM S))) _) ?_
        rintro _ _ ⟨rfl, z703, rfl, w703, w701, w702⟩
        show Rl _ _ _ _ _ [iv z703] _ _
        have x171 : z703 ≠ -1 → z703 < Xi S 904 49 := fun q => by have t := (by assumption : z703 ≠ -1 → z703 < cM T1 11) q; rw [cM11, hFT1.x 904 49 rfl] at t; exact t
        refine l_istore_n rfl rfl rfl ?_
        refine l_aload_n rfl rfl ?_
        refine l_gfi rfl rfl rfl rfl rfl ?_
        refine l_istore rfl rfl rfl ?_
        refine l_aload_n rfl rfl ?_
        refine l_iload_n rfl rfl ?_
        refine l_iconst rfl ?_
        refine l_icmp_eq rfl rfl (by unfold rg; omega) (by unfold rg; omega) (fun w704 => ?_) (fun w705 => ?_)
        · refine l_iconst rfl ?_
          refine l_iconst rfl ?_
          refine l_aload_n rfl rfl ?_
          refine l_gfr rfl rfl rfl rfl rfl (hHT1.r 904 67 950 rfl) ?_
          refine l_iload_n rfl rfl ?_
          refine l_iaload (n := 2600) rfl rfl (by omega) (by omega) (by unfold rg; omega) ?_
          have w706 : 0 ≤ (Xi T1 950 (((Xi T1 904 102)).toNat)) ∧ (Xi T1 950 (((Xi T1 904 102)).toNat)) ≤ 5010 := hHT1.c _ _
          have e198 : (Xi T1 950 (((Xi T1 904 102)).toNat)) ≤ n := by have t := hrf (Xi T1 904 102) (by omega) (by omega); first | (rw [(hFT1.cx 950 rfl _).1]; omega) | (rw [(hFT1.cx 950 rfl _).1]; omega) | (rw [(hFT1.cx 950 rfl _).1]; omega)
          have w707 : 0 ≤ Xi T1 904 102 ∧ Xi T1 904 102 ≤ 2600 := hHT1.c _ _
          have w708 : -1 ≤ Xi T1 904 103 ∧ Xi T1 904 103 ≤ 2600 := hHT1.c _ _
          have w709 : 0 ≤ Xi T1 904 106 ∧ Xi T1 904 106 ≤ 9 := hHT1.c _ _
          have w710 : -1 ≤ Xi T1 904 116 ∧ Xi T1 904 116 ≤ 15 := hHT1.c _ _
          have w711 : 0 ≤ Xi T1 904 128 ∧ Xi T1 904 128 ≤ 11 := hHT1.c _ _
          have w712 : -1 ≤ Xi T1 904 129 ∧ Xi T1 904 129 ≤ 23 := hHT1.c _ _
          have w713 : 0 ≤ Xi T1 904 69 ∧ Xi T1 904 69 ≤ 2600 := hHT1.c _ _
          have w714 : 0 ≤ Xi T1 904 70 ∧ Xi T1 904 70 ≤ 20 := hHT1.c _ _
          refine l_callV rfl rfl rfl (t_mo_need hHT1 0 4 (Xi T1 950 (((Xi T1 904 102)).toNat)) ⟨by omega, by omega⟩ ⟨by omega, by omega⟩ ⟨by omega, by omega⟩ _) ?_
          rintro _ T33 ⟨hHT33, w718, rfl, w715, w716⟩
          have hFT33 : FR md_mo_actingMeant S T33 := FR.tr hFT1 w718 rfl
          show Rl _ _ _ _ _ [] _ _
          refine l_iload_n rfl rfl ?_
          refine l_iconst rfl ?_
          refine l_icmp_ne rfl rfl (by unfold rg; omega) (by unfold rg; omega) (fun w719 => ?_) (fun w720 => ?_)
          · have w721 : Xi T33 979 (l).toNat = Xi T1 979 (l).toNat := (show Xi T33 979 (l).toNat = Xi T1 979 (l).toNat from (w718.cx 979 rfl _).1)
            have w722 : Xi T33 981 (l).toNat = Xi T1 981 (l).toNat := (show Xi T33 981 (l).toNat = Xi T1 981 (l).toNat from (w718.cx 981 rfl _).1)
            have w723 : Xi T33 982 (l).toNat = Xi T1 982 (l).toNat := (show Xi T33 982 (l).toNat = Xi T1 982 (l).toNat from (w718.cx 982 rfl _).1)
            have w724 : Xi T33 904 102 = Xi T1 904 102 := (show Xi T33 904 102 = Xi T1 904 102 from w718.x _ _ rfl)
            have w725 : 0 ≤ Xi T1 904 102 ∧ Xi T1 904 102 ≤ 2600 := hHT1.c _ _
            have w726 : Xi T33 904 103 = Xi T1 904 103 := (show Xi T33 904 103 = Xi T1 904 103 from w718.x _ _ rfl)
            have w727 : -1 ≤ Xi T1 904 103 ∧ Xi T1 904 103 ≤ 2600 := hHT1.c _ _
            have w728 : 0 ≤ Xi T33 904 106 ∧ Xi T33 904 106 ≤ 9 := hHT33.c _ _
            have w729 : Xi T33 904 116 = Xi T1 904 116 := (show Xi T33 904 116 = Xi T1 904 116 from w718.x _ _ rfl)
            have w730 : -1 ≤ Xi T1 904 116 ∧ Xi T1 904 116 ≤ 15 := hHT1.c _ _
            have w731 : Xi T33 904 128 = Xi T1 904 128 := (show Xi T33 904 128 = Xi T1 904 128 from w718.x _ _ rfl)
            have w732 : 0 ≤ Xi T1 904 128 ∧ Xi T1 904 128 ≤ 11 := hHT1.c _ _
            have w733 : Xi T33 904 129 = Xi T1 904 129 := (show Xi T33 904 129 = Xi T1 904 129 from w718.x _ _ rfl)
            have w734 : -1 ≤ Xi T1 904 129 ∧ Xi T1 904 129 ≤ 23 := hHT1.c _ _
            have w735 : Xi T33 904 69 = Xi T1 904 69 := (show Xi T33 904 69 = Xi T1 904 69 from w718.x _ _ rfl)
            have w736 : 0 ≤ Xi T1 904 69 ∧ Xi T1 904 69 ≤ 2600 := hHT1.c _ _
            have w737 : Xi T33 904 70 = Xi T1 904 70 := (show Xi T33 904 70 = Xi T1 904 70 from w718.x _ _ rfl)
            have w738 : 0 ≤ Xi T1 904 70 ∧ Xi T1 904 70 ≤ 20 := hHT1.c _ _
            exact Rl_weak (C208 T33 hHT33 hFT33 (z703) ((Xi T1 904 103)) (by omega) (by omega) (by omega) (by omega) (by omega) (by omega) (by omega) (by omega) ((KRL_FR w718 rfl (by assumption : KRL T1 S _))) (by omega) (by omega)) (And.intro rfl (And.intro rfl (And.intro rfl (And.intro rfl (True.intro)))))
          · refine l_return rfl rfl ?_
            have w739 : Xi T33 979 (l).toNat = Xi T1 979 (l).toNat := (show Xi T33 979 (l).toNat = Xi T1 979 (l).toNat from (w718.cx 979 rfl _).1)
            have w740 : Xi T33 981 (l).toNat = Xi T1 981 (l).toNat := (show Xi T33 981 (l).toNat = Xi T1 981 (l).toNat from (w718.cx 981 rfl _).1)
            have w741 : Xi T33 982 (l).toNat = Xi T1 982 (l).toNat := (show Xi T33 982 (l).toNat = Xi T1 982 (l).toNat from (w718.cx 982 rfl _).1)
            have w742 : Xi T33 904 102 = Xi T1 904 102 := (show Xi T33 904 102 = Xi T1 904 102 from w718.x _ _ rfl)
            have w743 : 0 ≤ Xi T1 904 102 ∧ Xi T1 904 102 ≤ 2600 := hHT1.c _ _
            have w744 : Xi T33 904 103 = Xi T1 904 103 := (show Xi T33 904 103 = Xi T1 904 103 from w718.x _ _ rfl)
            have w745 : -1 ≤ Xi T1 904 103 ∧ Xi T1 904 103 ≤ 2600 := hHT1.c _ _
            have w746 : 0 ≤ Xi T33 904 106 ∧ Xi T33 904 106 ≤ 9 := hHT33.c _ _
            have w747 : Xi T33 904 116 = Xi T1 904 116 := (show Xi T33 904 116 = Xi T1 904 116 from w718.x _ _ rfl)
            have w748 : -1 ≤ Xi T1 904 116 ∧ Xi T1 904 116 ≤ 15 := hHT1.c _ _
            have w749 : Xi T33 904 128 = Xi T1 904 128 := (show Xi T33 904 128 = Xi T1 904 128 from w718.x _ _ rfl)
            have w750 : 0 ≤ Xi T1 904 128 ∧ Xi T1 904 128 ≤ 11 := hHT1.c _ _
            have w751 : Xi T33 904 129 = Xi T1 904 129 := (show Xi T33 904 129 = Xi T1 904 129 from w718.x _ _ rfl)
            have w752 : -1 ≤ Xi T1 904 129 ∧ Xi T1 904 129 ≤ 23 := hHT1.c _ _
            have w753 : Xi T33 904 69 = Xi T1 904 69 := (show Xi T33 904 69 = Xi T1 904 69 from w718.x _ _ rfl)
            have w754 : 0 ≤ Xi T1 904 69 ∧ Xi T1 904 69 ≤ 2600 := hHT1.c _ _
            have w755 : Xi T33 904 70 = Xi T1 904 70 := (show Xi T33 904 70 = Xi T1 904 70 from w718.x _ _ rfl)
            have w756 : 0 ≤ Xi T1 904 70 ∧ Xi T1 904 70 ≤ 20 := hHT1.c _ _
            exact ⟨hHT33, hFT33, rfl, (by omega), (by first | exact (fun _ => rz_1 (nm_i (S := S) (a := v3) (by omega) (by omega) (by omega) (fun j => (hFT33.cx 942 rfl j).1)) M457) M457 | exact rz_0 (by omega) (by omega)), (by omega), (by omega), (by first | exact fun x => absurd x (by omega) | exact fun x => nm_i (S := S) (a := v3) (by omega) (by omega) (by omega) (fun j => (hFT33.cx 942 rfl j).1) | exact fun x => (by have t := A105 (by omega); exact nm_i (S := S) (a := Xi T2 904 128) (by omega) t.1.1 (by first | exact t.2.2 (by omega) | exact m160 (by omega)) (fun j => (hFT33.cx 942 rfl j).1))), ((KRL_FR w718 rfl (by assumption : KRL T1 S _)))⟩
        · refine l_iconst rfl ?_
          refine l_goto rfl rfl ?_
          refine l_iconst rfl ?_
          refine l_aload_n rfl rfl ?_
          refine l_gfr rfl rfl rfl rfl rfl (hHT1.r 904 67 950 rfl) ?_
          refine l_iload_n rfl rfl ?_
          refine l_iaload (n := 2600) rfl rfl (by omega) (by omega) (by unfold rg; omega) ?_
          have w757 : 0 ≤ (Xi T1 950 (((Xi T1 904 102)).toNat)) ∧ (Xi T1 950 (((Xi T1 904 102)).toNat)) ≤ 5010 := hHT1.c _ _
          have e198 : (Xi T1 950 (((Xi T1 904 102)).toNat)) ≤ n := by have t := hrf (Xi T1 904 102) (by omega) (by omega); first | (rw [(hFT1.cx 950 rfl _).1]; omega) | (rw [(hFT1.cx 950 rfl _).1]; omega) | (rw [(hFT1.cx 950 rfl _).1]; omega)
          have w758 : 0 ≤ Xi T1 904 102 ∧ Xi T1 904 102 ≤ 2600 := hHT1.c _ _
          have w759 : -1 ≤ Xi T1 904 103 ∧ Xi T1 904 103 ≤ 2600 := hHT1.c _ _
          have w760 : 0 ≤ Xi T1 904 106 ∧ Xi T1 904 106 ≤ 9 := hHT1.c _ _
          have w761 : -1 ≤ Xi T1 904 116 ∧ Xi T1 904 116 ≤ 15 := hHT1.c _ _
          have w762 : 0 ≤ Xi T1 904 128 ∧ Xi T1 904 128 ≤ 11 := hHT1.c _ _
          have w763 : -1 ≤ Xi T1 904 129 ∧ Xi T1 904 129 ≤ 23 := hHT1.c _ _
          have w764 : 0 ≤ Xi T1 904 69 ∧ Xi T1 904 69 ≤ 2600 := hHT1.c _ _
          have w765 : 0 ≤ Xi T1 904 70 ∧ Xi T1 904 70 ≤ 20 := hHT1.c _ _
          refine l_callV rfl rfl rfl (t_mo_need hHT1 1 4 (Xi T1 950 (((Xi T1 904 102)).toNat)) ⟨by omega, by omega⟩ ⟨by omega, by omega⟩ ⟨by omega, by omega⟩ _) ?_
          rintro _ T34 ⟨hHT34, w769, rfl, w766, w767⟩
          have hFT34 : FR md_mo_actingMeant S T34 := FR.tr hFT1 w769 rfl
          show Rl _ _ _ _ _ [] _ _
          refine l_iload_n rfl rfl ?_
          refine l_iconst rfl ?_
          refine l_icmp_ne rfl rfl (by unfold rg; omega) (by unfold rg; omega) (fun w770 => ?_) (fun w771 => ?_)
          · have w772 : Xi T34 979 (l).toNat = Xi T1 979 (l).toNat := (show Xi T34 979 (l).toNat = Xi T1 979 (l).toNat from (w769.cx 979 rfl _).1)
            have w773 : Xi T34 981 (l).toNat = Xi T1 981 (l).toNat := (show Xi T34 981 (l).toNat = Xi T1 981 (l).toNat from (w769.cx 981 rfl _).1)
            have w774 : Xi T34 982 (l).toNat = Xi T1 982 (l).toNat := (show Xi T34 982 (l).toNat = Xi T1 982 (l).toNat from (w769.cx 982 rfl _).1)
            have w775 : Xi T34 904 102 = Xi T1 904 102 := (show Xi T34 904 102 = Xi T1 904 102 from w769.x _ _ rfl)
            have w776 : 0 ≤ Xi T1 904 102 ∧ Xi T1 904 102 ≤ 2600 := hHT1.c _ _
            have w777 : Xi T34 904 103 = Xi T1 904 103 := (show Xi T34 904 103 = Xi T1 904 103 from w769.x _ _ rfl)
            have w778 : -1 ≤ Xi T1 904 103 ∧ Xi T1 904 103 ≤ 2600 := hHT1.c _ _
            have w779 : 0 ≤ Xi T34 904 106 ∧ Xi T34 904 106 ≤ 9 := hHT34.c _ _
            have w780 : Xi T34 904 116 = Xi T1 904 116 := (show Xi T34 904 116 = Xi T1 904 116 from w769.x _ _ rfl)
            have w781 : -1 ≤ Xi T1 904 116 ∧ Xi T1 904 116 ≤ 15 := hHT1.c _ _
            have w782 : Xi T34 904 128 = Xi T1 904 128 := (show Xi T34 904 128 = Xi T1 904 128 from w769.x _ _ rfl)
            have w783 : 0 ≤ Xi T1 904 128 ∧ Xi T1 904 128 ≤ 11 := hHT1.c _ _
            have w784 : Xi T34 904 129 = Xi T1 904 129 := (show Xi T34 904 129 = Xi T1 904 129 from w769.x _ _ rfl)
            have w785 : -1 ≤ Xi T1 904 129 ∧ Xi T1 904 129 ≤ 23 := hHT1.c _ _
            have w786 : Xi T34 904 69 = Xi T1 904 69 := (show Xi T34 904 69 = Xi T1 904 69 from w769.x _ _ rfl)
            have w787 : 0 ≤ Xi T1 904 69 ∧ Xi T1 904 69 ≤ 2600 := hHT1.c _ _
            have w788 : Xi T34 904 70 = Xi T1 904 70 := (show Xi T34 904 70 = Xi T1 904 70 from w769.x _ _ rfl)
            have w789 : 0 ≤ Xi T1 904 70 ∧ Xi T1 904 70 ≤ 20 := hHT1.c _ _
            exact Rl_weak (C208 T34 hHT34 hFT34 (z703) ((Xi T1 904 103)) (by omega) (by omega) (by omega) (by omega) (by omega) (by omega) (by omega) (by omega) ((KRL_FR w769 rfl (by assumption : KRL T1 S _))) (by omega) (by omega)) (And.intro rfl (And.intro rfl (And.intro rfl (And.intro rfl (True.intro)))))
          · refine l_return rfl rfl ?_
            have w790 : Xi T34 979 (l).toNat = Xi T1 979 (l).toNat := (show Xi T34 979 (l).toNat = Xi T1 979 (l).toNat from (w769.cx 979 rfl _).1)
            have w791 : Xi T34 981 (l).toNat = Xi T1 981 (l).toNat := (show Xi T34 981 (l).toNat = Xi T1 981 (l).toNat from (w769.cx 981 rfl _).1)
            have w792 : Xi T34 982 (l).toNat = Xi T1 982 (l).toNat := (show Xi T34 982 (l).toNat = Xi T1 982 (l).toNat from (w769.cx 982 rfl _).1)
            have w793 : Xi T34 904 102 = Xi T1 904 102 := (show Xi T34 904 102 = Xi T1 904 102 from w769.x _ _ rfl)
            have w794 : 0 ≤ Xi T1 904 102 ∧ Xi T1 904 102 ≤ 2600 := hHT1.c _ _
            have w795 : Xi T34 904 103 = Xi T1 904 103 := (show Xi T34 904 103 = Xi T1 904 103 from w769.x _ _ rfl)
            have w796 : -1 ≤ Xi T1 904 103 ∧ Xi T1 904 103 ≤ 2600 := hHT1.c _ _
            have w797 : 0 ≤ Xi T34 904 106 ∧ Xi T34 904 106 ≤ 9 := hHT34.c _ _
            have w798 : Xi T34 904 116 = Xi T1 904 116 := (show Xi T34 904 116 = Xi T1 904 116 from w769.x _ _ rfl)
            have w799 : -1 ≤ Xi T1 904 116 ∧ Xi T1 904 116 ≤ 15 := hHT1.c _ _
            have w800 : Xi T34 904 128 = Xi T1 904 128 := (show Xi T34 904 128 = Xi T1 904 128 from w769.x _ _ rfl)
            have w801 : 0 ≤ Xi T1 904 128 ∧ Xi T1 904 128 ≤ 11 := hHT1.c _ _
            have w802 : Xi T34 904 129 = Xi T1 904 129 := (show Xi T34 904 129 = Xi T1 904 129 from w769.x _ _ rfl)
            have w803 : -1 ≤ Xi T1 904 129 ∧ Xi T1 904 129 ≤ 23 := hHT1.c _ _
            have w804 : Xi T34 904 69 = Xi T1 904 69 := (show Xi T34 904 69 = Xi T1 904 69 from w769.x _ _ rfl)
            have w805 : 0 ≤ Xi T1 904 69 ∧ Xi T1 904 69 ≤ 2600 := hHT1.c _ _
            have w806 : Xi T34 904 70 = Xi T1 904 70 := (show Xi T34 904 70 = Xi T1 904 70 from w769.x _ _ rfl)
            have w807 : 0 ≤ Xi T1 904 70 ∧ Xi T1 904 70 ≤ 20 := hHT1.c _ _
            exact ⟨hHT34, hFT34, rfl, (by omega), (by first | exact (fun _ => rz_1 (nm_i (S := S) (a := v3) (by omega) (by omega) (by omega) (fun j => (hFT34.cx 942 rfl j).1)) M457) M457 | exact rz_0 (by omega) (by omega)), (by omega), (by omega), (by first | exact fun x => absurd x (by omega) | exact fun x => nm_i (S := S) (a := v3) (by omega) (by omega) (by omega) (fun j => (hFT34.cx 942 rfl j).1) | exact fun x => (by have t := A105 (by omega); exact nm_i (S := S) (a := Xi T2 904 128) (by omega) t.1.1 (by first | exact t.2.2 (by omega) | exact m160 (by omega)) (fun j => (hFT34.cx 942 rfl j).1))), ((KRL_FR w769 rfl (by assumption : KRL T1 S _)))⟩
      · refine l_aload_n rfl rfl ?_
        refine l_iload_n rfl rfl ?_
        refine l_iconst rfl ?_
        have w808 : 0 ≤ Xi T1 904 102 ∧ Xi T1 904 102 ≤ 2600 := hHT1.c _ _
        have w809 : -1 ≤ Xi T1 904 103 ∧ Xi T1 904 103 ≤ 2600 := hHT1.c _ _
        have w810 : 0 ≤ Xi T1 904 106 ∧ Xi T1 904 106 ≤ 9 := hHT1.c _ _
        have w811 : -1 ≤ Xi T1 904 116 ∧ Xi T1 904 116 ≤ 15 := hHT1.c _ _
        have w812 : 0 ≤ Xi T1 904 128 ∧ Xi T1 904 128 ≤ 11 := hHT1.c _ _
        have w813 : -1 ≤ Xi T1 904 129 ∧ Xi T1 904 129 ≤ 23 := hHT1.c _ _
        have w814 : 0 ≤ Xi T1 904 19 ∧ Xi T1 904 19 ≤ 24 := hHT1.c _ _
        have w815 : 0 ≤ Xi T1 904 49 ∧ Xi T1 904 49 ≤ 12 := hHT1.c _ _
        have w816 : 0 ≤ Xi T1 904 69 ∧ Xi T1 904 69 ≤ 2600 := hHT1.c _ _
        have w817 : 0 ≤ Xi T1 904 70 ∧ Xi T1 904 70 ≤ 20 := hHT1.c _ _
        refine l_callV rfl rfl rfl (t_mo_actings hHT1 n (Xi T1 904 102) 0 ⟨by omega, by omega⟩ ⟨by omega, by omega⟩ (by first | assumption | exact (TK_FR hFT1 rfl (by assumption : TK S _))) (by first | assumption | exact (RNV_FR hFT1 rfl (by assumption : RNV S _))) (by first | assumption | omega) (by first | assumption | exact (LXM_FR hFT1 rfl (by assumption : LXM S))) (by first | assumption | exact (ABV_FR hFT1 rfl (by assumption : ABV S))) _) ?_
        rintro _ T35 ⟨hHT35, w820, z819, rfl, w819, w818⟩
        have hFT35 : FR md_mo_actingMeant S T35 := FR.tr hFT1 w820 rfl
        show Rl _ _ _ _ _ [iv z819] _ _
        have A59 : 1 ≤ z819 → (0 ≤ Xi T35 904 128 ∧ Xi T35 904 128 < Xi S 904 49) ∧ Xi T35 904 129 < Xi S 904 19 ∧ (Xi T35 904 129 ≠ -1 → 0 ≤ Xi S 942 (Xi T35 904 128).toNat) := fun x => by have t := (by assumption : 1 ≤ z819 → _) x; rw [hFT1.x 904 49 rfl, hFT1.x 904 19 rfl, (hFT1.cx 942 rfl _).1] at t; exact ⟨t.1, t.2.1, t.2.2.1⟩
        refine l_istore_n rfl rfl rfl ?_
        refine l_aload_n rfl rfl ?_
        refine l_iload_n rfl rfl ?_
        refine l_if_le rfl rfl (by unfold rg; omega) (fun w821 => ?_) (fun w822 => ?_)
        · refine l_iconst rfl ?_
          refine l_iconst rfl ?_
          refine l_aload_n rfl rfl ?_
          refine l_gfr rfl rfl rfl rfl rfl (hHT35.r 904 67 950 rfl) ?_
          refine l_iload_n rfl rfl ?_
          refine l_iaload (n := 2600) rfl rfl (by omega) (by omega) (by unfold rg; omega) ?_
          have w823 : 0 ≤ (Xi T35 950 (((Xi T1 904 102)).toNat)) ∧ (Xi T35 950 (((Xi T1 904 102)).toNat)) ≤ 5010 := hHT35.c _ _
          have e79 : (Xi T35 950 (((Xi T1 904 102)).toNat)) ≤ n := by have t := hrf (Xi T1 904 102) (by omega) (by omega); first | (rw [(hFT35.cx 950 rfl _).1]; omega) | (rw [(hFT1.cx 950 rfl _).1]; omega) | (rw [(hFT1.cx 950 rfl _).1]; omega)
          have w824 : Xi T35 904 102 = Xi T1 904 102 := (show Xi T35 904 102 = Xi T1 904 102 from w820.x _ _ rfl)
          have w825 : 0 ≤ Xi T1 904 102 ∧ Xi T1 904 102 ≤ 2600 := hHT1.c _ _
          have w826 : Xi T35 904 103 = Xi T1 904 103 := (show Xi T35 904 103 = Xi T1 904 103 from w820.x _ _ rfl)
          have w827 : -1 ≤ Xi T1 904 103 ∧ Xi T1 904 103 ≤ 2600 := hHT1.c _ _
          have w828 : Xi T35 904 106 = Xi T1 904 106 := (show Xi T35 904 106 = Xi T1 904 106 from w820.x _ _ rfl)
          have w829 : 0 ≤ Xi T1 904 106 ∧ Xi T1 904 106 ≤ 9 := hHT1.c _ _
          have w830 : Xi T35 904 116 = Xi T1 904 116 := (show Xi T35 904 116 = Xi T1 904 116 from w820.x _ _ rfl)
          have w831 : -1 ≤ Xi T1 904 116 ∧ Xi T1 904 116 ≤ 15 := hHT1.c _ _
          have w832 : 0 ≤ Xi T35 904 128 ∧ Xi T35 904 128 ≤ 11 := hHT35.c _ _
          have w833 : -1 ≤ Xi T35 904 129 ∧ Xi T35 904 129 ≤ 23 := hHT35.c _ _
          have w834 : Xi T35 904 69 = Xi T1 904 69 := (show Xi T35 904 69 = Xi T1 904 69 from w820.x _ _ rfl)
          have w835 : 0 ≤ Xi T1 904 69 ∧ Xi T1 904 69 ≤ 2600 := hHT1.c _ _
          have w836 : Xi T35 904 70 = Xi T1 904 70 := (show Xi T35 904 70 = Xi T1 904 70 from w820.x _ _ rfl)
          have w837 : 0 ≤ Xi T1 904 70 ∧ Xi T1 904 70 ≤ 20 := hHT1.c _ _
          refine l_callV rfl rfl rfl (t_mo_need hHT35 0 4 (Xi T35 950 (((Xi T1 904 102)).toNat)) ⟨by omega, by omega⟩ ⟨by omega, by omega⟩ ⟨by omega, by omega⟩ _) ?_
          rintro _ T36 ⟨hHT36, w841, rfl, w838, w839⟩
          have hFT36 : FR md_mo_actingMeant S T36 := FR.tr hFT35 w841 rfl
          show Rl _ _ _ _ _ [] _ _
          refine l_aload_n rfl rfl ?_
          refine l_iload_n rfl rfl ?_
          refine l_iconst rfl ?_
          refine l_icmp_ge rfl rfl (by unfold rg; omega) (by unfold rg; omega) (fun w842 => ?_) (fun w843 => ?_)
          · refine l_iconst rfl ?_
            refine l_bipush rfl rfl ?_
            refine l_aload_n rfl rfl ?_
            refine l_gfr rfl rfl rfl rfl rfl (hHT36.r 904 67 950 rfl) ?_
            refine l_iload_n rfl rfl ?_
            refine l_iaload (n := 2600) rfl rfl (by omega) (by omega) (by unfold rg; omega) ?_
            have w844 : (Xi T36 950 (((Xi T1 904 102)).toNat)) = (Xi T35 950 (((Xi T1 904 102)).toNat)) := (show Xi T36 950 (((Xi T1 904 102)).toNat) = Xi T35 950 (((Xi T1 904 102)).toNat) from w841.x _ _ rfl)
            rw [w844]
            have e101 : (Xi T35 950 (((Xi T1 904 102)).toNat)) ≤ n := by have t := hrf (Xi T1 904 102) (by omega) (by omega); first | (rw [(hFT36.cx 950 rfl _).1]; omega) | (rw [(hFT35.cx 950 rfl _).1]; omega) | (rw [(hFT1.cx 950 rfl _).1]; omega)
            have w845 : Xi T36 904 102 = Xi T1 904 102 := (show Xi T36 904 102 = Xi T35 904 102 from w841.x _ _ rfl).trans ((show Xi T35 904 102 = Xi T1 904 102 from w820.x _ _ rfl))
            have w846 : 0 ≤ Xi T1 904 102 ∧ Xi T1 904 102 ≤ 2600 := hHT1.c _ _
            have w847 : Xi T36 904 103 = Xi T1 904 103 := (show Xi T36 904 103 = Xi T35 904 103 from w841.x _ _ rfl).trans ((show Xi T35 904 103 = Xi T1 904 103 from w820.x _ _ rfl))
            have w848 : -1 ≤ Xi T1 904 103 ∧ Xi T1 904 103 ≤ 2600 := hHT1.c _ _
            have w849 : 0 ≤ Xi T36 904 106 ∧ Xi T36 904 106 ≤ 9 := hHT36.c _ _
            have w850 : Xi T36 904 116 = Xi T1 904 116 := (show Xi T36 904 116 = Xi T35 904 116 from w841.x _ _ rfl).trans ((show Xi T35 904 116 = Xi T1 904 116 from w820.x _ _ rfl))
            have w851 : -1 ≤ Xi T1 904 116 ∧ Xi T1 904 116 ≤ 15 := hHT1.c _ _
            have w852 : Xi T36 904 128 = Xi T35 904 128 := (show Xi T36 904 128 = Xi T35 904 128 from w841.x _ _ rfl)
            have w853 : 0 ≤ Xi T35 904 128 ∧ Xi T35 904 128 ≤ 11 := hHT35.c _ _
            have w854 : Xi T36 904 129 = Xi T35 904 129 := (show Xi T36 904 129 = Xi T35 904 129 from w841.x _ _ rfl)
            have w855 : -1 ≤ Xi T35 904 129 ∧ Xi T35 904 129 ≤ 23 := hHT35.c _ _
            have w856 : Xi T36 904 69 = Xi T1 904 69 := (show Xi T36 904 69 = Xi T35 904 69 from w841.x _ _ rfl).trans ((show Xi T35 904 69 = Xi T1 904 69 from w820.x _ _ rfl))
            have w857 : 0 ≤ Xi T1 904 69 ∧ Xi T1 904 69 ≤ 2600 := hHT1.c _ _
            have w858 : Xi T36 904 70 = Xi T1 904 70 := (show Xi T36 904 70 = Xi T35 904 70 from w841.x _ _ rfl).trans ((show Xi T35 904 70 = Xi T1 904 70 from w820.x _ _ rfl))
            have w859 : 0 ≤ Xi T1 904 70 ∧ Xi T1 904 70 ≤ 20 := hHT1.c _ _
            refine l_callV rfl rfl rfl (t_mo_need hHT36 0 7 (Xi T35 950 (((Xi T1 904 102)).toNat)) ⟨by omega, by omega⟩ ⟨by omega, by omega⟩ ⟨by omega, by omega⟩ _) ?_
            rintro _ T37 ⟨hHT37, w863, rfl, w860, w861⟩
            have hFT37 : FR md_mo_actingMeant S T37 := FR.tr hFT36 w863 rfl
            show Rl _ _ _ _ _ [] _ _
            have w864 : Xi T37 979 (l).toNat = Xi T1 979 (l).toNat := (show Xi T37 979 (l).toNat = Xi T36 979 (l).toNat from (w863.cx 979 rfl _).1).trans ( (show Xi T36 979 (l).toNat = Xi T35 979 (l).toNat from (w841.cx 979 rfl _).1).trans ((show Xi T35 979 (l).toNat = Xi T1 979 (l).toNat from (w820.cx 979 rfl _).1)))
            have w865 : Xi T37 981 (l).toNat = Xi T1 981 (l).toNat := (show Xi T37 981 (l).toNat = Xi T36 981 (l).toNat from (w863.cx 981 rfl _).1).trans ( (show Xi T36 981 (l).toNat = Xi T35 981 (l).toNat from (w841.cx 981 rfl _).1).trans ((show Xi T35 981 (l).toNat = Xi T1 981 (l).toNat from (w820.cx 981 rfl _).1)))
            have w866 : Xi T37 982 (l).toNat = Xi T1 982 (l).toNat := (show Xi T37 982 (l).toNat = Xi T36 982 (l).toNat from (w863.cx 982 rfl _).1).trans ( (show Xi T36 982 (l).toNat = Xi T35 982 (l).toNat from (w841.cx 982 rfl _).1).trans ((show Xi T35 982 (l).toNat = Xi T1 982 (l).toNat from (w820.cx 982 rfl _).1)))
            have w867 : Xi T37 904 102 = Xi T1 904 102 := (show Xi T37 904 102 = Xi T36 904 102 from w863.x _ _ rfl).trans ( (show Xi T36 904 102 = Xi T35 904 102 from w841.x _ _ rfl).trans ((show Xi T35 904 102 = Xi T1 904 102 from w820.x _ _ rfl)))
            have w868 : 0 ≤ Xi T1 904 102 ∧ Xi T1 904 102 ≤ 2600 := hHT1.c _ _
            have w869 : Xi T37 904 103 = Xi T1 904 103 := (show Xi T37 904 103 = Xi T36 904 103 from w863.x _ _ rfl).trans ( (show Xi T36 904 103 = Xi T35 904 103 from w841.x _ _ rfl).trans ((show Xi T35 904 103 = Xi T1 904 103 from w820.x _ _ rfl)))
            have w870 : -1 ≤ Xi T1 904 103 ∧ Xi T1 904 103 ≤ 2600 := hHT1.c _ _
            have w871 : 0 ≤ Xi T37 904 106 ∧ Xi T37 904 106 ≤ 9 := hHT37.c _ _
            have w872 : Xi T37 904 116 = Xi T1 904 116 := (show Xi T37 904 116 = Xi T36 904 116 from w863.x _ _ rfl).trans ( (show Xi T36 904 116 = Xi T35 904 116 from w841.x _ _ rfl).trans ((show Xi T35 904 116 = Xi T1 904 116 from w820.x _ _ rfl)))
            have w873 : -1 ≤ Xi T1 904 116 ∧ Xi T1 904 116 ≤ 15 := hHT1.c _ _
            have w874 : Xi T37 904 128 = Xi T35 904 128 := (show Xi T37 904 128 = Xi T36 904 128 from w863.x _ _ rfl).trans ((show Xi T36 904 128 = Xi T35 904 128 from w841.x _ _ rfl))
            have w875 : 0 ≤ Xi T35 904 128 ∧ Xi T35 904 128 ≤ 11 := hHT35.c _ _
            have w876 : Xi T37 904 129 = Xi T35 904 129 := (show Xi T37 904 129 = Xi T36 904 129 from w863.x _ _ rfl).trans ((show Xi T36 904 129 = Xi T35 904 129 from w841.x _ _ rfl))
            have w877 : -1 ≤ Xi T35 904 129 ∧ Xi T35 904 129 ≤ 23 := hHT35.c _ _
            have w878 : Xi T37 904 69 = Xi T1 904 69 := (show Xi T37 904 69 = Xi T36 904 69 from w863.x _ _ rfl).trans ( (show Xi T36 904 69 = Xi T35 904 69 from w841.x _ _ rfl).trans ((show Xi T35 904 69 = Xi T1 904 69 from w820.x _ _ rfl)))
            have w879 : 0 ≤ Xi T1 904 69 ∧ Xi T1 904 69 ≤ 2600 := hHT1.c _ _
            have w880 : Xi T37 904 70 = Xi T1 904 70 := (show Xi T37 904 70 = Xi T36 904 70 from w863.x _ _ rfl).trans ( (show Xi T36 904 70 = Xi T35 904 70 from w841.x _ _ rfl).trans ((show Xi T35 904 70 = Xi T1 904 70 from w820.x _ _ rfl)))
            have w881 : 0 ≤ Xi T1 904 70 ∧ Xi T1 904 70 ≤ 20 := hHT1.c _ _
            exact Rl_weak (C105 T37 hHT37 hFT37 (z819) (by omega) (by omega) (by omega) (by omega) (by omega) (by omega) (by omega) ((KRL_FR w863 rfl (KRL_FR w841 rfl (KRL_FR w820 rfl (by assumption : KRL T1 S _))))) (fun x => by rw [show Xi T37 904 128 = Xi T35 904 128 by omega, show Xi T37 904 129 = Xi T35 904 129 by omega]; exact A59 x)) (And.intro rfl (And.intro rfl (And.intro rfl (True.intro))))
          · refine l_iconst rfl ?_
            refine l_goto rfl rfl ?_
            refine l_bipush rfl rfl ?_
            refine l_aload_n rfl rfl ?_
            refine l_gfr rfl rfl rfl rfl rfl (hHT36.r 904 67 950 rfl) ?_
            refine l_iload_n rfl rfl ?_
            refine l_iaload (n := 2600) rfl rfl (by omega) (by omega) (by unfold rg; omega) ?_
            have w882 : (Xi T36 950 (((Xi T1 904 102)).toNat)) = (Xi T35 950 (((Xi T1 904 102)).toNat)) := (show Xi T36 950 (((Xi T1 904 102)).toNat) = Xi T35 950 (((Xi T1 904 102)).toNat) from w841.x _ _ rfl)
            rw [w882]
            have e101 : (Xi T35 950 (((Xi T1 904 102)).toNat)) ≤ n := by have t := hrf (Xi T1 904 102) (by omega) (by omega); first | (rw [(hFT36.cx 950 rfl _).1]; omega) | (rw [(hFT35.cx 950 rfl _).1]; omega) | (rw [(hFT1.cx 950 rfl _).1]; omega)
            have w883 : Xi T36 904 102 = Xi T1 904 102 := (show Xi T36 904 102 = Xi T35 904 102 from w841.x _ _ rfl).trans ((show Xi T35 904 102 = Xi T1 904 102 from w820.x _ _ rfl))
            have w884 : 0 ≤ Xi T1 904 102 ∧ Xi T1 904 102 ≤ 2600 := hHT1.c _ _
            have w885 : Xi T36 904 103 = Xi T1 904 103 := (show Xi T36 904 103 = Xi T35 904 103 from w841.x _ _ rfl).trans ((show Xi T35 904 103 = Xi T1 904 103 from w820.x _ _ rfl))
            have w886 : -1 ≤ Xi T1 904 103 ∧ Xi T1 904 103 ≤ 2600 := hHT1.c _ _
            have w887 : 0 ≤ Xi T36 904 106 ∧ Xi T36 904 106 ≤ 9 := hHT36.c _ _
            have w888 : Xi T36 904 116 = Xi T1 904 116 := (show Xi T36 904 116 = Xi T35 904 116 from w841.x _ _ rfl).trans ((show Xi T35 904 116 = Xi T1 904 116 from w820.x _ _ rfl))
            have w889 : -1 ≤ Xi T1 904 116 ∧ Xi T1 904 116 ≤ 15 := hHT1.c _ _
            have w890 : Xi T36 904 128 = Xi T35 904 128 := (show Xi T36 904 128 = Xi T35 904 128 from w841.x _ _ rfl)
            have w891 : 0 ≤ Xi T35 904 128 ∧ Xi T35 904 128 ≤ 11 := hHT35.c _ _
            have w892 : Xi T36 904 129 = Xi T35 904 129 := (show Xi T36 904 129 = Xi T35 904 129 from w841.x _ _ rfl)
            have w893 : -1 ≤ Xi T35 904 129 ∧ Xi T35 904 129 ≤ 23 := hHT35.c _ _
            have w894 : Xi T36 904 69 = Xi T1 904 69 := (show Xi T36 904 69 = Xi T35 904 69 from w841.x _ _ rfl).trans ((show Xi T35 904 69 = Xi T1 904 69 from w820.x _ _ rfl))
            have w895 : 0 ≤ Xi T1 904 69 ∧ Xi T1 904 69 ≤ 2600 := hHT1.c _ _
            have w896 : Xi T36 904 70 = Xi T1 904 70 := (show Xi T36 904 70 = Xi T35 904 70 from w841.x _ _ rfl).trans ((show Xi T35 904 70 = Xi T1 904 70 from w820.x _ _ rfl))
            have w897 : 0 ≤ Xi T1 904 70 ∧ Xi T1 904 70 ≤ 20 := hHT1.c _ _
            refine l_callV rfl rfl rfl (t_mo_need hHT36 1 7 (Xi T35 950 (((Xi T1 904 102)).toNat)) ⟨by omega, by omega⟩ ⟨by omega, by omega⟩ ⟨by omega, by omega⟩ _) ?_
            rintro _ T38 ⟨hHT38, w901, rfl, w898, w899⟩
            have hFT38 : FR md_mo_actingMeant S T38 := FR.tr hFT36 w901 rfl
            show Rl _ _ _ _ _ [] _ _
            have w902 : Xi T38 979 (l).toNat = Xi T1 979 (l).toNat := (show Xi T38 979 (l).toNat = Xi T36 979 (l).toNat from (w901.cx 979 rfl _).1).trans ( (show Xi T36 979 (l).toNat = Xi T35 979 (l).toNat from (w841.cx 979 rfl _).1).trans ((show Xi T35 979 (l).toNat = Xi T1 979 (l).toNat from (w820.cx 979 rfl _).1)))
            have w903 : Xi T38 981 (l).toNat = Xi T1 981 (l).toNat := (show Xi T38 981 (l).toNat = Xi T36 981 (l).toNat from (w901.cx 981 rfl _).1).trans ( (show Xi T36 981 (l).toNat = Xi T35 981 (l).toNat from (w841.cx 981 rfl _).1).trans ((show Xi T35 981 (l).toNat = Xi T1 981 (l).toNat from (w820.cx 981 rfl _).1)))
            have w904 : Xi T38 982 (l).toNat = Xi T1 982 (l).toNat := (show Xi T38 982 (l).toNat = Xi T36 982 (l).toNat from (w901.cx 982 rfl _).1).trans ( (show Xi T36 982 (l).toNat = Xi T35 982 (l).toNat from (w841.cx 982 rfl _).1).trans ((show Xi T35 982 (l).toNat = Xi T1 982 (l).toNat from (w820.cx 982 rfl _).1)))
            have w905 : Xi T38 904 102 = Xi T1 904 102 := (show Xi T38 904 102 = Xi T36 904 102 from w901.x _ _ rfl).trans ( (show Xi T36 904 102 = Xi T35 904 102 from w841.x _ _ rfl).trans ((show Xi T35 904 102 = Xi T1 904 102 from w820.x _ _ rfl)))
            have w906 : 0 ≤ Xi T1 904 102 ∧ Xi T1 904 102 ≤ 2600 := hHT1.c _ _
            have w907 : Xi T38 904 103 = Xi T1 904 103 := (show Xi T38 904 103 = Xi T36 904 103 from w901.x _ _ rfl).trans ( (show Xi T36 904 103 = Xi T35 904 103 from w841.x _ _ rfl).trans ((show Xi T35 904 103 = Xi T1 904 103 from w820.x _ _ rfl)))
            have w908 : -1 ≤ Xi T1 904 103 ∧ Xi T1 904 103 ≤ 2600 := hHT1.c _ _
            have w909 : 0 ≤ Xi T38 904 106 ∧ Xi T38 904 106 ≤ 9 := hHT38.c _ _
            have w910 : Xi T38 904 116 = Xi T1 904 116 := (show Xi T38 904 116 = Xi T36 904 116 from w901.x _ _ rfl).trans ( (show Xi T36 904 116 = Xi T35 904 116 from w841.x _ _ rfl).trans ((show Xi T35 904 116 = Xi T1 904 116 from w820.x _ _ rfl)))
            have w911 : -1 ≤ Xi T1 904 116 ∧ Xi T1 904 116 ≤ 15 := hHT1.c _ _
            have w912 : Xi T38 904 128 = Xi T35 904 128 := (show Xi T38 904 128 = Xi T36 904 128 from w901.x _ _ rfl).trans ((show Xi T36 904 128 = Xi T35 904 128 from w841.x _ _ rfl))
            have w913 : 0 ≤ Xi T35 904 128 ∧ Xi T35 904 128 ≤ 11 := hHT35.c _ _
            have w914 : Xi T38 904 129 = Xi T35 904 129 := (show Xi T38 904 129 = Xi T36 904 129 from w901.x _ _ rfl).trans ((show Xi T36 904 129 = Xi T35 904 129 from w841.x _ _ rfl))
            have w915 : -1 ≤ Xi T35 904 129 ∧ Xi T35 904 129 ≤ 23 := hHT35.c _ _
            have w916 : Xi T38 904 69 = Xi T1 904 69 := (show Xi T38 904 69 = Xi T36 904 69 from w901.x _ _ rfl).trans ( (show Xi T36 904 69 = Xi T35 904 69 from w841.x _ _ rfl).trans ((show Xi T35 904 69 = Xi T1 904 69 from w820.x _ _ rfl)))
            have w917 : 0 ≤ Xi T1 904 69 ∧ Xi T1 904 69 ≤ 2600 := hHT1.c _ _
            have w918 : Xi T38 904 70 = Xi T1 904 70 := (show Xi T38 904 70 = Xi T36 904 70 from w901.x _ _ rfl).trans ( (show Xi T36 904 70 = Xi T35 904 70 from w841.x _ _ rfl).trans ((show Xi T35 904 70 = Xi T1 904 70 from w820.x _ _ rfl)))
            have w919 : 0 ≤ Xi T1 904 70 ∧ Xi T1 904 70 ≤ 20 := hHT1.c _ _
            exact Rl_weak (C105 T38 hHT38 hFT38 (z819) (by omega) (by omega) (by omega) (by omega) (by omega) (by omega) (by omega) ((KRL_FR w901 rfl (KRL_FR w841 rfl (KRL_FR w820 rfl (by assumption : KRL T1 S _))))) (fun x => by rw [show Xi T38 904 128 = Xi T35 904 128 by omega, show Xi T38 904 129 = Xi T35 904 129 by omega]; exact A59 x)) (And.intro rfl (And.intro rfl (And.intro rfl (True.intro))))
        · refine l_iconst rfl ?_
          refine l_goto rfl rfl ?_
          refine l_iconst rfl ?_
          refine l_aload_n rfl rfl ?_
          refine l_gfr rfl rfl rfl rfl rfl (hHT35.r 904 67 950 rfl) ?_
          refine l_iload_n rfl rfl ?_
          refine l_iaload (n := 2600) rfl rfl (by omega) (by omega) (by unfold rg; omega) ?_
          have w920 : 0 ≤ (Xi T35 950 (((Xi T1 904 102)).toNat)) ∧ (Xi T35 950 (((Xi T1 904 102)).toNat)) ≤ 5010 := hHT35.c _ _
          have e79 : (Xi T35 950 (((Xi T1 904 102)).toNat)) ≤ n := by have t := hrf (Xi T1 904 102) (by omega) (by omega); first | (rw [(hFT35.cx 950 rfl _).1]; omega) | (rw [(hFT1.cx 950 rfl _).1]; omega) | (rw [(hFT1.cx 950 rfl _).1]; omega)
          have w921 : Xi T35 904 102 = Xi T1 904 102 := (show Xi T35 904 102 = Xi T1 904 102 from w820.x _ _ rfl)
          have w922 : 0 ≤ Xi T1 904 102 ∧ Xi T1 904 102 ≤ 2600 := hHT1.c _ _
          have w923 : Xi T35 904 103 = Xi T1 904 103 := (show Xi T35 904 103 = Xi T1 904 103 from w820.x _ _ rfl)
          have w924 : -1 ≤ Xi T1 904 103 ∧ Xi T1 904 103 ≤ 2600 := hHT1.c _ _
          have w925 : Xi T35 904 106 = Xi T1 904 106 := (show Xi T35 904 106 = Xi T1 904 106 from w820.x _ _ rfl)
          have w926 : 0 ≤ Xi T1 904 106 ∧ Xi T1 904 106 ≤ 9 := hHT1.c _ _
          have w927 : Xi T35 904 116 = Xi T1 904 116 := (show Xi T35 904 116 = Xi T1 904 116 from w820.x _ _ rfl)
          have w928 : -1 ≤ Xi T1 904 116 ∧ Xi T1 904 116 ≤ 15 := hHT1.c _ _
          have w929 : 0 ≤ Xi T35 904 128 ∧ Xi T35 904 128 ≤ 11 := hHT35.c _ _
          have w930 : -1 ≤ Xi T35 904 129 ∧ Xi T35 904 129 ≤ 23 := hHT35.c _ _
          have w931 : Xi T35 904 69 = Xi T1 904 69 := (show Xi T35 904 69 = Xi T1 904 69 from w820.x _ _ rfl)
          have w932 : 0 ≤ Xi T1 904 69 ∧ Xi T1 904 69 ≤ 2600 := hHT1.c _ _
          have w933 : Xi T35 904 70 = Xi T1 904 70 := (show Xi T35 904 70 = Xi T1 904 70 from w820.x _ _ rfl)
          have w934 : 0 ≤ Xi T1 904 70 ∧ Xi T1 904 70 ≤ 20 := hHT1.c _ _
          refine l_callV rfl rfl rfl (t_mo_need hHT35 1 4 (Xi T35 950 (((Xi T1 904 102)).toNat)) ⟨by omega, by omega⟩ ⟨by omega, by omega⟩ ⟨by omega, by omega⟩ _) ?_
          rintro _ T39 ⟨hHT39, w938, rfl, w935, w936⟩
          have hFT39 : FR md_mo_actingMeant S T39 := FR.tr hFT35 w938 rfl
          show Rl _ _ _ _ _ [] _ _
          refine l_aload_n rfl rfl ?_
          refine l_iload_n rfl rfl ?_
          refine l_iconst rfl ?_
          refine l_icmp_ge rfl rfl (by unfold rg; omega) (by unfold rg; omega) (fun w939 => ?_) (fun w940 => ?_)
          · refine l_iconst rfl ?_
            refine l_bipush rfl rfl ?_
            refine l_aload_n rfl rfl ?_
            refine l_gfr rfl rfl rfl rfl rfl (hHT39.r 904 67 950 rfl) ?_
            refine l_iload_n rfl rfl ?_
            refine l_iaload (n := 2600) rfl rfl (by omega) (by omega) (by unfold rg; omega) ?_
            have w941 : (Xi T39 950 (((Xi T1 904 102)).toNat)) = (Xi T35 950 (((Xi T1 904 102)).toNat)) := (show Xi T39 950 (((Xi T1 904 102)).toNat) = Xi T35 950 (((Xi T1 904 102)).toNat) from w938.x _ _ rfl)
            rw [w941]
            have e101 : (Xi T35 950 (((Xi T1 904 102)).toNat)) ≤ n := by have t := hrf (Xi T1 904 102) (by omega) (by omega); first | (rw [(hFT39.cx 950 rfl _).1]; omega) | (rw [(hFT35.cx 950 rfl _).1]; omega) | (rw [(hFT1.cx 950 rfl _).1]; omega)
            have w942 : Xi T39 904 102 = Xi T1 904 102 := (show Xi T39 904 102 = Xi T35 904 102 from w938.x _ _ rfl).trans ((show Xi T35 904 102 = Xi T1 904 102 from w820.x _ _ rfl))
            have w943 : 0 ≤ Xi T1 904 102 ∧ Xi T1 904 102 ≤ 2600 := hHT1.c _ _
            have w944 : Xi T39 904 103 = Xi T1 904 103 := (show Xi T39 904 103 = Xi T35 904 103 from w938.x _ _ rfl).trans ((show Xi T35 904 103 = Xi T1 904 103 from w820.x _ _ rfl))
            have w945 : -1 ≤ Xi T1 904 103 ∧ Xi T1 904 103 ≤ 2600 := hHT1.c _ _
            have w946 : 0 ≤ Xi T39 904 106 ∧ Xi T39 904 106 ≤ 9 := hHT39.c _ _
            have w947 : Xi T39 904 116 = Xi T1 904 116 := (show Xi T39 904 116 = Xi T35 904 116 from w938.x _ _ rfl).trans ((show Xi T35 904 116 = Xi T1 904 116 from w820.x _ _ rfl))
            have w948 : -1 ≤ Xi T1 904 116 ∧ Xi T1 904 116 ≤ 15 := hHT1.c _ _
            have w949 : Xi T39 904 128 = Xi T35 904 128 := (show Xi T39 904 128 = Xi T35 904 128 from w938.x _ _ rfl)
            have w950 : 0 ≤ Xi T35 904 128 ∧ Xi T35 904 128 ≤ 11 := hHT35.c _ _
            have w951 : Xi T39 904 129 = Xi T35 904 129 := (show Xi T39 904 129 = Xi T35 904 129 from w938.x _ _ rfl)
            have w952 : -1 ≤ Xi T35 904 129 ∧ Xi T35 904 129 ≤ 23 := hHT35.c _ _
            have w953 : Xi T39 904 69 = Xi T1 904 69 := (show Xi T39 904 69 = Xi T35 904 69 from w938.x _ _ rfl).trans ((show Xi T35 904 69 = Xi T1 904 69 from w820.x _ _ rfl))
            have w954 : 0 ≤ Xi T1 904 69 ∧ Xi T1 904 69 ≤ 2600 := hHT1.c _ _
            have w955 : Xi T39 904 70 = Xi T1 904 70 := (show Xi T39 904 70 = Xi T35 904 70 from w938.x _ _ rfl).trans ((show Xi T35 904 70 = Xi T1 904 70 from w820.x _ _ rfl))
            have w956 : 0 ≤ Xi T1 904 70 ∧ Xi T1 904 70 ≤ 20 := hHT1.c _ _
            refine l_callV rfl rfl rfl (t_mo_need hHT39 0 7 (Xi T35 950 (((Xi T1 904 102)).toNat)) ⟨by omega, by omega⟩ ⟨by omega, by omega⟩ ⟨by omega, by omega⟩ _) ?_
            rintro _ T40 ⟨hHT40, w960, rfl, w957, w958⟩
            have hFT40 : FR md_mo_actingMeant S T40 := FR.tr hFT39 w960 rfl
            show Rl _ _ _ _ _ [] _ _
            have w961 : Xi T40 979 (l).toNat = Xi T1 979 (l).toNat := (show Xi T40 979 (l).toNat = Xi T39 979 (l).toNat from (w960.cx 979 rfl _).1).trans ( (show Xi T39 979 (l).toNat = Xi T35 979 (l).toNat from (w938.cx 979 rfl _).1).trans ((show Xi T35 979 (l).toNat = Xi T1 979 (l).toNat from (w820.cx 979 rfl _).1)))
            have w962 : Xi T40 981 (l).toNat = Xi T1 981 (l).toNat := (show Xi T40 981 (l).toNat = Xi T39 981 (l).toNat from (w960.cx 981 rfl _).1).trans ( (show Xi T39 981 (l).toNat = Xi T35 981 (l).toNat from (w938.cx 981 rfl _).1).trans ((show Xi T35 981 (l).toNat = Xi T1 981 (l).toNat from (w820.cx 981 rfl _).1)))
            have w963 : Xi T40 982 (l).toNat = Xi T1 982 (l).toNat := (show Xi T40 982 (l).toNat = Xi T39 982 (l).toNat from (w960.cx 982 rfl _).1).trans ( (show Xi T39 982 (l).toNat = Xi T35 982 (l).toNat from (w938.cx 982 rfl _).1).trans ((show Xi T35 982 (l).toNat = Xi T1 982 (l).toNat from (w820.cx 982 rfl _).1)))
            have w964 : Xi T40 904 102 = Xi T1 904 102 := (show Xi T40 904 102 = Xi T39 904 102 from w960.x _ _ rfl).trans ( (show Xi T39 904 102 = Xi T35 904 102 from w938.x _ _ rfl).trans ((show Xi T35 904 102 = Xi T1 904 102 from w820.x _ _ rfl)))
            have w965 : 0 ≤ Xi T1 904 102 ∧ Xi T1 904 102 ≤ 2600 := hHT1.c _ _
            have w966 : Xi T40 904 103 = Xi T1 904 103 := (show Xi T40 904 103 = Xi T39 904 103 from w960.x _ _ rfl).trans ( (show Xi T39 904 103 = Xi T35 904 103 from w938.x _ _ rfl).trans ((show Xi T35 904 103 = Xi T1 904 103 from w820.x _ _ rfl)))
            have w967 : -1 ≤ Xi T1 904 103 ∧ Xi T1 904 103 ≤ 2600 := hHT1.c _ _
            have w968 : 0 ≤ Xi T40 904 106 ∧ Xi T40 904 106 ≤ 9 := hHT40.c _ _
            have w969 : Xi T40 904 116 = Xi T1 904 116 := (show Xi T40 904 116 = Xi T39 904 116 from w960.x _ _ rfl).trans ( (show Xi T39 904 116 = Xi T35 904 116 from w938.x _ _ rfl).trans ((show Xi T35 904 116 = Xi T1 904 116 from w820.x _ _ rfl)))
            have w970 : -1 ≤ Xi T1 904 116 ∧ Xi T1 904 116 ≤ 15 := hHT1.c _ _
            have w971 : Xi T40 904 128 = Xi T35 904 128 := (show Xi T40 904 128 = Xi T39 904 128 from w960.x _ _ rfl).trans ((show Xi T39 904 128 = Xi T35 904 128 from w938.x _ _ rfl))
            have w972 : 0 ≤ Xi T35 904 128 ∧ Xi T35 904 128 ≤ 11 := hHT35.c _ _
            have w973 : Xi T40 904 129 = Xi T35 904 129 := (show Xi T40 904 129 = Xi T39 904 129 from w960.x _ _ rfl).trans ((show Xi T39 904 129 = Xi T35 904 129 from w938.x _ _ rfl))
            have w974 : -1 ≤ Xi T35 904 129 ∧ Xi T35 904 129 ≤ 23 := hHT35.c _ _
            have w975 : Xi T40 904 69 = Xi T1 904 69 := (show Xi T40 904 69 = Xi T39 904 69 from w960.x _ _ rfl).trans ( (show Xi T39 904 69 = Xi T35 904 69 from w938.x _ _ rfl).trans ((show Xi T35 904 69 = Xi T1 904 69 from w820.x _ _ rfl)))
            have w976 : 0 ≤ Xi T1 904 69 ∧ Xi T1 904 69 ≤ 2600 := hHT1.c _ _
            have w977 : Xi T40 904 70 = Xi T1 904 70 := (show Xi T40 904 70 = Xi T39 904 70 from w960.x _ _ rfl).trans ( (show Xi T39 904 70 = Xi T35 904 70 from w938.x _ _ rfl).trans ((show Xi T35 904 70 = Xi T1 904 70 from w820.x _ _ rfl)))
            have w978 : 0 ≤ Xi T1 904 70 ∧ Xi T1 904 70 ≤ 20 := hHT1.c _ _
            exact Rl_weak (C105 T40 hHT40 hFT40 (z819) (by omega) (by omega) (by omega) (by omega) (by omega) (by omega) (by omega) ((KRL_FR w960 rfl (KRL_FR w938 rfl (KRL_FR w820 rfl (by assumption : KRL T1 S _))))) (fun x => by rw [show Xi T40 904 128 = Xi T35 904 128 by omega, show Xi T40 904 129 = Xi T35 904 129 by omega]; exact A59 x)) (And.intro rfl (And.intro rfl (And.intro rfl (True.intro))))
          · refine l_iconst rfl ?_
            refine l_goto rfl rfl ?_
            refine l_bipush rfl rfl ?_
            refine l_aload_n rfl rfl ?_
            refine l_gfr rfl rfl rfl rfl rfl (hHT39.r 904 67 950 rfl) ?_
            refine l_iload_n rfl rfl ?_
            refine l_iaload (n := 2600) rfl rfl (by omega) (by omega) (by unfold rg; omega) ?_
            have w979 : (Xi T39 950 (((Xi T1 904 102)).toNat)) = (Xi T35 950 (((Xi T1 904 102)).toNat)) := (show Xi T39 950 (((Xi T1 904 102)).toNat) = Xi T35 950 (((Xi T1 904 102)).toNat) from w938.x _ _ rfl)
            rw [w979]
            have e101 : (Xi T35 950 (((Xi T1 904 102)).toNat)) ≤ n := by have t := hrf (Xi T1 904 102) (by omega) (by omega); first | (rw [(hFT39.cx 950 rfl _).1]; omega) | (rw [(hFT35.cx 950 rfl _).1]; omega) | (rw [(hFT1.cx 950 rfl _).1]; omega)
            have w980 : Xi T39 904 102 = Xi T1 904 102 := (show Xi T39 904 102 = Xi T35 904 102 from w938.x _ _ rfl).trans ((show Xi T35 904 102 = Xi T1 904 102 from w820.x _ _ rfl))
            have w981 : 0 ≤ Xi T1 904 102 ∧ Xi T1 904 102 ≤ 2600 := hHT1.c _ _
            have w982 : Xi T39 904 103 = Xi T1 904 103 := (show Xi T39 904 103 = Xi T35 904 103 from w938.x _ _ rfl).trans ((show Xi T35 904 103 = Xi T1 904 103 from w820.x _ _ rfl))
            have w983 : -1 ≤ Xi T1 904 103 ∧ Xi T1 904 103 ≤ 2600 := hHT1.c _ _
            have w984 : 0 ≤ Xi T39 904 106 ∧ Xi T39 904 106 ≤ 9 := hHT39.c _ _
            have w985 : Xi T39 904 116 = Xi T1 904 116 := (show Xi T39 904 116 = Xi T35 904 116 from w938.x _ _ rfl).trans ((show Xi T35 904 116 = Xi T1 904 116 from w820.x _ _ rfl))
            have w986 : -1 ≤ Xi T1 904 116 ∧ Xi T1 904 116 ≤ 15 := hHT1.c _ _
            have w987 : Xi T39 904 128 = Xi T35 904 128 := (show Xi T39 904 128 = Xi T35 904 128 from w938.x _ _ rfl)
            have w988 : 0 ≤ Xi T35 904 128 ∧ Xi T35 904 128 ≤ 11 := hHT35.c _ _
            have w989 : Xi T39 904 129 = Xi T35 904 129 := (show Xi T39 904 129 = Xi T35 904 129 from w938.x _ _ rfl)
            have w990 : -1 ≤ Xi T35 904 129 ∧ Xi T35 904 129 ≤ 23 := hHT35.c _ _
            have w991 : Xi T39 904 69 = Xi T1 904 69 := (show Xi T39 904 69 = Xi T35 904 69 from w938.x _ _ rfl).trans ((show Xi T35 904 69 = Xi T1 904 69 from w820.x _ _ rfl))
            have w992 : 0 ≤ Xi T1 904 69 ∧ Xi T1 904 69 ≤ 2600 := hHT1.c _ _
            have w993 : Xi T39 904 70 = Xi T1 904 70 := (show Xi T39 904 70 = Xi T35 904 70 from w938.x _ _ rfl).trans ((show Xi T35 904 70 = Xi T1 904 70 from w820.x _ _ rfl))
            have w994 : 0 ≤ Xi T1 904 70 ∧ Xi T1 904 70 ≤ 20 := hHT1.c _ _
            refine l_callV rfl rfl rfl (t_mo_need hHT39 1 7 (Xi T35 950 (((Xi T1 904 102)).toNat)) ⟨by omega, by omega⟩ ⟨by omega, by omega⟩ ⟨by omega, by omega⟩ _) ?_
            rintro _ T41 ⟨hHT41, w998, rfl, w995, w996⟩
            have hFT41 : FR md_mo_actingMeant S T41 := FR.tr hFT39 w998 rfl
            show Rl _ _ _ _ _ [] _ _
            have w999 : Xi T41 979 (l).toNat = Xi T1 979 (l).toNat := (show Xi T41 979 (l).toNat = Xi T39 979 (l).toNat from (w998.cx 979 rfl _).1).trans ( (show Xi T39 979 (l).toNat = Xi T35 979 (l).toNat from (w938.cx 979 rfl _).1).trans ((show Xi T35 979 (l).toNat = Xi T1 979 (l).toNat from (w820.cx 979 rfl _).1)))
            have w1000 : Xi T41 981 (l).toNat = Xi T1 981 (l).toNat := (show Xi T41 981 (l).toNat = Xi T39 981 (l).toNat from (w998.cx 981 rfl _).1).trans ( (show Xi T39 981 (l).toNat = Xi T35 981 (l).toNat from (w938.cx 981 rfl _).1).trans ((show Xi T35 981 (l).toNat = Xi T1 981 (l).toNat from (w820.cx 981 rfl _).1)))
            have w1001 : Xi T41 982 (l).toNat = Xi T1 982 (l).toNat := (show Xi T41 982 (l).toNat = Xi T39 982 (l).toNat from (w998.cx 982 rfl _).1).trans ( (show Xi T39 982 (l).toNat = Xi T35 982 (l).toNat from (w938.cx 982 rfl _).1).trans ((show Xi T35 982 (l).toNat = Xi T1 982 (l).toNat from (w820.cx 982 rfl _).1)))
            have w1002 : Xi T41 904 102 = Xi T1 904 102 := (show Xi T41 904 102 = Xi T39 904 102 from w998.x _ _ rfl).trans ( (show Xi T39 904 102 = Xi T35 904 102 from w938.x _ _ rfl).trans ((show Xi T35 904 102 = Xi T1 904 102 from w820.x _ _ rfl)))
            have w1003 : 0 ≤ Xi T1 904 102 ∧ Xi T1 904 102 ≤ 2600 := hHT1.c _ _
            have w1004 : Xi T41 904 103 = Xi T1 904 103 := (show Xi T41 904 103 = Xi T39 904 103 from w998.x _ _ rfl).trans ( (show Xi T39 904 103 = Xi T35 904 103 from w938.x _ _ rfl).trans ((show Xi T35 904 103 = Xi T1 904 103 from w820.x _ _ rfl)))
            have w1005 : -1 ≤ Xi T1 904 103 ∧ Xi T1 904 103 ≤ 2600 := hHT1.c _ _
            have w1006 : 0 ≤ Xi T41 904 106 ∧ Xi T41 904 106 ≤ 9 := hHT41.c _ _
            have w1007 : Xi T41 904 116 = Xi T1 904 116 := (show Xi T41 904 116 = Xi T39 904 116 from w998.x _ _ rfl).trans ( (show Xi T39 904 116 = Xi T35 904 116 from w938.x _ _ rfl).trans ((show Xi T35 904 116 = Xi T1 904 116 from w820.x _ _ rfl)))
            have w1008 : -1 ≤ Xi T1 904 116 ∧ Xi T1 904 116 ≤ 15 := hHT1.c _ _
            have w1009 : Xi T41 904 128 = Xi T35 904 128 := (show Xi T41 904 128 = Xi T39 904 128 from w998.x _ _ rfl).trans ((show Xi T39 904 128 = Xi T35 904 128 from w938.x _ _ rfl))
            have w1010 : 0 ≤ Xi T35 904 128 ∧ Xi T35 904 128 ≤ 11 := hHT35.c _ _
            have w1011 : Xi T41 904 129 = Xi T35 904 129 := (show Xi T41 904 129 = Xi T39 904 129 from w998.x _ _ rfl).trans ((show Xi T39 904 129 = Xi T35 904 129 from w938.x _ _ rfl))
            have w1012 : -1 ≤ Xi T35 904 129 ∧ Xi T35 904 129 ≤ 23 := hHT35.c _ _
            have w1013 : Xi T41 904 69 = Xi T1 904 69 := (show Xi T41 904 69 = Xi T39 904 69 from w998.x _ _ rfl).trans ( (show Xi T39 904 69 = Xi T35 904 69 from w938.x _ _ rfl).trans ((show Xi T35 904 69 = Xi T1 904 69 from w820.x _ _ rfl)))
            have w1014 : 0 ≤ Xi T1 904 69 ∧ Xi T1 904 69 ≤ 2600 := hHT1.c _ _
            have w1015 : Xi T41 904 70 = Xi T1 904 70 := (show Xi T41 904 70 = Xi T39 904 70 from w998.x _ _ rfl).trans ( (show Xi T39 904 70 = Xi T35 904 70 from w938.x _ _ rfl).trans ((show Xi T35 904 70 = Xi T1 904 70 from w820.x _ _ rfl)))
            have w1016 : 0 ≤ Xi T1 904 70 ∧ Xi T1 904 70 ≤ 20 := hHT1.c _ _
            exact Rl_weak (C105 T41 hHT41 hFT41 (z819) (by omega) (by omega) (by omega) (by omega) (by omega) (by omega) (by omega) ((KRL_FR w998 rfl (KRL_FR w938 rfl (KRL_FR w820 rfl (by assumption : KRL T1 S _))))) (fun x => by rw [show Xi T41 904 128 = Xi T35 904 128 by omega, show Xi T41 904 129 = Xi T35 904 129 by omega]; exact A59 x)) (And.intro rfl (And.intro rfl (And.intro rfl (True.intro))))
    · refine l_return rfl rfl ?_
      have w1017 : 0 ≤ Xi T1 904 102 ∧ Xi T1 904 102 ≤ 2600 := hHT1.c _ _
      have w1018 : -1 ≤ Xi T1 904 103 ∧ Xi T1 904 103 ≤ 2600 := hHT1.c _ _
      have w1019 : 0 ≤ Xi T1 904 106 ∧ Xi T1 904 106 ≤ 9 := hHT1.c _ _
      have w1020 : -1 ≤ Xi T1 904 116 ∧ Xi T1 904 116 ≤ 15 := hHT1.c _ _
      have w1021 : 0 ≤ Xi T1 904 128 ∧ Xi T1 904 128 ≤ 11 := hHT1.c _ _
      have w1022 : -1 ≤ Xi T1 904 129 ∧ Xi T1 904 129 ≤ 23 := hHT1.c _ _
      have w1023 : 0 ≤ Xi T1 904 69 ∧ Xi T1 904 69 ≤ 2600 := hHT1.c _ _
      have w1024 : 0 ≤ Xi T1 904 70 ∧ Xi T1 904 70 ≤ 20 := hHT1.c _ _
      exact ⟨hHT1, hFT1, rfl, (by omega), (by first | exact (fun _ => rz_1 (nm_i (S := S) (a := v3) (by omega) (by omega) (by omega) (fun j => (hFT1.cx 942 rfl j).1)) M457) M457 | exact rz_0 (by omega) (by omega)), (by omega), (by omega), (by first | exact fun x => absurd x (by omega) | exact fun x => nm_i (S := S) (a := v3) (by omega) (by omega) (by omega) (fun j => (hFT1.cx 942 rfl j).1) | exact fun x => (by have t := A105 (by omega); exact nm_i (S := S) (a := Xi T2 904 128) (by omega) t.1.1 (by first | exact t.2.2 (by omega) | exact m160 (by omega)) (fun j => (hFT1.cx 942 rfl j).1))), ((by assumption : KRL T1 S _))⟩
  refine l_aload_n rfl rfl ?_
  refine l_gfr rfl rfl rfl rfl rfl (hH.r 904 132 979 rfl) ?_
  refine l_iload_n rfl rfl ?_
  refine l_iconst rfl ?_
  refine l_iastore (n := 24) rfl rfl (by omega) (by omega) (by unfold rg; omega) ?_
  obtain ⟨U42, eU42⟩ : ∃ T : sS, T = uI S 979 ((l).toNat) (Int32.ofInt (-1)) := ⟨_, rfl⟩
  rw [← eU42]
  have hHU42 : HI U42 := by rw [eU42]; exact HI_w hH (show -1 ≤ (-1) by omega) (show (-1) ≤ 11 by omega)
  have hFU42 : FR md_mo_actingMeant S U42 := by rw [eU42]; exact FR.wI hF (mdf_i (r := (979, 980, 0, 100000)) (List.mem_of_getElem? (i := 13) rfl) (inR_i (by omega) (by omega) (by omega) (by omega)))
  have w1025 : Xi U42 979 ((l).toNat) = (-1) := by rw [eU42]; exact Xi_same (by unfold rg; omega)
  refine l_aload_n rfl rfl ?_
  refine l_gfr rfl rfl rfl rfl rfl (hHU42.r 904 133 980 rfl) ?_
  refine l_iload_n rfl rfl ?_
  refine l_iconst rfl ?_
  refine l_iastore (n := 24) rfl rfl (by omega) (by omega) (by unfold rg; omega) ?_
  obtain ⟨U43, eU43⟩ : ∃ T : sS, T = uI U42 980 ((l).toNat) (Int32.ofInt (-1)) := ⟨_, rfl⟩
  rw [← eU43]
  have hHU43 : HI U43 := by rw [eU43]; exact HI_w hHU42 (show -1 ≤ (-1) by omega) (show (-1) ≤ 23 by omega)
  have hFU43 : FR md_mo_actingMeant S U43 := by rw [eU43]; exact FR.wI hFU42 (mdf_i (r := (980, 981, 0, 100000)) (List.mem_of_getElem? (i := 14) rfl) (inR_i (by omega) (by omega) (by omega) (by omega)))
  have w1026 : Xi U43 980 ((l).toNat) = (-1) := by rw [eU43]; exact Xi_same (by unfold rg; omega)
  refine l_aload_n rfl rfl ?_
  refine l_gfr rfl rfl rfl rfl rfl (hHU43.r 904 134 981 rfl) ?_
  refine l_iload_n rfl rfl ?_
  refine l_iconst rfl ?_
  refine l_iastore (n := 24) rfl rfl (by omega) (by omega) (by unfold rg; omega) ?_
  obtain ⟨U44, eU44⟩ : ∃ T : sS, T = uI U43 981 ((l).toNat) (Int32.ofInt (-1)) := ⟨_, rfl⟩
  rw [← eU44]
  have hHU44 : HI U44 := by rw [eU44]; exact HI_w hHU43 (show -1 ≤ (-1) by omega) (show (-1) ≤ 15 by omega)
  have hFU44 : FR md_mo_actingMeant S U44 := by rw [eU44]; exact FR.wI hFU43 (mdf_i (r := (981, 982, 0, 100000)) (List.mem_of_getElem? (i := 15) rfl) (inR_i (by omega) (by omega) (by omega) (by omega)))
  have w1027 : Xi U44 981 ((l).toNat) = (-1) := by rw [eU44]; exact Xi_same (by unfold rg; omega)
  refine l_aload_n rfl rfl ?_
  refine l_gfr rfl rfl rfl rfl rfl (hHU44.r 904 135 982 rfl) ?_
  refine l_iload_n rfl rfl ?_
  refine l_iconst rfl ?_
  refine l_iastore (n := 24) rfl rfl (by omega) (by omega) (by unfold rg; omega) ?_
  obtain ⟨U45, eU45⟩ : ∃ T : sS, T = uI U44 982 ((l).toNat) (Int32.ofInt 0) := ⟨_, rfl⟩
  rw [← eU45]
  have hHU45 : HI U45 := by rw [eU45]; exact HI_w hHU44 (show 0 ≤ 0 by omega) (show 0 ≤ 6 by omega)
  have hFU45 : FR md_mo_actingMeant S U45 := by rw [eU45]; exact FR.wI hFU44 (mdf_i (r := (982, 983, 0, 100000)) (List.mem_of_getElem? (i := 16) rfl) (inR_i (by omega) (by omega) (by omega) (by omega)))
  have w1028 : Xi U45 982 ((l).toNat) = 0 := by rw [eU45]; exact Xi_same (by unfold rg; omega)
  refine l_aload_n rfl rfl ?_
  refine l_iconst rfl ?_
  refine l_pfi rfl rfl rfl rfl ?_
  obtain ⟨U46, eU46⟩ : ∃ T : sS, T = uI U45 904 116 (Int32.ofInt (-1)) := ⟨_, rfl⟩
  rw [← eU46]
  have hHU46 : HI U46 := by rw [eU46]; exact HI_w hHU45 (show -1 ≤ (-1) by omega) (show (-1) ≤ 15 by omega)
  have hFU46 : FR md_mo_actingMeant S U46 := by rw [eU46]; exact FR.wI hFU45 (mdf_i (r := (904, 905, 116, 117)) (List.mem_of_getElem? (i := 8) rfl) (inR_i (by omega) (by omega) (by omega) (by omega)))
  have w1029 : Xi U46 904 116 = (-1) := by rw [eU46]; exact Xi_same (by unfold rg; omega)
  have w1030 : Xi U46 979 (l).toNat = Xi U42 979 (l).toNat := (show Xi U46 979 (l).toNat = Xi U45 979 (l).toNat from by rw [eU46]; exact Xi_ne (by omega)).trans ( (show Xi U45 979 (l).toNat = Xi U44 979 (l).toNat from by rw [eU45]; exact Xi_ne (by omega)).trans ( (show Xi U44 979 (l).toNat = Xi U43 979 (l).toNat from by rw [eU44]; exact Xi_ne (by omega)).trans ((show Xi U43 979 (l).toNat = Xi U42 979 (l).toNat from by rw [eU43]; exact Xi_ne (by omega)))))
  have w1031 : Xi U46 981 (l).toNat = Xi U44 981 (l).toNat := (show Xi U46 981 (l).toNat = Xi U45 981 (l).toNat from by rw [eU46]; exact Xi_ne (by omega)).trans ((show Xi U45 981 (l).toNat = Xi U44 981 (l).toNat from by rw [eU45]; exact Xi_ne (by omega)))
  have w1032 : Xi U46 982 (l).toNat = Xi U45 982 (l).toNat := (show Xi U46 982 (l).toNat = Xi U45 982 (l).toNat from by rw [eU46]; exact Xi_ne (by omega))
  have w1033 : Xi U46 904 102 = Xi S 904 102 := (show Xi U46 904 102 = Xi U45 904 102 from by rw [eU46]; exact Xi_ne (by omega)).trans ( (show Xi U45 904 102 = Xi U44 904 102 from by rw [eU45]; exact Xi_ne (by omega)).trans ( (show Xi U44 904 102 = Xi U43 904 102 from by rw [eU44]; exact Xi_ne (by omega)).trans ( (show Xi U43 904 102 = Xi U42 904 102 from by rw [eU43]; exact Xi_ne (by omega)).trans ((show Xi U42 904 102 = Xi S 904 102 from by rw [eU42]; exact Xi_ne (by omega))))))
  have w1034 : 0 ≤ Xi S 904 102 ∧ Xi S 904 102 ≤ 2600 := hH.c _ _
  have w1035 : Xi U46 904 103 = Xi S 904 103 := (show Xi U46 904 103 = Xi U45 904 103 from by rw [eU46]; exact Xi_ne (by omega)).trans ( (show Xi U45 904 103 = Xi U44 904 103 from by rw [eU45]; exact Xi_ne (by omega)).trans ( (show Xi U44 904 103 = Xi U43 904 103 from by rw [eU44]; exact Xi_ne (by omega)).trans ( (show Xi U43 904 103 = Xi U42 904 103 from by rw [eU43]; exact Xi_ne (by omega)).trans ((show Xi U42 904 103 = Xi S 904 103 from by rw [eU42]; exact Xi_ne (by omega))))))
  have w1036 : -1 ≤ Xi S 904 103 ∧ Xi S 904 103 ≤ 2600 := hH.c _ _
  have w1037 : Xi U46 904 106 = Xi S 904 106 := (show Xi U46 904 106 = Xi U45 904 106 from by rw [eU46]; exact Xi_ne (by omega)).trans ( (show Xi U45 904 106 = Xi U44 904 106 from by rw [eU45]; exact Xi_ne (by omega)).trans ( (show Xi U44 904 106 = Xi U43 904 106 from by rw [eU44]; exact Xi_ne (by omega)).trans ( (show Xi U43 904 106 = Xi U42 904 106 from by rw [eU43]; exact Xi_ne (by omega)).trans ((show Xi U42 904 106 = Xi S 904 106 from by rw [eU42]; exact Xi_ne (by omega))))))
  have w1038 : 0 ≤ Xi S 904 106 ∧ Xi S 904 106 ≤ 9 := hH.c _ _
  have w1039 : -1 ≤ Xi U46 904 116 ∧ Xi U46 904 116 ≤ 15 := hHU46.c _ _
  have w1040 : Xi U46 904 128 = Xi S 904 128 := (show Xi U46 904 128 = Xi U45 904 128 from by rw [eU46]; exact Xi_ne (by omega)).trans ( (show Xi U45 904 128 = Xi U44 904 128 from by rw [eU45]; exact Xi_ne (by omega)).trans ( (show Xi U44 904 128 = Xi U43 904 128 from by rw [eU44]; exact Xi_ne (by omega)).trans ( (show Xi U43 904 128 = Xi U42 904 128 from by rw [eU43]; exact Xi_ne (by omega)).trans ((show Xi U42 904 128 = Xi S 904 128 from by rw [eU42]; exact Xi_ne (by omega))))))
  have w1041 : 0 ≤ Xi S 904 128 ∧ Xi S 904 128 ≤ 11 := hH.c _ _
  have w1042 : Xi U46 904 129 = Xi S 904 129 := (show Xi U46 904 129 = Xi U45 904 129 from by rw [eU46]; exact Xi_ne (by omega)).trans ( (show Xi U45 904 129 = Xi U44 904 129 from by rw [eU45]; exact Xi_ne (by omega)).trans ( (show Xi U44 904 129 = Xi U43 904 129 from by rw [eU44]; exact Xi_ne (by omega)).trans ( (show Xi U43 904 129 = Xi U42 904 129 from by rw [eU43]; exact Xi_ne (by omega)).trans ((show Xi U42 904 129 = Xi S 904 129 from by rw [eU42]; exact Xi_ne (by omega))))))
  have w1043 : -1 ≤ Xi S 904 129 ∧ Xi S 904 129 ≤ 23 := hH.c _ _
  have w1044 : Xi U46 904 69 = Xi S 904 69 := (show Xi U46 904 69 = Xi U45 904 69 from by rw [eU46]; exact Xi_ne (by omega)).trans ( (show Xi U45 904 69 = Xi U44 904 69 from by rw [eU45]; exact Xi_ne (by omega)).trans ( (show Xi U44 904 69 = Xi U43 904 69 from by rw [eU44]; exact Xi_ne (by omega)).trans ( (show Xi U43 904 69 = Xi U42 904 69 from by rw [eU43]; exact Xi_ne (by omega)).trans ((show Xi U42 904 69 = Xi S 904 69 from by rw [eU42]; exact Xi_ne (by omega))))))
  have w1045 : 0 ≤ Xi S 904 69 ∧ Xi S 904 69 ≤ 2600 := hH.c _ _
  have w1046 : Xi U46 904 70 = Xi S 904 70 := (show Xi U46 904 70 = Xi U45 904 70 from by rw [eU46]; exact Xi_ne (by omega)).trans ( (show Xi U45 904 70 = Xi U44 904 70 from by rw [eU45]; exact Xi_ne (by omega)).trans ( (show Xi U44 904 70 = Xi U43 904 70 from by rw [eU44]; exact Xi_ne (by omega)).trans ( (show Xi U43 904 70 = Xi U42 904 70 from by rw [eU43]; exact Xi_ne (by omega)).trans ((show Xi U42 904 70 = Xi S 904 70 from by rw [eU42]; exact Xi_ne (by omega))))))
  have w1047 : 0 ≤ Xi S 904 70 ∧ Xi S 904 70 ≤ 20 := hH.c _ _
  exact Rl_weak (C33 U46 hHU46 hFU46  (by omega) (by omega) (by omega) (by omega) (by omega) (by omega) (by omega) (by omega) (by omega) ((KRL.w (KRL.w (KRL.w (KRL.w (KRL.w KRL.rf eU42 (by omega)) eU43 (by omega)) eU44 (by omega)) eU45 (by omega)) eU46 (by omega)))) (And.intro rfl (And.intro rfl (True.intro)))

