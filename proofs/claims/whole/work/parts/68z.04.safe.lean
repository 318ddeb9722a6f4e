/-! SAFETY of methods: printed by wip/safe (vc.py, decl.py) -/
/-! SAFETY of the reference: whom a rule is about -/
def RA (S : sS) (r : Nat) : Prop := (Xi S 981 r ≠ -1 → nM S r) ∧ ∀ k : Nat, (k : Int) < Xi S 982 r → nM S r ∧ ADM S (Xi S 983 (6 * r + k))
theorem rz_0 {S : sS} {r : Nat} (h1 : Xi S 981 r = -1) (h2 : Xi S 982 r = 0) : RA S r := ⟨fun q => absurd h1 q, fun k hk => by omega⟩
theorem rz_1 {S : sS} {r : Nat} (h : nM S r) (h2 : ∀ k : Nat, (k : Int) < Xi S 982 r → ADM S (Xi S 983 (6 * r + k))) : RA S r := ⟨fun _ => h, fun k hk => ⟨h, h2 k hk⟩⟩
theorem nm_i {S T : sS} {r : Nat} {a : Int} (h : Xi T 979 r = a) (h0 : 0 ≤ a) (h1 : 0 ≤ Xi S 942 a.toNat) (e : ∀ j, Xi T 942 j = Xi S 942 j) : nM T r := by
  unfold nM
  rw [h, e]
  exact ⟨h0, h1⟩
/-- the other rules stay -/
def KRL (T S : sS) (l : Int) : Prop := ∀ r : Nat, (r : Int) ≠ l → Xi T 979 r = Xi S 979 r ∧ Xi T 980 r = Xi S 980 r ∧ Xi T 981 r = Xi S 981 r ∧ Xi T 982 r = Xi S 982 r ∧ ∀ k : Nat, k < 6 → Xi T 983 (6 * r + k) = Xi S 983 (6 * r + k)
theorem KRL.rf {S : sS} {l : Int} : KRL S S l := fun _ _ => ⟨rfl, rfl, rfl, rfl, fun _ _ => rfl⟩
theorem KRL.w {T U S : sS} {l : Int} {k j : Nat} {v : Int32} (h : KRL T S l) (e : U = uI T k j v) (hj : (k < 979 ∨ 983 < k) ∨ (k ≠ 983 ∧ (j : Int) = l)) : KRL U S l := fun r hr => by
  obtain ⟨a, b, c, d, f⟩ := h r hr
  refine ⟨?_, ?_, ?_, ?_, fun i hi => ?_⟩
  · rw [e, Xi_ne (by omega)]; exact a
  · rw [e, Xi_ne (by omega)]; exact b
  · rw [e, Xi_ne (by omega)]; exact c
  · rw [e, Xi_ne (by omega)]; exact d
  · rw [e, Xi_ne (by omega)]; exact f i hi
theorem KRL_FR {m : List rec} {T U S : sS} {l : Int} (f : FR m T U) (e : kdis m [(979, 984)] = true) (h : KRL T S l) : KRL U S l := fun r hr => by
  have q := f.smk e
  obtain ⟨a, b, c, d, g⟩ := h r hr
  refine ⟨?_, ?_, ?_, ?_, fun i hi => ?_⟩
  · rw [q.x 979 rfl]; exact a
  · rw [q.x 980 rfl]; exact b
  · rw [q.x 981 rfl]; exact c
  · rw [q.x 982 rfl]; exact d
  · rw [q.x 983 rfl]; exact g i hi
theorem KRL.cp {T U S : sS} {l x : Int} (h : KRL T S l) (e : U = cpI T 967 983 (0 : Int).toNat x.toNat (6 : Int).toNat) (hx : x = 6 * l) (h0 : 0 ≤ l) : KRL U S l := fun r hr => by
  obtain ⟨a, b, c, d, g⟩ := h r hr
  refine ⟨?_, ?_, ?_, ?_, fun i hi => ?_⟩
  · rw [e, cpI_ne (Or.inl (by decide))]; exact a
  · rw [e, cpI_ne (Or.inl (by decide))]; exact b
  · rw [e, cpI_ne (Or.inl (by decide))]; exact c
  · rw [e, cpI_ne (Or.inl (by decide))]; exact d
  · rw [e, cpI_ne (Or.inr (by omega))]; exact g i hi
theorem adx_s {S T : sS} {f a : Int} (h : ADX T f a) (e1 : Xi T 904 23 = Xi S 904 23) (e2 : Xi T 904 32 = Xi S 904 32) (e3 : ∀ j, Xi T 922 j = Xi S 922 j) : ADX S f a := by
  unfold ADX ADM at *
  rw [e1, e2, e3] at h
  exact h
theorem ra_cp {S P T : sS} {l x : Int} (e : T = cpI P 967 983 (0 : Int).toNat x.toNat (6 : Int).toNat) (hx : x = 6 * l) (h0 : 0 ≤ l) (hc : Xi T 982 l.toNat ≤ 6) (h : ∀ i : Nat, (i : Int) < Xi T 982 l.toNat → ADX S 1 (Xi P 967 i)) (e1 : Xi T 904 23 = Xi S 904 23) (e2 : Xi T 904 32 = Xi S 904 32) : ∀ k : Nat, (k : Int) < Xi T 982 l.toNat → ADM T (Xi T 983 (6 * l.toNat + k)) := fun k hk => by
  have y : Xi T 983 (6 * l.toNat + k) = Xi P 967 k := by
    rw [e]
    have t := cpI_in (S := P) (a := 967) (b := 983) (s := (0 : Int).toNat) (t := x.toNat) (n := (6 : Int).toNat) (j := 6 * l.toNat + k) (by omega)
    rw [show (0 : Int).toNat + (6 * l.toNat + k - x.toNat) = k by omega] at t
    exact t
  have t := (h k hk).1
  unfold ADM at *
  rw [e1, e2, y]
  exact t
def md_mo_actingMeant : List rec := [(904, 905, 64, 65), (904, 905, 104, 105), (904, 905, 105, 106), (904, 905, 106, 107), (904, 905, 109, 110), (904, 905, 110, 111), (904, 905, 112, 113), (904, 905, 113, 114), (904, 905, 116, 117), (904, 905, 128, 129), (904, 905, 129, 130), (967, 968, 0, 100000), (968, 969, 0, 100000), (979, 980, 0, 100000), (980, 981, 0, 100000), (981, 982, 0, 100000), (982, 983, 0, 100000), (983, 984, 0, 100000)]
abbrev Q_mo_actingMeant (S : sS) (n : Nat) (l : Int) : pst := fun r S1 => HI S1 ∧ FR md_mo_actingMeant S S1 ∧ (r = none ∧ (Xi S 904 106 ≠ 0 → Xi S1 904 106 ≠ 0) ∧ (RA S1 l.toNat) ∧ (Xi S1 979 l.toNat < Xi S 904 49) ∧ (Xi S 904 70 = 6 → Xi S1 979 l.toNat = -1) ∧ (0 ≤ Xi S1 904 116 → nM S1 l.toNat) ∧ (KRL S1 S l))
set_option maxRecDepth 100000 in
set_option maxHeartbeats 8000000 in
theorem c105_mo_actingMeant {S : sS} (hH : HI S) (n : Nat) (l : Int) (hl : 0 ≤ l ∧ l ≤ 23) (hT : TK S n) (hv : RNV S n) (hM : LXM S) (hB : ABV S) (hC : DCM S) (ha : Xi S 904 70 ≠ 6 → Xi S 904 102 < Xi S 904 69 ∧ Xi S 904 103 < Xi S 904 69) (d : Nat) : ∀  (T1 : sS) (_ : HI T1) (_ : FR md_mo_actingMeant S T1) (v3 : Int), (0 ≤ v3 ∧ v3 ≤ 4) → (Xi T1 979 (l).toNat = -1) → (Xi T1 981 (l).toNat = -1) → (Xi T1 982 (l).toNat = 0) → (Xi T1 904 116 = -1) → (Xi S 904 106 ≠ 0 → Xi T1 904 106 ≠ 0) → (Xi S 904 70 ≠ 6) → (KRL T1 S l) → (1 ≤ v3 → (0 ≤ Xi T1 904 128 ∧ Xi T1 904 128 < Xi S 904 49) ∧ Xi T1 904 129 < Xi S 904 19 ∧ (Xi T1 904 129 ≠ -1 → 0 ≤ Xi S 942 (Xi T1 904 128).toNat)) → Rl lay0 (d + 10) m_mo_actingMeant 105 [(0, .ref 904), (1, iv l), (3, iv v3)] [] T1 (Q_mo_actingMeant S n l) := by
  have hF : FR md_mo_actingMeant S S := FR.rf
  have w1 : 0 ≤ Xi S 904 102 ∧ Xi S 904 102 ≤ 2600 := hH.c _ _
  have w2 : -1 ≤ Xi S 904 103 ∧ Xi S 904 103 ≤ 2600 := hH.c _ _
  have w3 : 0 ≤ Xi S 904 106 ∧ Xi S 904 106 ≤ 9 := hH.c _ _
  have w4 : 0 ≤ Xi S 904 110 ∧ Xi S 904 110 ≤ 15 := hH.c _ _
  have w5 : 0 ≤ Xi S 904 112 ∧ Xi S 904 112 ≤ 6 := hH.c _ _
  have w6 : -1 ≤ Xi S 904 116 ∧ Xi S 904 116 ≤ 15 := hH.c _ _
  have w7 : 0 ≤ Xi S 904 128 ∧ Xi S 904 128 ≤ 11 := hH.c _ _
  have w8 : -1 ≤ Xi S 904 129 ∧ Xi S 904 129 ≤ 23 := hH.c _ _
  have w9 : 0 ≤ Xi S 904 16 ∧ Xi S 904 16 ≤ 16 := hH.c _ _
  have w10 : 0 ≤ Xi S 904 19 ∧ Xi S 904 19 ≤ 24 := hH.c _ _
  have w11 : 0 ≤ Xi S 904 49 ∧ Xi S 904 49 ≤ 12 := hH.c _ _
  have w12 : 0 ≤ Xi S 904 69 ∧ Xi S 904 69 ≤ 2600 := hH.c _ _
  have w13 : 0 ≤ Xi S 904 70 ∧ Xi S 904 70 ≤ 20 := hH.c _ _
  have hn5 := hT.1
  have hc69 : 0 ≤ Xi S 904 69 ∧ Xi S 904 69 ≤ 2600 := hH.c _ _
  have hc19 : 0 ≤ Xi S 904 19 ∧ Xi S 904 19 ≤ 24 := hH.c _ _
  have hc49 : 0 ≤ Xi S 904 49 ∧ Xi S 904 49 ≤ 12 := hH.c _ _
  have hc16 : 0 ≤ Xi S 904 16 ∧ Xi S 904 16 ≤ 16 := hH.c _ _
  have hrf : ∀ r : Int, 0 ≤ r → r < Xi S 904 69 → Xi S 950 r.toNat + Xi S 951 r.toNat ≤ n ∧ 1 ≤ Xi S 951 r.toNat := fun r a b => hv r.toNat (by omega)
  intro T1 hHT1 hFT1 v3 w14 w15 w16 w17 w18 w19 w20 K105 A105
  have w21 : Xi T1 904 102 = Xi S 904 102 := hFT1.x _ _ rfl
  have w22 : Xi T1 904 103 = Xi S 904 103 := hFT1.x _ _ rfl
  have w23 : Xi T1 904 16 = Xi S 904 16 := hFT1.x _ _ rfl
  have w24 : Xi T1 904 19 = Xi S 904 19 := hFT1.x _ _ rfl
  have w25 : Xi T1 904 49 = Xi S 904 49 := hFT1.x _ _ rfl
  have w26 : Xi T1 904 69 = Xi S 904 69 := hFT1.x _ _ rfl
  have w27 : Xi T1 904 70 = Xi S 904 70 := hFT1.x _ _ rfl
  have w28 : 0 ≤ Xi T1 904 106 ∧ Xi T1 904 106 ≤ 9 := hHT1.c _ _
  have w29 : -1 ≤ Xi T1 904 116 ∧ Xi T1 904 116 ≤ 15 := hHT1.c _ _
  have w30 : 0 ≤ Xi T1 904 128 ∧ Xi T1 904 128 ≤ 11 := hHT1.c _ _
  have w31 : -1 ≤ Xi T1 904 129 ∧ Xi T1 904 129 ≤ 23 := hHT1.c _ _
  refine l_iload_n rfl rfl ?_
  refine l_if_le rfl rfl (by unfold rg; omega) (fun w32 => ?_) (fun w33 => ?_)
  · refine l_return rfl rfl ?_
    have w34 : 0 ≤ Xi T1 904 102 ∧ Xi T1 904 102 ≤ 2600 := hHT1.c _ _
    have w35 : -1 ≤ Xi T1 904 103 ∧ Xi T1 904 103 ≤ 2600 := hHT1.c _ _
    have w40 : 0 ≤ Xi T1 904 69 ∧ Xi T1 904 69 ≤ 2600 := hHT1.c _ _
    have w41 : 0 ≤ Xi T1 904 70 ∧ Xi T1 904 70 ≤ 20 := hHT1.c _ _
    exact ⟨hHT1, hFT1, rfl, (by omega), (by first | exact (fun _ => rz_1 (nm_i (S := S) (a := v3) (by omega) (by omega) (by omega) (fun j => (hFT1.cx 942 rfl j).1)) M457) M457 | exact rz_0 (by omega) (by omega)), (by omega), (by omega), (by first | exact fun x => absurd x (by omega) | exact fun x => nm_i (S := S) (a := v3) (by omega) (by omega) (by omega) (fun j => (hFT1.cx 942 rfl j).1) | exact fun x => (by have t := A105 (by omega); exact nm_i (S := S) (a := Xi T1 904 128) (by omega) t.1.1 (by first | exact t.2.2 (by omega) | exact m160 (by omega)) (fun j => (hFT1.cx 942 rfl j).1))), ((by assumption : KRL T1 S _))⟩
  · refine l_aload_n rfl rfl ?_
    refine l_gfr rfl rfl rfl rfl rfl (hHT1.r 904 132 979 rfl) ?_
    refine l_iload_n rfl rfl ?_
    refine l_aload_n rfl rfl ?_
    refine l_gfi rfl rfl rfl rfl rfl ?_
    refine l_iastore (n := 24) rfl rfl (by omega) (by omega) (by unfold rg; omega) ?_
    obtain ⟨U2, eU2⟩ : ∃ T : sS, T = uI T1 979 ((l).toNat) (Int32.ofInt (Xi T1 904 128)) := ⟨_, rfl⟩
    rw [← eU2]
    have hHU2 : HI U2 := by rw [eU2]; exact HI_w hHT1 (show -1 ≤ (Xi T1 904 128) by omega) (show (Xi T1 904 128) ≤ 11 by omega)
    have hFU2 : FR md_mo_actingMeant S U2 := by rw [eU2]; exact FR.wI hFT1 (mdf_i (r := (979, 980, 0, 100000)) (List.mem_of_getElem? (i := 13) rfl) (inR_i (by omega) (by omega) (by omega) (by omega)))
    have w42 : Xi U2 979 ((l).toNat) = (Xi T1 904 128) := by rw [eU2]; exact Xi_same (by unfold rg; omega)
    refine l_aload_n rfl rfl ?_
    refine l_gfr rfl rfl rfl rfl rfl (hHU2.r 904 133 980 rfl) ?_
    refine l_iload_n rfl rfl ?_
    refine l_aload_n rfl rfl ?_
    refine l_gfi rfl rfl rfl rfl rfl ?_
    have w43 : (Xi U2 904 129) = (Xi T1 904 129) := (show Xi U2 904 129 = Xi T1 904 129 from by rw [eU2]; exact Xi_ne (by omega))
    rw [w43]
    refine l_iastore (n := 24) rfl rfl (by omega) (by omega) (by unfold rg; omega) ?_
    obtain ⟨U3, eU3⟩ : ∃ T : sS, T = uI U2 980 ((l).toNat) (Int32.ofInt (Xi T1 904 129)) := ⟨_, rfl⟩
    rw [← eU3]
    have hHU3 : HI U3 := by rw [eU3]; exact HI_w hHU2 (show -1 ≤ (Xi T1 904 129) by omega) (show (Xi T1 904 129) ≤ 23 by omega)
    have hFU3 : FR md_mo_actingMeant S U3 := by rw [eU3]; exact FR.wI hFU2 (mdf_i (r := (980, 981, 0, 100000)) (List.mem_of_getElem? (i := 14) rfl) (inR_i (by omega) (by omega) (by omega) (by omega)))
    have w44 : Xi U3 980 ((l).toNat) = (Xi T1 904 129) := by rw [eU3]; exact Xi_same (by unfold rg; omega)
    refine l_aload_n rfl rfl ?_
    refine l_aload_n rfl rfl ?_
    refine l_gfi rfl rfl rfl rfl rfl ?_
    have w45 : (Xi U3 904 129) = (Xi T1 904 129) := (show Xi U3 904 129 = Xi U2 904 129 from by rw [eU3]; exact Xi_ne (by omega)).trans ((show Xi U2 904 129 = Xi T1 904 129 from by rw [eU2]; exact Xi_ne (by omega)))
    rw [w45]
    refine l_iconst rfl ?_
    refine l_icmp_eq rfl rfl (by unfold rg; omega) (by unfold rg; omega) (fun w46 => ?_) (fun w47 => ?_)
    · refine l_iconst rfl ?_
      refine l_aload_n rfl rfl ?_
      refine l_gfr rfl rfl rfl rfl rfl (hHU3.r 904 50 942 rfl) ?_
      refine l_aload_n rfl rfl ?_
      refine l_gfi rfl rfl rfl rfl rfl ?_
      have w48 : (Xi U3 904 128) = (Xi T1 904 128) := (show Xi U3 904 128 = Xi U2 904 128 from by rw [eU3]; exact Xi_ne (by omega)).trans ((show Xi U2 904 128 = Xi T1 904 128 from by rw [eU2]; exact Xi_ne (by omega)))
      rw [w48]
      refine l_iaload (n := 12) rfl rfl (by omega) (by omega) (by unfold rg; omega) ?_
      have w49 : -2 ≤ (Xi U3 942 (((Xi T1 904 128)).toNat)) ∧ (Xi U3 942 (((Xi T1 904 128)).toNat)) ≤ 15 := hHU3.c _ _
      have e159 : (Xi U3 942 (((Xi T1 904 128)).toNat)) = Xi S 942 (Xi T1 904 128).toNat := by first | exact (hFU3.cx 942 rfl _).1 | (rw [(hFU3.cx 942 rfl _).1]; exact congrArg (fun t : Int => Xi S 942 t.toNat) (by omega))
      refine l_max rfl rfl rfl (by unfold rg; omega) (by unfold rg; omega) ?_
      have g160 : -1 ≤ (if (-1) < (Xi U3 942 (((Xi T1 904 128)).toNat)) then (Xi U3 942 (((Xi T1 904 128)).toNat)) else (-1)) ∧ (if (-1) < (Xi U3 942 (((Xi T1 904 128)).toNat)) then (Xi U3 942 (((Xi T1 904 128)).toNat)) else (-1)) ≤ 15 := by split <;> omega
      have m160 : 0 ≤ (if (-1) < (Xi U3 942 (((Xi T1 904 128)).toNat)) then (Xi U3 942 (((Xi T1 904 128)).toNat)) else (-1)) → 0 ≤ Xi S 942 (Xi T1 904 128).toNat := fun q => (by rw [← e159]; split at q <;> omega)
      refine l_pfi rfl rfl rfl rfl ?_
      obtain ⟨U4, eU4⟩ : ∃ T : sS, T = uI U3 904 116 (Int32.ofInt (if (-1) < (Xi U3 942 (((Xi T1 904 128)).toNat)) then (Xi U3 942 (((Xi T1 904 128)).toNat)) else (-1))) := ⟨_, rfl⟩
      rw [← eU4]
      have hHU4 : HI U4 := by rw [eU4]; exact HI_w hHU3 (show -1 ≤ (if (-1) < (Xi U3 942 (((Xi T1 904 128)).toNat)) then (Xi U3 942 (((Xi T1 904 128)).toNat)) else (-1)) by omega) (show (if (-1) < (Xi U3 942 (((Xi T1 904 128)).toNat)) then (Xi U3 942 (((Xi T1 904 128)).toNat)) else (-1)) ≤ 15 by omega)
      have hFU4 : FR md_mo_actingMeant S U4 := by rw [eU4]; exact FR.wI hFU3 (mdf_i (r := (904, 905, 116, 117)) (List.mem_of_getElem? (i := 8) rfl) (inR_i (by omega) (by omega) (by omega) (by omega)))
      have w50 : Xi U4 904 116 = (if (-1) < (Xi U3 942 (((Xi T1 904 128)).toNat)) then (Xi U3 942 (((Xi T1 904 128)).toNat)) else (-1)) := by rw [eU4]; exact Xi_same (by unfold rg; omega)
      refine l_return rfl rfl ?_
      have w51 : Xi U4 979 (l).toNat = Xi U2 979 (l).toNat := (show Xi U4 979 (l).toNat = Xi U3 979 (l).toNat from by rw [eU4]; exact Xi_ne (by omega)).trans ((show Xi U3 979 (l).toNat = Xi U2 979 (l).toNat from by rw [eU3]; exact Xi_ne (by omega)))
      have w52 : Xi U4 981 (l).toNat = Xi T1 981 (l).toNat := (show Xi U4 981 (l).toNat = Xi U3 981 (l).toNat from by rw [eU4]; exact Xi_ne (by omega)).trans ( (show Xi U3 981 (l).toNat = Xi U2 981 (l).toNat from by rw [eU3]; exact Xi_ne (by omega)).trans ((show Xi U2 981 (l).toNat = Xi T1 981 (l).toNat from by rw [eU2]; exact Xi_ne (by omega))))
      have w53 : Xi U4 982 (l).toNat = Xi T1 982 (l).toNat := (show Xi U4 982 (l).toNat = Xi U3 982 (l).toNat from by rw [eU4]; exact Xi_ne (by omega)).trans ( (show Xi U3 982 (l).toNat = Xi U2 982 (l).toNat from by rw [eU3]; exact Xi_ne (by omega)).trans ((show Xi U2 982 (l).toNat = Xi T1 982 (l).toNat from by rw [eU2]; exact Xi_ne (by omega))))
      have w54 : Xi U4 904 102 = Xi T1 904 102 := (show Xi U4 904 102 = Xi U3 904 102 from by rw [eU4]; exact Xi_ne (by omega)).trans ( (show Xi U3 904 102 = Xi U2 904 102 from by rw [eU3]; exact Xi_ne (by omega)).trans ((show Xi U2 904 102 = Xi T1 904 102 from by rw [eU2]; exact Xi_ne (by omega))))
      have w55 : 0 ≤ Xi T1 904 102 ∧ Xi T1 904 102 ≤ 2600 := hHT1.c _ _
      have w56 : Xi U4 904 103 = Xi T1 904 103 := (show Xi U4 904 103 = Xi U3 904 103 from by rw [eU4]; exact Xi_ne (by omega)).trans ( (show Xi U3 904 103 = Xi U2 904 103 from by rw [eU3]; exact Xi_ne (by omega)).trans ((show Xi U2 904 103 = Xi T1 904 103 from by rw [eU2]; exact Xi_ne (by omega))))
      have w57 : -1 ≤ Xi T1 904 103 ∧ Xi T1 904 103 ≤ 2600 := hHT1.c _ _
      have w58 : Xi U4 904 106 = Xi T1 904 106 := (show Xi U4 904 106 = Xi U3 904 106 from by rw [eU4]; exact Xi_ne (by omega)).trans ( (show Xi U3 904 106 = Xi U2 904 106 from by rw [eU3]; exact Xi_ne (by omega)).trans ((show Xi U2 904 106 = Xi T1 904 106 from by rw [eU2]; exact Xi_ne (by omega))))
      have w60 : -1 ≤ Xi U4 904 116 ∧ Xi U4 904 116 ≤ 15 := hHU4.c _ _
      have w61 : Xi U4 904 128 = Xi T1 904 128 := (show Xi U4 904 128 = Xi U3 904 128 from by rw [eU4]; exact Xi_ne (by omega)).trans ( (show Xi U3 904 128 = Xi U2 904 128 from by rw [eU3]; exact Xi_ne (by omega)).trans ((show Xi U2 904 128 = Xi T1 904 128 from by rw [eU2]; exact Xi_ne (by omega))))
      have w63 : Xi U4 904 129 = Xi T1 904 129 := (show Xi U4 904 129 = Xi U3 904 129 from by rw [eU4]; exact Xi_ne (by omega)).trans ( (show Xi U3 904 129 = Xi U2 904 129 from by rw [eU3]; exact Xi_ne (by omega)).trans ((show Xi U2 904 129 = Xi T1 904 129 from by rw [eU2]; exact Xi_ne (by omega))))
      have w65 : Xi U4 904 69 = Xi T1 904 69 := (show Xi U4 904 69 = Xi U3 904 69 from by rw [eU4]; exact Xi_ne (by omega)).trans ( (show Xi U3 904 69 = Xi U2 904 69 from by rw [eU3]; exact Xi_ne (by omega)).trans ((show Xi U2 904 69 = Xi T1 904 69 from by rw [eU2]; exact Xi_ne (by omega))))
      have w66 : 0 ≤ Xi T1 904 69 ∧ Xi T1 904 69 ≤ 2600 := hHT1.c _ _
      have w67 : Xi U4 904 70 = Xi T1 904 70 := (show Xi U4 904 70 = Xi U3 904 70 from by rw [eU4]; exact Xi_ne (by omega)).trans ( (show Xi U3 904 70 = Xi U2 904 70 from by rw [eU3]; exact Xi_ne (by omega)).trans ((show Xi U2 904 70 = Xi T1 904 70 from by rw [eU2]; exact Xi_ne (by omega))))
      have w68 : 0 ≤ Xi T1 904 70 ∧ Xi T1 904 70 ≤ 20 := hHT1.c _ _
      exact ⟨hHU4, hFU4, rfl, (by omega), (by first | exact (fun _ => rz_1 (nm_i (S := S) (a := v3) (by omega) (by omega) (by omega) (fun j => (hFU4.cx 942 rfl j).1)) M457) M457 | exact rz_0 (by omega) (by omega)), (by omega), (by omega), (by first | exact fun x => absurd x (by omega) | exact fun x => nm_i (S := S) (a := v3) (by omega) (by omega) (by omega) (fun j => (hFU4.cx 942 rfl j).1) | exact fun x => (by have t := A105 (by omega); exact nm_i (S := S) (a := Xi T1 904 128) (by omega) t.1.1 (by first | exact t.2.2 (by omega) | exact m160 (by omega)) (fun j => (hFU4.cx 942 rfl j).1))), ((KRL.w (KRL.w (KRL.w (by assumption : KRL T1 S _) eU2 (by omega)) eU3 (by omega)) eU4 (by omega)))⟩
    · refine l_aload_n rfl rfl ?_
      refine l_gfr rfl rfl rfl rfl rfl (hHU3.r 904 20 918 rfl) ?_
      refine l_aload_n rfl rfl ?_
      refine l_gfi rfl rfl rfl rfl rfl ?_
      have w69 : (Xi U3 904 129) = (Xi T1 904 129) := (show Xi U3 904 129 = Xi U2 904 129 from by rw [eU3]; exact Xi_ne (by omega)).trans ((show Xi U2 904 129 = Xi T1 904 129 from by rw [eU2]; exact Xi_ne (by omega)))
      rw [w69]
      refine l_iaload (n := 24) rfl rfl (by omega) (by omega) (by unfold rg; omega) ?_
      have w70 : 0 ≤ (Xi U3 918 (((Xi T1 904 129)).toNat)) ∧ (Xi U3 918 (((Xi T1 904 129)).toNat)) ≤ 15 := hHU3.c _ _
      refine l_goto rfl rfl ?_
      refine l_pfi rfl rfl rfl rfl ?_
      obtain ⟨U5, eU5⟩ : ∃ T : sS, T = uI U3 904 116 (Int32.ofInt (Xi U3 918 (((Xi T1 904 129)).toNat))) := ⟨_, rfl⟩
      rw [← eU5]
      have hHU5 : HI U5 := by rw [eU5]; exact HI_w hHU3 (show -1 ≤ (Xi U3 918 (((Xi T1 904 129)).toNat)) by omega) (show (Xi U3 918 (((Xi T1 904 129)).toNat)) ≤ 15 by omega)
      have hFU5 : FR md_mo_actingMeant S U5 := by rw [eU5]; exact FR.wI hFU3 (mdf_i (r := (904, 905, 116, 117)) (List.mem_of_getElem? (i := 8) rfl) (inR_i (by omega) (by omega) (by omega) (by omega)))
      have w71 : Xi U5 904 116 = (Xi U3 918 (((Xi T1 904 129)).toNat)) := by rw [eU5]; exact Xi_same (by unfold rg; omega)
      refine l_return rfl rfl ?_
      have w72 : Xi U5 979 (l).toNat = Xi U2 979 (l).toNat := (show Xi U5 979 (l).toNat = Xi U3 979 (l).toNat from by rw [eU5]; exact Xi_ne (by omega)).trans ((show Xi U3 979 (l).toNat = Xi U2 979 (l).toNat from by rw [eU3]; exact Xi_ne (by omega)))
      have w73 : Xi U5 981 (l).toNat = Xi T1 981 (l).toNat := (show Xi U5 981 (l).toNat = Xi U3 981 (l).toNat from by rw [eU5]; exact Xi_ne (by omega)).trans ( (show Xi U3 981 (l).toNat = Xi U2 981 (l).toNat from by rw [eU3]; exact Xi_ne (by omega)).trans ((show Xi U2 981 (l).toNat = Xi T1 981 (l).toNat from by rw [eU2]; exact Xi_ne (by omega))))
      have w74 : Xi U5 982 (l).toNat = Xi T1 982 (l).toNat := (show Xi U5 982 (l).toNat = Xi U3 982 (l).toNat from by rw [eU5]; exact Xi_ne (by omega)).trans ( (show Xi U3 982 (l).toNat = Xi U2 982 (l).toNat from by rw [eU3]; exact Xi_ne (by omega)).trans ((show Xi U2 982 (l).toNat = Xi T1 982 (l).toNat from by rw [eU2]; exact Xi_ne (by omega))))
      have w75 : Xi U5 904 102 = Xi T1 904 102 := (show Xi U5 904 102 = Xi U3 904 102 from by rw [eU5]; exact Xi_ne (by omega)).trans ( (show Xi U3 904 102 = Xi U2 904 102 from by rw [eU3]; exact Xi_ne (by omega)).trans ((show Xi U2 904 102 = Xi T1 904 102 from by rw [eU2]; exact Xi_ne (by omega))))
      have w76 : 0 ≤ Xi T1 904 102 ∧ Xi T1 904 102 ≤ 2600 := hHT1.c _ _
      have w77 : Xi U5 904 103 = Xi T1 904 103 := (show Xi U5 904 103 = Xi U3 904 103 from by rw [eU5]; exact Xi_ne (by omega)).trans ( (show Xi U3 904 103 = Xi U2 904 103 from by rw [eU3]; exact Xi_ne (by omega)).trans ((show Xi U2 904 103 = Xi T1 904 103 from by rw [eU2]; exact Xi_ne (by omega))))
      have w78 : -1 ≤ Xi T1 904 103 ∧ Xi T1 904 103 ≤ 2600 := hHT1.c _ _
      have w79 : Xi U5 904 106 = Xi T1 904 106 := (show Xi U5 904 106 = Xi U3 904 106 from by rw [eU5]; exact Xi_ne (by omega)).trans ( (show Xi U3 904 106 = Xi U2 904 106 from by rw [eU3]; exact Xi_ne (by omega)).trans ((show Xi U2 904 106 = Xi T1 904 106 from by rw [eU2]; exact Xi_ne (by omega))))
      have w81 : -1 ≤ Xi U5 904 116 ∧ Xi U5 904 116 ≤ 15 := hHU5.c _ _
      have w82 : Xi U5 904 128 = Xi T1 904 128 := (show Xi U5 904 128 = Xi U3 904 128 from by rw [eU5]; exact Xi_ne (by omega)).trans ( (show Xi U3 904 128 = Xi U2 904 128 from by rw [eU3]; exact Xi_ne (by omega)).trans ((show Xi U2 904 128 = Xi T1 904 128 from by rw [eU2]; exact Xi_ne (by omega))))
      have w84 : Xi U5 904 129 = Xi T1 904 129 := (show Xi U5 904 129 = Xi U3 904 129 from by rw [eU5]; exact Xi_ne (by omega)).trans ( (show Xi U3 904 129 = Xi U2 904 129 from by rw [eU3]; exact Xi_ne (by omega)).trans ((show Xi U2 904 129 = Xi T1 904 129 from by rw [eU2]; exact Xi_ne (by omega))))
      have w86 : Xi U5 904 69 = Xi T1 904 69 := (show Xi U5 904 69 = Xi U3 904 69 from by rw [eU5]; exact Xi_ne (by omega)).trans ( (show Xi U3 904 69 = Xi U2 904 69 from by rw [eU3]; exact Xi_ne (by omega)).trans ((show Xi U2 904 69 = Xi T1 904 69 from by rw [eU2]; exact Xi_ne (by omega))))
      have w87 : 0 ≤ Xi T1 904 69 ∧ Xi T1 904 69 ≤ 2600 := hHT1.c _ _
      have w88 : Xi U5 904 70 = Xi T1 904 70 := (show Xi U5 904 70 = Xi U3 904 70 from by rw [eU5]; exact Xi_ne (by omega)).trans ( (show Xi U3 904 70 = Xi U2 904 70 from by rw [eU3]; exact Xi_ne (by omega)).trans ((show Xi U2 904 70 = Xi T1 904 70 from by rw [eU2]; exact Xi_ne (by omega))))
      have w89 : 0 ≤ Xi T1 904 70 ∧ Xi T1 904 70 ≤ 20 := hHT1.c _ _
      exact ⟨hHU5, hFU5, rfl, (by omega), (by first | exact (fun _ => rz_1 (nm_i (S := S) (a := v3) (by omega) (by omega) (by omega) (fun j => (hFU5.cx 942 rfl j).1)) M457) M457 | exact rz_0 (by omega) (by omega)), (by omega), (by omega), (by first | exact fun x => absurd x (by omega) | exact fun x => nm_i (S := S) (a := v3) (by omega) (by omega) (by omega) (fun j => (hFU5.cx 942 rfl j).1) | exact fun x => (by have t := A105 (by omega); exact nm_i (S := S) (a := Xi T1 904 128) (by omega) t.1.1 (by first | exact t.2.2 (by omega) | exact m160 (by omega)) (fun j => (hFU5.cx 942 rfl j).1))), ((KRL.w (KRL.w (KRL.w (by assumption : KRL T1 S _) eU2 (by omega)) eU3 (by omega)) eU5 (by omega)))⟩
set_option maxRecDepth 100000 in
set_option maxHeartbeats 8000000 in
theorem c352_mo_actingMeant {S : sS} (hH : HI S) (n : Nat) (l : Int) (hl : 0 ≤ l ∧ l ≤ 23) (hT : TK S n) (hv : RNV S n) (hM : LXM S) (hB : ABV S) (hC : DCM S) (ha : Xi S 904 70 ≠ 6 → Xi S 904 102 < Xi S 904 69 ∧ Xi S 904 103 < Xi S 904 69) (d : Nat) : ∀  (T6 : sS) (_ : HI T6) (_ : FR md_mo_actingMeant S T6) (v3 : Int) (v4 : Int) (v5 : Int) (v6 : Int), (0 ≤ v3 ∧ v3 ≤ 11) → (0 ≤ v4 ∧ v4 ≤ 2599) → (-1 ≤ v5 ∧ v5 ≤ 23) → (0 ≤ v6 ∧ v6 ≤ 1) → (0 ≤ v3 ∧ v3 < Xi S 904 49) → (0 ≤ Xi S 942 (v3).toNat) → (0 ≤ v4 ∧ v4 < Xi S 904 69) → (v5 ≠ -1 → v5 < Xi S 904 19) → (Xi T6 979 (l).toNat = -1) → (Xi T6 981 (l).toNat = -1) → (Xi T6 982 (l).toNat = 0) → (Xi S 904 106 ≠ 0 → Xi T6 904 106 ≠ 0) → (Xi S 904 70 ≠ 6) → (KRL T6 S l) → (v6 ≠ 0 → Xi T6 904 110 < Xi S 904 16 ∧ ∀ i : Nat, (i : Int) < Xi T6 904 112 → ADX S 1 (Xi T6 967 i)) → Rl lay0 (d + 10) m_mo_actingMeant 352 [(0, .ref 904), (1, iv l), (3, iv v3), (4, iv v4), (5, iv v5), (6, iv v6)] [] T6 (Q_mo_actingMeant S n l) := by
  have hF : FR md_mo_actingMeant S S := FR.rf
  have w1 : 0 ≤ Xi S 904 102 ∧ Xi S 904 102 ≤ 2600 := hH.c _ _
  have w2 : -1 ≤ Xi S 904 103 ∧ Xi S 904 103 ≤ 2600 := hH.c _ _
  have w3 : 0 ≤ Xi S 904 106 ∧ Xi S 904 106 ≤ 9 := hH.c _ _
  have w4 : 0 ≤ Xi S 904 110 ∧ Xi S 904 110 ≤ 15 := hH.c _ _
  have w5 : 0 ≤ Xi S 904 112 ∧ Xi S 904 112 ≤ 6 := hH.c _ _
  have w6 : -1 ≤ Xi S 904 116 ∧ Xi S 904 116 ≤ 15 := hH.c _ _
  have w7 : 0 ≤ Xi S 904 128 ∧ Xi S 904 128 ≤ 11 := hH.c _ _
  have w8 : -1 ≤ Xi S 904 129 ∧ Xi S 904 129 ≤ 23 := hH.c _ _
  have w9 : 0 ≤ Xi S 904 16 ∧ Xi S 904 16 ≤ 16 := hH.c _ _
  have w10 : 0 ≤ Xi S 904 19 ∧ Xi S 904 19 ≤ 24 := hH.c _ _
  have w11 : 0 ≤ Xi S 904 49 ∧ Xi S 904 49 ≤ 12 := hH.c _ _
  have w12 : 0 ≤ Xi S 904 69 ∧ Xi S 904 69 ≤ 2600 := hH.c _ _
  have w13 : 0 ≤ Xi S 904 70 ∧ Xi S 904 70 ≤ 20 := hH.c _ _
  have hn5 := hT.1
  have hc69 : 0 ≤ Xi S 904 69 ∧ Xi S 904 69 ≤ 2600 := hH.c _ _
  have hc19 : 0 ≤ Xi S 904 19 ∧ Xi S 904 19 ≤ 24 := hH.c _ _
  have hc49 : 0 ≤ Xi S 904 49 ∧ Xi S 904 49 ≤ 12 := hH.c _ _
  have hc16 : 0 ≤ Xi S 904 16 ∧ Xi S 904 16 ≤ 16 := hH.c _ _
  have hrf : ∀ r : Int, 0 ≤ r → r < Xi S 904 69 → Xi S 950 r.toNat + Xi S 951 r.toNat ≤ n ∧ 1 ≤ Xi S 951 r.toNat := fun r a b => hv r.toNat (by omega)
  intro T6 hHT6 hFT6 v3 v4 v5 v6 w90 w91 w92 w93 w94 w95 w96 w97 w98 w99 w100 w101 w102 K352 R352
  have w103 : Xi T6 904 102 = Xi S 904 102 := hFT6.x _ _ rfl
  have w104 : Xi T6 904 103 = Xi S 904 103 := hFT6.x _ _ rfl
  have w105 : Xi T6 904 16 = Xi S 904 16 := hFT6.x _ _ rfl
  have w106 : Xi T6 904 19 = Xi S 904 19 := hFT6.x _ _ rfl
  have w107 : Xi T6 904 49 = Xi S 904 49 := hFT6.x _ _ rfl
  have w108 : Xi T6 904 69 = Xi S 904 69 := hFT6.x _ _ rfl
  have w109 : Xi T6 904 70 = Xi S 904 70 := hFT6.x _ _ rfl
  have w110 : 0 ≤ Xi T6 904 106 ∧ Xi T6 904 106 ≤ 9 := hHT6.c _ _
  have w111 : 0 ≤ Xi T6 904 110 ∧ Xi T6 904 110 ≤ 15 := hHT6.c _ _
  have w112 : 0 ≤ Xi T6 904 112 ∧ Xi T6 904 112 ≤ 6 := hHT6.c _ _
  refine l_aload_n rfl rfl ?_
  refine l_aload_n rfl rfl ?_
  refine l_gfr rfl rfl rfl rfl rfl (hHT6.r 904 67 950 rfl) ?_
  refine l_iload rfl rfl ?_
  refine l_iaload (n := 2600) rfl rfl (by omega) (by omega) (by unfold rg; omega) ?_
  have w113 : 0 ≤ (Xi T6 950 ((v4).toNat)) ∧ (Xi T6 950 ((v4).toNat)) ≤ 5010 := hHT6.c _ _
  have e359 : (Xi T6 950 ((v4).toNat)) ≤ n := by have t := hrf v4 (by omega) (by omega); first | (rw [(hFT6.cx 950 rfl _).1]; omega) | (rw [(hFT6.cx 950 rfl _).1]; omega) | (rw [(hFT6.cx 950 rfl _).1]; omega)
  have w114 : 0 ≤ Xi T6 904 102 ∧ Xi T6 904 102 ≤ 2600 := hHT6.c _ _
  have w115 : -1 ≤ Xi T6 904 103 ∧ Xi T6 904 103 ≤ 2600 := hHT6.c _ _
  have w117 : -1 ≤ Xi T6 904 116 ∧ Xi T6 904 116 ≤ 15 := hHT6.c _ _
  have w118 : 0 ≤ Xi T6 904 128 ∧ Xi T6 904 128 ≤ 11 := hHT6.c _ _
  have w119 : -1 ≤ Xi T6 904 129 ∧ Xi T6 904 129 ≤ 23 := hHT6.c _ _
  have w120 : 0 ≤ Xi T6 904 69 ∧ Xi T6 904 69 ≤ 2600 := hHT6.c _ _
  have w121 : 0 ≤ Xi T6 904 70 ∧ Xi T6 904 70 ≤ 20 := hHT6.c _ _
  refine l_callV rfl rfl rfl (t_mo_oneReading hHT6 (Xi T6 950 ((v4).toNat)) ⟨by omega, by omega⟩ _) ?_
  rintro _ T7 ⟨hHT7, w124, rfl, w122⟩
  have hFT7 : FR md_mo_actingMeant S T7 := FR.tr hFT6 w124 rfl
  show Rl _ _ _ _ _ [] _ _
  refine l_aload_n rfl rfl ?_
  refine l_gfr rfl rfl rfl rfl rfl (hHT7.r 904 132 979 rfl) ?_
  refine l_iload_n rfl rfl ?_
  refine l_iload_n rfl rfl ?_
  refine l_iastore (n := 24) rfl rfl (by omega) (by omega) (by unfold rg; omega) ?_
  obtain ⟨U8, eU8⟩ : ∃ T : sS, T = uI T7 979 ((l).toNat) (Int32.ofInt v3) := ⟨_, rfl⟩
  rw [← eU8]
  have hHU8 : HI U8 := by rw [eU8]; exact HI_w hHT7 (show -1 ≤ v3 by omega) (show v3 ≤ 11 by omega)
  have hFU8 : FR md_mo_actingMeant S U8 := by rw [eU8]; exact FR.wI hFT7 (mdf_i (r := (979, 980, 0, 100000)) (List.mem_of_getElem? (i := 13) rfl) (inR_i (by omega) (by omega) (by omega) (by omega)))
  have w125 : Xi U8 979 ((l).toNat) = v3 := by rw [eU8]; exact Xi_same (by unfold rg; omega)
  refine l_aload_n rfl rfl ?_
  refine l_gfr rfl rfl rfl rfl rfl (hHU8.r 904 133 980 rfl) ?_
  refine l_iload_n rfl rfl ?_
  refine l_iload rfl rfl ?_
  refine l_iastore (n := 24) rfl rfl (by omega) (by omega) (by unfold rg; omega) ?_
  obtain ⟨U9, eU9⟩ : ∃ T : sS, T = uI U8 980 ((l).toNat) (Int32.ofInt v5) := ⟨_, rfl⟩
  rw [← eU9]
  have hHU9 : HI U9 := by rw [eU9]; exact HI_w hHU8 (show -1 ≤ v5 by omega) (show v5 ≤ 23 by omega)
  have hFU9 : FR md_mo_actingMeant S U9 := by rw [eU9]; exact FR.wI hFU8 (mdf_i (r := (980, 981, 0, 100000)) (List.mem_of_getElem? (i := 14) rfl) (inR_i (by omega) (by omega) (by omega) (by omega)))
  have w126 : Xi U9 980 ((l).toNat) = v5 := by rw [eU9]; exact Xi_same (by unfold rg; omega)
  refine l_aload_n rfl rfl ?_
  refine l_iload rfl rfl ?_
  refine l_iconst rfl ?_
  refine l_icmp_eq rfl rfl (by unfold rg; omega) (by unfold rg; omega) (fun w127 => ?_) (fun w128 => ?_)
  · refine l_iload rfl rfl ?_
    refine l_if_eq rfl rfl (by unfold rg; omega) (fun w129 => ?_) (fun w130 => ?_)
    · refine l_iconst rfl ?_
      refine l_pfi rfl rfl rfl rfl ?_
      obtain ⟨U10, eU10⟩ : ∃ T : sS, T = uI U9 904 116 (Int32.ofInt (-1)) := ⟨_, rfl⟩
      rw [← eU10]
      have hHU10 : HI U10 := by rw [eU10]; exact HI_w hHU9 (show -1 ≤ (-1) by omega) (show (-1) ≤ 15 by omega)
      have hFU10 : FR md_mo_actingMeant S U10 := by rw [eU10]; exact FR.wI hFU9 (mdf_i (r := (904, 905, 116, 117)) (List.mem_of_getElem? (i := 8) rfl) (inR_i (by omega) (by omega) (by omega) (by omega)))
      have w131 : Xi U10 904 116 = (-1) := by rw [eU10]; exact Xi_same (by unfold rg; omega)
      refine l_iload rfl rfl ?_
      refine l_if_eq rfl rfl (by unfold rg; omega) (fun w132 => ?_) (fun w133 => ?_)
      · refine l_return rfl rfl ?_
        have w134 : Xi U10 979 (l).toNat = Xi U8 979 (l).toNat := (show Xi U10 979 (l).toNat = Xi U9 979 (l).toNat from by rw [eU10]; exact Xi_ne (by omega)).trans ((show Xi U9 979 (l).toNat = Xi U8 979 (l).toNat from by rw [eU9]; exact Xi_ne (by omega)))
        have w135 : Xi U10 981 (l).toNat = Xi T6 981 (l).toNat := (show Xi U10 981 (l).toNat = Xi U9 981 (l).toNat from by rw [eU10]; exact Xi_ne (by omega)).trans ( (show Xi U9 981 (l).toNat = Xi U8 981 (l).toNat from by rw [eU9]; exact Xi_ne (by omega)).trans ( (show Xi U8 981 (l).toNat = Xi T7 981 (l).toNat from by rw [eU8]; exact Xi_ne (by omega)).trans ((show Xi T7 981 (l).toNat = Xi T6 981 (l).toNat from (w124.cx 981 rfl _).1))))
        have w136 : Xi U10 982 (l).toNat = Xi T6 982 (l).toNat := (show Xi U10 982 (l).toNat = Xi U9 982 (l).toNat from by rw [eU10]; exact Xi_ne (by omega)).trans ( (show Xi U9 982 (l).toNat = Xi U8 982 (l).toNat from by rw [eU9]; exact Xi_ne (by omega)).trans ( (show Xi U8 982 (l).toNat = Xi T7 982 (l).toNat from by rw [eU8]; exact Xi_ne (by omega)).trans ((show Xi T7 982 (l).toNat = Xi T6 982 (l).toNat from (w124.cx 982 rfl _).1))))
        have w137 : Xi U10 904 102 = Xi T6 904 102 := (show Xi U10 904 102 = Xi U9 904 102 from by rw [eU10]; exact Xi_ne (by omega)).trans ( (show Xi U9 904 102 = Xi U8 904 102 from by rw [eU9]; exact Xi_ne (by omega)).trans ( (show Xi U8 904 102 = Xi T7 904 102 from by rw [eU8]; exact Xi_ne (by omega)).trans ((show Xi T7 904 102 = Xi T6 904 102 from w124.x _ _ rfl))))
        have w139 : Xi U10 904 103 = Xi T6 904 103 := (show Xi U10 904 103 = Xi U9 904 103 from by rw [eU10]; exact Xi_ne (by omega)).trans ( (show Xi U9 904 103 = Xi U8 904 103 from by rw [eU9]; exact Xi_ne (by omega)).trans ( (show Xi U8 904 103 = Xi T7 904 103 from by rw [eU8]; exact Xi_ne (by omega)).trans ((show Xi T7 904 103 = Xi T6 904 103 from w124.x _ _ rfl))))
        have w141 : Xi U10 904 106 = Xi T7 904 106 := (show Xi U10 904 106 = Xi U9 904 106 from by rw [eU10]; exact Xi_ne (by omega)).trans ( (show Xi U9 904 106 = Xi U8 904 106 from by rw [eU9]; exact Xi_ne (by omega)).trans ((show Xi U8 904 106 = Xi T7 904 106 from by rw [eU8]; exact Xi_ne (by omega))))
        have w142 : 0 ≤ Xi T7 904 106 ∧ Xi T7 904 106 ≤ 9 := hHT7.c _ _
        have w143 : -1 ≤ Xi U10 904 116 ∧ Xi U10 904 116 ≤ 15 := hHU10.c _ _
        have w144 : Xi U10 904 128 = Xi T6 904 128 := (show Xi U10 904 128 = Xi U9 904 128 from by rw [eU10]; exact Xi_ne (by omega)).trans ( (show Xi U9 904 128 = Xi U8 904 128 from by rw [eU9]; exact Xi_ne (by omega)).trans ( (show Xi U8 904 128 = Xi T7 904 128 from by rw [eU8]; exact Xi_ne (by omega)).trans ((show Xi T7 904 128 = Xi T6 904 128 from w124.x _ _ rfl))))
        have w146 : Xi U10 904 129 = Xi T6 904 129 := (show Xi U10 904 129 = Xi U9 904 129 from by rw [eU10]; exact Xi_ne (by omega)).trans ( (show Xi U9 904 129 = Xi U8 904 129 from by rw [eU9]; exact Xi_ne (by omega)).trans ( (show Xi U8 904 129 = Xi T7 904 129 from by rw [eU8]; exact Xi_ne (by omega)).trans ((show Xi T7 904 129 = Xi T6 904 129 from w124.x _ _ rfl))))
        have w148 : Xi U10 904 69 = Xi T6 904 69 := (show Xi U10 904 69 = Xi U9 904 69 from by rw [eU10]; exact Xi_ne (by omega)).trans ( (show Xi U9 904 69 = Xi U8 904 69 from by rw [eU9]; exact Xi_ne (by omega)).trans ( (show Xi U8 904 69 = Xi T7 904 69 from by rw [eU8]; exact Xi_ne (by omega)).trans ((show Xi T7 904 69 = Xi T6 904 69 from w124.x _ _ rfl))))
        have w150 : Xi U10 904 70 = Xi T6 904 70 := (show Xi U10 904 70 = Xi U9 904 70 from by rw [eU10]; exact Xi_ne (by omega)).trans ( (show Xi U9 904 70 = Xi U8 904 70 from by rw [eU9]; exact Xi_ne (by omega)).trans ( (show Xi U8 904 70 = Xi T7 904 70 from by rw [eU8]; exact Xi_ne (by omega)).trans ((show Xi T7 904 70 = Xi T6 904 70 from w124.x _ _ rfl))))
        exact ⟨hHU10, hFU10, rfl, (by omega), (by first | exact (fun _ => rz_1 (nm_i (S := S) (a := v3) (by omega) (by omega) (by omega) (fun j => (hFU10.cx 942 rfl j).1)) M457) M457 | exact rz_0 (by omega) (by omega)), (by omega), (by omega), (by first | exact fun x => absurd x (by omega) | exact fun x => nm_i (S := S) (a := v3) (by omega) (by omega) (by omega) (fun j => (hFU10.cx 942 rfl j).1) | exact fun x => (by have t := A105 (by omega); exact nm_i (S := S) (a := Xi T1 904 128) (by omega) t.1.1 (by first | exact t.2.2 (by omega) | exact m160 (by omega)) (fun j => (hFU10.cx 942 rfl j).1))), ((KRL.w (KRL.w (KRL.w (KRL_FR w124 rfl (by assumption : KRL T6 S _)) eU8 (by omega)) eU9 (by omega)) eU10 (by omega)))⟩
      · refine l_iload rfl rfl ?_
        refine l_iconst rfl ?_
        refine l_icmp_ne rfl rfl (by unfold rg; omega) (by unfold rg; omega) (fun w152 => ?_) (fun w153 => ?_)
        · refine l_return rfl rfl ?_
          have w154 : Xi U10 979 (l).toNat = Xi U8 979 (l).toNat := (show Xi U10 979 (l).toNat = Xi U9 979 (l).toNat from by rw [eU10]; exact Xi_ne (by omega)).trans ((show Xi U9 979 (l).toNat = Xi U8 979 (l).toNat from by rw [eU9]; exact Xi_ne (by omega)))
          have w155 : Xi U10 981 (l).toNat = Xi T6 981 (l).toNat := (show Xi U10 981 (l).toNat = Xi U9 981 (l).toNat from by rw [eU10]; exact Xi_ne (by omega)).trans ( (show Xi U9 981 (l).toNat = Xi U8 981 (l).toNat from by rw [eU9]; exact Xi_ne (by omega)).trans ( (show Xi U8 981 (l).toNat = Xi T7 981 (l).toNat from by rw [eU8]; exact Xi_ne (by omega)).trans ((show Xi T7 981 (l).toNat = Xi T6 981 (l).toNat from (w124.cx 981 rfl _).1))))
          have w156 : Xi U10 982 (l).toNat = Xi T6 982 (l).toNat := (show Xi U10 982 (l).toNat = Xi U9 982 (l).toNat from by rw [eU10]; exact Xi_ne (by omega)).trans ( (show Xi U9 982 (l).toNat = Xi U8 982 (l).toNat from by rw [eU9]; exact Xi_ne (by omega)).trans ( (show Xi U8 982 (l).toNat = Xi T7 982 (l).toNat from by rw [eU8]; exact Xi_ne (by omega)).trans ((show Xi T7 982 (l).toNat = Xi T6 982 (l).toNat from (w124.cx 982 rfl _).1))))
          have w157 : Xi U10 904 102 = Xi T6 904 102 := (show Xi U10 904 102 = Xi U9 904 102 from by rw [eU10]; exact Xi_ne (by omega)).trans ( (show Xi U9 904 102 = Xi U8 904 102 from by rw [eU9]; exact Xi_ne (by omega)).trans ( (show Xi U8 904 102 = Xi T7 904 102 from by rw [eU8]; exact Xi_ne (by omega)).trans ((show Xi T7 904 102 = Xi T6 904 102 from w124.x _ _ rfl))))
          have w159 : Xi U10 904 103 = Xi T6 904 103 := (show Xi U10 904 103 = Xi U9 904 103 from by rw [eU10]; exact Xi_ne (by omega)).trans ( (show Xi U9 904 103 = Xi U8 904 103 from by rw [eU9]; exact Xi_ne (by omega)).trans ( (show Xi U8 904 103 = Xi T7 904 103 from by rw [eU8]; exact Xi_ne (by omega)).trans ((show Xi T7 904 103 = Xi T6 904 103 from w124.x _ _ rfl))))
          have w161 : Xi U10 904 106 = Xi T7 904 106 := (show Xi U10 904 106 = Xi U9 904 106 from by rw [eU10]; exact Xi_ne (by omega)).trans ( (show Xi U9 904 106 = Xi U8 904 106 from by rw [eU9]; exact Xi_ne (by omega)).trans ((show Xi U8 904 106 = Xi T7 904 106 from by rw [eU8]; exact Xi_ne (by omega))))
          have w162 : 0 ≤ Xi T7 904 106 ∧ Xi T7 904 106 ≤ 9 := hHT7.c _ _
          have w163 : -1 ≤ Xi U10 904 116 ∧ Xi U10 904 116 ≤ 15 := hHU10.c _ _
          have w164 : Xi U10 904 128 = Xi T6 904 128 := (show Xi U10 904 128 = Xi U9 904 128 from by rw [eU10]; exact Xi_ne (by omega)).trans ( (show Xi U9 904 128 = Xi U8 904 128 from by rw [eU9]; exact Xi_ne (by omega)).trans ( (show Xi U8 904 128 = Xi T7 904 128 from by rw [eU8]; exact Xi_ne (by omega)).trans ((show Xi T7 904 128 = Xi T6 904 128 from w124.x _ _ rfl))))
          have w166 : Xi U10 904 129 = Xi T6 904 129 := (show Xi U10 904 129 = Xi U9 904 129 from by rw [eU10]; exact Xi_ne (by omega)).trans ( (show Xi U9 904 129 = Xi U8 904 129 from by rw [eU9]; exact Xi_ne (by omega)).trans ( (show Xi U8 904 129 = Xi T7 904 129 from by rw [eU8]; exact Xi_ne (by omega)).trans ((show Xi T7 904 129 = Xi T6 904 129 from w124.x _ _ rfl))))
          have w168 : Xi U10 904 69 = Xi T6 904 69 := (show Xi U10 904 69 = Xi U9 904 69 from by rw [eU10]; exact Xi_ne (by omega)).trans ( (show Xi U9 904 69 = Xi U8 904 69 from by rw [eU9]; exact Xi_ne (by omega)).trans ( (show Xi U8 904 69 = Xi T7 904 69 from by rw [eU8]; exact Xi_ne (by omega)).trans ((show Xi T7 904 69 = Xi T6 904 69 from w124.x _ _ rfl))))
          have w170 : Xi U10 904 70 = Xi T6 904 70 := (show Xi U10 904 70 = Xi U9 904 70 from by rw [eU10]; exact Xi_ne (by omega)).trans ( (show Xi U9 904 70 = Xi U8 904 70 from by rw [eU9]; exact Xi_ne (by omega)).trans ( (show Xi U8 904 70 = Xi T7 904 70 from by rw [eU8]; exact Xi_ne (by omega)).trans ((show Xi T7 904 70 = Xi T6 904 70 from w124.x _ _ rfl))))
          exact ⟨hHU10, hFU10, rfl, (by omega), (by first | exact (fun _ => rz_1 (nm_i (S := S) (a := v3) (by omega) (by omega) (by omega) (fun j => (hFU10.cx 942 rfl j).1)) M457) M457 | exact rz_0 (by omega) (by omega)), (by omega), (by omega), (by first | exact fun x => absurd x (by omega) | exact fun x => nm_i (S := S) (a := v3) (by omega) (by omega) (by omega) (fun j => (hFU10.cx 942 rfl j).1) | exact fun x => (by have t := A105 (by omega); exact nm_i (S := S) (a := Xi T1 904 128) (by omega) t.1.1 (by first | exact t.2.2 (by omega) | exact m160 (by omega)) (fun j => (hFU10.cx 942 rfl j).1))), ((KRL.w (KRL.w (KRL.w (KRL_FR w124 rfl (by assumption : KRL T6 S _)) eU8 (by omega)) eU9 (by omega)) eU10 (by omega)))⟩
        · refine l_aload_n rfl rfl ?_
          refine l_gfr rfl rfl rfl rfl rfl (hHU10.r 904 134 981 rfl) ?_
          refine l_iload_n rfl rfl ?_
          refine l_aload_n rfl rfl ?_
          refine l_gfi rfl rfl rfl rfl rfl ?_
          have w172 : (Xi U10 904 110) = (Xi T6 904 110) := (show Xi U10 904 110 = Xi U9 904 110 from by rw [eU10]; exact Xi_ne (by omega)).trans ( (show Xi U9 904 110 = Xi U8 904 110 from by rw [eU9]; exact Xi_ne (by omega)).trans ( (show Xi U8 904 110 = Xi T7 904 110 from by rw [eU8]; exact Xi_ne (by omega)).trans ((show Xi T7 904 110 = Xi T6 904 110 from w124.x _ _ rfl))))
          rw [w172]
          refine l_iastore (n := 24) rfl rfl (by omega) (by omega) (by unfold rg; omega) ?_
          obtain ⟨U11, eU11⟩ : ∃ T : sS, T = uI U10 981 ((l).toNat) (Int32.ofInt (Xi T6 904 110)) := ⟨_, rfl⟩
          rw [← eU11]
          have hHU11 : HI U11 := by rw [eU11]; exact HI_w hHU10 (show -1 ≤ (Xi T6 904 110) by omega) (show (Xi T6 904 110) ≤ 15 by omega)
          have hFU11 : FR md_mo_actingMeant S U11 := by rw [eU11]; exact FR.wI hFU10 (mdf_i (r := (981, 982, 0, 100000)) (List.mem_of_getElem? (i := 15) rfl) (inR_i (by omega) (by omega) (by omega) (by omega)))
          have w173 : Xi U11 981 ((l).toNat) = (Xi T6 904 110) := by rw [eU11]; exact Xi_same (by unfold rg; omega)
          refine l_aload_n rfl rfl ?_
          refine l_gfr rfl rfl rfl rfl rfl (hHU11.r 904 135 982 rfl) ?_
          refine l_iload_n rfl rfl ?_
          refine l_aload_n rfl rfl ?_
          refine l_gfi rfl rfl rfl rfl rfl ?_
          have w174 : (Xi U11 904 112) = (Xi T6 904 112) := (show Xi U11 904 112 = Xi U10 904 112 from by rw [eU11]; exact Xi_ne (by omega)).trans ( (show Xi U10 904 112 = Xi U9 904 112 from by rw [eU10]; exact Xi_ne (by omega)).trans ( (show Xi U9 904 112 = Xi U8 904 112 from by rw [eU9]; exact Xi_ne (by omega)).trans ( (show Xi U8 904 112 = Xi T7 904 112 from by rw [eU8]; exact Xi_ne (by omega)).trans ((show Xi T7 904 112 = Xi T6 904 112 from w124.x _ _ rfl)))))
          rw [w174]
          refine l_iastore (n := 24) rfl rfl (by omega) (by omega) (by unfold rg; omega) ?_
          obtain ⟨U12, eU12⟩ : ∃ T : sS, T = uI U11 982 ((l).toNat) (Int32.ofInt (Xi T6 904 112)) := ⟨_, rfl⟩
          rw [← eU12]
          have hHU12 : HI U12 := by rw [eU12]; exact HI_w hHU11 (show 0 ≤ (Xi T6 904 112) by omega) (show (Xi T6 904 112) ≤ 6 by omega)
          have hFU12 : FR md_mo_actingMeant S U12 := by rw [eU12]; exact FR.wI hFU11 (mdf_i (r := (982, 983, 0, 100000)) (List.mem_of_getElem? (i := 16) rfl) (inR_i (by omega) (by omega) (by omega) (by omega)))
          have w175 : Xi U12 982 ((l).toNat) = (Xi T6 904 112) := by rw [eU12]; exact Xi_same (by unfold rg; omega)
          refine l_aload_n rfl rfl ?_
          refine l_gfr rfl rfl rfl rfl rfl (hHU12.r 904 111 967 rfl) ?_
          refine l_iconst rfl ?_
          refine l_aload_n rfl rfl ?_
          refine l_gfr rfl rfl rfl rfl rfl (hHU12.r 904 136 983 rfl) ?_
          refine l_bipush rfl rfl ?_
          refine l_iload_n rfl rfl ?_
          refine l_imul rfl ?_
          refine l_bipush rfl rfl ?_
          refine l_acp rfl rfl rfl (acpI (A := 6) (B := 144) rfl rfl (by omega) (by omega) (by omega) (by omega) (by omega) (by omega) (by omega)) ?_
          obtain ⟨T13, eT13⟩ : ∃ T : sS, T = cpI U12 967 983 (0 : Int).toNat ((6 * l) : Int).toNat (6 : Int).toNat := ⟨_, rfl⟩
          rw [← eT13]
          have hHT13 : HI T13 := by rw [eT13]; exact HI_cpI hHU12 (fun j _ _ => hHU12.c 967 _)
          have w176 : FR [(983, 984, 0, 100000)] U12 T13 := by rw [eT13]; exact FR_cpI (by omega)
          have hFT13 : FR md_mo_actingMeant S T13 := FR.tr hFU12 w176 rfl
          have q457 : Xi T13 982 (l).toNat = Xi U12 982 (l).toNat := ((by assumption : FR [(983, 984, 0, 100000)] U12 T13).cx 982 rfl _).1
          have c457 : Xi T13 982 (l).toNat ≤ 6 := (hHT13.c 982 _).2
          have M457 := ra_cp (S := S) (l := l) eT13 (by omega) (by omega) c457 (fun i hi => (by rw [(fun j => ((FR_e eU12).cx 967 rfl j).1.trans (((FR_e eU11).cx 967 rfl j).1.trans (((FR_e eU10).cx 967 rfl j).1.trans (((FR_e eU9).cx 967 rfl j).1.trans (((FR_e eU8).cx 967 rfl j).1.trans (((w124).cx 967 rfl j).1)))))) i]; exact (R352 (by omega)).2 i (by omega))) (hFT13.x 904 23 rfl) (hFT13.x 904 32 rfl)
          refine l_return rfl rfl ?_
          have w177 : Xi T13 979 (l).toNat = Xi U8 979 (l).toNat := (show Xi T13 979 (l).toNat = Xi U12 979 (l).toNat from (w176.cx 979 rfl _).1).trans ( (show Xi U12 979 (l).toNat = Xi U11 979 (l).toNat from by rw [eU12]; exact Xi_ne (by omega)).trans ( (show Xi U11 979 (l).toNat = Xi U10 979 (l).toNat from by rw [eU11]; exact Xi_ne (by omega)).trans ( (show Xi U10 979 (l).toNat = Xi U9 979 (l).toNat from by rw [eU10]; exact Xi_ne (by omega)).trans ((show Xi U9 979 (l).toNat = Xi U8 979 (l).toNat from by rw [eU9]; exact Xi_ne (by omega))))))
          have w178 : Xi T13 981 (l).toNat = Xi U11 981 (l).toNat := (show Xi T13 981 (l).toNat = Xi U12 981 (l).toNat from (w176.cx 981 rfl _).1).trans ((show Xi U12 981 (l).toNat = Xi U11 981 (l).toNat from by rw [eU12]; exact Xi_ne (by omega)))
          have w179 : Xi T13 982 (l).toNat = Xi U12 982 (l).toNat := (show Xi T13 982 (l).toNat = Xi U12 982 (l).toNat from (w176.cx 982 rfl _).1)
          have w180 : Xi T13 904 102 = Xi T6 904 102 := (show Xi T13 904 102 = Xi U12 904 102 from w176.x _ _ rfl).trans ( (show Xi U12 904 102 = Xi U11 904 102 from by rw [eU12]; exact Xi_ne (by omega)).trans ( (show Xi U11 904 102 = Xi U10 904 102 from by rw [eU11]; exact Xi_ne (by omega)).trans ( (show Xi U10 904 102 = Xi U9 904 102 from by rw [eU10]; exact Xi_ne (by omega)).trans ( (show Xi U9 904 102 = Xi U8 904 102 from by rw [eU9]; exact Xi_ne (by omega)).trans ( (show Xi U8 904 102 = Xi T7 904 102 from by rw [eU8]; exact Xi_ne (by omega)).trans ((show Xi T7 904 102 = Xi T6 904 102 from w124.x _ _ rfl)))))))
          have w182 : Xi T13 904 103 = Xi T6 904 103 := (show Xi T13 904 103 = Xi U12 904 103 from w176.x _ _ rfl).trans ( (show Xi U12 904 103 = Xi U11 904 103 from by rw [eU12]; exact Xi_ne (by omega)).trans ( (show Xi U11 904 103 = Xi U10 904 103 from by rw [eU11]; exact Xi_ne (by omega)).trans ( (show Xi U10 904 103 = Xi U9 904 103 from by rw [eU10]; exact Xi_ne (by omega)).trans ( (show Xi U9 904 103 = Xi U8 904 103 from by rw [eU9]; exact Xi_ne (by omega)).trans ( (show Xi U8 904 103 = Xi T7 904 103 from by rw [eU8]; exact Xi_ne (by omega)).trans ((show Xi T7 904 103 = Xi T6 904 103 from w124.x _ _ rfl)))))))
          have w184 : Xi T13 904 106 = Xi T7 904 106 := (show Xi T13 904 106 = Xi U12 904 106 from w176.x _ _ rfl).trans ( (show Xi U12 904 106 = Xi U11 904 106 from by rw [eU12]; exact Xi_ne (by omega)).trans ( (show Xi U11 904 106 = Xi U10 904 106 from by rw [eU11]; exact Xi_ne (by omega)).trans ( (show Xi U10 904 106 = Xi U9 904 106 from by rw [eU10]; exact Xi_ne (by omega)).trans ( (show Xi U9 904 106 = Xi U8 904 106 from by rw [eU9]; exact Xi_ne (by omega)).trans ((show Xi U8 904 106 = Xi T7 904 106 from by rw [eU8]; exact Xi_ne (by omega)))))))
          have w185 : 0 ≤ Xi T7 904 106 ∧ Xi T7 904 106 ≤ 9 := hHT7.c _ _
          have w186 : Xi T13 904 116 = Xi U10 904 116 := (show Xi T13 904 116 = Xi U12 904 116 from w176.x _ _ rfl).trans ( (show Xi U12 904 116 = Xi U11 904 116 from by rw [eU12]; exact Xi_ne (by omega)).trans ((show Xi U11 904 116 = Xi U10 904 116 from by rw [eU11]; exact Xi_ne (by omega))))
          have w187 : -1 ≤ Xi U10 904 116 ∧ Xi U10 904 116 ≤ 15 := hHU10.c _ _
          have w188 : Xi T13 904 128 = Xi T6 904 128 := (show Xi T13 904 128 = Xi U12 904 128 from w176.x _ _ rfl).trans ( (show Xi U12 904 128 = Xi U11 904 128 from by rw [eU12]; exact Xi_ne (by omega)).trans ( (show Xi U11 904 128 = Xi U10 904 128 from by rw [eU11]; exact Xi_ne (by omega)).trans ( (show Xi U10 904 128 = Xi U9 904 128 from by rw [eU10]; exact Xi_ne (by omega)).trans ( (show Xi U9 904 128 = Xi U8 904 128 from by rw [eU9]; exact Xi_ne (by omega)).trans ( (show Xi U8 904 128 = Xi T7 904 128 from by rw [eU8]; exact Xi_ne (by omega)).trans ((show Xi T7 904 128 = Xi T6 904 128 from w124.x _ _ rfl)))))))
          have w190 : Xi T13 904 129 = Xi T6 904 129 := (show Xi T13 904 129 = Xi U12 904 129 from w176.x _ _ rfl).trans ( (show Xi U12 904 129 = Xi U11 904 129 from by rw [eU12]; exact Xi_ne (by omega)).trans ( (show Xi U11 904 129 = Xi U10 904 129 from by rw [eU11]; exact Xi_ne (by omega)).trans ( (show Xi U10 904 129 = Xi U9 904 129 from by rw [eU10]; exact Xi_ne (by omega)).trans ( (show Xi U9 904 129 = Xi U8 904 129 from by rw [eU9]; exact Xi_ne (by omega)).trans ( (show Xi U8 904 129 = Xi T7 904 129 from by rw [eU8]; exact Xi_ne (by omega)).trans ((show Xi T7 904 129 = Xi T6 904 129 from w124.x _ _ rfl)))))))
          have w192 : Xi T13 904 69 = Xi T6 904 69 := (show Xi T13 904 69 = Xi U12 904 69 from w176.x _ _ rfl).trans ( (show Xi U12 904 69 = Xi U11 904 69 from by rw [eU12]; exact Xi_ne (by omega)).trans ( (show Xi U11 904 69 = Xi U10 904 69 from by rw [eU11]; exact Xi_ne (by omega)).trans ( (show Xi U10 904 69 = Xi U9 904 69 from by rw [eU10]; exact Xi_ne (by omega)).trans ( (show Xi U9 904 69 = Xi U8 904 69 from by rw [eU9]; exact Xi_ne (by omega)).trans ( (show Xi U8 904 69 = Xi T7 904 69 from by rw [eU8]; exact Xi_ne (by omega)).trans ((show Xi T7 904 69 = Xi T6 904 69 from w124.x _ _ rfl)))))))
          have w194 : Xi T13 904 70 = Xi T6 904 70 := (show Xi T13 904 70 = Xi U12 904 70 from w176.x _ _ rfl).trans ( (show Xi U12 904 70 = Xi U11 904 70 from by rw [eU12]; exact Xi_ne (by omega)).trans ( (show Xi U11 904 70 = Xi U10 904 70 from by rw [eU11]; exact Xi_ne (by omega)).trans ( (show Xi U10 904 70 = Xi U9 904 70 from by rw [eU10]; exact Xi_ne (by omega)).trans ( (show Xi U9 904 70 = Xi U8 904 70 from by rw [eU9]; exact Xi_ne (by omega)).trans ( (show Xi U8 904 70 = Xi T7 904 70 from by rw [eU8]; exact Xi_ne (by omega)).trans ((show Xi T7 904 70 = Xi T6 904 70 from w124.x _ _ rfl)))))))
          exact ⟨hHT13, hFT13, rfl, (by omega), (by first | exact (fun _ => rz_1 (nm_i (S := S) (a := v3) (by omega) (by omega) (by omega) (fun j => (hFT13.cx 942 rfl j).1)) M457) M457 | exact rz_0 (by omega) (by omega)), (by omega), (by omega), (by first | exact fun x => absurd x (by omega) | exact fun x => nm_i (S := S) (a := v3) (by omega) (by omega) (by omega) (fun j => (hFT13.cx 942 rfl j).1) | exact fun x => (by have t := A105 (by omega); exact nm_i (S := S) (a := Xi T1 904 128) (by omega) t.1.1 (by first | exact t.2.2 (by omega) | exact m160 (by omega)) (fun j => (hFT13.cx 942 rfl j).1))), ((KRL.cp (KRL.w (KRL.w (KRL.w (KRL.w (KRL.w (KRL_FR w124 rfl (by assumption : KRL T6 S _)) eU8 (by omega)) eU9 (by omega)) eU10 (by omega)) eU11 (by omega)) eU12 (by omega)) eT13 (by omega) (by omega)))⟩
    · refine l_aload_n rfl rfl ?_
      refine l_gfi rfl rfl rfl rfl rfl ?_
      have w196 : (Xi U9 904 110) = (Xi T6 904 110) := (show Xi U9 904 110 = Xi U8 904 110 from by rw [eU9]; exact Xi_ne (by omega)).trans ( (show Xi U8 904 110 = Xi T7 904 110 from by rw [eU8]; exact Xi_ne (by omega)).trans ((show Xi T7 904 110 = Xi T6 904 110 from w124.x _ _ rfl)))
      rw [w196]
      refine l_goto rfl rfl ?_
      refine l_pfi rfl rfl rfl rfl ?_
      obtain ⟨U14, eU14⟩ : ∃ T : sS, T = uI U9 904 116 (Int32.ofInt (Xi T6 904 110)) := ⟨_, rfl⟩
      rw [← eU14]
      have hHU14 : HI U14 := by rw [eU14]; exact HI_w hHU9 (show -1 ≤ (Xi T6 904 110) by omega) (show (Xi T6 904 110) ≤ 15 by omega)
      have hFU14 : FR md_mo_actingMeant S U14 := by rw [eU14]; exact FR.wI hFU9 (mdf_i (r := (904, 905, 116, 117)) (List.mem_of_getElem? (i := 8) rfl) (inR_i (by omega) (by omega) (by omega) (by omega)))
      have w197 : Xi U14 904 116 = (Xi T6 904 110) := by rw [eU14]; exact Xi_same (by unfold rg; omega)
      refine l_iload rfl rfl ?_
      refine l_if_eq rfl rfl (by unfold rg; omega) (fun w198 => ?_) (fun w199 => ?_)
      · refine l_return rfl rfl ?_
        have w200 : Xi U14 979 (l).toNat = Xi U8 979 (l).toNat := (show Xi U14 979 (l).toNat = Xi U9 979 (l).toNat from by rw [eU14]; exact Xi_ne (by omega)).trans ((show Xi U9 979 (l).toNat = Xi U8 979 (l).toNat from by rw [eU9]; exact Xi_ne (by omega)))
        have w201 : Xi U14 981 (l).toNat = Xi T6 981 (l).toNat := (show Xi U14 981 (l).toNat = Xi U9 981 (l).toNat from by rw [eU14]; exact Xi_ne (by omega)).trans ( (show Xi U9 981 (l).toNat = Xi U8 981 (l).toNat from by rw [eU9]; exact Xi_ne (by omega)).trans ( (show Xi U8 981 (l).toNat = Xi T7 981 (l).toNat from by rw [eU8]; exact Xi_ne (by omega)).trans ((show Xi T7 981 (l).toNat = Xi T6 981 (l).toNat from (w124.cx 981 rfl _).1))))
        have w202 : Xi U14 982 (l).toNat = Xi T6 982 (l).toNat := (show Xi U14 982 (l).toNat = Xi U9 982 (l).toNat from by rw [eU14]; exact Xi_ne (by omega)).trans ( (show Xi U9 982 (l).toNat = Xi U8 982 (l).toNat from by rw [eU9]; exact Xi_ne (by omega)).trans ( (show Xi U8 982 (l).toNat = Xi T7 982 (l).toNat from by rw [eU8]; exact Xi_ne (by omega)).trans ((show Xi T7 982 (l).toNat = Xi T6 982 (l).toNat from (w124.cx 982 rfl _).1))))
        have w203 : Xi U14 904 102 = Xi T6 904 102 := (show Xi U14 904 102 = Xi U9 904 102 from by rw [eU14]; exact Xi_ne (by omega)).trans ( (show Xi U9 904 102 = Xi U8 904 102 from by rw [eU9]; exact Xi_ne (by omega)).trans ( (show Xi U8 904 102 = Xi T7 904 102 from by rw [eU8]; exact Xi_ne (by omega)).trans ((show Xi T7 904 102 = Xi T6 904 102 from w124.x _ _ rfl))))
        have w205 : Xi U14 904 103 = Xi T6 904 103 := (show Xi U14 904 103 = Xi U9 904 103 from by rw [eU14]; exact Xi_ne (by omega)).trans ( (show Xi U9 904 103 = Xi U8 904 103 from by rw [eU9]; exact Xi_ne (by omega)).trans ( (show Xi U8 904 103 = Xi T7 904 103 from by rw [eU8]; exact Xi_ne (by omega)).trans ((show Xi T7 904 103 = Xi T6 904 103 from w124.x _ _ rfl))))
        have w207 : Xi U14 904 106 = Xi T7 904 106 := (show Xi U14 904 106 = Xi U9 904 106 from by rw [eU14]; exact Xi_ne (by omega)).trans ( (show Xi U9 904 106 = Xi U8 904 106 from by rw [eU9]; exact Xi_ne (by omega)).trans ((show Xi U8 904 106 = Xi T7 904 106 from by rw [eU8]; exact Xi_ne (by omega))))
        have w208 : 0 ≤ Xi T7 904 106 ∧ Xi T7 904 106 ≤ 9 := hHT7.c _ _
        have w209 : -1 ≤ Xi U14 904 116 ∧ Xi U14 904 116 ≤ 15 := hHU14.c _ _
        have w210 : Xi U14 904 128 = Xi T6 904 128 := (show Xi U14 904 128 = Xi U9 904 128 from by rw [eU14]; exact Xi_ne (by omega)).trans ( (show Xi U9 904 128 = Xi U8 904 128 from by rw [eU9]; exact Xi_ne (by omega)).trans ( (show Xi U8 904 128 = Xi T7 904 128 from by rw [eU8]; exact Xi_ne (by omega)).trans ((show Xi T7 904 128 = Xi T6 904 128 from w124.x _ _ rfl))))
        have w212 : Xi U14 904 129 = Xi T6 904 129 := (show Xi U14 904 129 = Xi U9 904 129 from by rw [eU14]; exact Xi_ne (by omega)).trans ( (show Xi U9 904 129 = Xi U8 904 129 from by rw [eU9]; exact Xi_ne (by omega)).trans ( (show Xi U8 904 129 = Xi T7 904 129 from by rw [eU8]; exact Xi_ne (by omega)).trans ((show Xi T7 904 129 = Xi T6 904 129 from w124.x _ _ rfl))))
        have w214 : Xi U14 904 69 = Xi T6 904 69 := (show Xi U14 904 69 = Xi U9 904 69 from by rw [eU14]; exact Xi_ne (by omega)).trans ( (show Xi U9 904 69 = Xi U8 904 69 from by rw [eU9]; exact Xi_ne (by omega)).trans ( (show Xi U8 904 69 = Xi T7 904 69 from by rw [eU8]; exact Xi_ne (by omega)).trans ((show Xi T7 904 69 = Xi T6 904 69 from w124.x _ _ rfl))))
        have w216 : Xi U14 904 70 = Xi T6 904 70 := (show Xi U14 904 70 = Xi U9 904 70 from by rw [eU14]; exact Xi_ne (by omega)).trans ( (show Xi U9 904 70 = Xi U8 904 70 from by rw [eU9]; exact Xi_ne (by omega)).trans ( (show Xi U8 904 70 = Xi T7 904 70 from by rw [eU8]; exact Xi_ne (by omega)).trans ((show Xi T7 904 70 = Xi T6 904 70 from w124.x _ _ rfl))))
        exact ⟨hHU14, hFU14, rfl, (by omega), (by first | exact (fun _ => rz_1 (nm_i (S := S) (a := v3) (by omega) (by omega) (by omega) (fun j => (hFU14.cx 942 rfl j).1)) M457) M457 | exact rz_0 (by omega) (by omega)), (by omega), (by omega), (by first | exact fun x => absurd x (by omega) | exact fun x => nm_i (S := S) (a := v3) (by omega) (by omega) (by omega) (fun j => (hFU14.cx 942 rfl j).1) | exact fun x => (by have t := A105 (by omega); exact nm_i (S := S) (a := Xi T1 904 128) (by omega) t.1.1 (by first | exact t.2.2 (by omega) | exact m160 (by omega)) (fun j => (hFU14.cx 942 rfl j).1))), ((KRL.w (KRL.w (KRL.w (KRL_FR w124 rfl (by assumption : KRL T6 S _)) eU8 (by omega)) eU9 (by omega)) eU14 (by omega)))⟩
      · refine l_iload rfl rfl ?_
        refine l_iconst rfl ?_
        refine l_icmp_ne rfl rfl (by unfold rg; omega) (by unfold rg; omega) (fun w218 => ?_) (fun w219 => ?_)
        · refine l_return rfl rfl ?_
          have w220 : Xi U14 979 (l).toNat = Xi U8 979 (l).toNat := (show Xi U14 979 (l).toNat = Xi U9 979 (l).toNat from by rw [eU14]; exact Xi_ne (by omega)).trans ((show Xi U9 979 (l).toNat = Xi U8 979 (l).toNat from by rw [eU9]; exact Xi_ne (by omega)))
          have w221 : Xi U14 981 (l).toNat = Xi T6 981 (l).toNat := (show Xi U14 981 (l).toNat = Xi U9 981 (l).toNat from by rw [eU14]; exact Xi_ne (by omega)).trans ( (show Xi U9 981 (l).toNat = Xi U8 981 (l).toNat from by rw [eU9]; exact Xi_ne (by omega)).trans ( (show Xi U8 981 (l).toNat = Xi T7 981 (l).toNat from by rw [eU8]; exact Xi_ne (by omega)).trans ((show Xi T7 981 (l).toNat = Xi T6 981 (l).toNat from (w124.cx 981 rfl _).1))))
          have w222 : Xi U14 982 (l).toNat = Xi T6 982 (l).toNat := (show Xi U14 982 (l).toNat = Xi U9 982 (l).toNat from by rw [eU14]; exact Xi_ne (by omega)).trans ( (show Xi U9 982 (l).toNat = Xi U8 982 (l).toNat from by rw [eU9]; exact Xi_ne (by omega)).trans ( (show Xi U8 982 (l).toNat = Xi T7 982 (l).toNat from by rw [eU8]; exact Xi_ne (by omega)).trans ((show Xi T7 982 (l).toNat = Xi T6 982 (l).toNat from (w124.cx 982 rfl _).1))))
          have w223 : Xi U14 904 102 = Xi T6 904 102 := (show Xi U14 904 102 = Xi U9 904 102 from by rw [eU14]; exact Xi_ne (by omega)).trans ( (show Xi U9 904 102 = Xi U8 904 102 from by rw [eU9]; exact Xi_ne (by omega)).trans ( (show Xi U8 904 102 = Xi T7 904 102 from by rw [eU8]; exact Xi_ne (by omega)).trans ((show Xi T7 904 102 = Xi T6 904 102 from w124.x _ _ rfl))))
          have w225 : Xi U14 904 103 = Xi T6 904 103 := (show Xi U14 904 103 = Xi U9 904 103 from by rw [eU14]; exact Xi_ne (by omega)).trans ( (show Xi U9 904 103 = Xi U8 904 103 from by rw [eU9]; exact Xi_ne (by omega)).trans ( (show Xi U8 904 103 = Xi T7 904 103 from by rw [eU8]; exact Xi_ne (by omega)).trans ((show Xi T7 904 103 = Xi T6 904 103 from w124.x _ _ rfl))))
          have w227 : Xi U14 904 106 = Xi T7 904 106 := (show Xi U14 904 106 = Xi U9 904 106 from by rw [eU14]; exact Xi_ne (by omega)).trans ( (show Xi U9 904 106 = Xi U8 904 106 from by rw [eU9]; exact Xi_ne (by omega)).trans ((show Xi U8 904 106 = Xi T7 904 106 from by rw [eU8]; exact Xi_ne (by omega))))
          have w228 : 0 ≤ Xi T7 904 106 ∧ Xi T7 904 106 ≤ 9 := hHT7.c _ _
          have w229 : -1 ≤ Xi U14 904 116 ∧ Xi U14 904 116 ≤ 15 := hHU14.c _ _
          have w230 : Xi U14 904 128 = Xi T6 904 128 := (show Xi U14 904 128 = Xi U9 904 128 from by rw [eU14]; exact Xi_ne (by omega)).trans ( (show Xi U9 904 128 = Xi U8 904 128 from by rw [eU9]; exact Xi_ne (by omega)).trans ( (show Xi U8 904 128 = Xi T7 904 128 from by rw [eU8]; exact Xi_ne (by omega)).trans ((show Xi T7 904 128 = Xi T6 904 128 from w124.x _ _ rfl))))
          have w232 : Xi U14 904 129 = Xi T6 904 129 := (show Xi U14 904 129 = Xi U9 904 129 from by rw [eU14]; exact Xi_ne (by omega)).trans ( (show Xi U9 904 129 = Xi U8 904 129 from by rw [eU9]; exact Xi_ne (by omega)).trans ( (show Xi U8 904 129 = Xi T7 904 129 from by rw [eU8]; exact Xi_ne (by omega)).trans ((show Xi T7 904 129 = Xi T6 904 129 from w124.x _ _ rfl))))
          have w234 : Xi U14 904 69 = Xi T6 904 69 := (show Xi U14 904 69 = Xi U9 904 69 from by rw [eU14]; exact Xi_ne (by omega)).trans ( (show Xi U9 904 69 = Xi U8 904 69 from by rw [eU9]; exact Xi_ne (by omega)).trans ( (show Xi U8 904 69 = Xi T7 904 69 from by rw [eU8]; exact Xi_ne (by omega)).trans ((show Xi T7 904 69 = Xi T6 904 69 from w124.x _ _ rfl))))
          have w236 : Xi U14 904 70 = Xi T6 904 70 := (show Xi U14 904 70 = Xi U9 904 70 from by rw [eU14]; exact Xi_ne (by omega)).trans ( (show Xi U9 904 70 = Xi U8 904 70 from by rw [eU9]; exact Xi_ne (by omega)).trans ( (show Xi U8 904 70 = Xi T7 904 70 from by rw [eU8]; exact Xi_ne (by omega)).trans ((show Xi T7 904 70 = Xi T6 904 70 from w124.x _ _ rfl))))
          exact ⟨hHU14, hFU14, rfl, (by omega), (by first | exact (fun _ => rz_1 (nm_i (S := S) (a := v3) (by omega) (by omega) (by omega) (fun j => (hFU14.cx 942 rfl j).1)) M457) M457 | exact rz_0 (by omega) (by omega)), (by omega), (by omega), (by first | exact fun x => absurd x (by omega) | exact fun x => nm_i (S := S) (a := v3) (by omega) (by omega) (by omega) (fun j => (hFU14.cx 942 rfl j).1) | exact fun x => (by have t := A105 (by omega); exact nm_i (S := S) (a := Xi T1 904 128) (by omega) t.1.1 (by first | exact t.2.2 (by omega) | exact m160 (by omega)) (fun j => (hFU14.cx 942 rfl j).1))), ((KRL.w (KRL.w (KRL.w (KRL_FR w124 rfl (by assumption : KRL T6 S _)) eU8 (by omega)) eU9 (by omega)) eU14 (by omega)))⟩
        · refine l_aload_n rfl rfl ?_
          refine l_gfr rfl rfl rfl rfl rfl (hHU14.r 904 134 981 rfl) ?_
          refine l_iload_n rfl rfl ?_
          refine l_aload_n rfl rfl ?_
          refine l_gfi rfl rfl rfl rfl rfl ?_
          have w238 : (Xi U14 904 110) = (Xi T6 904 110) := (show Xi U14 904 110 = Xi U9 904 110 from by rw [eU14]; exact Xi_ne (by omega)).trans ( (show Xi U9 904 110 = Xi U8 904 110 from by rw [eU9]; exact Xi_ne (by omega)).trans ( (show Xi U8 904 110 = Xi T7 904 110 from by rw [eU8]; exact Xi_ne (by omega)).trans ((show Xi T7 904 110 = Xi T6 904 110 from w124.x _ _ rfl))))
          rw [w238]
          refine l_iastore (n := 24) rfl rfl (by omega) (by omega) (by unfold rg; omega) ?_
          obtain ⟨U15, eU15⟩ : ∃ T : sS, T = uI U14 981 ((l).toNat) (Int32.ofInt (Xi T6 904 110)) := ⟨_, rfl⟩
          rw [← eU15]
          have hHU15 : HI U15 := by rw [eU15]; exact HI_w hHU14 (show -1 ≤ (Xi T6 904 110) by omega) (show (Xi T6 904 110) ≤ 15 by omega)
          have hFU15 : FR md_mo_actingMeant S U15 := by rw [eU15]; exact FR.wI hFU14 (mdf_i (r := (981, 982, 0, 100000)) (List.mem_of_getElem? (i := 15) rfl) (inR_i (by omega) (by omega) (by omega) (by omega)))
          have w239 : Xi U15 981 ((l).toNat) = (Xi T6 904 110) := by rw [eU15]; exact Xi_same (by unfold rg; omega)
          refine l_aload_n rfl rfl ?_
          refine l_gfr rfl rfl rfl rfl rfl (hHU15.r 904 135 982 rfl) ?_
          refine l_iload_n rfl rfl ?_
          refine l_aload_n rfl rfl ?_
          refine l_gfi rfl rfl rfl rfl rfl ?_
          have w240 : (Xi U15 904 112) = (Xi T6 904 112) := (show Xi U15 904 112 = Xi U14 904 112 from by rw [eU15]; exact Xi_ne (by omega)).trans ( (show Xi U14 904 112 = Xi U9 904 112 from by rw [eU14]; exact Xi_ne (by omega)).trans ( (show Xi U9 904 112 = Xi U8 904 112 from by rw [eU9]; exact Xi_ne (by omega)).trans ( (show Xi U8 904 112 = Xi T7 904 112 from by rw [eU8]; exact Xi_ne (by omega)).trans ((show Xi T7 904 112 = Xi T6 904 112 from w124.x _ _ rfl)))))
          rw [w240]
          refine l_iastore (n := 24) rfl rfl (by omega) (by omega) (by unfold rg; omega) ?_
          obtain ⟨U16, eU16⟩ : ∃ T : sS, T = uI U15 982 ((l).toNat) (Int32.ofInt (Xi T6 904 112)) := ⟨_, rfl⟩
          rw [← eU16]
          have hHU16 : HI U16 := by rw [eU16]; exact HI_w hHU15 (show 0 ≤ (Xi T6 904 112) by omega) (show (Xi T6 904 112) ≤ 6 by omega)
          have hFU16 : FR md_mo_actingMeant S U16 := by rw [eU16]; exact FR.wI hFU15 (mdf_i (r := (982, 983, 0, 100000)) (List.mem_of_getElem? (i := 16) rfl) (inR_i (by omega) (by omega) (by omega) (by omega)))
          have w241 : Xi U16 982 ((l).toNat) = (Xi T6 904 112) := by rw [eU16]; exact Xi_same (by unfold rg; omega)
          refine l_aload_n rfl rfl ?_
          refine l_gfr rfl rfl rfl rfl rfl (hHU16.r 904 111 967 rfl) ?_
          refine l_iconst rfl ?_
          refine l_aload_n rfl rfl ?_
          refine l_gfr rfl rfl rfl rfl rfl (hHU16.r 904 136 983 rfl) ?_
          refine l_bipush rfl rfl ?_
          refine l_iload_n rfl rfl ?_
          refine l_imul rfl ?_
          refine l_bipush rfl rfl ?_
          refine l_acp rfl rfl rfl (acpI (A := 6) (B := 144) rfl rfl (by omega) (by omega) (by omega) (by omega) (by omega) (by omega) (by omega)) ?_
          obtain ⟨T17, eT17⟩ : ∃ T : sS, T = cpI U16 967 983 (0 : Int).toNat ((6 * l) : Int).toNat (6 : Int).toNat := ⟨_, rfl⟩
          rw [← eT17]
          have hHT17 : HI T17 := by rw [eT17]; exact HI_cpI hHU16 (fun j _ _ => hHU16.c 967 _)
          have w242 : FR [(983, 984, 0, 100000)] U16 T17 := by rw [eT17]; exact FR_cpI (by omega)
          have hFT17 : FR md_mo_actingMeant S T17 := FR.tr hFU16 w242 rfl
          have q457 : Xi T17 982 (l).toNat = Xi U16 982 (l).toNat := ((by assumption : FR [(983, 984, 0, 100000)] U16 T17).cx 982 rfl _).1
          have c457 : Xi T17 982 (l).toNat ≤ 6 := (hHT17.c 982 _).2
          have M457 := ra_cp (S := S) (l := l) eT17 (by omega) (by omega) c457 (fun i hi => (by rw [(fun j => ((FR_e eU16).cx 967 rfl j).1.trans (((FR_e eU15).cx 967 rfl j).1.trans (((FR_e eU14).cx 967 rfl j).1.trans (((FR_e eU9).cx 967 rfl j).1.trans (((FR_e eU8).cx 967 rfl j).1.trans (((w124).cx 967 rfl j).1)))))) i]; exact (R352 (by omega)).2 i (by omega))) (hFT17.x 904 23 rfl) (hFT17.x 904 32 rfl)
          refine l_return rfl rfl ?_
          have w243 : Xi T17 979 (l).toNat = Xi U8 979 (l).toNat := (show Xi T17 979 (l).toNat = Xi U16 979 (l).toNat from (w242.cx 979 rfl _).1).trans ( (show Xi U16 979 (l).toNat = Xi U15 979 (l).toNat from by rw [eU16]; exact Xi_ne (by omega)).trans ( (show Xi U15 979 (l).toNat = Xi U14 979 (l).toNat from by rw [eU15]; exact Xi_ne (by omega)).trans ( (show Xi U14 979 (l).toNat = Xi U9 979 (l).toNat from by rw [eU14]; exact Xi_ne (by omega)).trans ((show Xi U9 979 (l).toNat = Xi U8 979 (l).toNat from by rw [eU9]; exact Xi_ne (by omega))))))
          have w244 : Xi T17 981 (l).toNat = Xi U15 981 (l).toNat := (show Xi T17 981 (l).toNat = Xi U16 981 (l).toNat from (w242.cx 981 rfl _).1).trans ((show Xi U16 981 (l).toNat = Xi U15 981 (l).toNat from by rw [eU16]; exact Xi_ne (by omega)))
          have w245 : Xi T17 982 (l).toNat = Xi U16 982 (l).toNat := (show Xi T17 982 (l).toNat = Xi U16 982 (l).toNat from (w242.cx 982 rfl _).1)
          have w246 : Xi T17 904 102 = Xi T6 904 102 := (show Xi T17 904 102 = Xi U16 904 102 from w242.x _ _ rfl).trans ( (show Xi U16 904 102 = Xi U15 904 102 from by rw [eU16]; exact Xi_ne (by omega)).trans ( (show Xi U15 904 102 = Xi U14 904 102 from by rw [eU15]; exact Xi_ne (by omega)).trans ( (show Xi U14 904 102 = Xi U9 904 102 from by rw [eU14]; exact Xi_ne (by omega)).trans ( (show Xi U9 904 102 = Xi U8 904 102 from by rw [eU9]; exact Xi_ne (by omega)).trans ( (show Xi U8 904 102 = Xi T7 904 102 from by rw [eU8]; exact Xi_ne (by omega)).trans ((show Xi T7 904 102 = Xi T6 904 102 from w124.x _ _ rfl)))))))
          have w248 : Xi T17 904 103 = Xi T6 904 103 := (show Xi T17 904 103 = Xi U16 904 103 from w242.x _ _ rfl).trans ( (show Xi U16 904 103 = Xi U15 904 103 from by rw [eU16]; exact Xi_ne (by omega)).trans ( (show Xi U15 904 103 = Xi U14 904 103 from by rw [eU15]; exact Xi_ne (by omega)).trans ( (show Xi U14 904 103 = Xi U9 904 103 from by rw [eU14]; exact Xi_ne (by omega)).trans ( (show Xi U9 904 103 = Xi U8 904 103 from by rw [eU9]; exact Xi_ne (by omega)).trans ( (show Xi U8 904 103 = Xi T7 904 103 from by rw [eU8]; exact Xi_ne (by omega)).trans ((show Xi T7 904 103 = Xi T6 904 103 from w124.x _ _ rfl)))))))
          have w250 : Xi T17 904 106 = Xi T7 904 106 := (show Xi T17 904 106 = Xi U16 904 106 from w242.x _ _ rfl).trans ( (show Xi U16 904 106 = Xi U15 904 106 from by rw [eU16]; exact Xi_ne (by omega)).trans ( (show Xi U15 904 106 = Xi U14 904 106 from by rw [eU15]; exact Xi_ne (by omega)).trans ( (show Xi U14 904 106 = Xi U9 904 106 from by rw [eU14]; exact Xi_ne (by omega)).trans ( (show Xi U9 904 106 = Xi U8 904 106 from by rw [eU9]; exact Xi_ne (by omega)).trans ((show Xi U8 904 106 = Xi T7 904 106 from by rw [eU8]; exact Xi_ne (by omega)))))))
          have w251 : 0 ≤ Xi T7 904 106 ∧ Xi T7 904 106 ≤ 9 := hHT7.c _ _
          have w252 : Xi T17 904 116 = Xi U14 904 116 := (show Xi T17 904 116 = Xi U16 904 116 from w242.x _ _ rfl).trans ( (show Xi U16 904 116 = Xi U15 904 116 from by rw [eU16]; exact Xi_ne (by omega)).trans ((show Xi U15 904 116 = Xi U14 904 116 from by rw [eU15]; exact Xi_ne (by omega))))
          have w253 : -1 ≤ Xi U14 904 116 ∧ Xi U14 904 116 ≤ 15 := hHU14.c _ _
          have w254 : Xi T17 904 128 = Xi T6 904 128 := (show Xi T17 904 128 = Xi U16 904 128 from w242.x _ _ rfl).trans ( (show Xi U16 904 128 = Xi U15 904 128 from by rw [eU16]; exact Xi_ne (by omega)).trans ( (show Xi U15 904 128 = Xi U14 904 128 from by rw [eU15]; exact Xi_ne (by omega)).trans ( (show Xi U14 904 128 = Xi U9 904 128 from by rw [eU14]; exact Xi_ne (by omega)).trans ( (show Xi U9 904 128 = Xi U8 904 128 from by rw [eU9]; exact Xi_ne (by omega)).trans ( (show Xi U8 904 128 = Xi T7 904 128 from by rw [eU8]; exact Xi_ne (by omega)).trans ((show Xi T7 904 128 = Xi T6 904 128 from w124.x _ _ rfl)))))))
          have w256 : Xi T17 904 129 = Xi T6 904 129 := (show Xi T17 904 129 = Xi U16 904 129 from w242.x _ _ rfl).trans ( (show Xi U16 904 129 = Xi U15 904 129 from by rw [eU16]; exact Xi_ne (by omega)).trans ( (show Xi U15 904 129 = Xi U14 904 129 from by rw [eU15]; exact Xi_ne (by omega)).trans ( (show Xi U14 904 129 = Xi U9 904 129 from by rw [eU14]; exact Xi_ne (by omega)).trans ( (show Xi U9 904 129 = Xi U8 904 129 from by rw [eU9]; exact Xi_ne (by omega)).trans ( (show Xi U8 904 129 = Xi T7 904 129 from by rw [eU8]; exact Xi_ne (by omega)).trans ((show Xi T7 904 129 = Xi T6 904 129 from w124.x _ _ rfl)))))))
          have w258 : Xi T17 904 69 = Xi T6 904 69 := (show Xi T17 904 69 = Xi U16 904 69 from w242.x _ _ rfl).trans ( (show Xi U16 904 69 = Xi U15 904 69 from by rw [eU16]; exact Xi_ne (by omega)).trans ( (show Xi U15 904 69 = Xi U14 904 69 from by rw [eU15]; exact Xi_ne (by omega)).trans ( (show Xi U14 904 69 = Xi U9 904 69 from by rw [eU14]; exact Xi_ne (by omega)).trans ( (show Xi U9 904 69 = Xi U8 904 69 from by rw [eU9]; exact Xi_ne (by omega)).trans ( (show Xi U8 904 69 = Xi T7 904 69 from by rw [eU8]; exact Xi_ne (by omega)).trans ((show Xi T7 904 69 = Xi T6 904 69 from w124.x _ _ rfl)))))))
          have w260 : Xi T17 904 70 = Xi T6 904 70 := (show Xi T17 904 70 = Xi U16 904 70 from w242.x _ _ rfl).trans ( (show Xi U16 904 70 = Xi U15 904 70 from by rw [eU16]; exact Xi_ne (by omega)).trans ( (show Xi U15 904 70 = Xi U14 904 70 from by rw [eU15]; exact Xi_ne (by omega)).trans ( (show Xi U14 904 70 = Xi U9 904 70 from by rw [eU14]; exact Xi_ne (by omega)).trans ( (show Xi U9 904 70 = Xi U8 904 70 from by rw [eU9]; exact Xi_ne (by omega)).trans ( (show Xi U8 904 70 = Xi T7 904 70 from by rw [eU8]; exact Xi_ne (by omega)).trans ((show Xi T7 904 70 = Xi T6 904 70 from w124.x _ _ rfl)))))))
          exact ⟨hHT17, hFT17, rfl, (by omega), (by first | exact (fun _ => rz_1 (nm_i (S := S) (a := v3) (by omega) (by omega) (by omega) (fun j => (hFT17.cx 942 rfl j).1)) M457) M457 | exact rz_0 (by omega) (by omega)), (by omega), (by omega), (by first | exact fun x => absurd x (by omega) | exact fun x => nm_i (S := S) (a := v3) (by omega) (by omega) (by omega) (fun j => (hFT17.cx 942 rfl j).1) | exact fun x => (by have t := A105 (by omega); exact nm_i (S := S) (a := Xi T1 904 128) (by omega) t.1.1 (by first | exact t.2.2 (by omega) | exact m160 (by omega)) (fun j => (hFT17.cx 942 rfl j).1))), ((KRL.cp (KRL.w (KRL.w (KRL.w (KRL.w (KRL.w (KRL_FR w124 rfl (by assumption : KRL T6 S _)) eU8 (by omega)) eU9 (by omega)) eU14 (by omega)) eU15 (by omega)) eU16 (by omega)) eT17 (by omega) (by omega)))⟩
  · refine l_aload_n rfl rfl ?_
    refine l_gfr rfl rfl rfl rfl rfl (hHU9.r 904 20 918 rfl) ?_
    refine l_iload rfl rfl ?_
    refine l_iaload (n := 24) rfl rfl (by omega) (by omega) (by unfold rg; omega) ?_
    have w262 : 0 ≤ (Xi U9 918 ((v5).toNat)) ∧ (Xi U9 918 ((v5).toNat)) ≤ 15 := hHU9.c _ _
    refine l_goto rfl rfl ?_
    refine l_pfi rfl rfl rfl rfl ?_
    obtain ⟨U18, eU18⟩ : ∃ T : sS, T = uI U9 904 116 (Int32.ofInt (Xi U9 918 ((v5).toNat))) := ⟨_, rfl⟩
    rw [← eU18]
    have hHU18 : HI U18 := by rw [eU18]; exact HI_w hHU9 (show -1 ≤ (Xi U9 918 ((v5).toNat)) by omega) (show (Xi U9 918 ((v5).toNat)) ≤ 15 by omega)
    have hFU18 : FR md_mo_actingMeant S U18 := by rw [eU18]; exact FR.wI hFU9 (mdf_i (r := (904, 905, 116, 117)) (List.mem_of_getElem? (i := 8) rfl) (inR_i (by omega) (by omega) (by omega) (by omega)))
    have w263 : Xi U18 904 116 = (Xi U9 918 ((v5).toNat)) := by rw [eU18]; exact Xi_same (by unfold rg; omega)
    refine l_iload rfl rfl ?_
    refine l_if_eq rfl rfl (by unfold rg; omega) (fun w264 => ?_) (fun w265 => ?_)
    · refine l_return rfl rfl ?_
      have w266 : Xi U18 979 (l).toNat = Xi U8 979 (l).toNat := (show Xi U18 979 (l).toNat = Xi U9 979 (l).toNat from by rw [eU18]; exact Xi_ne (by omega)).trans ((show Xi U9 979 (l).toNat = Xi U8 979 (l).toNat from by rw [eU9]; exact Xi_ne (by omega)))
      have w267 : Xi U18 981 (l).toNat = Xi T6 981 (l).toNat := (show Xi U18 981 (l).toNat = Xi U9 981 (l).toNat from by rw [eU18]; exact Xi_ne (by omega)).trans ( (show Xi U9 981 (l).toNat = Xi U8 981 (l).toNat from by rw [eU9]; exact Xi_ne (by omega)).trans ( (show Xi U8 981 (l).toNat = Xi T7 981 (l).toNat from by rw [eU8]; exact Xi_ne (by omega)).trans ((show Xi T7 981 (l).toNat = Xi T6 981 (l).toNat from (w124.cx 981 rfl _).1))))
      have w268 : Xi U18 982 (l).toNat = Xi T6 982 (l).toNat := (show Xi U18 982 (l).toNat = Xi U9 982 (l).toNat from by rw [eU18]; exact Xi_ne (by omega)).trans ( (show Xi U9 982 (l).toNat = Xi U8 982 (l).toNat from by rw [eU9]; exact Xi_ne (by omega)).trans ( (show Xi U8 982 (l).toNat = Xi T7 982 (l).toNat from by rw [eU8]; exact Xi_ne (by omega)).trans ((show Xi T7 982 (l).toNat = Xi T6 982 (l).toNat from (w124.cx 982 rfl _).1))))
      have w269 : Xi U18 904 102 = Xi T6 904 102 := (show Xi U18 904 102 = Xi U9 904 102 from by rw [eU18]; exact Xi_ne (by omega)).trans ( (show Xi U9 904 102 = Xi U8 904 102 from by rw [eU9]; exact Xi_ne (by omega)).trans ( (show Xi U8 904 102 = Xi T7 904 102 from by rw [eU8]; exact Xi_ne (by omega)).trans ((show Xi T7 904 102 = Xi T6 904 102 from w124.x _ _ rfl))))
      have w271 : Xi U18 904 103 = Xi T6 904 103 := (show Xi U18 904 103 = Xi U9 904 103 from by rw [eU18]; exact Xi_ne (by omega)).trans ( (show Xi U9 904 103 = Xi U8 904 103 from by rw [eU9]; exact Xi_ne (by omega)).trans ( (show Xi U8 904 103 = Xi T7 904 103 from by rw [eU8]; exact Xi_ne (by omega)).trans ((show Xi T7 904 103 = Xi T6 904 103 from w124.x _ _ rfl))))
      have w273 : Xi U18 904 106 = Xi T7 904 106 := (show Xi U18 904 106 = Xi U9 904 106 from by rw [eU18]; exact Xi_ne (by omega)).trans ( (show Xi U9 904 106 = Xi U8 904 106 from by rw [eU9]; exact Xi_ne (by omega)).trans ((show Xi U8 904 106 = Xi T7 904 106 from by rw [eU8]; exact Xi_ne (by omega))))
      have w274 : 0 ≤ Xi T7 904 106 ∧ Xi T7 904 106 ≤ 9 := hHT7.c _ _
      have w275 : -1 ≤ Xi U18 904 116 ∧ Xi U18 904 116 ≤ 15 := hHU18.c _ _
      have w276 : Xi U18 904 128 = Xi T6 904 128 := (show Xi U18 904 128 = Xi U9 904 128 from by rw [eU18]; exact Xi_ne (by omega)).trans ( (show Xi U9 904 128 = Xi U8 904 128 from by rw [eU9]; exact Xi_ne (by omega)).trans ( (show Xi U8 904 128 = Xi T7 904 128 from by rw [eU8]; exact Xi_ne (by omega)).trans ((show Xi T7 904 128 = Xi T6 904 128 from w124.x _ _ rfl))))
      have w278 : Xi U18 904 129 = Xi T6 904 129 := (show Xi U18 904 129 = Xi U9 904 129 from by rw [eU18]; exact Xi_ne (by omega)).trans ( (show Xi U9 904 129 = Xi U8 904 129 from by rw [eU9]; exact Xi_ne (by omega)).trans ( (show Xi U8 904 129 = Xi T7 904 129 from by rw [eU8]; exact Xi_ne (by omega)).trans ((show Xi T7 904 129 = Xi T6 904 129 from w124.x _ _ rfl))))
      have w280 : Xi U18 904 69 = Xi T6 904 69 := (show Xi U18 904 69 = Xi U9 904 69 from by rw [eU18]; exact Xi_ne (by omega)).trans ( (show Xi U9 904 69 = Xi U8 904 69 from by rw [eU9]; exact Xi_ne (by omega)).trans ( (show Xi U8 904 69 = Xi T7 904 69 from by rw [eU8]; exact Xi_ne (by omega)).trans ((show Xi T7 904 69 = Xi T6 904 69 from w124.x _ _ rfl))))
      have w282 : Xi U18 904 70 = Xi T6 904 70 := (show Xi U18 904 70 = Xi U9 904 70 from by rw [eU18]; exact Xi_ne (by omega)).trans ( (show Xi U9 904 70 = Xi U8 904 70 from by rw [eU9]; exact Xi_ne (by omega)).trans ( (show Xi U8 904 70 = Xi T7 904 70 from by rw [eU8]; exact Xi_ne (by omega)).trans ((show Xi T7 904 70 = Xi T6 904 70 from w124.x _ _ rfl))))
      exact ⟨hHU18, hFU18, rfl, (by omega), (by first | exact (fun _ => rz_1 (nm_i (S := S) (a := v3) (by omega) (by omega) (by omega) (fun j => (hFU18.cx 942 rfl j).1)) M457) M457 | exact rz_0 (by omega) (by omega)), (by omega), (by omega), (by first | exact fun x => absurd x (by omega) | exact fun x => nm_i (S := S) (a := v3) (by omega) (by omega) (by omega) (fun j => (hFU18.cx 942 rfl j).1) | exact fun x => (by have t := A105 (by omega); exact nm_i (S := S) (a := Xi T1 904 128) (by omega) t.1.1 (by first | exact t.2.2 (by omega) | exact m160 (by omega)) (fun j => (hFU18.cx 942 rfl j).1))), ((KRL.w (KRL.w (KRL.w (KRL_FR w124 rfl (by assumption : KRL T6 S _)) eU8 (by omega)) eU9 (by omega)) eU18 (by omega)))⟩
    · refine l_iload rfl rfl ?_
      refine l_iconst rfl ?_
      refine l_icmp_ne rfl rfl (by unfold rg; omega) (by unfold rg; omega) (fun w284 => ?_) (fun w285 => ?_)
      · refine l_return rfl rfl ?_
        have w286 : Xi U18 979 (l).toNat = Xi U8 979 (l).toNat := (show Xi U18 979 (l).toNat = Xi U9 979 (l).toNat from by rw [eU18]; exact Xi_ne (by omega)).trans ((show Xi U9 979 (l).toNat = Xi U8 979 (l).toNat from by rw [eU9]; exact Xi_ne (by omega)))
        have w287 : Xi U18 981 (l).toNat = Xi T6 981 (l).toNat := (show Xi U18 981 (l).toNat = Xi U9 981 (l).toNat from by rw [eU18]; exact Xi_ne (by omega)).trans ( (show Xi U9 981 (l).toNat = Xi U8 981 (l).toNat from by rw [eU9]; exact Xi_ne (by omega)).trans ( (show Xi U8 981 (l).toNat = Xi T7 981 (l).toNat from by rw [eU8]; exact Xi_ne (by omega)).trans ((show Xi T7 981 (l).toNat = Xi T6 981 (l).toNat from (w124.cx 981 rfl _).1))))
        have w288 : Xi U18 982 (l).toNat = Xi T6 982 (l).toNat := (show Xi U18 982 (l).toNat = Xi U9 982 (l).toNat from by rw [eU18]; exact Xi_ne (by omega)).trans ( (show Xi U9 982 (l).toNat = Xi U8 982 (l).toNat from by rw [eU9]; exact Xi_ne (by omega)).trans ( (show Xi U8 982 (l).toNat = Xi T7 982 (l).toNat from by rw [eU8]; exact Xi_ne (by omega)).trans ((show Xi T7 982 (l).toNat = Xi T6 982 (l).toNat from (w124.cx 982 rfl _).1))))
        have w289 : Xi U18 904 102 = Xi T6 904 102 := (show Xi U18 904 102 = Xi U9 904 102 from by rw [eU18]; exact Xi_ne (by omega)).trans ( (show Xi U9 904 102 = Xi U8 904 102 from by rw [eU9]; exact Xi_ne (by omega)).trans ( (show Xi U8 904 102 = Xi T7 904 102 from by rw [eU8]; exact Xi_ne (by omega)).trans ((show Xi T7 904 102 = Xi T6 904 102 from w124.x _ _ rfl))))
        have w291 : Xi U18 904 103 = Xi T6 904 103 := (show Xi U18 904 103 = Xi U9 904 103 from by rw [eU18]; exact Xi_ne (by omega)).trans ( (show Xi U9 904 103 = Xi U8 904 103 from by rw [eU9]; exact Xi_ne (by omega)).trans ( (show Xi U8 904 103 = Xi T7 904 103 from by rw [eU8]; exact Xi_ne (by omega)).trans ((show Xi T7 904 103 = Xi T6 904 103 from w124.x _ _ rfl))))
        have w293 : Xi U18 904 106 = Xi T7 904 106 := (show Xi U18 904 106 = Xi U9 904 106 from by rw [eU18]; exact Xi_ne (by omega)).trans ( (show Xi U9 904 106 = Xi U8 904 106 from by rw [eU9]; exact Xi_ne (by omega)).trans ((show Xi U8 904 106 = Xi T7 904 106 from by rw [eU8]; exact Xi_ne (by omega))))
        have w294 : 0 ≤ Xi T7 904 106 ∧ Xi T7 904 106 ≤ 9 := hHT7.c _ _
        have w295 : -1 ≤ Xi U18 904 116 ∧ Xi U18 904 116 ≤ 15 := hHU18.c _ _
        have w296 : Xi U18 904 128 = Xi T6 904 128 := (show Xi U18 904 128 = Xi U9 904 128 from by rw [eU18]; exact Xi_ne (by omega)).trans ( (show Xi U9 904 128 = Xi U8 904 128 from by rw [eU9]; exact Xi_ne (by omega)).trans ( (show Xi U8 904 128 = Xi T7 904 128 from by rw [eU8]; exact Xi_ne (by omega)).trans ((show Xi T7 904 128 = Xi T6 904 128 from w124.x _ _ rfl))))
        have w298 : Xi U18 904 129 = Xi T6 904 129 := (show Xi U18 904 129 = Xi U9 904 129 from by rw [eU18]; exact Xi_ne (by omega)).trans ( (show Xi U9 904 129 = Xi U8 904 129 from by rw [eU9]; exact Xi_ne (by omega)).trans ( (show Xi U8 904 129 = Xi T7 904 129 from by rw [eU8]; exact Xi_ne (by omega)).trans ((show Xi T7 904 129 = Xi T6 904 129 from w124.x _ _ rfl))))
        have w300 : Xi U18 904 69 = Xi T6 904 69 := (show Xi U18 904 69 = Xi U9 904 69 from by rw [eU18]; exact Xi_ne (by omega)).trans ( (show Xi U9 904 69 = Xi U8 904 69 from by rw [eU9]; exact Xi_ne (by omega)).trans ( (show Xi U8 904 69 = Xi T7 904 69 from by rw [eU8]; exact Xi_ne (by omega)).trans ((show Xi T7 904 69 = Xi T6 904 69 from w124.x _ _ rfl))))
        have w302 : Xi U18 904 70 = Xi T6 904 70 := (show Xi U18 904 70 = Xi U9 904 70 from by rw [eU18]; exact Xi_ne (by omega)).trans ( (show Xi U9 904 70 = Xi U8 904 70 from by rw [eU9]; exact Xi_ne (by omega)).trans ( (show Xi U8 904 70 = Xi T7 904 70 from by rw [eU8]; exact Xi_ne (by omega)).trans ((show Xi T7 904 70 = Xi T6 904 70 from w124.x _ _ rfl))))
        exact ⟨hHU18, hFU18, rfl, (by omega), (by first | exact (fun _ => rz_1 (nm_i (S := S) (a := v3) (by omega) (by omega) (by omega) (fun j => (hFU18.cx 942 rfl j).1)) M457) M457 | exact rz_0 (by omega) (by omega)), (by omega), (by omega), (by first | exact fun x => absurd x (by omega) | exact fun x => nm_i (S := S) (a := v3) (by omega) (by omega) (by omega) (fun j => (hFU18.cx 942 rfl j).1) | exact fun x => (by have t := A105 (by omega); exact nm_i (S := S) (a := Xi T1 904 128) (by omega) t.1.1 (by first | exact t.2.2 (by omega) | exact m160 (by omega)) (fun j => (hFU18.cx 942 rfl j).1))), ((KRL.w (KRL.w (KRL.w (KRL_FR w124 rfl (by assumption : KRL T6 S _)) eU8 (by omega)) eU9 (by omega)) eU18 (by omega)))⟩
      · refine l_aload_n rfl rfl ?_
        refine l_gfr rfl rfl rfl rfl rfl (hHU18.r 904 134 981 rfl) ?_
        refine l_iload_n rfl rfl ?_
        refine l_aload_n rfl rfl ?_
        refine l_gfi rfl rfl rfl rfl rfl ?_
        have w304 : (Xi U18 904 110) = (Xi T6 904 110) := (show Xi U18 904 110 = Xi U9 904 110 from by rw [eU18]; exact Xi_ne (by omega)).trans ( (show Xi U9 904 110 = Xi U8 904 110 from by rw [eU9]; exact Xi_ne (by omega)).trans ( (show Xi U8 904 110 = Xi T7 904 110 from by rw [eU8]; exact Xi_ne (by omega)).trans ((show Xi T7 904 110 = Xi T6 904 110 from w124.x _ _ rfl))))
        rw [w304]
        refine l_iastore (n := 24) rfl rfl (by omega) (by omega) (by unfold rg; omega) ?_
        obtain ⟨U19, eU19⟩ : ∃ T : sS, T = uI U18 981 ((l).toNat) (Int32.ofInt (Xi T6 904 110)) := ⟨_, rfl⟩
        rw [← eU19]
        have hHU19 : HI U19 := by rw [eU19]; exact HI_w hHU18 (show -1 ≤ (Xi T6 904 110) by omega) (show (Xi T6 904 110) ≤ 15 by omega)
        have hFU19 : FR md_mo_actingMeant S U19 := by rw [eU19]; exact FR.wI hFU18 (mdf_i (r := (981, 982, 0, 100000)) (List.mem_of_getElem? (i := 15) rfl) (inR_i (by omega) (by omega) (by omega) (by omega)))
        have w305 : Xi U19 981 ((l).toNat) = (Xi T6 904 110) := by rw [eU19]; exact Xi_same (by unfold rg; omega)
        refine l_aload_n rfl rfl ?_
        refine l_gfr rfl rfl rfl rfl rfl (hHU19.r 904 135 982 rfl) ?_
        refine l_iload_n rfl rfl ?_
        refine l_aload_n rfl rfl ?_
        refine l_gfi rfl rfl rfl rfl rfl ?_
        have w306 : (Xi U19 904 112) = (Xi T6 904 112) := (show Xi U19 904 112 = Xi U18 904 112 from by rw [eU19]; exact Xi_ne (by omega)).trans ( (show Xi U18 904 112 = Xi U9 904 112 from by rw [eU18]; exact Xi_ne (by omega)).trans ( (show Xi U9 904 112 = Xi U8 904 112 from by rw [eU9]; exact Xi_ne (by omega)).trans ( (show Xi U8 904 112 = Xi T7 904 112 from by rw [eU8]; exact Xi_ne (by omega)).trans ((show Xi T7 904 112 = Xi T6 904 112 from w124.x _ _ rfl)))))
        rw [w306]
        refine l_iastore (n := 24) rfl rfl (by omega) (by omega) (by unfold rg; omega) ?_
        obtain ⟨U20, eU20⟩ : ∃ T : sS, T = uI U19 982 ((l).toNat) (Int32.ofInt (Xi T6 904 112)) := ⟨_, rfl⟩
        rw [← eU20]
        have hHU20 : HI U20 := by rw [eU20]; exact HI_w hHU19 (show 0 ≤ (Xi T6 904 112) by omega) (show (Xi T6 904 112) ≤ 6 by omega)
        have hFU20 : FR md_mo_actingMeant S U20 := by rw [eU20]; exact FR.wI hFU19 (mdf_i (r := (982, 983, 0, 100000)) (List.mem_of_getElem? (i := 16) rfl) (inR_i (by omega) (by omega) (by omega) (by omega)))
        have w307 : Xi U20 982 ((l).toNat) = (Xi T6 904 112) := by rw [eU20]; exact Xi_same (by unfold rg; omega)
        refine l_aload_n rfl rfl ?_
        refine l_gfr rfl rfl rfl rfl rfl (hHU20.r 904 111 967 rfl) ?_
        refine l_iconst rfl ?_
        refine l_aload_n rfl rfl ?_
        refine l_gfr rfl rfl rfl rfl rfl (hHU20.r 904 136 983 rfl) ?_
        refine l_bipush rfl rfl ?_
        refine l_iload_n rfl rfl ?_
        refine l_imul rfl ?_
        refine l_bipush rfl rfl ?_
        refine l_acp rfl rfl rfl (acpI (A := 6) (B := 144) rfl rfl (by omega) (by omega) (by omega) (by omega) (by omega) (by omega) (by omega)) ?_
        obtain ⟨T21, eT21⟩ : ∃ T : sS, T = cpI U20 967 983 (0 : Int).toNat ((6 * l) : Int).toNat (6 : Int).toNat := ⟨_, rfl⟩
        rw [← eT21]
        have hHT21 : HI T21 := by rw [eT21]; exact HI_cpI hHU20 (fun j _ _ => hHU20.c 967 _)
        have w308 : FR [(983, 984, 0, 100000)] U20 T21 := by rw [eT21]; exact FR_cpI (by omega)
        have hFT21 : FR md_mo_actingMeant S T21 := FR.tr hFU20 w308 rfl
        have q457 : Xi T21 982 (l).toNat = Xi U20 982 (l).toNat := ((by assumption : FR [(983, 984, 0, 100000)] U20 T21).cx 982 rfl _).1
        have c457 : Xi T21 982 (l).toNat ≤ 6 := (hHT21.c 982 _).2
        have M457 := ra_cp (S := S) (l := l) eT21 (by omega) (by omega) c457 (fun i hi => (by rw [(fun j => ((FR_e eU20).cx 967 rfl j).1.trans (((FR_e eU19).cx 967 rfl j).1.trans (((FR_e eU18).cx 967 rfl j).1.trans (((FR_e eU9).cx 967 rfl j).1.trans (((FR_e eU8).cx 967 rfl j).1.trans (((w124).cx 967 rfl j).1)))))) i]; exact (R352 (by omega)).2 i (by omega))) (hFT21.x 904 23 rfl) (hFT21.x 904 32 rfl)
        refine l_return rfl rfl ?_
        have w309 : Xi T21 979 (l).toNat = Xi U8 979 (l).toNat := (show Xi T21 979 (l).toNat = Xi U20 979 (l).toNat from (w308.cx 979 rfl _).1).trans ( (show Xi U20 979 (l).toNat = Xi U19 979 (l).toNat from by rw [eU20]; exact Xi_ne (by omega)).trans ( (show Xi U19 979 (l).toNat = Xi U18 979 (l).toNat from by rw [eU19]; exact Xi_ne (by omega)).trans ( (show Xi U18 979 (l).toNat = Xi U9 979 (l).toNat from by rw [eU18]; exact Xi_ne (by omega)).trans ((show Xi U9 979 (l).toNat = Xi U8 979 (l).toNat from by rw [eU9]; exact Xi_ne (by omega))))))
        have w310 : Xi T21 981 (l).toNat = Xi U19 981 (l).toNat := (show Xi T21 981 (l).toNat = Xi U20 981 (l).toNat from (w308.cx 981 rfl _).1).trans ((show Xi U20 981 (l).toNat = Xi U19 981 (l).toNat from by rw [eU20]; exact Xi_ne (by omega)))
        have w311 : Xi T21 982 (l).toNat = Xi U20 982 (l).toNat := (show Xi T21 982 (l).toNat = Xi U20 982 (l).toNat from (w308.cx 982 rfl _).1)
        have w312 : Xi T21 904 102 = Xi T6 904 102 := (show Xi T21 904 102 = Xi U20 904 102 from w308.x _ _ rfl).trans ( (show Xi U20 904 102 = Xi U19 904 102 from by rw [eU20]; exact Xi_ne (by omega)).trans ( (show Xi U19 904 102 = Xi U18 904 102 from by rw [eU19]; exact Xi_ne (by omega)).trans ( (show Xi U18 904 102 = Xi U9 904 102 from by rw [eU18]; exact Xi_ne (by omega)).trans ( (show Xi U9 904 102 = Xi U8 904 102 from by rw [eU9]; exact Xi_ne (by omega)).trans ( (show Xi U8 904 102 = Xi T7 904 102 from by rw [eU8]; exact Xi_ne (by omega)).trans ((show Xi T7 904 102 = Xi T6 904 102 from w124.x _ _ rfl)))))))
        have w314 : Xi T21 904 103 = Xi T6 904 103 := (show Xi T21 904 103 = Xi U20 904 103 from w308.x _ _ rfl).trans ( (show Xi U20 904 103 = Xi U19 904 103 from by rw [eU20]; exact Xi_ne (by omega)).trans ( (show Xi U19 904 103 = Xi U18 904 103 from by rw [eU19]; exact Xi_ne (by omega)).trans ( (show Xi U18 904 103 = Xi U9 904 103 from by rw [eU18]; exact Xi_ne (by omega)).trans ( (show Xi U9 904 103 = Xi U8 904 103 from by rw [eU9]; exact Xi_ne (by omega)).trans ( (show Xi U8 904 103 = Xi T7 904 103 from by rw [eU8]; exact Xi_ne (by omega)).trans ((show Xi T7 904 103 = Xi T6 904 103 from w124.x _ _ rfl)))))))
        have w316 : Xi T21 904 106 = Xi T7 904 106 := (show Xi T21 904 106 = Xi U20 904 106 from w308.x _ _ rfl).trans ( (show Xi U20 904 106 = Xi U19 904 106 from by rw [eU20]; exact Xi_ne (by omega)).trans ( (show Xi U19 904 106 = Xi U18 904 106 from by rw [eU19]; exact Xi_ne (by omega)).trans ( (show Xi U18 904 106 = Xi U9 904 106 from by rw [eU18]; exact Xi_ne (by omega)).trans ( (show Xi U9 904 106 = Xi U8 904 106 from by rw [eU9]; exact Xi_ne (by omega)).trans ((show Xi U8 904 106 = Xi T7 904 106 from by rw [eU8]; exact Xi_ne (by omega)))))))
        have w317 : 0 ≤ Xi T7 904 106 ∧ Xi T7 904 106 ≤ 9 := hHT7.c _ _
        have w318 : Xi T21 904 116 = Xi U18 904 116 := (show Xi T21 904 116 = Xi U20 904 116 from w308.x _ _ rfl).trans ( (show Xi U20 904 116 = Xi U19 904 116 from by rw [eU20]; exact Xi_ne (by omega)).trans ((show Xi U19 904 116 = Xi U18 904 116 from by rw [eU19]; exact Xi_ne (by omega))))
        have w319 : -1 ≤ Xi U18 904 116 ∧ Xi U18 904 116 ≤ 15 := hHU18.c _ _
        have w320 : Xi T21 904 128 = Xi T6 904 128 := (show Xi T21 904 128 = Xi U20 904 128 from w308.x _ _ rfl).trans ( (show Xi U20 904 128 = Xi U19 904 128 from by rw [eU20]; exact Xi_ne (by omega)).trans ( (show Xi U19 904 128 = Xi U18 904 128 from by rw [eU19]; exact Xi_ne (by omega)).trans ( (show Xi U18 904 128 = Xi U9 904 128 from by rw [eU18]; exact Xi_ne (by omega)).trans ( (show Xi U9 904 128 = Xi U8 904 128 from by rw [eU9]; exact Xi_ne (by omega)).trans ( (show Xi U8 904 128 = Xi T7 904 128 from by rw [eU8]; exact Xi_ne (by omega)).trans ((show Xi T7 904 128 = Xi T6 904 128 from w124.x _ _ rfl)))))))
        have w322 : Xi T21 904 129 = Xi T6 904 129 := (show Xi T21 904 129 = Xi U20 904 129 from w308.x _ _ rfl).trans ( (show Xi U20 904 129 = Xi U19 904 129 from by rw [eU20]; exact Xi_ne (by omega)).trans ( (show Xi U19 904 129 = Xi U18 904 129 from by rw [eU19]; exact Xi_ne (by omega)).trans ( (show Xi U18 904 129 = Xi U9 904 129 from by rw [eU18]; exact Xi_ne (by omega)).trans ( (show Xi U9 904 129 = Xi U8 904 129 from by rw [eU9]; exact Xi_ne (by omega)).trans ( (show Xi U8 904 129 = Xi T7 904 129 from by rw [eU8]; exact Xi_ne (by omega)).trans ((show Xi T7 904 129 = Xi T6 904 129 from w124.x _ _ rfl)))))))
        have w324 : Xi T21 904 69 = Xi T6 904 69 := (show Xi T21 904 69 = Xi U20 904 69 from w308.x _ _ rfl).trans ( (show Xi U20 904 69 = Xi U19 904 69 from by rw [eU20]; exact Xi_ne (by omega)).trans ( (show Xi U19 904 69 = Xi U18 904 69 from by rw [eU19]; exact Xi_ne (by omega)).trans ( (show Xi U18 904 69 = Xi U9 904 69 from by rw [eU18]; exact Xi_ne (by omega)).trans ( (show Xi U9 904 69 = Xi U8 904 69 from by rw [eU9]; exact Xi_ne (by omega)).trans ( (show Xi U8 904 69 = Xi T7 904 69 from by rw [eU8]; exact Xi_ne (by omega)).trans ((show Xi T7 904 69 = Xi T6 904 69 from w124.x _ _ rfl)))))))
        have w326 : Xi T21 904 70 = Xi T6 904 70 := (show Xi T21 904 70 = Xi U20 904 70 from w308.x _ _ rfl).trans ( (show Xi U20 904 70 = Xi U19 904 70 from by rw [eU20]; exact Xi_ne (by omega)).trans ( (show Xi U19 904 70 = Xi U18 904 70 from by rw [eU19]; exact Xi_ne (by omega)).trans ( (show Xi U18 904 70 = Xi U9 904 70 from by rw [eU18]; exact Xi_ne (by omega)).trans ( (show Xi U9 904 70 = Xi U8 904 70 from by rw [eU9]; exact Xi_ne (by omega)).trans ( (show Xi U8 904 70 = Xi T7 904 70 from by rw [eU8]; exact Xi_ne (by omega)).trans ((show Xi T7 904 70 = Xi T6 904 70 from w124.x _ _ rfl)))))))
        exact ⟨hHT21, hFT21, rfl, (by omega), (by first | exact (fun _ => rz_1 (nm_i (S := S) (a := v3) (by omega) (by omega) (by omega) (fun j => (hFT21.cx 942 rfl j).1)) M457) M457 | exact rz_0 (by omega) (by omega)), (by omega), (by omega), (by first | exact fun x => absurd x (by omega) | exact fun x => nm_i (S := S) (a := v3) (by omega) (by omega) (by omega) (fun j => (hFT21.cx 942 rfl j).1) | exact fun x => (by have t := A105 (by omega); exact nm_i (S := S) (a := Xi T1 904 128) (by omega) t.1.1 (by first | exact t.2.2 (by omega) | exact m160 (by omega)) (fun j => (hFT21.cx 942 rfl j).1))), ((KRL.cp (KRL.w (KRL.w (KRL.w (KRL.w (KRL.w (KRL_FR w124 rfl (by assumption : KRL T6 S _)) eU8 (by omega)) eU9 (by omega)) eU18 (by omega)) eU19 (by omega)) eU20 (by omega)) eT21 (by omega) (by omega)))⟩
set_option maxRecDepth 100000 in
set_option maxHeartbeats 8000000 in
theorem c287_mo_actingMeant {S : sS} (hH : HI S) (n : Nat) (l : Int) (hl : 0 ≤ l ∧ l ≤ 23) (hT : TK S n) (hv : RNV S n) (hM : LXM S) (hB : ABV S) (hC : DCM S) (ha : Xi S 904 70 ≠ 6 → Xi S 904 102 < Xi S 904 69 ∧ Xi S 904 103 < Xi S 904 69) (d : Nat) : ∀  (T22 : sS) (_ : HI T22) (_ : FR md_mo_actingMeant S T22) (v3 : Int) (v4 : Int) (v5 : Int), (0 ≤ v3 ∧ v3 ≤ 11) → (0 ≤ v4 ∧ v4 ≤ 2599) → (-1 ≤ v5 ∧ v5 ≤ 23) → (0 ≤ v3 ∧ v3 < Xi S 904 49) → (0 ≤ Xi S 942 (v3).toNat) → (0 ≤ v4 ∧ v4 < Xi S 904 69) → (v5 ≠ -1 → v5 < Xi S 904 19) → (Xi T22 979 (l).toNat = -1) → (Xi T22 981 (l).toNat = -1) → (Xi T22 982 (l).toNat = 0) → (Xi S 904 106 ≠ 0 → Xi T22 904 106 ≠ 0) → (Xi S 904 70 ≠ 6) → (KRL T22 S l) → Rl lay0 (d + 10) m_mo_actingMeant 287 [(0, .ref 904), (1, iv l), (3, iv v3), (4, iv v4), (5, iv v5)] [] T22 (Q_mo_actingMeant S n l) := by
  have C352 := c352_mo_actingMeant hH n l hl hT hv hM hB hC ha d 
  have hF : FR md_mo_actingMeant S S := FR.rf
  have w1 : 0 ≤ Xi S 904 102 ∧ Xi S 904 102 ≤ 2600 := hH.c _ _
  have w2 : -1 ≤ Xi S 904 103 ∧ Xi S 904 103 ≤ 2600 := hH.c _ _
  have w3 : 0 ≤ Xi S 904 106 ∧ Xi S 904 106 ≤ 9 := hH.c _ _
  have w4 : 0 ≤ Xi S 904 110 ∧ Xi S 904 110 ≤ 15 := hH.c _ _
  have w5 : 0 ≤ Xi S 904 112 ∧ Xi S 904 112 ≤ 6 := hH.c _ _
  have w6 : -1 ≤ Xi S 904 116 ∧ Xi S 904 116 ≤ 15 := hH.c _ _
  have w7 : 0 ≤ Xi S 904 128 ∧ Xi S 904 128 ≤ 11 := hH.c _ _
  have w8 : -1 ≤ Xi S 904 129 ∧ Xi S 904 129 ≤ 23 := hH.c _ _
  have w9 : 0 ≤ Xi S 904 16 ∧ Xi S 904 16 ≤ 16 := hH.c _ _
  have w10 : 0 ≤ Xi S 904 19 ∧ Xi S 904 19 ≤ 24 := hH.c _ _
  have w11 : 0 ≤ Xi S 904 49 ∧ Xi S 904 49 ≤ 12 := hH.c _ _
  have w12 : 0 ≤ Xi S 904 69 ∧ Xi S 904 69 ≤ 2600 := hH.c _ _
  have w13 : 0 ≤ Xi S 904 70 ∧ Xi S 904 70 ≤ 20 := hH.c _ _
  have hn5 := hT.1
  have hc69 : 0 ≤ Xi S 904 69 ∧ Xi S 904 69 ≤ 2600 := hH.c _ _
  have hc19 : 0 ≤ Xi S 904 19 ∧ Xi S 904 19 ≤ 24 := hH.c _ _
  have hc49 : 0 ≤ Xi S 904 49 ∧ Xi S 904 49 ≤ 12 := hH.c _ _
  have hc16 : 0 ≤ Xi S 904 16 ∧ Xi S 904 16 ≤ 16 := hH.c _ _
  have hrf : ∀ r : Int, 0 ≤ r → r < Xi S 904 69 → Xi S 950 r.toNat + Xi S 951 r.toNat ≤ n ∧ 1 ≤ Xi S 951 r.toNat := fun r a b => hv r.toNat (by omega)
  intro T22 hHT22 hFT22 v3 v4 v5 w328 w329 w330 w331 w332 w333 w334 w335 w336 w337 w338 w339 K287
  have w340 : Xi T22 904 102 = Xi S 904 102 := hFT22.x _ _ rfl
  have w341 : Xi T22 904 103 = Xi S 904 103 := hFT22.x _ _ rfl
  have w342 : Xi T22 904 16 = Xi S 904 16 := hFT22.x _ _ rfl
  have w343 : Xi T22 904 19 = Xi S 904 19 := hFT22.x _ _ rfl
  have w344 : Xi T22 904 49 = Xi S 904 49 := hFT22.x _ _ rfl
  have w345 : Xi T22 904 69 = Xi S 904 69 := hFT22.x _ _ rfl
  have w346 : Xi T22 904 70 = Xi S 904 70 := hFT22.x _ _ rfl
  have w347 : 0 ≤ Xi T22 904 106 ∧ Xi T22 904 106 ≤ 9 := hHT22.c _ _
  refine l_aload_n rfl rfl ?_
  refine l_iconst rfl ?_
  refine l_pfi rfl rfl rfl rfl ?_
  obtain ⟨U23, eU23⟩ : ∃ T : sS, T = uI T22 904 109 (Int32.ofInt 0) := ⟨_, rfl⟩
  rw [← eU23]
  have hHU23 : HI U23 := by rw [eU23]; exact HI_any hHT22 (rfl)
  have hFU23 : FR md_mo_actingMeant S U23 := by rw [eU23]; exact FR.wI hFT22 (mdf_i (r := (904, 905, 109, 110)) (List.mem_of_getElem? (i := 4) rfl) (inR_i (by omega) (by omega) (by omega) (by omega)))
  have w348 : Xi U23 904 109 = 0 := by rw [eU23]; exact Xi_same (by unfold rg; omega)
  refine l_aload_n rfl rfl ?_
  refine l_aload_n rfl rfl ?_
  refine l_gfr rfl rfl rfl rfl rfl (hHU23.r 904 67 950 rfl) ?_
  refine l_iload rfl rfl ?_
  refine l_iaload (n := 2600) rfl rfl (by omega) (by omega) (by unfold rg; omega) ?_
  have w349 : 0 ≤ (Xi U23 950 ((v4).toNat)) ∧ (Xi U23 950 ((v4).toNat)) ≤ 5010 := hHU23.c _ _
  have e299 : (Xi U23 950 ((v4).toNat)) = Xi S 950 (v4).toNat := by first | rfl | exact (hFU23.cx 950 rfl _).1 | exact (hFT22.cx 950 rfl _).1 | exact (hFT22.cx 950 rfl _).1
  have g299 := hrf v4 (by omega) (by omega)
  refine l_aload_n rfl rfl ?_
  refine l_gfr rfl rfl rfl rfl rfl (hHU23.r 904 68 951 rfl) ?_
  refine l_iload rfl rfl ?_
  refine l_iaload (n := 2600) rfl rfl (by omega) (by omega) (by unfold rg; omega) ?_
  have w350 : 0 ≤ (Xi U23 951 ((v4).toNat)) ∧ (Xi U23 951 ((v4).toNat)) ≤ 5010 := hHU23.c _ _
  have e306 : (Xi U23 951 ((v4).toNat)) = Xi S 951 (v4).toNat := by first | rfl | exact (hFU23.cx 951 rfl _).1 | exact (hFT22.cx 951 rfl _).1 | exact (hFT22.cx 951 rfl _).1
  refine l_iconst rfl ?_
  refine l_iconst rfl ?_
  refine l_aload_n rfl rfl ?_
  refine l_gfr rfl rfl rfl rfl rfl (hHU23.r 904 50 942 rfl) ?_
  refine l_iload_n rfl rfl ?_
  refine l_iaload (n := 12) rfl rfl (by omega) (by omega) (by unfold rg; omega) ?_
  have w351 : -2 ≤ (Xi U23 942 ((v3).toNat)) ∧ (Xi U23 942 ((v3).toNat)) ≤ 15 := hHU23.c _ _
  have e314 : (Xi U23 942 ((v3).toNat)) = Xi S 942 (v3).toNat := by first | rfl | exact (hFU23.cx 942 rfl _).1 | exact (hFT22.cx 942 rfl _).1 | exact (hFT22.cx 942 rfl _).1
  refine l_callV rfl rfl rfl (t_mo_describe hHU23 (Xi U23 950 ((v4).toNat)) (Xi U23 951 ((v4).toNat)) 0 1 (Xi U23 942 ((v3).toNat)) ⟨by omega, by omega⟩ ⟨by omega, by omega⟩ ⟨by omega, by omega⟩ ⟨by omega, by omega⟩ ⟨by omega, by omega⟩ (by first | assumption | exact (LXM_FR hFU23 rfl (by assumption : LXM S))) (by first | assumption | exact (ABV_FR hFU23 rfl (by assumption : ABV S))) (by first | assumption | exact (DCM_FR hFU23 rfl (by assumption : DCM S))) (by first | assumption | omega) (fun x => absurd (by omega) x) _) ?_
  rintro _ T24 ⟨hHT24, w370, rfl, w368⟩
  have hFT24 : FR md_mo_actingMeant S T24 := FR.tr hFU23 w370 rfl
  show Rl _ _ _ _ _ [] _ _
  have D315 : Xi T24 904 109 ≠ 0 → Xi T24 904 110 < Xi S 904 16 ∧ ∀ i : Nat, (i : Int) < Xi T24 904 112 → ADX S 1 (Xi T24 967 i) := fun x => (by have t := (by assumption : RDV T24 1) x; rw [hFT24.x 904 16 rfl] at t; exact ⟨t.1, fun i hi => adx_s (t.2 i hi) (hFT24.x 904 23 rfl) (hFT24.x 904 32 rfl) (fun j => (hFT24.cx 922 rfl j).1)⟩)
  refine l_aload_n rfl rfl ?_
  refine l_gfi rfl rfl rfl rfl rfl ?_
  have w371 : -2147483648 ≤ (Xi T24 904 109) ∧ (Xi T24 904 109) ≤ 2147483647 := Xi_rgI
  refine l_if_le rfl rfl (by unfold rg; omega) (fun w372 => ?_) (fun w373 => ?_)
  · refine l_iconst rfl ?_
    refine l_istore rfl rfl rfl ?_
    refine l_aload_n rfl rfl ?_
    refine l_dup rfl rfl ?_
    refine l_gfi rfl rfl rfl rfl rfl ?_
    refine l_iload rfl rfl ?_
    refine l_iconst rfl ?_
    refine l_icmp_eq rfl rfl (by unfold rg; omega) (by unfold rg; omega) (fun w374 => ?_) (fun w375 => ?_)
    · refine l_iconst rfl ?_
      refine l_iaddW rfl (fun c376 w376 => ?_)
      refine l_pfi rfl rfl rfl rfl ?_
      obtain ⟨U25, eU25⟩ : ∃ T : sS, T = uI T24 904 109 (Int32.ofInt c376) := ⟨_, rfl⟩
      rw [← eU25]
      have hHU25 : HI U25 := by rw [eU25]; exact HI_any hHT24 (rfl)
      have hFU25 : FR md_mo_actingMeant S U25 := by rw [eU25]; exact FR.wI hFT24 (mdf_i (r := (904, 905, 109, 110)) (List.mem_of_getElem? (i := 4) rfl) (inR_i (by omega) (by omega) (by omega) (by omega)))
      have w377 : Xi U25 904 109 = c376 := by rw [eU25]; exact Xi_same (by unfold rg; omega)
      have R349 : (0 : Int) ≠ 0 → Xi U25 904 110 < Xi S 904 16 ∧ ∀ i : Nat, (i : Int) < Xi U25 904 112 → ADX S 1 (Xi U25 967 i) := fun x => (by have t := D315 (by omega); refine ⟨by rw [eU25, Xi_ne (by omega)]; exact t.1, fun i hi => ?_⟩; rw [eU25, Xi_ne (by omega)] at hi ⊢; exact t.2 i hi)
      have w378 : Xi U25 979 (l).toNat = Xi T22 979 (l).toNat := (show Xi U25 979 (l).toNat = Xi T24 979 (l).toNat from by rw [eU25]; exact Xi_ne (by omega)).trans ( (show Xi T24 979 (l).toNat = Xi U23 979 (l).toNat from (w370.cx 979 rfl _).1).trans ((show Xi U23 979 (l).toNat = Xi T22 979 (l).toNat from by rw [eU23]; exact Xi_ne (by omega))))
      have w379 : Xi U25 981 (l).toNat = Xi T22 981 (l).toNat := (show Xi U25 981 (l).toNat = Xi T24 981 (l).toNat from by rw [eU25]; exact Xi_ne (by omega)).trans ( (show Xi T24 981 (l).toNat = Xi U23 981 (l).toNat from (w370.cx 981 rfl _).1).trans ((show Xi U23 981 (l).toNat = Xi T22 981 (l).toNat from by rw [eU23]; exact Xi_ne (by omega))))
      have w380 : Xi U25 982 (l).toNat = Xi T22 982 (l).toNat := (show Xi U25 982 (l).toNat = Xi T24 982 (l).toNat from by rw [eU25]; exact Xi_ne (by omega)).trans ( (show Xi T24 982 (l).toNat = Xi U23 982 (l).toNat from (w370.cx 982 rfl _).1).trans ((show Xi U23 982 (l).toNat = Xi T22 982 (l).toNat from by rw [eU23]; exact Xi_ne (by omega))))
      have w381 : Xi U25 904 102 = Xi T22 904 102 := (show Xi U25 904 102 = Xi T24 904 102 from by rw [eU25]; exact Xi_ne (by omega)).trans ( (show Xi T24 904 102 = Xi U23 904 102 from w370.x _ _ rfl).trans ((show Xi U23 904 102 = Xi T22 904 102 from by rw [eU23]; exact Xi_ne (by omega))))
      have w382 : 0 ≤ Xi T22 904 102 ∧ Xi T22 904 102 ≤ 2600 := hHT22.c _ _
      have w383 : Xi U25 904 103 = Xi T22 904 103 := (show Xi U25 904 103 = Xi T24 904 103 from by rw [eU25]; exact Xi_ne (by omega)).trans ( (show Xi T24 904 103 = Xi U23 904 103 from w370.x _ _ rfl).trans ((show Xi U23 904 103 = Xi T22 904 103 from by rw [eU23]; exact Xi_ne (by omega))))
      have w384 : -1 ≤ Xi T22 904 103 ∧ Xi T22 904 103 ≤ 2600 := hHT22.c _ _
      have w385 : Xi U25 904 106 = Xi T22 904 106 := (show Xi U25 904 106 = Xi T24 904 106 from by rw [eU25]; exact Xi_ne (by omega)).trans ( (show Xi T24 904 106 = Xi U23 904 106 from w370.x _ _ rfl).trans ((show Xi U23 904 106 = Xi T22 904 106 from by rw [eU23]; exact Xi_ne (by omega))))
      have w387 : Xi U25 904 110 = Xi T24 904 110 := (show Xi U25 904 110 = Xi T24 904 110 from by rw [eU25]; exact Xi_ne (by omega))
      have w388 : 0 ≤ Xi T24 904 110 ∧ Xi T24 904 110 ≤ 15 := hHT24.c _ _
      have w389 : Xi U25 904 112 = Xi T24 904 112 := (show Xi U25 904 112 = Xi T24 904 112 from by rw [eU25]; exact Xi_ne (by omega))
      have w390 : 0 ≤ Xi T24 904 112 ∧ Xi T24 904 112 ≤ 6 := hHT24.c _ _
      have w391 : Xi U25 904 116 = Xi T22 904 116 := (show Xi U25 904 116 = Xi T24 904 116 from by rw [eU25]; exact Xi_ne (by omega)).trans ( (show Xi T24 904 116 = Xi U23 904 116 from w370.x _ _ rfl).trans ((show Xi U23 904 116 = Xi T22 904 116 from by rw [eU23]; exact Xi_ne (by omega))))
      have w392 : -1 ≤ Xi T22 904 116 ∧ Xi T22 904 116 ≤ 15 := hHT22.c _ _
      have w393 : Xi U25 904 128 = Xi T22 904 128 := (show Xi U25 904 128 = Xi T24 904 128 from by rw [eU25]; exact Xi_ne (by omega)).trans ( (show Xi T24 904 128 = Xi U23 904 128 from w370.x _ _ rfl).trans ((show Xi U23 904 128 = Xi T22 904 128 from by rw [eU23]; exact Xi_ne (by omega))))
      have w394 : 0 ≤ Xi T22 904 128 ∧ Xi T22 904 128 ≤ 11 := hHT22.c _ _
      have w395 : Xi U25 904 129 = Xi T22 904 129 := (show Xi U25 904 129 = Xi T24 904 129 from by rw [eU25]; exact Xi_ne (by omega)).trans ( (show Xi T24 904 129 = Xi U23 904 129 from w370.x _ _ rfl).trans ((show Xi U23 904 129 = Xi T22 904 129 from by rw [eU23]; exact Xi_ne (by omega))))
      have w396 : -1 ≤ Xi T22 904 129 ∧ Xi T22 904 129 ≤ 23 := hHT22.c _ _
      have w397 : Xi U25 904 69 = Xi T22 904 69 := (show Xi U25 904 69 = Xi T24 904 69 from by rw [eU25]; exact Xi_ne (by omega)).trans ( (show Xi T24 904 69 = Xi U23 904 69 from w370.x _ _ rfl).trans ((show Xi U23 904 69 = Xi T22 904 69 from by rw [eU23]; exact Xi_ne (by omega))))
      have w398 : 0 ≤ Xi T22 904 69 ∧ Xi T22 904 69 ≤ 2600 := hHT22.c _ _
      have w399 : Xi U25 904 70 = Xi T22 904 70 := (show Xi U25 904 70 = Xi T24 904 70 from by rw [eU25]; exact Xi_ne (by omega)).trans ( (show Xi T24 904 70 = Xi U23 904 70 from w370.x _ _ rfl).trans ((show Xi U23 904 70 = Xi T22 904 70 from by rw [eU23]; exact Xi_ne (by omega))))
      have w400 : 0 ≤ Xi T22 904 70 ∧ Xi T22 904 70 ≤ 20 := hHT22.c _ _
      exact Rl_weak (C352 U25 hHU25 hFU25 (v3) (v4) (v5) (0) (by omega) (by omega) (by omega) (by omega) (by omega) (by omega) (by omega) (by omega) (by omega) (by omega) (by omega) (by omega) (by omega) ((KRL.w (KRL_FR w370 rfl (KRL.w (by assumption : KRL T22 S _) eU23 (by omega))) eU25 (by omega))) (by first | exact R349 | exact fun x => absurd rfl x)) (And.intro rfl (And.intro rfl (And.intro rfl (And.intro rfl (And.intro rfl (And.intro rfl (True.intro)))))))
    · refine l_iconst rfl ?_
      refine l_goto rfl rfl ?_
      refine l_iaddW rfl (fun c401 w401 => ?_)
      refine l_pfi rfl rfl rfl rfl ?_
      obtain ⟨U26, eU26⟩ : ∃ T : sS, T = uI T24 904 109 (Int32.ofInt c401) := ⟨_, rfl⟩
      rw [← eU26]
      have hHU26 : HI U26 := by rw [eU26]; exact HI_any hHT24 (rfl)
      have hFU26 : FR md_mo_actingMeant S U26 := by rw [eU26]; exact FR.wI hFT24 (mdf_i (r := (904, 905, 109, 110)) (List.mem_of_getElem? (i := 4) rfl) (inR_i (by omega) (by omega) (by omega) (by omega)))
      have w402 : Xi U26 904 109 = c401 := by rw [eU26]; exact Xi_same (by unfold rg; omega)
      have R349 : (0 : Int) ≠ 0 → Xi U26 904 110 < Xi S 904 16 ∧ ∀ i : Nat, (i : Int) < Xi U26 904 112 → ADX S 1 (Xi U26 967 i) := fun x => (by have t := D315 (by omega); refine ⟨by rw [eU26, Xi_ne (by omega)]; exact t.1, fun i hi => ?_⟩; rw [eU26, Xi_ne (by omega)] at hi ⊢; exact t.2 i hi)
      have w403 : Xi U26 979 (l).toNat = Xi T22 979 (l).toNat := (show Xi U26 979 (l).toNat = Xi T24 979 (l).toNat from by rw [eU26]; exact Xi_ne (by omega)).trans ( (show Xi T24 979 (l).toNat = Xi U23 979 (l).toNat from (w370.cx 979 rfl _).1).trans ((show Xi U23 979 (l).toNat = Xi T22 979 (l).toNat from by rw [eU23]; exact Xi_ne (by omega))))
      have w404 : Xi U26 981 (l).toNat = Xi T22 981 (l).toNat := (show Xi U26 981 (l).toNat = Xi T24 981 (l).toNat from by rw [eU26]; exact Xi_ne (by omega)).trans ( (show Xi T24 981 (l).toNat = Xi U23 981 (l).toNat from (w370.cx 981 rfl _).1).trans ((show Xi U23 981 (l).toNat = Xi T22 981 (l).toNat from by rw [eU23]; exact Xi_ne (by omega))))
      have w405 : Xi U26 982 (l).toNat = Xi T22 982 (l).toNat := (show Xi U26 982 (l).toNat = Xi T24 982 (l).toNat from by rw [eU26]; exact Xi_ne (by omega)).trans ( (show Xi T24 982 (l).toNat = Xi U23 982 (l).toNat from (w370.cx 982 rfl _).1).trans ((show Xi U23 982 (l).toNat = Xi T22 982 (l).toNat from by rw [eU23]; exact Xi_ne (by omega))))
      have w406 : Xi U26 904 102 = Xi T22 904 102 := (show Xi U26 904 102 = Xi T24 904 102 from by rw [eU26]; exact Xi_ne (by omega)).trans ( (show Xi T24 904 102 = Xi U23 904 102 from w370.x _ _ rfl).trans ((show Xi U23 904 102 = Xi T22 904 102 from by rw [eU23]; exact Xi_ne (by omega))))
      have w407 : 0 ≤ Xi T22 904 102 ∧ Xi T22 904 102 ≤ 2600 := hHT22.c _ _
      have w408 : Xi U26 904 103 = Xi T22 904 103 := (show Xi U26 904 103 = Xi T24 904 103 from by rw [eU26]; exact Xi_ne (by omega)).trans ( (show Xi T24 904 103 = Xi U23 904 103 from w370.x _ _ rfl).trans ((show Xi U23 904 103 = Xi T22 904 103 from by rw [eU23]; exact Xi_ne (by omega))))
      have w409 : -1 ≤ Xi T22 904 103 ∧ Xi T22 904 103 ≤ 2600 := hHT22.c _ _
      have w410 : Xi U26 904 106 = Xi T22 904 106 := (show Xi U26 904 106 = Xi T24 904 106 from by rw [eU26]; exact Xi_ne (by omega)).trans ( (show Xi T24 904 106 = Xi U23 904 106 from w370.x _ _ rfl).trans ((show Xi U23 904 106 = Xi T22 904 106 from by rw [eU23]; exact Xi_ne (by omega))))
      have w412 : Xi U26 904 110 = Xi T24 904 110 := (show Xi U26 904 110 = Xi T24 904 110 from by rw [eU26]; exact Xi_ne (by omega))
      have w413 : 0 ≤ Xi T24 904 110 ∧ Xi T24 904 110 ≤ 15 := hHT24.c _ _
      have w414 : Xi U26 904 112 = Xi T24 904 112 := (show Xi U26 904 112 = Xi T24 904 112 from by rw [eU26]; exact Xi_ne (by omega))
      have w415 : 0 ≤ Xi T24 904 112 ∧ Xi T24 904 112 ≤ 6 := hHT24.c _ _
      have w416 : Xi U26 904 116 = Xi T22 904 116 := (show Xi U26 904 116 = Xi T24 904 116 from by rw [eU26]; exact Xi_ne (by omega)).trans ( (show Xi T24 904 116 = Xi U23 904 116 from w370.x _ _ rfl).trans ((show Xi U23 904 116 = Xi T22 904 116 from by rw [eU23]; exact Xi_ne (by omega))))
      have w417 : -1 ≤ Xi T22 904 116 ∧ Xi T22 904 116 ≤ 15 := hHT22.c _ _
      have w418 : Xi U26 904 128 = Xi T22 904 128 := (show Xi U26 904 128 = Xi T24 904 128 from by rw [eU26]; exact Xi_ne (by omega)).trans ( (show Xi T24 904 128 = Xi U23 904 128 from w370.x _ _ rfl).trans ((show Xi U23 904 128 = Xi T22 904 128 from by rw [eU23]; exact Xi_ne (by omega))))
      have w419 : 0 ≤ Xi T22 904 128 ∧ Xi T22 904 128 ≤ 11 := hHT22.c _ _
      have w420 : Xi U26 904 129 = Xi T22 904 129 := (show Xi U26 904 129 = Xi T24 904 129 from by rw [eU26]; exact Xi_ne (by omega)).trans ( (show Xi T24 904 129 = Xi U23 904 129 from w370.x _ _ rfl).trans ((show Xi U23 904 129 = Xi T22 904 129 from by rw [eU23]; exact Xi_ne (by omega))))
      have w421 : -1 ≤ Xi T22 904 129 ∧ Xi T22 904 129 ≤ 23 := hHT22.c _ _
      have w422 : Xi U26 904 69 = Xi T22 904 69 := (show Xi U26 904 69 = Xi T24 904 69 from by rw [eU26]; exact Xi_ne (by omega)).trans ( (show Xi T24 904 69 = Xi U23 904 69 from w370.x _ _ rfl).trans ((show Xi U23 904 69 = Xi T22 904 69 from by rw [eU23]; exact Xi_ne (by omega))))
      have w423 : 0 ≤ Xi T22 904 69 ∧ Xi T22 904 69 ≤ 2600 := hHT22.c _ _
      have w424 : Xi U26 904 70 = Xi T22 904 70 := (show Xi U26 904 70 = Xi T24 904 70 from by rw [eU26]; exact Xi_ne (by omega)).trans ( (show Xi T24 904 70 = Xi U23 904 70 from w370.x _ _ rfl).trans ((show Xi U23 904 70 = Xi T22 904 70 from by rw [eU23]; exact Xi_ne (by omega))))
      have w425 : 0 ≤ Xi T22 904 70 ∧ Xi T22 904 70 ≤ 20 := hHT22.c _ _
      exact Rl_weak (C352 U26 hHU26 hFU26 (v3) (v4) (v5) (0) (by omega) (by omega) (by omega) (by omega) (by omega) (by omega) (by omega) (by omega) (by omega) (by omega) (by omega) (by omega) (by omega) ((KRL.w (KRL_FR w370 rfl (KRL.w (by assumption : KRL T22 S _) eU23 (by omega))) eU26 (by omega))) (by first | exact R349 | exact fun x => absurd rfl x)) (And.intro rfl (And.intro rfl (And.intro rfl (And.intro rfl (And.intro rfl (And.intro rfl (True.intro)))))))
  · refine l_iconst rfl ?_
    refine l_goto rfl rfl ?_
    refine l_istore rfl rfl rfl ?_
    refine l_aload_n rfl rfl ?_
    refine l_dup rfl rfl ?_
    refine l_gfi rfl rfl rfl rfl rfl ?_
    refine l_iload rfl rfl ?_
    refine l_iconst rfl ?_
    refine l_icmp_eq rfl rfl (by unfold rg; omega) (by unfold rg; omega) (fun w426 => ?_) (fun w427 => ?_)
    · refine l_iconst rfl ?_
      refine l_iaddW rfl (fun c428 w428 => ?_)
      refine l_pfi rfl rfl rfl rfl ?_
      obtain ⟨U27, eU27⟩ : ∃ T : sS, T = uI T24 904 109 (Int32.ofInt c428) := ⟨_, rfl⟩
      rw [← eU27]
      have hHU27 : HI U27 := by rw [eU27]; exact HI_any hHT24 (rfl)
      have hFU27 : FR md_mo_actingMeant S U27 := by rw [eU27]; exact FR.wI hFT24 (mdf_i (r := (904, 905, 109, 110)) (List.mem_of_getElem? (i := 4) rfl) (inR_i (by omega) (by omega) (by omega) (by omega)))
      have w429 : Xi U27 904 109 = c428 := by rw [eU27]; exact Xi_same (by unfold rg; omega)
      have R349 : (1 : Int) ≠ 0 → Xi U27 904 110 < Xi S 904 16 ∧ ∀ i : Nat, (i : Int) < Xi U27 904 112 → ADX S 1 (Xi U27 967 i) := fun x => (by have t := D315 (by omega); refine ⟨by rw [eU27, Xi_ne (by omega)]; exact t.1, fun i hi => ?_⟩; rw [eU27, Xi_ne (by omega)] at hi ⊢; exact t.2 i hi)
      have w430 : Xi U27 979 (l).toNat = Xi T22 979 (l).toNat := (show Xi U27 979 (l).toNat = Xi T24 979 (l).toNat from by rw [eU27]; exact Xi_ne (by omega)).trans ( (show Xi T24 979 (l).toNat = Xi U23 979 (l).toNat from (w370.cx 979 rfl _).1).trans ((show Xi U23 979 (l).toNat = Xi T22 979 (l).toNat from by rw [eU23]; exact Xi_ne (by omega))))
      have w431 : Xi U27 981 (l).toNat = Xi T22 981 (l).toNat := (show Xi U27 981 (l).toNat = Xi T24 981 (l).toNat from by rw [eU27]; exact Xi_ne (by omega)).trans ( (show Xi T24 981 (l).toNat = Xi U23 981 (l).toNat from (w370.cx 981 rfl _).1).trans ((show Xi U23 981 (l).toNat = Xi T22 981 (l).toNat from by rw [eU23]; exact Xi_ne (by omega))))
      have w432 : Xi U27 982 (l).toNat = Xi T22 982 (l).toNat := (show Xi U27 982 (l).toNat = Xi T24 982 (l).toNat from by rw [eU27]; exact Xi_ne (by omega)).trans ( (show Xi T24 982 (l).toNat = Xi U23 982 (l).toNat from (w370.cx 982 rfl _).1).trans ((show Xi U23 982 (l).toNat = Xi T22 982 (l).toNat from by rw [eU23]; exact Xi_ne (by omega))))
      have w433 : Xi U27 904 102 = Xi T22 904 102 := (show Xi U27 904 102 = Xi T24 904 102 from by rw [eU27]; exact Xi_ne (by omega)).trans ( (show Xi T24 904 102 = Xi U23 904 102 from w370.x _ _ rfl).trans ((show Xi U23 904 102 = Xi T22 904 102 from by rw [eU23]; exact Xi_ne (by omega))))
      have w434 : 0 ≤ Xi T22 904 102 ∧ Xi T22 904 102 ≤ 2600 := hHT22.c _ _
      have w435 : Xi U27 904 103 = Xi T22 904 103 := (show Xi U27 904 103 = Xi T24 904 103 from by rw [eU27]; exact Xi_ne (by omega)).trans ( (show Xi T24 904 103 = Xi U23 904 103 from w370.x _ _ rfl).trans ((show Xi U23 904 103 = Xi T22 904 103 from by rw [eU23]; exact Xi_ne (by omega))))
      have w436 : -1 ≤ Xi T22 904 103 ∧ Xi T22 904 103 ≤ 2600 := hHT22.c _ _
      have w437 : Xi U27 904 106 = Xi T22 904 106 := (show Xi U27 904 106 = Xi T24 904 106 from by rw [eU27]; exact Xi_ne (by omega)).trans ( (show Xi T24 904 106 = Xi U23 904 106 from w370.x _ _ rfl).trans ((show Xi U23 904 106 = Xi T22 904 106 from by rw [eU23]; exact Xi_ne (by omega))))
      have w439 : Xi U27 904 110 = Xi T24 904 110 := (show Xi U27 904 110 = Xi T24 904 110 from by rw [eU27]; exact Xi_ne (by omega))
      have w440 : 0 ≤ Xi T24 904 110 ∧ Xi T24 904 110 ≤ 15 := hHT24.c _ _
      have w441 : Xi U27 904 112 = Xi T24 904 112 := (show Xi U27 904 112 = Xi T24 904 112 from by rw [eU27]; exact Xi_ne (by omega))
      have w442 : 0 ≤ Xi T24 904 112 ∧ Xi T24 904 112 ≤ 6 := hHT24.c _ _
      have w443 : Xi U27 904 116 = Xi T22 904 116 := (show Xi U27 904 116 = Xi T24 904 116 from by rw [eU27]; exact Xi_ne (by omega)).trans ( (show Xi T24 904 116 = Xi U23 904 116 from w370.x _ _ rfl).trans ((show Xi U23 904 116 = Xi T22 904 116 from by rw [eU23]; exact Xi_ne (by omega))))
      have w444 : -1 ≤ Xi T22 904 116 ∧ Xi T22 904 116 ≤ 15 := hHT22.c _ _
      have w445 : Xi U27 904 128 = Xi T22 904 128 := (show Xi U27 904 128 = Xi T24 904 128 from by rw [eU27]; exact Xi_ne (by omega)).trans ( (show Xi T24 904 128 = Xi U23 904 128 from w370.x _ _ rfl).trans ((show Xi U23 904 128 = Xi T22 904 128 from by rw [eU23]; exact Xi_ne (by omega))))
      have w446 : 0 ≤ Xi T22 904 128 ∧ Xi T22 904 128 ≤ 11 := hHT22.c _ _
      have w447 : Xi U27 904 129 = Xi T22 904 129 := (show Xi U27 904 129 = Xi T24 904 129 from by rw [eU27]; exact Xi_ne (by omega)).trans ( (show Xi T24 904 129 = Xi U23 904 129 from w370.x _ _ rfl).trans ((show Xi U23 904 129 = Xi T22 904 129 from by rw [eU23]; exact Xi_ne (by omega))))
      have w448 : -1 ≤ Xi T22 904 129 ∧ Xi T22 904 129 ≤ 23 := hHT22.c _ _
      have w449 : Xi U27 904 69 = Xi T22 904 69 := (show Xi U27 904 69 = Xi T24 904 69 from by rw [eU27]; exact Xi_ne (by omega)).trans ( (show Xi T24 904 69 = Xi U23 904 69 from w370.x _ _ rfl).trans ((show Xi U23 904 69 = Xi T22 904 69 from by rw [eU23]; exact Xi_ne (by omega))))
      have w450 : 0 ≤ Xi T22 904 69 ∧ Xi T22 904 69 ≤ 2600 := hHT22.c _ _
      have w451 : Xi U27 904 70 = Xi T22 904 70 := (show Xi U27 904 70 = Xi T24 904 70 from by rw [eU27]; exact Xi_ne (by omega)).trans ( (show Xi T24 904 70 = Xi U23 904 70 from w370.x _ _ rfl).trans ((show Xi U23 904 70 = Xi T22 904 70 from by rw [eU23]; exact Xi_ne (by omega))))
      have w452 : 0 ≤ Xi T22 904 70 ∧ Xi T22 904 70 ≤ 20 := hHT22.c _ _
      exact Rl_weak (C352 U27 hHU27 hFU27 (v3) (v4) (v5) (1) (by omega) (by omega) (by omega) (by omega) (by omega) (by omega) (by omega) (by omega) (by omega) (by omega) (by omega) (by omega) (by omega) ((KRL.w (KRL_FR w370 rfl (KRL.w (by assumption : KRL T22 S _) eU23 (by omega))) eU27 (by omega))) (by first | exact R349 | exact fun x => absurd rfl x)) (And.intro rfl (And.intro rfl (And.intro rfl (And.intro rfl (And.intro rfl (And.intro rfl (True.intro)))))))
    · refine l_iconst rfl ?_
      refine l_goto rfl rfl ?_
      refine l_iaddW rfl (fun c453 w453 => ?_)
      refine l_pfi rfl rfl rfl rfl ?_
      obtain ⟨U28, eU28⟩ : ∃ T : sS, T = uI T24 904 109 (Int32.ofInt c453) := ⟨_, rfl⟩
      rw [← eU28]
      have hHU28 : HI U28 := by rw [eU28]; exact HI_any hHT24 (rfl)
      have hFU28 : FR md_mo_actingMeant S U28 := by rw [eU28]; exact FR.wI hFT24 (mdf_i (r := (904, 905, 109, 110)) (List.mem_of_getElem? (i := 4) rfl) (inR_i (by omega) (by omega) (by omega) (by omega)))
      have w454 : Xi U28 904 109 = c453 := by rw [eU28]; exact Xi_same (by unfold rg; omega)
      have R349 : (1 : Int) ≠ 0 → Xi U28 904 110 < Xi S 904 16 ∧ ∀ i : Nat, (i : Int) < Xi U28 904 112 → ADX S 1 (Xi U28 967 i) := fun x => (by have t := D315 (by omega); refine ⟨by rw [eU28, Xi_ne (by omega)]; exact t.1, fun i hi => ?_⟩; rw [eU28, Xi_ne (by omega)] at hi ⊢; exact t.2 i hi)
      have w455 : Xi U28 979 (l).toNat = Xi T22 979 (l).toNat := (show Xi U28 979 (l).toNat = Xi T24 979 (l).toNat from by rw [eU28]; exact Xi_ne (by omega)).trans ( (show Xi T24 979 (l).toNat = Xi U23 979 (l).toNat from (w370.cx 979 rfl _).1).trans ((show Xi U23 979 (l).toNat = Xi T22 979 (l).toNat from by rw [eU23]; exact Xi_ne (by omega))))
      have w456 : Xi U28 981 (l).toNat = Xi T22 981 (l).toNat := (show Xi U28 981 (l).toNat = Xi T24 981 (l).toNat from by rw [eU28]; exact Xi_ne (by omega)).trans ( (show Xi T24 981 (l).toNat = Xi U23 981 (l).toNat from (w370.cx 981 rfl _).1).trans ((show Xi U23 981 (l).toNat = Xi T22 981 (l).toNat from by rw [eU23]; exact Xi_ne (by omega))))
      have w457 : Xi U28 982 (l).toNat = Xi T22 982 (l).toNat := (show Xi U28 982 (l).toNat = Xi T24 982 (l).toNat from by rw [eU28]; exact Xi_ne (by omega)).trans ( (show Xi T24 982 (l).toNat = Xi U23 982 (l).toNat from (w370.cx 982 rfl _).1).trans ((show Xi U23 982 (l).toNat = Xi T22 982 (l).toNat from by rw [eU23]; exact Xi_ne (by omega))))
      have w458 : Xi U28 904 102 = Xi T22 904 102 := (show Xi U28 904 102 = Xi T24 904 102 from by rw [eU28]; exact Xi_ne (by omega)).trans ( (show Xi T24 904 102 = Xi U23 904 102 from w370.x _ _ rfl).trans ((show Xi U23 904 102 = Xi T22 904 102 from by rw [eU23]; exact Xi_ne (by omega))))
      have w459 : 0 ≤ Xi T22 904 102 ∧ Xi T22 904 102 ≤ 2600 := hHT22.c _ _
      have w460 : Xi U28 904 103 = Xi T22 904 103 := (show Xi U28 904 103 = Xi T24 904 103 from by rw [eU28]; exact Xi_ne (by omega)).trans ( (show Xi T24 904 103 = Xi U23 904 103 from w370.x _ _ rfl).trans ((show Xi U23 904 103 = Xi T22 904 103 from by rw [eU23]; exact Xi_ne (by omega))))
      have w461 : -1 ≤ Xi T22 904 103 ∧ Xi T22 904 103 ≤ 2600 := hHT22.c _ _
      have w462 : Xi U28 904 106 = Xi T22 904 106 := (show Xi U28 904 106 = Xi T24 904 106 from by rw [eU28]; exact Xi_ne (by omega)).trans ( (show Xi T24 904 106 = Xi U23 904 106 from w370.x _ _ rfl).trans ((show Xi U23 904 106 = Xi T22 904 106 from by rw [eU23]; exact Xi_ne (by omega))))
      have w464 : Xi U28 904 110 = Xi T24 904 110 := (show Xi U28 904 110 = Xi T24 904 110 from by rw [eU28]; exact Xi_ne (by omega))
      have w465 : 0 ≤ Xi T24 904 110 ∧ Xi T24 904 110 ≤ 15 := hHT24.c _ _
      have w466 : Xi U28 904 112 = Xi T24 904 112 := (show Xi U28 904 112 = Xi T24 904 112 from by rw [eU28]; exact Xi_ne (by omega))
      have w467 : 0 ≤ Xi T24 904 112 ∧ Xi T24 904 112 ≤ 6 := hHT24.c _ _
      have w468 : Xi U28 904 116 = Xi T22 904 116 := (show Xi U28 904 116 = Xi T24 904 116 from by rw [eU28]; exact Xi_ne (by omega)).trans ( (show Xi T24 904 116 = Xi U23 904 116 from w370.x _ _ rfl).trans ((show Xi U23 904 116 = Xi T22 904 116 from by rw [eU23]; exact Xi_ne (by omega))))
      have w469 : -1 ≤ Xi T22 904 116 ∧ Xi T22 904 116 ≤ 15 := hHT22.c _ _
      have w470 : Xi U28 904 128 = Xi T22 904 128 := (show Xi U28 904 128 = Xi T24 904 128 from by rw [eU28]; exact Xi_ne (by omega)).trans ( (show Xi T24 904 128 = Xi U23 904 128 from w370.x _ _ rfl).trans ((show Xi U23 904 128 = Xi T22 904 128 from by rw [eU23]; exact Xi_ne (by omega))))
      have w471 : 0 ≤ Xi T22 904 128 ∧ Xi T22 904 128 ≤ 11 := hHT22.c _ _
      have w472 : Xi U28 904 129 = Xi T22 904 129 := (show Xi U28 904 129 = Xi T24 904 129 from by rw [eU28]; exact Xi_ne (by omega)).trans ( (show Xi T24 904 129 = Xi U23 904 129 from w370.x _ _ rfl).trans ((show Xi U23 904 129 = Xi T22 904 129 from by rw [eU23]; exact Xi_ne (by omega))))
      have w473 : -1 ≤ Xi T22 904 129 ∧ Xi T22 904 129 ≤ 23 := hHT22.c _ _
      have w474 : Xi U28 904 69 = Xi T22 904 69 := (show Xi U28 904 69 = Xi T24 904 69 from by rw [eU28]; exact Xi_ne (by omega)).trans ( (show Xi T24 904 69 = Xi U23 904 69 from w370.x _ _ rfl).trans ((show Xi U23 904 69 = Xi T22 904 69 from by rw [eU23]; exact Xi_ne (by omega))))
      have w475 : 0 ≤ Xi T22 904 69 ∧ Xi T22 904 69 ≤ 2600 := hHT22.c _ _
      have w476 : Xi U28 904 70 = Xi T22 904 70 := (show Xi U28 904 70 = Xi T24 904 70 from by rw [eU28]; exact Xi_ne (by omega)).trans ( (show Xi T24 904 70 = Xi U23 904 70 from w370.x _ _ rfl).trans ((show Xi U23 904 70 = Xi T22 904 70 from by rw [eU23]; exact Xi_ne (by omega))))
      have w477 : 0 ≤ Xi T22 904 70 ∧ Xi T22 904 70 ≤ 20 := hHT22.c _ _
      exact Rl_weak (C352 U28 hHU28 hFU28 (v3) (v4) (v5) (1) (by omega) (by omega) (by omega) (by omega) (by omega) (by omega) (by omega) (by omega) (by omega) (by omega) (by omega) (by omega) (by omega) ((KRL.w (KRL_FR w370 rfl (KRL.w (by assumption : KRL T22 S _) eU23 (by omega))) eU28 (by omega))) (by first | exact R349 | exact fun x => absurd rfl x)) (And.intro rfl (And.intro rfl (And.intro rfl (And.intro rfl (And.intro rfl (And.intro rfl (True.intro)))))))
set_option maxRecDepth 100000 in
set_option maxHeartbeats 8000000 in
theorem c244_mo_actingMeant {S : sS} (hH : HI S) (n : Nat) (l : Int) (hl : 0 ≤ l ∧ l ≤ 23) (hT : TK S n) (hv : RNV S n) (hM : LXM S) (hB : ABV S) (hC : DCM S) (ha : Xi S 904 70 ≠ 6 → Xi S 904 102 < Xi S 904 69 ∧ Xi S 904 103 < Xi S 904 69) (d : Nat) : ∀  (T29 : sS) (_ : HI T29) (_ : FR md_mo_actingMeant S T29) (v3 : Int) (v4 : Int), (0 ≤ v3 ∧ v3 ≤ 11) → (0 ≤ v4 ∧ v4 ≤ 2599) → (Xi T29 979 (l).toNat = -1) → (Xi T29 981 (l).toNat = -1) → (Xi T29 982 (l).toNat = 0) → (Xi T29 904 116 = -1) → (Xi S 904 106 ≠ 0 → Xi T29 904 106 ≠ 0) → (Xi S 904 70 ≠ 6) → (KRL T29 S l) → (0 ≤ v3 ∧ v3 < Xi S 904 49) → (0 ≤ Xi S 942 (v3).toNat) → (0 ≤ v4 ∧ v4 < Xi S 904 69) → Rl lay0 (d + 10) m_mo_actingMeant 244 [(0, .ref 904), (1, iv l), (3, iv v3), (4, iv v4)] [] T29 (Q_mo_actingMeant S n l) := by
  have C287 := c287_mo_actingMeant hH n l hl hT hv hM hB hC ha d 
  have hF : FR md_mo_actingMeant S S := FR.rf
  have w1 : 0 ≤ Xi S 904 102 ∧ Xi S 904 102 ≤ 2600 := hH.c _ _
  have w2 : -1 ≤ Xi S 904 103 ∧ Xi S 904 103 ≤ 2600 := hH.c _ _
  have w3 : 0 ≤ Xi S 904 106 ∧ Xi S 904 106 ≤ 9 := hH.c _ _
  have w4 : 0 ≤ Xi S 904 110 ∧ Xi S 904 110 ≤ 15 := hH.c _ _
  have w5 : 0 ≤ Xi S 904 112 ∧ Xi S 904 112 ≤ 6 := hH.c _ _
  have w6 : -1 ≤ Xi S 904 116 ∧ Xi S 904 116 ≤ 15 := hH.c _ _
  have w7 : 0 ≤ Xi S 904 128 ∧ Xi S 904 128 ≤ 11 := hH.c _ _
  have w8 : -1 ≤ Xi S 904 129 ∧ Xi S 904 129 ≤ 23 := hH.c _ _
  have w9 : 0 ≤ Xi S 904 16 ∧ Xi S 904 16 ≤ 16 := hH.c _ _
  have w10 : 0 ≤ Xi S 904 19 ∧ Xi S 904 19 ≤ 24 := hH.c _ _
  have w11 : 0 ≤ Xi S 904 49 ∧ Xi S 904 49 ≤ 12 := hH.c _ _
  have w12 : 0 ≤ Xi S 904 69 ∧ Xi S 904 69 ≤ 2600 := hH.c _ _
  have w13 : 0 ≤ Xi S 904 70 ∧ Xi S 904 70 ≤ 20 := hH.c _ _
  have hn5 := hT.1
  have hc69 : 0 ≤ Xi S 904 69 ∧ Xi S 904 69 ≤ 2600 := hH.c _ _
  have hc19 : 0 ≤ Xi S 904 19 ∧ Xi S 904 19 ≤ 24 := hH.c _ _
  have hc49 : 0 ≤ Xi S 904 49 ∧ Xi S 904 49 ≤ 12 := hH.c _ _
  have hc16 : 0 ≤ Xi S 904 16 ∧ Xi S 904 16 ≤ 16 := hH.c _ _
  have hrf : ∀ r : Int, 0 ≤ r → r < Xi S 904 69 → Xi S 950 r.toNat + Xi S 951 r.toNat ≤ n ∧ 1 ≤ Xi S 951 r.toNat := fun r a b => hv r.toNat (by omega)
  intro T29 hHT29 hFT29 v3 v4 w478 w479 w480 w481 w482 w483 w484 w485 K244 w486 w487 w488
  have w489 : Xi T29 904 102 = Xi S 904 102 := hFT29.x _ _ rfl
  have w490 : Xi T29 904 103 = Xi S 904 103 := hFT29.x _ _ rfl
  have w491 : Xi T29 904 16 = Xi S 904 16 := hFT29.x _ _ rfl
  have w492 : Xi T29 904 19 = Xi S 904 19 := hFT29.x _ _ rfl
  have w493 : Xi T29 904 49 = Xi S 904 49 := hFT29.x _ _ rfl
  have w494 : Xi T29 904 69 = Xi S 904 69 := hFT29.x _ _ rfl
  have w495 : Xi T29 904 70 = Xi S 904 70 := hFT29.x _ _ rfl
  have w496 : 0 ≤ Xi T29 904 106 ∧ Xi T29 904 106 ≤ 9 := hHT29.c _ _
  have w497 : -1 ≤ Xi T29 904 116 ∧ Xi T29 904 116 ≤ 15 := hHT29.c _ _
  refine l_aload_n rfl rfl ?_
  refine l_iload rfl rfl ?_
  refine l_iconst rfl ?_
  have w504 : 0 ≤ Xi T29 904 69 ∧ Xi T29 904 69 ≤ 2600 := hHT29.c _ _
  refine l_callV rfl rfl rfl (t_mo_meansRun__2 hHT29 n v4 4 ⟨by omega, by omega⟩ ⟨by omega, by omega⟩ (by first | assumption | exact (TK_FR hFT29 rfl (by assumption : TK S _))) (by first | assumption | exact (RNV_FR hFT29 rfl (by assumption : RNV S _))) (by first | assumption | omega) (by first | assumption | exact (LXM_FR hFT29 rfl (by assumption : LXM S))) _) ?_
  rintro _ _ ⟨rfl, z508, rfl, w508, w506, w507⟩
  show Rl _ _ _ _ _ [iv z508] _ _
  have x248 : z508 ≠ -1 → z508 < Xi S 904 19 := fun q => by have t := (by assumption : z508 ≠ -1 → z508 < cM T29 4) q; rw [cM4, hFT29.x 904 19 rfl] at t; exact t
  refine l_istore rfl rfl rfl ?_
  refine l_iload rfl rfl ?_
  refine l_iconst rfl ?_
  refine l_icmp_eq rfl rfl (by unfold rg; omega) (by unfold rg; omega) (fun w509 => ?_) (fun w510 => ?_)
  · refine l_iconst rfl ?_
    refine l_istore rfl rfl rfl ?_
    have w511 : 0 ≤ Xi T29 904 102 ∧ Xi T29 904 102 ≤ 2600 := hHT29.c _ _
    have w512 : -1 ≤ Xi T29 904 103 ∧ Xi T29 904 103 ≤ 2600 := hHT29.c _ _
    have w515 : 0 ≤ Xi T29 904 128 ∧ Xi T29 904 128 ≤ 11 := hHT29.c _ _
    have w516 : -1 ≤ Xi T29 904 129 ∧ Xi T29 904 129 ≤ 23 := hHT29.c _ _
    have w518 : 0 ≤ Xi T29 904 70 ∧ Xi T29 904 70 ≤ 20 := hHT29.c _ _
    exact Rl_weak (C287 T29 hHT29 hFT29 (v3) (v4) ((-1)) (by omega) (by omega) (by omega) (by omega) (by omega) (by omega) (by omega) (by omega) (by omega) (by omega) (by omega) (by omega) ((by assumption : KRL T29 S _))) (And.intro rfl (And.intro rfl (And.intro rfl (And.intro rfl (And.intro rfl (True.intro))))))
  · refine l_aload_n rfl rfl ?_
    refine l_aload_n rfl rfl ?_
    refine l_gfr rfl rfl rfl rfl rfl (hHT29.r 904 20 918 rfl) ?_
    refine l_iload rfl rfl ?_
    refine l_iaload (n := 24) rfl rfl (by omega) (by omega) (by unfold rg; omega) ?_
    have w519 : 0 ≤ (Xi T29 918 ((z508).toNat)) ∧ (Xi T29 918 ((z508).toNat)) ≤ 15 := hHT29.c _ _
    refine l_aload_n rfl rfl ?_
    refine l_gfr rfl rfl rfl rfl rfl (hHT29.r 904 50 942 rfl) ?_
    refine l_iload_n rfl rfl ?_
    refine l_iaload (n := 12) rfl rfl (by omega) (by omega) (by unfold rg; omega) ?_
    have w520 : -2 ≤ (Xi T29 942 ((v3).toNat)) ∧ (Xi T29 942 ((v3).toNat)) ≤ 15 := hHT29.c _ _
    refine l_callV rfl rfl rfl (t_mo_isBelow hHT29 (Xi T29 918 ((z508).toNat)) (Xi T29 942 ((v3).toNat)) ⟨by omega, by omega⟩ ⟨by omega, by omega⟩ (by first | assumption | exact (ABV_FR hFT29 rfl (by assumption : ABV S))) _) ?_
    rintro _ _ ⟨rfl, z530, rfl, w530, w529⟩
    show Rl _ _ _ _ _ [iv z530] _ _
    refine l_if_eq rfl rfl (by unfold rg; omega) (fun w531 => ?_) (fun w532 => ?_)
    · refine l_iconst rfl ?_
      refine l_istore rfl rfl rfl ?_
      have w533 : 0 ≤ Xi T29 904 102 ∧ Xi T29 904 102 ≤ 2600 := hHT29.c _ _
      have w534 : -1 ≤ Xi T29 904 103 ∧ Xi T29 904 103 ≤ 2600 := hHT29.c _ _
      have w537 : 0 ≤ Xi T29 904 128 ∧ Xi T29 904 128 ≤ 11 := hHT29.c _ _
      have w538 : -1 ≤ Xi T29 904 129 ∧ Xi T29 904 129 ≤ 23 := hHT29.c _ _
      have w540 : 0 ≤ Xi T29 904 70 ∧ Xi T29 904 70 ≤ 20 := hHT29.c _ _
      exact Rl_weak (C287 T29 hHT29 hFT29 (v3) (v4) ((-1)) (by omega) (by omega) (by omega) (by omega) (by omega) (by omega) (by omega) (by omega) (by omega) (by omega) (by omega) (by omega) ((by assumption : KRL T29 S _))) (And.intro rfl (And.intro rfl (And.intro rfl (And.intro rfl (And.intro rfl (True.intro))))))
    · refine l_iload rfl rfl ?_
      refine l_goto rfl rfl ?_
      refine l_istore rfl rfl rfl ?_
      have w541 : 0 ≤ Xi T29 904 102 ∧ Xi T29 904 102 ≤ 2600 := hHT29.c _ _
      have w542 : -1 ≤ Xi T29 904 103 ∧ Xi T29 904 103 ≤ 2600 := hHT29.c _ _
      have w545 : 0 ≤ Xi T29 904 128 ∧ Xi T29 904 128 ≤ 11 := hHT29.c _ _
      have w546 : -1 ≤ Xi T29 904 129 ∧ Xi T29 904 129 ≤ 23 := hHT29.c _ _
      have w548 : 0 ≤ Xi T29 904 70 ∧ Xi T29 904 70 ≤ 20 := hHT29.c _ _
      exact Rl_weak (C287 T29 hHT29 hFT29 (v3) (v4) (z508) (by omega) (by omega) (by omega) (by omega) (by omega) (by omega) (by omega) (by omega) (by omega) (by omega) (by omega) (by omega) ((by assumption : KRL T29 S _))) (And.intro rfl (And.intro rfl (And.intro rfl (And.intro rfl (And.intro rfl (True.intro))))))
set_option maxRecDepth 100000 in
set_option maxHeartbeats 8000000 in
theorem c208_mo_actingMeant {S : sS} (hH : HI S) (n : Nat) (l : Int) (hl : 0 ≤ l ∧ l ≤ 23) (hT : TK S n) (hv : RNV S n) (hM : LXM S) (hB : ABV S) (hC : DCM S) (ha : Xi S 904 70 ≠ 6 → Xi S 904 102 < Xi S 904 69 ∧ Xi S 904 103 < Xi S 904 69) (d : Nat) : ∀  (T30 : sS) (_ : HI T30) (_ : FR md_mo_actingMeant S T30) (v3 : Int) (v4 : Int), (0 ≤ v3 ∧ v3 ≤ 11) → (-1 ≤ v4 ∧ v4 ≤ 2600) → (Xi T30 979 (l).toNat = -1) → (Xi T30 981 (l).toNat = -1) → (Xi T30 982 (l).toNat = 0) → (Xi T30 904 116 = -1) → (Xi S 904 106 ≠ 0 → Xi T30 904 106 ≠ 0) → (Xi S 904 70 ≠ 6) → (KRL T30 S l) → (0 ≤ v3 ∧ v3 < Xi S 904 49) → (0 ≤ v4 ∧ v4 < Xi S 904 69) → Rl lay0 (d + 10) m_mo_actingMeant 208 [(0, .ref 904), (1, iv l), (3, iv v3), (4, iv v4)] [] T30 (Q_mo_actingMeant S n l) := by
  have C244 := c244_mo_actingMeant hH n l hl hT hv hM hB hC ha d 
  have hF : FR md_mo_actingMeant S S := FR.rf
  have w1 : 0 ≤ Xi S 904 102 ∧ Xi S 904 102 ≤ 2600 := hH.c _ _
  have w2 : -1 ≤ Xi S 904 103 ∧ Xi S 904 103 ≤ 2600 := hH.c _ _
  have w3 : 0 ≤ Xi S 904 106 ∧ Xi S 904 106 ≤ 9 := hH.c _ _
  have w4 : 0 ≤ Xi S 904 110 ∧ Xi S 904 110 ≤ 15 := hH.c _ _
  have w5 : 0 ≤ Xi S 904 112 ∧ Xi S 904 112 ≤ 6 := hH.c _ _
  have w6 : -1 ≤ Xi S 904 116 ∧ Xi S 904 116 ≤ 15 := hH.c _ _
  have w7 : 0 ≤ Xi S 904 128 ∧ Xi S 904 128 ≤ 11 := hH.c _ _
  have w8 : -1 ≤ Xi S 904 129 ∧ Xi S 904 129 ≤ 23 := hH.c _ _
  have w9 : 0 ≤ Xi S 904 16 ∧ Xi S 904 16 ≤ 16 := hH.c _ _
  have w10 : 0 ≤ Xi S 904 19 ∧ Xi S 904 19 ≤ 24 := hH.c _ _
  have w11 : 0 ≤ Xi S 904 49 ∧ Xi S 904 49 ≤ 12 := hH.c _ _
  have w12 : 0 ≤ Xi S 904 69 ∧ Xi S 904 69 ≤ 2600 := hH.c _ _
  have w13 : 0 ≤ Xi S 904 70 ∧ Xi S 904 70 ≤ 20 := hH.c _ _
  have hn5 := hT.1
  have hc69 : 0 ≤ Xi S 904 69 ∧ Xi S 904 69 ≤ 2600 := hH.c _ _
  have hc19 : 0 ≤ Xi S 904 19 ∧ Xi S 904 19 ≤ 24 := hH.c _ _
  have hc49 : 0 ≤ Xi S 904 49 ∧ Xi S 904 49 ≤ 12 := hH.c _ _
  have hc16 : 0 ≤ Xi S 904 16 ∧ Xi S 904 16 ≤ 16 := hH.c _ _
  have hrf : ∀ r : Int, 0 ≤ r → r < Xi S 904 69 → Xi S 950 r.toNat + Xi S 951 r.toNat ≤ n ∧ 1 ≤ Xi S 951 r.toNat := fun r a b => hv r.toNat (by omega)
  intro T30 hHT30 hFT30 v3 v4 w549 w550 w551 w552 w553 w554 w555 w556 K208 w557 w558
  have w559 : Xi T30 904 102 = Xi S 904 102 := hFT30.x _ _ rfl
  have w560 : Xi T30 904 103 = Xi S 904 103 := hFT30.x _ _ rfl
  have w561 : Xi T30 904 16 = Xi S 904 16 := hFT30.x _ _ rfl
  have w562 : Xi T30 904 19 = Xi S 904 19 := hFT30.x _ _ rfl
  have w563 : Xi T30 904 49 = Xi S 904 49 := hFT30.x _ _ rfl
  have w564 : Xi T30 904 69 = Xi S 904 69 := hFT30.x _ _ rfl
  have w565 : Xi T30 904 70 = Xi S 904 70 := hFT30.x _ _ rfl
  have w566 : 0 ≤ Xi T30 904 106 ∧ Xi T30 904 106 ≤ 9 := hHT30.c _ _
  have w567 : -1 ≤ Xi T30 904 116 ∧ Xi T30 904 116 ≤ 15 := hHT30.c _ _
  refine l_aload_n rfl rfl ?_
  refine l_aload_n rfl rfl ?_
  refine l_gfr rfl rfl rfl rfl rfl (hHT30.r 904 50 942 rfl) ?_
  refine l_iload_n rfl rfl ?_
  refine l_iaload (n := 12) rfl rfl (by omega) (by omega) (by unfold rg; omega) ?_
  have w568 : -2 ≤ (Xi T30 942 ((v3).toNat)) ∧ (Xi T30 942 ((v3).toNat)) ≤ 15 := hHT30.c _ _
  have e214 : (Xi T30 942 ((v3).toNat)) = Xi S 942 (v3).toNat := by first | rfl | exact (hFT30.cx 942 rfl _).1 | exact (hFT30.cx 942 rfl _).1 | exact (hFT30.cx 942 rfl _).1
  refine l_if_lt rfl rfl (by unfold rg; omega) (fun w569 => ?_) (fun w570 => ?_)
  · refine l_iconst rfl ?_
    refine l_iconst rfl ?_
    refine l_aload_n rfl rfl ?_
    refine l_gfr rfl rfl rfl rfl rfl (hHT30.r 904 67 950 rfl) ?_
    refine l_iload rfl rfl ?_
    refine l_iaload (n := 2600) rfl rfl (by omega) (by omega) (by unfold rg; omega) ?_
    have w571 : 0 ≤ (Xi T30 950 ((v4).toNat)) ∧ (Xi T30 950 ((v4).toNat)) ≤ 5010 := hHT30.c _ _
    have e230 : (Xi T30 950 ((v4).toNat)) ≤ n := by have t := hrf v4 (by omega) (by omega); first | (rw [(hFT30.cx 950 rfl _).1]; omega) | (rw [(hFT30.cx 950 rfl _).1]; omega) | (rw [(hFT30.cx 950 rfl _).1]; omega)
    refine l_callV rfl rfl rfl (t_mo_need hHT30 0 4 (Xi T30 950 ((v4).toNat)) ⟨by omega, by omega⟩ ⟨by omega, by omega⟩ ⟨by omega, by omega⟩ _) ?_
    rintro _ T31 ⟨hHT31, w583, rfl, w580, w581⟩
    have hFT31 : FR md_mo_actingMeant S T31 := FR.tr hFT30 w583 rfl
    show Rl _ _ _ _ _ [] _ _
    refine l_aload_n rfl rfl ?_
    refine l_gfr rfl rfl rfl rfl rfl (hHT31.r 904 50 942 rfl) ?_
    refine l_iload_n rfl rfl ?_
    refine l_iaload (n := 12) rfl rfl (by omega) (by omega) (by unfold rg; omega) ?_
    have w584 : (Xi T31 942 ((v3).toNat)) = (Xi T30 942 ((v3).toNat)) := (show Xi T31 942 ((v3).toNat) = Xi T30 942 ((v3).toNat) from w583.x _ _ rfl)
    rw [w584]
    have e239 : (Xi T30 942 ((v3).toNat)) = Xi S 942 (v3).toNat := by first | rfl | exact (hFT31.cx 942 rfl _).1 | exact (hFT30.cx 942 rfl _).1 | exact (hFT30.cx 942 rfl _).1
    refine l_if_ge rfl rfl (by unfold rg; omega) (fun w585 => ?_) (fun w586 => ?_)
    · have w587 : Xi T31 979 (l).toNat = Xi T30 979 (l).toNat := (show Xi T31 979 (l).toNat = Xi T30 979 (l).toNat from (w583.cx 979 rfl _).1)
      have w588 : Xi T31 981 (l).toNat = Xi T30 981 (l).toNat := (show Xi T31 981 (l).toNat = Xi T30 981 (l).toNat from (w583.cx 981 rfl _).1)
      have w589 : Xi T31 982 (l).toNat = Xi T30 982 (l).toNat := (show Xi T31 982 (l).toNat = Xi T30 982 (l).toNat from (w583.cx 982 rfl _).1)
      have w590 : Xi T31 904 102 = Xi T30 904 102 := (show Xi T31 904 102 = Xi T30 904 102 from w583.x _ _ rfl)
      have w591 : 0 ≤ Xi T30 904 102 ∧ Xi T30 904 102 ≤ 2600 := hHT30.c _ _
      have w592 : Xi T31 904 103 = Xi T30 904 103 := (show Xi T31 904 103 = Xi T30 904 103 from w583.x _ _ rfl)
      have w593 : -1 ≤ Xi T30 904 103 ∧ Xi T30 904 103 ≤ 2600 := hHT30.c _ _
      have w594 : 0 ≤ Xi T31 904 106 ∧ Xi T31 904 106 ≤ 9 := hHT31.c _ _
      have w595 : Xi T31 904 116 = Xi T30 904 116 := (show Xi T31 904 116 = Xi T30 904 116 from w583.x _ _ rfl)
      have w597 : Xi T31 904 128 = Xi T30 904 128 := (show Xi T31 904 128 = Xi T30 904 128 from w583.x _ _ rfl)
      have w598 : 0 ≤ Xi T30 904 128 ∧ Xi T30 904 128 ≤ 11 := hHT30.c _ _
      have w599 : Xi T31 904 129 = Xi T30 904 129 := (show Xi T31 904 129 = Xi T30 904 129 from w583.x _ _ rfl)
      have w600 : -1 ≤ Xi T30 904 129 ∧ Xi T30 904 129 ≤ 23 := hHT30.c _ _
      have w601 : Xi T31 904 69 = Xi T30 904 69 := (show Xi T31 904 69 = Xi T30 904 69 from w583.x _ _ rfl)
      have w602 : 0 ≤ Xi T30 904 69 ∧ Xi T30 904 69 ≤ 2600 := hHT30.c _ _
      have w603 : Xi T31 904 70 = Xi T30 904 70 := (show Xi T31 904 70 = Xi T30 904 70 from w583.x _ _ rfl)
      have w604 : 0 ≤ Xi T30 904 70 ∧ Xi T30 904 70 ≤ 20 := hHT30.c _ _
      exact Rl_weak (C244 T31 hHT31 hFT31 (v3) (v4) (by omega) (by omega) (by omega) (by omega) (by omega) (by omega) (by omega) (by omega) ((KRL_FR w583 rfl (by assumption : KRL T30 S _))) (by omega) (by omega) (by omega)) (And.intro rfl (And.intro rfl (And.intro rfl (And.intro rfl (True.intro)))))
    · refine l_return rfl rfl ?_
      have w605 : Xi T31 979 (l).toNat = Xi T30 979 (l).toNat := (show Xi T31 979 (l).toNat = Xi T30 979 (l).toNat from (w583.cx 979 rfl _).1)
      have w606 : Xi T31 981 (l).toNat = Xi T30 981 (l).toNat := (show Xi T31 981 (l).toNat = Xi T30 981 (l).toNat from (w583.cx 981 rfl _).1)
      have w607 : Xi T31 982 (l).toNat = Xi T30 982 (l).toNat := (show Xi T31 982 (l).toNat = Xi T30 982 (l).toNat from (w583.cx 982 rfl _).1)
      have w608 : Xi T31 904 102 = Xi T30 904 102 := (show Xi T31 904 102 = Xi T30 904 102 from w583.x _ _ rfl)
      have w609 : 0 ≤ Xi T30 904 102 ∧ Xi T30 904 102 ≤ 2600 := hHT30.c _ _
      have w610 : Xi T31 904 103 = Xi T30 904 103 := (show Xi T31 904 103 = Xi T30 904 103 from w583.x _ _ rfl)
      have w611 : -1 ≤ Xi T30 904 103 ∧ Xi T30 904 103 ≤ 2600 := hHT30.c _ _
      have w612 : 0 ≤ Xi T31 904 106 ∧ Xi T31 904 106 ≤ 9 := hHT31.c _ _
      have w613 : Xi T31 904 116 = Xi T30 904 116 := (show Xi T31 904 116 = Xi T30 904 116 from w583.x _ _ rfl)
      have w615 : Xi T31 904 128 = Xi T30 904 128 := (show Xi T31 904 128 = Xi T30 904 128 from w583.x _ _ rfl)
      have w616 : 0 ≤ Xi T30 904 128 ∧ Xi T30 904 128 ≤ 11 := hHT30.c _ _
      have w617 : Xi T31 904 129 = Xi T30 904 129 := (show Xi T31 904 129 = Xi T30 904 129 from w583.x _ _ rfl)
      have w618 : -1 ≤ Xi T30 904 129 ∧ Xi T30 904 129 ≤ 23 := hHT30.c _ _
      have w619 : Xi T31 904 69 = Xi T30 904 69 := (show Xi T31 904 69 = Xi T30 904 69 from w583.x _ _ rfl)
      have w620 : 0 ≤ Xi T30 904 69 ∧ Xi T30 904 69 ≤ 2600 := hHT30.c _ _
      have w621 : Xi T31 904 70 = Xi T30 904 70 := (show Xi T31 904 70 = Xi T30 904 70 from w583.x _ _ rfl)
      have w622 : 0 ≤ Xi T30 904 70 ∧ Xi T30 904 70 ≤ 20 := hHT30.c _ _
      exact ⟨hHT31, hFT31, rfl, (by omega), (by first | exact (fun _ => rz_1 (nm_i (S := S) (a := v3) (by omega) (by omega) (by omega) (fun j => (hFT31.cx 942 rfl j).1)) M457) M457 | exact rz_0 (by omega) (by omega)), (by omega), (by omega), (by first | exact fun x => absurd x (by omega) | exact fun x => nm_i (S := S) (a := v3) (by omega) (by omega) (by omega) (fun j => (hFT31.cx 942 rfl j).1) | exact fun x => (by have t := A105 (by omega); exact nm_i (S := S) (a := Xi T1 904 128) (by omega) t.1.1 (by first | exact t.2.2 (by omega) | exact m160 (by omega)) (fun j => (hFT31.cx 942 rfl j).1))), ((KRL_FR w583 rfl (by assumption : KRL T30 S _)))⟩
  · refine l_iconst rfl ?_
    refine l_goto rfl rfl ?_
    refine l_iconst rfl ?_
    refine l_aload_n rfl rfl ?_
    refine l_gfr rfl rfl rfl rfl rfl (hHT30.r 904 67 950 rfl) ?_
    refine l_iload rfl rfl ?_
    refine l_iaload (n := 2600) rfl rfl (by omega) (by omega) (by unfold rg; omega) ?_
    have w623 : 0 ≤ (Xi T30 950 ((v4).toNat)) ∧ (Xi T30 950 ((v4).toNat)) ≤ 5010 := hHT30.c _ _
    have e230 : (Xi T30 950 ((v4).toNat)) ≤ n := by have t := hrf v4 (by omega) (by omega); first | (rw [(hFT30.cx 950 rfl _).1]; omega) | (rw [(hFT30.cx 950 rfl _).1]; omega) | (rw [(hFT30.cx 950 rfl _).1]; omega)
    refine l_callV rfl rfl rfl (t_mo_need hHT30 1 4 (Xi T30 950 ((v4).toNat)) ⟨by omega, by omega⟩ ⟨by omega, by omega⟩ ⟨by omega, by omega⟩ _) ?_
    rintro _ T32 ⟨hHT32, w635, rfl, w632, w633⟩
    have hFT32 : FR md_mo_actingMeant S T32 := FR.tr hFT30 w635 rfl
    show Rl _ _ _ _ _ [] _ _
    refine l_aload_n rfl rfl ?_
    refine l_gfr rfl rfl rfl rfl rfl (hHT32.r 904 50 942 rfl) ?_
    refine l_iload_n rfl rfl ?_
    refine l_iaload (n := 12) rfl rfl (by omega) (by omega) (by unfold rg; omega) ?_
    have w636 : (Xi T32 942 ((v3).toNat)) = (Xi T30 942 ((v3).toNat)) := (show Xi T32 942 ((v3).toNat) = Xi T30 942 ((v3).toNat) from w635.x _ _ rfl)
    rw [w636]
    have e239 : (Xi T30 942 ((v3).toNat)) = Xi S 942 (v3).toNat := by first | rfl | exact (hFT32.cx 942 rfl _).1 | exact (hFT30.cx 942 rfl _).1 | exact (hFT30.cx 942 rfl _).1
    refine l_if_ge rfl rfl (by unfold rg; omega) (fun w637 => ?_) (fun w638 => ?_)
    · have w639 : Xi T32 979 (l).toNat = Xi T30 979 (l).toNat := (show Xi T32 979 (l).toNat = Xi T30 979 (l).toNat from (w635.cx 979 rfl _).1)
      have w640 : Xi T32 981 (l).toNat = Xi T30 981 (l).toNat := (show Xi T32 981 (l).toNat = Xi T30 981 (l).toNat from (w635.cx 981 rfl _).1)
      have w641 : Xi T32 982 (l).toNat = Xi T30 982 (l).toNat := (show Xi T32 982 (l).toNat = Xi T30 982 (l).toNat from (w635.cx 982 rfl _).1)
      have w642 : Xi T32 904 102 = Xi T30 904 102 := (show Xi T32 904 102 = Xi T30 904 102 from w635.x _ _ rfl)
      have w643 : 0 ≤ Xi T30 904 102 ∧ Xi T30 904 102 ≤ 2600 := hHT30.c _ _
      have w644 : Xi T32 904 103 = Xi T30 904 103 := (show Xi T32 904 103 = Xi T30 904 103 from w635.x _ _ rfl)
      have w645 : -1 ≤ Xi T30 904 103 ∧ Xi T30 904 103 ≤ 2600 := hHT30.c _ _
      have w646 : 0 ≤ Xi T32 904 106 ∧ Xi T32 904 106 ≤ 9 := hHT32.c _ _
      have w647 : Xi T32 904 116 = Xi T30 904 116 := (show Xi T32 904 116 = Xi T30 904 116 from w635.x _ _ rfl)
      have w649 : Xi T32 904 128 = Xi T30 904 128 := (show Xi T32 904 128 = Xi T30 904 128 from w635.x _ _ rfl)
      have w650 : 0 ≤ Xi T30 904 128 ∧ Xi T30 904 128 ≤ 11 := hHT30.c _ _
      have w651 : Xi T32 904 129 = Xi T30 904 129 := (show Xi T32 904 129 = Xi T30 904 129 from w635.x _ _ rfl)
      have w652 : -1 ≤ Xi T30 904 129 ∧ Xi T30 904 129 ≤ 23 := hHT30.c _ _
      have w653 : Xi T32 904 69 = Xi T30 904 69 := (show Xi T32 904 69 = Xi T30 904 69 from w635.x _ _ rfl)
      have w654 : 0 ≤ Xi T30 904 69 ∧ Xi T30 904 69 ≤ 2600 := hHT30.c _ _
      have w655 : Xi T32 904 70 = Xi T30 904 70 := (show Xi T32 904 70 = Xi T30 904 70 from w635.x _ _ rfl)
      have w656 : 0 ≤ Xi T30 904 70 ∧ Xi T30 904 70 ≤ 20 := hHT30.c _ _
      exact Rl_weak (C244 T32 hHT32 hFT32 (v3) (v4) (by omega) (by omega) (by omega) (by omega) (by omega) (by omega) (by omega) (by omega) ((KRL_FR w635 rfl (by assumption : KRL T30 S _))) (by omega) (by omega) (by omega)) (And.intro rfl (And.intro rfl (And.intro rfl (And.intro rfl (True.intro)))))
    · refine l_return rfl rfl ?_
      have w657 : Xi T32 979 (l).toNat = Xi T30 979 (l).toNat := (show Xi T32 979 (l).toNat = Xi T30 979 (l).toNat from (w635.cx 979 rfl _).1)
      have w658 : Xi T32 981 (l).toNat = Xi T30 981 (l).toNat := (show Xi T32 981 (l).toNat = Xi T30 981 (l).toNat from (w635.cx 981 rfl _).1)
      have w659 : Xi T32 982 (l).toNat = Xi T30 982 (l).toNat := (show Xi T32 982 (l).toNat = Xi T30 982 (l).toNat from (w635.cx 982 rfl _).1)
      have w660 : Xi T32 904 102 = Xi T30 904 102 := (show Xi T32 904 102 = Xi T30 904 102 from w635.x _ _ rfl)
      have w661 : 0 ≤ Xi T30 904 102 ∧ Xi T30 904 102 ≤ 2600 := hHT30.c _ _
      have w662 : Xi T32 904 103 = Xi T30 904 103 := (show Xi T32 904 103 = Xi T30 904 103 from w635.x _ _ rfl)
      have w663 : -1 ≤ Xi T30 904 103 ∧ Xi T30 904 103 ≤ 2600 := hHT30.c _ _
      have w664 : 0 ≤ Xi T32 904 106 ∧ Xi T32 904 106 ≤ 9 := hHT32.c _ _
      have w665 : Xi T32 904 116 = Xi T30 904 116 := (show Xi T32 904 116 = Xi T30 904 116 from w635.x _ _ rfl)
      have w667 : Xi T32 904 128 = Xi T30 904 128 := (show Xi T32 904 128 = Xi T30 904 128 from w635.x _ _ rfl)
      have w668 : 0 ≤ Xi T30 904 128 ∧ Xi T30 904 128 ≤ 11 := hHT30.c _ _
      have w669 : Xi T32 904 129 = Xi T30 904 129 := (show Xi T32 904 129 = Xi T30 904 129 from w635.x _ _ rfl)
      have w670 : -1 ≤ Xi T30 904 129 ∧ Xi T30 904 129 ≤ 23 := hHT30.c _ _
      have w671 : Xi T32 904 69 = Xi T30 904 69 := (show Xi T32 904 69 = Xi T30 904 69 from w635.x _ _ rfl)
      have w672 : 0 ≤ Xi T30 904 69 ∧ Xi T30 904 69 ≤ 2600 := hHT30.c _ _
      have w673 : Xi T32 904 70 = Xi T30 904 70 := (show Xi T32 904 70 = Xi T30 904 70 from w635.x _ _ rfl)
      have w674 : 0 ≤ Xi T30 904 70 ∧ Xi T30 904 70 ≤ 20 := hHT30.c _ _
      exact ⟨hHT32, hFT32, rfl, (by omega), (by first | exact (fun _ => rz_1 (nm_i (S := S) (a := v3) (by omega) (by omega) (by omega) (fun j => (hFT32.cx 942 rfl j).1)) M457) M457 | exact rz_0 (by omega) (by omega)), (by omega), (by omega), (by first | exact fun x => absurd x (by omega) | exact fun x => nm_i (S := S) (a := v3) (by omega) (by omega) (by omega) (fun j => (hFT32.cx 942 rfl j).1) | exact fun x => (by have t := A105 (by omega); exact nm_i (S := S) (a := Xi T1 904 128) (by omega) t.1.1 (by first | exact t.2.2 (by omega) | exact m160 (by omega)) (fun j => (hFT32.cx 942 rfl j).1))), ((KRL_FR w635 rfl (by assumption : KRL T30 S _)))⟩
set_option maxRecDepth 100000 in
set_option maxHeartbeats 8000000 in
theorem c33_mo_actingMeant {S : sS} (hH : HI S) (n : Nat) (l : Int) (hl : 0 ≤ l ∧ l ≤ 23) (hT : TK S n) (hv : RNV S n) (hM : LXM S) (hB : ABV S) (hC : DCM S) (ha : Xi S 904 70 ≠ 6 → Xi S 904 102 < Xi S 904 69 ∧ Xi S 904 103 < Xi S 904 69) (d : Nat) : ∀  (T33 : sS) (_ : HI T33) (_ : FR md_mo_actingMeant S T33), (Xi T33 979 (l).toNat = -1) → (Xi T33 981 (l).toNat = -1) → (Xi T33 982 (l).toNat = 0) → (Xi T33 904 116 = -1) → (Xi T33 904 106 = Xi S 904 106) → (Xi T33 904 70 = Xi S 904 70) → (Xi T33 904 102 = Xi S 904 102) → (Xi T33 904 103 = Xi S 904 103) → (Xi T33 904 69 = Xi S 904 69) → (KRL T33 S l) → Rl lay0 (d + 10) m_mo_actingMeant 33 [(0, .ref 904), (1, iv l)] [] T33 (Q_mo_actingMeant S n l) := by
  have C105 := c105_mo_actingMeant hH n l hl hT hv hM hB hC ha d 
  have C208 := c208_mo_actingMeant hH n l hl hT hv hM hB hC ha d 
  have hF : FR md_mo_actingMeant S S := FR.rf
  have w1 : 0 ≤ Xi S 904 102 ∧ Xi S 904 102 ≤ 2600 := hH.c _ _
  have w2 : -1 ≤ Xi S 904 103 ∧ Xi S 904 103 ≤ 2600 := hH.c _ _
  have w3 : 0 ≤ Xi S 904 106 ∧ Xi S 904 106 ≤ 9 := hH.c _ _
  have w4 : 0 ≤ Xi S 904 110 ∧ Xi S 904 110 ≤ 15 := hH.c _ _
  have w5 : 0 ≤ Xi S 904 112 ∧ Xi S 904 112 ≤ 6 := hH.c _ _
  have w6 : -1 ≤ Xi S 904 116 ∧ Xi S 904 116 ≤ 15 := hH.c _ _
  have w7 : 0 ≤ Xi S 904 128 ∧ Xi S 904 128 ≤ 11 := hH.c _ _
  have w8 : -1 ≤ Xi S 904 129 ∧ Xi S 904 129 ≤ 23 := hH.c _ _
  have w9 : 0 ≤ Xi S 904 16 ∧ Xi S 904 16 ≤ 16 := hH.c _ _
  have w10 : 0 ≤ Xi S 904 19 ∧ Xi S 904 19 ≤ 24 := hH.c _ _
  have w11 : 0 ≤ Xi S 904 49 ∧ Xi S 904 49 ≤ 12 := hH.c _ _
  have w12 : 0 ≤ Xi S 904 69 ∧ Xi S 904 69 ≤ 2600 := hH.c _ _
  have w13 : 0 ≤ Xi S 904 70 ∧ Xi S 904 70 ≤ 20 := hH.c _ _
  have hn5 := hT.1
  have hc69 : 0 ≤ Xi S 904 69 ∧ Xi S 904 69 ≤ 2600 := hH.c _ _
  have hc19 : 0 ≤ Xi S 904 19 ∧ Xi S 904 19 ≤ 24 := hH.c _ _
  have hc49 : 0 ≤ Xi S 904 49 ∧ Xi S 904 49 ≤ 12 := hH.c _ _
  have hc16 : 0 ≤ Xi S 904 16 ∧ Xi S 904 16 ≤ 16 := hH.c _ _
  have hrf : ∀ r : Int, 0 ≤ r → r < Xi S 904 69 → Xi S 950 r.toNat + Xi S 951 r.toNat ≤ n ∧ 1 ≤ Xi S 951 r.toNat := fun r a b => hv r.toNat (by omega)
  intro T33 hHT33 hFT33 w675 w676 w677 w678 w679 w680 w681 w682 w683 K33
  have w684 : Xi T33 904 102 = Xi S 904 102 := hFT33.x _ _ rfl
  have w685 : Xi T33 904 103 = Xi S 904 103 := hFT33.x _ _ rfl
  have w686 : Xi T33 904 16 = Xi S 904 16 := hFT33.x _ _ rfl
  have w687 : Xi T33 904 19 = Xi S 904 19 := hFT33.x _ _ rfl
  have w688 : Xi T33 904 49 = Xi S 904 49 := hFT33.x _ _ rfl
  have w689 : Xi T33 904 69 = Xi S 904 69 := hFT33.x _ _ rfl
  have w690 : Xi T33 904 70 = Xi S 904 70 := hFT33.x _ _ rfl
  have w691 : 0 ≤ Xi T33 904 102 ∧ Xi T33 904 102 ≤ 2600 := hHT33.c _ _
  have w692 : -1 ≤ Xi T33 904 103 ∧ Xi T33 904 103 ≤ 2600 := hHT33.c _ _
  have w693 : 0 ≤ Xi T33 904 106 ∧ Xi T33 904 106 ≤ 9 := hHT33.c _ _
  have w694 : -1 ≤ Xi T33 904 116 ∧ Xi T33 904 116 ≤ 15 := hHT33.c _ _
  have w695 : 0 ≤ Xi T33 904 69 ∧ Xi T33 904 69 ≤ 2600 := hHT33.c _ _
  have w696 : 0 ≤ Xi T33 904 70 ∧ Xi T33 904 70 ≤ 20 := hHT33.c _ _
  refine l_aload_n rfl rfl ?_
  refine l_gfi rfl rfl rfl rfl rfl ?_
  refine l_bipush rfl rfl ?_
  refine l_icmp_ne rfl rfl (by unfold rg; omega) (by unfold rg; omega) (fun w697 => ?_) (fun w698 => ?_)
  · refine l_aload_n rfl rfl ?_
    refine l_gfi rfl rfl rfl rfl rfl ?_
    refine l_istore_n rfl rfl rfl ?_
    refine l_aload_n rfl rfl ?_
    refine l_gfi rfl rfl rfl rfl rfl ?_
    refine l_iconst rfl ?_
    refine l_icmp_ne rfl rfl (by unfold rg; omega) (by unfold rg; omega) (fun w699 => ?_) (fun w700 => ?_)
    · refine l_aload_n rfl rfl ?_
      refine l_iload_n rfl rfl ?_
      refine l_bipush rfl rfl ?_
      refine l_callV rfl rfl rfl (t_mo_meansRun__2 hHT33 n (Xi T33 904 102) 11 ⟨by omega, by omega⟩ ⟨by omega, by omega⟩ (by first | assumption | exact (TK_FR hFT33 rfl (by assumption : TK S _))) (by first | assumption | exact (RNV_FR hFT33 rfl (by assumption : RNV S _))) (by first | assumption | omega) (by first | assumption | exact (LXM_FR hFT33 rfl (by assumption : LXM S))) _) ?_
      rintro _ _ ⟨rfl, z711, rfl, w711, w709, w710⟩
      show Rl _ _ _ _ _ [iv z711] _ _
      have x171 : z711 ≠ -1 → z711 < Xi S 904 49 := fun q => by have t := (by assumption : z711 ≠ -1 → z711 < cM T33 11) q; rw [cM11, hFT33.x 904 49 rfl] at t; exact t
      refine l_istore_n rfl rfl rfl ?_
      refine l_aload_n rfl rfl ?_
      refine l_gfi rfl rfl rfl rfl rfl ?_
      refine l_istore rfl rfl rfl ?_
      refine l_aload_n rfl rfl ?_
      refine l_iload_n rfl rfl ?_
      refine l_iconst rfl ?_
      refine l_icmp_eq rfl rfl (by unfold rg; omega) (by unfold rg; omega) (fun w712 => ?_) (fun w713 => ?_)
      · refine l_iconst rfl ?_
        refine l_iconst rfl ?_
        refine l_aload_n rfl rfl ?_
        refine l_gfr rfl rfl rfl rfl rfl (hHT33.r 904 67 950 rfl) ?_
        refine l_iload_n rfl rfl ?_
        refine l_iaload (n := 2600) rfl rfl (by omega) (by omega) (by unfold rg; omega) ?_
        have w714 : 0 ≤ (Xi T33 950 (((Xi T33 904 102)).toNat)) ∧ (Xi T33 950 (((Xi T33 904 102)).toNat)) ≤ 5010 := hHT33.c _ _
        have e198 : (Xi T33 950 (((Xi T33 904 102)).toNat)) ≤ n := by have t := hrf (Xi T33 904 102) (by omega) (by omega); first | (rw [(hFT33.cx 950 rfl _).1]; omega) | (rw [(hFT33.cx 950 rfl _).1]; omega) | (rw [(hFT33.cx 950 rfl _).1]; omega)
        refine l_callV rfl rfl rfl (t_mo_need hHT33 0 4 (Xi T33 950 (((Xi T33 904 102)).toNat)) ⟨by omega, by omega⟩ ⟨by omega, by omega⟩ ⟨by omega, by omega⟩ _) ?_
        rintro _ T34 ⟨hHT34, w726, rfl, w723, w724⟩
        have hFT34 : FR md_mo_actingMeant S T34 := FR.tr hFT33 w726 rfl
        show Rl _ _ _ _ _ [] _ _
        refine l_iload_n rfl rfl ?_
        refine l_iconst rfl ?_
        refine l_icmp_ne rfl rfl (by unfold rg; omega) (by unfold rg; omega) (fun w727 => ?_) (fun w728 => ?_)
        · have w729 : Xi T34 979 (l).toNat = Xi T33 979 (l).toNat := (show Xi T34 979 (l).toNat = Xi T33 979 (l).toNat from (w726.cx 979 rfl _).1)
          have w730 : Xi T34 981 (l).toNat = Xi T33 981 (l).toNat := (show Xi T34 981 (l).toNat = Xi T33 981 (l).toNat from (w726.cx 981 rfl _).1)
          have w731 : Xi T34 982 (l).toNat = Xi T33 982 (l).toNat := (show Xi T34 982 (l).toNat = Xi T33 982 (l).toNat from (w726.cx 982 rfl _).1)
          have w732 : Xi T34 904 102 = Xi T33 904 102 := (show Xi T34 904 102 = Xi T33 904 102 from w726.x _ _ rfl)
          have w734 : Xi T34 904 103 = Xi T33 904 103 := (show Xi T34 904 103 = Xi T33 904 103 from w726.x _ _ rfl)
          have w736 : 0 ≤ Xi T34 904 106 ∧ Xi T34 904 106 ≤ 9 := hHT34.c _ _
          have w737 : Xi T34 904 116 = Xi T33 904 116 := (show Xi T34 904 116 = Xi T33 904 116 from w726.x _ _ rfl)
          have w739 : Xi T34 904 128 = Xi T33 904 128 := (show Xi T34 904 128 = Xi T33 904 128 from w726.x _ _ rfl)
          have w740 : 0 ≤ Xi T33 904 128 ∧ Xi T33 904 128 ≤ 11 := hHT33.c _ _
          have w741 : Xi T34 904 129 = Xi T33 904 129 := (show Xi T34 904 129 = Xi T33 904 129 from w726.x _ _ rfl)
          have w742 : -1 ≤ Xi T33 904 129 ∧ Xi T33 904 129 ≤ 23 := hHT33.c _ _
          have w743 : Xi T34 904 69 = Xi T33 904 69 := (show Xi T34 904 69 = Xi T33 904 69 from w726.x _ _ rfl)
          have w745 : Xi T34 904 70 = Xi T33 904 70 := (show Xi T34 904 70 = Xi T33 904 70 from w726.x _ _ rfl)
          exact Rl_weak (C208 T34 hHT34 hFT34 (z711) ((Xi T33 904 103)) (by omega) (by omega) (by omega) (by omega) (by omega) (by omega) (by omega) (by omega) ((KRL_FR w726 rfl (by assumption : KRL T33 S _))) (by omega) (by omega)) (And.intro rfl (And.intro rfl (And.intro rfl (And.intro rfl (True.intro)))))
        · refine l_return rfl rfl ?_
          have w747 : Xi T34 979 (l).toNat = Xi T33 979 (l).toNat := (show Xi T34 979 (l).toNat = Xi T33 979 (l).toNat from (w726.cx 979 rfl _).1)
          have w748 : Xi T34 981 (l).toNat = Xi T33 981 (l).toNat := (show Xi T34 981 (l).toNat = Xi T33 981 (l).toNat from (w726.cx 981 rfl _).1)
          have w749 : Xi T34 982 (l).toNat = Xi T33 982 (l).toNat := (show Xi T34 982 (l).toNat = Xi T33 982 (l).toNat from (w726.cx 982 rfl _).1)
          have w750 : Xi T34 904 102 = Xi T33 904 102 := (show Xi T34 904 102 = Xi T33 904 102 from w726.x _ _ rfl)
          have w752 : Xi T34 904 103 = Xi T33 904 103 := (show Xi T34 904 103 = Xi T33 904 103 from w726.x _ _ rfl)
          have w754 : 0 ≤ Xi T34 904 106 ∧ Xi T34 904 106 ≤ 9 := hHT34.c _ _
          have w755 : Xi T34 904 116 = Xi T33 904 116 := (show Xi T34 904 116 = Xi T33 904 116 from w726.x _ _ rfl)
          have w757 : Xi T34 904 128 = Xi T33 904 128 := (show Xi T34 904 128 = Xi T33 904 128 from w726.x _ _ rfl)
          have w758 : 0 ≤ Xi T33 904 128 ∧ Xi T33 904 128 ≤ 11 := hHT33.c _ _
          have w759 : Xi T34 904 129 = Xi T33 904 129 := (show Xi T34 904 129 = Xi T33 904 129 from w726.x _ _ rfl)
          have w760 : -1 ≤ Xi T33 904 129 ∧ Xi T33 904 129 ≤ 23 := hHT33.c _ _
          have w761 : Xi T34 904 69 = Xi T33 904 69 := (show Xi T34 904 69 = Xi T33 904 69 from w726.x _ _ rfl)
          have w763 : Xi T34 904 70 = Xi T33 904 70 := (show Xi T34 904 70 = Xi T33 904 70 from w726.x _ _ rfl)
          exact ⟨hHT34, hFT34, rfl, (by omega), (by first | exact (fun _ => rz_1 (nm_i (S := S) (a := v3) (by omega) (by omega) (by omega) (fun j => (hFT34.cx 942 rfl j).1)) M457) M457 | exact rz_0 (by omega) (by omega)), (by omega), (by omega), (by first | exact fun x => absurd x (by omega) | exact fun x => nm_i (S := S) (a := v3) (by omega) (by omega) (by omega) (fun j => (hFT34.cx 942 rfl j).1) | exact fun x => (by have t := A105 (by omega); exact nm_i (S := S) (a := Xi T1 904 128) (by omega) t.1.1 (by first | exact t.2.2 (by omega) | exact m160 (by omega)) (fun j => (hFT34.cx 942 rfl j).1))), ((KRL_FR w726 rfl (by assumption : KRL T33 S _)))⟩
      · refine l_iconst rfl ?_
        refine l_goto rfl rfl ?_
        refine l_iconst rfl ?_
        refine l_aload_n rfl rfl ?_
        refine l_gfr rfl rfl rfl rfl rfl (hHT33.r 904 67 950 rfl) ?_
        refine l_iload_n rfl rfl ?_
        refine l_iaload (n := 2600) rfl rfl (by omega) (by omega) (by unfold rg; omega) ?_
        have w765 : 0 ≤ (Xi T33 950 (((Xi T33 904 102)).toNat)) ∧ (Xi T33 950 (((Xi T33 904 102)).toNat)) ≤ 5010 := hHT33.c _ _
        have e198 : (Xi T33 950 (((Xi T33 904 102)).toNat)) ≤ n := by have t := hrf (Xi T33 904 102) (by omega) (by omega); first | (rw [(hFT33.cx 950 rfl _).1]; omega) | (rw [(hFT33.cx 950 rfl _).1]; omega) | (rw [(hFT33.cx 950 rfl _).1]; omega)
        refine l_callV rfl rfl rfl (t_mo_need hHT33 1 4 (Xi T33 950 (((Xi T33 904 102)).toNat)) ⟨by omega, by omega⟩ ⟨by omega, by omega⟩ ⟨by omega, by omega⟩ _) ?_
        rintro _ T35 ⟨hHT35, w777, rfl, w774, w775⟩
        have hFT35 : FR md_mo_actingMeant S T35 := FR.tr hFT33 w777 rfl
        show Rl _ _ _ _ _ [] _ _
        refine l_iload_n rfl rfl ?_
        refine l_iconst rfl ?_
        refine l_icmp_ne rfl rfl (by unfold rg; omega) (by unfold rg; omega) (fun w778 => ?_) (fun w779 => ?_)
        · have w780 : Xi T35 979 (l).toNat = Xi T33 979 (l).toNat := (show Xi T35 979 (l).toNat = Xi T33 979 (l).toNat from (w777.cx 979 rfl _).1)
          have w781 : Xi T35 981 (l).toNat = Xi T33 981 (l).toNat := (show Xi T35 981 (l).toNat = Xi T33 981 (l).toNat from (w777.cx 981 rfl _).1)
          have w782 : Xi T35 982 (l).toNat = Xi T33 982 (l).toNat := (show Xi T35 982 (l).toNat = Xi T33 982 (l).toNat from (w777.cx 982 rfl _).1)
          have w783 : Xi T35 904 102 = Xi T33 904 102 := (show Xi T35 904 102 = Xi T33 904 102 from w777.x _ _ rfl)
          have w785 : Xi T35 904 103 = Xi T33 904 103 := (show Xi T35 904 103 = Xi T33 904 103 from w777.x _ _ rfl)
          have w787 : 0 ≤ Xi T35 904 106 ∧ Xi T35 904 106 ≤ 9 := hHT35.c _ _
          have w788 : Xi T35 904 116 = Xi T33 904 116 := (show Xi T35 904 116 = Xi T33 904 116 from w777.x _ _ rfl)
          have w790 : Xi T35 904 128 = Xi T33 904 128 := (show Xi T35 904 128 = Xi T33 904 128 from w777.x _ _ rfl)
          have w791 : 0 ≤ Xi T33 904 128 ∧ Xi T33 904 128 ≤ 11 := hHT33.c _ _
          have w792 : Xi T35 904 129 = Xi T33 904 129 := (show Xi T35 904 129 = Xi T33 904 129 from w777.x _ _ rfl)
          have w793 : -1 ≤ Xi T33 904 129 ∧ Xi T33 904 129 ≤ 23 := hHT33.c _ _
          have w794 : Xi T35 904 69 = Xi T33 904 69 := (show Xi T35 904 69 = Xi T33 904 69 from w777.x _ _ rfl)
          have w796 : Xi T35 904 70 = Xi T33 904 70 := (show Xi T35 904 70 = Xi T33 904 70 from w777.x _ _ rfl)
          exact Rl_weak (C208 T35 hHT35 hFT35 (z711) ((Xi T33 904 103)) (by omega) (by omega) (by omega) (by omega) (by omega) (by omega) (by omega) (by omega) ((KRL_FR w777 rfl (by assumption : KRL T33 S _))) (by omega) (by omega)) (And.intro rfl (And.intro rfl (And.intro rfl (And.intro rfl (True.intro)))))
        · refine l_return rfl rfl ?_
          have w798 : Xi T35 979 (l).toNat = Xi T33 979 (l).toNat := (show Xi T35 979 (l).toNat = Xi T33 979 (l).toNat from (w777.cx 979 rfl _).1)
          have w799 : Xi T35 981 (l).toNat = Xi T33 981 (l).toNat := (show Xi T35 981 (l).toNat = Xi T33 981 (l).toNat from (w777.cx 981 rfl _).1)
          have w800 : Xi T35 982 (l).toNat = Xi T33 982 (l).toNat := (show Xi T35 982 (l).toNat = Xi T33 982 (l).toNat from (w777.cx 982 rfl _).1)
          have w801 : Xi T35 904 102 = Xi T33 904 102 := (show Xi T35 904 102 = Xi T33 904 102 from w777.x _ _ rfl)
          have w803 : Xi T35 904 103 = Xi T33 904 103 := (show Xi T35 904 103 = Xi T33 904 103 from w777.x _ _ rfl)
          have w805 : 0 ≤ Xi T35 904 106 ∧ Xi T35 904 106 ≤ 9 := hHT35.c _ _
          have w806 : Xi T35 904 116 = Xi T33 904 116 := (show Xi T35 904 116 = Xi T33 904 116 from w777.x _ _ rfl)
          have w808 : Xi T35 904 128 = Xi T33 904 128 := (show Xi T35 904 128 = Xi T33 904 128 from w777.x _ _ rfl)
          have w809 : 0 ≤ Xi T33 904 128 ∧ Xi T33 904 128 ≤ 11 := hHT33.c _ _
          have w810 : Xi T35 904 129 = Xi T33 904 129 := (show Xi T35 904 129 = Xi T33 904 129 from w777.x _ _ rfl)
          have w811 : -1 ≤ Xi T33 904 129 ∧ Xi T33 904 129 ≤ 23 := hHT33.c _ _
          have w812 : Xi T35 904 69 = Xi T33 904 69 := (show Xi T35 904 69 = Xi T33 904 69 from w777.x _ _ rfl)
          have w814 : Xi T35 904 70 = Xi T33 904 70 := (show Xi T35 904 70 = Xi T33 904 70 from w777.x _ _ rfl)
          exact ⟨hHT35, hFT35, rfl, (by omega), (by first | exact (fun _ => rz_1 (nm_i (S := S) (a := v3) (by omega) (by omega) (by omega) (fun j => (hFT35.cx 942 rfl j).1)) M457) M457 | exact rz_0 (by omega) (by omega)), (by omega), (by omega), (by first | exact fun x => absurd x (by omega) | exact fun x => nm_i (S := S) (a := v3) (by omega) (by omega) (by omega) (fun j => (hFT35.cx 942 rfl j).1) | exact fun x => (by have t := A105 (by omega); exact nm_i (S := S) (a := Xi T1 904 128) (by omega) t.1.1 (by first | exact t.2.2 (by omega) | exact m160 (by omega)) (fun j => (hFT35.cx 942 rfl j).1))), ((KRL_FR w777 rfl (by assumption : KRL T33 S _)))⟩
    · refine l_aload_n rfl rfl ?_
      refine l_iload_n rfl rfl ?_
      refine l_iconst rfl ?_
      have w820 : 0 ≤ Xi T33 904 128 ∧ Xi T33 904 128 ≤ 11 := hHT33.c _ _
      have w821 : -1 ≤ Xi T33 904 129 ∧ Xi T33 904 129 ≤ 23 := hHT33.c _ _
      have w822 : 0 ≤ Xi T33 904 19 ∧ Xi T33 904 19 ≤ 24 := hHT33.c _ _
      have w823 : 0 ≤ Xi T33 904 49 ∧ Xi T33 904 49 ≤ 12 := hHT33.c _ _
      refine l_callV rfl rfl rfl (t_mo_actings hHT33 n (Xi T33 904 102) 0 ⟨by omega, by omega⟩ ⟨by omega, by omega⟩ (by first | assumption | exact (TK_FR hFT33 rfl (by assumption : TK S _))) (by first | assumption | exact (RNV_FR hFT33 rfl (by assumption : RNV S _))) (by first | assumption | omega) (by first | assumption | exact (LXM_FR hFT33 rfl (by assumption : LXM S))) (by first | assumption | exact (ABV_FR hFT33 rfl (by assumption : ABV S))) _) ?_
      rintro _ T36 ⟨hHT36, w828, z827, rfl, w827, w826⟩
      have hFT36 : FR md_mo_actingMeant S T36 := FR.tr hFT33 w828 rfl
      show Rl _ _ _ _ _ [iv z827] _ _
      have A59 : 1 ≤ z827 → (0 ≤ Xi T36 904 128 ∧ Xi T36 904 128 < Xi S 904 49) ∧ Xi T36 904 129 < Xi S 904 19 ∧ (Xi T36 904 129 ≠ -1 → 0 ≤ Xi S 942 (Xi T36 904 128).toNat) := fun x => by have t := (by assumption : 1 ≤ z827 → _) x; rw [hFT33.x 904 49 rfl, hFT33.x 904 19 rfl, (hFT33.cx 942 rfl _).1] at t; exact ⟨t.1, t.2.1, t.2.2.1⟩
      refine l_istore_n rfl rfl rfl ?_
      refine l_aload_n rfl rfl ?_
      refine l_iload_n rfl rfl ?_
      refine l_if_le rfl rfl (by unfold rg; omega) (fun w829 => ?_) (fun w830 => ?_)
      · refine l_iconst rfl ?_
        refine l_iconst rfl ?_
        refine l_aload_n rfl rfl ?_
        refine l_gfr rfl rfl rfl rfl rfl (hHT36.r 904 67 950 rfl) ?_
        refine l_iload_n rfl rfl ?_
        refine l_iaload (n := 2600) rfl rfl (by omega) (by omega) (by unfold rg; omega) ?_
        have w831 : 0 ≤ (Xi T36 950 (((Xi T33 904 102)).toNat)) ∧ (Xi T36 950 (((Xi T33 904 102)).toNat)) ≤ 5010 := hHT36.c _ _
        have e79 : (Xi T36 950 (((Xi T33 904 102)).toNat)) ≤ n := by have t := hrf (Xi T33 904 102) (by omega) (by omega); first | (rw [(hFT36.cx 950 rfl _).1]; omega) | (rw [(hFT33.cx 950 rfl _).1]; omega) | (rw [(hFT33.cx 950 rfl _).1]; omega)
        have w832 : Xi T36 904 102 = Xi T33 904 102 := (show Xi T36 904 102 = Xi T33 904 102 from w828.x _ _ rfl)
        have w836 : Xi T36 904 106 = Xi T33 904 106 := (show Xi T36 904 106 = Xi T33 904 106 from w828.x _ _ rfl)
        refine l_callV rfl rfl rfl (t_mo_need hHT36 0 4 (Xi T36 950 (((Xi T33 904 102)).toNat)) ⟨by omega, by omega⟩ ⟨by omega, by omega⟩ ⟨by omega, by omega⟩ _) ?_
        rintro _ T37 ⟨hHT37, w849, rfl, w846, w847⟩
        have hFT37 : FR md_mo_actingMeant S T37 := FR.tr hFT36 w849 rfl
        show Rl _ _ _ _ _ [] _ _
        refine l_aload_n rfl rfl ?_
        refine l_iload_n rfl rfl ?_
        refine l_iconst rfl ?_
        refine l_icmp_ge rfl rfl (by unfold rg; omega) (by unfold rg; omega) (fun w850 => ?_) (fun w851 => ?_)
        · refine l_iconst rfl ?_
          refine l_bipush rfl rfl ?_
          refine l_aload_n rfl rfl ?_
          refine l_gfr rfl rfl rfl rfl rfl (hHT37.r 904 67 950 rfl) ?_
          refine l_iload_n rfl rfl ?_
          refine l_iaload (n := 2600) rfl rfl (by omega) (by omega) (by unfold rg; omega) ?_
          have w852 : (Xi T37 950 (((Xi T33 904 102)).toNat)) = (Xi T36 950 (((Xi T33 904 102)).toNat)) := (show Xi T37 950 (((Xi T33 904 102)).toNat) = Xi T36 950 (((Xi T33 904 102)).toNat) from w849.x _ _ rfl)
          rw [w852]
          have e101 : (Xi T36 950 (((Xi T33 904 102)).toNat)) ≤ n := by have t := hrf (Xi T33 904 102) (by omega) (by omega); first | (rw [(hFT37.cx 950 rfl _).1]; omega) | (rw [(hFT36.cx 950 rfl _).1]; omega) | (rw [(hFT33.cx 950 rfl _).1]; omega)
          have w853 : Xi T37 904 102 = Xi T33 904 102 := (show Xi T37 904 102 = Xi T36 904 102 from w849.x _ _ rfl).trans ((show Xi T36 904 102 = Xi T33 904 102 from w828.x _ _ rfl))
          have w857 : 0 ≤ Xi T37 904 106 ∧ Xi T37 904 106 ≤ 9 := hHT37.c _ _
          refine l_callV rfl rfl rfl (t_mo_need hHT37 0 7 (Xi T36 950 (((Xi T33 904 102)).toNat)) ⟨by omega, by omega⟩ ⟨by omega, by omega⟩ ⟨by omega, by omega⟩ _) ?_
          rintro _ T38 ⟨hHT38, w871, rfl, w868, w869⟩
          have hFT38 : FR md_mo_actingMeant S T38 := FR.tr hFT37 w871 rfl
          show Rl _ _ _ _ _ [] _ _
          have w872 : Xi T38 979 (l).toNat = Xi T33 979 (l).toNat := (show Xi T38 979 (l).toNat = Xi T37 979 (l).toNat from (w871.cx 979 rfl _).1).trans ( (show Xi T37 979 (l).toNat = Xi T36 979 (l).toNat from (w849.cx 979 rfl _).1).trans ((show Xi T36 979 (l).toNat = Xi T33 979 (l).toNat from (w828.cx 979 rfl _).1)))
          have w873 : Xi T38 981 (l).toNat = Xi T33 981 (l).toNat := (show Xi T38 981 (l).toNat = Xi T37 981 (l).toNat from (w871.cx 981 rfl _).1).trans ( (show Xi T37 981 (l).toNat = Xi T36 981 (l).toNat from (w849.cx 981 rfl _).1).trans ((show Xi T36 981 (l).toNat = Xi T33 981 (l).toNat from (w828.cx 981 rfl _).1)))
          have w874 : Xi T38 982 (l).toNat = Xi T33 982 (l).toNat := (show Xi T38 982 (l).toNat = Xi T37 982 (l).toNat from (w871.cx 982 rfl _).1).trans ( (show Xi T37 982 (l).toNat = Xi T36 982 (l).toNat from (w849.cx 982 rfl _).1).trans ((show Xi T36 982 (l).toNat = Xi T33 982 (l).toNat from (w828.cx 982 rfl _).1)))
          have w875 : Xi T38 904 102 = Xi T33 904 102 := (show Xi T38 904 102 = Xi T37 904 102 from w871.x _ _ rfl).trans ( (show Xi T37 904 102 = Xi T36 904 102 from w849.x _ _ rfl).trans ((show Xi T36 904 102 = Xi T33 904 102 from w828.x _ _ rfl)))
          have w877 : Xi T38 904 103 = Xi T33 904 103 := (show Xi T38 904 103 = Xi T37 904 103 from w871.x _ _ rfl).trans ( (show Xi T37 904 103 = Xi T36 904 103 from w849.x _ _ rfl).trans ((show Xi T36 904 103 = Xi T33 904 103 from w828.x _ _ rfl)))
          have w879 : 0 ≤ Xi T38 904 106 ∧ Xi T38 904 106 ≤ 9 := hHT38.c _ _
          have w880 : Xi T38 904 116 = Xi T33 904 116 := (show Xi T38 904 116 = Xi T37 904 116 from w871.x _ _ rfl).trans ( (show Xi T37 904 116 = Xi T36 904 116 from w849.x _ _ rfl).trans ((show Xi T36 904 116 = Xi T33 904 116 from w828.x _ _ rfl)))
          have w882 : Xi T38 904 128 = Xi T36 904 128 := (show Xi T38 904 128 = Xi T37 904 128 from w871.x _ _ rfl).trans ((show Xi T37 904 128 = Xi T36 904 128 from w849.x _ _ rfl))
          have w883 : 0 ≤ Xi T36 904 128 ∧ Xi T36 904 128 ≤ 11 := hHT36.c _ _
          have w884 : Xi T38 904 129 = Xi T36 904 129 := (show Xi T38 904 129 = Xi T37 904 129 from w871.x _ _ rfl).trans ((show Xi T37 904 129 = Xi T36 904 129 from w849.x _ _ rfl))
          have w885 : -1 ≤ Xi T36 904 129 ∧ Xi T36 904 129 ≤ 23 := hHT36.c _ _
          have w886 : Xi T38 904 69 = Xi T33 904 69 := (show Xi T38 904 69 = Xi T37 904 69 from w871.x _ _ rfl).trans ( (show Xi T37 904 69 = Xi T36 904 69 from w849.x _ _ rfl).trans ((show Xi T36 904 69 = Xi T33 904 69 from w828.x _ _ rfl)))
          have w888 : Xi T38 904 70 = Xi T33 904 70 := (show Xi T38 904 70 = Xi T37 904 70 from w871.x _ _ rfl).trans ( (show Xi T37 904 70 = Xi T36 904 70 from w849.x _ _ rfl).trans ((show Xi T36 904 70 = Xi T33 904 70 from w828.x _ _ rfl)))
          exact Rl_weak (C105 T38 hHT38 hFT38 (z827) (by omega) (by omega) (by omega) (by omega) (by omega) (by omega) (by omega) ((KRL_FR w871 rfl (KRL_FR w849 rfl (KRL_FR w828 rfl (by assumption : KRL T33 S _))))) (fun x => by rw [show Xi T38 904 128 = Xi T36 904 128 by omega, show Xi T38 904 129 = Xi T36 904 129 by omega]; exact A59 x)) (And.intro rfl (And.intro rfl (And.intro rfl (True.intro))))
        · refine l_iconst rfl ?_
          refine l_goto rfl rfl ?_
          refine l_bipush rfl rfl ?_
          refine l_aload_n rfl rfl ?_
          refine l_gfr rfl rfl rfl rfl rfl (hHT37.r 904 67 950 rfl) ?_
          refine l_iload_n rfl rfl ?_
          refine l_iaload (n := 2600) rfl rfl (by omega) (by omega) (by unfold rg; omega) ?_
          have w890 : (Xi T37 950 (((Xi T33 904 102)).toNat)) = (Xi T36 950 (((Xi T33 904 102)).toNat)) := (show Xi T37 950 (((Xi T33 904 102)).toNat) = Xi T36 950 (((Xi T33 904 102)).toNat) from w849.x _ _ rfl)
          rw [w890]
          have e101 : (Xi T36 950 (((Xi T33 904 102)).toNat)) ≤ n := by have t := hrf (Xi T33 904 102) (by omega) (by omega); first | (rw [(hFT37.cx 950 rfl _).1]; omega) | (rw [(hFT36.cx 950 rfl _).1]; omega) | (rw [(hFT33.cx 950 rfl _).1]; omega)
          have w891 : Xi T37 904 102 = Xi T33 904 102 := (show Xi T37 904 102 = Xi T36 904 102 from w849.x _ _ rfl).trans ((show Xi T36 904 102 = Xi T33 904 102 from w828.x _ _ rfl))
          have w895 : 0 ≤ Xi T37 904 106 ∧ Xi T37 904 106 ≤ 9 := hHT37.c _ _
          refine l_callV rfl rfl rfl (t_mo_need hHT37 1 7 (Xi T36 950 (((Xi T33 904 102)).toNat)) ⟨by omega, by omega⟩ ⟨by omega, by omega⟩ ⟨by omega, by omega⟩ _) ?_
          rintro _ T39 ⟨hHT39, w909, rfl, w906, w907⟩
          have hFT39 : FR md_mo_actingMeant S T39 := FR.tr hFT37 w909 rfl
          show Rl _ _ _ _ _ [] _ _
          have w910 : Xi T39 979 (l).toNat = Xi T33 979 (l).toNat := (show Xi T39 979 (l).toNat = Xi T37 979 (l).toNat from (w909.cx 979 rfl _).1).trans ( (show Xi T37 979 (l).toNat = Xi T36 979 (l).toNat from (w849.cx 979 rfl _).1).trans ((show Xi T36 979 (l).toNat = Xi T33 979 (l).toNat from (w828.cx 979 rfl _).1)))
          have w911 : Xi T39 981 (l).toNat = Xi T33 981 (l).toNat := (show Xi T39 981 (l).toNat = Xi T37 981 (l).toNat from (w909.cx 981 rfl _).1).trans ( (show Xi T37 981 (l).toNat = Xi T36 981 (l).toNat from (w849.cx 981 rfl _).1).trans ((show Xi T36 981 (l).toNat = Xi T33 981 (l).toNat from (w828.cx 981 rfl _).1)))
          have w912 : Xi T39 982 (l).toNat = Xi T33 982 (l).toNat := (show Xi T39 982 (l).toNat = Xi T37 982 (l).toNat from (w909.cx 982 rfl _).1).trans ( (show Xi T37 982 (l).toNat = Xi T36 982 (l).toNat from (w849.cx 982 rfl _).1).trans ((show Xi T36 982 (l).toNat = Xi T33 982 (l).toNat from (w828.cx 982 rfl _).1)))
          have w913 : Xi T39 904 102 = Xi T33 904 102 := (show Xi T39 904 102 = Xi T37 904 102 from w909.x _ _ rfl).trans ( (show Xi T37 904 102 = Xi T36 904 102 from w849.x _ _ rfl).trans ((show Xi T36 904 102 = Xi T33 904 102 from w828.x _ _ rfl)))
          have w915 : Xi T39 904 103 = Xi T33 904 103 := (show Xi T39 904 103 = Xi T37 904 103 from w909.x _ _ rfl).trans ( (show Xi T37 904 103 = Xi T36 904 103 from w849.x _ _ rfl).trans ((show Xi T36 904 103 = Xi T33 904 103 from w828.x _ _ rfl)))
          have w917 : 0 ≤ Xi T39 904 106 ∧ Xi T39 904 106 ≤ 9 := hHT39.c _ _
          have w918 : Xi T39 904 116 = Xi T33 904 116 := (show Xi T39 904 116 = Xi T37 904 116 from w909.x _ _ rfl).trans ( (show Xi T37 904 116 = Xi T36 904 116 from w849.x _ _ rfl).trans ((show Xi T36 904 116 = Xi T33 904 116 from w828.x _ _ rfl)))
          have w920 : Xi T39 904 128 = Xi T36 904 128 := (show Xi T39 904 128 = Xi T37 904 128 from w909.x _ _ rfl).trans ((show Xi T37 904 128 = Xi T36 904 128 from w849.x _ _ rfl))
          have w921 : 0 ≤ Xi T36 904 128 ∧ Xi T36 904 128 ≤ 11 := hHT36.c _ _
          have w922 : Xi T39 904 129 = Xi T36 904 129 := (show Xi T39 904 129 = Xi T37 904 129 from w909.x _ _ rfl).trans ((show Xi T37 904 129 = Xi T36 904 129 from w849.x _ _ rfl))
          have w923 : -1 ≤ Xi T36 904 129 ∧ Xi T36 904 129 ≤ 23 := hHT36.c _ _
          have w924 : Xi T39 904 69 = Xi T33 904 69 := (show Xi T39 904 69 = Xi T37 904 69 from w909.x _ _ rfl).trans ( (show Xi T37 904 69 = Xi T36 904 69 from w849.x _ _ rfl).trans ((show Xi T36 904 69 = Xi T33 904 69 from w828.x _ _ rfl)))
          have w926 : Xi T39 904 70 = Xi T33 904 70 := (show Xi T39 904 70 = Xi T37 904 70 from w909.x _ _ rfl).trans ( (show Xi T37 904 70 = Xi T36 904 70 from w849.x _ _ rfl).trans ((show Xi T36 904 70 = Xi T33 904 70 from w828.x _ _ rfl)))
          exact Rl_weak (C105 T39 hHT39 hFT39 (z827) (by omega) (by omega) (by omega) (by omega) (by omega) (by omega) (by omega) ((KRL_FR w909 rfl (KRL_FR w849 rfl (KRL_FR w828 rfl (by assumption : KRL T33 S _))))) (fun x => by rw [show Xi T39 904 128 = Xi T36 904 128 by omega, show Xi T39 904 129 = Xi T36 904 129 by omega]; exact A59 x)) (And.intro rfl (And.intro rfl (And.intro rfl (True.intro))))
      · refine l_iconst rfl ?_
        refine l_goto rfl rfl ?_
        refine l_iconst rfl ?_
        refine l_aload_n rfl rfl ?_
        refine l_gfr rfl rfl rfl rfl rfl (hHT36.r 904 67 950 rfl) ?_
        refine l_iload_n rfl rfl ?_
        refine l_iaload (n := 2600) rfl rfl (by omega) (by omega) (by unfold rg; omega) ?_
        have w928 : 0 ≤ (Xi T36 950 (((Xi T33 904 102)).toNat)) ∧ (Xi T36 950 (((Xi T33 904 102)).toNat)) ≤ 5010 := hHT36.c _ _
        have e79 : (Xi T36 950 (((Xi T33 904 102)).toNat)) ≤ n := by have t := hrf (Xi T33 904 102) (by omega) (by omega); first | (rw [(hFT36.cx 950 rfl _).1]; omega) | (rw [(hFT33.cx 950 rfl _).1]; omega) | (rw [(hFT33.cx 950 rfl _).1]; omega)
        have w929 : Xi T36 904 102 = Xi T33 904 102 := (show Xi T36 904 102 = Xi T33 904 102 from w828.x _ _ rfl)
        have w933 : Xi T36 904 106 = Xi T33 904 106 := (show Xi T36 904 106 = Xi T33 904 106 from w828.x _ _ rfl)
        refine l_callV rfl rfl rfl (t_mo_need hHT36 1 4 (Xi T36 950 (((Xi T33 904 102)).toNat)) ⟨by omega, by omega⟩ ⟨by omega, by omega⟩ ⟨by omega, by omega⟩ _) ?_
        rintro _ T40 ⟨hHT40, w946, rfl, w943, w944⟩
        have hFT40 : FR md_mo_actingMeant S T40 := FR.tr hFT36 w946 rfl
        show Rl _ _ _ _ _ [] _ _
        refine l_aload_n rfl rfl ?_
        refine l_iload_n rfl rfl ?_
        refine l_iconst rfl ?_
        refine l_icmp_ge rfl rfl (by unfold rg; omega) (by unfold rg; omega) (fun w947 => ?_) (fun w948 => ?_)
        · refine l_iconst rfl ?_
          refine l_bipush rfl rfl ?_
          refine l_aload_n rfl rfl ?_
          refine l_gfr rfl rfl rfl rfl rfl (hHT40.r 904 67 950 rfl) ?_
          refine l_iload_n rfl rfl ?_
          refine l_iaload (n := 2600) rfl rfl (by omega) (by omega) (by unfold rg; omega) ?_
          have w949 : (Xi T40 950 (((Xi T33 904 102)).toNat)) = (Xi T36 950 (((Xi T33 904 102)).toNat)) := (show Xi T40 950 (((Xi T33 904 102)).toNat) = Xi T36 950 (((Xi T33 904 102)).toNat) from w946.x _ _ rfl)
          rw [w949]
          have e101 : (Xi T36 950 (((Xi T33 904 102)).toNat)) ≤ n := by have t := hrf (Xi T33 904 102) (by omega) (by omega); first | (rw [(hFT40.cx 950 rfl _).1]; omega) | (rw [(hFT36.cx 950 rfl _).1]; omega) | (rw [(hFT33.cx 950 rfl _).1]; omega)
          have w950 : Xi T40 904 102 = Xi T33 904 102 := (show Xi T40 904 102 = Xi T36 904 102 from w946.x _ _ rfl).trans ((show Xi T36 904 102 = Xi T33 904 102 from w828.x _ _ rfl))
          have w954 : 0 ≤ Xi T40 904 106 ∧ Xi T40 904 106 ≤ 9 := hHT40.c _ _
          refine l_callV rfl rfl rfl (t_mo_need hHT40 0 7 (Xi T36 950 (((Xi T33 904 102)).toNat)) ⟨by omega, by omega⟩ ⟨by omega, by omega⟩ ⟨by omega, by omega⟩ _) ?_
          rintro _ T41 ⟨hHT41, w968, rfl, w965, w966⟩
          have hFT41 : FR md_mo_actingMeant S T41 := FR.tr hFT40 w968 rfl
          show Rl _ _ _ _ _ [] _ _
          have w969 : Xi T41 979 (l).toNat = Xi T33 979 (l).toNat := (show Xi T41 979 (l).toNat = Xi T40 979 (l).toNat from (w968.cx 979 rfl _).1).trans ( (show Xi T40 979 (l).toNat = Xi T36 979 (l).toNat from (w946.cx 979 rfl _).1).trans ((show Xi T36 979 (l).toNat = Xi T33 979 (l).toNat from (w828.cx 979 rfl _).1)))
          have w970 : Xi T41 981 (l).toNat = Xi T33 981 (l).toNat := (show Xi T41 981 (l).toNat = Xi T40 981 (l).toNat from (w968.cx 981 rfl _).1).trans ( (show Xi T40 981 (l).toNat = Xi T36 981 (l).toNat from (w946.cx 981 rfl _).1).trans ((show Xi T36 981 (l).toNat = Xi T33 981 (l).toNat from (w828.cx 981 rfl _).1)))
          have w971 : Xi T41 982 (l).toNat = Xi T33 982 (l).toNat := (show Xi T41 982 (l).toNat = Xi T40 982 (l).toNat from (w968.cx 982 rfl _).1).trans ( (show Xi T40 982 (l).toNat = Xi T36 982 (l).toNat from (w946.cx 982 rfl _).1).trans ((show Xi T36 982 (l).toNat = Xi T33 982 (l).toNat from (w828.cx 982 rfl _).1)))
          have w972 : Xi T41 904 102 = Xi T33 904 102 := (show Xi T41 904 102 = Xi T40 904 102 from w968.x _ _ rfl).trans ( (show Xi T40 904 102 = Xi T36 904 102 from w946.x _ _ rfl).trans ((show Xi T36 904 102 = Xi T33 904 102 from w828.x _ _ rfl)))
          have w974 : Xi T41 904 103 = Xi T33 904 103 := (show Xi T41 904 103 = Xi T40 904 103 from w968.x _ _ rfl).trans ( (show Xi T40 904 103 = Xi T36 904 103 from w946.x _ _ rfl).trans ((show Xi T36 904 103 = Xi T33 904 103 from w828.x _ _ rfl)))
          have w976 : 0 ≤ Xi T41 904 106 ∧ Xi T41 904 106 ≤ 9 := hHT41.c _ _
          have w977 : Xi T41 904 116 = Xi T33 904 116 := (show Xi T41 904 116 = Xi T40 904 116 from w968.x _ _ rfl).trans ( (show Xi T40 904 116 = Xi T36 904 116 from w946.x _ _ rfl).trans ((show Xi T36 904 116 = Xi T33 904 116 from w828.x _ _ rfl)))
          have w979 : Xi T41 904 128 = Xi T36 904 128 := (show Xi T41 904 128 = Xi T40 904 128 from w968.x _ _ rfl).trans ((show Xi T40 904 128 = Xi T36 904 128 from w946.x _ _ rfl))
          have w980 : 0 ≤ Xi T36 904 128 ∧ Xi T36 904 128 ≤ 11 := hHT36.c _ _
          have w981 : Xi T41 904 129 = Xi T36 904 129 := (show Xi T41 904 129 = Xi T40 904 129 from w968.x _ _ rfl).trans ((show Xi T40 904 129 = Xi T36 904 129 from w946.x _ _ rfl))
          have w982 : -1 ≤ Xi T36 904 129 ∧ Xi T36 904 129 ≤ 23 := hHT36.c _ _
          have w983 : Xi T41 904 69 = Xi T33 904 69 := (show Xi T41 904 69 = Xi T40 904 69 from w968.x _ _ rfl).trans ( (show Xi T40 904 69 = Xi T36 904 69 from w946.x _ _ rfl).trans ((show Xi T36 904 69 = Xi T33 904 69 from w828.x _ _ rfl)))
          have w985 : Xi T41 904 70 = Xi T33 904 70 := (show Xi T41 904 70 = Xi T40 904 70 from w968.x _ _ rfl).trans ( (show Xi T40 904 70 = Xi T36 904 70 from w946.x _ _ rfl).trans ((show Xi T36 904 70 = Xi T33 904 70 from w828.x _ _ rfl)))
          exact Rl_weak (C105 T41 hHT41 hFT41 (z827) (by omega) (by omega) (by omega) (by omega) (by omega) (by omega) (by omega) ((KRL_FR w968 rfl (KRL_FR w946 rfl (KRL_FR w828 rfl (by assumption : KRL T33 S _))))) (fun x => by rw [show Xi T41 904 128 = Xi T36 904 128 by omega, show Xi T41 904 129 = Xi T36 904 129 by omega]; exact A59 x)) (And.intro rfl (And.intro rfl (And.intro rfl (True.intro))))
        · refine l_iconst rfl ?_
          refine l_goto rfl rfl ?_
          refine l_bipush rfl rfl ?_
          refine l_aload_n rfl rfl ?_
          refine l_gfr rfl rfl rfl rfl rfl (hHT40.r 904 67 950 rfl) ?_
          refine l_iload_n rfl rfl ?_
          refine l_iaload (n := 2600) rfl rfl (by omega) (by omega) (by unfold rg; omega) ?_
          have w987 : (Xi T40 950 (((Xi T33 904 102)).toNat)) = (Xi T36 950 (((Xi T33 904 102)).toNat)) := (show Xi T40 950 (((Xi T33 904 102)).toNat) = Xi T36 950 (((Xi T33 904 102)).toNat) from w946.x _ _ rfl)
          rw [w987]
          have e101 : (Xi T36 950 (((Xi T33 904 102)).toNat)) ≤ n := by have t := hrf (Xi T33 904 102) (by omega) (by omega); first | (rw [(hFT40.cx 950 rfl _).1]; omega) | (rw [(hFT36.cx 950 rfl _).1]; omega) | (rw [(hFT33.cx 950 rfl _).1]; omega)
          have w988 : Xi T40 904 102 = Xi T33 904 102 := (show Xi T40 904 102 = Xi T36 904 102 from w946.x _ _ rfl).trans ((show Xi T36 904 102 = Xi T33 904 102 from w828.x _ _ rfl))
          have w992 : 0 ≤ Xi T40 904 106 ∧ Xi T40 904 106 ≤ 9 := hHT40.c _ _
          refine l_callV rfl rfl rfl (t_mo_need hHT40 1 7 (Xi T36 950 (((Xi T33 904 102)).toNat)) ⟨by omega, by omega⟩ ⟨by omega, by omega⟩ ⟨by omega, by omega⟩ _) ?_
          rintro _ T42 ⟨hHT42, w1006, rfl, w1003, w1004⟩
          have hFT42 : FR md_mo_actingMeant S T42 := FR.tr hFT40 w1006 rfl
          show Rl _ _ _ _ _ [] _ _
          have w1007 : Xi T42 979 (l).toNat = Xi T33 979 (l).toNat := (show Xi T42 979 (l).toNat = Xi T40 979 (l).toNat from (w1006.cx 979 rfl _).1).trans ( (show Xi T40 979 (l).toNat = Xi T36 979 (l).toNat from (w946.cx 979 rfl _).1).trans ((show Xi T36 979 (l).toNat = Xi T33 979 (l).toNat from (w828.cx 979 rfl _).1)))
          have w1008 : Xi T42 981 (l).toNat = Xi T33 981 (l).toNat := (show Xi T42 981 (l).toNat = Xi T40 981 (l).toNat from (w1006.cx 981 rfl _).1).trans ( (show Xi T40 981 (l).toNat = Xi T36 981 (l).toNat from (w946.cx 981 rfl _).1).trans ((show Xi T36 981 (l).toNat = Xi T33 981 (l).toNat from (w828.cx 981 rfl _).1)))
          have w1009 : Xi T42 982 (l).toNat = Xi T33 982 (l).toNat := (show Xi T42 982 (l).toNat = Xi T40 982 (l).toNat from (w1006.cx 982 rfl _).1).trans ( (show Xi T40 982 (l).toNat = Xi T36 982 (l).toNat from (w946.cx 982 rfl _).1).trans ((show Xi T36 982 (l).toNat = Xi T33 982 (l).toNat from (w828.cx 982 rfl _).1)))
          have w1010 : Xi T42 904 102 = Xi T33 904 102 := (show Xi T42 904 102 = Xi T40 904 102 from w1006.x _ _ rfl).trans ( (show Xi T40 904 102 = Xi T36 904 102 from w946.x _ _ rfl).trans ((show Xi T36 904 102 = Xi T33 904 102 from w828.x _ _ rfl)))
          have w1012 : Xi T42 904 103 = Xi T33 904 103 := (show Xi T42 904 103 = Xi T40 904 103 from w1006.x _ _ rfl).trans ( (show Xi T40 904 103 = Xi T36 904 103 from w946.x _ _ rfl).trans ((show Xi T36 904 103 = Xi T33 904 103 from w828.x _ _ rfl)))
          have w1014 : 0 ≤ Xi T42 904 106 ∧ Xi T42 904 106 ≤ 9 := hHT42.c _ _
          have w1015 : Xi T42 904 116 = Xi T33 904 116 := (show Xi T42 904 116 = Xi T40 904 116 from w1006.x _ _ rfl).trans ( (show Xi T40 904 116 = Xi T36 904 116 from w946.x _ _ rfl).trans ((show Xi T36 904 116 = Xi T33 904 116 from w828.x _ _ rfl)))
          have w1017 : Xi T42 904 128 = Xi T36 904 128 := (show Xi T42 904 128 = Xi T40 904 128 from w1006.x _ _ rfl).trans ((show Xi T40 904 128 = Xi T36 904 128 from w946.x _ _ rfl))
          have w1018 : 0 ≤ Xi T36 904 128 ∧ Xi T36 904 128 ≤ 11 := hHT36.c _ _
          have w1019 : Xi T42 904 129 = Xi T36 904 129 := (show Xi T42 904 129 = Xi T40 904 129 from w1006.x _ _ rfl).trans ((show Xi T40 904 129 = Xi T36 904 129 from w946.x _ _ rfl))
          have w1020 : -1 ≤ Xi T36 904 129 ∧ Xi T36 904 129 ≤ 23 := hHT36.c _ _
          have w1021 : Xi T42 904 69 = Xi T33 904 69 := (show Xi T42 904 69 = Xi T40 904 69 from w1006.x _ _ rfl).trans ( (show Xi T40 904 69 = Xi T36 904 69 from w946.x _ _ rfl).trans ((show Xi T36 904 69 = Xi T33 904 69 from w828.x _ _ rfl)))
          have w1023 : Xi T42 904 70 = Xi T33 904 70 := (show Xi T42 904 70 = Xi T40 904 70 from w1006.x _ _ rfl).trans ( (show Xi T40 904 70 = Xi T36 904 70 from w946.x _ _ rfl).trans ((show Xi T36 904 70 = Xi T33 904 70 from w828.x _ _ rfl)))
          exact Rl_weak (C105 T42 hHT42 hFT42 (z827) (by omega) (by omega) (by omega) (by omega) (by omega) (by omega) (by omega) ((KRL_FR w1006 rfl (KRL_FR w946 rfl (KRL_FR w828 rfl (by assumption : KRL T33 S _))))) (fun x => by rw [show Xi T42 904 128 = Xi T36 904 128 by omega, show Xi T42 904 129 = Xi T36 904 129 by omega]; exact A59 x)) (And.intro rfl (And.intro rfl (And.intro rfl (True.intro))))
  · refine l_return rfl rfl ?_
    have w1029 : 0 ≤ Xi T33 904 128 ∧ Xi T33 904 128 ≤ 11 := hHT33.c _ _
    have w1030 : -1 ≤ Xi T33 904 129 ∧ Xi T33 904 129 ≤ 23 := hHT33.c _ _
    exact ⟨hHT33, hFT33, rfl, (by omega), (by first | exact (fun _ => rz_1 (nm_i (S := S) (a := v3) (by omega) (by omega) (by omega) (fun j => (hFT33.cx 942 rfl j).1)) M457) M457 | exact rz_0 (by omega) (by omega)), (by omega), (by omega), (by first | exact fun x => absurd x (by omega) | exact fun x => nm_i (S := S) (a := v3) (by omega) (by omega) (by omega) (fun j => (hFT33.cx 942 rfl j).1) | exact fun x => (by have t := A105 (by omega); exact nm_i (S := S) (a := Xi T1 904 128) (by omega) t.1.1 (by first | exact t.2.2 (by omega) | exact m160 (by omega)) (fun j => (hFT33.cx 942 rfl j).1))), ((by assumption : KRL T33 S _))⟩
set_option maxRecDepth 100000 in
set_option maxHeartbeats 8000000 in
theorem t_mo_actingMeant {S : sS} (hH : HI S) (n : Nat) (l : Int) (hl : 0 ≤ l ∧ l ≤ 23) (hT : TK S n) (hv : RNV S n) (hM : LXM S) (hB : ABV S) (hC : DCM S) (ha : Xi S 904 70 ≠ 6 → Xi S 904 102 < Xi S 904 69 ∧ Xi S 904 103 < Xi S 904 69) (d : Nat) : Mt lay0 (d + 11) m_mo_actingMeant [.ref 904, iv l] S (Q_mo_actingMeant S n l) := by
  refine Mt_R rfl rfl ?_
  have C105 := c105_mo_actingMeant hH n l hl hT hv hM hB hC ha d 
  have C352 := c352_mo_actingMeant hH n l hl hT hv hM hB hC ha d 
  have C287 := c287_mo_actingMeant hH n l hl hT hv hM hB hC ha d 
  have C244 := c244_mo_actingMeant hH n l hl hT hv hM hB hC ha d 
  have C208 := c208_mo_actingMeant hH n l hl hT hv hM hB hC ha d 
  have C33 := c33_mo_actingMeant hH n l hl hT hv hM hB hC ha d 
  have hF : FR md_mo_actingMeant S S := FR.rf
  have w1 : 0 ≤ Xi S 904 102 ∧ Xi S 904 102 ≤ 2600 := hH.c _ _
  have w2 : -1 ≤ Xi S 904 103 ∧ Xi S 904 103 ≤ 2600 := hH.c _ _
  have w3 : 0 ≤ Xi S 904 106 ∧ Xi S 904 106 ≤ 9 := hH.c _ _
  have w4 : 0 ≤ Xi S 904 110 ∧ Xi S 904 110 ≤ 15 := hH.c _ _
  have w5 : 0 ≤ Xi S 904 112 ∧ Xi S 904 112 ≤ 6 := hH.c _ _
  have w6 : -1 ≤ Xi S 904 116 ∧ Xi S 904 116 ≤ 15 := hH.c _ _
  have w7 : 0 ≤ Xi S 904 128 ∧ Xi S 904 128 ≤ 11 := hH.c _ _
  have w8 : -1 ≤ Xi S 904 129 ∧ Xi S 904 129 ≤ 23 := hH.c _ _
  have w9 : 0 ≤ Xi S 904 16 ∧ Xi S 904 16 ≤ 16 := hH.c _ _
  have w10 : 0 ≤ Xi S 904 19 ∧ Xi S 904 19 ≤ 24 := hH.c _ _
  have w11 : 0 ≤ Xi S 904 49 ∧ Xi S 904 49 ≤ 12 := hH.c _ _
  have w12 : 0 ≤ Xi S 904 69 ∧ Xi S 904 69 ≤ 2600 := hH.c _ _
  have w13 : 0 ≤ Xi S 904 70 ∧ Xi S 904 70 ≤ 20 := hH.c _ _
  have hn5 := hT.1
  have hc69 : 0 ≤ Xi S 904 69 ∧ Xi S 904 69 ≤ 2600 := hH.c _ _
  have hc19 : 0 ≤ Xi S 904 19 ∧ Xi S 904 19 ≤ 24 := hH.c _ _
  have hc49 : 0 ≤ Xi S 904 49 ∧ Xi S 904 49 ≤ 12 := hH.c _ _
  have hc16 : 0 ≤ Xi S 904 16 ∧ Xi S 904 16 ≤ 16 := hH.c _ _
  have hrf : ∀ r : Int, 0 ≤ r → r < Xi S 904 69 → Xi S 950 r.toNat + Xi S 951 r.toNat ≤ n ∧ 1 ≤ Xi S 951 r.toNat := fun r a b => hv r.toNat (by omega)
  refine l_aload_n rfl rfl ?_
  refine l_gfr rfl rfl rfl rfl rfl (hH.r 904 132 979 rfl) ?_
  refine l_iload_n rfl rfl ?_
  refine l_iconst rfl ?_
  refine l_iastore (n := 24) rfl rfl (by omega) (by omega) (by unfold rg; omega) ?_
  obtain ⟨U43, eU43⟩ : ∃ T : sS, T = uI S 979 ((l).toNat) (Int32.ofInt (-1)) := ⟨_, rfl⟩
  rw [← eU43]
  have hHU43 : HI U43 := by rw [eU43]; exact HI_w hH (show -1 ≤ (-1) by omega) (show (-1) ≤ 11 by omega)
  have hFU43 : FR md_mo_actingMeant S U43 := by rw [eU43]; exact FR.wI hF (mdf_i (r := (979, 980, 0, 100000)) (List.mem_of_getElem? (i := 13) rfl) (inR_i (by omega) (by omega) (by omega) (by omega)))
  have w1033 : Xi U43 979 ((l).toNat) = (-1) := by rw [eU43]; exact Xi_same (by unfold rg; omega)
  refine l_aload_n rfl rfl ?_
  refine l_gfr rfl rfl rfl rfl rfl (hHU43.r 904 133 980 rfl) ?_
  refine l_iload_n rfl rfl ?_
  refine l_iconst rfl ?_
  refine l_iastore (n := 24) rfl rfl (by omega) (by omega) (by unfold rg; omega) ?_
  obtain ⟨U44, eU44⟩ : ∃ T : sS, T = uI U43 980 ((l).toNat) (Int32.ofInt (-1)) := ⟨_, rfl⟩
  rw [← eU44]
  have hHU44 : HI U44 := by rw [eU44]; exact HI_w hHU43 (show -1 ≤ (-1) by omega) (show (-1) ≤ 23 by omega)
  have hFU44 : FR md_mo_actingMeant S U44 := by rw [eU44]; exact FR.wI hFU43 (mdf_i (r := (980, 981, 0, 100000)) (List.mem_of_getElem? (i := 14) rfl) (inR_i (by omega) (by omega) (by omega) (by omega)))
  have w1034 : Xi U44 980 ((l).toNat) = (-1) := by rw [eU44]; exact Xi_same (by unfold rg; omega)
  refine l_aload_n rfl rfl ?_
  refine l_gfr rfl rfl rfl rfl rfl (hHU44.r 904 134 981 rfl) ?_
  refine l_iload_n rfl rfl ?_
  refine l_iconst rfl ?_
  refine l_iastore (n := 24) rfl rfl (by omega) (by omega) (by unfold rg; omega) ?_
  obtain ⟨U45, eU45⟩ : ∃ T : sS, T = uI U44 981 ((l).toNat) (Int32.ofInt (-1)) := ⟨_, rfl⟩
  rw [← eU45]
  have hHU45 : HI U45 := by rw [eU45]; exact HI_w hHU44 (show -1 ≤ (-1) by omega) (show (-1) ≤ 15 by omega)
  have hFU45 : FR md_mo_actingMeant S U45 := by rw [eU45]; exact FR.wI hFU44 (mdf_i (r := (981, 982, 0, 100000)) (List.mem_of_getElem? (i := 15) rfl) (inR_i (by omega) (by omega) (by omega) (by omega)))
  have w1035 : Xi U45 981 ((l).toNat) = (-1) := by rw [eU45]; exact Xi_same (by unfold rg; omega)
  refine l_aload_n rfl rfl ?_
  refine l_gfr rfl rfl rfl rfl rfl (hHU45.r 904 135 982 rfl) ?_
  refine l_iload_n rfl rfl ?_
  refine l_iconst rfl ?_
  refine l_iastore (n := 24) rfl rfl (by omega) (by omega) (by unfold rg; omega) ?_
  obtain ⟨U46, eU46⟩ : ∃ T : sS, T = uI U45 982 ((l).toNat) (Int32.ofInt 0) := ⟨_, rfl⟩
  rw [← eU46]
  have hHU46 : HI U46 := by rw [eU46]; exact HI_w hHU45 (show 0 ≤ 0 by omega) (show 0 ≤ 6 by omega)
  have hFU46 : FR md_mo_actingMeant S U46 := by rw [eU46]; exact FR.wI hFU45 (mdf_i (r := (982, 983, 0, 100000)) (List.mem_of_getElem? (i := 16) rfl) (inR_i (by omega) (by omega) (by omega) (by omega)))
  have w1036 : Xi U46 982 ((l).toNat) = 0 := by rw [eU46]; exact Xi_same (by unfold rg; omega)
  refine l_aload_n rfl rfl ?_
  refine l_iconst rfl ?_
  refine l_pfi rfl rfl rfl rfl ?_
  obtain ⟨U47, eU47⟩ : ∃ T : sS, T = uI U46 904 116 (Int32.ofInt (-1)) := ⟨_, rfl⟩
  rw [← eU47]
  have hHU47 : HI U47 := by rw [eU47]; exact HI_w hHU46 (show -1 ≤ (-1) by omega) (show (-1) ≤ 15 by omega)
  have hFU47 : FR md_mo_actingMeant S U47 := by rw [eU47]; exact FR.wI hFU46 (mdf_i (r := (904, 905, 116, 117)) (List.mem_of_getElem? (i := 8) rfl) (inR_i (by omega) (by omega) (by omega) (by omega)))
  have w1037 : Xi U47 904 116 = (-1) := by rw [eU47]; exact Xi_same (by unfold rg; omega)
  have w1038 : Xi U47 979 (l).toNat = Xi U43 979 (l).toNat := (show Xi U47 979 (l).toNat = Xi U46 979 (l).toNat from by rw [eU47]; exact Xi_ne (by omega)).trans ( (show Xi U46 979 (l).toNat = Xi U45 979 (l).toNat from by rw [eU46]; exact Xi_ne (by omega)).trans ( (show Xi U45 979 (l).toNat = Xi U44 979 (l).toNat from by rw [eU45]; exact Xi_ne (by omega)).trans ((show Xi U44 979 (l).toNat = Xi U43 979 (l).toNat from by rw [eU44]; exact Xi_ne (by omega)))))
  have w1039 : Xi U47 981 (l).toNat = Xi U45 981 (l).toNat := (show Xi U47 981 (l).toNat = Xi U46 981 (l).toNat from by rw [eU47]; exact Xi_ne (by omega)).trans ((show Xi U46 981 (l).toNat = Xi U45 981 (l).toNat from by rw [eU46]; exact Xi_ne (by omega)))
  have w1040 : Xi U47 982 (l).toNat = Xi U46 982 (l).toNat := (show Xi U47 982 (l).toNat = Xi U46 982 (l).toNat from by rw [eU47]; exact Xi_ne (by omega))
  have w1041 : Xi U47 904 102 = Xi S 904 102 := (show Xi U47 904 102 = Xi U46 904 102 from by rw [eU47]; exact Xi_ne (by omega)).trans ( (show Xi U46 904 102 = Xi U45 904 102 from by rw [eU46]; exact Xi_ne (by omega)).trans ( (show Xi U45 904 102 = Xi U44 904 102 from by rw [eU45]; exact Xi_ne (by omega)).trans ( (show Xi U44 904 102 = Xi U43 904 102 from by rw [eU44]; exact Xi_ne (by omega)).trans ((show Xi U43 904 102 = Xi S 904 102 from by rw [eU43]; exact Xi_ne (by omega))))))
  have w1043 : Xi U47 904 103 = Xi S 904 103 := (show Xi U47 904 103 = Xi U46 904 103 from by rw [eU47]; exact Xi_ne (by omega)).trans ( (show Xi U46 904 103 = Xi U45 904 103 from by rw [eU46]; exact Xi_ne (by omega)).trans ( (show Xi U45 904 103 = Xi U44 904 103 from by rw [eU45]; exact Xi_ne (by omega)).trans ( (show Xi U44 904 103 = Xi U43 904 103 from by rw [eU44]; exact Xi_ne (by omega)).trans ((show Xi U43 904 103 = Xi S 904 103 from by rw [eU43]; exact Xi_ne (by omega))))))
  have w1045 : Xi U47 904 106 = Xi S 904 106 := (show Xi U47 904 106 = Xi U46 904 106 from by rw [eU47]; exact Xi_ne (by omega)).trans ( (show Xi U46 904 106 = Xi U45 904 106 from by rw [eU46]; exact Xi_ne (by omega)).trans ( (show Xi U45 904 106 = Xi U44 904 106 from by rw [eU45]; exact Xi_ne (by omega)).trans ( (show Xi U44 904 106 = Xi U43 904 106 from by rw [eU44]; exact Xi_ne (by omega)).trans ((show Xi U43 904 106 = Xi S 904 106 from by rw [eU43]; exact Xi_ne (by omega))))))
  have w1047 : -1 ≤ Xi U47 904 116 ∧ Xi U47 904 116 ≤ 15 := hHU47.c _ _
  have w1048 : Xi U47 904 128 = Xi S 904 128 := (show Xi U47 904 128 = Xi U46 904 128 from by rw [eU47]; exact Xi_ne (by omega)).trans ( (show Xi U46 904 128 = Xi U45 904 128 from by rw [eU46]; exact Xi_ne (by omega)).trans ( (show Xi U45 904 128 = Xi U44 904 128 from by rw [eU45]; exact Xi_ne (by omega)).trans ( (show Xi U44 904 128 = Xi U43 904 128 from by rw [eU44]; exact Xi_ne (by omega)).trans ((show Xi U43 904 128 = Xi S 904 128 from by rw [eU43]; exact Xi_ne (by omega))))))
  have w1050 : Xi U47 904 129 = Xi S 904 129 := (show Xi U47 904 129 = Xi U46 904 129 from by rw [eU47]; exact Xi_ne (by omega)).trans ( (show Xi U46 904 129 = Xi U45 904 129 from by rw [eU46]; exact Xi_ne (by omega)).trans ( (show Xi U45 904 129 = Xi U44 904 129 from by rw [eU45]; exact Xi_ne (by omega)).trans ( (show Xi U44 904 129 = Xi U43 904 129 from by rw [eU44]; exact Xi_ne (by omega)).trans ((show Xi U43 904 129 = Xi S 904 129 from by rw [eU43]; exact Xi_ne (by omega))))))
  have w1052 : Xi U47 904 69 = Xi S 904 69 := (show Xi U47 904 69 = Xi U46 904 69 from by rw [eU47]; exact Xi_ne (by omega)).trans ( (show Xi U46 904 69 = Xi U45 904 69 from by rw [eU46]; exact Xi_ne (by omega)).trans ( (show Xi U45 904 69 = Xi U44 904 69 from by rw [eU45]; exact Xi_ne (by omega)).trans ( (show Xi U44 904 69 = Xi U43 904 69 from by rw [eU44]; exact Xi_ne (by omega)).trans ((show Xi U43 904 69 = Xi S 904 69 from by rw [eU43]; exact Xi_ne (by omega))))))
  have w1054 : Xi U47 904 70 = Xi S 904 70 := (show Xi U47 904 70 = Xi U46 904 70 from by rw [eU47]; exact Xi_ne (by omega)).trans ( (show Xi U46 904 70 = Xi U45 904 70 from by rw [eU46]; exact Xi_ne (by omega)).trans ( (show Xi U45 904 70 = Xi U44 904 70 from by rw [eU45]; exact Xi_ne (by omega)).trans ( (show Xi U44 904 70 = Xi U43 904 70 from by rw [eU44]; exact Xi_ne (by omega)).trans ((show Xi U43 904 70 = Xi S 904 70 from by rw [eU43]; exact Xi_ne (by omega))))))
  exact Rl_weak (C33 U47 hHU47 hFU47  (by omega) (by omega) (by omega) (by omega) (by omega) (by omega) (by omega) (by omega) (by omega) ((KRL.w (KRL.w (KRL.w (KRL.w (KRL.w KRL.rf eU43 (by omega)) eU44 (by omega)) eU45 (by omega)) eU46 (by omega)) eU47 (by omega)))) (And.intro rfl (And.intro rfl (True.intro)))
