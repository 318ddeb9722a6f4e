section
/-- a kind has a property -/
def KHS (S S1 : sS) (k p : Int) : Prop := Xi S1 7 k.toNat = iorF (Xi S 7 k.toNat) (ishlF 1 p) ∧ ∀ j : Nat, j ≠ k.toNat → Xi S1 7 j = Xi S 7 j
theorem khs_of {S P S1 : sS} {k p : Int} (e : S1 = uI P 7 k.toNat (Int32.ofInt (iorF (Xi P 7 k.toNat) (ishlF 1 p)))) (x : ∀ j, Xi P 7 j = Xi S 7 j) : KHS S S1 k p := by
  refine ⟨?_, fun j hj => ?_⟩
  · rw [e, ← x]
    have t := iorF_rg (x := Xi P 7 k.toNat) (y := ishlF 1 p)
    exact Xi_same (by unfold rg; omega)
  · rw [e, Xi_ne (by omega)]; exact x j
theorem SMV_w {S P S1 : sS} {k j : Nat} {v : Int32} (h : SMV S P) (e : S1 = uI P k j v) (h1 : k ≠ 1) (h3 : k ≠ 3) (h4 : k ≠ 4) : SMV S S1 :=
  h.tr ⟨by rw [e, Xi_ne (by omega)], fun i => by rw [e, Xj_I], fun i => by rw [e, Xi_ne (by omega)], fun i => by rw [e, Xi_ne (by omega)], fun i => by rw [e, Xj_I]⟩
theorem SMV.rf {S : sS} : SMV S S := ⟨rfl, fun _ => rfl, fun _ => rfl, fun _ => rfl, fun _ => rfl⟩
/-- 17: what the class does -/
def THAS (S S1 : sS) (z nm e a o l t : Int) : Prop :=
  (fnd S 0 nm e = -1 → z = 0 ∧ FTO S S1 4 nm) ∧
  (fnd S 0 nm e ≠ -1 → tmC S a o = -1 → z = 0 ∧ FTO S S1 4 a) ∧
  (fnd S 0 nm e ≠ -1 → tmC S a o ≠ -1 → mnV S l t = -1 → ¬ nwC S l t → z = 0 ∧ FTO S S1 3 l) ∧
  (fnd S 0 nm e ≠ -1 → tmC S a o ≠ -1 → mnV S l t = -1 → nwC S l t → 12 ≤ Xi S 5 5 → z = 0 ∧ FTO S S1 9 l) ∧
  (fnd S 0 nm e ≠ -1 → tmC S a o ≠ -1 → mnV S l t ≠ -1 → fnd S 5 l t = -1 → z = 0 ∧ FTO S S1 4 l) ∧
  (fnd S 0 nm e ≠ -1 → tmC S a o ≠ -1 → fnd S 5 l t ≠ -1 → Xi S 9 (fnd S 5 l t).toNat ≠ tmC S a o → z = 0 ∧ FTO S S1 5 nm) ∧
  (fnd S 0 nm e ≠ -1 → tmC S a o ≠ -1 → fnd S 5 l t ≠ -1 → Xi S 9 (fnd S 5 l t).toNat = tmC S a o → z = 1 ∧ Xi S1 876 8 = 0 ∧ SMV S S1 ∧ (∀ j, Xi S1 5 j = Xi S 5 j) ∧ (∀ j, Xi S1 9 j = Xi S 9 j) ∧ KHS S S1 (fnd S 0 nm e) (fnd S 5 l t)) ∧
  (fnd S 0 nm e ≠ -1 → tmC S a o ≠ -1 → mnV S l t = -1 → nwC S l t → Xi S 5 5 < 12 → z = 1 ∧ Xi S1 876 8 = 0 ∧ TN1 S S1 5 (Xi S 5 5) l t ∧ Xi S1 5 5 = Xi S 5 5 + 1 ∧ (∀ j, j ≠ 5 → Xi S1 5 j = Xi S 5 j) ∧ (Xi S1 9 (Xi S 5 5).toNat = tmC S a o ∧ ∀ j : Nat, j ≠ (Xi S 5 5).toNat → Xi S1 9 j = Xi S 9 j) ∧ KHS S S1 (fnd S 0 nm e) (Xi S 5 5))
theorem thas_1 {S S1 : sS} {z nm e a o l t : Int} (h : fnd S 0 nm e = -1) (hz : z = 0) (f : FTO S S1 4 nm) : THAS S S1 z nm e a o l t :=
  ⟨fun _ => ⟨hz, f⟩, fun q => absurd h q, fun q => absurd h q, fun q => absurd h q, fun q => absurd h q, fun q => absurd h q, fun q => absurd h q, fun q => absurd h q⟩
theorem thas_2 {S S1 : sS} {z nm e a o l t : Int} (h : fnd S 0 nm e ≠ -1) (h2 : tmC S a o = -1) (hz : z = 0) (f : FTO S S1 4 a) : THAS S S1 z nm e a o l t :=
  ⟨fun q => absurd q h, fun _ _ => ⟨hz, f⟩, fun _ q => absurd h2 q, fun _ q => absurd h2 q, fun _ q => absurd h2 q, fun _ q => absurd h2 q, fun _ q => absurd h2 q, fun _ q => absurd h2 q⟩
theorem fnd_no {S : sS} {s a b : Int} (h : mnV S a b = -1) (hs : 0 ≤ s) : fnd S s a b = -1 := by unfold fnd; rw [h, if_neg (by omega)]
theorem thas_3 {S S1 : sS} {z nm e a o l t : Int} {X : Prop} (h : fnd S 0 nm e ≠ -1) (h2 : tmC S a o ≠ -1) (hm : mnV S l t = -1) (n3 : ¬ nwC S l t → z = 0 ∧ FTO S S1 3 l) (n9 : nwC S l t → 12 ≤ Xi S 5 5 + Xi S 891 9 → z = 0 ∧ FTO S S1 9 l) (ok : nwC S l t → Xi S 5 5 + Xi S 891 9 < 12 → z = 1 ∧ X) (hz : z = 0) (hn : Xi S 891 9 = 0) : THAS S S1 0 nm e a o l t :=
  ⟨fun q => absurd q h, fun _ q => absurd q h2, fun _ _ _ q => ⟨rfl, (n3 q).2⟩, fun _ _ _ q r => ⟨rfl, (n9 q (by omega)).2⟩, fun _ _ q => absurd hm q, fun _ _ q => absurd (fnd_no hm (by omega)) q, fun _ _ q => absurd (fnd_no hm (by omega)) q, fun _ _ _ q r => by have := (ok q (by omega)).1; omega⟩
theorem thas_5 {S S1 : sS} {z nm e a o l t : Int} (h : fnd S 0 nm e ≠ -1) (h2 : tmC S a o ≠ -1) (hm : mnV S l t ≠ -1) (hf : fnd S 5 l t = -1) (hz : z = 0) (f : FTO S S1 4 l) : THAS S S1 z nm e a o l t :=
  ⟨fun q => absurd q h, fun _ q => absurd q h2, fun _ _ q => absurd q hm, fun _ _ q => absurd q hm, fun _ _ _ _ => ⟨hz, f⟩, fun _ _ q => absurd hf q, fun _ _ q => absurd hf q, fun _ _ q => absurd q hm⟩
theorem thas_6 {S S1 : sS} {z nm e a o l t : Int} (h : fnd S 0 nm e ≠ -1) (h2 : tmC S a o ≠ -1) (hm : mnV S l t ≠ -1) (hf : fnd S 5 l t ≠ -1) (ht : Xi S 9 (fnd S 5 l t).toNat ≠ tmC S a o) (hz : z = 0) (f : FTO S S1 5 nm) : THAS S S1 z nm e a o l t :=
  ⟨fun q => absurd q h, fun _ q => absurd q h2, fun _ _ q => absurd q hm, fun _ _ q => absurd q hm, fun _ _ _ q => absurd q hf, fun _ _ _ _ => ⟨hz, f⟩, fun _ _ _ q => absurd q ht, fun _ _ q => absurd q hm⟩
theorem thas_7 {S S1 : sS} {nm e a o l t : Int} (h : fnd S 0 nm e ≠ -1) (h2 : tmC S a o ≠ -1) (hm : mnV S l t ≠ -1) (hf : fnd S 5 l t ≠ -1) (ht : Xi S 9 (fnd S 5 l t).toNat = tmC S a o) (r : Xi S1 876 8 = 0 ∧ SMV S S1 ∧ (∀ j, Xi S1 5 j = Xi S 5 j) ∧ (∀ j, Xi S1 9 j = Xi S 9 j) ∧ KHS S S1 (fnd S 0 nm e) (fnd S 5 l t)) : THAS S S1 1 nm e a o l t :=
  ⟨fun q => absurd q h, fun _ q => absurd q h2, fun _ _ q => absurd q hm, fun _ _ q => absurd q hm, fun _ _ _ q => absurd q hf, fun _ _ _ q => absurd ht q, fun _ _ _ _ => ⟨rfl, r⟩, fun _ _ q => absurd q hm⟩
theorem thas_8 {S S1 : sS} {nm e a o l t : Int} (h : fnd S 0 nm e ≠ -1) (h2 : tmC S a o ≠ -1) (hm : mnV S l t = -1) (hA : nwC S l t ∧ Xi S 5 5 < 12) (r : Xi S1 876 8 = 0 ∧ TN1 S S1 5 (Xi S 5 5) l t ∧ Xi S1 5 5 = Xi S 5 5 + 1 ∧ (∀ j, j ≠ 5 → Xi S1 5 j = Xi S 5 j) ∧ (Xi S1 9 (Xi S 5 5).toNat = tmC S a o ∧ ∀ j : Nat, j ≠ (Xi S 5 5).toNat → Xi S1 9 j = Xi S 9 j) ∧ KHS S S1 (fnd S 0 nm e) (Xi S 5 5)) : THAS S S1 1 nm e a o l t :=
  ⟨fun q => absurd q h, fun _ q => absurd q h2, fun _ _ _ q => absurd hA.1 q, fun _ _ _ _ q => by omega, fun _ _ q => absurd hm q, fun _ _ q => absurd (fnd_no hm (by omega)) q, fun _ _ q => absurd (fnd_no hm (by omega)) q, fun _ _ _ _ _ => ⟨rfl, r⟩⟩
theorem thas_n {S P A U S1 : sS} {l t k ty k9 y x9 : Int} {l1 l2 : List rec} (V : SMV S P) (f0 : Xi P 876 8 = 0) (F1 : FR l1 S P) (F2 : FR l2 P A) (E : ∃ i : Nat, NMI P A i 5 (Xi S 5 5) (wRw P 879 l t 0) (wRw P 879 l t 1) (wRw P 879 l t 2)) (C : Xi A 5 5 = Xi P 5 5 + 1) (c : Xi P 5 5 = Xi S 5 5) (O : ∀ j, j ≠ 5 → Xi A 5 j = Xi P 5 j) (w1 : U = uI A 9 x9.toNat (Int32.ofInt y)) (w2 : S1 = uI U 7 k9.toNat (Int32.ofInt (iorF (Xi U 7 k9.toNat) (ishlF 1 x9)))) (hk : k9 = k) (hy : y = ty) (hx : x9 = Xi S 5 5) (hr : rg y) (a1 : mdf l2 876 8 = false := by rfl) (a2 : kdis l1 [(7, 8), (9, 10)] = true := by rfl) (a3 : kdis l2 [(7, 8), (9, 10)] = true := by rfl) (a4 : kdis l1 [(5, 6)] = true := by rfl) : Xi S1 876 8 = 0 ∧ TN1 S S1 5 (Xi S 5 5) l t ∧ Xi S1 5 5 = Xi S 5 5 + 1 ∧ (∀ j, j ≠ 5 → Xi S1 5 j = Xi S 5 j) ∧ (Xi S1 9 (Xi S 5 5).toNat = ty ∧ ∀ j : Nat, j ≠ (Xi S 5 5).toNat → Xi S1 9 j = Xi S 9 j) ∧ KHS S S1 k (Xi S 5 5) := by
  have g : ∀ i j : Nat, i ≠ 9 → i ≠ 7 → Xi S1 i j = Xi A i j := fun i j h1 h2 => by rw [w2, Xi_ne (by omega), w1, Xi_ne (by omega)]
  refine ⟨?_, ?_, ?_, fun j hj => ?_, ⟨?_, fun j hj => ?_⟩, ?_⟩
  · rw [g _ _ (by omega) (by omega), F2.x 876 8 a1]; exact f0
  · exact tn1_of V E (fun j => g 3 j (by omega) (by omega)) (fun j => g 4 j (by omega) (by omega)) (fun j => by rw [w2, Xj_I, w1, Xj_I]) (g 1 3 (by omega) (by omega))
  · rw [g _ _ (by omega) (by omega)]; omega
  · rw [g _ _ (by omega) (by omega), O j hj]; exact (F1.smk a4).x 5 rfl j
  · rw [w2, Xi_ne (by omega), w1, ← hx, ← hy]; exact Xi_same hr
  · rw [w2, Xi_ne (by omega), w1, Xi_ne (by omega), (F2.smk a3).x 9 rfl, (F1.smk a2).x 9 rfl]
  · rw [hx, hk] at w2
    exact khs_of w2 (fun j => by rw [w1, Xi_ne (by omega), (F2.smk a3).x 7 rfl, (F1.smk a2).x 7 rfl])
theorem thas_o {S S1 : sS} {k k9 x9 p : Int} (f0 : Xi S 876 8 = 0) (w2 : S1 = uI S 7 k9.toNat (Int32.ofInt (iorF (Xi S 7 k9.toNat) (ishlF 1 x9)))) (hk : k9 = k) (hx : x9 = p) : Xi S1 876 8 = 0 ∧ SMV S S1 ∧ (∀ j, Xi S1 5 j = Xi S 5 j) ∧ (∀ j, Xi S1 9 j = Xi S 9 j) ∧ KHS S S1 k p := by
  subst hk; subst hx
  exact ⟨by rw [w2, Xi_ne (by omega)]; exact f0, SMV_w SMV.rf w2 (by omega) (by omega) (by omega), fun j => by rw [w2, Xi_ne (by omega)], fun j => by rw [w2, Xi_ne (by omega)], khs_of w2 (fun _ => rfl)⟩

theorem SMV_j {S P S1 : sS} {k j : Nat} {v : Int64} (h : SMV S P) (e : S1 = uJ P k j v) (h1 : k ≠ 2) (h3 : k ≠ 879) : SMV S S1 :=
  h.tr ⟨by rw [e, Xi_J], fun i => by rw [e, Xj_ne (by omega)], fun i => by rw [e, Xi_J], fun i => by rw [e, Xi_J], fun i => by rw [e, Xj_ne (by omega)]⟩
theorem ty7_j {S S1 : sS} {k j : Nat} {v : Int64} (e : S1 = uJ S k j v) : ty7 S1 = ty7 S := by subst e; rfl
theorem pc7_j {S S1 : sS} {k j : Nat} {v : Int64} (e : S1 = uJ S k j v) (r : Int) : pc7 S1 r = pc7 S r := by subst e; rfl
theorem mnF_eq {S U : sS} {a b c : Int} (h : SMV S U) : mnF U a b c = mnF S a b c := by
  unfold mnF
  rw [h.1]
  exact msc_eq h _ _
theorem nwC_eq {S U : sS} {a b : Int} (h : SMV S U) (h9 : Xi U 891 9 = Xi S 891 9) (h1 : ∀ j, Xi U 892 j = Xi S 892 j) (h2 : ∀ j, Xi U 893 j = Xi S 893 j) : nwC U a b ↔ nwC S a b := by
  unfold nwC WNC
  rw [mnV_eq h, h9]
  simp only [h1, h2, alC_eq h]
theorem mnr_1 {S P : sS} {w : Int} (h : SMV S P) (x : Xj P 894 0 = w) : mnR P 894 0 1 = mnF S w 0 0 := by
  unfold mnR
  rw [x, if_neg (by omega), if_neg (by omega)]
  exact mnF_eq h
theorem fto_p {S P S1 : sS} {c r : Int} (h : FTO P S1 c r) (p : ∀ r, pc7 P r = pc7 S r) : FTO S S1 c r := by unfold FTO at h ⊢; rw [p] at h; exact h
/-- 7: names told -/
def TNV (S S1 : sS) (c w : Int) : Prop := ∃ (V : sS) (i j : Nat), NMI S V i 7 c (wRw S 879 3 4 0) (wRw S 879 3 4 1) (wRw S 879 3 4 2) ∧ NMI V S1 j 13 c w 0 0
def vbC (S : sS) (e : Int) : Prop := e = 4 ∧ mnF S (Xj S 879 3 * 27 + 19) 0 0 = -1
/-- 7: what the class does -/
def TVB (S S1 : sS) (z e a t : Int) : Prop :=
  (¬ vbC S e → z = 0 ∧ FTO S S1 3 3) ∧
  (vbC S e → ¬ nwC S 3 4 → z = 0 ∧ FTO S S1 3 3) ∧
  (vbC S e → nwC S 3 4 → 8 ≤ Xi S 5 7 → z = 0 ∧ FTO S S1 9 3) ∧
  (vbC S e → nwC S 3 4 → Xi S 5 7 < 8 → fnd S 6 a t = -1 → z = 0 ∧ FTO S S1 4 a) ∧
  (vbC S e → nwC S 3 4 → Xi S 5 7 < 8 → fnd S 6 a t ≠ -1 → z = 1 ∧ Xi S1 876 8 = 0 ∧ TNV S S1 (Xi S 5 7) (Xj S 879 3 * 27 + 19) ∧ Xi S1 5 7 = Xi S 5 7 + 1 ∧ (∀ j, j ≠ 7 → Xi S1 5 j = Xi S 5 j) ∧ Xi S1 18 (Xi S 5 7).toNat = fnd S 6 a t ∧ ∀ j : Nat, j ≠ (Xi S 5 7).toNat → Xi S1 18 j = Xi S 18 j)
theorem tvb_1 {S S1 : sS} {z e a t : Int} (h : ¬ vbC S e) (hz : z = 0) (f : FTO S S1 3 3) : TVB S S1 z e a t :=
  ⟨fun _ => ⟨hz, f⟩, fun q => absurd q h, fun q => absurd q h, fun q => absurd q h, fun q => absurd q h⟩
theorem tvb_2 {S P S1 : sS} {z e a t : Int} {X : Prop} (h : vbC S e) (hw : nwC P 3 4 ↔ nwC S 3 4) (p : ∀ r, pc7 P r = pc7 S r) (n3 : ¬ nwC P 3 4 → z = 0 ∧ FTO P S1 3 3) (n9 : nwC P 3 4 → 8 ≤ Xi S 5 7 + Xi P 891 9 → z = 0 ∧ FTO P S1 9 3) (ok : nwC P 3 4 → Xi S 5 7 + Xi P 891 9 < 8 → z = 1 ∧ X) (hz : z = 0) (hn : Xi P 891 9 = 0) : TVB S S1 0 e a t :=
  ⟨fun q => absurd h q, fun _ q => ⟨rfl, fto_p (n3 (fun w => q (hw.1 w))).2 p⟩, fun _ q q2 => ⟨rfl, fto_p (n9 (hw.2 q) (by omega)).2 p⟩, fun _ q q2 => by have := (ok (hw.2 q) (by omega)).1; omega, fun _ q q2 => by have := (ok (hw.2 q) (by omega)).1; omega⟩
theorem tvb_4 {S S1 : sS} {z e a t : Int} (h : vbC S e) (hw : nwC S 3 4 ∧ Xi S 5 7 < 8) (hk : fnd S 6 a t = -1) (hz : z = 0) (f : FTO S S1 4 a) : TVB S S1 z e a t :=
  ⟨fun q => absurd h q, fun _ q => absurd hw.1 q, fun _ _ q => by omega, fun _ _ _ _ => ⟨hz, f⟩, fun _ _ _ q => absurd hk q⟩
theorem tvb_5 {S S1 : sS} {e a t : Int} (h : vbC S e) (hw : nwC S 3 4 ∧ Xi S 5 7 < 8) (hk : fnd S 6 a t ≠ -1) (r : Xi S1 876 8 = 0 ∧ TNV S S1 (Xi S 5 7) (Xj S 879 3 * 27 + 19) ∧ Xi S1 5 7 = Xi S 5 7 + 1 ∧ (∀ j, j ≠ 7 → Xi S1 5 j = Xi S 5 j) ∧ Xi S1 18 (Xi S 5 7).toNat = fnd S 6 a t ∧ ∀ j : Nat, j ≠ (Xi S 5 7).toNat → Xi S1 18 j = Xi S 18 j) : TVB S S1 1 e a t :=
  ⟨fun q => absurd h q, fun _ q => absurd hw.1 q, fun _ _ q => by omega, fun _ _ _ q => absurd q hk, fun _ _ _ _ => ⟨rfl, r⟩⟩
theorem tvb_n {S P A B S1 : sS} {w k x c : Int} {l2 l3 : List rec} (V : SMV S P) (f0 : Xi P 876 8 = 0) (F2 : FR l2 P A) (F3 : FR l3 A B) (E1 : ∃ i : Nat, NMI P A i 7 c (wRw P 879 3 4 0) (wRw P 879 3 4 1) (wRw P 879 3 4 2)) (x0 : Xj P 894 0 = w) (E2 : ∃ i : Nat, NMI A B i 13 c (wRw A 894 0 1 0) (wRw A 894 0 1 1) (wRw A 894 0 1 2)) (C : Xi A 5 7 = c + 1) (O : ∀ j, j ≠ 7 → Xi A 5 j = Xi P 5 j) (c0 : ∀ j, Xi P 5 j = Xi S 5 j) (k0 : ∀ j, Xi P 18 j = Xi S 18 j) (w1 : S1 = uI B 18 c.toNat (Int32.ofInt x)) (hc : c = Xi S 5 7) (hx : x = k) (hr : rg x) (a1 : mdf l2 876 8 = false := by rfl) (a1' : mdf l3 876 8 = false := by rfl) (a2 : kdis l2 [(18, 19), (894, 895)] = true := by rfl) (a3 : kdis l3 [(5, 6), (18, 19)] = true := by rfl) : Xi S1 876 8 = 0 ∧ TNV S S1 (Xi S 5 7) w ∧ Xi S1 5 7 = Xi S 5 7 + 1 ∧ (∀ j, j ≠ 7 → Xi S1 5 j = Xi S 5 j) ∧ Xi S1 18 (Xi S 5 7).toNat = k ∧ ∀ j : Nat, j ≠ (Xi S 5 7).toNat → Xi S1 18 j = Xi S 18 j := by
  have g : ∀ i j : Nat, i ≠ 18 → Xi S1 i j = Xi B i j := fun i j h1 => by rw [w1, Xi_ne (by omega)]
  subst hx
  refine ⟨?_, ?_, ?_, fun j hj => ?_, ?_, fun j hj => ?_⟩
  · rw [g _ _ (by omega), F3.x 876 8 a1', F2.x 876 8 a1]; exact f0
  · obtain ⟨i, hi⟩ := E1
    obtain ⟨j, hj⟩ := E2
    have q : ∀ a b t, wRw P 879 a b t = wRw S 879 a b t := fun a b t => by unfold wRw; rw [V.2.2.2.2]
    rw [q, q, q] at hi
    have y : Xj A 894 0 = w := ((F2.smk a2).xj 894 rfl 0).trans x0
    have h0 : wRw A 894 0 1 0 = w := by unfold wRw; rw [if_pos (by omega)]; exact y
    have h1 : wRw A 894 0 1 1 = 0 := by unfold wRw; rw [if_neg (by omega)]
    have h2 : wRw A 894 0 1 2 = 0 := by unfold wRw; rw [if_neg (by omega)]
    rw [h0, h1, h2] at hj
    rw [← hc]
    exact ⟨A, i, j, NMI_pre hi V.2.2.1 V.2.2.2.1 V.2.1 V.1, NMI_post hj (fun j => g 3 j (by omega)) (fun j => g 4 j (by omega)) (fun j => by rw [w1, Xj_I]) (g 1 3 (by omega))⟩
  · rw [g _ _ (by omega), (F3.smk a3).x 5 rfl]; omega
  · rw [g _ _ (by omega), (F3.smk a3).x 5 rfl, O j hj, c0]
  · rw [w1, ← hc]; exact Xi_same hr
  · rw [w1, Xi_ne (by omega), (F3.smk a3).x 18 rfl, (F2.smk a2).x 18 rfl, k0]
theorem CEN_j {S S1 : sS} {k j : Nat} {v : Int64} (e : S1 = uJ S k j v) (h : CEN S) : CEN S1 := by subst e; exact h

def md_re_tellHas__p : List rec := [(1, 2, 3, 4), (2, 3, 0, 100000), (3, 4, 0, 100000), (4, 5, 0, 100000), (5, 6, 0, 100000), (7, 8, 0, 100000), (9, 10, 0, 100000), (876, 877, 8, 9), (876, 877, 9, 10), (891, 892, 9, 10), (892, 893, 0, 100000), (893, 894, 0, 100000)]
abbrev Q_re_tellHas__p (S : sS) : pst := fun r S1 => RI S1 ∧ FR md_re_tellHas__p S S1 ∧ (∃ z : Int, r = some (iv z) ∧ (0 ≤ z ∧ z ≤ 1) ∧ (THAS S S1 z (bA (ty7 S) 0) (re7 (ty7 S) (bA (ty7 S) 0)) (Xi S 890 3 + 2) (re7 (ty7 S) (Xi S 890 3 + 2)) ((re7 (ty7 S) (Xi S 890 3 + 2)) + 1) (re7 (ty7 S) ((re7 (ty7 S) (Xi S 890 3 + 2)) + 1))))
set_option maxRecDepth 100000 in
theorem t_re_tellHas__p {S : sS} (hH : RI S) (h13 : 0 ≤ Xi S 1 3 ∧ Xi S 1 3 ≤ 200) (hCE : CEN S) (hNB : NRB S) (hf : Xi S 876 8 = 0) (hr : Xi S 876 7 ≤ 5130) (ht : 0 ≤ Xi S 890 3 ∧ Xi S 890 3 ≤ 5125) (hn0 : Xi S 891 9 = 0) (h2 : Xi S 1 3 < 199) (hor : (re7 (ty7 S) (Xi S 890 3 + 2)) < Xi S 876 7) (hc : 0 ≤ Xi S 5 5 ∧ Xi S 5 5 ≤ 12) (d : Nat) : Mp lay0 (d + 4) m_re_tellHas [.ref 891] S (Q_re_tellHas__p S) := by
  refine Mp_R rfl rfl (fun fu => ?_)
  have hF : FR md_re_tellHas__p S S := FR.rf
  have w1 : -2147483648 ≤ Xi S 1 3 ∧ Xi S 1 3 ≤ 2147483647 := Xi_rgI
  have w2 : -2147483648 ≤ Xi S 5 5 ∧ Xi S 5 5 ≤ 2147483647 := Xi_rgI
  have w3 : -2147483648 ≤ Xi S 876 7 ∧ Xi S 876 7 ≤ 2147483647 := Xi_rgI
  have w4 : -2147483648 ≤ Xi S 876 8 ∧ Xi S 876 8 ≤ 2147483647 := Xi_rgI
  have w5 : -2147483648 ≤ Xi S 890 3 ∧ Xi S 890 3 ≤ 2147483647 := Xi_rgI
  have w6 : -2147483648 ≤ Xi S 891 9 ∧ Xi S 891 9 ≤ 2147483647 := Xi_rgI
  refine y_aload_n rfl rfl ?_
  refine y_gfr rfl rfl rfl rfl rfl (hH.r 891 0 876 rfl) ?_
  refine y_iconst rfl ?_
  refine y_callV rfl rfl rfl (t_to_behindArt__p hH 0 ⟨by omega, by omega⟩ _) ?_
  rintro _ _ ⟨rfl, z9, rfl, w9, w7, w8⟩
  show Pl _ _ _ _ _ _ [iv z9] _ _
  have gq5 := w7
  clear w7
  refine y_istore_n rfl rfl rfl ?_
  refine y_aload_n rfl rfl ?_
  refine y_gfr rfl rfl rfl rfl rfl (hH.r 891 1 890 rfl) ?_
  refine y_gfi rfl rfl rfl rfl rfl ?_
  refine y_iconst rfl ?_
  refine y_iadd rfl ?_
  refine y_istore_n rfl rfl rfl ?_
  refine y_aload_n rfl rfl ?_
  refine y_gfr rfl rfl rfl rfl rfl (hH.r 891 0 876 rfl) ?_
  refine y_iload_n rfl rfl ?_
  refine y_callV rfl rfl rfl (t_to_runEnd__p hH ((Xi S 890 3) + 2) ⟨by omega, by omega⟩ _) ?_
  rintro _ _ ⟨rfl, z12, rfl, w12, w10, w11⟩
  show Pl _ _ _ _ _ _ [iv z12] _ _
  have gq24 := w10
  clear w10
  refine y_istore_n rfl rfl rfl ?_
  refine y_iload_n rfl rfl ?_
  refine y_iconst rfl ?_
  refine y_iadd rfl ?_
  refine y_istore rfl rfl rfl ?_
  refine y_aload_n rfl rfl ?_
  refine y_gfr rfl rfl rfl rfl rfl (hH.r 891 0 876 rfl) ?_
  refine y_iload rfl rfl ?_
  refine y_callV rfl rfl rfl (t_to_runEnd__p hH (z12 + 1) ⟨by omega, by omega⟩ _) ?_
  rintro _ _ ⟨rfl, z15, rfl, w15, w13, w14⟩
  show Pl _ _ _ _ _ _ [iv z15] _ _
  have gq39 := w13
  clear w13
  refine y_istore rfl rfl rfl ?_
  refine y_aload_n rfl rfl ?_
  refine y_gfr rfl rfl rfl rfl rfl (hH.r 891 4 895 rfl) ?_
  refine y_iconst rfl ?_
  refine y_iload_n rfl rfl ?_
  refine y_aload_n rfl rfl ?_
  refine y_gfr rfl rfl rfl rfl rfl (hH.r 891 0 876 rfl) ?_
  refine y_iload_n rfl rfl ?_
  refine y_callV rfl rfl rfl (t_to_runEnd__p hH z9 ⟨by omega, by omega⟩ _) ?_
  rintro _ _ ⟨rfl, z18, rfl, w18, w16, w17⟩
  show Pl _ _ _ _ _ _ [iv z18, iv z9, iv 0, .ref 895] _ _
  have gq55 := w16
  clear w16
  refine y_callV rfl rfl rfl (t_me_find__p hH 0 z9 z18 ⟨by omega, by omega⟩ ⟨by omega, by omega⟩ ⟨by omega, by omega⟩ (by first | assumption | omega) (by first | assumption | exact (by assumption : CEN S)) _) ?_
  rintro _ _ ⟨rfl, z19, rfl, w19, v58⟩
  show Pl _ _ _ _ _ _ [iv z19] _ _
  have K58 : z19 = fnd S 0 (bA (ty7 S) 0) (re7 (ty7 S) (bA (ty7 S) 0)) := by have t := v58; rw [← gq55, ← gq5] at t; exact t
  clear v58
  refine y_istore rfl rfl rfl ?_
  refine y_iload rfl rfl ?_
  refine y_iconst rfl ?_
  refine y_icmp_ne rfl rfl (by unfold rg; omega) (by unfold rg; omega) (fun w20 => ?_) (fun w21 => ?_)
  · refine y_aload_n rfl rfl ?_
    have k79 : fnd S 0 (bA (ty7 S) 0) (re7 (ty7 S) (bA (ty7 S) 0)) ≠ -1 := by omega
    refine y_gfr rfl rfl rfl rfl rfl (hH.r 891 2 1 rfl) ?_
    refine y_aload_n rfl rfl ?_
    refine y_gfr rfl rfl rfl rfl rfl (hH.r 891 0 876 rfl) ?_
    refine y_gfr rfl rfl rfl rfl rfl (hH.r 876 2 879 rfl) ?_
    refine y_iload_n rfl rfl ?_
    refine y_iload_n rfl rfl ?_
    refine y_callV rfl rfl rfl (t_vo_meaning__p hH 879 5130 ((Xi S 890 3) + 2) z12 rfl ⟨by omega, by omega⟩ ⟨by omega, by omega⟩ ⟨by omega, by omega⟩ (by first | assumption | omega) (by first | assumption | exact (by assumption : CEN S)) _) ?_
    rintro _ _ ⟨rfl, z22, rfl, w22, f92, n92⟩
    show Pl _ _ _ _ _ _ [iv z22] _ _
    have hm92 : mnV S (Xi S 890 3 + 2) (re7 (ty7 S) (Xi S 890 3 + 2)) = z22 := by have t := mnV_of f92 n92; rw [← gq24] at t; exact t
    clear f92 n92
    refine y_istore rfl rfl rfl ?_
    refine y_iload rfl rfl ?_
    refine y_bipush rfl rfl ?_
    refine y_ishr8 rfl (by unfold rg; omega) ?_
    refine y_iconst rfl ?_
    refine y_icmp_eq rfl rfl (by unfold rg; omega) (by unfold rg; omega) (fun w24 => ?_) (fun w25 => ?_)
    · refine y_aload_n rfl rfl ?_
      have K126 : tmC S (Xi S 890 3 + 2) (re7 (ty7 S) (Xi S 890 3 + 2)) = z22 % 256 := (tm_y hm92 (by omega)).symm
      have G126 : Hid (_ ∨ _) := mn_rg (a := (Xi S 890 3 + 2)) (b := (re7 (ty7 S) (Xi S 890 3 + 2))) hCE
      have g126 : 0 ≤ z22 % 256 ∧ z22 % 256 ≤ 63 := by have t := G126.o; rw [hm92] at t; rcases t with q | q; (exfalso; omega); omega
      have k126 : tmC S (Xi S 890 3 + 2) (re7 (ty7 S) (Xi S 890 3 + 2)) ≠ -1 := by omega
      refine y_gfr rfl rfl rfl rfl rfl (hH.r 891 2 1 rfl) ?_
      refine y_aload_n rfl rfl ?_
      refine y_gfr rfl rfl rfl rfl rfl (hH.r 891 0 876 rfl) ?_
      refine y_gfr rfl rfl rfl rfl rfl (hH.r 876 2 879 rfl) ?_
      refine y_iload rfl rfl ?_
      refine y_iload rfl rfl ?_
      refine y_callV rfl rfl rfl (t_vo_meaning__p hH 879 5130 (z12 + 1) z15 rfl ⟨by omega, by omega⟩ ⟨by omega, by omega⟩ ⟨by omega, by omega⟩ (by first | assumption | omega) (by first | assumption | exact (by assumption : CEN S)) _) ?_
      rintro _ _ ⟨rfl, z26, rfl, w26, f141, n141⟩
      show Pl _ _ _ _ _ _ [iv z26] _ _
      have hm141 : mnV S ((re7 (ty7 S) (Xi S 890 3 + 2)) + 1) (re7 (ty7 S) ((re7 (ty7 S) (Xi S 890 3 + 2)) + 1)) = z26 := by have t := mnV_of f141 n141; rw [← gq39, ← gq24] at t; exact t
      clear f141 n141
      have G141 : Hid (_ ∨ _) := mn_rg (a := ((re7 (ty7 S) (Xi S 890 3 + 2)) + 1)) (b := (re7 (ty7 S) ((re7 (ty7 S) (Xi S 890 3 + 2)) + 1))) hCE
      refine y_istore rfl rfl rfl ?_
      refine y_iload rfl rfl ?_
      refine y_iconst rfl ?_
      refine y_icmp_ne rfl rfl (by unfold rg; omega) (by unfold rg; omega) (fun w27 => ?_) (fun w28 => ?_)
      · refine y_iload rfl rfl ?_
        refine y_iconst rfl ?_
        refine y_icmp_eq rfl rfl (by unfold rg; omega) (by unfold rg; omega) (fun w29 => ?_) (fun w30 => ?_)
        · exfalso; omega
        · refine y_iload rfl rfl ?_
          have m181 : mnV S ((re7 (ty7 S) (Xi S 890 3 + 2)) + 1) (re7 (ty7 S) ((re7 (ty7 S) (Xi S 890 3 + 2)) + 1)) ≠ -1 := by omega
          have g181 : 0 ≤ z26 % 256 ∧ z26 % 256 ≤ 63 := by have t := G141.o; rw [hm141] at t; rcases t with q | q; (exfalso; omega); omega
          refine y_bipush rfl rfl ?_
          refine y_ishr8 rfl (by unfold rg; omega) ?_
          refine y_iconst rfl ?_
          refine y_icmp_eq rfl rfl (by unfold rg; omega) (by unfold rg; omega) (fun w32 => ?_) (fun w33 => ?_)
          · refine y_iload rfl rfl ?_
            refine y_sipush rfl rfl ?_
            refine y_iand255 rfl (by unfold rg; omega) ?_
            refine y_istore rfl rfl rfl ?_
            refine y_iload rfl rfl ?_
            refine y_iconst rfl ?_
            refine y_icmp_ne rfl rfl (by unfold rg; omega) (by unfold rg; omega) (fun w35 => ?_) (fun w36 => ?_)
            · refine y_aload_n rfl rfl ?_
              refine y_gfr rfl rfl rfl rfl rfl (hH.r 891 2 1 rfl) ?_
              refine y_gfr rfl rfl rfl rfl rfl (hH.r 1 8 9 rfl) ?_
              refine y_iload rfl rfl ?_
              refine y_ialoadP (n := 12) rfl rfl (by unfold rg; omega) (fun w37 w38 => ?_)
              have w39 : -2147483648 ≤ (Xi S 9 (((z26 % 256)).toNat)) ∧ (Xi S 9 (((z26 % 256)).toNat)) ≤ 2147483647 := Xi_rgI
              refine y_iload rfl rfl ?_
              refine y_sipush rfl rfl ?_
              refine y_iand255 rfl (by unfold rg; omega) ?_
              refine y_icmp_eq rfl rfl (by unfold rg; omega) (by unfold rg; omega) (fun w41 => ?_) (fun w42 => ?_)
              · refine y_aload_n rfl rfl ?_
                refine y_gfr rfl rfl rfl rfl rfl (hH.r 891 2 1 rfl) ?_
                refine y_gfr rfl rfl rfl rfl rfl (hH.r 1 6 7 rfl) ?_
                refine y_iload rfl rfl ?_
                refine y_dup2 rfl rfl ?_
                refine y_ialoadP (n := 16) rfl rfl (by unfold rg; omega) (fun w43 w44 => ?_)
                have w45 : -2147483648 ≤ (Xi S 7 ((z19).toNat)) ∧ (Xi S 7 ((z19).toNat)) ≤ 2147483647 := Xi_rgI
                refine y_iconst rfl ?_
                refine y_iload rfl rfl ?_
                refine y_ishlF rfl ?_
                have w46 : -2147483648 ≤ (ishlF 1 (z26 % 256)) ∧ (ishlF 1 (z26 % 256)) ≤ 2147483647 := ishlF_rg
                refine y_iorF rfl ?_
                have w47 : -2147483648 ≤ (iorF (Xi S 7 ((z19).toNat)) (ishlF 1 (z26 % 256))) ∧ (iorF (Xi S 7 ((z19).toNat)) (ishlF 1 (z26 % 256))) ≤ 2147483647 := iorF_rg
                refine y_iastoreP (n := 16) rfl rfl (by unfold rg; omega) (fun w48 w49 => ?_)
                obtain ⟨U1, eU1⟩ : ∃ T : sS, T = uI S 7 ((z19).toNat) (Int32.ofInt (iorF (Xi S 7 ((z19).toNat)) (ishlF 1 (z26 % 256)))) := ⟨_, rfl⟩
                rw [← eU1]
                have hHU1 : RI U1 := by rw [eU1]; exact RI_w hH
                have hFU1 : FR md_re_tellHas__p S U1 := by rw [eU1]; exact FR.wI hF (mdf_i (r := (7, 8, 0, 100000)) (List.mem_of_getElem? (i := 5) rfl) (inR_i (by omega) (by omega) (by omega) (by omega)))
                have w50 : Xi U1 7 ((z19).toNat) = (iorF (Xi S 7 ((z19).toNat)) (ishlF 1 (z26 % 256))) := by rw [eU1]; exact Xi_same (by unfold rg; omega)
                have K297 : True := trivial
                have R297 : THAS S U1 1 (bA (ty7 S) 0) (re7 (ty7 S) (bA (ty7 S) 0)) (Xi S 890 3 + 2) (re7 (ty7 S) (Xi S 890 3 + 2)) ((re7 (ty7 S) (Xi S 890 3 + 2)) + 1) (re7 (ty7 S) ((re7 (ty7 S) (Xi S 890 3 + 2)) + 1)) := by first | (have t := K215; exact thas_8 k79 k126 m152 A215.o (thas_n V215 f215 F215 F231 E231.o C231 c215 O231.o ee251 eU1 K58 K126.symm z231_ (by unfold rg; omega))) | (have Q := fnd_y (s := 5) hm141 (by omega); exact thas_7 k79 k126 m181 (by rw [← Q]; omega) (by rw [← Q]; omega) (thas_o hf eU1 K58 Q))
                refine y_iconst rfl ?_
                refine y_ireturn rfl rfl ?_
                have w51 : Xi U1 1 3 = Xi S 1 3 := (show Xi U1 1 3 = Xi S 1 3 from by rw [eU1]; exact Xi_ne (by omega))
                have w52 : Xi U1 5 5 = Xi S 5 5 := (show Xi U1 5 5 = Xi S 5 5 from by rw [eU1]; exact Xi_ne (by omega))
                have w53 : Xi U1 876 8 = Xi S 876 8 := (show Xi U1 876 8 = Xi S 876 8 from by rw [eU1]; exact Xi_ne (by omega))
                have w54 : Xi U1 891 9 = Xi S 891 9 := (show Xi U1 891 9 = Xi S 891 9 from by rw [eU1]; exact Xi_ne (by omega))
                exact ⟨hHU1, hFU1, _, rfl, ⟨by omega, by omega⟩, (by first | (have t := K297; exact R297) | (have t := K277; exact thas_6 k79 k126 m181 (by omega) N277 (by omega) Y277) | (have t := K197; exact thas_5 k79 k126 m181 f190 (by omega) Y197) | (have t := K167; exact thas_3 k79 k126 m152 n3_167.o n9_167.o ok_167.o (by omega) hn0) | (have t := K122; exact thas_2 k79 t122 (by omega) Y122) | (have t := K75; exact thas_1 (by omega) (by omega) Y75))⟩
              · refine y_aload_n rfl rfl ?_
                refine y_gfr rfl rfl rfl rfl rfl (hH.r 891 0 876 rfl) ?_
                refine y_iconst rfl ?_
                refine y_iload_n rfl rfl ?_
                refine y_callV rfl rfl rfl (t_to_wrong__p hH 5 z9 ⟨by omega, by omega⟩ ⟨by omega, by omega⟩ _) ?_
                rintro _ T2 ⟨hHT2, w58, z57, rfl, w57, w55, f277, w56⟩
                have hFT2 : FR md_re_tellHas__p S T2 := FR.tr hF w58 rfl
                show Pl _ _ _ _ _ _ [iv z57] _ _
                have K277 : True := trivial
                have Q277 : (z26 % 256) = fnd S 5 ((re7 (ty7 S) (Xi S 890 3 + 2)) + 1) (re7 (ty7 S) ((re7 (ty7 S) (Xi S 890 3 + 2)) + 1)) := by have t := fnd_y (s := 5) hm141 (by omega); exact t
                have N277 : Xi S 9 (fnd S 5 ((re7 (ty7 S) (Xi S 890 3 + 2)) + 1) (re7 (ty7 S) ((re7 (ty7 S) (Xi S 890 3 + 2)) + 1))).toNat ≠ tmC S (Xi S 890 3 + 2) (re7 (ty7 S) (Xi S 890 3 + 2)) := by rw [← Q277]; omega
                have Y277 : FTO S T2 5 (bA (ty7 S) 0) := by have t := f277 hf; rw [← gq5] at t; exact t
                refine y_ireturn rfl (retI_z (by omega)) ?_
                have w59 : Xi T2 1 3 = Xi S 1 3 := (show Xi T2 1 3 = Xi S 1 3 from w58.x _ _ rfl)
                have w60 : Xi T2 5 5 = Xi S 5 5 := (show Xi T2 5 5 = Xi S 5 5 from w58.x _ _ rfl)
                have w61 : Xi T2 891 9 = Xi S 891 9 := (show Xi T2 891 9 = Xi S 891 9 from w58.x _ _ rfl)
                exact ⟨hHT2, hFT2, _, rfl, ⟨by omega, by omega⟩, (by first | (have t := K297; exact R297) | (have t := K277; exact thas_6 k79 k126 m181 (by omega) N277 (by omega) Y277) | (have t := K197; exact thas_5 k79 k126 m181 f190 (by omega) Y197) | (have t := K167; exact thas_3 k79 k126 m152 n3_167.o n9_167.o ok_167.o (by omega) hn0) | (have t := K122; exact thas_2 k79 t122 (by omega) Y122) | (have t := K75; exact thas_1 (by omega) (by omega) Y75))⟩
            · exfalso; omega
          · refine y_aload_n rfl rfl ?_
            have f190 : fnd S 5 ((re7 (ty7 S) (Xi S 890 3 + 2)) + 1) (re7 (ty7 S) ((re7 (ty7 S) (Xi S 890 3 + 2)) + 1)) = -1 := (fnd_n hm141 (by omega)).symm
            refine y_gfr rfl rfl rfl rfl rfl (hH.r 891 0 876 rfl) ?_
            refine y_iconst rfl ?_
            refine y_iload rfl rfl ?_
            refine y_callV rfl rfl rfl (t_to_wrong__p hH 4 (z12 + 1) ⟨by omega, by omega⟩ ⟨by omega, by omega⟩ _) ?_
            rintro _ T3 ⟨hHT3, w65, z64, rfl, w64, w62, f197, w63⟩
            have hFT3 : FR md_re_tellHas__p S T3 := FR.tr hF w65 rfl
            show Pl _ _ _ _ _ _ [iv z64] _ _
            have K197 : True := trivial
            have Y197 : FTO S T3 4 ((re7 (ty7 S) (Xi S 890 3 + 2)) + 1) := by have t := f197 hf; rw [← gq24] at t; exact t
            refine y_ireturn rfl (retI_z (by omega)) ?_
            have w66 : Xi T3 1 3 = Xi S 1 3 := (show Xi T3 1 3 = Xi S 1 3 from w65.x _ _ rfl)
            have w67 : Xi T3 5 5 = Xi S 5 5 := (show Xi T3 5 5 = Xi S 5 5 from w65.x _ _ rfl)
            have w68 : Xi T3 891 9 = Xi S 891 9 := (show Xi T3 891 9 = Xi S 891 9 from w65.x _ _ rfl)
            exact ⟨hHT3, hFT3, _, rfl, ⟨by omega, by omega⟩, (by first | (have t := K297; exact R297) | (have t := K277; exact thas_6 k79 k126 m181 (by omega) N277 (by omega) Y277) | (have t := K197; exact thas_5 k79 k126 m181 f190 (by omega) Y197) | (have t := K167; exact thas_3 k79 k126 m152 n3_167.o n9_167.o ok_167.o (by omega) hn0) | (have t := K122; exact thas_2 k79 t122 (by omega) Y122) | (have t := K75; exact thas_1 (by omega) (by omega) Y75))⟩
      · refine y_aload_n rfl rfl ?_
        have m152 : mnV S ((re7 (ty7 S) (Xi S 890 3 + 2)) + 1) (re7 (ty7 S) ((re7 (ty7 S) (Xi S 890 3 + 2)) + 1)) = -1 := by omega
        refine y_iload rfl rfl ?_
        refine y_iload rfl rfl ?_
        refine y_aload_n rfl rfl ?_
        refine y_gfr rfl rfl rfl rfl rfl (hH.r 891 2 1 rfl) ?_
        refine y_iconst rfl ?_
        refine y_callV rfl rfl rfl (t_vo_countOf__p hH 5 ⟨by omega, by omega⟩ _) ?_
        rintro _ _ ⟨rfl, z69, rfl, w69, p162⟩
        show Pl _ _ _ _ _ _ [iv z69, iv z15, iv (z12 + 1), .ref 891] _ _
        have C162 : z69 = Xi S 5 5 := p162 (by omega) (by omega)
        clear p162
        refine y_bipush rfl rfl ?_
        refine y_callV rfl rfl rfl (t_re_takeNew__p hH (z12 + 1) z15 z69 12 ⟨by omega, by omega⟩ ⟨by omega, by omega⟩ ⟨by omega, by omega⟩ ⟨by omega, by omega⟩ (by first | assumption | omega) (by first | assumption | exact (by assumption : CEN S)) (by first | assumption | exact (by assumption : NRB S)) (by first | assumption | omega) (by first | assumption | omega) (by first | assumption | omega) (by omega) _) ?_
        rintro _ T4 ⟨hHT4, w71, z70, rfl, w70, n3_167_, n9_167_, ok_167_, nb_167⟩
        have hFT4 : FR md_re_tellHas__p S T4 := FR.tr hF w71 rfl
        show Pl _ _ _ _ _ _ [iv z70] _ _
        have K167 : True := trivial
        have n3_167 : Hid (¬ nwC S ((re7 (ty7 S) (Xi S 890 3 + 2)) + 1) (re7 (ty7 S) ((re7 (ty7 S) (Xi S 890 3 + 2)) + 1)) → z70 = 0 ∧ FTO S T4 3 ((re7 (ty7 S) (Xi S 890 3 + 2)) + 1)) := by have t := n3_167_; rw [← gq39, ← gq24] at t; (try rw [C162] at t); exact t
        have n9_167 : Hid (nwC S ((re7 (ty7 S) (Xi S 890 3 + 2)) + 1) (re7 (ty7 S) ((re7 (ty7 S) (Xi S 890 3 + 2)) + 1)) → 12 ≤ Xi S 5 5 + Xi S 891 9 → z70 = 0 ∧ FTO S T4 9 ((re7 (ty7 S) (Xi S 890 3 + 2)) + 1)) := by have t := n9_167_; rw [← gq39, ← gq24] at t; (try rw [C162] at t); exact t
        have ok_167 : Hid (nwC S ((re7 (ty7 S) (Xi S 890 3 + 2)) + 1) (re7 (ty7 S) ((re7 (ty7 S) (Xi S 890 3 + 2)) + 1)) → Xi S 5 5 + Xi S 891 9 < 12 → z70 = 1 ∧ Xi T4 876 8 = 0 ∧ Xi T4 891 9 = Xi S 891 9 + 1 ∧ Xi T4 892 (Xi S 891 9).toNat = ((re7 (ty7 S) (Xi S 890 3 + 2)) + 1) ∧ Xi T4 893 (Xi S 891 9).toNat = (re7 (ty7 S) ((re7 (ty7 S) (Xi S 890 3 + 2)) + 1)) ∧ ∀ j : Nat, (j : Int) < Xi S 891 9 → Xi T4 892 j = Xi S 892 j ∧ Xi T4 893 j = Xi S 893 j) := by have t := ok_167_; rw [← gq39, ← gq24] at t; (try rw [C162] at t); exact t
        clear n3_167_ n9_167_ ok_167_
        refine y_if_ne rfl rfl (by unfold rg; omega) (fun w72 => ?_) (fun w73 => ?_)
        · refine y_iload rfl rfl ?_
          refine y_iconst rfl ?_
          refine y_icmp_eq rfl rfl (by unfold rg; omega) (by unfold rg; omega) (fun w74 => ?_) (fun w75 => ?_)
          · refine y_iload rfl rfl ?_
            refine y_sipush rfl rfl ?_
            refine y_iand255 rfl (by unfold rg; omega) ?_
            refine y_istore rfl rfl rfl ?_
            refine y_iload rfl rfl ?_
            refine y_iconst rfl ?_
            refine y_icmp_ne rfl rfl (by unfold rg; omega) (by unfold rg; omega) (fun w77 => ?_) (fun w78 => ?_)
            · exfalso; omega
            · refine y_aload_n rfl rfl ?_
              have K215 : True := trivial
              have A215 : Hid (nwC S ((re7 (ty7 S) (Xi S 890 3 + 2)) + 1) (re7 (ty7 S) ((re7 (ty7 S) (Xi S 890 3 + 2)) + 1)) ∧ Xi S 5 5 < 12) := nk_m n3_167.o n9_167.o (by omega) hn0
              have r215 : Hid (_ ∧ _) := ok_167.o A215.o.1 (by have t := A215.o.2; omega)
              have f215 : Xi T4 876 8 = 0 := r215.o.2.1
              have F215 := (by assumption : FR md_re_takeNew__p S T4)
              have V215 : SMV S T4 := SMV_FR F215 rfl rfl
              have c215 : Xi T4 5 5 = Xi S 5 5 := (F215.cx 5 rfl 5).1
              have b215 : Xi S 5 5 < 12 := A215.o.2
              have e215 : Xi T4 1 3 = Xi S 1 3 := V215.1
              refine y_gfr rfl rfl rfl rfl rfl (hHT4.r 891 2 1 rfl) ?_
              refine y_iconst rfl ?_
              refine y_aload_n rfl rfl ?_
              refine y_gfr rfl rfl rfl rfl rfl (hHT4.r 891 0 876 rfl) ?_
              refine y_gfr rfl rfl rfl rfl rfl (hHT4.r 876 2 879 rfl) ?_
              refine y_iload rfl rfl ?_
              refine y_iload rfl rfl ?_
              have w79 : Xi T4 1 3 = Xi S 1 3 := (show Xi T4 1 3 = Xi S 1 3 from w71.x _ _ rfl)
              have w80 : Xi T4 5 5 = Xi S 5 5 := (show Xi T4 5 5 = Xi S 5 5 from w71.x _ _ rfl)
              refine y_callV rfl rfl rfl (t_vo_tellNew__p hHT4 5 879 5130 (z12 + 1) z15 ⟨by omega, by omega⟩ rfl ⟨by omega, by omega⟩ ⟨by omega, by omega⟩ ⟨by omega, by omega⟩ (by first | assumption | omega) (by first | assumption | omega) (Or.inl rfl) (⟨by show (0 : Int) ≤ Xi T4 5 5; omega, by show Xi T4 5 5 ≤ 62; omega⟩) _) ?_
              rintro _ T5 ⟨hHT5, w82, z81, rfl, w81, z231, c231, o231, e231⟩
              have hFT5 : FR md_re_tellHas__p S T5 := FR.tr hFT4 w82 rfl
              show Pl _ _ _ _ _ _ [iv z81] _ _
              have Z231 : z81 = Xi T4 5 5 := z231
              have C231 : Xi T5 5 5 = Xi T4 5 5 + 1 := c231
              have O231 : Hid (∀ j, j ≠ 5 → Xi T5 5 j = Xi T4 5 j) := o231
              have E231 : Hid (∃ i : Nat, NMI T4 T5 i 5 (Xi S 5 5) (wRw T4 879 ((re7 (ty7 S) (Xi S 890 3 + 2)) + 1) (re7 (ty7 S) ((re7 (ty7 S) (Xi S 890 3 + 2)) + 1)) 0) (wRw T4 879 ((re7 (ty7 S) (Xi S 890 3 + 2)) + 1) (re7 (ty7 S) ((re7 (ty7 S) (Xi S 890 3 + 2)) + 1)) 1) (wRw T4 879 ((re7 (ty7 S) (Xi S 890 3 + 2)) + 1) (re7 (ty7 S) ((re7 (ty7 S) (Xi S 890 3 + 2)) + 1)) 2)) := by have t := e231; rw [← gq39, ← gq24, show z81 = Xi S 5 5 by omega] at t; exact t
              have F231 := (by assumption : FR md_vo_tellNew__p T4 T5)
              have z231_ : z81 = Xi S 5 5 := by omega
              clear z231 c231 o231 e231
              refine y_istore rfl rfl rfl ?_
              refine y_aload_n rfl rfl ?_
              refine y_gfr rfl rfl rfl rfl rfl (hHT5.r 891 2 1 rfl) ?_
              refine y_gfr rfl rfl rfl rfl rfl (hHT5.r 1 8 9 rfl) ?_
              refine y_iload rfl rfl ?_
              refine y_iload rfl rfl ?_
              refine y_sipush rfl rfl ?_
              refine y_iand255 rfl (by unfold rg; omega) ?_
              refine y_iastoreP (n := 12) rfl rfl (by unfold rg; omega) (fun w84 w85 => ?_)
              obtain ⟨U6, eU6⟩ : ∃ T : sS, T = uI T5 9 ((z81).toNat) (Int32.ofInt (z22 % 256)) := ⟨_, rfl⟩
              rw [← eU6]
              have hHU6 : RI U6 := by rw [eU6]; exact RI_w hHT5
              have hFU6 : FR md_re_tellHas__p S U6 := by rw [eU6]; exact FR.wI hFT5 (mdf_i (r := (9, 10, 0, 100000)) (List.mem_of_getElem? (i := 6) rfl) (inR_i (by omega) (by omega) (by omega) (by omega)))
              have w86 : Xi U6 9 ((z81).toNat) = (z22 % 256) := by rw [eU6]; exact Xi_same (by unfold rg; omega)
              have ee251 := eU6
              refine y_aload_n rfl rfl ?_
              refine y_gfr rfl rfl rfl rfl rfl (hHU6.r 891 2 1 rfl) ?_
              refine y_gfr rfl rfl rfl rfl rfl (hHU6.r 1 8 9 rfl) ?_
              refine y_iload rfl rfl ?_
              refine y_ialoadP (n := 12) rfl rfl (by unfold rg; omega) (fun w87 w88 => ?_)
              refine y_iload rfl rfl ?_
              refine y_sipush rfl rfl ?_
              refine y_iand255 rfl (by unfold rg; omega) ?_
              refine y_icmp_eq rfl rfl (by unfold rg; omega) (by unfold rg; omega) (fun w90 => ?_) (fun w91 => ?_)
              · refine y_aload_n rfl rfl ?_
                refine y_gfr rfl rfl rfl rfl rfl (hHU6.r 891 2 1 rfl) ?_
                refine y_gfr rfl rfl rfl rfl rfl (hHU6.r 1 6 7 rfl) ?_
                refine y_iload rfl rfl ?_
                refine y_dup2 rfl rfl ?_
                refine y_ialoadP (n := 16) rfl rfl (by unfold rg; omega) (fun w92 w93 => ?_)
                have w94 : -2147483648 ≤ (Xi U6 7 ((z19).toNat)) ∧ (Xi U6 7 ((z19).toNat)) ≤ 2147483647 := Xi_rgI
                refine y_iconst rfl ?_
                refine y_iload rfl rfl ?_
                refine y_ishlF rfl ?_
                have w95 : -2147483648 ≤ (ishlF 1 z81) ∧ (ishlF 1 z81) ≤ 2147483647 := ishlF_rg
                refine y_iorF rfl ?_
                have w96 : -2147483648 ≤ (iorF (Xi U6 7 ((z19).toNat)) (ishlF 1 z81)) ∧ (iorF (Xi U6 7 ((z19).toNat)) (ishlF 1 z81)) ≤ 2147483647 := iorF_rg
                refine y_iastoreP (n := 16) rfl rfl (by unfold rg; omega) (fun w97 w98 => ?_)
                obtain ⟨U7, eU7⟩ : ∃ T : sS, T = uI U6 7 ((z19).toNat) (Int32.ofInt (iorF (Xi U6 7 ((z19).toNat)) (ishlF 1 z81))) := ⟨_, rfl⟩
                rw [← eU7]
                have hHU7 : RI U7 := by rw [eU7]; exact RI_w hHU6
                have hFU7 : FR md_re_tellHas__p S U7 := by rw [eU7]; exact FR.wI hFU6 (mdf_i (r := (7, 8, 0, 100000)) (List.mem_of_getElem? (i := 5) rfl) (inR_i (by omega) (by omega) (by omega) (by omega)))
                have w99 : Xi U7 7 ((z19).toNat) = (iorF (Xi U6 7 ((z19).toNat)) (ishlF 1 z81)) := by rw [eU7]; exact Xi_same (by unfold rg; omega)
                have K297 : True := trivial
                have R297 : THAS S U7 1 (bA (ty7 S) 0) (re7 (ty7 S) (bA (ty7 S) 0)) (Xi S 890 3 + 2) (re7 (ty7 S) (Xi S 890 3 + 2)) ((re7 (ty7 S) (Xi S 890 3 + 2)) + 1) (re7 (ty7 S) ((re7 (ty7 S) (Xi S 890 3 + 2)) + 1)) := by first | (have t := K215; exact thas_8 k79 k126 m152 A215.o (thas_n V215 f215 F215 F231 E231.o C231 c215 O231.o ee251 eU7 K58 K126.symm z231_ (by unfold rg; omega))) | (have Q := fnd_y (s := 5) hm141 (by omega); exact thas_7 k79 k126 m181 (by rw [← Q]; omega) (by rw [← Q]; omega) (thas_o hf eU7 K58 Q))
                refine y_iconst rfl ?_
                refine y_ireturn rfl rfl ?_
                have w100 : Xi U7 1 3 = Xi T5 1 3 := (show Xi U7 1 3 = Xi U6 1 3 from by rw [eU7]; exact Xi_ne (by omega)).trans ((show Xi U6 1 3 = Xi T5 1 3 from by rw [eU6]; exact Xi_ne (by omega)))
                have w101 : Xi U7 5 5 = Xi T5 5 5 := (show Xi U7 5 5 = Xi U6 5 5 from by rw [eU7]; exact Xi_ne (by omega)).trans ((show Xi U6 5 5 = Xi T5 5 5 from by rw [eU6]; exact Xi_ne (by omega)))
                have w102 : Xi U7 876 8 = Xi T4 876 8 := (show Xi U7 876 8 = Xi U6 876 8 from by rw [eU7]; exact Xi_ne (by omega)).trans ( (show Xi U6 876 8 = Xi T5 876 8 from by rw [eU6]; exact Xi_ne (by omega)).trans ((show Xi T5 876 8 = Xi T4 876 8 from w82.x _ _ rfl)))
                have w103 : Xi U7 891 9 = Xi T4 891 9 := (show Xi U7 891 9 = Xi U6 891 9 from by rw [eU7]; exact Xi_ne (by omega)).trans ( (show Xi U6 891 9 = Xi T5 891 9 from by rw [eU6]; exact Xi_ne (by omega)).trans ((show Xi T5 891 9 = Xi T4 891 9 from w82.x _ _ rfl)))
                exact ⟨hHU7, hFU7, _, rfl, ⟨by omega, by omega⟩, (by first | (have t := K297; exact R297) | (have t := K277; exact thas_6 k79 k126 m181 (by omega) N277 (by omega) Y277) | (have t := K197; exact thas_5 k79 k126 m181 f190 (by omega) Y197) | (have t := K167; exact thas_3 k79 k126 m152 n3_167.o n9_167.o ok_167.o (by omega) hn0) | (have t := K122; exact thas_2 k79 t122 (by omega) Y122) | (have t := K75; exact thas_1 (by omega) (by omega) Y75))⟩
              · exfalso; omega
          · exfalso; omega
        · refine y_iconst rfl ?_
          refine y_ireturn rfl rfl ?_
          have w104 : Xi T4 1 3 = Xi S 1 3 := (show Xi T4 1 3 = Xi S 1 3 from w71.x _ _ rfl)
          have w105 : Xi T4 5 5 = Xi S 5 5 := (show Xi T4 5 5 = Xi S 5 5 from w71.x _ _ rfl)
          exact ⟨hHT4, hFT4, _, rfl, ⟨by omega, by omega⟩, (by first | (have t := K297; exact R297) | (have t := K277; exact thas_6 k79 k126 m181 (by omega) N277 (by omega) Y277) | (have t := K197; exact thas_5 k79 k126 m181 f190 (by omega) Y197) | (have t := K167; exact thas_3 k79 k126 m152 n3_167.o n9_167.o ok_167.o (by omega) hn0) | (have t := K122; exact thas_2 k79 t122 (by omega) Y122) | (have t := K75; exact thas_1 (by omega) (by omega) Y75))⟩
    · refine y_iload rfl rfl ?_
      refine y_bipush rfl rfl ?_
      refine y_ishr8 rfl (by unfold rg; omega) ?_
      refine y_bipush rfl rfl ?_
      refine y_icmp_eq rfl rfl (by unfold rg; omega) (by unfold rg; omega) (fun w107 => ?_) (fun w108 => ?_)
      · refine y_aload_n rfl rfl ?_
        have K126 : tmC S (Xi S 890 3 + 2) (re7 (ty7 S) (Xi S 890 3 + 2)) = z22 % 256 := (tm_y hm92 (by omega)).symm
        have G126 : Hid (_ ∨ _) := mn_rg (a := (Xi S 890 3 + 2)) (b := (re7 (ty7 S) (Xi S 890 3 + 2))) hCE
        have g126 : 0 ≤ z22 % 256 ∧ z22 % 256 ≤ 63 := by have t := G126.o; rw [hm92] at t; rcases t with q | q; (exfalso; omega); omega
        have k126 : tmC S (Xi S 890 3 + 2) (re7 (ty7 S) (Xi S 890 3 + 2)) ≠ -1 := by omega
        refine y_gfr rfl rfl rfl rfl rfl (hH.r 891 2 1 rfl) ?_
        refine y_aload_n rfl rfl ?_
        refine y_gfr rfl rfl rfl rfl rfl (hH.r 891 0 876 rfl) ?_
        refine y_gfr rfl rfl rfl rfl rfl (hH.r 876 2 879 rfl) ?_
        refine y_iload rfl rfl ?_
        refine y_iload rfl rfl ?_
        refine y_callV rfl rfl rfl (t_vo_meaning__p hH 879 5130 (z12 + 1) z15 rfl ⟨by omega, by omega⟩ ⟨by omega, by omega⟩ ⟨by omega, by omega⟩ (by first | assumption | omega) (by first | assumption | exact (by assumption : CEN S)) _) ?_
        rintro _ _ ⟨rfl, z109, rfl, w109, f141, n141⟩
        show Pl _ _ _ _ _ _ [iv z109] _ _
        have hm141 : mnV S ((re7 (ty7 S) (Xi S 890 3 + 2)) + 1) (re7 (ty7 S) ((re7 (ty7 S) (Xi S 890 3 + 2)) + 1)) = z109 := by have t := mnV_of f141 n141; rw [← gq39, ← gq24] at t; exact t
        clear f141 n141
        have G141 : Hid (_ ∨ _) := mn_rg (a := ((re7 (ty7 S) (Xi S 890 3 + 2)) + 1)) (b := (re7 (ty7 S) ((re7 (ty7 S) (Xi S 890 3 + 2)) + 1))) hCE
        refine y_istore rfl rfl rfl ?_
        refine y_iload rfl rfl ?_
        refine y_iconst rfl ?_
        refine y_icmp_ne rfl rfl (by unfold rg; omega) (by unfold rg; omega) (fun w110 => ?_) (fun w111 => ?_)
        · refine y_iload rfl rfl ?_
          refine y_iconst rfl ?_
          refine y_icmp_eq rfl rfl (by unfold rg; omega) (by unfold rg; omega) (fun w112 => ?_) (fun w113 => ?_)
          · exfalso; omega
          · refine y_iload rfl rfl ?_
            have m181 : mnV S ((re7 (ty7 S) (Xi S 890 3 + 2)) + 1) (re7 (ty7 S) ((re7 (ty7 S) (Xi S 890 3 + 2)) + 1)) ≠ -1 := by omega
            have g181 : 0 ≤ z109 % 256 ∧ z109 % 256 ≤ 63 := by have t := G141.o; rw [hm141] at t; rcases t with q | q; (exfalso; omega); omega
            refine y_bipush rfl rfl ?_
            refine y_ishr8 rfl (by unfold rg; omega) ?_
            refine y_iconst rfl ?_
            refine y_icmp_eq rfl rfl (by unfold rg; omega) (by unfold rg; omega) (fun w115 => ?_) (fun w116 => ?_)
            · refine y_iload rfl rfl ?_
              refine y_sipush rfl rfl ?_
              refine y_iand255 rfl (by unfold rg; omega) ?_
              refine y_istore rfl rfl rfl ?_
              refine y_iload rfl rfl ?_
              refine y_iconst rfl ?_
              refine y_icmp_ne rfl rfl (by unfold rg; omega) (by unfold rg; omega) (fun w118 => ?_) (fun w119 => ?_)
              · refine y_aload_n rfl rfl ?_
                refine y_gfr rfl rfl rfl rfl rfl (hH.r 891 2 1 rfl) ?_
                refine y_gfr rfl rfl rfl rfl rfl (hH.r 1 8 9 rfl) ?_
                refine y_iload rfl rfl ?_
                refine y_ialoadP (n := 12) rfl rfl (by unfold rg; omega) (fun w120 w121 => ?_)
                have w122 : -2147483648 ≤ (Xi S 9 (((z109 % 256)).toNat)) ∧ (Xi S 9 (((z109 % 256)).toNat)) ≤ 2147483647 := Xi_rgI
                refine y_iload rfl rfl ?_
                refine y_sipush rfl rfl ?_
                refine y_iand255 rfl (by unfold rg; omega) ?_
                refine y_icmp_eq rfl rfl (by unfold rg; omega) (by unfold rg; omega) (fun w124 => ?_) (fun w125 => ?_)
                · refine y_aload_n rfl rfl ?_
                  refine y_gfr rfl rfl rfl rfl rfl (hH.r 891 2 1 rfl) ?_
                  refine y_gfr rfl rfl rfl rfl rfl (hH.r 1 6 7 rfl) ?_
                  refine y_iload rfl rfl ?_
                  refine y_dup2 rfl rfl ?_
                  refine y_ialoadP (n := 16) rfl rfl (by unfold rg; omega) (fun w126 w127 => ?_)
                  have w128 : -2147483648 ≤ (Xi S 7 ((z19).toNat)) ∧ (Xi S 7 ((z19).toNat)) ≤ 2147483647 := Xi_rgI
                  refine y_iconst rfl ?_
                  refine y_iload rfl rfl ?_
                  refine y_ishlF rfl ?_
                  have w129 : -2147483648 ≤ (ishlF 1 (z109 % 256)) ∧ (ishlF 1 (z109 % 256)) ≤ 2147483647 := ishlF_rg
                  refine y_iorF rfl ?_
                  have w130 : -2147483648 ≤ (iorF (Xi S 7 ((z19).toNat)) (ishlF 1 (z109 % 256))) ∧ (iorF (Xi S 7 ((z19).toNat)) (ishlF 1 (z109 % 256))) ≤ 2147483647 := iorF_rg
                  refine y_iastoreP (n := 16) rfl rfl (by unfold rg; omega) (fun w131 w132 => ?_)
                  obtain ⟨U8, eU8⟩ : ∃ T : sS, T = uI S 7 ((z19).toNat) (Int32.ofInt (iorF (Xi S 7 ((z19).toNat)) (ishlF 1 (z109 % 256)))) := ⟨_, rfl⟩
                  rw [← eU8]
                  have hHU8 : RI U8 := by rw [eU8]; exact RI_w hH
                  have hFU8 : FR md_re_tellHas__p S U8 := by rw [eU8]; exact FR.wI hF (mdf_i (r := (7, 8, 0, 100000)) (List.mem_of_getElem? (i := 5) rfl) (inR_i (by omega) (by omega) (by omega) (by omega)))
                  have w133 : Xi U8 7 ((z19).toNat) = (iorF (Xi S 7 ((z19).toNat)) (ishlF 1 (z109 % 256))) := by rw [eU8]; exact Xi_same (by unfold rg; omega)
                  have K297 : True := trivial
                  have R297 : THAS S U8 1 (bA (ty7 S) 0) (re7 (ty7 S) (bA (ty7 S) 0)) (Xi S 890 3 + 2) (re7 (ty7 S) (Xi S 890 3 + 2)) ((re7 (ty7 S) (Xi S 890 3 + 2)) + 1) (re7 (ty7 S) ((re7 (ty7 S) (Xi S 890 3 + 2)) + 1)) := by first | (have t := K215; exact thas_8 k79 k126 m152 A215.o (thas_n V215 f215 F215 F231 E231.o C231 c215 O231.o ee251 eU8 K58 K126.symm z231_ (by unfold rg; omega))) | (have Q := fnd_y (s := 5) hm141 (by omega); exact thas_7 k79 k126 m181 (by rw [← Q]; omega) (by rw [← Q]; omega) (thas_o hf eU8 K58 Q))
                  refine y_iconst rfl ?_
                  refine y_ireturn rfl rfl ?_
                  have w134 : Xi U8 1 3 = Xi S 1 3 := (show Xi U8 1 3 = Xi S 1 3 from by rw [eU8]; exact Xi_ne (by omega))
                  have w135 : Xi U8 5 5 = Xi S 5 5 := (show Xi U8 5 5 = Xi S 5 5 from by rw [eU8]; exact Xi_ne (by omega))
                  have w136 : Xi U8 876 8 = Xi S 876 8 := (show Xi U8 876 8 = Xi S 876 8 from by rw [eU8]; exact Xi_ne (by omega))
                  have w137 : Xi U8 891 9 = Xi S 891 9 := (show Xi U8 891 9 = Xi S 891 9 from by rw [eU8]; exact Xi_ne (by omega))
                  exact ⟨hHU8, hFU8, _, rfl, ⟨by omega, by omega⟩, (by first | (have t := K297; exact R297) | (have t := K277; exact thas_6 k79 k126 m181 (by omega) N277 (by omega) Y277) | (have t := K197; exact thas_5 k79 k126 m181 f190 (by omega) Y197) | (have t := K167; exact thas_3 k79 k126 m152 n3_167.o n9_167.o ok_167.o (by omega) hn0) | (have t := K122; exact thas_2 k79 t122 (by omega) Y122) | (have t := K75; exact thas_1 (by omega) (by omega) Y75))⟩
                · refine y_aload_n rfl rfl ?_
                  refine y_gfr rfl rfl rfl rfl rfl (hH.r 891 0 876 rfl) ?_
                  refine y_iconst rfl ?_
                  refine y_iload_n rfl rfl ?_
                  refine y_callV rfl rfl rfl (t_to_wrong__p hH 5 z9 ⟨by omega, by omega⟩ ⟨by omega, by omega⟩ _) ?_
                  rintro _ T9 ⟨hHT9, w141, z140, rfl, w140, w138, f277, w139⟩
                  have hFT9 : FR md_re_tellHas__p S T9 := FR.tr hF w141 rfl
                  show Pl _ _ _ _ _ _ [iv z140] _ _
                  have K277 : True := trivial
                  have Q277 : (z109 % 256) = fnd S 5 ((re7 (ty7 S) (Xi S 890 3 + 2)) + 1) (re7 (ty7 S) ((re7 (ty7 S) (Xi S 890 3 + 2)) + 1)) := by have t := fnd_y (s := 5) hm141 (by omega); exact t
                  have N277 : Xi S 9 (fnd S 5 ((re7 (ty7 S) (Xi S 890 3 + 2)) + 1) (re7 (ty7 S) ((re7 (ty7 S) (Xi S 890 3 + 2)) + 1))).toNat ≠ tmC S (Xi S 890 3 + 2) (re7 (ty7 S) (Xi S 890 3 + 2)) := by rw [← Q277]; omega
                  have Y277 : FTO S T9 5 (bA (ty7 S) 0) := by have t := f277 hf; rw [← gq5] at t; exact t
                  refine y_ireturn rfl (retI_z (by omega)) ?_
                  have w142 : Xi T9 1 3 = Xi S 1 3 := (show Xi T9 1 3 = Xi S 1 3 from w141.x _ _ rfl)
                  have w143 : Xi T9 5 5 = Xi S 5 5 := (show Xi T9 5 5 = Xi S 5 5 from w141.x _ _ rfl)
                  have w144 : Xi T9 891 9 = Xi S 891 9 := (show Xi T9 891 9 = Xi S 891 9 from w141.x _ _ rfl)
                  exact ⟨hHT9, hFT9, _, rfl, ⟨by omega, by omega⟩, (by first | (have t := K297; exact R297) | (have t := K277; exact thas_6 k79 k126 m181 (by omega) N277 (by omega) Y277) | (have t := K197; exact thas_5 k79 k126 m181 f190 (by omega) Y197) | (have t := K167; exact thas_3 k79 k126 m152 n3_167.o n9_167.o ok_167.o (by omega) hn0) | (have t := K122; exact thas_2 k79 t122 (by omega) Y122) | (have t := K75; exact thas_1 (by omega) (by omega) Y75))⟩
              · exfalso; omega
            · refine y_aload_n rfl rfl ?_
              have f190 : fnd S 5 ((re7 (ty7 S) (Xi S 890 3 + 2)) + 1) (re7 (ty7 S) ((re7 (ty7 S) (Xi S 890 3 + 2)) + 1)) = -1 := (fnd_n hm141 (by omega)).symm
              refine y_gfr rfl rfl rfl rfl rfl (hH.r 891 0 876 rfl) ?_
              refine y_iconst rfl ?_
              refine y_iload rfl rfl ?_
              refine y_callV rfl rfl rfl (t_to_wrong__p hH 4 (z12 + 1) ⟨by omega, by omega⟩ ⟨by omega, by omega⟩ _) ?_
              rintro _ T10 ⟨hHT10, w148, z147, rfl, w147, w145, f197, w146⟩
              have hFT10 : FR md_re_tellHas__p S T10 := FR.tr hF w148 rfl
              show Pl _ _ _ _ _ _ [iv z147] _ _
              have K197 : True := trivial
              have Y197 : FTO S T10 4 ((re7 (ty7 S) (Xi S 890 3 + 2)) + 1) := by have t := f197 hf; rw [← gq24] at t; exact t
              refine y_ireturn rfl (retI_z (by omega)) ?_
              have w149 : Xi T10 1 3 = Xi S 1 3 := (show Xi T10 1 3 = Xi S 1 3 from w148.x _ _ rfl)
              have w150 : Xi T10 5 5 = Xi S 5 5 := (show Xi T10 5 5 = Xi S 5 5 from w148.x _ _ rfl)
              have w151 : Xi T10 891 9 = Xi S 891 9 := (show Xi T10 891 9 = Xi S 891 9 from w148.x _ _ rfl)
              exact ⟨hHT10, hFT10, _, rfl, ⟨by omega, by omega⟩, (by first | (have t := K297; exact R297) | (have t := K277; exact thas_6 k79 k126 m181 (by omega) N277 (by omega) Y277) | (have t := K197; exact thas_5 k79 k126 m181 f190 (by omega) Y197) | (have t := K167; exact thas_3 k79 k126 m152 n3_167.o n9_167.o ok_167.o (by omega) hn0) | (have t := K122; exact thas_2 k79 t122 (by omega) Y122) | (have t := K75; exact thas_1 (by omega) (by omega) Y75))⟩
        · refine y_aload_n rfl rfl ?_
          have m152 : mnV S ((re7 (ty7 S) (Xi S 890 3 + 2)) + 1) (re7 (ty7 S) ((re7 (ty7 S) (Xi S 890 3 + 2)) + 1)) = -1 := by omega
          refine y_iload rfl rfl ?_
          refine y_iload rfl rfl ?_
          refine y_aload_n rfl rfl ?_
          refine y_gfr rfl rfl rfl rfl rfl (hH.r 891 2 1 rfl) ?_
          refine y_iconst rfl ?_
          refine y_callV rfl rfl rfl (t_vo_countOf__p hH 5 ⟨by omega, by omega⟩ _) ?_
          rintro _ _ ⟨rfl, z152, rfl, w152, p162⟩
          show Pl _ _ _ _ _ _ [iv z152, iv z15, iv (z12 + 1), .ref 891] _ _
          have C162 : z152 = Xi S 5 5 := p162 (by omega) (by omega)
          clear p162
          refine y_bipush rfl rfl ?_
          refine y_callV rfl rfl rfl (t_re_takeNew__p hH (z12 + 1) z15 z152 12 ⟨by omega, by omega⟩ ⟨by omega, by omega⟩ ⟨by omega, by omega⟩ ⟨by omega, by omega⟩ (by first | assumption | omega) (by first | assumption | exact (by assumption : CEN S)) (by first | assumption | exact (by assumption : NRB S)) (by first | assumption | omega) (by first | assumption | omega) (by first | assumption | omega) (by omega) _) ?_
          rintro _ T11 ⟨hHT11, w154, z153, rfl, w153, n3_167_, n9_167_, ok_167_, nb_167⟩
          have hFT11 : FR md_re_tellHas__p S T11 := FR.tr hF w154 rfl
          show Pl _ _ _ _ _ _ [iv z153] _ _
          have K167 : True := trivial
          have n3_167 : Hid (¬ nwC S ((re7 (ty7 S) (Xi S 890 3 + 2)) + 1) (re7 (ty7 S) ((re7 (ty7 S) (Xi S 890 3 + 2)) + 1)) → z153 = 0 ∧ FTO S T11 3 ((re7 (ty7 S) (Xi S 890 3 + 2)) + 1)) := by have t := n3_167_; rw [← gq39, ← gq24] at t; (try rw [C162] at t); exact t
          have n9_167 : Hid (nwC S ((re7 (ty7 S) (Xi S 890 3 + 2)) + 1) (re7 (ty7 S) ((re7 (ty7 S) (Xi S 890 3 + 2)) + 1)) → 12 ≤ Xi S 5 5 + Xi S 891 9 → z153 = 0 ∧ FTO S T11 9 ((re7 (ty7 S) (Xi S 890 3 + 2)) + 1)) := by have t := n9_167_; rw [← gq39, ← gq24] at t; (try rw [C162] at t); exact t
          have ok_167 : Hid (nwC S ((re7 (ty7 S) (Xi S 890 3 + 2)) + 1) (re7 (ty7 S) ((re7 (ty7 S) (Xi S 890 3 + 2)) + 1)) → Xi S 5 5 + Xi S 891 9 < 12 → z153 = 1 ∧ Xi T11 876 8 = 0 ∧ Xi T11 891 9 = Xi S 891 9 + 1 ∧ Xi T11 892 (Xi S 891 9).toNat = ((re7 (ty7 S) (Xi S 890 3 + 2)) + 1) ∧ Xi T11 893 (Xi S 891 9).toNat = (re7 (ty7 S) ((re7 (ty7 S) (Xi S 890 3 + 2)) + 1)) ∧ ∀ j : Nat, (j : Int) < Xi S 891 9 → Xi T11 892 j = Xi S 892 j ∧ Xi T11 893 j = Xi S 893 j) := by have t := ok_167_; rw [← gq39, ← gq24] at t; (try rw [C162] at t); exact t
          clear n3_167_ n9_167_ ok_167_
          refine y_if_ne rfl rfl (by unfold rg; omega) (fun w155 => ?_) (fun w156 => ?_)
          · refine y_iload rfl rfl ?_
            refine y_iconst rfl ?_
            refine y_icmp_eq rfl rfl (by unfold rg; omega) (by unfold rg; omega) (fun w157 => ?_) (fun w158 => ?_)
            · refine y_iload rfl rfl ?_
              refine y_sipush rfl rfl ?_
              refine y_iand255 rfl (by unfold rg; omega) ?_
              refine y_istore rfl rfl rfl ?_
              refine y_iload rfl rfl ?_
              refine y_iconst rfl ?_
              refine y_icmp_ne rfl rfl (by unfold rg; omega) (by unfold rg; omega) (fun w160 => ?_) (fun w161 => ?_)
              · exfalso; omega
              · refine y_aload_n rfl rfl ?_
                have K215 : True := trivial
                have A215 : Hid (nwC S ((re7 (ty7 S) (Xi S 890 3 + 2)) + 1) (re7 (ty7 S) ((re7 (ty7 S) (Xi S 890 3 + 2)) + 1)) ∧ Xi S 5 5 < 12) := nk_m n3_167.o n9_167.o (by omega) hn0
                have r215 : Hid (_ ∧ _) := ok_167.o A215.o.1 (by have t := A215.o.2; omega)
                have f215 : Xi T11 876 8 = 0 := r215.o.2.1
                have F215 := (by assumption : FR md_re_takeNew__p S T11)
                have V215 : SMV S T11 := SMV_FR F215 rfl rfl
                have c215 : Xi T11 5 5 = Xi S 5 5 := (F215.cx 5 rfl 5).1
                have b215 : Xi S 5 5 < 12 := A215.o.2
                have e215 : Xi T11 1 3 = Xi S 1 3 := V215.1
                refine y_gfr rfl rfl rfl rfl rfl (hHT11.r 891 2 1 rfl) ?_
                refine y_iconst rfl ?_
                refine y_aload_n rfl rfl ?_
                refine y_gfr rfl rfl rfl rfl rfl (hHT11.r 891 0 876 rfl) ?_
                refine y_gfr rfl rfl rfl rfl rfl (hHT11.r 876 2 879 rfl) ?_
                refine y_iload rfl rfl ?_
                refine y_iload rfl rfl ?_
                have w162 : Xi T11 1 3 = Xi S 1 3 := (show Xi T11 1 3 = Xi S 1 3 from w154.x _ _ rfl)
                have w163 : Xi T11 5 5 = Xi S 5 5 := (show Xi T11 5 5 = Xi S 5 5 from w154.x _ _ rfl)
                refine y_callV rfl rfl rfl (t_vo_tellNew__p hHT11 5 879 5130 (z12 + 1) z15 ⟨by omega, by omega⟩ rfl ⟨by omega, by omega⟩ ⟨by omega, by omega⟩ ⟨by omega, by omega⟩ (by first | assumption | omega) (by first | assumption | omega) (Or.inl rfl) (⟨by show (0 : Int) ≤ Xi T11 5 5; omega, by show Xi T11 5 5 ≤ 62; omega⟩) _) ?_
                rintro _ T12 ⟨hHT12, w165, z164, rfl, w164, z231, c231, o231, e231⟩
                have hFT12 : FR md_re_tellHas__p S T12 := FR.tr hFT11 w165 rfl
                show Pl _ _ _ _ _ _ [iv z164] _ _
                have Z231 : z164 = Xi T11 5 5 := z231
                have C231 : Xi T12 5 5 = Xi T11 5 5 + 1 := c231
                have O231 : Hid (∀ j, j ≠ 5 → Xi T12 5 j = Xi T11 5 j) := o231
                have E231 : Hid (∃ i : Nat, NMI T11 T12 i 5 (Xi S 5 5) (wRw T11 879 ((re7 (ty7 S) (Xi S 890 3 + 2)) + 1) (re7 (ty7 S) ((re7 (ty7 S) (Xi S 890 3 + 2)) + 1)) 0) (wRw T11 879 ((re7 (ty7 S) (Xi S 890 3 + 2)) + 1) (re7 (ty7 S) ((re7 (ty7 S) (Xi S 890 3 + 2)) + 1)) 1) (wRw T11 879 ((re7 (ty7 S) (Xi S 890 3 + 2)) + 1) (re7 (ty7 S) ((re7 (ty7 S) (Xi S 890 3 + 2)) + 1)) 2)) := by have t := e231; rw [← gq39, ← gq24, show z164 = Xi S 5 5 by omega] at t; exact t
                have F231 := (by assumption : FR md_vo_tellNew__p T11 T12)
                have z231_ : z164 = Xi S 5 5 := by omega
                clear z231 c231 o231 e231
                refine y_istore rfl rfl rfl ?_
                refine y_aload_n rfl rfl ?_
                refine y_gfr rfl rfl rfl rfl rfl (hHT12.r 891 2 1 rfl) ?_
                refine y_gfr rfl rfl rfl rfl rfl (hHT12.r 1 8 9 rfl) ?_
                refine y_iload rfl rfl ?_
                refine y_iload rfl rfl ?_
                refine y_sipush rfl rfl ?_
                refine y_iand255 rfl (by unfold rg; omega) ?_
                refine y_iastoreP (n := 12) rfl rfl (by unfold rg; omega) (fun w167 w168 => ?_)
                obtain ⟨U13, eU13⟩ : ∃ T : sS, T = uI T12 9 ((z164).toNat) (Int32.ofInt (z22 % 256)) := ⟨_, rfl⟩
                rw [← eU13]
                have hHU13 : RI U13 := by rw [eU13]; exact RI_w hHT12
                have hFU13 : FR md_re_tellHas__p S U13 := by rw [eU13]; exact FR.wI hFT12 (mdf_i (r := (9, 10, 0, 100000)) (List.mem_of_getElem? (i := 6) rfl) (inR_i (by omega) (by omega) (by omega) (by omega)))
                have w169 : Xi U13 9 ((z164).toNat) = (z22 % 256) := by rw [eU13]; exact Xi_same (by unfold rg; omega)
                have ee251 := eU13
                refine y_aload_n rfl rfl ?_
                refine y_gfr rfl rfl rfl rfl rfl (hHU13.r 891 2 1 rfl) ?_
                refine y_gfr rfl rfl rfl rfl rfl (hHU13.r 1 8 9 rfl) ?_
                refine y_iload rfl rfl ?_
                refine y_ialoadP (n := 12) rfl rfl (by unfold rg; omega) (fun w170 w171 => ?_)
                refine y_iload rfl rfl ?_
                refine y_sipush rfl rfl ?_
                refine y_iand255 rfl (by unfold rg; omega) ?_
                refine y_icmp_eq rfl rfl (by unfold rg; omega) (by unfold rg; omega) (fun w173 => ?_) (fun w174 => ?_)
                · refine y_aload_n rfl rfl ?_
                  refine y_gfr rfl rfl rfl rfl rfl (hHU13.r 891 2 1 rfl) ?_
                  refine y_gfr rfl rfl rfl rfl rfl (hHU13.r 1 6 7 rfl) ?_
                  refine y_iload rfl rfl ?_
                  refine y_dup2 rfl rfl ?_
                  refine y_ialoadP (n := 16) rfl rfl (by unfold rg; omega) (fun w175 w176 => ?_)
                  have w177 : -2147483648 ≤ (Xi U13 7 ((z19).toNat)) ∧ (Xi U13 7 ((z19).toNat)) ≤ 2147483647 := Xi_rgI
                  refine y_iconst rfl ?_
                  refine y_iload rfl rfl ?_
                  refine y_ishlF rfl ?_
                  have w178 : -2147483648 ≤ (ishlF 1 z164) ∧ (ishlF 1 z164) ≤ 2147483647 := ishlF_rg
                  refine y_iorF rfl ?_
                  have w179 : -2147483648 ≤ (iorF (Xi U13 7 ((z19).toNat)) (ishlF 1 z164)) ∧ (iorF (Xi U13 7 ((z19).toNat)) (ishlF 1 z164)) ≤ 2147483647 := iorF_rg
                  refine y_iastoreP (n := 16) rfl rfl (by unfold rg; omega) (fun w180 w181 => ?_)
                  obtain ⟨U14, eU14⟩ : ∃ T : sS, T = uI U13 7 ((z19).toNat) (Int32.ofInt (iorF (Xi U13 7 ((z19).toNat)) (ishlF 1 z164))) := ⟨_, rfl⟩
                  rw [← eU14]
                  have hHU14 : RI U14 := by rw [eU14]; exact RI_w hHU13
                  have hFU14 : FR md_re_tellHas__p S U14 := by rw [eU14]; exact FR.wI hFU13 (mdf_i (r := (7, 8, 0, 100000)) (List.mem_of_getElem? (i := 5) rfl) (inR_i (by omega) (by omega) (by omega) (by omega)))
                  have w182 : Xi U14 7 ((z19).toNat) = (iorF (Xi U13 7 ((z19).toNat)) (ishlF 1 z164)) := by rw [eU14]; exact Xi_same (by unfold rg; omega)
                  have K297 : True := trivial
                  have R297 : THAS S U14 1 (bA (ty7 S) 0) (re7 (ty7 S) (bA (ty7 S) 0)) (Xi S 890 3 + 2) (re7 (ty7 S) (Xi S 890 3 + 2)) ((re7 (ty7 S) (Xi S 890 3 + 2)) + 1) (re7 (ty7 S) ((re7 (ty7 S) (Xi S 890 3 + 2)) + 1)) := by first | (have t := K215; exact thas_8 k79 k126 m152 A215.o (thas_n V215 f215 F215 F231 E231.o C231 c215 O231.o ee251 eU14 K58 K126.symm z231_ (by unfold rg; omega))) | (have Q := fnd_y (s := 5) hm141 (by omega); exact thas_7 k79 k126 m181 (by rw [← Q]; omega) (by rw [← Q]; omega) (thas_o hf eU14 K58 Q))
                  refine y_iconst rfl ?_
                  refine y_ireturn rfl rfl ?_
                  have w183 : Xi U14 1 3 = Xi T12 1 3 := (show Xi U14 1 3 = Xi U13 1 3 from by rw [eU14]; exact Xi_ne (by omega)).trans ((show Xi U13 1 3 = Xi T12 1 3 from by rw [eU13]; exact Xi_ne (by omega)))
                  have w184 : Xi U14 5 5 = Xi T12 5 5 := (show Xi U14 5 5 = Xi U13 5 5 from by rw [eU14]; exact Xi_ne (by omega)).trans ((show Xi U13 5 5 = Xi T12 5 5 from by rw [eU13]; exact Xi_ne (by omega)))
                  have w185 : Xi U14 876 8 = Xi T11 876 8 := (show Xi U14 876 8 = Xi U13 876 8 from by rw [eU14]; exact Xi_ne (by omega)).trans ( (show Xi U13 876 8 = Xi T12 876 8 from by rw [eU13]; exact Xi_ne (by omega)).trans ((show Xi T12 876 8 = Xi T11 876 8 from w165.x _ _ rfl)))
                  have w186 : Xi U14 891 9 = Xi T11 891 9 := (show Xi U14 891 9 = Xi U13 891 9 from by rw [eU14]; exact Xi_ne (by omega)).trans ( (show Xi U13 891 9 = Xi T12 891 9 from by rw [eU13]; exact Xi_ne (by omega)).trans ((show Xi T12 891 9 = Xi T11 891 9 from w165.x _ _ rfl)))
                  exact ⟨hHU14, hFU14, _, rfl, ⟨by omega, by omega⟩, (by first | (have t := K297; exact R297) | (have t := K277; exact thas_6 k79 k126 m181 (by omega) N277 (by omega) Y277) | (have t := K197; exact thas_5 k79 k126 m181 f190 (by omega) Y197) | (have t := K167; exact thas_3 k79 k126 m152 n3_167.o n9_167.o ok_167.o (by omega) hn0) | (have t := K122; exact thas_2 k79 t122 (by omega) Y122) | (have t := K75; exact thas_1 (by omega) (by omega) Y75))⟩
                · exfalso; omega
            · exfalso; omega
          · refine y_iconst rfl ?_
            refine y_ireturn rfl rfl ?_
            have w187 : Xi T11 1 3 = Xi S 1 3 := (show Xi T11 1 3 = Xi S 1 3 from w154.x _ _ rfl)
            have w188 : Xi T11 5 5 = Xi S 5 5 := (show Xi T11 5 5 = Xi S 5 5 from w154.x _ _ rfl)
            exact ⟨hHT11, hFT11, _, rfl, ⟨by omega, by omega⟩, (by first | (have t := K297; exact R297) | (have t := K277; exact thas_6 k79 k126 m181 (by omega) N277 (by omega) Y277) | (have t := K197; exact thas_5 k79 k126 m181 f190 (by omega) Y197) | (have t := K167; exact thas_3 k79 k126 m152 n3_167.o n9_167.o ok_167.o (by omega) hn0) | (have t := K122; exact thas_2 k79 t122 (by omega) Y122) | (have t := K75; exact thas_1 (by omega) (by omega) Y75))⟩
      · refine y_aload_n rfl rfl ?_
        have t122 : tmC S (Xi S 890 3 + 2) (re7 (ty7 S) (Xi S 890 3 + 2)) = -1 := (tm_n hm92 (by omega)).symm
        refine y_gfr rfl rfl rfl rfl rfl (hH.r 891 0 876 rfl) ?_
        refine y_iconst rfl ?_
        refine y_iload_n rfl rfl ?_
        refine y_callV rfl rfl rfl (t_to_wrong__p hH 4 ((Xi S 890 3) + 2) ⟨by omega, by omega⟩ ⟨by omega, by omega⟩ _) ?_
        rintro _ T15 ⟨hHT15, w192, z191, rfl, w191, w189, f122, w190⟩
        have hFT15 : FR md_re_tellHas__p S T15 := FR.tr hF w192 rfl
        show Pl _ _ _ _ _ _ [iv z191] _ _
        have K122 : True := trivial
        have Y122 : FTO S T15 4 (Xi S 890 3 + 2) := f122 hf
        refine y_ireturn rfl (retI_z (by omega)) ?_
        have w193 : Xi T15 1 3 = Xi S 1 3 := (show Xi T15 1 3 = Xi S 1 3 from w192.x _ _ rfl)
        have w194 : Xi T15 5 5 = Xi S 5 5 := (show Xi T15 5 5 = Xi S 5 5 from w192.x _ _ rfl)
        have w195 : Xi T15 891 9 = Xi S 891 9 := (show Xi T15 891 9 = Xi S 891 9 from w192.x _ _ rfl)
        exact ⟨hHT15, hFT15, _, rfl, ⟨by omega, by omega⟩, (by first | (have t := K297; exact R297) | (have t := K277; exact thas_6 k79 k126 m181 (by omega) N277 (by omega) Y277) | (have t := K197; exact thas_5 k79 k126 m181 f190 (by omega) Y197) | (have t := K167; exact thas_3 k79 k126 m152 n3_167.o n9_167.o ok_167.o (by omega) hn0) | (have t := K122; exact thas_2 k79 t122 (by omega) Y122) | (have t := K75; exact thas_1 (by omega) (by omega) Y75))⟩
  · refine y_aload_n rfl rfl ?_
    refine y_gfr rfl rfl rfl rfl rfl (hH.r 891 0 876 rfl) ?_
    refine y_iconst rfl ?_
    refine y_iload_n rfl rfl ?_
    refine y_callV rfl rfl rfl (t_to_wrong__p hH 4 z9 ⟨by omega, by omega⟩ ⟨by omega, by omega⟩ _) ?_
    rintro _ T16 ⟨hHT16, w199, z198, rfl, w198, w196, f75, w197⟩
    have hFT16 : FR md_re_tellHas__p S T16 := FR.tr hF w199 rfl
    show Pl _ _ _ _ _ _ [iv z198] _ _
    have K75 : True := trivial
    have Y75 : FTO S T16 4 (bA (ty7 S) 0) := by have t := f75 hf; rw [← gq5] at t; exact t
    refine y_ireturn rfl (retI_z (by omega)) ?_
    have w200 : Xi T16 1 3 = Xi S 1 3 := (show Xi T16 1 3 = Xi S 1 3 from w199.x _ _ rfl)
    have w201 : Xi T16 5 5 = Xi S 5 5 := (show Xi T16 5 5 = Xi S 5 5 from w199.x _ _ rfl)
    have w202 : Xi T16 891 9 = Xi S 891 9 := (show Xi T16 891 9 = Xi S 891 9 from w199.x _ _ rfl)
    exact ⟨hHT16, hFT16, _, rfl, ⟨by omega, by omega⟩, (by first | (have t := K297; exact R297) | (have t := K277; exact thas_6 k79 k126 m181 (by omega) N277 (by omega) Y277) | (have t := K197; exact thas_5 k79 k126 m181 f190 (by omega) Y197) | (have t := K167; exact thas_3 k79 k126 m152 n3_167.o n9_167.o ok_167.o (by omega) hn0) | (have t := K122; exact thas_2 k79 t122 (by omega) Y122) | (have t := K75; exact thas_1 (by omega) (by omega) Y75))⟩
def md_re_tellVerb__p : List rec := [(1, 2, 3, 4), (2, 3, 0, 100000), (3, 4, 0, 100000), (4, 5, 0, 100000), (5, 6, 0, 100000), (18, 19, 0, 100000), (876, 877, 8, 9), (876, 877, 9, 10), (891, 892, 9, 10), (892, 893, 0, 100000), (893, 894, 0, 100000), (894, 895, 0, 100000)]
abbrev Q_re_tellVerb__p (S : sS) : pst := fun r S1 => RI S1 ∧ FR md_re_tellVerb__p S S1 ∧ (∃ z : Int, r = some (iv z) ∧ (0 ≤ z ∧ z ≤ 1) ∧ (TVB S S1 z (re7 (ty7 S) 3) ((re7 (ty7 S) 3) + 2) (re7 (ty7 S) ((re7 (ty7 S) 3) + 2))))
set_option maxRecDepth 100000 in
theorem t_re_tellVerb__p {S : sS} (hH : RI S) (h13 : 0 ≤ Xi S 1 3 ∧ Xi S 1 3 ≤ 200) (hCE : CEN S) (hNB : NRB S) (hf : Xi S 876 8 = 0) (hr : Xi S 876 7 ≤ 5130) (hn0 : Xi S 891 9 = 0) (h2 : Xi S 1 3 < 199) (hb : ((re7 (ty7 S) 3) + 2) ≤ Xi S 876 7) (hw : 0 ≤ Xj S 879 3 ∧ Xj S 879 3 < 150094635296999121) (hc : 0 ≤ Xi S 5 7 ∧ Xi S 5 7 ≤ 8) (d : Nat) : Mp lay0 (d + 4) m_re_tellVerb [.ref 891] S (Q_re_tellVerb__p S) := by
  refine Mp_R rfl rfl (fun fu => ?_)
  have hF : FR md_re_tellVerb__p S S := FR.rf
  have w1 : -2147483648 ≤ Xi S 1 3 ∧ Xi S 1 3 ≤ 2147483647 := Xi_rgI
  have w2 : -2147483648 ≤ Xi S 5 7 ∧ Xi S 5 7 ≤ 2147483647 := Xi_rgI
  have w3 : -2147483648 ≤ Xi S 876 7 ∧ Xi S 876 7 ≤ 2147483647 := Xi_rgI
  have w4 : -2147483648 ≤ Xi S 876 8 ∧ Xi S 876 8 ≤ 2147483647 := Xi_rgI
  have w5 : -2147483648 ≤ Xi S 891 9 ∧ Xi S 891 9 ≤ 2147483647 := Xi_rgI
  refine y_aload_n rfl rfl ?_
  refine y_gfr rfl rfl rfl rfl rfl (hH.r 891 0 876 rfl) ?_
  refine y_iconst rfl ?_
  refine y_callV rfl rfl rfl (t_to_runEnd__p hH 3 ⟨by omega, by omega⟩ _) ?_
  rintro _ _ ⟨rfl, z8, rfl, w8, w6, w7⟩
  show Pl _ _ _ _ _ _ [iv z8] _ _
  have gq5 := w6
  clear w6
  have b5 : z8 + 2 ≤ Xi S 876 7 := by have t := hb; rw [gq5] at t; exact t
  refine y_istore_n rfl rfl rfl ?_
  refine y_iload_n rfl rfl ?_
  refine y_iconst rfl ?_
  refine y_iadd rfl ?_
  refine y_istore_n rfl rfl rfl ?_
  refine y_aload_n rfl rfl ?_
  refine y_gfr rfl rfl rfl rfl rfl (hH.r 891 13 894 rfl) ?_
  refine y_iconst rfl ?_
  refine y_aload_n rfl rfl ?_
  refine y_gfr rfl rfl rfl rfl rfl (hH.r 891 0 876 rfl) ?_
  refine y_gfr rfl rfl rfl rfl rfl (hH.r 876 2 879 rfl) ?_
  refine y_iconst rfl ?_
  refine y_laloadP (n := 5130) rfl rfl (by unfold rg; omega) (fun w9 w10 => ?_)
  have w11 : -9223372036854775808 ≤ (Xj S 879 ((3 : Int).toNat)) ∧ (Xj S 879 ((3 : Int).toNat)) < 9223372036854775808 := Xj_rg
  refine y_ldc2 (z := 27) rfl rfl ?_
  refine y_lmul rfl ?_
  refine y_ldc2 (z := 19) rfl rfl ?_
  refine y_ladd rfl ?_
  refine y_lastoreP (n := 3) rfl rfl (by unfold rg; omega) (fun w12 w13 => ?_)
  obtain ⟨U1, eU1⟩ : ∃ T : sS, T = uJ S 894 ((0 : Int).toNat) (Int64.ofInt (((Xj S 879 ((3 : Int).toNat)) * 27) + 19)) := ⟨_, rfl⟩
  rw [← eU1]
  have hHU1 : RI U1 := by rw [eU1]; exact RI_J hH
  have hFU1 : FR md_re_tellVerb__p S U1 := by rw [eU1]; exact FR.wJ hF (mdf_i (r := (894, 895, 0, 100000)) (List.mem_of_getElem? (i := 11) rfl) (inR_i (by omega) (by omega) (by omega) (by omega)))
  have V35 : SMV S U1 := SMV_j SMV.rf eU1 (by omega) (by omega)
  have x35 : Xj U1 894 0 = Xj S 879 3 * 27 + 19 := by rw [eU1]; exact Xj_same (by unfold rgL; have q : Xj S 879 ((3 : Int).toNat) = Xj S 879 3 := rfl; omega)
  have T35 : ty7 U1 = ty7 S := ty7_j eU1
  have f35 : Xi U1 876 8 = 0 := by rw [eU1, Xi_J]; exact hf
  have P35 : Hid (∀ r, pc7 U1 r = pc7 S r) := pc7_j eU1
  have Q68 : Hid (nwC U1 3 4 ↔ nwC S 3 4) := nwC_eq V35 (by rw [eU1, Xi_J]) (fun j => by rw [eU1, Xi_J]) (fun j => by rw [eU1, Xi_J])
  have x35n : Xi U1 891 9 = 0 := by rw [eU1, Xi_J]; exact hn0
  have C35 : Hid ((∀ j, Xi U1 5 j = Xi S 5 j) ∧ ∀ j, Xi U1 18 j = Xi S 18 j) := ⟨fun j => by rw [eU1, Xi_J], fun j => by rw [eU1, Xi_J]⟩
  have H35 : 0 ≤ Xi U1 1 3 ∧ Xi U1 1 3 ≤ 200 ∧ Xi U1 1 3 < 199 := by rw [eU1, Xi_J]; omega
  have r35 : Xi U1 876 7 = Xi S 876 7 := by rw [eU1, Xi_J]
  have c35 : Xi U1 5 7 = Xi S 5 7 := by rw [eU1, Xi_J]
  have D35 : CEN U1 := CEN_j eU1 hCE
  refine y_iload_n rfl rfl ?_
  refine y_iconst rfl ?_
  refine y_icmp_ne rfl rfl (by unfold rg; omega) (by unfold rg; omega) (fun w14 => ?_) (fun w15 => ?_)
  · refine y_aload_n rfl rfl ?_
    have N64 : ¬ vbC S (re7 (ty7 S) 3) := fun q => by first | (have t := K51; have u := q.2; omega) | (have u := q.1; omega)
    refine y_gfr rfl rfl rfl rfl rfl (hHU1.r 891 0 876 rfl) ?_
    refine y_iconst rfl ?_
    refine y_iconst rfl ?_
    have w18 : Xi U1 876 8 = Xi S 876 8 := (show Xi U1 876 8 = Xi S 876 8 from by rw [eU1]; rfl)
    have w19 : Xi U1 876 9 = Xi S 876 9 := (show Xi U1 876 9 = Xi S 876 9 from by rw [eU1]; rfl)
    refine y_callV rfl rfl rfl (t_to_wrong__p hHU1 3 3 ⟨by omega, by omega⟩ ⟨by omega, by omega⟩ _) ?_
    rintro _ T2 ⟨hHT2, w24, z23, rfl, w23, w21, f64, w22⟩
    have hFT2 : FR md_re_tellVerb__p S T2 := FR.tr hFU1 w24 rfl
    show Pl _ _ _ _ _ _ [iv z23] _ _
    have K64 : True := trivial
    have Y64 : FTO S T2 3 3 := fto_p (f64 f35) P35.o
    refine y_ireturn rfl (retI_z (by omega)) ?_
    have w25 : Xi T2 1 3 = Xi S 1 3 := (show Xi T2 1 3 = Xi U1 1 3 from w24.x _ _ rfl).trans ((show Xi U1 1 3 = Xi S 1 3 from by rw [eU1]; rfl))
    have w26 : Xi T2 5 7 = Xi S 5 7 := (show Xi T2 5 7 = Xi U1 5 7 from w24.x _ _ rfl).trans ((show Xi U1 5 7 = Xi S 5 7 from by rw [eU1]; rfl))
    have w27 : Xi T2 891 9 = Xi S 891 9 := (show Xi T2 891 9 = Xi U1 891 9 from w24.x _ _ rfl).trans ((show Xi U1 891 9 = Xi S 891 9 from by rw [eU1]; rfl))
    exact ⟨hHT2, hFT2, _, rfl, ⟨by omega, by omega⟩, (by first | (have t := K171; exact R171) | (have t := K120; exact tvb_4 G68 A90.o N120 (by omega) Y120) | (have t := K82; exact tvb_2 G68 Q68.o P35.o n3_82.o n9_82.o ok_82.o (by omega) x35n) | (have t := K64; exact tvb_1 N64 (by omega) Y64))⟩
  · refine y_aload_n rfl rfl ?_
    refine y_gfr rfl rfl rfl rfl rfl (hHU1.r 891 2 1 rfl) ?_
    refine y_aload_n rfl rfl ?_
    refine y_gfr rfl rfl rfl rfl rfl (hHU1.r 891 13 894 rfl) ?_
    refine y_iconst rfl ?_
    refine y_iconst rfl ?_
    have w28 : Xi U1 1 3 = Xi S 1 3 := (show Xi U1 1 3 = Xi S 1 3 from by rw [eU1]; rfl)
    have w29 : Xi U1 5 7 = Xi S 5 7 := (show Xi U1 5 7 = Xi S 5 7 from by rw [eU1]; rfl)
    have w30 : Xi U1 876 8 = Xi S 876 8 := (show Xi U1 876 8 = Xi S 876 8 from by rw [eU1]; rfl)
    have w31 : Xi U1 891 9 = Xi S 891 9 := (show Xi U1 891 9 = Xi S 891 9 from by rw [eU1]; rfl)
    refine y_callV rfl rfl rfl (t_vo_meaning__p hHU1 894 3 0 1 rfl ⟨by omega, by omega⟩ ⟨by omega, by omega⟩ ⟨by omega, by omega⟩ (by first | assumption | omega) (by first | assumption | exact (CEN_FR (FR_J eU1) rfl rfl (by assumption : CEN S))) _) ?_
    rintro _ _ ⟨rfl, z32, rfl, w32, f51, n51⟩
    show Pl _ _ _ _ _ _ [iv z32] _ _
    have K51 : z32 = mnF S (Xj S 879 3 * 27 + 19) 0 0 := (f51 (by omega) (by omega) (by omega) (by omega)).trans (mnr_1 V35 x35)
    clear f51 n51
    refine y_iconst rfl ?_
    refine y_icmp_eq rfl rfl (by unfold rg; omega) (by unfold rg; omega) (fun w33 => ?_) (fun w34 => ?_)
    · refine y_aload_n rfl rfl ?_
      have G68 : vbC S (re7 (ty7 S) 3) := ⟨by omega, by omega⟩
      refine y_iconst rfl ?_
      refine y_iload_n rfl rfl ?_
      refine y_aload_n rfl rfl ?_
      refine y_gfr rfl rfl rfl rfl rfl (hHU1.r 891 2 1 rfl) ?_
      refine y_bipush rfl rfl ?_
      refine y_callV rfl rfl rfl (t_vo_countOf__p hHU1 7 ⟨by omega, by omega⟩ _) ?_
      rintro _ _ ⟨rfl, z39, rfl, w39, p77⟩
      show Pl _ _ _ _ _ _ [iv z39, iv z8, iv 3, .ref 891] _ _
      have C77 : z39 = Xi S 5 7 := (p77 (by omega) (by omega)).trans c35
      clear p77
      refine y_bipush rfl rfl ?_
      refine y_callV rfl rfl rfl (t_re_takeNew__p hHU1 3 z8 z39 8 ⟨by omega, by omega⟩ ⟨by omega, by omega⟩ ⟨by omega, by omega⟩ ⟨by omega, by omega⟩ (by first | assumption | omega) (by first | assumption | exact (CEN_FR (FR_J eU1) rfl rfl (by assumption : CEN S))) (by first | assumption | exact (NRB_FR (FR_J eU1) rfl rfl (by assumption : NRB S))) (by first | assumption | omega) (by first | assumption | omega) (by first | assumption | omega) (by omega) _) ?_
      rintro _ T3 ⟨hHT3, w45, z44, rfl, w44, n3_82_, n9_82_, ok_82_, nb_82⟩
      have hFT3 : FR md_re_tellVerb__p S T3 := FR.tr hFU1 w45 rfl
      show Pl _ _ _ _ _ _ [iv z44] _ _
      have K82 : True := trivial
      have n3_82 : Hid (¬ nwC U1 3 4 → z44 = 0 ∧ FTO U1 T3 3 3) := by have t := n3_82_; (try rw [C77] at t); rw [show z8 = 4 by omega] at t; exact t
      have n9_82 : Hid (nwC U1 3 4 → 8 ≤ Xi S 5 7 + Xi U1 891 9 → z44 = 0 ∧ FTO U1 T3 9 3) := by have t := n9_82_; (try rw [C77] at t); rw [show z8 = 4 by omega] at t; exact t
      have ok_82 : Hid (nwC U1 3 4 → Xi S 5 7 + Xi U1 891 9 < 8 → z44 = 1 ∧ Xi T3 876 8 = 0 ∧ Xi T3 891 9 = Xi U1 891 9 + 1 ∧ Xi T3 892 (Xi U1 891 9).toNat = 3 ∧ Xi T3 893 (Xi U1 891 9).toNat = 4 ∧ ∀ j : Nat, (j : Int) < Xi U1 891 9 → Xi T3 892 j = Xi U1 892 j ∧ Xi T3 893 j = Xi U1 893 j) := by have t := ok_82_; (try rw [C77] at t); rw [show z8 = 4 by omega] at t; exact t
      clear n3_82_ n9_82_ ok_82_
      refine y_if_ne rfl rfl (by unfold rg; omega) (fun w46 => ?_) (fun w47 => ?_)
      · refine y_aload_n rfl rfl ?_
        have b90 : Hid (nwC U1 3 4 ∧ Xi S 5 7 < 8) := nk_m n3_82.o n9_82.o (by omega) x35n
        have A90 : Hid (nwC S 3 4 ∧ Xi S 5 7 < 8) := ⟨Q68.o.1 b90.o.1, b90.o.2⟩
        have f90 : Xi T3 876 8 = 0 := (ok_82.o b90.o.1 (by have t := b90.o.2; omega)).2.1
        have F90 := (by assumption : FR md_re_takeNew__p U1 T3)
        have V90 : SMV S T3 := V35.tr (SMV_FR F90 rfl rfl)
        have c90 : Xi T3 5 7 = Xi S 5 7 := (F90.cx 5 rfl 7).1.trans c35
        have l90 : Xi S 5 7 < 8 := A90.o.2
        have e90 : Xi T3 1 3 = Xi S 1 3 := V90.1
        have P90 : Hid (∀ r, pc7 T3 r = pc7 S r) := fun r => (pc7_FR F90 rfl rfl rfl r).trans (P35.o r)
        have T90 : ty7 T3 = ty7 S := (FRT F90 rfl rfl).trans T35
        have x90 : Xj T3 894 0 = Xj S 879 3 * 27 + 19 := ((F90.cx 894 rfl 0).2).trans x35
        refine y_gfr rfl rfl rfl rfl rfl (hHT3.r 891 4 895 rfl) ?_
        refine y_bipush rfl rfl ?_
        refine y_iload_n rfl rfl ?_
        refine y_aload_n rfl rfl ?_
        refine y_gfr rfl rfl rfl rfl rfl (hHT3.r 891 0 876 rfl) ?_
        refine y_iload_n rfl rfl ?_
        have w48 : Xi T3 1 3 = Xi S 1 3 := (show Xi T3 1 3 = Xi U1 1 3 from w45.x _ _ rfl).trans ((show Xi U1 1 3 = Xi S 1 3 from by rw [eU1]; rfl))
        have w49 : Xi T3 5 7 = Xi S 5 7 := (show Xi T3 5 7 = Xi U1 5 7 from w45.x _ _ rfl).trans ((show Xi U1 5 7 = Xi S 5 7 from by rw [eU1]; rfl))
        have w50 : Xi T3 876 7 = Xi S 876 7 := (show Xi T3 876 7 = Xi U1 876 7 from w45.x _ _ rfl).trans ((show Xi U1 876 7 = Xi S 876 7 from by rw [eU1]; rfl))
        refine y_callV rfl rfl rfl (t_to_runEnd__p hHT3 (z8 + 2) ⟨by omega, by omega⟩ _) ?_
        rintro _ _ ⟨rfl, z53, rfl, w53, w51, w52⟩
        show Pl _ _ _ _ _ _ [iv z53, iv (z8 + 2), iv 6, .ref 895] _ _
        have gq102 := w51
        rw [FRT hFT3 rfl rfl] at gq102
        try rw [show Xi T3 890 1 = Xi S 890 1 by omega] at gq102
        clear w51
        refine y_callV rfl rfl rfl (t_me_find__p hHT3 6 (z8 + 2) z53 ⟨by omega, by omega⟩ ⟨by omega, by omega⟩ ⟨by omega, by omega⟩ (by first | assumption | omega) (by first | assumption | exact (CEN_FR w45 rfl rfl (CEN_FR (FR_J eU1) rfl rfl (by assumption : CEN S)))) _) ?_
        rintro _ _ ⟨rfl, z56, rfl, w56, v105⟩
        show Pl _ _ _ _ _ _ [iv z56] _ _
        have K105 : z56 = fnd S 6 ((re7 (ty7 S) 3) + 2) (re7 (ty7 S) ((re7 (ty7 S) 3) + 2)) := by have t := v105; rw [← gq102, fnd_eq V90, ← gq5] at t; exact t
        clear v105
        refine y_istore_n rfl rfl rfl ?_
        refine y_iload_n rfl rfl ?_
        refine y_iconst rfl ?_
        refine y_icmp_ne rfl rfl (by unfold rg; omega) (by unfold rg; omega) (fun w57 => ?_) (fun w58 => ?_)
        · refine y_aload_n rfl rfl ?_
          refine y_gfr rfl rfl rfl rfl rfl (hHT3.r 891 2 1 rfl) ?_
          refine y_bipush rfl rfl ?_
          refine y_aload_n rfl rfl ?_
          refine y_gfr rfl rfl rfl rfl rfl (hHT3.r 891 0 876 rfl) ?_
          refine y_gfr rfl rfl rfl rfl rfl (hHT3.r 876 2 879 rfl) ?_
          refine y_iconst rfl ?_
          refine y_iload_n rfl rfl ?_
          refine y_callV rfl rfl rfl (t_vo_tellNew__p hHT3 7 879 5130 3 z8 ⟨by omega, by omega⟩ rfl ⟨by omega, by omega⟩ ⟨by omega, by omega⟩ ⟨by omega, by omega⟩ (by first | assumption | omega) (by first | assumption | omega) (Or.inl rfl) (⟨by show (0 : Int) ≤ Xi T3 5 7; omega, by show Xi T3 5 7 ≤ 62; omega⟩) _) ?_
          rintro _ T4 ⟨hHT4, w62, z61, rfl, w61, z139, c139, o139, e139⟩
          have hFT4 : FR md_re_tellVerb__p S T4 := FR.tr hFT3 w62 rfl
          show Pl _ _ _ _ _ _ [iv z61] _ _
          have Z139 : z61 = Xi T3 5 7 := z139
          have C139 : Xi T4 5 7 = Xi T3 5 7 + 1 := c139
          have O139 : Hid (∀ j, j ≠ 7 → Xi T4 5 j = Xi T3 5 j) := o139
          have E139 : Hid (∃ i : Nat, NMI T3 T4 i 7 z61 (wRw T3 879 3 4 0) (wRw T3 879 3 4 1) (wRw T3 879 3 4 2)) := by have t := e139; rw [show z8 = 4 by omega] at t; exact t
          have X139 := nmi_c E139.o
          have F139 := (by assumption : FR md_vo_tellNew__p T3 T4)
          clear z139 c139 o139 e139
          refine y_istore rfl rfl rfl ?_
          refine y_aload_n rfl rfl ?_
          refine y_gfr rfl rfl rfl rfl rfl (hHT4.r 891 2 1 rfl) ?_
          refine y_bipush rfl rfl ?_
          refine y_iload rfl rfl ?_
          refine y_aload_n rfl rfl ?_
          refine y_gfr rfl rfl rfl rfl rfl (hHT4.r 891 13 894 rfl) ?_
          refine y_iconst rfl ?_
          refine y_iconst rfl ?_
          have w63 : Xi T4 876 8 = Xi T3 876 8 := (show Xi T4 876 8 = Xi T3 876 8 from w62.x _ _ rfl)
          have w64 : Xi T4 891 9 = Xi T3 891 9 := (show Xi T4 891 9 = Xi T3 891 9 from w62.x _ _ rfl)
          refine y_callV rfl rfl rfl (t_vo_nameIt__p hHT4 13 z61 894 3 0 1 ⟨by omega, by omega⟩ ⟨by omega, by omega⟩ rfl ⟨by omega, by omega⟩ ⟨by omega, by omega⟩ ⟨by omega, by omega⟩ (by first | assumption | omega) (by first | assumption | omega) (Or.inr rfl) _) ?_
          rintro _ T5 ⟨hHT5, w66, rfl, e158⟩
          have hFT5 : FR md_re_tellVerb__p S T5 := FR.tr hFT4 w66 rfl
          show Pl _ _ _ _ _ _ [] _ _
          have F158 := (by assumption : FR md_vo_nameIt__p T4 T5)
          have E158 : Hid (_) := e158
          clear e158
          refine y_aload_n rfl rfl ?_
          refine y_gfr rfl rfl rfl rfl rfl (hHT5.r 891 2 1 rfl) ?_
          refine y_gfr rfl rfl rfl rfl rfl (hHT5.r 1 17 18 rfl) ?_
          refine y_iload rfl rfl ?_
          refine y_iload_n rfl rfl ?_
          refine y_iastoreP (n := 8) rfl rfl (by unfold rg; omega) (fun w67 w68 => ?_)
          obtain ⟨U6, eU6⟩ : ∃ T : sS, T = uI T5 18 ((z61).toNat) (Int32.ofInt z56) := ⟨_, rfl⟩
          rw [← eU6]
          have hHU6 : RI U6 := by rw [eU6]; exact RI_w hHT5
          have hFU6 : FR md_re_tellVerb__p S U6 := by rw [eU6]; exact FR.wI hFT5 (mdf_i (r := (18, 19, 0, 100000)) (List.mem_of_getElem? (i := 5) rfl) (inR_i (by omega) (by omega) (by omega) (by omega)))
          have w69 : Xi U6 18 ((z61).toNat) = z56 := by rw [eU6]; exact Xi_same (by unfold rg; omega)
          have K171 : True := trivial
          have R171 : TVB S U6 1 (re7 (ty7 S) 3) ((re7 (ty7 S) 3) + 2) (re7 (ty7 S) ((re7 (ty7 S) 3) + 2)) := tvb_5 G68 A90.o (by omega) (tvb_n V90 f90 F139 F158 E139.o x90 E158.o (by omega) O139.o (fun j => ((F90.cx 5 rfl j).1).trans (C35.o.1 j)) (fun j => ((F90.cx 18 rfl j).1).trans (C35.o.2 j)) eU6 (by omega) K105 (by unfold rg; omega))
          refine y_iconst rfl ?_
          refine y_ireturn rfl rfl ?_
          have w70 : Xi U6 1 3 = Xi T5 1 3 := (show Xi U6 1 3 = Xi T5 1 3 from by rw [eU6]; exact Xi_ne (by omega))
          have w71 : Xi U6 5 7 = Xi T4 5 7 := (show Xi U6 5 7 = Xi T5 5 7 from by rw [eU6]; exact Xi_ne (by omega)).trans ((show Xi T5 5 7 = Xi T4 5 7 from w66.x _ _ rfl))
          have w72 : Xi U6 876 8 = Xi T3 876 8 := (show Xi U6 876 8 = Xi T5 876 8 from by rw [eU6]; exact Xi_ne (by omega)).trans ( (show Xi T5 876 8 = Xi T4 876 8 from w66.x _ _ rfl).trans ((show Xi T4 876 8 = Xi T3 876 8 from w62.x _ _ rfl)))
          have w73 : Xi U6 891 9 = Xi T3 891 9 := (show Xi U6 891 9 = Xi T5 891 9 from by rw [eU6]; exact Xi_ne (by omega)).trans ( (show Xi T5 891 9 = Xi T4 891 9 from w66.x _ _ rfl).trans ((show Xi T4 891 9 = Xi T3 891 9 from w62.x _ _ rfl)))
          exact ⟨hHU6, hFU6, _, rfl, ⟨by omega, by omega⟩, (by first | (have t := K171; exact R171) | (have t := K120; exact tvb_4 G68 A90.o N120 (by omega) Y120) | (have t := K82; exact tvb_2 G68 Q68.o P35.o n3_82.o n9_82.o ok_82.o (by omega) x35n) | (have t := K64; exact tvb_1 N64 (by omega) Y64))⟩
        · refine y_aload_n rfl rfl ?_
          refine y_gfr rfl rfl rfl rfl rfl (hHT3.r 891 0 876 rfl) ?_
          refine y_iconst rfl ?_
          refine y_iload_n rfl rfl ?_
          refine y_callV rfl rfl rfl (t_to_wrong__p hHT3 4 (z8 + 2) ⟨by omega, by omega⟩ ⟨by omega, by omega⟩ _) ?_
          rintro _ T7 ⟨hHT7, w79, z78, rfl, w78, w76, f120, w77⟩
          have hFT7 : FR md_re_tellVerb__p S T7 := FR.tr hFT3 w79 rfl
          show Pl _ _ _ _ _ _ [iv z78] _ _
          have K120 : True := trivial
          have N120 : fnd S 6 ((re7 (ty7 S) 3) + 2) (re7 (ty7 S) ((re7 (ty7 S) 3) + 2)) = -1 := by omega
          have Y120 : FTO S T7 4 ((re7 (ty7 S) 3) + 2) := fto_p (by have t := f120 f90; rw [← gq5] at t; exact t) P90.o
          refine y_ireturn rfl (retI_z (by omega)) ?_
          have w80 : Xi T7 1 3 = Xi S 1 3 := (show Xi T7 1 3 = Xi T3 1 3 from w79.x _ _ rfl).trans ( (show Xi T3 1 3 = Xi U1 1 3 from w45.x _ _ rfl).trans ((show Xi U1 1 3 = Xi S 1 3 from by rw [eU1]; rfl)))
          have w81 : Xi T7 5 7 = Xi S 5 7 := (show Xi T7 5 7 = Xi T3 5 7 from w79.x _ _ rfl).trans ( (show Xi T3 5 7 = Xi U1 5 7 from w45.x _ _ rfl).trans ((show Xi U1 5 7 = Xi S 5 7 from by rw [eU1]; rfl)))
          have w82 : Xi T7 891 9 = Xi T3 891 9 := (show Xi T7 891 9 = Xi T3 891 9 from w79.x _ _ rfl)
          exact ⟨hHT7, hFT7, _, rfl, ⟨by omega, by omega⟩, (by first | (have t := K171; exact R171) | (have t := K120; exact tvb_4 G68 A90.o N120 (by omega) Y120) | (have t := K82; exact tvb_2 G68 Q68.o P35.o n3_82.o n9_82.o ok_82.o (by omega) x35n) | (have t := K64; exact tvb_1 N64 (by omega) Y64))⟩
      · refine y_iconst rfl ?_
        refine y_ireturn rfl rfl ?_
        have w83 : Xi T3 1 3 = Xi S 1 3 := (show Xi T3 1 3 = Xi U1 1 3 from w45.x _ _ rfl).trans ((show Xi U1 1 3 = Xi S 1 3 from by rw [eU1]; rfl))
        have w84 : Xi T3 5 7 = Xi S 5 7 := (show Xi T3 5 7 = Xi U1 5 7 from w45.x _ _ rfl).trans ((show Xi U1 5 7 = Xi S 5 7 from by rw [eU1]; rfl))
        exact ⟨hHT3, hFT3, _, rfl, ⟨by omega, by omega⟩, (by first | (have t := K171; exact R171) | (have t := K120; exact tvb_4 G68 A90.o N120 (by omega) Y120) | (have t := K82; exact tvb_2 G68 Q68.o P35.o n3_82.o n9_82.o ok_82.o (by omega) x35n) | (have t := K64; exact tvb_1 N64 (by omega) Y64))⟩
    · refine y_aload_n rfl rfl ?_
      have N64 : ¬ vbC S (re7 (ty7 S) 3) := fun q => by first | (have t := K51; have u := q.2; omega) | (have u := q.1; omega)
      refine y_gfr rfl rfl rfl rfl rfl (hHU1.r 891 0 876 rfl) ?_
      refine y_iconst rfl ?_
      refine y_iconst rfl ?_
      have w88 : Xi U1 876 9 = Xi S 876 9 := (show Xi U1 876 9 = Xi S 876 9 from by rw [eU1]; rfl)
      refine y_callV rfl rfl rfl (t_to_wrong__p hHU1 3 3 ⟨by omega, by omega⟩ ⟨by omega, by omega⟩ _) ?_
      rintro _ T8 ⟨hHT8, w93, z92, rfl, w92, w90, f64, w91⟩
      have hFT8 : FR md_re_tellVerb__p S T8 := FR.tr hFU1 w93 rfl
      show Pl _ _ _ _ _ _ [iv z92] _ _
      have K64 : True := trivial
      have Y64 : FTO S T8 3 3 := fto_p (f64 f35) P35.o
      refine y_ireturn rfl (retI_z (by omega)) ?_
      have w94 : Xi T8 1 3 = Xi S 1 3 := (show Xi T8 1 3 = Xi U1 1 3 from w93.x _ _ rfl).trans ((show Xi U1 1 3 = Xi S 1 3 from by rw [eU1]; rfl))
      have w95 : Xi T8 5 7 = Xi S 5 7 := (show Xi T8 5 7 = Xi U1 5 7 from w93.x _ _ rfl).trans ((show Xi U1 5 7 = Xi S 5 7 from by rw [eU1]; rfl))
      have w96 : Xi T8 891 9 = Xi S 891 9 := (show Xi T8 891 9 = Xi U1 891 9 from w93.x _ _ rfl).trans ((show Xi U1 891 9 = Xi S 891 9 from by rw [eU1]; rfl))
      exact ⟨hHT8, hFT8, _, rfl, ⟨by omega, by omega⟩, (by first | (have t := K171; exact R171) | (have t := K120; exact tvb_4 G68 A90.o N120 (by omega) Y120) | (have t := K82; exact tvb_2 G68 Q68.o P35.o n3_82.o n9_82.o ok_82.o (by omega) x35n) | (have t := K64; exact tvb_1 N64 (by omega) Y64))⟩
end
