/-! SAFETY: what holds between sentences -/
def CC (S : sS) : Prop := Xi S 246 5 ≤ 19 * Xi S 246 2 + 6 * Xi S 5 3
def VAL (S : sS) : Prop := ∀ t : Int, vals S t ≤ 8
def SRX (S : sS) : Prop := S.2.2 20 1 = some (txr S) ∧ tp (txr S)
theorem SRX_FR {l : List rec} {S T : sS} (h : FR l S T) (e : mdf l 20 1 = false) (hS : SRX S) : SRX T := by
  have e1 := (h 20 1 e).2.2
  have et : txr T = txr S := by unfold txr; rw [e1]
  unfold SRX
  rw [et, e1]
  exact hS
theorem tx_mk {S : sS} {v n : Int} (hS : SRX S) (h0 : 0 ≤ v) (h1 : v + n ≤ 5000) : TXT S v n := Or.inr ⟨h0, h1, hS.1, hS.2⟩
def WI (S : sS) : Prop := LEX S ∧ TX S ∧ DEF S ∧ RUL S ∧ CMD S ∧ AK S ∧ CC S ∧ VAL S
theorem valn_fr {S T : sS} (h8 : ∀ j, Xi T 8 j = Xi S 8 j) {t : Int} : ∀ (n : Nat) (i c : Int), valn T t n i c = valn S t n i c := by
  intro n
  induction n with
  | zero => intro i c; rfl
  | succ n ih => intro i c; unfold valn; rw [h8, ih]
theorem vals_fr {S T : sS} (h8 : ∀ j, Xi T 8 j = Xi S 8 j) (h5 : Xi T 5 4 = Xi S 5 4) {t : Int} : vals T t = vals S t := by
  unfold vals; rw [h5]; exact valn_fr h8 _ _ _
def dL (l : List rec) : Bool := l.all (fun r => Nat.ble r.2.1 3 || Nat.ble 4 r.1) && (l.all (fun r => Nat.ble r.2.1 4 || Nat.ble 5 r.1) && l.all (fun r => Nat.ble r.2.1 5 || Nat.ble 6 r.1))
/-- texts may have changed, the rest not -/
theorem WI_x {l : List rec} {S T : sS} (hH : HI S) (h : FR l S T) (e1 : mdf l 1 3 = false) (e2 : dL l = true) (e4 : (kdis l kG && (!(mdf l 20 1) && (!(mdf l 246 8) && !(mdf l 246 5)))) = true) (e5 : kdis l [(5, 6), (11, 14)] = true) (e6 : (kdis l [(5, 6), (248, 272)] && !(mdf l 246 2)) = true) (e7 : (kdis l [(5, 6), (19, 20), (883, 884), (885, 887)] && !(mdf l 882 3)) = true) (e8 : kdis l [(8, 9)] = true) (e9 : kdis l [(19, 20), (5, 6)] = true) (hX : TX T) (hW : WI S) : WI T := by
  obtain ⟨w1, _, w3, w4, w5, w6, w7, w8⟩ := hW
  have k5 := h.smk e5
  have e6b := e6
  simp only [Bool.and_eq_true, Bool.not_eq_true'] at e6b
  have e4b := e4
  simp only [Bool.and_eq_true, Bool.not_eq_true'] at e4b
  refine ⟨LEX_FR h e1 e2 w1, hX, DEF_FR hH h e4 e5 w3, RUL_FR hH h e4 e6 w4, CMD_FR h e7 w5, AK_FR h e9 w6, ?_, fun t => ?_⟩
  · unfold CC
    rw [h.x 246 5 e4b.2.2.2, h.x 246 2 e6b.2, k5.x 5 rfl]
    exact w7
  · rw [vals_fr (fun j => (h.smk e8).x 8 rfl j) (k5.x 5 rfl 4)]
    exact w8 t
theorem WI_FR {l : List rec} {S T : sS} (hH : HI S) (h : FR l S T) (e1 : mdf l 1 3 = false) (e2 : dL l = true) (e3 : (kdis l kX && !(mdf l 20 1)) = true) (e4 : (kdis l kG && (!(mdf l 20 1) && (!(mdf l 246 8) && !(mdf l 246 5)))) = true) (e5 : kdis l [(5, 6), (11, 14)] = true) (e6 : (kdis l [(5, 6), (248, 272)] && !(mdf l 246 2)) = true) (e7 : (kdis l [(5, 6), (19, 20), (883, 884), (885, 887)] && !(mdf l 882 3)) = true) (e8 : kdis l [(8, 9)] = true) (e9 : kdis l [(19, 20), (5, 6)] = true) (hW : WI S) : WI T :=
  WI_x hH h e1 e2 e4 e5 e6 e7 e8 e9 (TX_FR h e3 hW.2.1) hW
/-- words may have been told: counts have grown, but not that of adjectives -/
theorem WI_gx {l : List rec} {S T : sS} (hH : HI S) (h : FR l S T) (hX : TX T) (e4 : (kdis l kG && (!(mdf l 20 1) && (!(mdf l 246 8) && !(mdf l 246 5)))) = true) (e5 : kdis l [(11, 14)] = true) (e6 : (kdis l [(248, 272)] && !(mdf l 246 2)) = true) (e7 : (kdis l [(883, 884), (885, 887), (19, 20)] && !(mdf l 882 3)) = true) (hL : LEX T) (h5 : ∀ j, Xi S 5 j ≤ Xi T 5 j) (h53 : Xi T 5 3 = Xi S 5 3) (h54 : VAL T) (hW : WI S) : WI T := by
  obtain ⟨w1, w2, w3, w4, w5, w6, w7, w8⟩ := hW
  have g := FR_sG hH h e4 (h5 3) (h5 8)
  have k5 := h.smk e5
  simp only [Bool.and_eq_true, Bool.not_eq_true'] at e6 e7 e4
  have k6 := h.smk e6.1
  have k7 := h.smk e7.1
  have h24 : 0 ≤ Xi S 246 2 ∧ Xi S 246 2 ≤ 24 := hH.c _ _
  refine ⟨hL, hX, DEF_sG hH g (fun a _ => ⟨k5.x 11 rfl a, k5.x 12 rfl a, k5.x 13 rfl a⟩) (fun a h1 h2 => by omega) w3, RUL_sG hH g (fun i hi j => k6.x _ (inK_i (a := 248) (b := 272) (by decide) (by omega) (by omega)) j) (h.x 246 2 e6.2) w4, ?_, ?_, ?_, h54⟩
  · intro i hi
    rw [h.x 882 3 e7.2] at hi
    rw [k7.x 883 rfl, k7.x 885 rfl, k7.x 886 rfl, k7.x 19 rfl]
    obtain ⟨a, b⟩ := w5 i hi
    have := h5 8
    exact ⟨by omega, b⟩
  · obtain ⟨a, b⟩ := w6
    have := h5 8
    refine ⟨by omega, ?_⟩
    simp only [k7.x 19 rfl]
    exact b
  · unfold CC
    rw [h.x 246 5 e4.2.2.2, h.x 246 2 e6.2, h53]
    exact w7
theorem WI_g {l : List rec} {S T : sS} (hH : HI S) (h : FR l S T) (e3 : (kdis l kX && !(mdf l 20 1)) = true) (e4 : (kdis l kG && (!(mdf l 20 1) && (!(mdf l 246 8) && !(mdf l 246 5)))) = true) (e5 : kdis l [(11, 14)] = true) (e6 : (kdis l [(248, 272)] && !(mdf l 246 2)) = true) (e7 : (kdis l [(883, 884), (885, 887), (19, 20)] && !(mdf l 882 3)) = true) (hL : LEX T) (h5 : ∀ j, Xi S 5 j ≤ Xi T 5 j) (h53 : Xi T 5 3 = Xi S 5 3) (h54 : VAL T) (hW : WI S) : WI T :=
  WI_gx hH h (TX_FR h e3 hW.2.1) e4 e5 e6 e7 hL h5 h53 h54 hW
def fob (S : sS) (r : Int) : Int := fnd S 2 r (ruF S r (Xi S 876 7))
theorem ren_fr {S T : sS} (h7 : Xi T 876 7 = Xi S 876 7) (h : ∀ j, Xi T 877 j = Xi S 877 j) {lim : Int} : ∀ (n : Nat) (r : Int), ren T lim n r = ren S lim n r := by
  intro n
  induction n with
  | zero => intro r; rfl
  | succ n ih => intro r; unfold ren; rw [h7, h, ih]
theorem ruF_FR {l : List rec} {S T : sS} (h : FR l S T) (e : (kdis l [(877, 878)] && !(mdf l 876 7)) = true) {a lim : Int} : ruF T a lim = ruF S a lim := by
  simp only [Bool.and_eq_true, Bool.not_eq_true'] at e
  exact ren_fr (h.x 876 7 e.2) (fun j => (h.smk e.1).x 877 rfl j) _ _
theorem bgn_FR {l : List rec} {S T : sS} (h : FR l S T) (e : (kdis l [(877, 878)] && !(mdf l 876 7)) = true) (e2 : mdf l 890 3 = false) {r : Int} : bgn T r = bgn S r := by
  simp only [Bool.and_eq_true, Bool.not_eq_true'] at e
  have k := h.smk e.1
  unfold bgn bgr
  rw [h.x 876 7 e.2, h.x 890 3 e2, k.x 877 rfl, k.x 877 rfl]
theorem fnd_FR {l : List rec} {S T : sS} (h : FR l S T) (e : (kdis l kA && !(mdf l 1 3)) = true) {s a b : Int} : fnd T s a b = fnd S s a b := by unfold fnd; rw [mnV_FR h e]
theorem fob_FR {l : List rec} {S T : sS} (h : FR l S T) (e : (kdis l kA && !(mdf l 1 3)) = true) (e2 : (kdis l [(877, 878)] && !(mdf l 876 7)) = true) {r : Int} : fob T r = fob S r := by
  have e3 := e2
  simp only [Bool.and_eq_true, Bool.not_eq_true'] at e3
  unfold fob; rw [fnd_FR h e, ruF_FR h e2, h.x 876 7 e3.2]
theorem fob_of {S : sS} {r y z : Int} (hz : z = fnd S 2 r y) (hy : y = ruF S r (Xi S 876 7)) : z = fob S r := by rw [hy] at hz; exact hz
/-- each object in the list has the adjective, up to a row -/
def ASU (S : sS) (a b nt n : Int) : Prop := ∀ r : Int, 0 ≤ r → r < n → bgn S r = 1 → fob S r ≠ -1 → 1 ≤ raF S (Xi S 21 (fob S r).toNat) a b (1 - nt) 0
theorem asu_0 {S : sS} {a b nt : Int} : ASU S a b nt 0 := fun r h1 h2 => by omega
theorem asu_s {S : sS} {a b nt n : Int} (h : ASU S a b nt n) (hn : bgn S n ≠ 1 ∨ fob S n = -1 ∨ 1 ≤ raF S (Xi S 21 (fob S n).toNat) a b (1 - nt) 0) : ASU S a b nt (n + 1) := fun r h1 h2 h3 h4 => by
  by_cases e : r = n
  · rw [e] at h3 h4 ⊢
    rcases hn with q | q | q
    · exact absurd h3 q
    · exact absurd q h4
    · exact q
  · exact h r h1 (by omega) h3 h4
theorem asu_r {l : List rec} {S T : sS} {k a b v nt r z : Int} (hz : z = raF T k a b v 0) (h : FR l S T) (e : (kdis l kA && !(mdf l 1 3)) = true) (hk : k = Xi S 21 (fob S r).toNat) (hv : v = 1 - nt) (h1 : 1 ≤ z) : 1 ≤ raF S (Xi S 21 (fob S r).toNat) a b (1 - nt) 0 := by
  rw [raF_FR h e, hk, hv] at hz
  omega
theorem asu_u {l : List rec} {S T : sS} {k a b v nt r n z : Int} (hs : ASU S a b nt n) (hz : z = raF T k a b v 0) (h : FR l S T) (e : (kdis l kA && !(mdf l 1 3)) = true) (hk : k = Xi S 21 (fob S r).toNat) (hv : v = 1 - nt) (h0 : 0 ≤ r) (hr : r < n) (hb : bgn S r = 1) (hf : fob S r ≠ -1) : 1 ≤ z := by
  have t := hs r h0 hr hb hf
  rw [raF_FR h e, hk, hv] at hz
  omega
/-- names that are new in the list, up to a row -/
def NWO (S : sS) (n : Int) : Prop := (∀ i j : Nat, i < j → (j : Int) < Xi S 891 9 → Xi S 892 i < Xi S 892 j) ∧ (∀ j : Nat, (j : Int) < Xi S 891 9 → Xi S 892 j < n) ∧ (∀ r : Int, 0 ≤ r → r < n → bgn S r = 1 → mnV S r (ruF S r (Xi S 876 7)) / 256 = 2 ∨ (mnV S r (ruF S r (Xi S 876 7)) = -1 ∧ ∃ j : Nat, (j : Int) < Xi S 891 9 ∧ Xi S 892 j = r)) ∧ (Xi S 891 9 = 0 ∨ Xi S 5 2 + Xi S 891 9 ≤ 24)
theorem nwo_0 {S : sS} (h : Xi S 891 9 = 0) : NWO S 0 := ⟨fun i j _ h2 => by omega, fun j hj => by omega, fun r h1 h2 => by omega, Or.inl h⟩
theorem asu_e {S : sS} {a b nt n m : Int} (h : ASU S a b nt n) (hm : m ≤ n) : ASU S a b nt m := fun r h1 h2 h3 h4 => h r h1 (by omega) h3 h4
theorem VAL_fr {l : List rec} {S T : sS} (h : FR l S T) (e8 : kdis l [(8, 9)] = true) (h4 : Xi T 5 4 = Xi S 5 4) (hv : VAL S) : VAL T := fun t => by
  rw [vals_fr (fun j => (h.smk e8).x 8 rfl j) h4]
  exact hv t
theorem WI_tn {S T : sS} {s : Int} (hH : HI S) (h : FR md_vo_tellNew S T) (hL : LEX T) (hc : Xi T 5 s.toNat = Xi S 5 s.toNat + 1) (ho : ∀ j, j ≠ s.toNat → Xi T 5 j = Xi S 5 j) (h3 : s.toNat ≠ 3) (h4 : s.toNat ≠ 4) (hW : WI S) : WI T :=
  WI_g hH h rfl rfl rfl rfl rfl hL (fun j => by
    by_cases e : j = s.toNat
    · rw [e]; omega
    · rw [ho j e]; exact Int.le_refl _) (ho 3 (fun e => h3 e.symm)) (VAL_fr h rfl (ho 4 (fun e => h4 e.symm)) hW.2.2.2.2.2.2.2) hW
theorem WI_nm {S T : sS} (hH : HI S) (h : FR md_vo_nameIt S T) (hL : LEX T) (ho : ∀ j, Xi T 5 j = Xi S 5 j) (hW : WI S) : WI T :=
  WI_g hH h rfl rfl rfl rfl rfl hL (fun j => by rw [ho j]; exact Int.le_refl _) (ho 3) (VAL_fr h rfl (ho 4) hW.2.2.2.2.2.2.2) hW
theorem WI_ns {S T : sS} (hH : HI S) (h : FR md_re_nameWithS S T) (hL : LEX T) (ho : ∀ j, Xi T 5 j = Xi S 5 j) (hW : WI S) : WI T :=
  WI_g hH h rfl rfl rfl rfl rfl hL (fun j => by rw [ho j]; exact Int.le_refl _) (ho 3) (VAL_fr h rfl (ho 4) hW.2.2.2.2.2.2.2) hW
theorem nwo_n {l : List rec} {S T : sS} {n : Int} (h : FR l S T) (e : (kdis l [(877, 878), (2, 5), (879, 880), (5, 6)] && (!(mdf l 876 7) && (!(mdf l 890 3) && !(mdf l 1 3)))) = true) (h0 : 0 ≤ n) (hw : NWO S n) (hr : (Xi T 891 9 = Xi S 891 9 ∧ (∀ j : Nat, (j : Int) < Xi S 891 9 → Xi T 892 j = Xi S 892 j) ∧ (bgn S n = 1 → mnV S n (ruF S n (Xi S 876 7)) / 256 = 2)) ∨ (Xi T 891 9 = Xi S 891 9 + 1 ∧ (∀ j : Nat, (j : Int) < Xi S 891 9 → Xi T 892 j = Xi S 892 j) ∧ Xi T 892 (Xi S 891 9).toNat = n ∧ 0 ≤ Xi S 891 9 ∧ Xi S 5 2 + Xi T 891 9 ≤ 24 ∧ mnV S n (ruF S n (Xi S 876 7)) = -1)) : NWO T (n + 1) := by
  simp only [Bool.and_eq_true, Bool.not_eq_true'] at e
  obtain ⟨e1, e2, e3, e4⟩ := e
  have k := h.smk e1
  have x7 := h.x 876 7 e2
  have hj : ∀ c j, inK [(877, 878), (2, 5), (879, 880), (5, 6)] c = true → Xj T c j = Xj S c j := fun c j hc => by unfold Xj; rw [(k c j hc).2.1]
  have hru : ∀ a lim, ruF T a lim = ruF S a lim := fun a lim => ren_fr x7 (fun j => k.x 877 rfl j) _ _
  have hbg : ∀ r, bgn T r = bgn S r := fun r => by unfold bgn bgr; rw [x7, h.x 890 3 e3, k.x 877 rfl, k.x 877 rfl]
  have hmn : ∀ a b, mnV T a b = mnV S a b := fun a b => by
    unfold mnV mnR mnF
    rw [h.x 1 3 e4, hj 879 _ rfl, hj 879 _ rfl, hj 879 _ rfl, msc_fr (fun j => hj 2 j rfl) (fun j => k.x 3 rfl j) (fun j => k.x 4 rfl j)]
  obtain ⟨w1, w2, w3, w4⟩ := hw
  rcases hr with ⟨r1, r2, r3⟩ | ⟨r1, r2, r3, r4, r5, r6⟩
  · refine ⟨fun i j h1 h2 => ?_, fun j h1 => ?_, fun r h1 h2 h3 => ?_, ?_⟩
    · rw [r1] at h2; rw [r2 i (by omega), r2 j h2]; exact w1 i j h1 h2
    · rw [r1] at h1; rw [r2 j h1]; have := w2 j h1; omega
    · rw [hbg] at h3; rw [hmn, hru, x7, r1]
      by_cases q : r = n
      · rw [q] at h3 ⊢; exact Or.inl (r3 h3)
      · rcases w3 r h1 (by omega) h3 with t | ⟨t, j, t1, t2⟩
        · exact Or.inl t
        · exact Or.inr ⟨t, j, t1, by rw [r2 j t1]; exact t2⟩
    · rw [r1, k.x 5 rfl]; exact w4
  · refine ⟨fun i j h1 h2 => ?_, fun j h1 => ?_, fun r h1 h2 h3 => ?_, ?_⟩
    · rw [r1] at h2
      by_cases q : (j : Int) = Xi S 891 9
      · rw [r2 i (by omega), show j = (Xi S 891 9).toNat by omega, r3]; exact w2 i (by omega)
      · rw [r2 i (by omega), r2 j (by omega)]; exact w1 i j h1 (by omega)
    · rw [r1] at h1
      by_cases q : (j : Int) = Xi S 891 9
      · rw [show j = (Xi S 891 9).toNat by omega, r3]; omega
      · rw [r2 j (by omega)]; have := w2 j (by omega); omega
    · rw [hbg] at h3; rw [hmn, hru, x7, r1]
      by_cases q : r = n
      · rw [q]; exact Or.inr ⟨r6, (Xi S 891 9).toNat, by omega, r3⟩
      · rcases w3 r h1 (by omega) h3 with t | ⟨t, j, t1, t2⟩
        · exact Or.inl t
        · exact Or.inr ⟨t, j, by omega, by rw [r2 j t1]; exact t2⟩
    · rw [r1, k.x 5 rfl]; right; omega
theorem nwo_f {S : sS} {n : Int} (hw : NWO S n) (hb : bgn S n ≠ 1) : NWO S (n + 1) := by
  obtain ⟨w1, w2, w3, w4⟩ := hw
  exact ⟨w1, fun j h1 => by have := w2 j h1; omega, fun r h1 h2 h3 => by
    by_cases q : r = n
    · rw [q] at h3; exact absurd h3 hb
    · exact w3 r h1 (by omega) h3, w4⟩
theorem nwo_e {S : sS} {n m : Int} (hw : NWO S n) (h : m ≤ n) (hm : ∀ j : Nat, (j : Int) < Xi S 891 9 → Xi S 892 j < m) : NWO S m := by
  obtain ⟨w1, w2, w3, w4⟩ := hw
  exact ⟨w1, hm, fun r h1 h2 h3 => w3 r h1 (by omega) h3, w4⟩
theorem NWO_FR {l : List rec} {S T : sS} {n : Int} (h : FR l S T) (e : (kdis l [(877, 878), (2, 5), (879, 880), (5, 6), (892, 893)] && (!(mdf l 876 7) && (!(mdf l 890 3) && (!(mdf l 1 3) && !(mdf l 891 9))))) = true) (hw : NWO S n) : NWO T n := by
  simp only [Bool.and_eq_true, Bool.not_eq_true'] at e
  obtain ⟨e1, e2, e3, e4, e5⟩ := e
  have k := h.smk e1
  have x7 := h.x 876 7 e2
  have hj : ∀ c j, inK [(877, 878), (2, 5), (879, 880), (5, 6), (892, 893)] c = true → Xj T c j = Xj S c j := fun c j hc => by unfold Xj; rw [(k c j hc).2.1]
  obtain ⟨w1, w2, w3, w4⟩ := hw
  unfold NWO
  rw [h.x 891 9 e5, x7]
  simp only [k.x 892 rfl, k.x 5 rfl]
  refine ⟨w1, w2, fun r h1 h2 h3 => ?_, w4⟩
  have hb : bgn T r = bgn S r := by unfold bgn bgr; rw [x7, h.x 890 3 e3, k.x 877 rfl, k.x 877 rfl]
  have hru : ruF T r (Xi S 876 7) = ruF S r (Xi S 876 7) := ren_fr x7 (fun j => k.x 877 rfl j) _ _
  have hmn : ∀ a b, mnV T a b = mnV S a b := fun a b => by
    unfold mnV mnR mnF
    rw [h.x 1 3 e4, hj 879 _ rfl, hj 879 _ rfl, hj 879 _ rfl, msc_fr (fun j => hj 2 j rfl) (fun j => k.x 3 rfl j) (fun j => k.x 4 rfl j)]
  rw [hb] at h3
  rw [hru, hmn]
  exact w3 r h1 h2 h3
theorem nwo_x {S : sS} {n m : Int} (hH : HI S) (hw : NWO S n) (h : n = m ∨ (n = 0 ∧ m ≤ 0)) : NWO S m := by
  rcases h with rfl | ⟨h1, h2⟩
  · exact hw
  · refine nwo_e hw (by omega) (fun j hj => ?_)
    have a := hw.2.1 j hj
    have b : 0 ≤ Xi S 892 j ∧ Xi S 892 j ≤ 5130 := hH.c _ _
    omega
/-- how many of the new ones were told -/
def NWC (S T : sS) (n : Int) : Prop := ∃ k : Nat, (k : Int) ≤ Xi S 891 9 ∧ Xi T 5 2 = Xi S 5 2 + k ∧ ∀ j : Nat, (j : Int) < Xi S 891 9 → n ≤ Xi S 892 j → k ≤ j
theorem nwc_0 {S : sS} (hH : HI S) : NWC S S 0 := ⟨0, by have h : 0 ≤ Xi S 891 9 ∧ Xi S 891 9 ≤ 24 := hH.c _ _; omega, by omega, fun j _ _ => Nat.zero_le j⟩
theorem mnV_keep {S T : sS} {l : List rec} (hH : HI S) (hK : LKEEP S T) (F : FR l S T) (e : kdis l [(879, 880)] = true) {a b : Int} (hm : mnV S a b ≠ -1) : mnV T a b = mnV S a b := by
  have h0 : 0 ≤ Xi S 1 3 ∧ Xi S 1 3 ≤ 200 := hH.c _ _
  have hj : ∀ j, Xj T 879 j = Xj S 879 j := fun j => by unfold Xj; rw [((F.smk e) 879 j rfl).2.1]
  unfold mnV at *
  split
  · next q =>
    rw [if_pos q] at hm
    unfold mnR at *
    rw [hj, hj, hj]
    exact mnF_keep hK h0.1 hm
  · rfl
theorem nwc_j {S T : sS} {l : List rec} {n m : Int} (hH : HI S) (hN : NWO S m) (hK : LKEEP S T) (F : FR l S T) (e : (kdis l [(879, 880), (877, 878)] && !(mdf l 876 7)) = true) (h0 : 0 ≤ n) (hn : n < m) (hb : bgn S n = 1) (hf : fob T n = -1) : ∃ j : Nat, (j : Int) < Xi S 891 9 ∧ Xi S 892 j = n := by
  simp only [Bool.and_eq_true, Bool.not_eq_true'] at e
  have hru : ruF T n (Xi T 876 7) = ruF S n (Xi S 876 7) := by rw [F.x 876 7 e.2]; exact ren_fr (F.x 876 7 e.2) (fun j => (F.smk e.1).x 877 rfl j) _ _
  rcases hN.2.2.1 n h0 hn hb with t | ⟨_, t⟩
  · have km := mnV_keep (l := l) hH hK F (by unfold kdis at *; simp only [List.all_cons, Bool.and_eq_true] at *; exact ⟨e.1.1, rfl⟩) (a := n) (b := ruF S n (Xi S 876 7)) (by omega)
    unfold fob fnd at hf
    rw [hru, km, if_pos t] at hf
    omega
  · exact t
theorem nwc_lt {S T : sS} {l : List rec} {n m : Int} (hH : HI S) (hN : NWO S m) (hK : LKEEP S T) (F : FR l S T) (e : (kdis l [(879, 880), (877, 878)] && !(mdf l 876 7)) = true) (hc : NWC S T n) (h0 : 0 ≤ n) (hn : n < m) (hb : bgn S n = 1) : fob T n = -1 → Xi T 5 2 < 24 := fun hf => by
  obtain ⟨j, j1, j2⟩ := nwc_j hH hN hK F e h0 hn hb hf
  obtain ⟨k, k1, k2, k3⟩ := hc
  have a := k3 j j1 (by omega)
  have b := hN.2.2.2
  omega
theorem nwc_s {S T U : sS} {l : List rec} {n m : Int} (hH : HI S) (hN : NWO S m) (hK : LKEEP S T) (F : FR l S T) (e : (kdis l [(879, 880), (877, 878)] && !(mdf l 876 7)) = true) (hc : NWC S T n) (h0 : 0 ≤ n) (hn : n < m) (hb : bgn S n = 1) (h1 : fob T n = -1 → Xi U 5 2 = Xi T 5 2 + 1) (h2 : fob T n ≠ -1 → Xi U 5 2 = Xi T 5 2) : NWC S U (n + 1) := by
  obtain ⟨k, k1, k2, k3⟩ := hc
  by_cases hf : fob T n = -1
  · obtain ⟨j, j1, j2⟩ := nwc_j hH hN hK F e h0 hn hb hf
    have a := k3 j j1 (by omega)
    refine ⟨k + 1, by omega, by rw [h1 hf, k2]; omega, fun i i1 i2 => ?_⟩
    have b := k3 i i1 (by omega)
    apply Classical.byContradiction
    intro q
    have c : i = k := by omega
    by_cases r : j = i
    · rw [r] at j2; omega
    · have d := hN.1 i j (by omega) j1
      omega
  · exact ⟨k, k1, by rw [h2 hf]; exact k2, fun i i1 i2 => k3 i i1 (by omega)⟩
theorem nwc_f {S T : sS} {n : Int} (hc : NWC S T n) : NWC S T (n + 1) := by
  obtain ⟨k, k1, k2, k3⟩ := hc
  exact ⟨k, k1, k2, fun i i1 i2 => k3 i i1 (by omega)⟩
theorem nwc_e {S T U : sS} {n : Int} (hc : NWC S T n) (h : Xi U 5 2 = Xi T 5 2) : NWC S U n := by
  obtain ⟨k, k1, k2, k3⟩ := hc
  exact ⟨k, k1, by rw [h]; exact k2, k3⟩
theorem five_le {S T : sS} {n : Int} (hc : NWC S T n) (ho : ∀ j, j ≠ 2 → Xi T 5 j = Xi S 5 j) : ∀ j, Xi S 5 j ≤ Xi T 5 j := fun j => by
  by_cases e : j = 2
  · obtain ⟨k, k1, k2, k3⟩ := hc
    rw [e]; omega
  · rw [ho j e]; exact Int.le_refl _
theorem mad_d {l : List rec} {S T : sS} (h : FR l S T) (e : kdis l [(896, 898)] = true) (e2 : mdf l 895 14 = false) (hm : MAD S) (h5 : Xi T 5 3 = Xi S 5 3) : MAD T := by
  have k := h.smk e
  intro i hi hp
  rw [h.x 895 14 e2] at hi
  rw [k.x 897 rfl] at hp
  rw [k.x 896 rfl, h5]
  exact hm i hi hp

