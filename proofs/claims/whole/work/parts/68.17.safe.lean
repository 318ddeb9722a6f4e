/-! SAFETY: what holds between sentences -/
def CC (S : sS) : Prop := Xi S 246 5 ≤ 19 * Xi S 246 2 + 6 * Xi S 5 3
def VAL (S : sS) : Prop := ∀ t : Int, vals S t ≤ 8
def SRX (S : sS) : Prop := S.2.2 20 1 = some (txr S) ∧ tp (txr S)
theorem SRX_FR {l : List rec} {S T : sS} (h : FR l S T) (e : mdf l 20 1 = false) (hS : SRX S) : SRX T := by
  have e1 := (h 20 1 e).2.2
  have et : txr T = txr S := by unfold txr; rw [e1]
  unfold SRX
  rw [et, e1]
  exact hS
theorem tx_mk {S : sS} {v n : Int} (hS : SRX S) (h0 : 0 ≤ v) (h1 : v + n ≤ 5000) : TXT S v n := Or.inr ⟨h0, h1, hS.1, hS.2⟩
def WI (S : sS) : Prop := LEX S ∧ TX S ∧ DEF S ∧ RUL S ∧ CMD S ∧ AK S ∧ CC S ∧ VAL S
theorem valn_fr {S T : sS} (h8 : ∀ j, Xi T 8 j = Xi S 8 j) {t : Int} : ∀ (n : Nat) (i c : Int), valn T t n i c = valn S t n i c := by
  intro n
  induction n with
  | zero => intro i c; rfl
  | succ n ih => intro i c; unfold valn; rw [h8, ih]
theorem vals_fr {S T : sS} (h8 : ∀ j, Xi T 8 j = Xi S 8 j) (h5 : Xi T 5 4 = Xi S 5 4) {t : Int} : vals T t = vals S t := by
  unfold vals; rw [h5]; exact valn_fr h8 _ _ _
def dL (l : List rec) : Bool := l.all (fun r => Nat.ble r.2.1 3 || Nat.ble 4 r.1) && (l.all (fun r => Nat.ble r.2.1 4 || Nat.ble 5 r.1) && l.all (fun r => Nat.ble r.2.1 5 || Nat.ble 6 r.1))
/-- texts may have changed, the rest not -/
theorem WI_x {l : List rec} {S T : sS} (hH : HI S) (h : FR l S T) (e1 : mdf l 1 3 = false) (e2 : dL l = true) (e4 : (kdis l kG && (!(mdf l 20 1) && (!(mdf l 246 8) && !(mdf l 246 5)))) = true) (e5 : kdis l [(5, 6), (11, 14)] = true) (e6 : (kdis l [(5, 6), (248, 272)] && !(mdf l 246 2)) = true) (e7 : (kdis l [(5, 6), (19, 20), (883, 884), (885, 887)] && !(mdf l 882 3)) = true) (e8 : kdis l [(8, 9)] = true) (e9 : kdis l [(19, 20), (5, 6)] = true) (hX : TX T) (hW : WI S) : WI T := by
  obtain ⟨w1, _, w3, w4, w5, w6, w7, w8⟩ := hW
  have k5 := h.smk e5
  have e6b := e6
  simp only [Bool.and_eq_true, Bool.not_eq_true'] at e6b
  have e4b := e4
  simp only [Bool.and_eq_true, Bool.not_eq_true'] at e4b
  refine ⟨LEX_FR h e1 e2 w1, hX, DEF_FR hH h e4 e5 w3, RUL_FR hH h e4 e6 w4, CMD_FR h e7 w5, AK_FR h e9 w6, ?_, fun t => ?_⟩
  · unfold CC
    rw [h.x 246 5 e4b.2.2.2, h.x 246 2 e6b.2, k5.x 5 rfl]
    exact w7
  · rw [vals_fr (fun j => (h.smk e8).x 8 rfl j) (k5.x 5 rfl 4)]
    exact w8 t
theorem WI_FR {l : List rec} {S T : sS} (hH : HI S) (h : FR l S T) (e1 : mdf l 1 3 = false) (e2 : dL l = true) (e3 : (kdis l kX && !(mdf l 20 1)) = true) (e4 : (kdis l kG && (!(mdf l 20 1) && (!(mdf l 246 8) && !(mdf l 246 5)))) = true) (e5 : kdis l [(5, 6), (11, 14)] = true) (e6 : (kdis l [(5, 6), (248, 272)] && !(mdf l 246 2)) = true) (e7 : (kdis l [(5, 6), (19, 20), (883, 884), (885, 887)] && !(mdf l 882 3)) = true) (e8 : kdis l [(8, 9)] = true) (e9 : kdis l [(19, 20), (5, 6)] = true) (hW : WI S) : WI T :=
  WI_x hH h e1 e2 e4 e5 e6 e7 e8 e9 (TX_FR h e3 hW.2.1) hW
/-- words may have been told: counts have grown, but not that of adjectives -/
theorem WI_gx {l : List rec} {S T : sS} (hH : HI S) (h : FR l S T) (hX : TX T) (e4 : (kdis l kG && (!(mdf l 20 1) && (!(mdf l 246 8) && !(mdf l 246 5)))) = true) (e5 : kdis l [(11, 14)] = true) (e6 : (kdis l [(248, 272)] && !(mdf l 246 2)) = true) (e7 : (kdis l [(883, 884), (885, 887), (19, 20)] && !(mdf l 882 3)) = true) (hL : LEX T) (h5 : ∀ j, Xi S 5 j ≤ Xi T 5 j) (h53 : Xi T 5 3 = Xi S 5 3) (h54 : VAL T) (hW : WI S) : WI T := by
  obtain ⟨w1, w2, w3, w4, w5, w6, w7, w8⟩ := hW
  have g := FR_sG hH h e4 (h5 3) (h5 8)
  have k5 := h.smk e5
  simp only [Bool.and_eq_true, Bool.not_eq_true'] at e6 e7 e4
  have k6 := h.smk e6.1
  have k7 := h.smk e7.1
  have h24 : 0 ≤ Xi S 246 2 ∧ Xi S 246 2 ≤ 24 := hH.c _ _
  refine ⟨hL, hX, DEF_sG hH g (fun a _ => ⟨k5.x 11 rfl a, k5.x 12 rfl a, k5.x 13 rfl a⟩) (fun a h1 h2 => by omega) w3, RUL_sG hH g (fun i hi j => k6.x _ (inK_i (a := 248) (b := 272) (by decide) (by omega) (by omega)) j) (h.x 246 2 e6.2) w4, ?_, ?_, ?_, h54⟩
  · intro i hi
    rw [h.x 882 3 e7.2] at hi
    rw [k7.x 883 rfl, k7.x 885 rfl, k7.x 886 rfl, k7.x 19 rfl]
    obtain ⟨a, b⟩ := w5 i hi
    have := h5 8
    exact ⟨by omega, b⟩
  · obtain ⟨a, b⟩ := w6
    have := h5 8
    refine ⟨by omega, ?_⟩
    simp only [k7.x 19 rfl]
    exact b
  · unfold CC
    rw [h.x 246 5 e4.2.2.2, h.x 246 2 e6.2, h53]
    exact w7
theorem WI_g {l : List rec} {S T : sS} (hH : HI S) (h : FR l S T) (e3 : (kdis l kX && !(mdf l 20 1)) = true) (e4 : (kdis l kG && (!(mdf l 20 1) && (!(mdf l 246 8) && !(mdf l 246 5)))) = true) (e5 : kdis l [(11, 14)] = true) (e6 : (kdis l [(248, 272)] && !(mdf l 246 2)) = true) (e7 : (kdis l [(883, 884), (885, 887), (19, 20)] && !(mdf l 882 3)) = true) (hL : LEX T) (h5 : ∀ j, Xi S 5 j ≤ Xi T 5 j) (h53 : Xi T 5 3 = Xi S 5 3) (h54 : VAL T) (hW : WI S) : WI T :=
  WI_gx hH h (TX_FR h e3 hW.2.1) e4 e5 e6 e7 hL h5 h53 h54 hW
def fob (S : sS) (r : Int) : Int := fnd S 2 r (ruF S r (Xi S 876 7))
theorem ren_fr {S T : sS} (h7 : Xi T 876 7 = Xi S 876 7) (h : ∀ j, Xi T 877 j = Xi S 877 j) {lim : Int} : ∀ (n : Nat) (r : Int), ren T lim n r = ren S lim n r := by
  intro n
  induction n with
  | zero => intro r; rfl
  | succ n ih => intro r; unfold ren; rw [h7, h, ih]
theorem ruF_FR {l : List rec} {S T : sS} (h : FR l S T) (e : (kdis l [(877, 878)] && !(mdf l 876 7)) = true) {a lim : Int} : ruF T a lim = ruF S a lim := by
  simp only [Bool.and_eq_true, Bool.not_eq_true'] at e
  exact ren_fr (h.x 876 7 e.2) (fun j => (h.smk e.1).x 877 rfl j) _ _
theorem bgn_FR {l : List rec} {S T : sS} (h : FR l S T) (e : (kdis l [(877, 878)] && !(mdf l 876 7)) = true) (e2 : mdf l 890 3 = false) {r : Int} : bgn T r = bgn S r := by
  simp only [Bool.and_eq_true, Bool.not_eq_true'] at e
  have k := h.smk e.1
  unfold bgn bgr
  rw [h.x 876 7 e.2, h.x 890 3 e2, k.x 877 rfl, k.x 877 rfl]
theorem fnd_FR {l : List rec} {S T : sS} (h : FR l S T) (e : (kdis l kA && !(mdf l 1 3)) = true) {s a b : Int} : fnd T s a b = fnd S s a b := by unfold fnd; rw [mnV_FR h e]
theorem fob_FR {l : List rec} {S T : sS} (h : FR l S T) (e : (kdis l kA && !(mdf l 1 3)) = true) (e2 : (kdis l [(877, 878)] && !(mdf l 876 7)) = true) {r : Int} : fob T r = fob S r := by
  have e3 := e2
  simp only [Bool.and_eq_true, Bool.not_eq_true'] at e3
  unfold fob; rw [fnd_FR h e, ruF_FR h e2, h.x 876 7 e3.2]
theorem fob_of {S : sS} {r y z : Int} (hz : z = fnd S 2 r y) (hy : y = ruF S r (Xi S 876 7)) : z = fob S r := by rw [hy] at hz; exact hz
/-- each object in the list has the adjective, up to a row -/
def ASU (S : sS) (a b nt n : Int) : Prop := ∀ r : Int, 0 ≤ r → r < n → bgn S r = 1 → fob S r ≠ -1 → 1 ≤ raF S (Xi S 21 (fob S r).toNat) a b (1 - nt) 0
theorem asu_0 {S : sS} {a b nt : Int} : ASU S a b nt 0 := fun r h1 h2 => by omega
theorem asu_s {S : sS} {a b nt n : Int} (h : ASU S a b nt n) (hn : bgn S n ≠ 1 ∨ fob S n = -1 ∨ 1 ≤ raF S (Xi S 21 (fob S n).toNat) a b (1 - nt) 0) : ASU S a b nt (n + 1) := fun r h1 h2 h3 h4 => by
  by_cases e : r = n
  · rw [e] at h3 h4 ⊢
    rcases hn with q | q | q
    · exact absurd h3 q
    · exact absurd q h4
    · exact q
  · exact h r h1 (by omega) h3 h4
theorem asu_r {l : List rec} {S T : sS} {k a b v nt r z : Int} (hz : z = raF T k a b v 0) (h : FR l S T) (e : (kdis l kA && !(mdf l 1 3)) = true) (hk : k = Xi S 21 (fob S r).toNat) (hv : v = 1 - nt) (h1 : 1 ≤ z) : 1 ≤ raF S (Xi S 21 (fob S r).toNat) a b (1 - nt) 0 := by
  rw [raF_FR h e, hk, hv] at hz
  omega
theorem asu_u {l : List rec} {S T : sS} {k a b v nt r n z : Int} (hs : ASU S a b nt n) (hz : z = raF T k a b v 0) (h : FR l S T) (e : (kdis l kA && !(mdf l 1 3)) = true) (hk : k = Xi S 21 (fob S r).toNat) (hv : v = 1 - nt) (h0 : 0 ≤ r) (hr : r < n) (hb : bgn S r = 1) (hf : fob S r ≠ -1) : 1 ≤ z := by
  have t := hs r h0 hr hb hf
  rw [raF_FR h e, hk, hv] at hz
  omega
/-- names that are new in the list, up to a row -/
def NWO (S : sS) (n : Int) : Prop := (∀ i j : Nat, i < j → (j : Int) < Xi S 891 9 → Xi S 892 i < Xi S 892 j) ∧ (∀ j : Nat, (j : Int) < Xi S 891 9 → Xi S 892 j < n) ∧ (∀ r : Int, 0 ≤ r → r < n → bgn S r = 1 → mnV S r (ruF S r (Xi S 876 7)) / 256 = 2 ∨ (mnV S r (ruF S r (Xi S 876 7)) = -1 ∧ ∃ j : Nat, (j : Int) < Xi S 891 9 ∧ Xi S 892 j = r)) ∧ (Xi S 891 9 = 0 ∨ Xi S 5 2 + Xi S 891 9 ≤ 24)
theorem nwo_0 {S : sS} (h : Xi S 891 9 = 0) : NWO S 0 := ⟨fun i j _ h2 => by omega, fun j hj => by omega, fun r h1 h2 => by omega, Or.inl h⟩
theorem asu_e {S : sS} {a b nt n m : Int} (h : ASU S a b nt n) (hm : m ≤ n) : ASU S a b nt m := fun r h1 h2 h3 h4 => h r h1 (by omega) h3 h4
theorem VAL_fr {l : List rec} {S T : sS} (h : FR l S T) (e8 : kdis l [(8, 9)] = true) (h4 : Xi T 5 4 = Xi S 5 4) (hv : VAL S) : VAL T := fun t => by
  rw [vals_fr (fun j => (h.smk e8).x 8 rfl j) h4]
  exact hv t
theorem WI_tn {S T : sS} {s : Int} (hH : HI S) (h : FR md_vo_tellNew S T) (hL : LEX T) (hc : Xi T 5 s.toNat = Xi S 5 s.toNat + 1) (ho : ∀ j, j ≠ s.toNat → Xi T 5 j = Xi S 5 j) (h3 : s.toNat ≠ 3) (h4 : s.toNat ≠ 4) (hW : WI S) : WI T :=
  WI_g hH h rfl rfl rfl rfl rfl hL (fun j => by
    by_cases e : j = s.toNat
    · rw [e]; omega
    · rw [ho j e]; exact Int.le_refl _) (ho 3 (fun e => h3 e.symm)) (VAL_fr h rfl (ho 4 (fun e => h4 e.symm)) hW.2.2.2.2.2.2.2) hW
theorem WI_nm {S T : sS} (hH : HI S) (h : FR md_vo_nameIt S T) (hL : LEX T) (ho : ∀ j, Xi T 5 j = Xi S 5 j) (hW : WI S) : WI T :=
  WI_g hH h rfl rfl rfl rfl rfl hL (fun j => by rw [ho j]; exact Int.le_refl _) (ho 3) (VAL_fr h rfl (ho 4) hW.2.2.2.2.2.2.2) hW
theorem WI_ns {S T : sS} (hH : HI S) (h : FR md_re_nameWithS S T) (hL : LEX T) (ho : ∀ j, Xi T 5 j = Xi S 5 j) (hW : WI S) : WI T :=
  WI_g hH h rfl rfl rfl rfl rfl hL (fun j => by rw [ho j]; exact Int.le_refl _) (ho 3) (VAL_fr h rfl (ho 4) hW.2.2.2.2.2.2.2) hW
theorem nwo_n {l : List rec} {S T : sS} {n : Int} (h : FR l S T) (e : (kdis l [(877, 878), (2, 5), (879, 880), (5, 6)] && (!(mdf l 876 7) && (!(mdf l 890 3) && !(mdf l 1 3)))) = true) (h0 : 0 ≤ n) (hw : NWO S n) (hr : (Xi T 891 9 = Xi S 891 9 ∧ (∀ j : Nat, (j : Int) < Xi S 891 9 → Xi T 892 j = Xi S 892 j) ∧ (bgn S n = 1 → mnV S n (ruF S n (Xi S 876 7)) / 256 = 2)) ∨ (Xi T 891 9 = Xi S 891 9 + 1 ∧ (∀ j : Nat, (j : Int) < Xi S 891 9 → Xi T 892 j = Xi S 892 j) ∧ Xi T 892 (Xi S 891 9).toNat = n ∧ 0 ≤ Xi S 891 9 ∧ Xi S 5 2 + Xi T 891 9 ≤ 24 ∧ mnV S n (ruF S n (Xi S 876 7)) = -1)) : NWO T (n + 1) := by
  simp only [Bool.and_eq_true, Bool.not_eq_true'] at e
  obtain ⟨e1, e2, e3, e4⟩ := e
  have k := h.smk e1
  have x7 := h.x 876 7 e2
  have hj : ∀ c j, inK [(877, 878), (2, 5), (879, 880), (5, 6)] c = true → Xj T c j = Xj S c j := fun c j hc => by unfold Xj; rw [(k c j hc).2.1]
  have hru : ∀ a lim, ruF T a lim = ruF S a lim := fun a lim => ren_fr x7 (fun j => k.x 877 rfl j) _ _
  have hbg : ∀ r, bgn T r = bgn S r := fun r => by unfold bgn bgr; rw [x7, h.x 890 3 e3, k.x 877 rfl, k.x 877 rfl]
  have hmn : ∀ a b, mnV T a b = mnV S a b := fun a b => by
    unfold mnV mnR mnF
    rw [h.x 1 3 e4, hj 879 _ rfl, hj 879 _ rfl, hj 879 _ rfl, msc_fr (fun j => hj 2 j rfl) (fun j => k.x 3 rfl j) (fun j => k.x 4 rfl j)]
  obtain ⟨w1, w2, w3, w4⟩ := hw
  rcases hr with ⟨r1, r2, r3⟩ | ⟨r1, r2, r3, r4, r5, r6⟩
  · refine ⟨fun i j h1 h2 => ?_, fun j h1 => ?_, fun r h1 h2 h3 => ?_, ?_⟩
    · rw [r1] at h2; rw [r2 i (by omega), r2 j h2]; exact w1 i j h1 h2
    · rw [r1] at h1; rw [r2 j h1]; have := w2 j h1; omega
    · rw [hbg] at h3; rw [hmn, hru, x7, r1]
      by_cases q : r = n
      · rw [q] at h3 ⊢; exact Or.inl (r3 h3)
      · rcases w3 r h1 (by omega) h3 with t | ⟨t, j, t1, t2⟩
        · exact Or.inl t
        · exact Or.inr ⟨t, j, t1, by rw [r2 j t1]; exact t2⟩
    · rw [r1, k.x 5 rfl]; exact w4
  · refine ⟨fun i j h1 h2 => ?_, fun j h1 => ?_, fun r h1 h2 h3 => ?_, ?_⟩
    · rw [r1] at h2
      by_cases q : (j : Int) = Xi S 891 9
      · rw [r2 i (by omega), show j = (Xi S 891 9).toNat by omega, r3]; exact w2 i (by omega)
      · rw [r2 i (by omega), r2 j (by omega)]; exact w1 i j h1 (by omega)
    · rw [r1] at h1
      by_cases q : (j : Int) = Xi S 891 9
      · rw [show j = (Xi S 891 9).toNat by omega, r3]; omega
      · rw [r2 j (by omega)]; have := w2 j (by omega); omega
    · rw [hbg] at h3; rw [hmn, hru, x7, r1]
      by_cases q : r = n
      · rw [q]; exact Or.inr ⟨r6, (Xi S 891 9).toNat, by omega, r3⟩
      · rcases w3 r h1 (by omega) h3 with t | ⟨t, j, t1, t2⟩
        · exact Or.inl t
        · exact Or.inr ⟨t, j, by omega, by rw [r2 j t1]; exact t2⟩
    · rw [r1, k.x 5 rfl]; right; omega
theorem nwo_f {S : sS} {n : Int} (hw : NWO S n) (hb : bgn S n ≠ 1) : NWO S (n + 1) := by
  obtain ⟨w1, w2, w3, w4⟩ := hw
  exact ⟨w1, fun j h1 => by have := w2 j h1; omega, fun r h1 h2 h3 => by
    by_cases q : r = n
    · rw [q] at h3; exact absurd h3 hb
    · exact w3 r h1 (by omega) h3, w4⟩
theorem nwo_e {S : sS} {n m : Int} (hw : NWO S n) (h : m ≤ n) (hm : ∀ j : Nat, (j : Int) < Xi S 891 9 → Xi S 892 j < m) : NWO S m := by
  obtain ⟨w1, w2, w3, w4⟩ := hw
  exact ⟨w1, hm, fun r h1 h2 h3 => w3 r h1 (by omega) h3, w4⟩
theorem NWO_FR {l : List rec} {S T : sS} {n : Int} (h : FR l S T) (e : (kdis l [(877, 878), (2, 5), (879, 880), (5, 6), (892, 893)] && (!(mdf l 876 7) && (!(mdf l 890 3) && (!(mdf l 1 3) && !(mdf l 891 9))))) = true) (hw : NWO S n) : NWO T n := by
  simp only [Bool.and_eq_true, Bool.not_eq_true'] at e
  obtain ⟨e1, e2, e3, e4, e5⟩ := e
  have k := h.smk e1
  have x7 := h.x 876 7 e2
  have hj : ∀ c j, inK [(877, 878), (2, 5), (879, 880), (5, 6), (892, 893)] c = true → Xj T c j = Xj S c j := fun c j hc => by unfold Xj; rw [(k c j hc).2.1]
  obtain ⟨w1, w2, w3, w4⟩ := hw
  unfold NWO
  rw [h.x 891 9 e5, x7]
  simp only [k.x 892 rfl, k.x 5 rfl]
  refine ⟨w1, w2, fun r h1 h2 h3 => ?_, w4⟩
  have hb : bgn T r = bgn S r := by unfold bgn bgr; rw [x7, h.x 890 3 e3, k.x 877 rfl, k.x 877 rfl]
  have hru : ruF T r (Xi S 876 7) = ruF S r (Xi S 876 7) := ren_fr x7 (fun j => k.x 877 rfl j) _ _
  have hmn : ∀ a b, mnV T a b = mnV S a b := fun a b => by
    unfold mnV mnR mnF
    rw [h.x 1 3 e4, hj 879 _ rfl, hj 879 _ rfl, hj 879 _ rfl, msc_fr (fun j => hj 2 j rfl) (fun j => k.x 3 rfl j) (fun j => k.x 4 rfl j)]
  rw [hb] at h3
  rw [hru, hmn]
  exact w3 r h1 h2 h3
theorem nwo_x {S : sS} {n m : Int} (hH : HI S) (hw : NWO S n) (h : n = m ∨ (n = 0 ∧ m ≤ 0)) : NWO S m := by
  rcases h with rfl | ⟨h1, h2⟩
  · exact hw
  · refine nwo_e hw (by omega) (fun j hj => ?_)
    have a := hw.2.1 j hj
    have b : 0 ≤ Xi S 892 j ∧ Xi S 892 j ≤ 5130 := hH.c _ _
    omega
/-- how many of the new ones were told -/
def NWC (S T : sS) (n : Int) : Prop := ∃ k : Nat, (k : Int) ≤ Xi S 891 9 ∧ Xi T 5 2 = Xi S 5 2 + k ∧ ∀ j : Nat, (j : Int) < Xi S 891 9 → n ≤ Xi S 892 j → k ≤ j
theorem nwc_0 {S : sS} (hH : HI S) : NWC S S 0 := ⟨0, by have h : 0 ≤ Xi S 891 9 ∧ Xi S 891 9 ≤ 24 := hH.c _ _; omega, by omega, fun j _ _ => Nat.zero_le j⟩
theorem mnV_keep {S T : sS} {l : List rec} (hH : HI S) (hK : LKEEP S T) (F : FR l S T) (e : kdis l [(879, 880)] = true) {a b : Int} (hm : mnV S a b ≠ -1) : mnV T a b = mnV S a b := by
  have h0 : 0 ≤ Xi S 1 3 ∧ Xi S 1 3 ≤ 200 := hH.c _ _
  have hj : ∀ j, Xj T 879 j = Xj S 879 j := fun j => by unfold Xj; rw [((F.smk e) 879 j rfl).2.1]
  unfold mnV at *
  split
  · next q =>
    rw [if_pos q] at hm
    unfold mnR at *
    rw [hj, hj, hj]
    exact mnF_keep hK h0.1 hm
  · rfl
theorem nwc_j {S T : sS} {l : List rec} {n m : Int} (hH : HI S) (hN : NWO S m) (hK : LKEEP S T) (F : FR l S T) (e : (kdis l [(879, 880), (877, 878)] && !(mdf l 876 7)) = true) (h0 : 0 ≤ n) (hn : n < m) (hb : bgn S n = 1) (hf : fob T n = -1) : ∃ j : Nat, (j : Int) < Xi S 891 9 ∧ Xi S 892 j = n := by
  simp only [Bool.and_eq_true, Bool.not_eq_true'] at e
  have hru : ruF T n (Xi T 876 7) = ruF S n (Xi S 876 7) := by rw [F.x 876 7 e.2]; exact ren_fr (F.x 876 7 e.2) (fun j => (F.smk e.1).x 877 rfl j) _ _
  rcases hN.2.2.1 n h0 hn hb with t | ⟨_, t⟩
  · have km := mnV_keep (l := l) hH hK F (by unfold kdis at *; simp only [List.all_cons, Bool.and_eq_true] at *; exact ⟨e.1.1, rfl⟩) (a := n) (b := ruF S n (Xi S 876 7)) (by omega)
    unfold fob fnd at hf
    rw [hru, km, if_pos t] at hf
    omega
  · exact t
theorem nwc_lt {S T : sS} {l : List rec} {n m : Int} (hH : HI S) (hN : NWO S m) (hK : LKEEP S T) (F : FR l S T) (e : (kdis l [(879, 880), (877, 878)] && !(mdf l 876 7)) = true) (hc : NWC S T n) (h0 : 0 ≤ n) (hn : n < m) (hb : bgn S n = 1) : fob T n = -1 → Xi T 5 2 < 24 := fun hf => by
  obtain ⟨j, j1, j2⟩ := nwc_j hH hN hK F e h0 hn hb hf
  obtain ⟨k, k1, k2, k3⟩ := hc
  have a := k3 j j1 (by omega)
  have b := hN.2.2.2
  omega
theorem nwc_s {S T U : sS} {l : List rec} {n m : Int} (hH : HI S) (hN : NWO S m) (hK : LKEEP S T) (F : FR l S T) (e : (kdis l [(879, 880), (877, 878)] && !(mdf l 876 7)) = true) (hc : NWC S T n) (h0 : 0 ≤ n) (hn : n < m) (hb : bgn S n = 1) (h1 : fob T n = -1 → Xi U 5 2 = Xi T 5 2 + 1) (h2 : fob T n ≠ -1 → Xi U 5 2 = Xi T 5 2) : NWC S U (n + 1) := by
  obtain ⟨k, k1, k2, k3⟩ := hc
  by_cases hf : fob T n = -1
  · obtain ⟨j, j1, j2⟩ := nwc_j hH hN hK F e h0 hn hb hf
    have a := k3 j j1 (by omega)
    refine ⟨k + 1, by omega, by rw [h1 hf, k2]; omega, fun i i1 i2 => ?_⟩
    have b := k3 i i1 (by omega)
    apply Classical.byContradiction
    intro q
    have c : i = k := by omega
    by_cases r : j = i
    · rw [r] at j2; omega
    · have d := hN.1 i j (by omega) j1
      omega
  · exact ⟨k, k1, by rw [h2 hf]; exact k2, fun i i1 i2 => k3 i i1 (by omega)⟩
theorem nwc_f {S T : sS} {n : Int} (hc : NWC S T n) : NWC S T (n + 1) := by
  obtain ⟨k, k1, k2, k3⟩ := hc
  exact ⟨k, k1, k2, fun i i1 i2 => k3 i i1 (by omega)⟩
theorem nwc_e {S T U : sS} {n : Int} (hc : NWC S T n) (h : Xi U 5 2 = Xi T 5 2) : NWC S U n := by
  obtain ⟨k, k1, k2, k3⟩ := hc
  exact ⟨k, k1, by rw [h]; exact k2, k3⟩
theorem five_le {S T : sS} {n : Int} (hc : NWC S T n) (ho : ∀ j, j ≠ 2 → Xi T 5 j = Xi S 5 j) : ∀ j, Xi S 5 j ≤ Xi T 5 j := fun j => by
  by_cases e : j = 2
  · obtain ⟨k, k1, k2, k3⟩ := hc
    rw [e]; omega
  · rw [ho j e]; exact Int.le_refl _
theorem mad_d {l : List rec} {S T : sS} (h : FR l S T) (e : kdis l [(896, 898)] = true) (e2 : mdf l 895 14 = false) (hm : MAD S) (h5 : Xi T 5 3 = Xi S 5 3) : MAD T := by
  have k := h.smk e
  intro i hi hp
  rw [h.x 895 14 e2] at hi
  rw [k.x 897 rfl] at hp
  rw [k.x 896 rfl, h5]
  exact hm i hi hp
/-! SAFETY of methods: printed by wip/safe (vc.py, decl.py) -/
def md_me_readWhat : List rec := [(876, 877, 8, 9), (876, 877, 9, 10), (895, 896, 10, 11), (895, 896, 11, 12)]
abbrev Q_me_readWhat (S : sS) (row : Int) (type : Int) : pst := fun r S1 => HI S1 ∧ FR md_me_readWhat S S1 ∧ (∃ z : Int, r = some (iv z) ∧ (0 ≤ z ∧ z ≤ 1) ∧ (z = 1 → TXT S1 (Xi S1 895 10) (Xi S1 895 11)) ∧ (z = 0 → Xi S1 876 8 ≠ 0))
set_option maxRecDepth 100000 in
theorem t_me_readWhat {S : sS} (hH : HI S) (row : Int) (type : Int) (hrow : 0 ≤ row ∧ row ≤ 5140) (htype : 0 ≤ type ∧ type ≤ 7) (hL : LEX S) (hT : TOK S) (hS : SRX S) (d : Nat) : Mt lay0 (d + 2) m_me_readWhat [.ref 895, iv row, iv type] S (Q_me_readWhat S row type) := by
  refine Mt_R rfl rfl ?_
  have hF : FR md_me_readWhat S S := FR.rf
  have w1 : -2147483648 ≤ Xi S 895 11 ∧ Xi S 895 11 ≤ 2147483647 := Xi_rgI
  have htk : 0 ≤ row → row < Xi S 876 7 → Xi S 877 row.toNat = 102 → 0 ≤ Xj S 879 row.toNat ∧ Xj S 879 row.toNat ≤ 120 ∧ Xi S 878 row.toNat + Xj S 879 row.toNat + 2 ≤ Xi S 876 5 := fun h1 h2 h3 => hT row.toNat (by omega) h3
  have C73 : ∀  (T1 : sS) (_ : HI T1) (_ : FR md_me_readWhat S T1) (v3 : Int), (0 ≤ v3 ∧ v3 ≤ 108) → (Xi T1 895 11 = 0) → Rl lay0 (d + 1) m_me_readWhat 73 [(0, .ref 895), (1, iv row), (2, iv type), (3, iv v3)] [] T1 (Q_me_readWhat S row type) := by
    intro T1 hHT1 hFT1 v3 w2 w3
    have w4 : Xi T1 876 7 = Xi S 876 7 := hFT1.x _ _ rfl
    have w5 : -2147483648 ≤ Xi T1 895 11 ∧ Xi T1 895 11 ≤ 2147483647 := Xi_rgI
    refine l_iload_n rfl rfl ?_
    refine l_bipush rfl rfl ?_
    refine l_icmp_ne rfl rfl (by unfold rg; omega) (by unfold rg; omega) (fun w6 => ?_) (fun w7 => ?_)
    · refine l_iconst rfl ?_
      refine l_istore rfl rfl rfl ?_
      refine l_iload rfl rfl ?_
      refine l_bipush rfl rfl ?_
      refine l_ishr8 rfl (by unfold rg; omega) ?_
      refine l_iconst rfl ?_
      refine l_icmp_ne rfl rfl (by unfold rg; omega) (by unfold rg; omega) (fun w9 => ?_) (fun w10 => ?_)
      · refine l_aload_n rfl rfl ?_
        refine l_gfr rfl rfl rfl rfl rfl (hHT1.r 895 0 876 rfl) ?_
        refine l_iconst rfl ?_
        refine l_iload_n rfl rfl ?_
        have w11 : 0 ≤ Xi T1 876 5 ∧ Xi T1 876 5 ≤ 5000 := hHT1.c _ _
        have w12 : 0 ≤ Xi T1 876 7 ∧ Xi T1 876 7 ≤ 5125 := hHT1.c _ _
        refine l_callV rfl rfl rfl (t_to_wrong hHT1 4 row ⟨by omega, by omega⟩ ⟨by omega, by omega⟩ _) ?_
        rintro _ T2 ⟨hHT2, w16, z15, rfl, w15, w13, w14⟩
        have hFT2 : FR md_me_readWhat S T2 := FR.tr hFT1 w16 rfl
        show Rl _ _ _ _ _ [iv z15] _ _
        refine l_ireturn rfl (retI_z (by omega)) ?_
        have w17 : Xi T2 876 5 = Xi T1 876 5 := (show Xi T2 876 5 = Xi T1 876 5 from w16.x _ _ rfl)
        have w19 : Xi T2 876 7 = Xi T1 876 7 := (show Xi T2 876 7 = Xi T1 876 7 from w16.x _ _ rfl)
        have w21 : 0 ≤ Xi T2 876 8 ∧ Xi T2 876 8 ≤ 9 := hHT2.c _ _
        have w22 : Xi T2 895 10 = Xi T1 895 10 := (show Xi T2 895 10 = Xi T1 895 10 from w16.x _ _ rfl)
        have w23 : Xi T2 895 11 = Xi T1 895 11 := (show Xi T2 895 11 = Xi T1 895 11 from w16.x _ _ rfl)
        exact ⟨hHT2, hFT2, _, rfl, ⟨by omega, by omega⟩, (by first | (intro hz; omega) | (intro _; exact Or.inl (by omega)) | (intro _; exact tx_mk (SRX_FR hFT2 rfl hS) (by omega) (by omega))), (by omega)⟩
      · refine l_aload_n rfl rfl ?_
        refine l_gfr rfl rfl rfl rfl rfl (hHT1.r 895 1 1 rfl) ?_
        refine l_gfr rfl rfl rfl rfl rfl (hHT1.r 1 7 8 rfl) ?_
        refine l_iload rfl rfl ?_
        refine l_sipush rfl rfl ?_
        refine l_iand255 rfl (by unfold rg; omega) ?_
        refine l_iaload (n := 64) rfl rfl (by omega) (by omega) (by unfold rg; omega) ?_
        have w25 : 0 ≤ (Xi T1 8 ((((-1) % 256)).toNat)) ∧ (Xi T1 8 ((((-1) % 256)).toNat)) ≤ 7 := hHT1.c _ _
        refine l_iload_n rfl rfl ?_
        refine l_icmp_ne rfl rfl (by unfold rg; omega) (by unfold rg; omega) (fun w26 => ?_) (fun w27 => ?_)
        · refine l_aload_n rfl rfl ?_
          refine l_gfr rfl rfl rfl rfl rfl (hHT1.r 895 0 876 rfl) ?_
          refine l_iconst rfl ?_
          refine l_iload_n rfl rfl ?_
          have w28 : 0 ≤ Xi T1 876 5 ∧ Xi T1 876 5 ≤ 5000 := hHT1.c _ _
          have w29 : 0 ≤ Xi T1 876 7 ∧ Xi T1 876 7 ≤ 5125 := hHT1.c _ _
          refine l_callV rfl rfl rfl (t_to_wrong hHT1 4 row ⟨by omega, by omega⟩ ⟨by omega, by omega⟩ _) ?_
          rintro _ T3 ⟨hHT3, w33, z32, rfl, w32, w30, w31⟩
          have hFT3 : FR md_me_readWhat S T3 := FR.tr hFT1 w33 rfl
          show Rl _ _ _ _ _ [iv z32] _ _
          refine l_ireturn rfl (retI_z (by omega)) ?_
          have w34 : Xi T3 876 5 = Xi T1 876 5 := (show Xi T3 876 5 = Xi T1 876 5 from w33.x _ _ rfl)
          have w36 : Xi T3 876 7 = Xi T1 876 7 := (show Xi T3 876 7 = Xi T1 876 7 from w33.x _ _ rfl)
          have w38 : 0 ≤ Xi T3 876 8 ∧ Xi T3 876 8 ≤ 9 := hHT3.c _ _
          have w39 : Xi T3 895 10 = Xi T1 895 10 := (show Xi T3 895 10 = Xi T1 895 10 from w33.x _ _ rfl)
          have w40 : Xi T3 895 11 = Xi T1 895 11 := (show Xi T3 895 11 = Xi T1 895 11 from w33.x _ _ rfl)
          exact ⟨hHT3, hFT3, _, rfl, ⟨by omega, by omega⟩, (by first | (intro hz; omega) | (intro _; exact Or.inl (by omega)) | (intro _; exact tx_mk (SRX_FR hFT3 rfl hS) (by omega) (by omega))), (by omega)⟩
        · refine l_aload_n rfl rfl ?_
          refine l_iload rfl rfl ?_
          refine l_sipush rfl rfl ?_
          refine l_iand255 rfl (by unfold rg; omega) ?_
          refine l_pfi rfl rfl rfl rfl ?_
          obtain ⟨U4, eU4⟩ : ∃ T : sS, T = uI T1 895 10 (Int32.ofInt ((-1) % 256)) := ⟨_, rfl⟩
          rw [← eU4]
          have hHU4 : HI U4 := by rw [eU4]; exact HI_any hHT1 (rfl)
          have hFU4 : FR md_me_readWhat S U4 := by rw [eU4]; exact FR.wI hFT1 (mdf_i (r := (895, 896, 10, 11)) (List.mem_of_getElem? (i := 2) rfl) (inR_i (by omega) (by omega) (by omega) (by omega)))
          have w42 : Xi U4 895 10 = ((-1) % 256) := by rw [eU4]; exact Xi_same (by unfold rg; omega)
          refine l_iconst rfl ?_
          refine l_ireturn rfl rfl ?_
          have w43 : Xi U4 876 5 = Xi T1 876 5 := (show Xi U4 876 5 = Xi T1 876 5 from by rw [eU4]; exact Xi_ne (by omega))
          have w44 : 0 ≤ Xi T1 876 5 ∧ Xi T1 876 5 ≤ 5000 := hHT1.c _ _
          have w45 : Xi U4 876 7 = Xi T1 876 7 := (show Xi U4 876 7 = Xi T1 876 7 from by rw [eU4]; exact Xi_ne (by omega))
          have w46 : 0 ≤ Xi T1 876 7 ∧ Xi T1 876 7 ≤ 5125 := hHT1.c _ _
          have w47 : Xi U4 876 8 = Xi T1 876 8 := (show Xi U4 876 8 = Xi T1 876 8 from by rw [eU4]; exact Xi_ne (by omega))
          have w48 : 0 ≤ Xi T1 876 8 ∧ Xi T1 876 8 ≤ 9 := hHT1.c _ _
          have w49 : Xi U4 895 11 = Xi T1 895 11 := (show Xi U4 895 11 = Xi T1 895 11 from by rw [eU4]; exact Xi_ne (by omega))
          exact ⟨hHU4, hFU4, _, rfl, ⟨by omega, by omega⟩, (by first | (intro hz; omega) | (intro _; exact Or.inl (by omega)) | (intro _; exact tx_mk (SRX_FR hFU4 rfl hS) (by omega) (by omega))), (by omega)⟩
    · refine l_aload_n rfl rfl ?_
      refine l_gfr rfl rfl rfl rfl rfl (hHT1.r 895 1 1 rfl) ?_
      refine l_aload_n rfl rfl ?_
      refine l_gfr rfl rfl rfl rfl rfl (hHT1.r 895 0 876 rfl) ?_
      refine l_gfr rfl rfl rfl rfl rfl (hHT1.r 876 2 879 rfl) ?_
      refine l_iload_n rfl rfl ?_
      refine l_aload_n rfl rfl ?_
      refine l_gfr rfl rfl rfl rfl rfl (hHT1.r 895 0 876 rfl) ?_
      refine l_iload_n rfl rfl ?_
      refine l_iload_n rfl rfl ?_
      refine l_iconst rfl ?_
      refine l_iadd rfl ?_
      refine l_iconst rfl ?_
      refine l_iadd rfl ?_
      have w50 : 0 ≤ Xi T1 876 5 ∧ Xi T1 876 5 ≤ 5000 := hHT1.c _ _
      have w51 : 0 ≤ Xi T1 876 7 ∧ Xi T1 876 7 ≤ 5125 := hHT1.c _ _
      refine l_callV rfl rfl rfl (t_to_runEndUpTo hHT1 row ((row + 3) + 1) ⟨by omega, by omega⟩ ⟨by omega, by omega⟩ _) ?_
      rintro _ _ ⟨rfl, z59, rfl, w59, w52, w53, w54, w55, w56, w57, w58⟩
      clear w54 w55 w56 w57
      show Rl _ _ _ _ _ [iv z59, iv row, .ref 879, .ref 1] _ _
      refine l_callV rfl rfl rfl (t_vo_meaning hHT1 879 5130 row z59 rfl ⟨by omega, by omega⟩ ⟨by omega, by omega⟩ ⟨by omega, by omega⟩ (by first | assumption | exact (LEX_FR hFT1 rfl rfl (by assumption : LEX S))) _) ?_
      rintro _ _ ⟨rfl, z65, rfl, w65, w62, w63, w64⟩
      show Rl _ _ _ _ _ [iv z65] _ _
      have hmnz65 := mOK_n (z := z65) (by assumption)
      refine l_goto rfl rfl ?_
      refine l_istore rfl rfl rfl ?_
      refine l_iload rfl rfl ?_
      refine l_bipush rfl rfl ?_
      refine l_ishr8 rfl (by unfold rg; omega) ?_
      refine l_iconst rfl ?_
      refine l_icmp_ne rfl rfl (by unfold rg; omega) (by unfold rg; omega) (fun w67 => ?_) (fun w68 => ?_)
      · refine l_aload_n rfl rfl ?_
        refine l_gfr rfl rfl rfl rfl rfl (hHT1.r 895 0 876 rfl) ?_
        refine l_iconst rfl ?_
        refine l_iload_n rfl rfl ?_
        refine l_callV rfl rfl rfl (t_to_wrong hHT1 4 row ⟨by omega, by omega⟩ ⟨by omega, by omega⟩ _) ?_
        rintro _ T5 ⟨hHT5, w74, z73, rfl, w73, w71, w72⟩
        have hFT5 : FR md_me_readWhat S T5 := FR.tr hFT1 w74 rfl
        show Rl _ _ _ _ _ [iv z73] _ _
        refine l_ireturn rfl (retI_z (by omega)) ?_
        have w75 : Xi T5 876 5 = Xi T1 876 5 := (show Xi T5 876 5 = Xi T1 876 5 from w74.x _ _ rfl)
        have w77 : Xi T5 876 7 = Xi T1 876 7 := (show Xi T5 876 7 = Xi T1 876 7 from w74.x _ _ rfl)
        have w79 : 0 ≤ Xi T5 876 8 ∧ Xi T5 876 8 ≤ 9 := hHT5.c _ _
        have w80 : Xi T5 895 10 = Xi T1 895 10 := (show Xi T5 895 10 = Xi T1 895 10 from w74.x _ _ rfl)
        have w81 : Xi T5 895 11 = Xi T1 895 11 := (show Xi T5 895 11 = Xi T1 895 11 from w74.x _ _ rfl)
        exact ⟨hHT5, hFT5, _, rfl, ⟨by omega, by omega⟩, (by first | (intro hz; omega) | (intro _; exact Or.inl (by omega)) | (intro _; exact tx_mk (SRX_FR hFT5 rfl hS) (by omega) (by omega))), (by omega)⟩
      · refine l_aload_n rfl rfl ?_
        refine l_gfr rfl rfl rfl rfl rfl (hHT1.r 895 1 1 rfl) ?_
        refine l_gfr rfl rfl rfl rfl rfl (hHT1.r 1 7 8 rfl) ?_
        refine l_iload rfl rfl ?_
        refine l_sipush rfl rfl ?_
        refine l_iand255 rfl (by unfold rg; omega) ?_
        have w83 := fb4 hHT1 (lx (z := z65) (by assumption) (by omega) (by omega))
        refine l_iaload (n := 64) rfl rfl (by omega) (by omega) (by unfold rg; omega) ?_
        have w84 : 0 ≤ (Xi T1 8 (((z65 % 256)).toNat)) ∧ (Xi T1 8 (((z65 % 256)).toNat)) ≤ 7 := hHT1.c _ _
        refine l_iload_n rfl rfl ?_
        refine l_icmp_ne rfl rfl (by unfold rg; omega) (by unfold rg; omega) (fun w85 => ?_) (fun w86 => ?_)
        · refine l_aload_n rfl rfl ?_
          refine l_gfr rfl rfl rfl rfl rfl (hHT1.r 895 0 876 rfl) ?_
          refine l_iconst rfl ?_
          refine l_iload_n rfl rfl ?_
          refine l_callV rfl rfl rfl (t_to_wrong hHT1 4 row ⟨by omega, by omega⟩ ⟨by omega, by omega⟩ _) ?_
          rintro _ T6 ⟨hHT6, w92, z91, rfl, w91, w89, w90⟩
          have hFT6 : FR md_me_readWhat S T6 := FR.tr hFT1 w92 rfl
          show Rl _ _ _ _ _ [iv z91] _ _
          refine l_ireturn rfl (retI_z (by omega)) ?_
          have w93 : Xi T6 876 5 = Xi T1 876 5 := (show Xi T6 876 5 = Xi T1 876 5 from w92.x _ _ rfl)
          have w95 : Xi T6 876 7 = Xi T1 876 7 := (show Xi T6 876 7 = Xi T1 876 7 from w92.x _ _ rfl)
          have w97 : 0 ≤ Xi T6 876 8 ∧ Xi T6 876 8 ≤ 9 := hHT6.c _ _
          have w98 : Xi T6 895 10 = Xi T1 895 10 := (show Xi T6 895 10 = Xi T1 895 10 from w92.x _ _ rfl)
          have w99 : Xi T6 895 11 = Xi T1 895 11 := (show Xi T6 895 11 = Xi T1 895 11 from w92.x _ _ rfl)
          exact ⟨hHT6, hFT6, _, rfl, ⟨by omega, by omega⟩, (by first | (intro hz; omega) | (intro _; exact Or.inl (by omega)) | (intro _; exact tx_mk (SRX_FR hFT6 rfl hS) (by omega) (by omega))), (by omega)⟩
        · refine l_aload_n rfl rfl ?_
          refine l_iload rfl rfl ?_
          refine l_sipush rfl rfl ?_
          refine l_iand255 rfl (by unfold rg; omega) ?_
          have w101 := fb4 hHT1 (lx (z := z65) (by assumption) (by omega) (by omega))
          refine l_pfi rfl rfl rfl rfl ?_
          obtain ⟨U7, eU7⟩ : ∃ T : sS, T = uI T1 895 10 (Int32.ofInt (z65 % 256)) := ⟨_, rfl⟩
          rw [← eU7]
          have hHU7 : HI U7 := by rw [eU7]; exact HI_any hHT1 (rfl)
          have hFU7 : FR md_me_readWhat S U7 := by rw [eU7]; exact FR.wI hFT1 (mdf_i (r := (895, 896, 10, 11)) (List.mem_of_getElem? (i := 2) rfl) (inR_i (by omega) (by omega) (by omega) (by omega)))
          have w102 : Xi U7 895 10 = (z65 % 256) := by rw [eU7]; exact Xi_same (by unfold rg; omega)
          refine l_iconst rfl ?_
          refine l_ireturn rfl rfl ?_
          have w103 : Xi U7 876 5 = Xi T1 876 5 := (show Xi U7 876 5 = Xi T1 876 5 from by rw [eU7]; exact Xi_ne (by omega))
          have w105 : Xi U7 876 7 = Xi T1 876 7 := (show Xi U7 876 7 = Xi T1 876 7 from by rw [eU7]; exact Xi_ne (by omega))
          have w107 : Xi U7 876 8 = Xi T1 876 8 := (show Xi U7 876 8 = Xi T1 876 8 from by rw [eU7]; exact Xi_ne (by omega))
          have w108 : 0 ≤ Xi T1 876 8 ∧ Xi T1 876 8 ≤ 9 := hHT1.c _ _
          have w109 : Xi U7 895 11 = Xi T1 895 11 := (show Xi U7 895 11 = Xi T1 895 11 from by rw [eU7]; exact Xi_ne (by omega))
          exact ⟨hHU7, hFU7, _, rfl, ⟨by omega, by omega⟩, (by first | (intro hz; omega) | (intro _; exact Or.inl (by omega)) | (intro _; exact tx_mk (SRX_FR hFU7 rfl hS) (by omega) (by omega))), (by omega)⟩
  refine l_aload_n rfl rfl ?_
  refine l_gfr rfl rfl rfl rfl rfl (hH.r 895 0 876 rfl) ?_
  refine l_iload_n rfl rfl ?_
  have w110 : 0 ≤ Xi S 876 5 ∧ Xi S 876 5 ≤ 5000 := hH.c _ _
  have w111 : 0 ≤ Xi S 876 7 ∧ Xi S 876 7 ≤ 5125 := hH.c _ _
  refine l_callV rfl rfl rfl (t_to_typeAt hH row ⟨by omega, by omega⟩ _) ?_
  rintro _ _ ⟨rfl, z115, rfl, w115, w112, w113, w114⟩
  clear w113 w114
  show Rl _ _ _ _ _ [iv z115] _ _
  refine l_istore_n rfl rfl rfl ?_
  refine l_aload_n rfl rfl ?_
  refine l_iconst rfl ?_
  refine l_pfi rfl rfl rfl rfl ?_
  obtain ⟨U8, eU8⟩ : ∃ T : sS, T = uI S 895 11 (Int32.ofInt 0) := ⟨_, rfl⟩
  rw [← eU8]
  have hHU8 : HI U8 := by rw [eU8]; exact HI_any hH (rfl)
  have hFU8 : FR md_me_readWhat S U8 := by rw [eU8]; exact FR.wI hF (mdf_i (r := (895, 896, 11, 12)) (List.mem_of_getElem? (i := 3) rfl) (inR_i (by omega) (by omega) (by omega) (by omega)))
  have w116 : Xi U8 895 11 = 0 := by rw [eU8]; exact Xi_same (by unfold rg; omega)
  refine l_aload_n rfl rfl ?_
  refine l_aload_n rfl rfl ?_
  refine l_gfr rfl rfl rfl rfl rfl (hHU8.r 895 0 876 rfl) ?_
  refine l_iload_n rfl rfl ?_
  have w117 : Xi U8 876 5 = Xi S 876 5 := (show Xi U8 876 5 = Xi S 876 5 from by rw [eU8]; exact Xi_ne (by omega))
  have w119 : Xi U8 876 7 = Xi S 876 7 := (show Xi U8 876 7 = Xi S 876 7 from by rw [eU8]; exact Xi_ne (by omega))
  refine l_callV rfl rfl rfl (t_to_valueAt hHU8 row ⟨by omega, by omega⟩ _) ?_
  rintro _ _ ⟨rfl, z122, rfl, w122, w121⟩
  show Rl _ _ _ _ _ [iv z122, .ref 895] _ _
  have h79 : Xj U8 879 row.toNat = Xj S 879 row.toNat := (hFU8.cx 879 rfl _).2
  refine l_pfi rfl rfl rfl rfl ?_
  obtain ⟨U9, eU9⟩ : ∃ T : sS, T = uI U8 895 10 (Int32.ofInt z122) := ⟨_, rfl⟩
  rw [← eU9]
  have hHU9 : HI U9 := by rw [eU9]; exact HI_any hHU8 (rfl)
  have hFU9 : FR md_me_readWhat S U9 := by rw [eU9]; exact FR.wI hFU8 (mdf_i (r := (895, 896, 10, 11)) (List.mem_of_getElem? (i := 2) rfl) (inR_i (by omega) (by omega) (by omega) (by omega)))
  have w123 : Xi U9 895 10 = z122 := by rw [eU9]; exact Xi_same (by unfold rg; omega)
  refine l_iload_n rfl rfl ?_
  refine l_if_ne rfl rfl (by unfold rg; omega) (fun w124 => ?_) (fun w125 => ?_)
  · refine l_iload_n rfl rfl ?_
    refine l_iconst rfl ?_
    refine l_icmp_ne rfl rfl (by unfold rg; omega) (by unfold rg; omega) (fun w126 => ?_) (fun w127 => ?_)
    · have w128 : Xi U9 876 5 = Xi S 876 5 := (show Xi U9 876 5 = Xi U8 876 5 from by rw [eU9]; exact Xi_ne (by omega)).trans ((show Xi U8 876 5 = Xi S 876 5 from by rw [eU8]; exact Xi_ne (by omega)))
      have w130 : Xi U9 876 7 = Xi S 876 7 := (show Xi U9 876 7 = Xi U8 876 7 from by rw [eU9]; exact Xi_ne (by omega)).trans ((show Xi U8 876 7 = Xi S 876 7 from by rw [eU8]; exact Xi_ne (by omega)))
      have w132 : Xi U9 895 11 = Xi U8 895 11 := (show Xi U9 895 11 = Xi U8 895 11 from by rw [eU9]; exact Xi_ne (by omega))
      exact Rl_weak (C73 U9 hHU9 hFU9 (z115) (by omega) (by omega)) (And.intro rfl (And.intro rfl (And.intro rfl (And.intro rfl (True.intro)))))
    · refine l_iload_n rfl rfl ?_
      refine l_bipush rfl rfl ?_
      refine l_icmp_ne rfl rfl (by unfold rg; omega) (by unfold rg; omega) (fun w133 => ?_) (fun w134 => ?_)
      · have w135 : Xi U9 876 5 = Xi S 876 5 := (show Xi U9 876 5 = Xi U8 876 5 from by rw [eU9]; exact Xi_ne (by omega)).trans ((show Xi U8 876 5 = Xi S 876 5 from by rw [eU8]; exact Xi_ne (by omega)))
        have w137 : Xi U9 876 7 = Xi S 876 7 := (show Xi U9 876 7 = Xi U8 876 7 from by rw [eU9]; exact Xi_ne (by omega)).trans ((show Xi U8 876 7 = Xi S 876 7 from by rw [eU8]; exact Xi_ne (by omega)))
        have w139 : Xi U9 895 11 = Xi U8 895 11 := (show Xi U9 895 11 = Xi U8 895 11 from by rw [eU9]; exact Xi_ne (by omega))
        exact Rl_weak (C73 U9 hHU9 hFU9 (z115) (by omega) (by omega)) (And.intro rfl (And.intro rfl (And.intro rfl (And.intro rfl (True.intro)))))
      · refine l_aload_n rfl rfl ?_
        refine l_aload_n rfl rfl ?_
        refine l_gfi rfl rfl rfl rfl rfl ?_
        refine l_pfi rfl rfl rfl rfl ?_
        obtain ⟨U10, eU10⟩ : ∃ T : sS, T = uI U9 895 11 (Int32.ofInt (Xi U9 895 10)) := ⟨_, rfl⟩
        rw [← eU10]
        have hHU10 : HI U10 := by rw [eU10]; exact HI_any hHU9 (rfl)
        have hFU10 : FR md_me_readWhat S U10 := by rw [eU10]; exact FR.wI hFU9 (mdf_i (r := (895, 896, 11, 12)) (List.mem_of_getElem? (i := 3) rfl) (inR_i (by omega) (by omega) (by omega) (by omega)))
        have w140 : Xi U10 895 11 = (Xi U9 895 10) := by rw [eU10]; exact Xi_same (by unfold rg; omega)
        refine l_aload_n rfl rfl ?_
        refine l_aload_n rfl rfl ?_
        refine l_gfr rfl rfl rfl rfl rfl (hHU10.r 895 0 876 rfl) ?_
        refine l_iload_n rfl rfl ?_
        have w141 : Xi U10 876 5 = Xi S 876 5 := (show Xi U10 876 5 = Xi U9 876 5 from by rw [eU10]; exact Xi_ne (by omega)).trans ( (show Xi U9 876 5 = Xi U8 876 5 from by rw [eU9]; exact Xi_ne (by omega)).trans ((show Xi U8 876 5 = Xi S 876 5 from by rw [eU8]; exact Xi_ne (by omega))))
        have w143 : Xi U10 876 7 = Xi S 876 7 := (show Xi U10 876 7 = Xi U9 876 7 from by rw [eU10]; exact Xi_ne (by omega)).trans ( (show Xi U9 876 7 = Xi U8 876 7 from by rw [eU9]; exact Xi_ne (by omega)).trans ((show Xi U8 876 7 = Xi S 876 7 from by rw [eU8]; exact Xi_ne (by omega))))
        refine l_callV rfl rfl rfl (t_to_placeAt hHU10 row ⟨by omega, by omega⟩ _) ?_
        rintro _ _ ⟨rfl, z146, rfl, w146, w145⟩
        show Rl _ _ _ _ _ [iv z146, .ref 895] _ _
        have h78 : Xi U10 878 row.toNat = Xi S 878 row.toNat := (hFU10.cx 878 rfl _).1
        refine l_iconst rfl ?_
        refine l_iadd rfl ?_
        refine l_pfi rfl rfl rfl rfl ?_
        obtain ⟨U11, eU11⟩ : ∃ T : sS, T = uI U10 895 10 (Int32.ofInt (z146 + 1)) := ⟨_, rfl⟩
        rw [← eU11]
        have hHU11 : HI U11 := by rw [eU11]; exact HI_any hHU10 (rfl)
        have hFU11 : FR md_me_readWhat S U11 := by rw [eU11]; exact FR.wI hFU10 (mdf_i (r := (895, 896, 10, 11)) (List.mem_of_getElem? (i := 2) rfl) (inR_i (by omega) (by omega) (by omega) (by omega)))
        have w147 : Xi U11 895 10 = (z146 + 1) := by rw [eU11]; exact Xi_same (by unfold rg; omega)
        refine l_iconst rfl ?_
        refine l_ireturn rfl rfl ?_
        have w148 : Xi U11 876 5 = Xi S 876 5 := (show Xi U11 876 5 = Xi U10 876 5 from by rw [eU11]; exact Xi_ne (by omega)).trans ( (show Xi U10 876 5 = Xi U9 876 5 from by rw [eU10]; exact Xi_ne (by omega)).trans ( (show Xi U9 876 5 = Xi U8 876 5 from by rw [eU9]; exact Xi_ne (by omega)).trans ((show Xi U8 876 5 = Xi S 876 5 from by rw [eU8]; exact Xi_ne (by omega)))))
        have w150 : Xi U11 876 7 = Xi S 876 7 := (show Xi U11 876 7 = Xi U10 876 7 from by rw [eU11]; exact Xi_ne (by omega)).trans ( (show Xi U10 876 7 = Xi U9 876 7 from by rw [eU10]; exact Xi_ne (by omega)).trans ( (show Xi U9 876 7 = Xi U8 876 7 from by rw [eU9]; exact Xi_ne (by omega)).trans ((show Xi U8 876 7 = Xi S 876 7 from by rw [eU8]; exact Xi_ne (by omega)))))
        have w152 : Xi U11 876 8 = Xi S 876 8 := (show Xi U11 876 8 = Xi U10 876 8 from by rw [eU11]; exact Xi_ne (by omega)).trans ( (show Xi U10 876 8 = Xi U9 876 8 from by rw [eU10]; exact Xi_ne (by omega)).trans ( (show Xi U9 876 8 = Xi U8 876 8 from by rw [eU9]; exact Xi_ne (by omega)).trans ((show Xi U8 876 8 = Xi S 876 8 from by rw [eU8]; exact Xi_ne (by omega)))))
        have w153 : 0 ≤ Xi S 876 8 ∧ Xi S 876 8 ≤ 9 := hH.c _ _
        have w154 : Xi U11 895 11 = Xi U10 895 11 := (show Xi U11 895 11 = Xi U10 895 11 from by rw [eU11]; exact Xi_ne (by omega))
        exact ⟨hHU11, hFU11, _, rfl, ⟨by omega, by omega⟩, (by first | (intro hz; omega) | (intro _; exact Or.inl (by omega)) | (intro _; exact tx_mk (SRX_FR hFU11 rfl hS) (by omega) (by omega))), (by omega)⟩
  · refine l_iload_n rfl rfl ?_
    refine l_bipush rfl rfl ?_
    refine l_icmp_ne rfl rfl (by unfold rg; omega) (by unfold rg; omega) (fun w155 => ?_) (fun w156 => ?_)
    · refine l_iload_n rfl rfl ?_
      refine l_iconst rfl ?_
      refine l_icmp_ne rfl rfl (by unfold rg; omega) (by unfold rg; omega) (fun w157 => ?_) (fun w158 => ?_)
      · have w159 : Xi U9 876 5 = Xi S 876 5 := (show Xi U9 876 5 = Xi U8 876 5 from by rw [eU9]; exact Xi_ne (by omega)).trans ((show Xi U8 876 5 = Xi S 876 5 from by rw [eU8]; exact Xi_ne (by omega)))
        have w161 : Xi U9 876 7 = Xi S 876 7 := (show Xi U9 876 7 = Xi U8 876 7 from by rw [eU9]; exact Xi_ne (by omega)).trans ((show Xi U8 876 7 = Xi S 876 7 from by rw [eU8]; exact Xi_ne (by omega)))
        have w163 : Xi U9 895 11 = Xi U8 895 11 := (show Xi U9 895 11 = Xi U8 895 11 from by rw [eU9]; exact Xi_ne (by omega))
        exact Rl_weak (C73 U9 hHU9 hFU9 (z115) (by omega) (by omega)) (And.intro rfl (And.intro rfl (And.intro rfl (And.intro rfl (True.intro)))))
      · refine l_iload_n rfl rfl ?_
        refine l_bipush rfl rfl ?_
        refine l_icmp_ne rfl rfl (by unfold rg; omega) (by unfold rg; omega) (fun w164 => ?_) (fun w165 => ?_)
        · have w166 : Xi U9 876 5 = Xi S 876 5 := (show Xi U9 876 5 = Xi U8 876 5 from by rw [eU9]; exact Xi_ne (by omega)).trans ((show Xi U8 876 5 = Xi S 876 5 from by rw [eU8]; exact Xi_ne (by omega)))
          have w168 : Xi U9 876 7 = Xi S 876 7 := (show Xi U9 876 7 = Xi U8 876 7 from by rw [eU9]; exact Xi_ne (by omega)).trans ((show Xi U8 876 7 = Xi S 876 7 from by rw [eU8]; exact Xi_ne (by omega)))
          have w170 : Xi U9 895 11 = Xi U8 895 11 := (show Xi U9 895 11 = Xi U8 895 11 from by rw [eU9]; exact Xi_ne (by omega))
          exact Rl_weak (C73 U9 hHU9 hFU9 (z115) (by omega) (by omega)) (And.intro rfl (And.intro rfl (And.intro rfl (And.intro rfl (True.intro)))))
        · refine l_aload_n rfl rfl ?_
          refine l_aload_n rfl rfl ?_
          refine l_gfi rfl rfl rfl rfl rfl ?_
          refine l_pfi rfl rfl rfl rfl ?_
          obtain ⟨U12, eU12⟩ : ∃ T : sS, T = uI U9 895 11 (Int32.ofInt (Xi U9 895 10)) := ⟨_, rfl⟩
          rw [← eU12]
          have hHU12 : HI U12 := by rw [eU12]; exact HI_any hHU9 (rfl)
          have hFU12 : FR md_me_readWhat S U12 := by rw [eU12]; exact FR.wI hFU9 (mdf_i (r := (895, 896, 11, 12)) (List.mem_of_getElem? (i := 3) rfl) (inR_i (by omega) (by omega) (by omega) (by omega)))
          have w171 : Xi U12 895 11 = (Xi U9 895 10) := by rw [eU12]; exact Xi_same (by unfold rg; omega)
          refine l_aload_n rfl rfl ?_
          refine l_aload_n rfl rfl ?_
          refine l_gfr rfl rfl rfl rfl rfl (hHU12.r 895 0 876 rfl) ?_
          refine l_iload_n rfl rfl ?_
          have w172 : Xi U12 876 5 = Xi S 876 5 := (show Xi U12 876 5 = Xi U9 876 5 from by rw [eU12]; exact Xi_ne (by omega)).trans ( (show Xi U9 876 5 = Xi U8 876 5 from by rw [eU9]; exact Xi_ne (by omega)).trans ((show Xi U8 876 5 = Xi S 876 5 from by rw [eU8]; exact Xi_ne (by omega))))
          have w174 : Xi U12 876 7 = Xi S 876 7 := (show Xi U12 876 7 = Xi U9 876 7 from by rw [eU12]; exact Xi_ne (by omega)).trans ( (show Xi U9 876 7 = Xi U8 876 7 from by rw [eU9]; exact Xi_ne (by omega)).trans ((show Xi U8 876 7 = Xi S 876 7 from by rw [eU8]; exact Xi_ne (by omega))))
          refine l_callV rfl rfl rfl (t_to_placeAt hHU12 row ⟨by omega, by omega⟩ _) ?_
          rintro _ _ ⟨rfl, z177, rfl, w177, w176⟩
          show Rl _ _ _ _ _ [iv z177, .ref 895] _ _
          have h78 : Xi U12 878 row.toNat = Xi S 878 row.toNat := (hFU12.cx 878 rfl _).1
          refine l_iconst rfl ?_
          refine l_iadd rfl ?_
          refine l_pfi rfl rfl rfl rfl ?_
          obtain ⟨U13, eU13⟩ : ∃ T : sS, T = uI U12 895 10 (Int32.ofInt (z177 + 1)) := ⟨_, rfl⟩
          rw [← eU13]
          have hHU13 : HI U13 := by rw [eU13]; exact HI_any hHU12 (rfl)
          have hFU13 : FR md_me_readWhat S U13 := by rw [eU13]; exact FR.wI hFU12 (mdf_i (r := (895, 896, 10, 11)) (List.mem_of_getElem? (i := 2) rfl) (inR_i (by omega) (by omega) (by omega) (by omega)))
          have w178 : Xi U13 895 10 = (z177 + 1) := by rw [eU13]; exact Xi_same (by unfold rg; omega)
          refine l_iconst rfl ?_
          refine l_ireturn rfl rfl ?_
          have w179 : Xi U13 876 5 = Xi S 876 5 := (show Xi U13 876 5 = Xi U12 876 5 from by rw [eU13]; exact Xi_ne (by omega)).trans ( (show Xi U12 876 5 = Xi U9 876 5 from by rw [eU12]; exact Xi_ne (by omega)).trans ( (show Xi U9 876 5 = Xi U8 876 5 from by rw [eU9]; exact Xi_ne (by omega)).trans ((show Xi U8 876 5 = Xi S 876 5 from by rw [eU8]; exact Xi_ne (by omega)))))
          have w181 : Xi U13 876 7 = Xi S 876 7 := (show Xi U13 876 7 = Xi U12 876 7 from by rw [eU13]; exact Xi_ne (by omega)).trans ( (show Xi U12 876 7 = Xi U9 876 7 from by rw [eU12]; exact Xi_ne (by omega)).trans ( (show Xi U9 876 7 = Xi U8 876 7 from by rw [eU9]; exact Xi_ne (by omega)).trans ((show Xi U8 876 7 = Xi S 876 7 from by rw [eU8]; exact Xi_ne (by omega)))))
          have w183 : Xi U13 876 8 = Xi S 876 8 := (show Xi U13 876 8 = Xi U12 876 8 from by rw [eU13]; exact Xi_ne (by omega)).trans ( (show Xi U12 876 8 = Xi U9 876 8 from by rw [eU12]; exact Xi_ne (by omega)).trans ( (show Xi U9 876 8 = Xi U8 876 8 from by rw [eU9]; exact Xi_ne (by omega)).trans ((show Xi U8 876 8 = Xi S 876 8 from by rw [eU8]; exact Xi_ne (by omega)))))
          have w184 : 0 ≤ Xi S 876 8 ∧ Xi S 876 8 ≤ 9 := hH.c _ _
          have w185 : Xi U13 895 11 = Xi U12 895 11 := (show Xi U13 895 11 = Xi U12 895 11 from by rw [eU13]; exact Xi_ne (by omega))
          exact ⟨hHU13, hFU13, _, rfl, ⟨by omega, by omega⟩, (by first | (intro hz; omega) | (intro _; exact Or.inl (by omega)) | (intro _; exact tx_mk (SRX_FR hFU13 rfl hS) (by omega) (by omega))), (by omega)⟩
    · refine l_iconst rfl ?_
      refine l_ireturn rfl rfl ?_
      have w186 : Xi U9 876 5 = Xi S 876 5 := (show Xi U9 876 5 = Xi U8 876 5 from by rw [eU9]; exact Xi_ne (by omega)).trans ((show Xi U8 876 5 = Xi S 876 5 from by rw [eU8]; exact Xi_ne (by omega)))
      have w188 : Xi U9 876 7 = Xi S 876 7 := (show Xi U9 876 7 = Xi U8 876 7 from by rw [eU9]; exact Xi_ne (by omega)).trans ((show Xi U8 876 7 = Xi S 876 7 from by rw [eU8]; exact Xi_ne (by omega)))
      have w190 : Xi U9 876 8 = Xi S 876 8 := (show Xi U9 876 8 = Xi U8 876 8 from by rw [eU9]; exact Xi_ne (by omega)).trans ((show Xi U8 876 8 = Xi S 876 8 from by rw [eU8]; exact Xi_ne (by omega)))
      have w191 : 0 ≤ Xi S 876 8 ∧ Xi S 876 8 ≤ 9 := hH.c _ _
      have w192 : Xi U9 895 11 = Xi U8 895 11 := (show Xi U9 895 11 = Xi U8 895 11 from by rw [eU9]; exact Xi_ne (by omega))
      exact ⟨hHU9, hFU9, _, rfl, ⟨by omega, by omega⟩, (by first | (intro hz; omega) | (intro _; exact Or.inl (by omega)) | (intro _; exact tx_mk (SRX_FR hFU9 rfl hS) (by omega) (by omega))), (by omega)⟩
def md_re_tellOne : List rec := [(25, 65, 0, 100000), (66, 106, 0, 100000), (107, 147, 0, 100000), (148, 188, 0, 100000)]
abbrev Q_re_tellOne (S : sS) (row : Int) (met : Int) (prop : Int) (holds : Int) : pst := fun r S1 => HI S1 ∧ FR md_re_tellOne S S1 ∧ (∃ z : Int, r = some (iv z) ∧ (0 ≤ z ∧ z ≤ 1) ∧ (TX S1))
set_option maxRecDepth 100000 in
theorem t_re_tellOne {S : sS} (hH : HI S) (row : Int) (met : Int) (prop : Int) (holds : Int) (hrow : 0 ≤ row ∧ row ≤ 39) (hmet : 0 ≤ met ∧ met ≤ 63) (hprop : -1 ≤ prop ∧ prop ≤ 11) (hholds : 0 ≤ holds ∧ holds ≤ 1) (hX : TX S) (hm : prop = -1 → met ≤ 23) (d : Nat) : Mt lay0 (d + 3) m_re_tellOne [.ref 891, iv row, iv met, iv prop, iv holds] S (Q_re_tellOne S row met prop holds) := by
  refine Mt_R rfl rfl ?_
  have hF : FR md_re_tellOne S S := FR.rf
  refine l_iload_n rfl rfl ?_
  refine l_iconst rfl ?_
  refine l_icmp_ne rfl rfl (by unfold rg; omega) (by unfold rg; omega) (fun w1 => ?_) (fun w2 => ?_)
  · refine l_aload_n rfl rfl ?_
    refine l_gfr rfl rfl rfl rfl rfl (hH.r 891 3 20 rfl) ?_
    refine l_iload_n rfl rfl ?_
    refine l_iload_n rfl rfl ?_
    refine l_iload_n rfl rfl ?_
    refine l_iconst rfl ?_
    refine l_callV rfl rfl rfl (t_wo_tellProperty hH row prop met 0 ⟨by omega, by omega⟩ ⟨by omega, by omega⟩ ⟨by omega, by omega⟩ ⟨by omega, by omega⟩ (by first | assumption | exact (by assumption : TX S)) (Or.inl (by omega)) _) ?_
    rintro _ T1 ⟨hHT1, w5, z4, rfl, w4, w3⟩
    have hFT1 : FR md_re_tellOne S T1 := FR.tr hF w5 rfl
    show Rl _ _ _ _ _ [iv z4] _ _
    refine l_ireturn rfl (retI_z (by omega)) ?_
    exact ⟨hHT1, hFT1, _, rfl, ⟨by omega, by omega⟩, (by first | assumption | exact TX_FR (by assumption : FR md_wo_tellAdjective S T1) rfl hX)⟩
  · refine l_aload_n rfl rfl ?_
    refine l_gfr rfl rfl rfl rfl rfl (hH.r 891 3 20 rfl) ?_
    refine l_iload_n rfl rfl ?_
    refine l_iload_n rfl rfl ?_
    refine l_iload rfl rfl ?_
    refine l_callV rfl rfl rfl (t_wo_tellAdjective hH row met holds ⟨by omega, by omega⟩ ⟨by omega, by omega⟩ ⟨by omega, by omega⟩ _) ?_
    rintro _ T2 ⟨hHT2, w7, z6, rfl, w6⟩
    have hFT2 : FR md_re_tellOne S T2 := FR.tr hF w7 rfl
    show Rl _ _ _ _ _ [iv z6] _ _
    refine l_goto rfl rfl ?_
    refine l_ireturn rfl (retI_z (by omega)) ?_
    exact ⟨hHT2, hFT2, _, rfl, ⟨by omega, by omega⟩, (by first | assumption | exact TX_FR (by assumption : FR md_wo_tellAdjective S T2) rfl hX)⟩
def md_re_tellAdjectives : List rec := [(25, 65, 0, 100000), (66, 106, 0, 100000), (107, 147, 0, 100000), (148, 188, 0, 100000)]
abbrev Q_re_tellAdjectives (S : sS) (o : Int) : pst := fun r S1 => HI S1 ∧ FR md_re_tellAdjectives S S1 ∧ (∃ z : Int, r = some (iv z) ∧ (0 ≤ z ∧ z ≤ 1) ∧ (TX S1))
set_option maxRecDepth 100000 in
theorem t_re_tellAdjectives {S : sS} (hH : HI S) (o : Int) (ho : 0 ≤ o ∧ o ≤ 23) (hX : TX S) (hM : MAD S) (d : Nat) : Mt lay0 (d + 4) m_re_tellAdjectives [.ref 891, iv o] S (Q_re_tellAdjectives S o) := by
  refine Mt_R rfl rfl ?_
  have hF : FR md_re_tellAdjectives S S := FR.rf
  have C2 : ∀ (n2 : Nat) (T1 : sS) (_ : HI T1) (_ : FR md_re_tellAdjectives S T1) (v2 : Int), (0 ≤ v2 ∧ v2 ≤ 5) → (TX T1) → n2 = (6 - v2).toNat → Rl lay0 (d + 3) m_re_tellAdjectives 2 [(0, .ref 891), (1, iv o), (2, iv v2)] [] T1 (Q_re_tellAdjectives S o) := by
    intro n2
    induction n2 using Nat.strongRecOn with
    | ind n2 ih2 =>
      intro T1 hHT1 hFT1 v2 w1 hX2 hm2
      refine l_iload_n rfl rfl ?_
      refine l_aload_n rfl rfl ?_
      refine l_gfr rfl rfl rfl rfl rfl (hHT1.r 891 4 895 rfl) ?_
      refine l_gfi rfl rfl rfl rfl rfl ?_
      have w2 : 0 ≤ (Xi T1 895 14) ∧ (Xi T1 895 14) ≤ 5 := hHT1.c _ _
      refine l_icmp_ge rfl rfl (by unfold rg; omega) (by unfold rg; omega) (fun w3 => ?_) (fun w4 => ?_)
      · refine l_iconst rfl ?_
        refine l_ireturn rfl rfl ?_
        exact ⟨hHT1, hFT1, _, rfl, ⟨by omega, by omega⟩, (by first | assumption | exact (by assumption : TX T1))⟩
      · refine l_aload_n rfl rfl ?_
        refine l_iload_n rfl rfl ?_
        refine l_aload_n rfl rfl ?_
        refine l_gfr rfl rfl rfl rfl rfl (hHT1.r 891 4 895 rfl) ?_
        refine l_gfr rfl rfl rfl rfl rfl (hHT1.r 895 15 896 rfl) ?_
        refine l_iload_n rfl rfl ?_
        refine l_iaload (n := 5) rfl rfl (by omega) (by omega) (by unfold rg; omega) ?_
        have w5 : 0 ≤ (Xi T1 896 ((v2).toNat)) ∧ (Xi T1 896 ((v2).toNat)) ≤ 63 := hHT1.c _ _
        have hmd : Xi T1 897 (v2).toNat = -1 → Xi T1 896 (v2).toNat < Xi T1 5 3 := fun h => MAD_FR hFT1 rfl hM v2.toNat (by omega) h
        have hc3 : 0 ≤ Xi T1 5 3 ∧ Xi T1 5 3 ≤ 24 := hHT1.c _ _
        refine l_aload_n rfl rfl ?_
        refine l_gfr rfl rfl rfl rfl rfl (hHT1.r 891 4 895 rfl) ?_
        refine l_gfr rfl rfl rfl rfl rfl (hHT1.r 895 16 897 rfl) ?_
        refine l_iload_n rfl rfl ?_
        refine l_iaload (n := 5) rfl rfl (by omega) (by omega) (by unfold rg; omega) ?_
        have w6 : -1 ≤ (Xi T1 897 ((v2).toNat)) ∧ (Xi T1 897 ((v2).toNat)) ≤ 11 := hHT1.c _ _
        refine l_iconst rfl ?_
        refine l_callV rfl rfl rfl (t_re_tellOne hHT1 o (Xi T1 896 ((v2).toNat)) (Xi T1 897 ((v2).toNat)) 1 ⟨by omega, by omega⟩ ⟨by omega, by omega⟩ ⟨by omega, by omega⟩ ⟨by omega, by omega⟩ (by first | assumption | exact (by assumption : TX T1)) (by first | assumption | omega) _) ?_
        rintro _ T2 ⟨hHT2, w9, z8, rfl, w8, w7⟩
        have hFT2 : FR md_re_tellAdjectives S T2 := FR.tr hFT1 w9 rfl
        show Rl _ _ _ _ _ [iv z8] _ _
        refine l_if_ne rfl rfl (by unfold rg; omega) (fun w10 => ?_) (fun w11 => ?_)
        · refine l_iinc rfl rfl rfl rfl ?_
          refine l_goto rfl rfl ?_
          exact Rl_weak (ih2 _ (by omega) T2 hHT2 hFT2 ((v2 + 1)) (by omega) (by first | assumption | exact (by assumption : TX T2)) rfl) (And.intro rfl (And.intro rfl (And.intro rfl (True.intro))))
        · refine l_iconst rfl ?_
          refine l_ireturn rfl rfl ?_
          exact ⟨hHT2, hFT2, _, rfl, ⟨by omega, by omega⟩, (by first | assumption | exact (by assumption : TX T2))⟩
  refine l_iconst rfl ?_
  refine l_istore_n rfl rfl rfl ?_
  exact Rl_weak (C2 _ S hH hF (0) (by omega) (by first | assumption | exact (by assumption : TX S)) rfl) (And.intro rfl (And.intro rfl (And.intro rfl (True.intro))))
def md_re_describe : List rec := [(66, 106, 0, 100000), (107, 147, 0, 100000), (148, 188, 0, 100000), (876, 877, 8, 9), (876, 877, 9, 10)]
abbrev Q_re_describe (S : sS) : pst := fun r S1 => HI S1 ∧ FR md_re_describe S S1 ∧ (∃ z : Int, r = some (iv z) ∧ (0 ≤ z ∧ z ≤ 1) ∧ (z = 1 → WI S1) ∧ (z = 0 → Xi S1 876 8 ≠ 0))
set_option maxRecDepth 100000 in
theorem t_re_describe {S : sS} (hH : HI S) (hW : WI S) (hT : TOK S) (hS : SRX S) (h0 : Xi S 877 (0 : Int).toNat = 102 ∧ 0 < Xi S 876 7) (d : Nat) : Mt lay0 (d + 3) m_re_describe [.ref 891] S (Q_re_describe S) := by
  refine Mt_R rfl rfl ?_
  have hF : FR md_re_describe S S := FR.rf
  have w1 : 0 ≤ Xi S 876 7 ∧ Xi S 876 7 ≤ 5125 := hH.c _ _
  have hL := hW.1
  have hX := hW.2.1
  have htk := hT 0 (by omega) h0.1
  have e78 : Xi S 878 (0 : Int).toNat = Xi S 878 0 := rfl
  have e79 : Xj S 879 (0 : Int).toNat = Xj S 879 0 := rfl
  have he5 : 0 ≤ Xi S 876 5 ∧ Xi S 876 5 ≤ 5000 := hH.c _ _
  refine l_aload_n rfl rfl ?_
  refine l_gfi rfl rfl rfl rfl rfl ?_
  have w2 : -1 ≤ (Xi S 891 10) ∧ (Xi S 891 10) ≤ 23 := hH.c _ _
  refine l_iconst rfl ?_
  refine l_icmp_ne rfl rfl (by unfold rg; omega) (by unfold rg; omega) (fun w3 => ?_) (fun w4 => ?_)
  · refine l_aload_n rfl rfl ?_
    refine l_gfr rfl rfl rfl rfl rfl (hH.r 891 3 20 rfl) ?_
    refine l_aload_n rfl rfl ?_
    refine l_gfi rfl rfl rfl rfl rfl ?_
    refine l_iconst rfl ?_
    refine l_aload_n rfl rfl ?_
    refine l_gfr rfl rfl rfl rfl rfl (hH.r 891 0 876 rfl) ?_
    refine l_iconst rfl ?_
    refine l_callV rfl rfl rfl (t_to_placeAt hH 0 ⟨by omega, by omega⟩ _) ?_
    rintro _ _ ⟨rfl, z7, rfl, w7, w6⟩
    show Rl _ _ _ _ _ [iv z7, iv 0, iv (Xi S 891 10), .ref 20] _ _
    refine l_iconst rfl ?_
    refine l_iadd rfl ?_
    refine l_aload_n rfl rfl ?_
    refine l_gfr rfl rfl rfl rfl rfl (hH.r 891 0 876 rfl) ?_
    refine l_iconst rfl ?_
    refine l_callV rfl rfl rfl (t_to_valueAt hH 0 ⟨by omega, by omega⟩ _) ?_
    rintro _ _ ⟨rfl, z10, rfl, w10, w9⟩
    show Rl _ _ _ _ _ [iv z10, iv (z7 + 1), iv 0, iv (Xi S 891 10), .ref 20] _ _
    have hWp : WI S := (by assumption : WI S)
    have hHp := hH
    refine l_callV rfl rfl rfl (t_wo_tellProperty hH (Xi S 891 10) 0 (z7 + 1) z10 ⟨by omega, by omega⟩ ⟨by omega, by omega⟩ ⟨by omega, by omega⟩ ⟨by omega, by omega⟩ (by first | assumption | exact (by assumption : TX S)) (tx_mk hS (by omega) (by omega)) _) ?_
    rintro _ T1 ⟨hHT1, w13, z12, rfl, w12, w11⟩
    have hFT1 : FR md_re_describe S T1 := FR.tr hF w13 rfl
    show Rl _ _ _ _ _ [iv z12] _ _
    have hWq : WI T1 := WI_x hHp (by assumption : FR md_wo_tellProperty S T1) rfl rfl rfl rfl rfl rfl rfl rfl (by assumption) hWp
    refine l_if_ne rfl rfl (by unfold rg; omega) (fun w14 => ?_) (fun w15 => ?_)
    · refine l_iconst rfl ?_
      refine l_goto rfl rfl ?_
      refine l_ireturn rfl rfl ?_
      have w16 : Xi T1 876 8 = Xi S 876 8 := (show Xi T1 876 8 = Xi S 876 8 from w13.x _ _ rfl)
      have w17 : 0 ≤ Xi S 876 8 ∧ Xi S 876 8 ≤ 9 := hH.c _ _
      exact ⟨hHT1, hFT1, _, rfl, ⟨by omega, by omega⟩, (by first | (intro hz; omega) | (intro _; assumption) | (intro _; exact (by assumption : WI T1))), (by omega)⟩
    · refine l_aload_n rfl rfl ?_
      refine l_gfr rfl rfl rfl rfl rfl (hHT1.r 891 0 876 rfl) ?_
      refine l_iconst rfl ?_
      refine l_iconst rfl ?_
      refine l_callV rfl rfl rfl (t_to_wrong hHT1 5 0 ⟨by omega, by omega⟩ ⟨by omega, by omega⟩ _) ?_
      rintro _ T2 ⟨hHT2, w21, z20, rfl, w20, w18, w19⟩
      have hFT2 : FR md_re_describe S T2 := FR.tr hFT1 w21 rfl
      show Rl _ _ _ _ _ [iv z20] _ _
      refine l_if_eq rfl rfl (by unfold rg; omega) (fun w22 => ?_) (fun w23 => ?_)
      · refine l_iconst rfl ?_
        refine l_ireturn rfl rfl ?_
        have w24 : 0 ≤ Xi T2 876 8 ∧ Xi T2 876 8 ≤ 9 := hHT2.c _ _
        exact ⟨hHT2, hFT2, _, rfl, ⟨by omega, by omega⟩, (by first | (intro hz; omega) | (intro _; assumption) | (intro _; exact (WI_FR hHT1 w21 rfl rfl rfl rfl rfl rfl rfl rfl rfl (by assumption : WI T1)))), (by omega)⟩
      · refine l_iconst rfl ?_
        refine l_goto rfl rfl ?_
        refine l_ireturn rfl rfl ?_
        have w25 : 0 ≤ Xi T2 876 8 ∧ Xi T2 876 8 ≤ 9 := hHT2.c _ _
        exact ⟨hHT2, hFT2, _, rfl, ⟨by omega, by omega⟩, (by first | (intro hz; omega) | (intro _; assumption) | (intro _; exact (WI_FR hHT1 w21 rfl rfl rfl rfl rfl rfl rfl rfl rfl (by assumption : WI T1)))), (by omega)⟩
  · refine l_aload_n rfl rfl ?_
    refine l_gfr rfl rfl rfl rfl rfl (hH.r 891 0 876 rfl) ?_
    refine l_iconst rfl ?_
    refine l_iconst rfl ?_
    refine l_callV rfl rfl rfl (t_to_wrong hH 4 0 ⟨by omega, by omega⟩ ⟨by omega, by omega⟩ _) ?_
    rintro _ T3 ⟨hHT3, w29, z28, rfl, w28, w26, w27⟩
    have hFT3 : FR md_re_describe S T3 := FR.tr hF w29 rfl
    show Rl _ _ _ _ _ [iv z28] _ _
    refine l_ireturn rfl (retI_z (by omega)) ?_
    have w30 : 0 ≤ Xi T3 876 8 ∧ Xi T3 876 8 ≤ 9 := hHT3.c _ _
    exact ⟨hHT3, hFT3, _, rfl, ⟨by omega, by omega⟩, (by first | (intro hz; omega) | (intro _; assumption) | (intro _; exact (WI_FR hH w29 rfl rfl rfl rfl rfl rfl rfl rfl rfl (by assumption : WI S)))), (by omega)⟩
def md_re_takeOldObjects : List rec := [(876, 877, 8, 9), (876, 877, 9, 10)]
abbrev Q_re_takeOldObjects (S : sS) : pst := fun r S1 => HI S1 ∧ FR md_re_takeOldObjects S S1 ∧ (∃ z : Int, r = some (iv z) ∧ (0 ≤ z ∧ z ≤ 1) ∧ (z = 0 → Xi S1 876 8 ≠ 0))
set_option maxRecDepth 100000 in
theorem t_re_takeOldObjects {S : sS} (hH : HI S) (hL : LEX S) (d : Nat) : Mt lay0 (d + 3) m_re_takeOldObjects [.ref 891] S (Q_re_takeOldObjects S) := by
  refine Mt_R rfl rfl ?_
  have hF : FR md_re_takeOldObjects S S := FR.rf
  have C2 : ∀ (n2 : Nat) (v1 : Int), (0 ≤ v1 ∧ v1 ≤ 5124) → n2 = (5125 - v1).toNat → Rl lay0 (d + 2) m_re_takeOldObjects 2 [(0, .ref 891), (1, iv v1)] [] S (Q_re_takeOldObjects S) := by
    intro n2
    induction n2 using Nat.strongRecOn with
    | ind n2 ih2 =>
      intro v1 w1 hm2
      refine l_iload_n rfl rfl ?_
      refine l_aload_n rfl rfl ?_
      refine l_gfr rfl rfl rfl rfl rfl (hH.r 891 1 890 rfl) ?_
      refine l_gfi rfl rfl rfl rfl rfl ?_
      have w2 : -1 ≤ (Xi S 890 3) ∧ (Xi S 890 3) ≤ 5124 := hH.c _ _
      refine l_icmp_ge rfl rfl (by unfold rg; omega) (by unfold rg; omega) (fun w3 => ?_) (fun w4 => ?_)
      · refine l_iconst rfl ?_
        refine l_ireturn rfl rfl ?_
        have w5 : 0 ≤ Xi S 876 8 ∧ Xi S 876 8 ≤ 9 := hH.c _ _
        exact ⟨hH, hF, _, rfl, ⟨by omega, by omega⟩, (by first | assumption | omega)⟩
      · refine l_aload_n rfl rfl ?_
        refine l_iload_n rfl rfl ?_
        have w6 : 0 ≤ Xi S 876 7 ∧ Xi S 876 7 ≤ 5125 := hH.c _ _
        have w7 : -1 ≤ Xi S 890 3 ∧ Xi S 890 3 ≤ 5124 := hH.c _ _
        refine l_callV rfl rfl rfl (t_re_beginsName hH v1 ⟨by omega, by omega⟩ _) ?_
        rintro _ _ ⟨rfl, z10, rfl, w10, w8, w9⟩
        show Rl _ _ _ _ _ [iv z10] _ _
        refine l_if_eq rfl rfl (by unfold rg; omega) (fun w11 => ?_) (fun w12 => ?_)
        · refine l_iinc rfl rfl rfl rfl ?_
          refine l_goto rfl rfl ?_
          exact Rl_weak (ih2 _ (by omega) ((v1 + 1)) (by omega) rfl) (And.intro rfl (And.intro rfl (True.intro)))
        · refine l_aload_n rfl rfl ?_
          refine l_gfr rfl rfl rfl rfl rfl (hH.r 891 4 895 rfl) ?_
          refine l_iconst rfl ?_
          refine l_iload_n rfl rfl ?_
          refine l_aload_n rfl rfl ?_
          refine l_gfr rfl rfl rfl rfl rfl (hH.r 891 0 876 rfl) ?_
          refine l_iload_n rfl rfl ?_
          refine l_callV rfl rfl rfl (t_to_runEnd hH v1 ⟨by omega, by omega⟩ _) ?_
          rintro _ _ ⟨rfl, z21, rfl, w21, w14, w15, w16, w17, w18, w19, w20⟩
          clear w16 w17 w18 w19
          show Rl _ _ _ _ _ [iv z21, iv v1, iv 2, .ref 895] _ _
          refine l_callV rfl rfl rfl (t_me_find hH 2 v1 z21 ⟨by omega, by omega⟩ ⟨by omega, by omega⟩ ⟨by omega, by omega⟩ (by first | assumption | exact (LEX_FR hF rfl rfl (by assumption : LEX S))) _) ?_
          rintro _ _ ⟨rfl, z25, rfl, w25, w22, w23, w24⟩
          have w26 : z25 ≠ -1 → _ := fun h => fb2 hH (w22 h)
          clear w23
          show Rl _ _ _ _ _ [iv z25] _ _
          refine l_iconst rfl ?_
          refine l_icmp_ne rfl rfl (by unfold rg; omega) (by unfold rg; omega) (fun w27 => ?_) (fun w28 => ?_)
          · refine l_iinc rfl rfl rfl rfl ?_
            refine l_goto rfl rfl ?_
            exact Rl_weak (ih2 _ (by omega) ((v1 + 1)) (by omega) rfl) (And.intro rfl (And.intro rfl (True.intro)))
          · refine l_aload_n rfl rfl ?_
            refine l_gfr rfl rfl rfl rfl rfl (hH.r 891 0 876 rfl) ?_
            refine l_iconst rfl ?_
            refine l_iload_n rfl rfl ?_
            refine l_callV rfl rfl rfl (t_to_wrong hH 4 v1 ⟨by omega, by omega⟩ ⟨by omega, by omega⟩ _) ?_
            rintro _ T1 ⟨hHT1, w32, z31, rfl, w31, w29, w30⟩
            have hFT1 : FR md_re_takeOldObjects S T1 := FR.tr hF w32 rfl
            show Rl _ _ _ _ _ [iv z31] _ _
            refine l_ireturn rfl (retI_z (by omega)) ?_
            have w33 : 0 ≤ Xi T1 876 8 ∧ Xi T1 876 8 ≤ 9 := hHT1.c _ _
            exact ⟨hHT1, hFT1, _, rfl, ⟨by omega, by omega⟩, (by first | assumption | omega)⟩
  refine l_iconst rfl ?_
  refine l_istore_n rfl rfl rfl ?_
  exact Rl_weak (C2 _ (0) (by omega) rfl) (And.intro rfl (And.intro rfl (True.intro)))
def md_re_adjectiveSuits : List rec := [(876, 877, 8, 9), (876, 877, 9, 10), (895, 896, 8, 9), (895, 896, 9, 10)]
abbrev Q_re_adjectiveSuits (S : sS) (at_ : Int) (to : Int) (nt : Int) : pst := fun r S1 => HI S1 ∧ FR md_re_adjectiveSuits S S1 ∧ (∃ z : Int, r = some (iv z) ∧ (0 ≤ z ∧ z ≤ 1) ∧ (z = 1 → ASU S at_ to nt (Xi S 890 3)) ∧ (z = 0 → Xi S1 876 8 ≠ 0))
set_option maxRecDepth 100000 in
theorem t_re_adjectiveSuits {S : sS} (hH : HI S) (at_ : Int) (to : Int) (nt : Int) (hat_ : 0 ≤ at_ ∧ at_ ≤ 5140) (hto : 0 ≤ to ∧ to ≤ 5140) (hnt : 0 ≤ nt ∧ nt ≤ 1) (hL : LEX S) (d : Nat) : Mt lay0 (d + 3) m_re_adjectiveSuits [.ref 891, iv at_, iv to, iv nt] S (Q_re_adjectiveSuits S at_ to nt) := by
  refine Mt_R rfl rfl ?_
  have hF : FR md_re_adjectiveSuits S S := FR.rf
  have w1 : -1 ≤ Xi S 890 3 ∧ Xi S 890 3 ≤ 5124 := hH.c _ _
  have C6 : ∀ (n6 : Nat) (T1 : sS) (_ : HI T1) (_ : FR md_re_adjectiveSuits S T1) (v4 : Int) (v5 : Int), (0 ≤ v4 ∧ v4 ≤ 1) → (0 ≤ v5 ∧ v5 ≤ 5124) → (ASU S at_ to nt v5) → n6 = (5125 - v5).toNat → Rl lay0 (d + 2) m_re_adjectiveSuits 6 [(0, .ref 891), (1, iv at_), (2, iv to), (3, iv nt), (4, iv v4), (5, iv v5)] [] T1 (Q_re_adjectiveSuits S at_ to nt) := by
    intro n6
    induction n6 using Nat.strongRecOn with
    | ind n6 ih6 =>
      intro T1 hHT1 hFT1 v4 v5 w2 w3 ha6 hm6
      have w4 : Xi T1 5 3 = Xi S 5 3 := hFT1.x _ _ rfl
      have w5 : Xi T1 876 7 = Xi S 876 7 := hFT1.x _ _ rfl
      have w6 : Xi T1 890 3 = Xi S 890 3 := hFT1.x _ _ rfl
      refine l_iload rfl rfl ?_
      refine l_aload_n rfl rfl ?_
      refine l_gfr rfl rfl rfl rfl rfl (hHT1.r 891 1 890 rfl) ?_
      refine l_gfi rfl rfl rfl rfl rfl ?_
      refine l_icmp_ge rfl rfl (by unfold rg; omega) (by unfold rg; omega) (fun w7 => ?_) (fun w8 => ?_)
      · refine l_iload rfl rfl ?_
        refine l_if_eq rfl rfl (by unfold rg; omega) (fun w9 => ?_) (fun w10 => ?_)
        · refine l_iconst rfl ?_
          refine l_goto rfl rfl ?_
          refine l_ireturn rfl rfl ?_
          have w11 : 0 ≤ Xi T1 876 8 ∧ Xi T1 876 8 ≤ 9 := hHT1.c _ _
          exact ⟨hHT1, hFT1, _, rfl, ⟨by omega, by omega⟩, (by first | (intro hz; omega) | (intro _; exact asu_e ha6 (by omega))), (by omega)⟩
        · refine l_aload_n rfl rfl ?_
          refine l_gfr rfl rfl rfl rfl rfl (hHT1.r 891 0 876 rfl) ?_
          refine l_bipush rfl rfl ?_
          refine l_iload_n rfl rfl ?_
          refine l_callV rfl rfl rfl (t_to_wrong hHT1 7 at_ ⟨by omega, by omega⟩ ⟨by omega, by omega⟩ _) ?_
          rintro _ T2 ⟨hHT2, w15, z14, rfl, w14, w12, w13⟩
          have hFT2 : FR md_re_adjectiveSuits S T2 := FR.tr hFT1 w15 rfl
          show Rl _ _ _ _ _ [iv z14] _ _
          refine l_if_eq rfl rfl (by unfold rg; omega) (fun w16 => ?_) (fun w17 => ?_)
          · refine l_iconst rfl ?_
            refine l_ireturn rfl rfl ?_
            have w18 : 0 ≤ Xi T2 876 8 ∧ Xi T2 876 8 ≤ 9 := hHT2.c _ _
            exact ⟨hHT2, hFT2, _, rfl, ⟨by omega, by omega⟩, (by first | (intro hz; omega) | (intro _; exact asu_e ha6 (by omega))), (by omega)⟩
          · refine l_iconst rfl ?_
            refine l_goto rfl rfl ?_
            refine l_ireturn rfl rfl ?_
            have w19 : 0 ≤ Xi T2 876 8 ∧ Xi T2 876 8 ≤ 9 := hHT2.c _ _
            exact ⟨hHT2, hFT2, _, rfl, ⟨by omega, by omega⟩, (by first | (intro hz; omega) | (intro _; exact asu_e ha6 (by omega))), (by omega)⟩
      · refine l_aload_n rfl rfl ?_
        refine l_iload rfl rfl ?_
        have w20 : 0 ≤ Xi T1 876 7 ∧ Xi T1 876 7 ≤ 5125 := hHT1.c _ _
        have w21 : -1 ≤ Xi T1 890 3 ∧ Xi T1 890 3 ≤ 5124 := hHT1.c _ _
        refine l_callV rfl rfl rfl (t_re_beginsName hHT1 v5 ⟨by omega, by omega⟩ _) ?_
        rintro _ _ ⟨rfl, z24, rfl, w24, w22, w23⟩
        show Rl _ _ _ _ _ [iv z24] _ _
        have hbg : z24 = bgn S v5 := (by assumption : z24 = bgn T1 v5).trans (bgn_FR hFT1 rfl rfl)
        refine l_if_eq rfl rfl (by unfold rg; omega) (fun w25 => ?_) (fun w26 => ?_)
        · refine l_iconst rfl ?_
          refine l_istore rfl rfl rfl ?_
          refine l_iload rfl rfl ?_
          refine l_iconst rfl ?_
          refine l_icmp_ne rfl rfl (by unfold rg; omega) (by unfold rg; omega) (fun w27 => absurd w27 (by omega)) (fun w28 => ?_)
          · refine l_iconst rfl ?_
            refine l_goto rfl rfl ?_
            refine l_istore rfl rfl rfl ?_
            refine l_iload rfl rfl ?_
            refine l_if_ne rfl rfl (by unfold rg; omega) (fun w29 => ?_) (fun w30 => absurd w30 (by omega))
            · refine l_iload rfl rfl ?_
              refine l_if_ne rfl rfl (by unfold rg; omega) (fun w31 => ?_) (fun w32 => ?_)
              · refine l_iconst rfl ?_
                refine l_goto rfl rfl ?_
                refine l_istore rfl rfl rfl ?_
                refine l_iinc rfl rfl rfl rfl ?_
                refine l_goto rfl rfl ?_
                exact Rl_weak (ih6 _ (by omega) T1 hHT1 hFT1 (1) ((v5 + 1)) (by omega) (by omega) (by first | exact asu_0 | exact asu_s ha6 (Or.inl (by omega)) | exact asu_s ha6 (Or.inr (Or.inl (by omega))) | exact asu_s ha6 (Or.inr (Or.inr (hrr (by omega))))) rfl) (And.intro rfl (And.intro rfl (And.intro rfl (And.intro rfl (And.intro rfl (And.intro rfl (True.intro)))))))
              · refine l_iload rfl rfl ?_
                refine l_iconst rfl ?_
                refine l_icmp_le rfl rfl (by unfold rg; omega) (by unfold rg; omega) (fun w33 => ?_) (fun w34 => absurd w34 (by omega))
                · refine l_iconst rfl ?_
                  refine l_istore rfl rfl rfl ?_
                  refine l_iinc rfl rfl rfl rfl ?_
                  refine l_goto rfl rfl ?_
                  exact Rl_weak (ih6 _ (by omega) T1 hHT1 hFT1 (0) ((v5 + 1)) (by omega) (by omega) (by first | exact asu_0 | exact asu_s ha6 (Or.inl (by omega)) | exact asu_s ha6 (Or.inr (Or.inl (by omega))) | exact asu_s ha6 (Or.inr (Or.inr (hrr (by omega))))) rfl) (And.intro rfl (And.intro rfl (And.intro rfl (And.intro rfl (And.intro rfl (And.intro rfl (True.intro)))))))
        · refine l_aload_n rfl rfl ?_
          refine l_gfr rfl rfl rfl rfl rfl (hHT1.r 891 4 895 rfl) ?_
          refine l_iconst rfl ?_
          refine l_iload rfl rfl ?_
          refine l_aload_n rfl rfl ?_
          refine l_gfr rfl rfl rfl rfl rfl (hHT1.r 891 0 876 rfl) ?_
          refine l_iload rfl rfl ?_
          refine l_callV rfl rfl rfl (t_to_runEnd hHT1 v5 ⟨by omega, by omega⟩ _) ?_
          rintro _ _ ⟨rfl, z43, rfl, w43, w36, w37, w38, w39, w40, w41, w42⟩
          clear w38 w39 w40 w41
          show Rl _ _ _ _ _ [iv z43, iv v5, iv 2, .ref 895] _ _
          refine l_callV rfl rfl rfl (t_me_find hHT1 2 v5 z43 ⟨by omega, by omega⟩ ⟨by omega, by omega⟩ ⟨by omega, by omega⟩ (by first | assumption | exact (LEX_FR hFT1 rfl rfl (by assumption : LEX S))) _) ?_
          rintro _ _ ⟨rfl, z47, rfl, w47, w44, w45, w46⟩
          have w48 : z47 ≠ -1 → _ := fun h => fb2 hHT1 (w44 h)
          clear w45
          show Rl _ _ _ _ _ [iv z47] _ _
          have hfo : z47 = fob S v5 := (fob_of (by assumption) (by assumption)).trans (fob_FR hFT1 rfl rfl)
          refine l_goto rfl rfl ?_
          refine l_istore rfl rfl rfl ?_
          refine l_iload rfl rfl ?_
          refine l_iconst rfl ?_
          refine l_icmp_ne rfl rfl (by unfold rg; omega) (by unfold rg; omega) (fun w49 => ?_) (fun w50 => ?_)
          · refine l_aload_n rfl rfl ?_
            refine l_gfr rfl rfl rfl rfl rfl (hHT1.r 891 4 895 rfl) ?_
            refine l_aload_n rfl rfl ?_
            refine l_gfr rfl rfl rfl rfl rfl (hHT1.r 891 3 20 rfl) ?_
            refine l_gfr rfl rfl rfl rfl rfl (hHT1.r 20 2 21 rfl) ?_
            refine l_iload rfl rfl ?_
            refine l_iaload (n := 24) rfl rfl (by omega) (by omega) (by unfold rg; omega) ?_
            have w51 : 0 ≤ (Xi T1 21 ((z47).toNat)) ∧ (Xi T1 21 ((z47).toNat)) ≤ 15 := hHT1.c _ _
            have hkk : (Xi T1 21 ((z47).toNat)) = Xi S 21 (fob S v5).toNat := by rw [(hFT1.cx 21 rfl _).1]; exact congrArg (fun t : Int => Xi S 21 t.toNat) (by omega)
            refine l_iload_n rfl rfl ?_
            refine l_iload_n rfl rfl ?_
            refine l_iload_n rfl rfl ?_
            refine l_if_ne rfl rfl (by unfold rg; omega) (fun w52 => ?_) (fun w53 => ?_)
            · refine l_iconst rfl ?_
              refine l_iconst rfl ?_
              have w54 : 0 ≤ Xi T1 5 3 ∧ Xi T1 5 3 ≤ 24 := hHT1.c _ _
              refine l_callV rfl rfl rfl (t_me_readAdjective hHT1 (Xi T1 21 ((z47).toNat)) at_ to 0 0 ⟨by omega, by omega⟩ ⟨by omega, by omega⟩ ⟨by omega, by omega⟩ ⟨by omega, by omega⟩ ⟨by omega, by omega⟩ (by first | assumption | exact (LEX_FR hFT1 rfl rfl (by assumption : LEX S))) _) ?_
              rintro _ T3 ⟨hHT3, w58, z57, rfl, w57, w55, w56⟩
              have hFT3 : FR md_re_adjectiveSuits S T3 := FR.tr hFT1 w58 rfl
              show Rl _ _ _ _ _ [iv z57] _ _
              have hrr : 1 ≤ z57 → 1 ≤ raF S (Xi S 21 (fob S v5).toNat) at_ to (1 - nt) 0 := fun h => asu_r (by assumption) (by assumption : FR md_re_adjectiveSuits S T1) rfl hkk (by omega) h
              refine l_istore rfl rfl rfl ?_
              refine l_iload rfl rfl ?_
              refine l_if_ne rfl rfl (by unfold rg; omega) (fun w59 => ?_) (fun w60 => ?_)
              · refine l_iload rfl rfl ?_
                refine l_if_ne rfl rfl (by unfold rg; omega) (fun w61 => ?_) (fun w62 => ?_)
                · refine l_iconst rfl ?_
                  refine l_goto rfl rfl ?_
                  refine l_istore rfl rfl rfl ?_
                  refine l_iinc rfl rfl rfl rfl ?_
                  refine l_goto rfl rfl ?_
                  exact Rl_weak (ih6 _ (by omega) T3 hHT3 hFT3 (1) ((v5 + 1)) (by omega) (by omega) (by first | exact asu_0 | exact asu_s ha6 (Or.inl (by omega)) | exact asu_s ha6 (Or.inr (Or.inl (by omega))) | exact asu_s ha6 (Or.inr (Or.inr (hrr (by omega))))) rfl) (And.intro rfl (And.intro rfl (And.intro rfl (And.intro rfl (And.intro rfl (And.intro rfl (True.intro)))))))
                · refine l_iload rfl rfl ?_
                  refine l_iconst rfl ?_
                  refine l_icmp_le rfl rfl (by unfold rg; omega) (by unfold rg; omega) (fun w63 => ?_) (fun w64 => ?_)
                  · refine l_iconst rfl ?_
                    refine l_istore rfl rfl rfl ?_
                    refine l_iinc rfl rfl rfl rfl ?_
                    refine l_goto rfl rfl ?_
                    exact Rl_weak (ih6 _ (by omega) T3 hHT3 hFT3 (0) ((v5 + 1)) (by omega) (by omega) (by first | exact asu_0 | exact asu_s ha6 (Or.inl (by omega)) | exact asu_s ha6 (Or.inr (Or.inl (by omega))) | exact asu_s ha6 (Or.inr (Or.inr (hrr (by omega))))) rfl) (And.intro rfl (And.intro rfl (And.intro rfl (And.intro rfl (And.intro rfl (And.intro rfl (True.intro)))))))
                  · refine l_iconst rfl ?_
                    refine l_goto rfl rfl ?_
                    refine l_istore rfl rfl rfl ?_
                    refine l_iinc rfl rfl rfl rfl ?_
                    refine l_goto rfl rfl ?_
                    exact Rl_weak (ih6 _ (by omega) T3 hHT3 hFT3 (1) ((v5 + 1)) (by omega) (by omega) (by first | exact asu_0 | exact asu_s ha6 (Or.inl (by omega)) | exact asu_s ha6 (Or.inr (Or.inl (by omega))) | exact asu_s ha6 (Or.inr (Or.inr (hrr (by omega))))) rfl) (And.intro rfl (And.intro rfl (And.intro rfl (And.intro rfl (And.intro rfl (And.intro rfl (True.intro)))))))
              · refine l_aload_n rfl rfl ?_
                refine l_gfr rfl rfl rfl rfl rfl (hHT3.r 891 0 876 rfl) ?_
                refine l_iconst rfl ?_
                refine l_iload_n rfl rfl ?_
                refine l_callV rfl rfl rfl (t_to_wrong hHT3 4 at_ ⟨by omega, by omega⟩ ⟨by omega, by omega⟩ _) ?_
                rintro _ T4 ⟨hHT4, w68, z67, rfl, w67, w65, w66⟩
                have hFT4 : FR md_re_adjectiveSuits S T4 := FR.tr hFT3 w68 rfl
                show Rl _ _ _ _ _ [iv z67] _ _
                refine l_ireturn rfl (retI_z (by omega)) ?_
                have w69 : 0 ≤ Xi T4 876 8 ∧ Xi T4 876 8 ≤ 9 := hHT4.c _ _
                exact ⟨hHT4, hFT4, _, rfl, ⟨by omega, by omega⟩, (by first | (intro hz; omega) | (intro _; exact asu_e ha6 (by omega))), (by omega)⟩
            · refine l_iconst rfl ?_
              refine l_goto rfl rfl ?_
              refine l_iconst rfl ?_
              have w70 : 0 ≤ Xi T1 5 3 ∧ Xi T1 5 3 ≤ 24 := hHT1.c _ _
              refine l_callV rfl rfl rfl (t_me_readAdjective hHT1 (Xi T1 21 ((z47).toNat)) at_ to 1 0 ⟨by omega, by omega⟩ ⟨by omega, by omega⟩ ⟨by omega, by omega⟩ ⟨by omega, by omega⟩ ⟨by omega, by omega⟩ (by first | assumption | exact (LEX_FR hFT1 rfl rfl (by assumption : LEX S))) _) ?_
              rintro _ T5 ⟨hHT5, w74, z73, rfl, w73, w71, w72⟩
              have hFT5 : FR md_re_adjectiveSuits S T5 := FR.tr hFT1 w74 rfl
              show Rl _ _ _ _ _ [iv z73] _ _
              have hrr : 1 ≤ z73 → 1 ≤ raF S (Xi S 21 (fob S v5).toNat) at_ to (1 - nt) 0 := fun h => asu_r (by assumption) (by assumption : FR md_re_adjectiveSuits S T1) rfl hkk (by omega) h
              refine l_istore rfl rfl rfl ?_
              refine l_iload rfl rfl ?_
              refine l_if_ne rfl rfl (by unfold rg; omega) (fun w75 => ?_) (fun w76 => ?_)
              · refine l_iload rfl rfl ?_
                refine l_if_ne rfl rfl (by unfold rg; omega) (fun w77 => ?_) (fun w78 => ?_)
                · refine l_iconst rfl ?_
                  refine l_goto rfl rfl ?_
                  refine l_istore rfl rfl rfl ?_
                  refine l_iinc rfl rfl rfl rfl ?_
                  refine l_goto rfl rfl ?_
                  exact Rl_weak (ih6 _ (by omega) T5 hHT5 hFT5 (1) ((v5 + 1)) (by omega) (by omega) (by first | exact asu_0 | exact asu_s ha6 (Or.inl (by omega)) | exact asu_s ha6 (Or.inr (Or.inl (by omega))) | exact asu_s ha6 (Or.inr (Or.inr (hrr (by omega))))) rfl) (And.intro rfl (And.intro rfl (And.intro rfl (And.intro rfl (And.intro rfl (And.intro rfl (True.intro)))))))
                · refine l_iload rfl rfl ?_
                  refine l_iconst rfl ?_
                  refine l_icmp_le rfl rfl (by unfold rg; omega) (by unfold rg; omega) (fun w79 => ?_) (fun w80 => ?_)
                  · refine l_iconst rfl ?_
                    refine l_istore rfl rfl rfl ?_
                    refine l_iinc rfl rfl rfl rfl ?_
                    refine l_goto rfl rfl ?_
                    exact Rl_weak (ih6 _ (by omega) T5 hHT5 hFT5 (0) ((v5 + 1)) (by omega) (by omega) (by first | exact asu_0 | exact asu_s ha6 (Or.inl (by omega)) | exact asu_s ha6 (Or.inr (Or.inl (by omega))) | exact asu_s ha6 (Or.inr (Or.inr (hrr (by omega))))) rfl) (And.intro rfl (And.intro rfl (And.intro rfl (And.intro rfl (And.intro rfl (And.intro rfl (True.intro)))))))
                  · refine l_iconst rfl ?_
                    refine l_goto rfl rfl ?_
                    refine l_istore rfl rfl rfl ?_
                    refine l_iinc rfl rfl rfl rfl ?_
                    refine l_goto rfl rfl ?_
                    exact Rl_weak (ih6 _ (by omega) T5 hHT5 hFT5 (1) ((v5 + 1)) (by omega) (by omega) (by first | exact asu_0 | exact asu_s ha6 (Or.inl (by omega)) | exact asu_s ha6 (Or.inr (Or.inl (by omega))) | exact asu_s ha6 (Or.inr (Or.inr (hrr (by omega))))) rfl) (And.intro rfl (And.intro rfl (And.intro rfl (And.intro rfl (And.intro rfl (And.intro rfl (True.intro)))))))
              · refine l_aload_n rfl rfl ?_
                refine l_gfr rfl rfl rfl rfl rfl (hHT5.r 891 0 876 rfl) ?_
                refine l_iconst rfl ?_
                refine l_iload_n rfl rfl ?_
                refine l_callV rfl rfl rfl (t_to_wrong hHT5 4 at_ ⟨by omega, by omega⟩ ⟨by omega, by omega⟩ _) ?_
                rintro _ T6 ⟨hHT6, w84, z83, rfl, w83, w81, w82⟩
                have hFT6 : FR md_re_adjectiveSuits S T6 := FR.tr hFT5 w84 rfl
                show Rl _ _ _ _ _ [iv z83] _ _
                refine l_ireturn rfl (retI_z (by omega)) ?_
                have w85 : 0 ≤ Xi T6 876 8 ∧ Xi T6 876 8 ≤ 9 := hHT6.c _ _
                exact ⟨hHT6, hFT6, _, rfl, ⟨by omega, by omega⟩, (by first | (intro hz; omega) | (intro _; exact asu_e ha6 (by omega))), (by omega)⟩
          · refine l_iconst rfl ?_
            refine l_goto rfl rfl ?_
            refine l_istore rfl rfl rfl ?_
            refine l_iload rfl rfl ?_
            refine l_if_ne rfl rfl (by unfold rg; omega) (fun w86 => ?_) (fun w87 => absurd w87 (by omega))
            · refine l_iload rfl rfl ?_
              refine l_if_ne rfl rfl (by unfold rg; omega) (fun w88 => ?_) (fun w89 => ?_)
              · refine l_iconst rfl ?_
                refine l_goto rfl rfl ?_
                refine l_istore rfl rfl rfl ?_
                refine l_iinc rfl rfl rfl rfl ?_
                refine l_goto rfl rfl ?_
                exact Rl_weak (ih6 _ (by omega) T1 hHT1 hFT1 (1) ((v5 + 1)) (by omega) (by omega) (by first | exact asu_0 | exact asu_s ha6 (Or.inl (by omega)) | exact asu_s ha6 (Or.inr (Or.inl (by omega))) | exact asu_s ha6 (Or.inr (Or.inr (hrr (by omega))))) rfl) (And.intro rfl (And.intro rfl (And.intro rfl (And.intro rfl (And.intro rfl (And.intro rfl (True.intro)))))))
              · refine l_iload rfl rfl ?_
                refine l_iconst rfl ?_
                refine l_icmp_le rfl rfl (by unfold rg; omega) (by unfold rg; omega) (fun w90 => ?_) (fun w91 => absurd w91 (by omega))
                · refine l_iconst rfl ?_
                  refine l_istore rfl rfl rfl ?_
                  refine l_iinc rfl rfl rfl rfl ?_
                  refine l_goto rfl rfl ?_
                  exact Rl_weak (ih6 _ (by omega) T1 hHT1 hFT1 (0) ((v5 + 1)) (by omega) (by omega) (by first | exact asu_0 | exact asu_s ha6 (Or.inl (by omega)) | exact asu_s ha6 (Or.inr (Or.inl (by omega))) | exact asu_s ha6 (Or.inr (Or.inr (hrr (by omega))))) rfl) (And.intro rfl (And.intro rfl (And.intro rfl (And.intro rfl (And.intro rfl (And.intro rfl (True.intro)))))))
  refine l_iconst rfl ?_
  refine l_istore rfl rfl rfl ?_
  refine l_iconst rfl ?_
  refine l_istore rfl rfl rfl ?_
  exact Rl_weak (C6 _ S hH hF (0) (0) (by omega) (by omega) (by first | exact asu_0 | exact asu_s ha6 (Or.inl (by omega)) | exact asu_s ha6 (Or.inr (Or.inl (by omega))) | exact asu_s ha6 (Or.inr (Or.inr (hrr (by omega))))) rfl) (And.intro rfl (And.intro rfl (And.intro rfl (And.intro rfl (And.intro rfl (And.intro rfl (True.intro)))))))
/-! SAFETY of methods: printed by wip/safe (vc.py, decl.py) -/
def md_re_doAdjective : List rec := [(25, 65, 0, 100000), (66, 106, 0, 100000), (107, 147, 0, 100000), (148, 188, 0, 100000), (876, 877, 8, 9), (876, 877, 9, 10), (891, 892, 10, 11), (895, 896, 8, 9), (895, 896, 9, 10)]
abbrev Q_re_doAdjective (S : sS) (at_ : Int) (to : Int) (nt : Int) : pst := fun r S1 => HI S1 ∧ FR md_re_doAdjective S S1 ∧ (∃ z : Int, r = some (iv z) ∧ (0 ≤ z ∧ z ≤ 1) ∧ (TX S1) ∧ (z = 0 → Xi S1 876 8 ≠ 0))
set_option maxRecDepth 100000 in
theorem t_re_doAdjective {S : sS} (hH : HI S) (at_ : Int) (to : Int) (nt : Int) (hat_ : 0 ≤ at_ ∧ at_ ≤ 5140) (hto : 0 ≤ to ∧ to ≤ 5140) (hnt : 0 ≤ nt ∧ nt ≤ 1) (hL : LEX S) (hX : TX S) (hs : ASU S at_ to nt (Xi S 890 3)) (d : Nat) : Mt lay0 (d + 4) m_re_doAdjective [.ref 891, iv at_, iv to, iv nt] S (Q_re_doAdjective S at_ to nt) := by
  refine Mt_R rfl rfl ?_
  have hF : FR md_re_doAdjective S S := FR.rf
  have w1 : -1 ≤ Xi S 890 3 ∧ Xi S 890 3 ≤ 5124 := hH.c _ _
  have C6 : ∀ (n6 : Nat) (T1 : sS) (_ : HI T1) (_ : FR md_re_doAdjective S T1) (v4 : Int) (v5 : Int), (-1 ≤ v4 ∧ v4 ≤ 23) → (0 ≤ v5 ∧ v5 ≤ 5124) → (TX T1) → n6 = (5125 - v5).toNat → Rl lay0 (d + 3) m_re_doAdjective 6 [(0, .ref 891), (1, iv at_), (2, iv to), (3, iv nt), (4, iv v4), (5, iv v5)] [] T1 (Q_re_doAdjective S at_ to nt) := by
    intro n6
    induction n6 using Nat.strongRecOn with
    | ind n6 ih6 =>
      intro T1 hHT1 hFT1 v4 v5 w2 w3 hX6 hm6
      have w4 : Xi T1 5 3 = Xi S 5 3 := hFT1.x _ _ rfl
      have w5 : Xi T1 876 7 = Xi S 876 7 := hFT1.x _ _ rfl
      have w6 : Xi T1 890 3 = Xi S 890 3 := hFT1.x _ _ rfl
      refine l_iload rfl rfl ?_
      refine l_aload_n rfl rfl ?_
      refine l_gfr rfl rfl rfl rfl rfl (hHT1.r 891 1 890 rfl) ?_
      refine l_gfi rfl rfl rfl rfl rfl ?_
      refine l_icmp_ge rfl rfl (by unfold rg; omega) (by unfold rg; omega) (fun w7 => ?_) (fun w8 => ?_)
      · refine l_aload_n rfl rfl ?_
        refine l_iload rfl rfl ?_
        refine l_pfi rfl rfl rfl rfl ?_
        obtain ⟨U2, eU2⟩ : ∃ T : sS, T = uI T1 891 10 (Int32.ofInt v4) := ⟨_, rfl⟩
        rw [← eU2]
        have hHU2 : HI U2 := by rw [eU2]; exact HI_w hHT1 (show -1 ≤ v4 by omega) (show v4 ≤ 23 by omega)
        have hFU2 : FR md_re_doAdjective S U2 := by rw [eU2]; exact FR.wI hFT1 (mdf_i (r := (891, 892, 10, 11)) (List.mem_of_getElem? (i := 6) rfl) (inR_i (by omega) (by omega) (by omega) (by omega)))
        have w9 : Xi U2 891 10 = v4 := by rw [eU2]; exact Xi_same (by unfold rg; omega)
        refine l_iconst rfl ?_
        refine l_ireturn rfl rfl ?_
        have w10 : Xi U2 876 8 = Xi T1 876 8 := (show Xi U2 876 8 = Xi T1 876 8 from by rw [eU2]; exact Xi_ne (by omega))
        have w11 : 0 ≤ Xi T1 876 8 ∧ Xi T1 876 8 ≤ 9 := hHT1.c _ _
        exact ⟨hHU2, hFU2, _, rfl, ⟨by omega, by omega⟩, (by first | assumption | exact (TX_FR (FR_e eU2) rfl (by assumption : TX T1))), (by first | assumption | omega)⟩
      · refine l_aload_n rfl rfl ?_
        refine l_iload rfl rfl ?_
        have w12 : 0 ≤ Xi T1 876 7 ∧ Xi T1 876 7 ≤ 5125 := hHT1.c _ _
        have w13 : -1 ≤ Xi T1 890 3 ∧ Xi T1 890 3 ≤ 5124 := hHT1.c _ _
        refine l_callV rfl rfl rfl (t_re_beginsName hHT1 v5 ⟨by omega, by omega⟩ _) ?_
        rintro _ _ ⟨rfl, z16, rfl, w16, w14, w15⟩
        show Rl _ _ _ _ _ [iv z16] _ _
        have hbg : z16 = bgn S v5 := (by assumption : z16 = bgn T1 v5).trans (bgn_FR hFT1 rfl rfl)
        refine l_if_eq rfl rfl (by unfold rg; omega) (fun w17 => ?_) (fun w18 => ?_)
        · refine l_iconst rfl ?_
          refine l_istore rfl rfl rfl ?_
          refine l_iload rfl rfl ?_
          refine l_iconst rfl ?_
          refine l_icmp_ne rfl rfl (by unfold rg; omega) (by unfold rg; omega) (fun w19 => absurd w19 (by omega)) (fun w20 => ?_)
          · refine l_goto rfl rfl ?_
            refine l_iinc rfl rfl rfl rfl ?_
            refine l_goto rfl rfl ?_
            exact Rl_weak (ih6 _ (by omega) T1 hHT1 hFT1 (v4) ((v5 + 1)) (by omega) (by omega) (by first | assumption | exact (by assumption : TX T1)) rfl) (And.intro rfl (And.intro rfl (And.intro rfl (And.intro rfl (And.intro rfl (And.intro rfl (True.intro)))))))
        · refine l_aload_n rfl rfl ?_
          refine l_gfr rfl rfl rfl rfl rfl (hHT1.r 891 4 895 rfl) ?_
          refine l_iconst rfl ?_
          refine l_iload rfl rfl ?_
          refine l_aload_n rfl rfl ?_
          refine l_gfr rfl rfl rfl rfl rfl (hHT1.r 891 0 876 rfl) ?_
          refine l_iload rfl rfl ?_
          refine l_callV rfl rfl rfl (t_to_runEnd hHT1 v5 ⟨by omega, by omega⟩ _) ?_
          rintro _ _ ⟨rfl, z29, rfl, w29, w22, w23, w24, w25, w26, w27, w28⟩
          clear w24 w25 w26 w27
          show Rl _ _ _ _ _ [iv z29, iv v5, iv 2, .ref 895] _ _
          refine l_callV rfl rfl rfl (t_me_find hHT1 2 v5 z29 ⟨by omega, by omega⟩ ⟨by omega, by omega⟩ ⟨by omega, by omega⟩ (by first | assumption | exact (LEX_FR hFT1 rfl rfl (by assumption : LEX S))) _) ?_
          rintro _ _ ⟨rfl, z33, rfl, w33, w30, w31, w32⟩
          have w34 : z33 ≠ -1 → _ := fun h => fb2 hHT1 (w30 h)
          clear w31
          show Rl _ _ _ _ _ [iv z33] _ _
          have hfo : z33 = fob S v5 := (fob_of (by assumption) (by assumption)).trans (fob_FR hFT1 rfl rfl)
          refine l_goto rfl rfl ?_
          refine l_istore rfl rfl rfl ?_
          refine l_iload rfl rfl ?_
          refine l_iconst rfl ?_
          refine l_icmp_ne rfl rfl (by unfold rg; omega) (by unfold rg; omega) (fun w35 => ?_) (fun w36 => ?_)
          · refine l_iload rfl rfl ?_
            refine l_iconst rfl ?_
            refine l_icmp_ne rfl rfl (by unfold rg; omega) (by unfold rg; omega) (fun w37 => ?_) (fun w38 => ?_)
            · refine l_iload rfl rfl ?_
              refine l_istore rfl rfl rfl ?_
              refine l_aload_n rfl rfl ?_
              refine l_gfr rfl rfl rfl rfl rfl (hHT1.r 891 4 895 rfl) ?_
              refine l_aload_n rfl rfl ?_
              refine l_gfr rfl rfl rfl rfl rfl (hHT1.r 891 3 20 rfl) ?_
              refine l_gfr rfl rfl rfl rfl rfl (hHT1.r 20 2 21 rfl) ?_
              refine l_iload rfl rfl ?_
              refine l_iaload (n := 24) rfl rfl (by omega) (by omega) (by unfold rg; omega) ?_
              have w39 : 0 ≤ (Xi T1 21 ((z33).toNat)) ∧ (Xi T1 21 ((z33).toNat)) ≤ 15 := hHT1.c _ _
              have hkk : (Xi T1 21 ((z33).toNat)) = Xi S 21 (fob S v5).toNat := by rw [(hFT1.cx 21 rfl _).1]; exact congrArg (fun t : Int => Xi S 21 t.toNat) (by omega)
              refine l_iload_n rfl rfl ?_
              refine l_iload_n rfl rfl ?_
              refine l_iload_n rfl rfl ?_
              refine l_if_ne rfl rfl (by unfold rg; omega) (fun w40 => ?_) (fun w41 => ?_)
              · refine l_iconst rfl ?_
                refine l_iconst rfl ?_
                have w42 : 0 ≤ Xi T1 5 3 ∧ Xi T1 5 3 ≤ 24 := hHT1.c _ _
                refine l_callV rfl rfl rfl (t_me_readAdjective hHT1 (Xi T1 21 ((z33).toNat)) at_ to 0 0 ⟨by omega, by omega⟩ ⟨by omega, by omega⟩ ⟨by omega, by omega⟩ ⟨by omega, by omega⟩ ⟨by omega, by omega⟩ (by first | assumption | exact (LEX_FR hFT1 rfl rfl (by assumption : LEX S))) _) ?_
                rintro _ T3 ⟨hHT3, w46, z45, rfl, w45, w43, w44⟩
                have hFT3 : FR md_re_doAdjective S T3 := FR.tr hFT1 w46 rfl
                show Rl _ _ _ _ _ [iv z45] _ _
                have hrr : 1 ≤ z45 := asu_u (nt := nt) hs (by assumption) (by assumption : FR md_re_doAdjective S T1) rfl hkk (by omega) (by omega) (by omega) (by omega) (by omega)
                have h53 : 0 ≤ Xi T1 5 3 ∧ Xi T1 5 3 ≤ 24 := hHT1.c _ _
                refine l_pop rfl rfl ?_
                refine l_aload_n rfl rfl ?_
                refine l_iload rfl rfl ?_
                refine l_aload_n rfl rfl ?_
                refine l_gfr rfl rfl rfl rfl rfl (hHT3.r 891 4 895 rfl) ?_
                refine l_gfi rfl rfl rfl rfl rfl ?_
                have w47 : 0 ≤ (Xi T3 895 8) ∧ (Xi T3 895 8) ≤ 255 := hHT3.c _ _
                refine l_aload_n rfl rfl ?_
                refine l_gfr rfl rfl rfl rfl rfl (hHT3.r 891 4 895 rfl) ?_
                refine l_gfi rfl rfl rfl rfl rfl ?_
                have w48 : -1 ≤ (Xi T3 895 9) ∧ (Xi T3 895 9) ≤ 11 := hHT3.c _ _
                refine l_iload_n rfl rfl ?_
                refine l_if_ne rfl rfl (by unfold rg; omega) (fun w49 => ?_) (fun w50 => ?_)
                · refine l_iconst rfl ?_
                  refine l_callV rfl rfl rfl (t_re_tellOne hHT3 z33 (Xi T3 895 8) (Xi T3 895 9) 0 ⟨by omega, by omega⟩ ⟨by omega, by omega⟩ ⟨by omega, by omega⟩ ⟨by omega, by omega⟩ (by first | assumption | exact (TX_FR w46 rfl (by assumption : TX T1))) (by first | assumption | omega) _) ?_
                  rintro _ T4 ⟨hHT4, w53, z52, rfl, w52, w51⟩
                  have hFT4 : FR md_re_doAdjective S T4 := FR.tr hFT3 w53 rfl
                  show Rl _ _ _ _ _ [iv z52] _ _
                  refine l_if_ne rfl rfl (by unfold rg; omega) (fun w54 => ?_) (fun w55 => ?_)
                  · refine l_iinc rfl rfl rfl rfl ?_
                    refine l_goto rfl rfl ?_
                    exact Rl_weak (ih6 _ (by omega) T4 hHT4 hFT4 (v4) ((v5 + 1)) (by omega) (by omega) (by first | assumption | exact (by assumption : TX T4)) rfl) (And.intro rfl (And.intro rfl (And.intro rfl (And.intro rfl (And.intro rfl (And.intro rfl (True.intro)))))))
                  · refine l_aload_n rfl rfl ?_
                    refine l_gfr rfl rfl rfl rfl rfl (hHT4.r 891 0 876 rfl) ?_
                    refine l_iconst rfl ?_
                    refine l_iload rfl rfl ?_
                    refine l_callV rfl rfl rfl (t_to_wrong hHT4 5 v5 ⟨by omega, by omega⟩ ⟨by omega, by omega⟩ _) ?_
                    rintro _ T5 ⟨hHT5, w59, z58, rfl, w58, w56, w57⟩
                    have hFT5 : FR md_re_doAdjective S T5 := FR.tr hFT4 w59 rfl
                    show Rl _ _ _ _ _ [iv z58] _ _
                    refine l_ireturn rfl (retI_z (by omega)) ?_
                    have w60 : 0 ≤ Xi T5 876 8 ∧ Xi T5 876 8 ≤ 9 := hHT5.c _ _
                    exact ⟨hHT5, hFT5, _, rfl, ⟨by omega, by omega⟩, (by first | assumption | exact (TX_FR w59 rfl (by assumption : TX T4))), (by first | assumption | omega)⟩
                · refine l_iconst rfl ?_
                  refine l_goto rfl rfl ?_
                  refine l_callV rfl rfl rfl (t_re_tellOne hHT3 z33 (Xi T3 895 8) (Xi T3 895 9) 1 ⟨by omega, by omega⟩ ⟨by omega, by omega⟩ ⟨by omega, by omega⟩ ⟨by omega, by omega⟩ (by first | assumption | exact (TX_FR w46 rfl (by assumption : TX T1))) (by first | assumption | omega) _) ?_
                  rintro _ T6 ⟨hHT6, w63, z62, rfl, w62, w61⟩
                  have hFT6 : FR md_re_doAdjective S T6 := FR.tr hFT3 w63 rfl
                  show Rl _ _ _ _ _ [iv z62] _ _
                  refine l_if_ne rfl rfl (by unfold rg; omega) (fun w64 => ?_) (fun w65 => ?_)
                  · refine l_iinc rfl rfl rfl rfl ?_
                    refine l_goto rfl rfl ?_
                    exact Rl_weak (ih6 _ (by omega) T6 hHT6 hFT6 (v4) ((v5 + 1)) (by omega) (by omega) (by first | assumption | exact (by assumption : TX T6)) rfl) (And.intro rfl (And.intro rfl (And.intro rfl (And.intro rfl (And.intro rfl (And.intro rfl (True.intro)))))))
                  · refine l_aload_n rfl rfl ?_
                    refine l_gfr rfl rfl rfl rfl rfl (hHT6.r 891 0 876 rfl) ?_
                    refine l_iconst rfl ?_
                    refine l_iload rfl rfl ?_
                    refine l_callV rfl rfl rfl (t_to_wrong hHT6 5 v5 ⟨by omega, by omega⟩ ⟨by omega, by omega⟩ _) ?_
                    rintro _ T7 ⟨hHT7, w69, z68, rfl, w68, w66, w67⟩
                    have hFT7 : FR md_re_doAdjective S T7 := FR.tr hFT6 w69 rfl
                    show Rl _ _ _ _ _ [iv z68] _ _
                    refine l_ireturn rfl (retI_z (by omega)) ?_
                    have w70 : 0 ≤ Xi T7 876 8 ∧ Xi T7 876 8 ≤ 9 := hHT7.c _ _
                    exact ⟨hHT7, hFT7, _, rfl, ⟨by omega, by omega⟩, (by first | assumption | exact (TX_FR w69 rfl (by assumption : TX T6))), (by first | assumption | omega)⟩
              · refine l_iconst rfl ?_
                refine l_goto rfl rfl ?_
                refine l_iconst rfl ?_
                have w71 : 0 ≤ Xi T1 5 3 ∧ Xi T1 5 3 ≤ 24 := hHT1.c _ _
                refine l_callV rfl rfl rfl (t_me_readAdjective hHT1 (Xi T1 21 ((z33).toNat)) at_ to 1 0 ⟨by omega, by omega⟩ ⟨by omega, by omega⟩ ⟨by omega, by omega⟩ ⟨by omega, by omega⟩ ⟨by omega, by omega⟩ (by first | assumption | exact (LEX_FR hFT1 rfl rfl (by assumption : LEX S))) _) ?_
                rintro _ T8 ⟨hHT8, w75, z74, rfl, w74, w72, w73⟩
                have hFT8 : FR md_re_doAdjective S T8 := FR.tr hFT1 w75 rfl
                show Rl _ _ _ _ _ [iv z74] _ _
                have hrr : 1 ≤ z74 := asu_u (nt := nt) hs (by assumption) (by assumption : FR md_re_doAdjective S T1) rfl hkk (by omega) (by omega) (by omega) (by omega) (by omega)
                have h53 : 0 ≤ Xi T1 5 3 ∧ Xi T1 5 3 ≤ 24 := hHT1.c _ _
                refine l_pop rfl rfl ?_
                refine l_aload_n rfl rfl ?_
                refine l_iload rfl rfl ?_
                refine l_aload_n rfl rfl ?_
                refine l_gfr rfl rfl rfl rfl rfl (hHT8.r 891 4 895 rfl) ?_
                refine l_gfi rfl rfl rfl rfl rfl ?_
                have w76 : 0 ≤ (Xi T8 895 8) ∧ (Xi T8 895 8) ≤ 255 := hHT8.c _ _
                refine l_aload_n rfl rfl ?_
                refine l_gfr rfl rfl rfl rfl rfl (hHT8.r 891 4 895 rfl) ?_
                refine l_gfi rfl rfl rfl rfl rfl ?_
                have w77 : -1 ≤ (Xi T8 895 9) ∧ (Xi T8 895 9) ≤ 11 := hHT8.c _ _
                refine l_iload_n rfl rfl ?_
                refine l_if_ne rfl rfl (by unfold rg; omega) (fun w78 => ?_) (fun w79 => ?_)
                · refine l_iconst rfl ?_
                  refine l_callV rfl rfl rfl (t_re_tellOne hHT8 z33 (Xi T8 895 8) (Xi T8 895 9) 0 ⟨by omega, by omega⟩ ⟨by omega, by omega⟩ ⟨by omega, by omega⟩ ⟨by omega, by omega⟩ (by first | assumption | exact (TX_FR w75 rfl (by assumption : TX T1))) (by first | assumption | omega) _) ?_
                  rintro _ T9 ⟨hHT9, w82, z81, rfl, w81, w80⟩
                  have hFT9 : FR md_re_doAdjective S T9 := FR.tr hFT8 w82 rfl
                  show Rl _ _ _ _ _ [iv z81] _ _
                  refine l_if_ne rfl rfl (by unfold rg; omega) (fun w83 => ?_) (fun w84 => ?_)
                  · refine l_iinc rfl rfl rfl rfl ?_
                    refine l_goto rfl rfl ?_
                    exact Rl_weak (ih6 _ (by omega) T9 hHT9 hFT9 (v4) ((v5 + 1)) (by omega) (by omega) (by first | assumption | exact (by assumption : TX T9)) rfl) (And.intro rfl (And.intro rfl (And.intro rfl (And.intro rfl (And.intro rfl (And.intro rfl (True.intro)))))))
                  · refine l_aload_n rfl rfl ?_
                    refine l_gfr rfl rfl rfl rfl rfl (hHT9.r 891 0 876 rfl) ?_
                    refine l_iconst rfl ?_
                    refine l_iload rfl rfl ?_
                    refine l_callV rfl rfl rfl (t_to_wrong hHT9 5 v5 ⟨by omega, by omega⟩ ⟨by omega, by omega⟩ _) ?_
                    rintro _ T10 ⟨hHT10, w88, z87, rfl, w87, w85, w86⟩
                    have hFT10 : FR md_re_doAdjective S T10 := FR.tr hFT9 w88 rfl
                    show Rl _ _ _ _ _ [iv z87] _ _
                    refine l_ireturn rfl (retI_z (by omega)) ?_
                    have w89 : 0 ≤ Xi T10 876 8 ∧ Xi T10 876 8 ≤ 9 := hHT10.c _ _
                    exact ⟨hHT10, hFT10, _, rfl, ⟨by omega, by omega⟩, (by first | assumption | exact (TX_FR w88 rfl (by assumption : TX T9))), (by first | assumption | omega)⟩
                · refine l_iconst rfl ?_
                  refine l_goto rfl rfl ?_
                  refine l_callV rfl rfl rfl (t_re_tellOne hHT8 z33 (Xi T8 895 8) (Xi T8 895 9) 1 ⟨by omega, by omega⟩ ⟨by omega, by omega⟩ ⟨by omega, by omega⟩ ⟨by omega, by omega⟩ (by first | assumption | exact (TX_FR w75 rfl (by assumption : TX T1))) (by first | assumption | omega) _) ?_
                  rintro _ T11 ⟨hHT11, w92, z91, rfl, w91, w90⟩
                  have hFT11 : FR md_re_doAdjective S T11 := FR.tr hFT8 w92 rfl
                  show Rl _ _ _ _ _ [iv z91] _ _
                  refine l_if_ne rfl rfl (by unfold rg; omega) (fun w93 => ?_) (fun w94 => ?_)
                  · refine l_iinc rfl rfl rfl rfl ?_
                    refine l_goto rfl rfl ?_
                    exact Rl_weak (ih6 _ (by omega) T11 hHT11 hFT11 (v4) ((v5 + 1)) (by omega) (by omega) (by first | assumption | exact (by assumption : TX T11)) rfl) (And.intro rfl (And.intro rfl (And.intro rfl (And.intro rfl (And.intro rfl (And.intro rfl (True.intro)))))))
                  · refine l_aload_n rfl rfl ?_
                    refine l_gfr rfl rfl rfl rfl rfl (hHT11.r 891 0 876 rfl) ?_
                    refine l_iconst rfl ?_
                    refine l_iload rfl rfl ?_
                    refine l_callV rfl rfl rfl (t_to_wrong hHT11 5 v5 ⟨by omega, by omega⟩ ⟨by omega, by omega⟩ _) ?_
                    rintro _ T12 ⟨hHT12, w98, z97, rfl, w97, w95, w96⟩
                    have hFT12 : FR md_re_doAdjective S T12 := FR.tr hFT11 w98 rfl
                    show Rl _ _ _ _ _ [iv z97] _ _
                    refine l_ireturn rfl (retI_z (by omega)) ?_
                    have w99 : 0 ≤ Xi T12 876 8 ∧ Xi T12 876 8 ≤ 9 := hHT12.c _ _
                    exact ⟨hHT12, hFT12, _, rfl, ⟨by omega, by omega⟩, (by first | assumption | exact (TX_FR w98 rfl (by assumption : TX T11))), (by first | assumption | omega)⟩
            · refine l_iload rfl rfl ?_
              refine l_goto rfl rfl ?_
              refine l_istore rfl rfl rfl ?_
              refine l_aload_n rfl rfl ?_
              refine l_gfr rfl rfl rfl rfl rfl (hHT1.r 891 4 895 rfl) ?_
              refine l_aload_n rfl rfl ?_
              refine l_gfr rfl rfl rfl rfl rfl (hHT1.r 891 3 20 rfl) ?_
              refine l_gfr rfl rfl rfl rfl rfl (hHT1.r 20 2 21 rfl) ?_
              refine l_iload rfl rfl ?_
              refine l_iaload (n := 24) rfl rfl (by omega) (by omega) (by unfold rg; omega) ?_
              have w100 : 0 ≤ (Xi T1 21 ((z33).toNat)) ∧ (Xi T1 21 ((z33).toNat)) ≤ 15 := hHT1.c _ _
              have hkk : (Xi T1 21 ((z33).toNat)) = Xi S 21 (fob S v5).toNat := by rw [(hFT1.cx 21 rfl _).1]; exact congrArg (fun t : Int => Xi S 21 t.toNat) (by omega)
              refine l_iload_n rfl rfl ?_
              refine l_iload_n rfl rfl ?_
              refine l_iload_n rfl rfl ?_
              refine l_if_ne rfl rfl (by unfold rg; omega) (fun w101 => ?_) (fun w102 => ?_)
              · refine l_iconst rfl ?_
                refine l_iconst rfl ?_
                have w103 : 0 ≤ Xi T1 5 3 ∧ Xi T1 5 3 ≤ 24 := hHT1.c _ _
                refine l_callV rfl rfl rfl (t_me_readAdjective hHT1 (Xi T1 21 ((z33).toNat)) at_ to 0 0 ⟨by omega, by omega⟩ ⟨by omega, by omega⟩ ⟨by omega, by omega⟩ ⟨by omega, by omega⟩ ⟨by omega, by omega⟩ (by first | assumption | exact (LEX_FR hFT1 rfl rfl (by assumption : LEX S))) _) ?_
                rintro _ T13 ⟨hHT13, w107, z106, rfl, w106, w104, w105⟩
                have hFT13 : FR md_re_doAdjective S T13 := FR.tr hFT1 w107 rfl
                show Rl _ _ _ _ _ [iv z106] _ _
                have hrr : 1 ≤ z106 := asu_u (nt := nt) hs (by assumption) (by assumption : FR md_re_doAdjective S T1) rfl hkk (by omega) (by omega) (by omega) (by omega) (by omega)
                have h53 : 0 ≤ Xi T1 5 3 ∧ Xi T1 5 3 ≤ 24 := hHT1.c _ _
                refine l_pop rfl rfl ?_
                refine l_aload_n rfl rfl ?_
                refine l_iload rfl rfl ?_
                refine l_aload_n rfl rfl ?_
                refine l_gfr rfl rfl rfl rfl rfl (hHT13.r 891 4 895 rfl) ?_
                refine l_gfi rfl rfl rfl rfl rfl ?_
                have w108 : 0 ≤ (Xi T13 895 8) ∧ (Xi T13 895 8) ≤ 255 := hHT13.c _ _
                refine l_aload_n rfl rfl ?_
                refine l_gfr rfl rfl rfl rfl rfl (hHT13.r 891 4 895 rfl) ?_
                refine l_gfi rfl rfl rfl rfl rfl ?_
                have w109 : -1 ≤ (Xi T13 895 9) ∧ (Xi T13 895 9) ≤ 11 := hHT13.c _ _
                refine l_iload_n rfl rfl ?_
                refine l_if_ne rfl rfl (by unfold rg; omega) (fun w110 => ?_) (fun w111 => ?_)
                · refine l_iconst rfl ?_
                  refine l_callV rfl rfl rfl (t_re_tellOne hHT13 z33 (Xi T13 895 8) (Xi T13 895 9) 0 ⟨by omega, by omega⟩ ⟨by omega, by omega⟩ ⟨by omega, by omega⟩ ⟨by omega, by omega⟩ (by first | assumption | exact (TX_FR w107 rfl (by assumption : TX T1))) (by first | assumption | omega) _) ?_
                  rintro _ T14 ⟨hHT14, w114, z113, rfl, w113, w112⟩
                  have hFT14 : FR md_re_doAdjective S T14 := FR.tr hFT13 w114 rfl
                  show Rl _ _ _ _ _ [iv z113] _ _
                  refine l_if_ne rfl rfl (by unfold rg; omega) (fun w115 => ?_) (fun w116 => ?_)
                  · refine l_iinc rfl rfl rfl rfl ?_
                    refine l_goto rfl rfl ?_
                    exact Rl_weak (ih6 _ (by omega) T14 hHT14 hFT14 (z33) ((v5 + 1)) (by omega) (by omega) (by first | assumption | exact (by assumption : TX T14)) rfl) (And.intro rfl (And.intro rfl (And.intro rfl (And.intro rfl (And.intro rfl (And.intro rfl (True.intro)))))))
                  · refine l_aload_n rfl rfl ?_
                    refine l_gfr rfl rfl rfl rfl rfl (hHT14.r 891 0 876 rfl) ?_
                    refine l_iconst rfl ?_
                    refine l_iload rfl rfl ?_
                    refine l_callV rfl rfl rfl (t_to_wrong hHT14 5 v5 ⟨by omega, by omega⟩ ⟨by omega, by omega⟩ _) ?_
                    rintro _ T15 ⟨hHT15, w120, z119, rfl, w119, w117, w118⟩
                    have hFT15 : FR md_re_doAdjective S T15 := FR.tr hFT14 w120 rfl
                    show Rl _ _ _ _ _ [iv z119] _ _
                    refine l_ireturn rfl (retI_z (by omega)) ?_
                    have w121 : 0 ≤ Xi T15 876 8 ∧ Xi T15 876 8 ≤ 9 := hHT15.c _ _
                    exact ⟨hHT15, hFT15, _, rfl, ⟨by omega, by omega⟩, (by first | assumption | exact (TX_FR w120 rfl (by assumption : TX T14))), (by first | assumption | omega)⟩
                · refine l_iconst rfl ?_
                  refine l_goto rfl rfl ?_
                  refine l_callV rfl rfl rfl (t_re_tellOne hHT13 z33 (Xi T13 895 8) (Xi T13 895 9) 1 ⟨by omega, by omega⟩ ⟨by omega, by omega⟩ ⟨by omega, by omega⟩ ⟨by omega, by omega⟩ (by first | assumption | exact (TX_FR w107 rfl (by assumption : TX T1))) (by first | assumption | omega) _) ?_
                  rintro _ T16 ⟨hHT16, w124, z123, rfl, w123, w122⟩
                  have hFT16 : FR md_re_doAdjective S T16 := FR.tr hFT13 w124 rfl
                  show Rl _ _ _ _ _ [iv z123] _ _
                  refine l_if_ne rfl rfl (by unfold rg; omega) (fun w125 => ?_) (fun w126 => ?_)
                  · refine l_iinc rfl rfl rfl rfl ?_
                    refine l_goto rfl rfl ?_
                    exact Rl_weak (ih6 _ (by omega) T16 hHT16 hFT16 (z33) ((v5 + 1)) (by omega) (by omega) (by first | assumption | exact (by assumption : TX T16)) rfl) (And.intro rfl (And.intro rfl (And.intro rfl (And.intro rfl (And.intro rfl (And.intro rfl (True.intro)))))))
                  · refine l_aload_n rfl rfl ?_
                    refine l_gfr rfl rfl rfl rfl rfl (hHT16.r 891 0 876 rfl) ?_
                    refine l_iconst rfl ?_
                    refine l_iload rfl rfl ?_
                    refine l_callV rfl rfl rfl (t_to_wrong hHT16 5 v5 ⟨by omega, by omega⟩ ⟨by omega, by omega⟩ _) ?_
                    rintro _ T17 ⟨hHT17, w130, z129, rfl, w129, w127, w128⟩
                    have hFT17 : FR md_re_doAdjective S T17 := FR.tr hFT16 w130 rfl
                    show Rl _ _ _ _ _ [iv z129] _ _
                    refine l_ireturn rfl (retI_z (by omega)) ?_
                    have w131 : 0 ≤ Xi T17 876 8 ∧ Xi T17 876 8 ≤ 9 := hHT17.c _ _
                    exact ⟨hHT17, hFT17, _, rfl, ⟨by omega, by omega⟩, (by first | assumption | exact (TX_FR w130 rfl (by assumption : TX T16))), (by first | assumption | omega)⟩
              · refine l_iconst rfl ?_
                refine l_goto rfl rfl ?_
                refine l_iconst rfl ?_
                have w132 : 0 ≤ Xi T1 5 3 ∧ Xi T1 5 3 ≤ 24 := hHT1.c _ _
                refine l_callV rfl rfl rfl (t_me_readAdjective hHT1 (Xi T1 21 ((z33).toNat)) at_ to 1 0 ⟨by omega, by omega⟩ ⟨by omega, by omega⟩ ⟨by omega, by omega⟩ ⟨by omega, by omega⟩ ⟨by omega, by omega⟩ (by first | assumption | exact (LEX_FR hFT1 rfl rfl (by assumption : LEX S))) _) ?_
                rintro _ T18 ⟨hHT18, w136, z135, rfl, w135, w133, w134⟩
                have hFT18 : FR md_re_doAdjective S T18 := FR.tr hFT1 w136 rfl
                show Rl _ _ _ _ _ [iv z135] _ _
                have hrr : 1 ≤ z135 := asu_u (nt := nt) hs (by assumption) (by assumption : FR md_re_doAdjective S T1) rfl hkk (by omega) (by omega) (by omega) (by omega) (by omega)
                have h53 : 0 ≤ Xi T1 5 3 ∧ Xi T1 5 3 ≤ 24 := hHT1.c _ _
                refine l_pop rfl rfl ?_
                refine l_aload_n rfl rfl ?_
                refine l_iload rfl rfl ?_
                refine l_aload_n rfl rfl ?_
                refine l_gfr rfl rfl rfl rfl rfl (hHT18.r 891 4 895 rfl) ?_
                refine l_gfi rfl rfl rfl rfl rfl ?_
                have w137 : 0 ≤ (Xi T18 895 8) ∧ (Xi T18 895 8) ≤ 255 := hHT18.c _ _
                refine l_aload_n rfl rfl ?_
                refine l_gfr rfl rfl rfl rfl rfl (hHT18.r 891 4 895 rfl) ?_
                refine l_gfi rfl rfl rfl rfl rfl ?_
                have w138 : -1 ≤ (Xi T18 895 9) ∧ (Xi T18 895 9) ≤ 11 := hHT18.c _ _
                refine l_iload_n rfl rfl ?_
                refine l_if_ne rfl rfl (by unfold rg; omega) (fun w139 => ?_) (fun w140 => ?_)
                · refine l_iconst rfl ?_
                  refine l_callV rfl rfl rfl (t_re_tellOne hHT18 z33 (Xi T18 895 8) (Xi T18 895 9) 0 ⟨by omega, by omega⟩ ⟨by omega, by omega⟩ ⟨by omega, by omega⟩ ⟨by omega, by omega⟩ (by first | assumption | exact (TX_FR w136 rfl (by assumption : TX T1))) (by first | assumption | omega) _) ?_
                  rintro _ T19 ⟨hHT19, w143, z142, rfl, w142, w141⟩
                  have hFT19 : FR md_re_doAdjective S T19 := FR.tr hFT18 w143 rfl
                  show Rl _ _ _ _ _ [iv z142] _ _
                  refine l_if_ne rfl rfl (by unfold rg; omega) (fun w144 => ?_) (fun w145 => ?_)
                  · refine l_iinc rfl rfl rfl rfl ?_
                    refine l_goto rfl rfl ?_
                    exact Rl_weak (ih6 _ (by omega) T19 hHT19 hFT19 (z33) ((v5 + 1)) (by omega) (by omega) (by first | assumption | exact (by assumption : TX T19)) rfl) (And.intro rfl (And.intro rfl (And.intro rfl (And.intro rfl (And.intro rfl (And.intro rfl (True.intro)))))))
                  · refine l_aload_n rfl rfl ?_
                    refine l_gfr rfl rfl rfl rfl rfl (hHT19.r 891 0 876 rfl) ?_
                    refine l_iconst rfl ?_
                    refine l_iload rfl rfl ?_
                    refine l_callV rfl rfl rfl (t_to_wrong hHT19 5 v5 ⟨by omega, by omega⟩ ⟨by omega, by omega⟩ _) ?_
                    rintro _ T20 ⟨hHT20, w149, z148, rfl, w148, w146, w147⟩
                    have hFT20 : FR md_re_doAdjective S T20 := FR.tr hFT19 w149 rfl
                    show Rl _ _ _ _ _ [iv z148] _ _
                    refine l_ireturn rfl (retI_z (by omega)) ?_
                    have w150 : 0 ≤ Xi T20 876 8 ∧ Xi T20 876 8 ≤ 9 := hHT20.c _ _
                    exact ⟨hHT20, hFT20, _, rfl, ⟨by omega, by omega⟩, (by first | assumption | exact (TX_FR w149 rfl (by assumption : TX T19))), (by first | assumption | omega)⟩
                · refine l_iconst rfl ?_
                  refine l_goto rfl rfl ?_
                  refine l_callV rfl rfl rfl (t_re_tellOne hHT18 z33 (Xi T18 895 8) (Xi T18 895 9) 1 ⟨by omega, by omega⟩ ⟨by omega, by omega⟩ ⟨by omega, by omega⟩ ⟨by omega, by omega⟩ (by first | assumption | exact (TX_FR w136 rfl (by assumption : TX T1))) (by first | assumption | omega) _) ?_
                  rintro _ T21 ⟨hHT21, w153, z152, rfl, w152, w151⟩
                  have hFT21 : FR md_re_doAdjective S T21 := FR.tr hFT18 w153 rfl
                  show Rl _ _ _ _ _ [iv z152] _ _
                  refine l_if_ne rfl rfl (by unfold rg; omega) (fun w154 => ?_) (fun w155 => ?_)
                  · refine l_iinc rfl rfl rfl rfl ?_
                    refine l_goto rfl rfl ?_
                    exact Rl_weak (ih6 _ (by omega) T21 hHT21 hFT21 (z33) ((v5 + 1)) (by omega) (by omega) (by first | assumption | exact (by assumption : TX T21)) rfl) (And.intro rfl (And.intro rfl (And.intro rfl (And.intro rfl (And.intro rfl (And.intro rfl (True.intro)))))))
                  · refine l_aload_n rfl rfl ?_
                    refine l_gfr rfl rfl rfl rfl rfl (hHT21.r 891 0 876 rfl) ?_
                    refine l_iconst rfl ?_
                    refine l_iload rfl rfl ?_
                    refine l_callV rfl rfl rfl (t_to_wrong hHT21 5 v5 ⟨by omega, by omega⟩ ⟨by omega, by omega⟩ _) ?_
                    rintro _ T22 ⟨hHT22, w159, z158, rfl, w158, w156, w157⟩
                    have hFT22 : FR md_re_doAdjective S T22 := FR.tr hFT21 w159 rfl
                    show Rl _ _ _ _ _ [iv z158] _ _
                    refine l_ireturn rfl (retI_z (by omega)) ?_
                    have w160 : 0 ≤ Xi T22 876 8 ∧ Xi T22 876 8 ≤ 9 := hHT22.c _ _
                    exact ⟨hHT22, hFT22, _, rfl, ⟨by omega, by omega⟩, (by first | assumption | exact (TX_FR w159 rfl (by assumption : TX T21))), (by first | assumption | omega)⟩
          · refine l_goto rfl rfl ?_
            refine l_iinc rfl rfl rfl rfl ?_
            refine l_goto rfl rfl ?_
            exact Rl_weak (ih6 _ (by omega) T1 hHT1 hFT1 (v4) ((v5 + 1)) (by omega) (by omega) (by first | assumption | exact (by assumption : TX T1)) rfl) (And.intro rfl (And.intro rfl (And.intro rfl (And.intro rfl (And.intro rfl (And.intro rfl (True.intro)))))))
  refine l_iconst rfl ?_
  refine l_istore rfl rfl rfl ?_
  refine l_iconst rfl ?_
  refine l_istore rfl rfl rfl ?_
  exact Rl_weak (C6 _ S hH hF ((-1)) (0) (by omega) (by omega) (by first | assumption | exact (by assumption : TX S)) rfl) (And.intro rfl (And.intro rfl (And.intro rfl (And.intro rfl (And.intro rfl (And.intro rfl (True.intro)))))))
def md_re_tellUsually : List rec := [(25, 65, 0, 100000), (66, 106, 0, 100000), (107, 147, 0, 100000), (148, 188, 0, 100000), (876, 877, 8, 9), (876, 877, 9, 10), (895, 896, 8, 9), (895, 896, 9, 10)]
abbrev Q_re_tellUsually (S : sS) : pst := fun r S1 => HI S1 ∧ FR md_re_tellUsually S S1 ∧ (∃ z : Int, r = some (iv z) ∧ (0 ≤ z ∧ z ≤ 1) ∧ (z = 1 → WI S1) ∧ (z = 0 → Xi S1 876 8 ≠ 0))
set_option maxRecDepth 100000 in
theorem t_re_tellUsually {S : sS} (hH : HI S) (hW : WI S) (d : Nat) : Mt lay0 (d + 4) m_re_tellUsually [.ref 891] S (Q_re_tellUsually S) := by
  refine Mt_R rfl rfl ?_
  have hF : FR md_re_tellUsually S S := FR.rf
  have hL := hW.1
  have hX := hW.2.1
  refine l_aload_n rfl rfl ?_
  refine l_gfr rfl rfl rfl rfl rfl (hH.r 891 0 876 rfl) ?_
  refine l_iconst rfl ?_
  have w1 : 0 ≤ Xi S 876 7 ∧ Xi S 876 7 ≤ 5125 := hH.c _ _
  refine l_callV rfl rfl rfl (t_to_behindArt hH 0 ⟨by omega, by omega⟩ _) ?_
  rintro _ _ ⟨rfl, z3, rfl, w3, w2⟩
  show Rl _ _ _ _ _ [iv z3] _ _
  refine l_istore_n rfl rfl rfl ?_
  refine l_aload_n rfl rfl ?_
  refine l_gfr rfl rfl rfl rfl rfl (hH.r 891 4 895 rfl) ?_
  refine l_iconst rfl ?_
  refine l_iload_n rfl rfl ?_
  refine l_aload_n rfl rfl ?_
  refine l_gfr rfl rfl rfl rfl rfl (hH.r 891 0 876 rfl) ?_
  refine l_iload_n rfl rfl ?_
  refine l_callV rfl rfl rfl (t_to_runEnd hH z3 ⟨by omega, by omega⟩ _) ?_
  rintro _ _ ⟨rfl, z12, rfl, w12, w5, w6, w7, w8, w9, w10, w11⟩
  clear w7 w8 w9 w10
  show Rl _ _ _ _ _ [iv z12, iv z3, iv 0, .ref 895] _ _
  refine l_callV rfl rfl rfl (t_me_find hH 0 z3 z12 ⟨by omega, by omega⟩ ⟨by omega, by omega⟩ ⟨by omega, by omega⟩ (by first | assumption | exact (LEX_FR hF rfl rfl (by assumption : LEX S))) _) ?_
  rintro _ _ ⟨rfl, z16, rfl, w16, w13, w14, w15⟩
  have w17 : z16 ≠ -1 → _ := fun h => fb0 hH (w13 h)
  clear w14
  show Rl _ _ _ _ _ [iv z16] _ _
  refine l_istore_n rfl rfl rfl ?_
  refine l_aload_n rfl rfl ?_
  refine l_gfr rfl rfl rfl rfl rfl (hH.r 891 1 890 rfl) ?_
  refine l_gfi rfl rfl rfl rfl rfl ?_
  have w18 : -1 ≤ (Xi S 890 3) ∧ (Xi S 890 3) ≤ 5124 := hH.c _ _
  refine l_iconst rfl ?_
  refine l_iadd rfl ?_
  refine l_istore_n rfl rfl rfl ?_
  refine l_iload_n rfl rfl ?_
  refine l_iconst rfl ?_
  refine l_icmp_eq rfl rfl (by unfold rg; omega) (by unfold rg; omega) (fun w19 => ?_) (fun w20 => ?_)
  · refine l_aload_n rfl rfl ?_
    refine l_gfr rfl rfl rfl rfl rfl (hH.r 891 0 876 rfl) ?_
    refine l_iconst rfl ?_
    refine l_iload_n rfl rfl ?_
    refine l_iconst rfl ?_
    refine l_icmp_ne rfl rfl (by unfold rg; omega) (by unfold rg; omega) (fun w21 => ?_) (fun w22 => ?_)
    · refine l_aload_n rfl rfl ?_
      refine l_callV rfl rfl rfl (t_re_secondName hH _) ?_
      rintro _ _ ⟨rfl, z23, rfl, w23⟩
      show Rl _ _ _ _ _ [iv z23, iv 4, .ref 876] _ _
      refine l_callV rfl rfl rfl (t_to_wrong hH 4 z23 ⟨by omega, by omega⟩ ⟨by omega, by omega⟩ _) ?_
      rintro _ T1 ⟨hHT1, w27, z26, rfl, w26, w24, w25⟩
      have hFT1 : FR md_re_tellUsually S T1 := FR.tr hF w27 rfl
      show Rl _ _ _ _ _ [iv z26] _ _
      refine l_ireturn rfl (retI_z (by omega)) ?_
      have w28 : 0 ≤ Xi T1 876 8 ∧ Xi T1 876 8 ≤ 9 := hHT1.c _ _
      exact ⟨hHT1, hFT1, _, rfl, ⟨by omega, by omega⟩, (by first | (intro hz; omega) | (intro _; assumption) | (intro _; exact (WI_FR hH w27 rfl rfl rfl rfl rfl rfl rfl rfl rfl (by assumption : WI S)))), (by omega)⟩
    · refine l_iload_n rfl rfl ?_
      refine l_goto rfl rfl ?_
      refine l_callV rfl rfl rfl (t_to_wrong hH 4 z3 ⟨by omega, by omega⟩ ⟨by omega, by omega⟩ _) ?_
      rintro _ T2 ⟨hHT2, w32, z31, rfl, w31, w29, w30⟩
      have hFT2 : FR md_re_tellUsually S T2 := FR.tr hF w32 rfl
      show Rl _ _ _ _ _ [iv z31] _ _
      refine l_ireturn rfl (retI_z (by omega)) ?_
      have w33 : 0 ≤ Xi T2 876 8 ∧ Xi T2 876 8 ≤ 9 := hHT2.c _ _
      exact ⟨hHT2, hFT2, _, rfl, ⟨by omega, by omega⟩, (by first | (intro hz; omega) | (intro _; assumption) | (intro _; exact (WI_FR hH w32 rfl rfl rfl rfl rfl rfl rfl rfl rfl (by assumption : WI S)))), (by omega)⟩
  · refine l_aload_n rfl rfl ?_
    refine l_callV rfl rfl rfl (t_re_secondName hH _) ?_
    rintro _ _ ⟨rfl, z34, rfl, w34⟩
    show Rl _ _ _ _ _ [iv z34] _ _
    refine l_iconst rfl ?_
    refine l_icmp_eq rfl rfl (by unfold rg; omega) (by unfold rg; omega) (fun w35 => ?_) (fun w36 => ?_)
    · refine l_aload_n rfl rfl ?_
      refine l_gfr rfl rfl rfl rfl rfl (hH.r 891 4 895 rfl) ?_
      refine l_iload_n rfl rfl ?_
      refine l_iload_n rfl rfl ?_
      refine l_aload_n rfl rfl ?_
      refine l_gfr rfl rfl rfl rfl rfl (hH.r 891 0 876 rfl) ?_
      refine l_iload_n rfl rfl ?_
      refine l_callV rfl rfl rfl (t_to_runEnd hH ((Xi S 890 3) + 2) ⟨by omega, by omega⟩ _) ?_
      rintro _ _ ⟨rfl, z45, rfl, w45, w38, w39, w40, w41, w42, w43, w44⟩
      clear w40 w41 w42 w43
      show Rl _ _ _ _ _ [iv z45, iv ((Xi S 890 3) + 2), iv z16, .ref 895] _ _
      refine l_iconst rfl ?_
      refine l_iconst rfl ?_
      have w46 : 0 ≤ Xi S 5 3 ∧ Xi S 5 3 ≤ 24 := hH.c _ _
      refine l_callV rfl rfl rfl (t_me_readAdjective hH z16 ((Xi S 890 3) + 2) z45 1 0 ⟨by omega, by omega⟩ ⟨by omega, by omega⟩ ⟨by omega, by omega⟩ ⟨by omega, by omega⟩ ⟨by omega, by omega⟩ (by first | assumption | exact (LEX_FR hF rfl rfl (by assumption : LEX S))) _) ?_
      rintro _ T3 ⟨hHT3, w50, z49, rfl, w49, w47, w48⟩
      have hFT3 : FR md_re_tellUsually S T3 := FR.tr hF w50 rfl
      show Rl _ _ _ _ _ [iv z49] _ _
      have h53 : 0 ≤ Xi S 5 3 ∧ Xi S 5 3 ≤ 24 := hH.c _ _
      refine l_istore rfl rfl rfl ?_
      refine l_iload rfl rfl ?_
      refine l_iconst rfl ?_
      refine l_icmp_eq rfl rfl (by unfold rg; omega) (by unfold rg; omega) (fun w51 => ?_) (fun w52 => ?_)
      · refine l_aload_n rfl rfl ?_
        refine l_bipush rfl rfl ?_
        refine l_iload_n rfl rfl ?_
        refine l_iadd rfl ?_
        refine l_aload_n rfl rfl ?_
        refine l_gfr rfl rfl rfl rfl rfl (hHT3.r 891 4 895 rfl) ?_
        refine l_gfi rfl rfl rfl rfl rfl ?_
        have w53 : 0 ≤ (Xi T3 895 8) ∧ (Xi T3 895 8) ≤ 255 := hHT3.c _ _
        refine l_aload_n rfl rfl ?_
        refine l_gfr rfl rfl rfl rfl rfl (hHT3.r 891 4 895 rfl) ?_
        refine l_gfi rfl rfl rfl rfl rfl ?_
        have w54 : -1 ≤ (Xi T3 895 9) ∧ (Xi T3 895 9) ≤ 11 := hHT3.c _ _
        refine l_iconst rfl ?_
        have hWp : WI T3 := (WI_FR hH w50 rfl rfl rfl rfl rfl rfl rfl rfl rfl (by assumption : WI S))
        have hHp := hHT3
        refine l_callV rfl rfl rfl (t_re_tellOne hHT3 (24 + z16) (Xi T3 895 8) (Xi T3 895 9) 1 ⟨by omega, by omega⟩ ⟨by omega, by omega⟩ ⟨by omega, by omega⟩ ⟨by omega, by omega⟩ (by first | assumption | exact (TX_FR w50 rfl (by assumption : TX S))) (by first | assumption | omega) _) ?_
        rintro _ T4 ⟨hHT4, w57, z56, rfl, w56, w55⟩
        have hFT4 : FR md_re_tellUsually S T4 := FR.tr hFT3 w57 rfl
        show Rl _ _ _ _ _ [iv z56] _ _
        have hWq : WI T4 := WI_x hHp (by assumption : FR md_re_tellOne T3 T4) rfl rfl rfl rfl rfl rfl rfl rfl (by assumption) hWp
        refine l_if_ne rfl rfl (by unfold rg; omega) (fun w58 => ?_) (fun w59 => ?_)
        · refine l_iconst rfl ?_
          refine l_goto rfl rfl ?_
          refine l_ireturn rfl rfl ?_
          have w60 : Xi T4 876 8 = Xi S 876 8 := (show Xi T4 876 8 = Xi T3 876 8 from w57.x _ _ rfl).trans ((show Xi T3 876 8 = Xi S 876 8 from w50.x _ _ rfl))
          have w61 : 0 ≤ Xi S 876 8 ∧ Xi S 876 8 ≤ 9 := hH.c _ _
          exact ⟨hHT4, hFT4, _, rfl, ⟨by omega, by omega⟩, (by first | (intro hz; omega) | (intro _; assumption) | (intro _; exact (by assumption : WI T4))), (by omega)⟩
        · refine l_aload_n rfl rfl ?_
          refine l_gfr rfl rfl rfl rfl rfl (hHT4.r 891 0 876 rfl) ?_
          refine l_iconst rfl ?_
          refine l_iload_n rfl rfl ?_
          refine l_callV rfl rfl rfl (t_to_wrong hHT4 5 z3 ⟨by omega, by omega⟩ ⟨by omega, by omega⟩ _) ?_
          rintro _ T5 ⟨hHT5, w65, z64, rfl, w64, w62, w63⟩
          have hFT5 : FR md_re_tellUsually S T5 := FR.tr hFT4 w65 rfl
          show Rl _ _ _ _ _ [iv z64] _ _
          refine l_if_eq rfl rfl (by unfold rg; omega) (fun w66 => ?_) (fun w67 => ?_)
          · refine l_iconst rfl ?_
            refine l_ireturn rfl rfl ?_
            have w68 : 0 ≤ Xi T5 876 8 ∧ Xi T5 876 8 ≤ 9 := hHT5.c _ _
            exact ⟨hHT5, hFT5, _, rfl, ⟨by omega, by omega⟩, (by first | (intro hz; omega) | (intro _; assumption) | (intro _; exact (WI_FR hHT4 w65 rfl rfl rfl rfl rfl rfl rfl rfl rfl (by assumption : WI T4)))), (by omega)⟩
          · refine l_iconst rfl ?_
            refine l_goto rfl rfl ?_
            refine l_ireturn rfl rfl ?_
            have w69 : 0 ≤ Xi T5 876 8 ∧ Xi T5 876 8 ≤ 9 := hHT5.c _ _
            exact ⟨hHT5, hFT5, _, rfl, ⟨by omega, by omega⟩, (by first | (intro hz; omega) | (intro _; assumption) | (intro _; exact (WI_FR hHT4 w65 rfl rfl rfl rfl rfl rfl rfl rfl rfl (by assumption : WI T4)))), (by omega)⟩
      · refine l_aload_n rfl rfl ?_
        refine l_gfr rfl rfl rfl rfl rfl (hHT3.r 891 0 876 rfl) ?_
        refine l_iload rfl rfl ?_
        refine l_if_ne rfl rfl (by unfold rg; omega) (fun w70 => ?_) (fun w71 => ?_)
        · refine l_bipush rfl rfl ?_
          refine l_iload_n rfl rfl ?_
          refine l_callV rfl rfl rfl (t_to_wrong hHT3 7 ((Xi S 890 3) + 2) ⟨by omega, by omega⟩ ⟨by omega, by omega⟩ _) ?_
          rintro _ T6 ⟨hHT6, w75, z74, rfl, w74, w72, w73⟩
          have hFT6 : FR md_re_tellUsually S T6 := FR.tr hFT3 w75 rfl
          show Rl _ _ _ _ _ [iv z74] _ _
          refine l_ireturn rfl (retI_z (by omega)) ?_
          have w76 : 0 ≤ Xi T6 876 8 ∧ Xi T6 876 8 ≤ 9 := hHT6.c _ _
          exact ⟨hHT6, hFT6, _, rfl, ⟨by omega, by omega⟩, (by first | (intro hz; omega) | (intro _; assumption) | (intro _; exact (WI_FR hHT3 w75 rfl rfl rfl rfl rfl rfl rfl rfl rfl (WI_FR hH w50 rfl rfl rfl rfl rfl rfl rfl rfl rfl (by assumption : WI S))))), (by omega)⟩
        · refine l_iconst rfl ?_
          refine l_goto rfl rfl ?_
          refine l_iload_n rfl rfl ?_
          refine l_callV rfl rfl rfl (t_to_wrong hHT3 4 ((Xi S 890 3) + 2) ⟨by omega, by omega⟩ ⟨by omega, by omega⟩ _) ?_
          rintro _ T7 ⟨hHT7, w80, z79, rfl, w79, w77, w78⟩
          have hFT7 : FR md_re_tellUsually S T7 := FR.tr hFT3 w80 rfl
          show Rl _ _ _ _ _ [iv z79] _ _
          refine l_ireturn rfl (retI_z (by omega)) ?_
          have w81 : 0 ≤ Xi T7 876 8 ∧ Xi T7 876 8 ≤ 9 := hHT7.c _ _
          exact ⟨hHT7, hFT7, _, rfl, ⟨by omega, by omega⟩, (by first | (intro hz; omega) | (intro _; assumption) | (intro _; exact (WI_FR hHT3 w80 rfl rfl rfl rfl rfl rfl rfl rfl rfl (WI_FR hH w50 rfl rfl rfl rfl rfl rfl rfl rfl rfl (by assumption : WI S))))), (by omega)⟩
    · refine l_aload_n rfl rfl ?_
      refine l_gfr rfl rfl rfl rfl rfl (hH.r 891 0 876 rfl) ?_
      refine l_iconst rfl ?_
      refine l_iload_n rfl rfl ?_
      refine l_iconst rfl ?_
      refine l_icmp_ne rfl rfl (by unfold rg; omega) (by unfold rg; omega) (fun w82 => ?_) (fun w83 => ?_)
      · refine l_aload_n rfl rfl ?_
        refine l_callV rfl rfl rfl (t_re_secondName hH _) ?_
        rintro _ _ ⟨rfl, z84, rfl, w84⟩
        show Rl _ _ _ _ _ [iv z84, iv 4, .ref 876] _ _
        refine l_callV rfl rfl rfl (t_to_wrong hH 4 z84 ⟨by omega, by omega⟩ ⟨by omega, by omega⟩ _) ?_
        rintro _ T8 ⟨hHT8, w88, z87, rfl, w87, w85, w86⟩
        have hFT8 : FR md_re_tellUsually S T8 := FR.tr hF w88 rfl
        show Rl _ _ _ _ _ [iv z87] _ _
        refine l_ireturn rfl (retI_z (by omega)) ?_
        have w89 : 0 ≤ Xi T8 876 8 ∧ Xi T8 876 8 ≤ 9 := hHT8.c _ _
        exact ⟨hHT8, hFT8, _, rfl, ⟨by omega, by omega⟩, (by first | (intro hz; omega) | (intro _; assumption) | (intro _; exact (WI_FR hH w88 rfl rfl rfl rfl rfl rfl rfl rfl rfl (by assumption : WI S)))), (by omega)⟩
      · refine l_iload_n rfl rfl ?_
        refine l_goto rfl rfl ?_
        refine l_callV rfl rfl rfl (t_to_wrong hH 4 z3 ⟨by omega, by omega⟩ ⟨by omega, by omega⟩ _) ?_
        rintro _ T9 ⟨hHT9, w93, z92, rfl, w92, w90, w91⟩
        have hFT9 : FR md_re_tellUsually S T9 := FR.tr hF w93 rfl
        show Rl _ _ _ _ _ [iv z92] _ _
        refine l_ireturn rfl (retI_z (by omega)) ?_
        have w94 : 0 ≤ Xi T9 876 8 ∧ Xi T9 876 8 ≤ 9 := hHT9.c _ _
        exact ⟨hHT9, hFT9, _, rfl, ⟨by omega, by omega⟩, (by first | (intro hz; omega) | (intro _; assumption) | (intro _; exact (WI_FR hH w93 rfl rfl rfl rfl rfl rfl rfl rfl rfl (by assumption : WI S)))), (by omega)⟩
def md_re_tellProperty : List rec := [(66, 106, 0, 100000), (107, 147, 0, 100000), (148, 188, 0, 100000), (876, 877, 8, 9), (876, 877, 9, 10), (895, 896, 10, 11), (895, 896, 11, 12)]
abbrev Q_re_tellProperty (S : sS) : pst := fun r S1 => HI S1 ∧ FR md_re_tellProperty S S1 ∧ (∃ z : Int, r = some (iv z) ∧ (0 ≤ z ∧ z ≤ 1) ∧ (z = 1 → WI S1) ∧ (z = 0 → Xi S1 876 8 ≠ 0))
set_option maxRecDepth 100000 in
theorem t_re_tellProperty {S : sS} (hH : HI S) (hW : WI S) (hT : TOK S) (hS : SRX S) (d : Nat) : Mt lay0 (d + 3) m_re_tellProperty [.ref 891] S (Q_re_tellProperty S) := by
  refine Mt_R rfl rfl ?_
  have hF : FR md_re_tellProperty S S := FR.rf
  have hL := hW.1
  have hX := hW.2.1
  have hc0 : 0 ≤ Xi S 5 0 ∧ Xi S 5 0 ≤ 16 := hH.c _ _
  have hc2 : 0 ≤ Xi S 5 2 ∧ Xi S 5 2 ≤ 24 := hH.c _ _
  have C102 : ∀  (v1 : Int) (v2 : Int) (v5 : Int) (v6 : Int), (1 ≤ v1 ∧ v1 ≤ 5125) → (2 ≤ v2 ∧ v2 ≤ 5127) → (-1 ≤ v5 ∧ v5 ≤ 39) → (-1 ≤ v6 ∧ v6 ≤ 15) → (-1 ≤ v5 ∧ v5 ≤ 39) → (-1 ≤ v6 ∧ v6 ≤ 15) → Rl lay0 (d + 2) m_re_tellProperty 102 [(0, .ref 891), (1, iv v1), (2, iv v2), (5, iv v5), (6, iv v6)] [] S (Q_re_tellProperty S) := by
    intro v1 v2 v5 v6 w1 w2 w3 w4 w5 w6
    refine l_aload_n rfl rfl ?_
    refine l_gfr rfl rfl rfl rfl rfl (hH.r 891 4 895 rfl) ?_
    refine l_iconst rfl ?_
    refine l_iload_n rfl rfl ?_
    refine l_iload rfl rfl ?_
    refine l_iconst rfl ?_
    refine l_callV rfl rfl rfl (t_me_readProperty hH 1 v1 v6 0 ⟨by omega, by omega⟩ ⟨by omega, by omega⟩ ⟨by omega, by omega⟩ ⟨by omega, by omega⟩ (by first | assumption | exact (LEX_FR hF rfl rfl (by assumption : LEX S))) _) ?_
    rintro _ T1 ⟨hHT1, w10, z9, rfl, w9, w7, w8⟩
    have hFT1 : FR md_re_tellProperty S T1 := FR.tr hF w10 rfl
    show Rl _ _ _ _ _ [iv z9] _ _
    refine l_istore rfl rfl rfl ?_
    refine l_iload rfl rfl ?_
    refine l_iconst rfl ?_
    refine l_icmp_ne rfl rfl (by unfold rg; omega) (by unfold rg; omega) (fun w11 => ?_) (fun w12 => ?_)
    · refine l_iload rfl rfl ?_
      refine l_iconst rfl ?_
      refine l_icmp_ne rfl rfl (by unfold rg; omega) (by unfold rg; omega) (fun w13 => ?_) (fun w14 => ?_)
      · refine l_aload_n rfl rfl ?_
        refine l_gfr rfl rfl rfl rfl rfl (hHT1.r 891 4 895 rfl) ?_
        refine l_aload_n rfl rfl ?_
        refine l_gfr rfl rfl rfl rfl rfl (hHT1.r 891 1 890 rfl) ?_
        refine l_gfi rfl rfl rfl rfl rfl ?_
        have w15 : -1 ≤ (Xi T1 890 3) ∧ (Xi T1 890 3) ≤ 5124 := hHT1.c _ _
        refine l_iconst rfl ?_
        refine l_iadd rfl ?_
        refine l_aload_n rfl rfl ?_
        refine l_gfr rfl rfl rfl rfl rfl (hHT1.r 891 2 1 rfl) ?_
        refine l_gfr rfl rfl rfl rfl rfl (hHT1.r 1 8 9 rfl) ?_
        refine l_iload rfl rfl ?_
        refine l_iaload (n := 12) rfl rfl (by omega) (by omega) (by unfold rg; omega) ?_
        have w16 : 0 ≤ (Xi T1 9 ((z9).toNat)) ∧ (Xi T1 9 ((z9).toNat)) ≤ 7 := hHT1.c _ _
        refine l_callV rfl rfl rfl (t_me_readWhat hHT1 ((Xi T1 890 3) + 1) (Xi T1 9 ((z9).toNat)) ⟨by omega, by omega⟩ ⟨by omega, by omega⟩ (by first | assumption | exact (LEX_FR hFT1 rfl rfl (by assumption : LEX S))) (by first | assumption | exact (TOK_FR hFT1 rfl rfl rfl (by assumption : TOK S))) (by first | assumption | exact (SRX_FR hFT1 rfl (by assumption : SRX S))) _) ?_
        rintro _ T2 ⟨hHT2, w20, z19, rfl, w19, w17, w18⟩
        have hFT2 : FR md_re_tellProperty S T2 := FR.tr hFT1 w20 rfl
        show Rl _ _ _ _ _ [iv z19] _ _
        refine l_if_eq rfl rfl (by unfold rg; omega) (fun w21 => ?_) (fun w22 => ?_)
        · refine l_iconst rfl ?_
          refine l_ireturn rfl rfl ?_
          have w23 : 0 ≤ Xi T2 876 8 ∧ Xi T2 876 8 ≤ 9 := hHT2.c _ _
          exact ⟨hHT2, hFT2, _, rfl, ⟨by omega, by omega⟩, (by first | (intro hz; omega) | (intro _; assumption) | (intro _; exact (WI_FR hHT1 w20 rfl rfl rfl rfl rfl rfl rfl rfl rfl (WI_FR hH w10 rfl rfl rfl rfl rfl rfl rfl rfl rfl (by assumption : WI S))))), (by omega)⟩
        · refine l_aload_n rfl rfl ?_
          refine l_gfr rfl rfl rfl rfl rfl (hHT2.r 891 3 20 rfl) ?_
          refine l_iload rfl rfl ?_
          refine l_iload rfl rfl ?_
          refine l_aload_n rfl rfl ?_
          refine l_gfr rfl rfl rfl rfl rfl (hHT2.r 891 4 895 rfl) ?_
          refine l_gfi rfl rfl rfl rfl rfl ?_
          have w24 : -2147483648 ≤ (Xi T2 895 10) ∧ (Xi T2 895 10) ≤ 2147483647 := Xi_rgI
          refine l_aload_n rfl rfl ?_
          refine l_gfr rfl rfl rfl rfl rfl (hHT2.r 891 4 895 rfl) ?_
          refine l_gfi rfl rfl rfl rfl rfl ?_
          have w25 : -2147483648 ≤ (Xi T2 895 11) ∧ (Xi T2 895 11) ≤ 2147483647 := Xi_rgI
          have hWp : WI T2 := (WI_FR hHT1 w20 rfl rfl rfl rfl rfl rfl rfl rfl rfl (WI_FR hH w10 rfl rfl rfl rfl rfl rfl rfl rfl rfl (by assumption : WI S)))
          have hHp := hHT2
          refine l_callV rfl rfl rfl (t_wo_tellProperty hHT2 v5 z9 (Xi T2 895 10) (Xi T2 895 11) ⟨by omega, by omega⟩ ⟨by omega, by omega⟩ ⟨by omega, by omega⟩ ⟨by omega, by omega⟩ (by first | assumption | exact (TX_FR w20 rfl (TX_FR w10 rfl (by assumption : TX S)))) (by apply_assumption; omega) _) ?_
          rintro _ T3 ⟨hHT3, w28, z27, rfl, w27, w26⟩
          have hFT3 : FR md_re_tellProperty S T3 := FR.tr hFT2 w28 rfl
          show Rl _ _ _ _ _ [iv z27] _ _
          have hWq : WI T3 := WI_x hHp (by assumption : FR md_wo_tellProperty T2 T3) rfl rfl rfl rfl rfl rfl rfl rfl (by assumption) hWp
          refine l_if_ne rfl rfl (by unfold rg; omega) (fun w29 => ?_) (fun w30 => ?_)
          · refine l_iconst rfl ?_
            refine l_goto rfl rfl ?_
            refine l_ireturn rfl rfl ?_
            have w31 : Xi T3 876 8 = Xi T2 876 8 := (show Xi T3 876 8 = Xi T2 876 8 from w28.x _ _ rfl)
            have w32 : 0 ≤ Xi T2 876 8 ∧ Xi T2 876 8 ≤ 9 := hHT2.c _ _
            exact ⟨hHT3, hFT3, _, rfl, ⟨by omega, by omega⟩, (by first | (intro hz; omega) | (intro _; assumption) | (intro _; exact (by assumption : WI T3))), (by omega)⟩
          · refine l_aload_n rfl rfl ?_
            refine l_gfr rfl rfl rfl rfl rfl (hHT3.r 891 0 876 rfl) ?_
            refine l_iconst rfl ?_
            refine l_iload_n rfl rfl ?_
            refine l_callV rfl rfl rfl (t_to_wrong hHT3 5 v2 ⟨by omega, by omega⟩ ⟨by omega, by omega⟩ _) ?_
            rintro _ T4 ⟨hHT4, w36, z35, rfl, w35, w33, w34⟩
            have hFT4 : FR md_re_tellProperty S T4 := FR.tr hFT3 w36 rfl
            show Rl _ _ _ _ _ [iv z35] _ _
            refine l_if_eq rfl rfl (by unfold rg; omega) (fun w37 => ?_) (fun w38 => ?_)
            · refine l_iconst rfl ?_
              refine l_ireturn rfl rfl ?_
              have w39 : 0 ≤ Xi T4 876 8 ∧ Xi T4 876 8 ≤ 9 := hHT4.c _ _
              exact ⟨hHT4, hFT4, _, rfl, ⟨by omega, by omega⟩, (by first | (intro hz; omega) | (intro _; assumption) | (intro _; exact (WI_FR hHT3 w36 rfl rfl rfl rfl rfl rfl rfl rfl rfl (by assumption : WI T3)))), (by omega)⟩
            · refine l_iconst rfl ?_
              refine l_goto rfl rfl ?_
              refine l_ireturn rfl rfl ?_
              have w40 : 0 ≤ Xi T4 876 8 ∧ Xi T4 876 8 ≤ 9 := hHT4.c _ _
              exact ⟨hHT4, hFT4, _, rfl, ⟨by omega, by omega⟩, (by first | (intro hz; omega) | (intro _; assumption) | (intro _; exact (WI_FR hHT3 w36 rfl rfl rfl rfl rfl rfl rfl rfl rfl (by assumption : WI T3)))), (by omega)⟩
      · refine l_aload_n rfl rfl ?_
        refine l_gfr rfl rfl rfl rfl rfl (hHT1.r 891 0 876 rfl) ?_
        refine l_iconst rfl ?_
        refine l_iload_n rfl rfl ?_
        refine l_callV rfl rfl rfl (t_to_wrong hHT1 4 v2 ⟨by omega, by omega⟩ ⟨by omega, by omega⟩ _) ?_
        rintro _ T5 ⟨hHT5, w44, z43, rfl, w43, w41, w42⟩
        have hFT5 : FR md_re_tellProperty S T5 := FR.tr hFT1 w44 rfl
        show Rl _ _ _ _ _ [iv z43] _ _
        refine l_ireturn rfl (retI_z (by omega)) ?_
        have w45 : 0 ≤ Xi T5 876 8 ∧ Xi T5 876 8 ≤ 9 := hHT5.c _ _
        exact ⟨hHT5, hFT5, _, rfl, ⟨by omega, by omega⟩, (by first | (intro hz; omega) | (intro _; assumption) | (intro _; exact (WI_FR hHT1 w44 rfl rfl rfl rfl rfl rfl rfl rfl rfl (WI_FR hH w10 rfl rfl rfl rfl rfl rfl rfl rfl rfl (by assumption : WI S))))), (by omega)⟩
    · refine l_iconst rfl ?_
      refine l_ireturn rfl rfl ?_
      have w46 : 0 ≤ Xi T1 876 8 ∧ Xi T1 876 8 ≤ 9 := hHT1.c _ _
      exact ⟨hHT1, hFT1, _, rfl, ⟨by omega, by omega⟩, (by first | (intro hz; omega) | (intro _; assumption) | (intro _; exact (WI_FR hH w10 rfl rfl rfl rfl rfl rfl rfl rfl rfl (by assumption : WI S)))), (by omega)⟩
  refine l_aload_n rfl rfl ?_
  refine l_gfr rfl rfl rfl rfl rfl (hH.r 891 0 876 rfl) ?_
  refine l_iconst rfl ?_
  have w47 : 0 ≤ Xi S 876 7 ∧ Xi S 876 7 ≤ 5125 := hH.c _ _
  refine l_callV rfl rfl rfl (t_to_runEnd hH 1 ⟨by omega, by omega⟩ _) ?_
  rintro _ _ ⟨rfl, z55, rfl, w55, w48, w49, w50, w51, w52, w53, w54⟩
  clear w50 w51 w52 w53
  show Rl _ _ _ _ _ [iv z55] _ _
  refine l_istore_n rfl rfl rfl ?_
  refine l_aload_n rfl rfl ?_
  refine l_gfr rfl rfl rfl rfl rfl (hH.r 891 0 876 rfl) ?_
  refine l_iload_n rfl rfl ?_
  refine l_iconst rfl ?_
  refine l_iadd rfl ?_
  refine l_callV rfl rfl rfl (t_to_behindArt hH (z55 + 1) ⟨by omega, by omega⟩ _) ?_
  rintro _ _ ⟨rfl, z58, rfl, w58, w57⟩
  show Rl _ _ _ _ _ [iv z58] _ _
  refine l_istore_n rfl rfl rfl ?_
  refine l_aload_n rfl rfl ?_
  refine l_gfr rfl rfl rfl rfl rfl (hH.r 891 2 1 rfl) ?_
  refine l_aload_n rfl rfl ?_
  refine l_gfr rfl rfl rfl rfl rfl (hH.r 891 0 876 rfl) ?_
  refine l_gfr rfl rfl rfl rfl rfl (hH.r 876 2 879 rfl) ?_
  refine l_iload_n rfl rfl ?_
  refine l_aload_n rfl rfl ?_
  refine l_gfr rfl rfl rfl rfl rfl (hH.r 891 0 876 rfl) ?_
  refine l_iload_n rfl rfl ?_
  refine l_callV rfl rfl rfl (t_to_runEnd hH z58 ⟨by omega, by omega⟩ _) ?_
  rintro _ _ ⟨rfl, z67, rfl, w67, w60, w61, w62, w63, w64, w65, w66⟩
  clear w62 w63 w64 w65
  show Rl _ _ _ _ _ [iv z67, iv z58, .ref 879, .ref 1] _ _
  refine l_callV rfl rfl rfl (t_vo_meaning hH 879 5130 z58 z67 rfl ⟨by omega, by omega⟩ ⟨by omega, by omega⟩ ⟨by omega, by omega⟩ (by first | assumption | exact (LEX_FR hF rfl rfl (by assumption : LEX S))) _) ?_
  rintro _ _ ⟨rfl, z71, rfl, w71, w68, w69, w70⟩
  show Rl _ _ _ _ _ [iv z71] _ _
  have hmnz71 := mOK_n (z := z71) (by assumption)
  have hfb0 : z71 / 256 = 0 → z71 % 256 < Xi S 5 0 ∧ 0 ≤ z71 % 256 := fun e => ⟨(fb0 hH (lx (by assumption) e (by omega))).2.2, (fb0 hH (lx (by assumption) e (by omega))).1⟩
  have hfb2 : z71 / 256 = 2 → z71 % 256 < Xi S 5 2 ∧ 0 ≤ z71 % 256 := fun e => ⟨(fb2 hH (lx (by assumption) e (by omega))).2.2, (fb2 hH (lx (by assumption) e (by omega))).1⟩
  refine l_istore_n rfl rfl rfl ?_
  refine l_iload_n rfl rfl ?_
  refine l_sipush rfl rfl ?_
  refine l_iand255 rfl (by unfold rg; omega) ?_
  refine l_istore rfl rfl rfl ?_
  refine l_iconst rfl ?_
  refine l_istore rfl rfl rfl ?_
  refine l_iconst rfl ?_
  refine l_istore rfl rfl rfl ?_
  refine l_iload_n rfl rfl ?_
  refine l_bipush rfl rfl ?_
  refine l_ishr8 rfl (by unfold rg; omega) ?_
  refine l_iconst rfl ?_
  refine l_icmp_ne rfl rfl (by unfold rg; omega) (by unfold rg; omega) (fun w74 => ?_) (fun w75 => ?_)
  · refine l_iload_n rfl rfl ?_
    refine l_bipush rfl rfl ?_
    refine l_ishr8 rfl (by unfold rg; omega) ?_
    refine l_if_ne rfl rfl (by unfold rg; omega) (fun w77 => ?_) (fun w78 => ?_)
    · exact Rl_weak (C102 (z55) (z58) ((-1)) ((-1)) (by omega) (by omega) (by omega) (by omega) (by omega) (by omega)) (And.intro rfl (And.intro rfl (And.intro rfl (And.intro rfl (And.intro rfl (True.intro))))))
    · refine l_bipush rfl rfl ?_
      refine l_iload rfl rfl ?_
      refine l_iadd rfl ?_
      refine l_istore rfl rfl rfl ?_
      refine l_iload rfl rfl ?_
      refine l_istore rfl rfl rfl ?_
      exact Rl_weak (C102 (z55) (z58) ((24 + (z71 % 256))) ((z71 % 256)) (by omega) (by omega) (by omega) (by omega) (by omega) (by omega)) (And.intro rfl (And.intro rfl (And.intro rfl (And.intro rfl (And.intro rfl (True.intro))))))
  · refine l_iload rfl rfl ?_
    refine l_istore rfl rfl rfl ?_
    refine l_aload_n rfl rfl ?_
    refine l_gfr rfl rfl rfl rfl rfl (hH.r 891 3 20 rfl) ?_
    refine l_gfr rfl rfl rfl rfl rfl (hH.r 20 2 21 rfl) ?_
    refine l_iload rfl rfl ?_
    refine l_iaload (n := 24) rfl rfl (by omega) (by omega) (by unfold rg; omega) ?_
    have w79 : 0 ≤ (Xi S 21 (((z71 % 256)).toNat)) ∧ (Xi S 21 (((z71 % 256)).toNat)) ≤ 15 := hH.c _ _
    refine l_istore rfl rfl rfl ?_
    refine l_goto rfl rfl ?_
    exact Rl_weak (C102 (z55) (z58) ((z71 % 256)) ((Xi S 21 (((z71 % 256)).toNat))) (by omega) (by omega) (by omega) (by omega) (by omega) (by omega)) (And.intro rfl (And.intro rfl (And.intro rfl (And.intro rfl (And.intro rfl (True.intro))))))
def md_re_tellPlural : List rec := [(1, 2, 3, 4), (2, 3, 0, 100000), (3, 4, 0, 100000), (4, 5, 0, 100000), (876, 877, 8, 9), (876, 877, 9, 10), (891, 892, 9, 10), (892, 893, 0, 100000), (893, 894, 0, 100000)]
abbrev Q_re_tellPlural (S : sS) : pst := fun r S1 => HI S1 ∧ FR md_re_tellPlural S S1 ∧ (∃ z : Int, r = some (iv z) ∧ (0 ≤ z ∧ z ≤ 1) ∧ (z = 1 → WI S1) ∧ (z = 0 → Xi S1 876 8 ≠ 0))
set_option maxRecDepth 100000 in
theorem t_re_tellPlural {S : sS} (hH : HI S) (hW : WI S) (hn0 : Xi S 891 9 = 0) (d : Nat) : Mt lay0 (d + 3) m_re_tellPlural [.ref 891] S (Q_re_tellPlural S) := by
  refine Mt_R rfl rfl ?_
  have hF : FR md_re_tellPlural S S := FR.rf
  have w1 : 0 ≤ Xi S 5 0 ∧ Xi S 5 0 ≤ 16 := hH.c _ _
  have w2 : 0 ≤ Xi S 5 1 ∧ Xi S 5 1 ≤ 8 := hH.c _ _
  have w3 : 0 ≤ Xi S 891 9 ∧ Xi S 891 9 ≤ 24 := hH.c _ _
  have hL := hW.1
  have hX := hW.2.1
  have C88 : ∀  (v2 : Int) (v3 : Int) (v5 : Int), (3 ≤ v2 ∧ v2 ≤ 5125) → (-1 ≤ v3 ∧ v3 ≤ 3647) → (0 ≤ v5 ∧ v5 ≤ 1) → ((v5 = 1 → v3 / 256 = 0 ∨ v3 / 256 = 11) ∧ (v5 = 0 → v3 / 256 = 1 ∨ v3 / 256 = 12)) → ((v3 / 256 = 0 → v3 % 256 < Xi S 5 0 ∧ 0 ≤ v3 % 256) ∧ (v3 / 256 = 11 → v3 % 256 < Xi S 5 0 ∧ 0 ≤ v3 % 256) ∧ (v3 / 256 = 1 → v3 % 256 < Xi S 5 1 ∧ 0 ≤ v3 % 256) ∧ (v3 / 256 = 12 → v3 % 256 < Xi S 5 1 ∧ 0 ≤ v3 % 256)) → Rl lay0 (d + 2) m_re_tellPlural 88 [(0, .ref 891), (2, iv v2), (3, iv v3), (5, iv v5)] [] S (Q_re_tellPlural S) := by
    intro v2 v3 v5 w4 w5 w6 w7 hf88
    refine l_aload_n rfl rfl ?_
    refine l_gfr rfl rfl rfl rfl rfl (hH.r 891 0 876 rfl) ?_
    refine l_iload_n rfl rfl ?_
    refine l_iconst rfl ?_
    refine l_iadd rfl ?_
    have w10 : 0 ≤ Xi S 876 7 ∧ Xi S 876 7 ≤ 5125 := hH.c _ _
    refine l_callV rfl rfl rfl (t_to_runEnd hH (v2 + 1) ⟨by omega, by omega⟩ _) ?_
    rintro _ _ ⟨rfl, z18, rfl, w18, w11, w12, w13, w14, w15, w16, w17⟩
    clear w13 w14 w15 w16
    show Rl _ _ _ _ _ [iv z18] _ _
    refine l_istore rfl rfl rfl ?_
    refine l_aload_n rfl rfl ?_
    refine l_iload_n rfl rfl ?_
    refine l_iconst rfl ?_
    refine l_iadd rfl ?_
    refine l_iload rfl rfl ?_
    refine l_iconst rfl ?_
    refine l_sipush rfl rfl ?_
    refine l_callV rfl rfl rfl (t_re_takeNew hH (v2 + 1) z18 0 1000 ⟨by omega, by omega⟩ ⟨by omega, by omega⟩ ⟨by omega, by omega⟩ ⟨by omega, by omega⟩ (by first | assumption | exact (by assumption : LEX S)) _) ?_
    rintro _ T1 ⟨hHT1, w28, z27, rfl, w27, w22, w23, w24, w25, w26⟩
    have hFT1 : FR md_re_tellPlural S T1 := FR.tr hF w28 rfl
    show Rl _ _ _ _ _ [iv z27] _ _
    refine l_if_ne rfl rfl (by unfold rg; omega) (fun w29 => ?_) (fun w30 => ?_)
    · refine l_aload_n rfl rfl ?_
      refine l_gfr rfl rfl rfl rfl rfl (hHT1.r 891 2 1 rfl) ?_
      refine l_iload rfl rfl ?_
      refine l_if_eq rfl rfl (by unfold rg; omega) (fun w31 => ?_) (fun w32 => ?_)
      · refine l_bipush rfl rfl ?_
        refine l_iload_n rfl rfl ?_
        refine l_sipush rfl rfl ?_
        refine l_iand255 rfl (by unfold rg; omega) ?_
        refine l_aload_n rfl rfl ?_
        refine l_gfr rfl rfl rfl rfl rfl (hHT1.r 891 0 876 rfl) ?_
        refine l_gfr rfl rfl rfl rfl rfl (hHT1.r 876 2 879 rfl) ?_
        refine l_iload_n rfl rfl ?_
        refine l_iconst rfl ?_
        refine l_iadd rfl ?_
        refine l_iload rfl rfl ?_
        have hWr : WI T1 := (WI_FR hH w28 rfl rfl rfl rfl rfl rfl rfl rfl rfl (by assumption : WI S))
        have hHq := hHT1
        have w34 : Xi T1 1 3 = Xi S 1 3 := (show Xi T1 1 3 = Xi S 1 3 from w28.x _ _ rfl)
        have w35 : 0 ≤ Xi S 1 3 ∧ Xi S 1 3 ≤ 200 := hH.c _ _
        have w36 : Xi T1 5 0 = Xi S 5 0 := (show Xi T1 5 0 = Xi S 5 0 from w28.x _ _ rfl)
        have w38 : Xi T1 5 1 = Xi S 5 1 := (show Xi T1 5 1 = Xi S 5 1 from w28.x _ _ rfl)
        refine l_callV rfl rfl rfl (t_vo_nameIt hHT1 12 (v3 % 256) 879 5130 (v2 + 1) z18 ⟨by omega, by omega⟩ ⟨by omega, by omega⟩ rfl ⟨by omega, by omega⟩ ⟨by omega, by omega⟩ ⟨by omega, by omega⟩ (by first | assumption | exact (LEX_FR w28 rfl rfl (by assumption : LEX S))) (by unfold lexB; omega) (by first | assumption | omega) _) ?_
        rintro _ T2 ⟨hHT2, w44, rfl, w40, w41, w42⟩
        have hFT2 : FR md_re_tellPlural S T2 := FR.tr hFT1 w44 rfl
        show Rl _ _ _ _ _ [] _ _
        have hWm : WI T2 := WI_nm hHq (by assumption : FR md_vo_nameIt T1 T2) (by assumption) (by assumption) hWr
        refine l_iconst rfl ?_
        refine l_ireturn rfl rfl ?_
        have w49 : Xi T2 876 8 = Xi T1 876 8 := (show Xi T2 876 8 = Xi T1 876 8 from w44.x _ _ rfl)
        have w50 : 0 ≤ Xi T1 876 8 ∧ Xi T1 876 8 ≤ 9 := hHT1.c _ _
        exact ⟨hHT2, hFT2, _, rfl, ⟨by omega, by omega⟩, (by first | (intro hz; omega) | (intro _; assumption) | (intro _; exact (by assumption : WI T2))), (by omega)⟩
      · refine l_bipush rfl rfl ?_
        refine l_goto rfl rfl ?_
        refine l_iload_n rfl rfl ?_
        refine l_sipush rfl rfl ?_
        refine l_iand255 rfl (by unfold rg; omega) ?_
        refine l_aload_n rfl rfl ?_
        refine l_gfr rfl rfl rfl rfl rfl (hHT1.r 891 0 876 rfl) ?_
        refine l_gfr rfl rfl rfl rfl rfl (hHT1.r 876 2 879 rfl) ?_
        refine l_iload_n rfl rfl ?_
        refine l_iconst rfl ?_
        refine l_iadd rfl ?_
        refine l_iload rfl rfl ?_
        have hWr : WI T1 := (WI_FR hH w28 rfl rfl rfl rfl rfl rfl rfl rfl rfl (by assumption : WI S))
        have hHq := hHT1
        have w52 : Xi T1 1 3 = Xi S 1 3 := (show Xi T1 1 3 = Xi S 1 3 from w28.x _ _ rfl)
        have w53 : 0 ≤ Xi S 1 3 ∧ Xi S 1 3 ≤ 200 := hH.c _ _
        have w54 : Xi T1 5 0 = Xi S 5 0 := (show Xi T1 5 0 = Xi S 5 0 from w28.x _ _ rfl)
        have w56 : Xi T1 5 1 = Xi S 5 1 := (show Xi T1 5 1 = Xi S 5 1 from w28.x _ _ rfl)
        refine l_callV rfl rfl rfl (t_vo_nameIt hHT1 11 (v3 % 256) 879 5130 (v2 + 1) z18 ⟨by omega, by omega⟩ ⟨by omega, by omega⟩ rfl ⟨by omega, by omega⟩ ⟨by omega, by omega⟩ ⟨by omega, by omega⟩ (by first | assumption | exact (LEX_FR w28 rfl rfl (by assumption : LEX S))) (by unfold lexB; omega) (by first | assumption | omega) _) ?_
        rintro _ T3 ⟨hHT3, w62, rfl, w58, w59, w60⟩
        have hFT3 : FR md_re_tellPlural S T3 := FR.tr hFT1 w62 rfl
        show Rl _ _ _ _ _ [] _ _
        have hWm : WI T3 := WI_nm hHq (by assumption : FR md_vo_nameIt T1 T3) (by assumption) (by assumption) hWr
        refine l_iconst rfl ?_
        refine l_ireturn rfl rfl ?_
        have w67 : Xi T3 876 8 = Xi T1 876 8 := (show Xi T3 876 8 = Xi T1 876 8 from w62.x _ _ rfl)
        have w68 : 0 ≤ Xi T1 876 8 ∧ Xi T1 876 8 ≤ 9 := hHT1.c _ _
        exact ⟨hHT3, hFT3, _, rfl, ⟨by omega, by omega⟩, (by first | (intro hz; omega) | (intro _; assumption) | (intro _; exact (by assumption : WI T3))), (by omega)⟩
    · refine l_iconst rfl ?_
      refine l_ireturn rfl rfl ?_
      have w73 : 0 ≤ Xi T1 876 8 ∧ Xi T1 876 8 ≤ 9 := hHT1.c _ _
      exact ⟨hHT1, hFT1, _, rfl, ⟨by omega, by omega⟩, (by first | (intro hz; omega) | (intro _; assumption) | (intro _; exact (WI_FR hH w28 rfl rfl rfl rfl rfl rfl rfl rfl rfl (by assumption : WI S)))), (by omega)⟩
  refine l_aload_n rfl rfl ?_
  refine l_gfr rfl rfl rfl rfl rfl (hH.r 891 0 876 rfl) ?_
  refine l_iconst rfl ?_
  have w76 : 0 ≤ Xi S 876 7 ∧ Xi S 876 7 ≤ 5125 := hH.c _ _
  refine l_callV rfl rfl rfl (t_to_behindArt hH 3 ⟨by omega, by omega⟩ _) ?_
  rintro _ _ ⟨rfl, z78, rfl, w78, w77⟩
  show Rl _ _ _ _ _ [iv z78] _ _
  refine l_istore_n rfl rfl rfl ?_
  refine l_aload_n rfl rfl ?_
  refine l_gfr rfl rfl rfl rfl rfl (hH.r 891 0 876 rfl) ?_
  refine l_iload_n rfl rfl ?_
  refine l_callV rfl rfl rfl (t_to_runEnd hH z78 ⟨by omega, by omega⟩ _) ?_
  rintro _ _ ⟨rfl, z89, rfl, w89, w82, w83, w84, w85, w86, w87, w88⟩
  clear w84 w85 w86 w87
  show Rl _ _ _ _ _ [iv z89] _ _
  refine l_istore_n rfl rfl rfl ?_
  refine l_aload_n rfl rfl ?_
  refine l_gfr rfl rfl rfl rfl rfl (hH.r 891 2 1 rfl) ?_
  refine l_aload_n rfl rfl ?_
  refine l_gfr rfl rfl rfl rfl rfl (hH.r 891 0 876 rfl) ?_
  refine l_gfr rfl rfl rfl rfl rfl (hH.r 876 2 879 rfl) ?_
  refine l_iload_n rfl rfl ?_
  refine l_iload_n rfl rfl ?_
  refine l_callV rfl rfl rfl (t_vo_meaning hH 879 5130 z78 z89 rfl ⟨by omega, by omega⟩ ⟨by omega, by omega⟩ ⟨by omega, by omega⟩ (by first | assumption | exact (by assumption : LEX S)) _) ?_
  rintro _ _ ⟨rfl, z95, rfl, w95, w92, w93, w94⟩
  show Rl _ _ _ _ _ [iv z95] _ _
  have hmnz95 := mOK_n (z := z95) (by assumption)
  have hfb0 : z95 / 256 = 0 → z95 % 256 < Xi S 5 0 ∧ 0 ≤ z95 % 256 := fun e => ⟨(fb0 hH (lx (by assumption) e (by omega))).2.2, (fb0 hH (lx (by assumption) e (by omega))).1⟩
  have hfb11 : z95 / 256 = 11 → z95 % 256 < Xi S 5 0 ∧ 0 ≤ z95 % 256 := fun e => ⟨(fb11 hH (lx (by assumption) e (by omega))).2.2, (fb11 hH (lx (by assumption) e (by omega))).1⟩
  have hfb1 : z95 / 256 = 1 → z95 % 256 < Xi S 5 1 ∧ 0 ≤ z95 % 256 := fun e => ⟨(fb1 hH (lx (by assumption) e (by omega))).2.2, (fb1 hH (lx (by assumption) e (by omega))).1⟩
  have hfb12 : z95 / 256 = 12 → z95 % 256 < Xi S 5 1 ∧ 0 ≤ z95 % 256 := fun e => ⟨(fb12 hH (lx (by assumption) e (by omega))).2.2, (fb12 hH (lx (by assumption) e (by omega))).1⟩
  refine l_istore_n rfl rfl rfl ?_
  refine l_iload_n rfl rfl ?_
  refine l_bipush rfl rfl ?_
  refine l_ishr8 rfl (by unfold rg; omega) ?_
  refine l_istore rfl rfl rfl ?_
  refine l_iload rfl rfl ?_
  refine l_if_eq rfl rfl (by unfold rg; omega) (fun w97 => ?_) (fun w98 => ?_)
  · refine l_iconst rfl ?_
    refine l_goto rfl rfl ?_
    refine l_istore rfl rfl rfl ?_
    refine l_iload rfl rfl ?_
    refine l_if_ne rfl rfl (by unfold rg; omega) (fun w99 => ?_) (fun w100 => absurd w100 (by omega))
    · have w101 : 0 ≤ Xi S 5 0 ∧ Xi S 5 0 ≤ 16 := hH.c _ _
      exact Rl_weak (C88 (z89) (z95) (1) (by omega) (by omega) (by omega) (by omega) (⟨hfb0, hfb11, hfb1, hfb12⟩)) (And.intro rfl (And.intro rfl (And.intro rfl (And.intro rfl (True.intro)))))
  · refine l_iload rfl rfl ?_
    refine l_bipush rfl rfl ?_
    refine l_icmp_ne rfl rfl (by unfold rg; omega) (by unfold rg; omega) (fun w103 => ?_) (fun w104 => ?_)
    · refine l_iconst rfl ?_
      refine l_istore rfl rfl rfl ?_
      refine l_iload rfl rfl ?_
      refine l_if_ne rfl rfl (by unfold rg; omega) (fun w105 => absurd w105 (by omega)) (fun w106 => ?_)
      · refine l_iload rfl rfl ?_
        refine l_iconst rfl ?_
        refine l_icmp_eq rfl rfl (by unfold rg; omega) (by unfold rg; omega) (fun w107 => ?_) (fun w108 => ?_)
        · have w109 : 0 ≤ Xi S 5 0 ∧ Xi S 5 0 ≤ 16 := hH.c _ _
          exact Rl_weak (C88 (z89) (z95) (0) (by omega) (by omega) (by omega) (by omega) (⟨hfb0, hfb11, hfb1, hfb12⟩)) (And.intro rfl (And.intro rfl (And.intro rfl (And.intro rfl (True.intro)))))
        · refine l_iload rfl rfl ?_
          refine l_bipush rfl rfl ?_
          refine l_icmp_eq rfl rfl (by unfold rg; omega) (by unfold rg; omega) (fun w111 => ?_) (fun w112 => ?_)
          · have w113 : 0 ≤ Xi S 5 0 ∧ Xi S 5 0 ≤ 16 := hH.c _ _
            exact Rl_weak (C88 (z89) (z95) (0) (by omega) (by omega) (by omega) (by omega) (⟨hfb0, hfb11, hfb1, hfb12⟩)) (And.intro rfl (And.intro rfl (And.intro rfl (And.intro rfl (True.intro)))))
          · refine l_aload_n rfl rfl ?_
            refine l_gfr rfl rfl rfl rfl rfl (hH.r 891 0 876 rfl) ?_
            refine l_iconst rfl ?_
            refine l_iload_n rfl rfl ?_
            refine l_callV rfl rfl rfl (t_to_wrong hH 4 z78 ⟨by omega, by omega⟩ ⟨by omega, by omega⟩ _) ?_
            rintro _ T4 ⟨hHT4, w120, z119, rfl, w119, w117, w118⟩
            have hFT4 : FR md_re_tellPlural S T4 := FR.tr hF w120 rfl
            show Rl _ _ _ _ _ [iv z119] _ _
            refine l_ireturn rfl (retI_z (by omega)) ?_
            have w125 : 0 ≤ Xi T4 876 8 ∧ Xi T4 876 8 ≤ 9 := hHT4.c _ _
            exact ⟨hHT4, hFT4, _, rfl, ⟨by omega, by omega⟩, (by first | (intro hz; omega) | (intro _; assumption) | (intro _; exact (WI_FR hH w120 rfl rfl rfl rfl rfl rfl rfl rfl rfl (by assumption : WI S)))), (by omega)⟩
    · refine l_iconst rfl ?_
      refine l_goto rfl rfl ?_
      refine l_istore rfl rfl rfl ?_
      refine l_iload rfl rfl ?_
      refine l_if_ne rfl rfl (by unfold rg; omega) (fun w126 => ?_) (fun w127 => absurd w127 (by omega))
      · have w128 : 0 ≤ Xi S 5 0 ∧ Xi S 5 0 ≤ 16 := hH.c _ _
        exact Rl_weak (C88 (z89) (z95) (1) (by omega) (by omega) (by omega) (by omega) (⟨hfb0, hfb11, hfb1, hfb12⟩)) (And.intro rfl (And.intro rfl (And.intro rfl (And.intro rfl (True.intro)))))
def md_re_tellVerb : List rec := [(1, 2, 3, 4), (2, 3, 0, 100000), (3, 4, 0, 100000), (4, 5, 0, 100000), (5, 6, 0, 100000), (18, 19, 0, 100000), (876, 877, 8, 9), (876, 877, 9, 10), (891, 892, 9, 10), (892, 893, 0, 100000), (893, 894, 0, 100000), (894, 895, 0, 100000)]
abbrev Q_re_tellVerb (S : sS) : pst := fun r S1 => HI S1 ∧ FR md_re_tellVerb S S1 ∧ (∃ z : Int, r = some (iv z) ∧ (0 ≤ z ∧ z ≤ 1) ∧ (z = 1 → WI S1) ∧ (z = 0 → Xi S1 876 8 ≠ 0))
set_option maxRecDepth 100000 in
theorem t_re_tellVerb {S : sS} (hH : HI S) (hW : WI S) (hn0 : Xi S 891 9 = 0) (d : Nat) : Mt lay0 (d + 4) m_re_tellVerb [.ref 891] S (Q_re_tellVerb S) := by
  refine Mt_R rfl rfl ?_
  have hF : FR md_re_tellVerb S S := FR.rf
  have w1 : 0 ≤ Xi S 891 9 ∧ Xi S 891 9 ≤ 24 := hH.c _ _
  have hL := hW.1
  have hX := hW.2.1
  refine l_aload_n rfl rfl ?_
  refine l_gfr rfl rfl rfl rfl rfl (hH.r 891 0 876 rfl) ?_
  refine l_iconst rfl ?_
  have w2 : 0 ≤ Xi S 5 7 ∧ Xi S 5 7 ≤ 8 := hH.c _ _
  have w3 : 0 ≤ Xi S 876 7 ∧ Xi S 876 7 ≤ 5125 := hH.c _ _
  refine l_callV rfl rfl rfl (t_to_runEnd hH 3 ⟨by omega, by omega⟩ _) ?_
  rintro _ _ ⟨rfl, z11, rfl, w11, w4, w5, w6, w7, w8, w9, w10⟩
  clear w6 w7 w8 w9
  show Rl _ _ _ _ _ [iv z11] _ _
  refine l_istore_n rfl rfl rfl ?_
  refine l_iload_n rfl rfl ?_
  refine l_iconst rfl ?_
  refine l_iadd rfl ?_
  refine l_istore_n rfl rfl rfl ?_
  refine l_aload_n rfl rfl ?_
  refine l_gfr rfl rfl rfl rfl rfl (hH.r 891 13 894 rfl) ?_
  refine l_iconst rfl ?_
  refine l_aload_n rfl rfl ?_
  refine l_gfr rfl rfl rfl rfl rfl (hH.r 891 0 876 rfl) ?_
  refine l_gfr rfl rfl rfl rfl rfl (hH.r 876 2 879 rfl) ?_
  refine l_iconst rfl ?_
  refine l_laload (n := 5130) rfl rfl (by omega) (by omega) (by unfold rg; omega) ?_
  have w12 : -9223372036854775808 ≤ (Xj S 879 ((3 : Int).toNat)) ∧ (Xj S 879 ((3 : Int).toNat)) < 9223372036854775808 := Xj_rg
  refine l_ldc2 (z := 27) rfl rfl ?_
  refine l_lmul rfl ?_
  refine l_ldc2 (z := 19) rfl rfl ?_
  refine l_ladd rfl ?_
  refine l_lastore (n := 3) rfl rfl (by omega) (by omega) (by unfold rg; omega) ?_
  obtain ⟨U1, eU1⟩ : ∃ T : sS, T = uJ S 894 ((0 : Int).toNat) (Int64.ofInt (((Xj S 879 ((3 : Int).toNat)) * 27) + 19)) := ⟨_, rfl⟩
  rw [← eU1]
  have hHU1 : HI U1 := by rw [eU1]; exact HI_J hH
  have hFU1 : FR md_re_tellVerb S U1 := by rw [eU1]; exact FR.wJ hF (mdf_i (r := (894, 895, 0, 100000)) (List.mem_of_getElem? (i := 11) rfl) (inR_i (by omega) (by omega) (by omega) (by omega)))
  refine l_iload_n rfl rfl ?_
  refine l_iconst rfl ?_
  refine l_icmp_ne rfl rfl (by unfold rg; omega) (by unfold rg; omega) (fun w13 => ?_) (fun w14 => ?_)
  · refine l_aload_n rfl rfl ?_
    refine l_gfr rfl rfl rfl rfl rfl (hHU1.r 891 0 876 rfl) ?_
    refine l_iconst rfl ?_
    refine l_iconst rfl ?_
    have w15 : Xi U1 5 7 = Xi S 5 7 := (show Xi U1 5 7 = Xi S 5 7 from by rw [eU1]; rfl)
    refine l_callV rfl rfl rfl (t_to_wrong hHU1 3 3 ⟨by omega, by omega⟩ ⟨by omega, by omega⟩ _) ?_
    rintro _ T2 ⟨hHT2, w20, z19, rfl, w19, w17, w18⟩
    have hFT2 : FR md_re_tellVerb S T2 := FR.tr hFU1 w20 rfl
    show Rl _ _ _ _ _ [iv z19] _ _
    refine l_ireturn rfl (retI_z (by omega)) ?_
    have w21 : Xi T2 5 7 = Xi S 5 7 := (show Xi T2 5 7 = Xi U1 5 7 from w20.x _ _ rfl).trans ((show Xi U1 5 7 = Xi S 5 7 from by rw [eU1]; rfl))
    have w23 : 0 ≤ Xi T2 876 8 ∧ Xi T2 876 8 ≤ 9 := hHT2.c _ _
    exact ⟨hHT2, hFT2, _, rfl, ⟨by omega, by omega⟩, (by first | (intro hz; omega) | (intro _; assumption) | (intro _; exact (WI_FR hHU1 w20 rfl rfl rfl rfl rfl rfl rfl rfl rfl (WI_FR hH (FR_J eU1) rfl rfl rfl rfl rfl rfl rfl rfl rfl (by assumption : WI S))))), (by omega)⟩
  · refine l_aload_n rfl rfl ?_
    refine l_gfr rfl rfl rfl rfl rfl (hHU1.r 891 2 1 rfl) ?_
    refine l_aload_n rfl rfl ?_
    refine l_gfr rfl rfl rfl rfl rfl (hHU1.r 891 13 894 rfl) ?_
    refine l_iconst rfl ?_
    refine l_iconst rfl ?_
    have w24 : Xi U1 5 7 = Xi S 5 7 := (show Xi U1 5 7 = Xi S 5 7 from by rw [eU1]; rfl)
    refine l_callV rfl rfl rfl (t_vo_meaning hHU1 894 3 0 1 rfl ⟨by omega, by omega⟩ ⟨by omega, by omega⟩ ⟨by omega, by omega⟩ (by first | assumption | exact (LEX_FR (FR_J eU1) rfl rfl (by assumption : LEX S))) _) ?_
    rintro _ _ ⟨rfl, z29, rfl, w29, w26, w27, w28⟩
    show Rl _ _ _ _ _ [iv z29] _ _
    have hmnz29 := mOK_n (z := z29) (by assumption)
    refine l_iconst rfl ?_
    refine l_icmp_eq rfl rfl (by unfold rg; omega) (by unfold rg; omega) (fun w30 => ?_) (fun w31 => ?_)
    · refine l_aload_n rfl rfl ?_
      refine l_iconst rfl ?_
      refine l_iload_n rfl rfl ?_
      refine l_aload_n rfl rfl ?_
      refine l_gfr rfl rfl rfl rfl rfl (hHU1.r 891 2 1 rfl) ?_
      refine l_bipush rfl rfl ?_
      refine l_callV rfl rfl rfl (t_vo_countOf hHU1 7 ⟨by omega, by omega⟩ _) ?_
      rintro _ _ ⟨rfl, z37, rfl, w37, w34, w35, w36⟩
      have w38 : z37 = Xi U1 5 7 ∧ 0 ≤ Xi U1 5 7 ∧ Xi U1 5 7 ≤ 8 := ⟨(w34 (by omega) (by omega)).1, hHU1.c 5 7⟩
      clear w34 w35 w36
      show Rl _ _ _ _ _ [iv z37, iv z11, iv 3, .ref 891] _ _
      refine l_bipush rfl rfl ?_
      have w41 : Xi U1 891 9 = Xi S 891 9 := (show Xi U1 891 9 = Xi S 891 9 from by rw [eU1]; rfl)
      refine l_callV rfl rfl rfl (t_re_takeNew hHU1 3 z11 z37 8 ⟨by omega, by omega⟩ ⟨by omega, by omega⟩ ⟨by omega, by omega⟩ ⟨by omega, by omega⟩ (by first | assumption | exact (LEX_FR (FR_J eU1) rfl rfl (by assumption : LEX S))) _) ?_
      rintro _ T3 ⟨hHT3, w49, z48, rfl, w48, w43, w44, w45, w46, w47⟩
      have hFT3 : FR md_re_tellVerb S T3 := FR.tr hFU1 w49 rfl
      show Rl _ _ _ _ _ [iv z48] _ _
      refine l_if_ne rfl rfl (by unfold rg; omega) (fun w50 => ?_) (fun w51 => ?_)
      · refine l_aload_n rfl rfl ?_
        refine l_gfr rfl rfl rfl rfl rfl (hHT3.r 891 4 895 rfl) ?_
        refine l_bipush rfl rfl ?_
        refine l_iload_n rfl rfl ?_
        refine l_aload_n rfl rfl ?_
        refine l_gfr rfl rfl rfl rfl rfl (hHT3.r 891 0 876 rfl) ?_
        refine l_iload_n rfl rfl ?_
        have w52 : Xi T3 5 7 = Xi S 5 7 := (show Xi T3 5 7 = Xi U1 5 7 from w49.x _ _ rfl).trans ((show Xi U1 5 7 = Xi S 5 7 from by rw [eU1]; rfl))
        have w54 : Xi T3 876 7 = Xi S 876 7 := (show Xi T3 876 7 = Xi U1 876 7 from w49.x _ _ rfl).trans ((show Xi U1 876 7 = Xi S 876 7 from by rw [eU1]; rfl))
        refine l_callV rfl rfl rfl (t_to_runEnd hHT3 (z11 + 2) ⟨by omega, by omega⟩ _) ?_
        rintro _ _ ⟨rfl, z63, rfl, w63, w56, w57, w58, w59, w60, w61, w62⟩
        clear w58 w59 w60 w61
        show Rl _ _ _ _ _ [iv z63, iv (z11 + 2), iv 6, .ref 895] _ _
        refine l_callV rfl rfl rfl (t_me_find hHT3 6 (z11 + 2) z63 ⟨by omega, by omega⟩ ⟨by omega, by omega⟩ ⟨by omega, by omega⟩ (by first | assumption | exact (LEX_FR w49 rfl rfl (LEX_FR (FR_J eU1) rfl rfl (by assumption : LEX S)))) _) ?_
        rintro _ _ ⟨rfl, z69, rfl, w69, w66, w67, w68⟩
        have w70 : z69 ≠ -1 → _ := fun h => fb6 hHT3 (w66 h)
        clear w67
        show Rl _ _ _ _ _ [iv z69] _ _
        refine l_istore_n rfl rfl rfl ?_
        refine l_iload_n rfl rfl ?_
        refine l_iconst rfl ?_
        refine l_icmp_ne rfl rfl (by unfold rg; omega) (by unfold rg; omega) (fun w71 => ?_) (fun w72 => ?_)
        · refine l_aload_n rfl rfl ?_
          refine l_gfr rfl rfl rfl rfl rfl (hHT3.r 891 2 1 rfl) ?_
          refine l_bipush rfl rfl ?_
          refine l_aload_n rfl rfl ?_
          refine l_gfr rfl rfl rfl rfl rfl (hHT3.r 891 0 876 rfl) ?_
          refine l_gfr rfl rfl rfl rfl rfl (hHT3.r 876 2 879 rfl) ?_
          refine l_iconst rfl ?_
          refine l_iload_n rfl rfl ?_
          have hWp : WI T3 := (WI_FR hHU1 w49 rfl rfl rfl rfl rfl rfl rfl rfl rfl (WI_FR hH (FR_J eU1) rfl rfl rfl rfl rfl rfl rfl rfl rfl (by assumption : WI S)))
          have hHp := hHT3
          refine l_callV rfl rfl rfl (t_vo_tellNew hHT3 7 879 5130 3 z11 ⟨by omega, by omega⟩ rfl ⟨by omega, by omega⟩ ⟨by omega, by omega⟩ ⟨by omega, by omega⟩ (by first | assumption | exact (LEX_FR w49 rfl rfl (LEX_FR (FR_J eU1) rfl rfl (by assumption : LEX S)))) (show Xi T3 5 7 + 1 ≤ 8 by first | omega | (have hz : Xi T3 5 7 = Xi T3 5 (7 : Int).toNat := rfl; omega)) (by first | assumption | omega) _) ?_
          rintro _ T4 ⟨hHT4, w81, z80, rfl, w80, w75, w76, w77, w78, w79⟩
          have hFT4 : FR md_re_tellVerb S T4 := FR.tr hFT3 w81 rfl
          show Rl _ _ _ _ _ [iv z80] _ _
          have hz7 : z80 = Xi T3 5 7 := by have t := (by assumption : z80 = Xi T3 5 (7 : Int).toNat); exact t
          have hc7 : Xi T4 5 7 = Xi T3 5 7 + 1 := by have t := (by assumption : Xi T4 5 (7 : Int).toNat = Xi T3 5 (7 : Int).toNat + 1); exact t
          have hWt : WI T4 := WI_tn (s := 7) hHp (by assumption : FR md_vo_tellNew T3 T4) (by assumption) (by assumption) (by assumption) (by decide) (by decide) hWp
          refine l_istore rfl rfl rfl ?_
          refine l_aload_n rfl rfl ?_
          refine l_gfr rfl rfl rfl rfl rfl (hHT4.r 891 2 1 rfl) ?_
          refine l_bipush rfl rfl ?_
          refine l_iload rfl rfl ?_
          refine l_aload_n rfl rfl ?_
          refine l_gfr rfl rfl rfl rfl rfl (hHT4.r 891 13 894 rfl) ?_
          refine l_iconst rfl ?_
          refine l_iconst rfl ?_
          have hWr : WI T4 := (by assumption : WI T4)
          have hHq := hHT4
          have w82 : 0 ≤ Xi T4 1 3 ∧ Xi T4 1 3 ≤ 200 := hHT4.c _ _
          have w83 : 0 ≤ Xi T4 5 7 ∧ Xi T4 5 7 ≤ 8 := hHT4.c _ _
          refine l_callV rfl rfl rfl (t_vo_nameIt hHT4 13 z80 894 3 0 1 ⟨by omega, by omega⟩ ⟨by omega, by omega⟩ rfl ⟨by omega, by omega⟩ ⟨by omega, by omega⟩ ⟨by omega, by omega⟩ (by first | assumption | exact (by assumption : LEX T4)) (by unfold lexB; omega) (by first | assumption | omega) _) ?_
          rintro _ T5 ⟨hHT5, w88, rfl, w84, w85, w86⟩
          have hFT5 : FR md_re_tellVerb S T5 := FR.tr hFT4 w88 rfl
          show Rl _ _ _ _ _ [] _ _
          have hWm : WI T5 := WI_nm hHq (by assumption : FR md_vo_nameIt T4 T5) (by assumption) (by assumption) hWr
          refine l_aload_n rfl rfl ?_
          refine l_gfr rfl rfl rfl rfl rfl (hHT5.r 891 2 1 rfl) ?_
          refine l_gfr rfl rfl rfl rfl rfl (hHT5.r 1 17 18 rfl) ?_
          refine l_iload rfl rfl ?_
          refine l_iload_n rfl rfl ?_
          refine l_iastore (n := 8) rfl rfl (by omega) (by omega) (by unfold rg; omega) ?_
          obtain ⟨U6, eU6⟩ : ∃ T : sS, T = uI T5 18 ((z80).toNat) (Int32.ofInt z69) := ⟨_, rfl⟩
          rw [← eU6]
          have hHU6 : HI U6 := by rw [eU6]; exact HI_w hHT5 (show 0 ≤ z69 by omega) (show z69 ≤ 5 by omega)
          have hFU6 : FR md_re_tellVerb S U6 := by rw [eU6]; exact FR.wI hFT5 (mdf_i (r := (18, 19, 0, 100000)) (List.mem_of_getElem? (i := 5) rfl) (inR_i (by omega) (by omega) (by omega) (by omega)))
          have w89 : Xi U6 18 ((z80).toNat) = z69 := by rw [eU6]; exact Xi_same (by unfold rg; omega)
          refine l_iconst rfl ?_
          refine l_ireturn rfl rfl ?_
          have w90 : Xi U6 5 7 = Xi T4 5 7 := (show Xi U6 5 7 = Xi T5 5 7 from by rw [eU6]; exact Xi_ne (by omega)).trans ((show Xi T5 5 7 = Xi T4 5 7 from w88.x _ _ rfl))
          have w92 : Xi U6 876 8 = Xi T3 876 8 := (show Xi U6 876 8 = Xi T5 876 8 from by rw [eU6]; exact Xi_ne (by omega)).trans ( (show Xi T5 876 8 = Xi T4 876 8 from w88.x _ _ rfl).trans ((show Xi T4 876 8 = Xi T3 876 8 from w81.x _ _ rfl)))
          have w93 : 0 ≤ Xi T3 876 8 ∧ Xi T3 876 8 ≤ 9 := hHT3.c _ _
          exact ⟨hHU6, hFU6, _, rfl, ⟨by omega, by omega⟩, (by first | (intro hz; omega) | (intro _; assumption) | (intro _; exact (WI_FR hHT5 (FR_e eU6) rfl rfl rfl rfl rfl rfl rfl rfl rfl (by assumption : WI T5)))), (by omega)⟩
        · refine l_aload_n rfl rfl ?_
          refine l_gfr rfl rfl rfl rfl rfl (hHT3.r 891 0 876 rfl) ?_
          refine l_iconst rfl ?_
          refine l_iload_n rfl rfl ?_
          refine l_callV rfl rfl rfl (t_to_wrong hHT3 4 (z11 + 2) ⟨by omega, by omega⟩ ⟨by omega, by omega⟩ _) ?_
          rintro _ T7 ⟨hHT7, w99, z98, rfl, w98, w96, w97⟩
          have hFT7 : FR md_re_tellVerb S T7 := FR.tr hFT3 w99 rfl
          show Rl _ _ _ _ _ [iv z98] _ _
          refine l_ireturn rfl (retI_z (by omega)) ?_
          have w100 : Xi T7 5 7 = Xi S 5 7 := (show Xi T7 5 7 = Xi T3 5 7 from w99.x _ _ rfl).trans ( (show Xi T3 5 7 = Xi U1 5 7 from w49.x _ _ rfl).trans ((show Xi U1 5 7 = Xi S 5 7 from by rw [eU1]; rfl)))
          have w102 : 0 ≤ Xi T7 876 8 ∧ Xi T7 876 8 ≤ 9 := hHT7.c _ _
          exact ⟨hHT7, hFT7, _, rfl, ⟨by omega, by omega⟩, (by first | (intro hz; omega) | (intro _; assumption) | (intro _; exact (WI_FR hHT3 w99 rfl rfl rfl rfl rfl rfl rfl rfl rfl (WI_FR hHU1 w49 rfl rfl rfl rfl rfl rfl rfl rfl rfl (WI_FR hH (FR_J eU1) rfl rfl rfl rfl rfl rfl rfl rfl rfl (by assumption : WI S)))))), (by omega)⟩
      · refine l_iconst rfl ?_
        refine l_ireturn rfl rfl ?_
        have w103 : Xi T3 5 7 = Xi S 5 7 := (show Xi T3 5 7 = Xi U1 5 7 from w49.x _ _ rfl).trans ((show Xi U1 5 7 = Xi S 5 7 from by rw [eU1]; rfl))
        have w105 : 0 ≤ Xi T3 876 8 ∧ Xi T3 876 8 ≤ 9 := hHT3.c _ _
        exact ⟨hHT3, hFT3, _, rfl, ⟨by omega, by omega⟩, (by first | (intro hz; omega) | (intro _; assumption) | (intro _; exact (WI_FR hHU1 w49 rfl rfl rfl rfl rfl rfl rfl rfl rfl (WI_FR hH (FR_J eU1) rfl rfl rfl rfl rfl rfl rfl rfl rfl (by assumption : WI S))))), (by omega)⟩
    · refine l_aload_n rfl rfl ?_
      refine l_gfr rfl rfl rfl rfl rfl (hHU1.r 891 0 876 rfl) ?_
      refine l_iconst rfl ?_
      refine l_iconst rfl ?_
      refine l_callV rfl rfl rfl (t_to_wrong hHU1 3 3 ⟨by omega, by omega⟩ ⟨by omega, by omega⟩ _) ?_
      rintro _ T8 ⟨hHT8, w111, z110, rfl, w110, w108, w109⟩
      have hFT8 : FR md_re_tellVerb S T8 := FR.tr hFU1 w111 rfl
      show Rl _ _ _ _ _ [iv z110] _ _
      refine l_ireturn rfl (retI_z (by omega)) ?_
      have w112 : Xi T8 5 7 = Xi S 5 7 := (show Xi T8 5 7 = Xi U1 5 7 from w111.x _ _ rfl).trans ((show Xi U1 5 7 = Xi S 5 7 from by rw [eU1]; rfl))
      have w114 : 0 ≤ Xi T8 876 8 ∧ Xi T8 876 8 ≤ 9 := hHT8.c _ _
      exact ⟨hHT8, hFT8, _, rfl, ⟨by omega, by omega⟩, (by first | (intro hz; omega) | (intro _; assumption) | (intro _; exact (WI_FR hHU1 w111 rfl rfl rfl rfl rfl rfl rfl rfl rfl (WI_FR hH (FR_J eU1) rfl rfl rfl rfl rfl rfl rfl rfl rfl (by assumption : WI S))))), (by omega)⟩


