/-! SAFETY of methods: printed by wip/safe (vc.py, decl.py) -/
def md_to_open : List rec := [(876, 877, 4, 5), (876, 877, 5, 6), (876, 877, 8, 9), (876, 877, 9, 10)]
abbrev Q_to_open (S : sS) (b : Nat) (n : Int) : pst := fun r S1 => HI S1 ∧ FR md_to_open S S1 ∧ (r = none ∧ (S1.2.2 876 4 = some b) ∧ (Xi S1 876 5 = n ∧ Xi S1 876 8 = 0))
set_option maxRecDepth 100000 in
theorem t_to_open {S : sS} (hH : HI S) (b : Nat) (n : Int) (hb : tp b) (hn : 0 ≤ n ∧ n ≤ 5000) (d : Nat) : Mt lay0 (d + 1) m_to_open [.ref 876, .ref b, iv n] S (Q_to_open S b n) := by
  refine Mt_R rfl rfl ?_
  have hF : FR md_to_open S S := FR.rf
  refine l_aload_n rfl rfl ?_
  refine l_aload_n rfl rfl ?_
  refine l_pfr rfl rfl rfl rfl ?_
  obtain ⟨U1, eU1⟩ : ∃ T : sS, T = uR S 876 4 (some b) := ⟨_, rfl⟩
  rw [← eU1]
  have hHU1 : HI U1 := by rw [eU1]; exact HI_R hH rfl rfl (fun q => absurd q.1 (by decide)) (fun q => absurd q.1 (by decide)) (fun q => absurd q.1 (by decide)) (fun _ => ⟨_, rfl, by first | assumption | (right; assumption) | omega⟩) (fun q => absurd q.1 (by decide))
  have hFU1 : FR md_to_open S U1 := by rw [eU1]; exact FR.wR hF (mdf_i (r := (876, 877, 4, 5)) (List.mem_of_getElem? (i := 0) rfl) (inR_i (by omega) (by omega) (by omega) (by omega)))
  refine l_aload_n rfl rfl ?_
  refine l_iload_n rfl rfl ?_
  refine l_pfi rfl rfl rfl rfl ?_
  obtain ⟨U2, eU2⟩ : ∃ T : sS, T = uI U1 876 5 (Int32.ofInt n) := ⟨_, rfl⟩
  rw [← eU2]
  have hHU2 : HI U2 := by rw [eU2]; exact HI_w hHU1 (show 0 ≤ n by omega) (show n ≤ 5000 by omega)
  have hFU2 : FR md_to_open S U2 := by rw [eU2]; exact FR.wI hFU1 (mdf_i (r := (876, 877, 5, 6)) (List.mem_of_getElem? (i := 1) rfl) (inR_i (by omega) (by omega) (by omega) (by omega)))
  have w1 : Xi U2 876 5 = n := by rw [eU2]; exact Xi_same (by unfold rg; omega)
  refine l_aload_n rfl rfl ?_
  refine l_iconst rfl ?_
  refine l_pfi rfl rfl rfl rfl ?_
  obtain ⟨U3, eU3⟩ : ∃ T : sS, T = uI U2 876 8 (Int32.ofInt 0) := ⟨_, rfl⟩
  rw [← eU3]
  have hHU3 : HI U3 := by rw [eU3]; exact HI_w hHU2 (show 0 ≤ 0 by omega) (show 0 ≤ 9 by omega)
  have hFU3 : FR md_to_open S U3 := by rw [eU3]; exact FR.wI hFU2 (mdf_i (r := (876, 877, 8, 9)) (List.mem_of_getElem? (i := 2) rfl) (inR_i (by omega) (by omega) (by omega) (by omega)))
  have w2 : Xi U3 876 8 = 0 := by rw [eU3]; exact Xi_same (by unfold rg; omega)
  refine l_aload_n rfl rfl ?_
  refine l_iconst rfl ?_
  refine l_pfi rfl rfl rfl rfl ?_
  obtain ⟨U4, eU4⟩ : ∃ T : sS, T = uI U3 876 9 (Int32.ofInt 0) := ⟨_, rfl⟩
  rw [← eU4]
  have hHU4 : HI U4 := by rw [eU4]; exact HI_w hHU3 (show 0 ≤ 0 by omega) (show 0 ≤ 5000 by omega)
  have hFU4 : FR md_to_open S U4 := by rw [eU4]; exact FR.wI hFU3 (mdf_i (r := (876, 877, 9, 10)) (List.mem_of_getElem? (i := 3) rfl) (inR_i (by omega) (by omega) (by omega) (by omega)))
  have w3 : Xi U4 876 9 = 0 := by rw [eU4]; exact Xi_same (by unfold rg; omega)
  refine l_return rfl rfl ?_
  have w4 : Xi U4 876 5 = Xi U2 876 5 := (show Xi U4 876 5 = Xi U3 876 5 from by rw [eU4]; exact Xi_ne (by omega)).trans ((show Xi U3 876 5 = Xi U2 876 5 from by rw [eU3]; exact Xi_ne (by omega)))
  have w5 : 0 ≤ Xi U2 876 5 ∧ Xi U2 876 5 ≤ 5000 := hHU2.c _ _
  have w6 : Xi U4 876 8 = Xi U3 876 8 := (show Xi U4 876 8 = Xi U3 876 8 from by rw [eU4]; exact Xi_ne (by omega))
  have w7 : 0 ≤ Xi U3 876 8 ∧ Xi U3 876 8 ≤ 9 := hHU3.c _ _
  exact ⟨hHU4, hFU4, rfl, (by rw [eU4, eU3, eU2, eU1]; show (uR S 876 4 (some b)).2.2 876 4 = some b; exact uR_s), (by omega)⟩
/-! SAFETY: read -/
theorem srx_of {S : sS} {t : Nat} (h : S.2.2 20 1 = some t) (ht : tp t) : SRX S ∧ txr S = t := by
  have e : txr S = t := by unfold txr; rw [h]; rfl
  exact ⟨⟨by rw [e]; exact h, by rw [e]; exact ht⟩, e⟩
theorem dot_end {S : sS} {n G m : Int} (h1 : 1 ≤ n) (hn : ND S (n - 1)) (h : SAY S G ∧ 1 ≤ G ∧ G ≤ n ∧ Xi S 877 (G - 1).toNat = 103) (hm : m = n) : SAY S m ∧ Xi S 877 (m - 1).toNat = 103 := by
  obtain ⟨a, b, c, e⟩ := h
  have g : G = n := by
    by_cases q : G - 1 < n - 1
    · exact absurd e (hn (G - 1).toNat (by omega))
    · omega
  rw [hm, ← g]
  exact ⟨a, e⟩
/-- other texts: before a rule is told -/
theorem TXT_r {S U : sS} {t : Nat} {v n : Int} (e : U = uR S 20 1 (some t)) (ht : tp t) (h : TXT S v n) : TXT U v n := h.elim Or.inl (fun q => Or.inr ⟨q.1, q.2.1, (srx_of (S := U) (t := t) (by rw [e]; exact uR_s) ht).1⟩)
theorem WI_tx {S U : sS} {t : Nat} (e : U = uR S 20 1 (some t)) (ht : tp t) (hr : Xi S 246 2 = 0) (hW : WI S) : WI U := by
  obtain ⟨w1, w2, w3, w4, w5, w6, w7, w8⟩ := hW
  have x : ∀ k j, Xi U k j = Xi S k j := fun k j => by rw [e]; rfl
  have f := FR_R e
  refine ⟨LEX_FR f rfl rfl w1, fun r p h1 h2 h3 => ?_, fun a h1 h2 => ?_, fun i hi => ?_, CMD_FR f rfl w5, AK_FR f rfl w6, ?_, VAL_fr f rfl (x 5 4) w8⟩
  · rw [x] at h3
    rw [x, x]
    exact TXT_r e ht (w2 r p h1 h2 h3)
  · rw [x] at h1 h2
    simp only [x]
    obtain ⟨b, c⟩ := w3 a h1 h2
    refine ⟨b, fun i hi => ?_⟩
    obtain ⟨⟨k0, k1, k2, k3, k4, k5, k6, k7⟩, k8⟩ := c i hi
    unfold TSok CLok
    simp only [x]
    exact ⟨⟨k0, fun q => ⟨(k1 q).1, TXT_r e ht (k1 q).2⟩, k2, k3, k4, fun q => by omega, k6, k7⟩, k8⟩
  · rw [x] at hi
    omega
  · unfold CC
    simp only [x]
    exact w7
