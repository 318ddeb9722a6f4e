/-! SAFETY of methods: printed by wip/safe (vc.py, decl.py) -/
def md_to_takeInside__2 : List rec := [(876, 877, 7, 8), (877, 878, 0, 100000), (878, 879, 0, 100000), (879, 880, 0, 100000)]
abbrev Q_to_takeInside__2 (S : sS) (ts : Nat) (from_ : Int) (to : Int) : pst := fun r S1 => HI S1 ∧ FR md_to_takeInside__2 S S1 ∧ (∃ z : Int, r = some (iv z) ∧ (-1 ≤ z ∧ z ≤ 5002) ∧ (TOK S1) ∧ (z = -1 ∨ z = Xi S 876 6) ∧ (Xi S 876 6 ≤ Xi S1 876 7 ∧ Xi S1 876 7 ≤ 5125) ∧ (KTK S S1 (Xi S 876 6)))
set_option maxRecDepth 100000 in
theorem t_to_takeInside__2 {S : sS} (hH : HI S) (ts : Nat) (from_ : Int) (to : Int) (hfrom_ : 0 ≤ from_ ∧ from_ ≤ 5000) (hto : 0 ≤ to ∧ to ≤ 5000) (hts : S.2.2 876 4 = some ts) (htp : tp ts) (hT : TOK S) (hcr : Xi S 876 6 ≤ Xi S 876 7) (hft : to ≤ from_ + 121) (d : Nat) : Mt lay0 (d + 3) m_to_takeInside [.ref 876, iv from_, iv to] S (Q_to_takeInside__2 S ts from_ to) := by
  refine Mt_R rfl rfl ?_
  have hF : FR md_to_takeInside__2 S S := FR.rf
  have w1 : 0 ≤ Xi S 876 6 ∧ Xi S 876 6 ≤ 5002 := hH.c _ _
  have w2 : 0 ≤ Xi S 876 7 ∧ Xi S 876 7 ≤ 5125 := hH.c _ _
  have C10 : ∀ (n10 : Nat) (T1 : sS) (_ : HI T1) (_ : FR md_to_takeInside__2 S T1) (v3 : Int), (0 ≤ v3 ∧ v3 ≤ 5000) → (TOK T1) → (from_ ≤ v3 ∧ (v3 ≤ to ∨ v3 = from_)) → (Xi S 876 6 ≤ Xi T1 876 7 ∧ Xi T1 876 7 ≤ Xi S 876 6 + (v3 - from_)) → (KTK S T1 (Xi S 876 6)) → n10 = (5001 - v3).toNat → Rl lay0 (d + 2) m_to_takeInside 10 [(0, .ref 876), (2, iv to), (3, iv v3)] [] T1 (Q_to_takeInside__2 S ts from_ to) := by
    intro n10
    induction n10 using Nat.strongRecOn with
    | ind n10 ih10 =>
      intro T1 hHT1 hFT1 v3 w3 hT10 w4 w5 hk10 hm10
      have w6 : Xi T1 876 5 = Xi S 876 5 := hFT1.x _ _ rfl
      have w7 : Xi T1 876 6 = Xi S 876 6 := hFT1.x _ _ rfl
      have w8 : 0 ≤ Xi T1 876 7 ∧ Xi T1 876 7 ≤ 5125 := hHT1.c _ _
      refine l_iload_n rfl rfl ?_
      refine l_iload_n rfl rfl ?_
      refine l_icmp_ge rfl rfl (by unfold rg; omega) (by unfold rg; omega) (fun w9 => ?_) (fun w10 => ?_)
      · refine l_aload_n rfl rfl ?_
        refine l_bipush rfl rfl ?_
        refine l_iload_n rfl rfl ?_
        refine l_lconst (z := 0) rfl rfl ?_
        have w11 : 0 ≤ Xi T1 876 5 ∧ Xi T1 876 5 ≤ 5000 := hHT1.c _ _
        refine l_callV rfl rfl rfl (t_to_note__2 hHT1 107 to 0 ⟨by omega, by omega⟩ ⟨by omega, by omega⟩ (by first | assumption | exact (by assumption : TOK T1)) (by first | assumption | omega) (by first | assumption | omega) _) ?_
        rintro _ T2 ⟨hHT2, w17, rfl, w13, w14, w15⟩
        have hFT2 : FR md_to_takeInside__2 S T2 := FR.tr hFT1 w17 rfl
        show Rl _ _ _ _ _ [] _ _
        have k59 : KTK S T2 (Xi S 876 6) := ktk_tr hk10 (by assumption : KTK T1 T2 (Xi T1 876 7)) (by omega)
        refine l_aload_n rfl rfl ?_
        refine l_gfi rfl rfl rfl rfl rfl ?_
        have w18 : (Xi T2 876 6) = (Xi T1 876 6) := (show Xi T2 876 6 = Xi T1 876 6 from w17.x _ _ rfl)
        rw [w18]
        refine l_ireturn rfl rfl ?_
        have w19 : 0 ≤ Xi T2 876 7 ∧ Xi T2 876 7 ≤ 5125 := hHT2.c _ _
        exact ⟨hHT2, hFT2, _, rfl, ⟨by omega, by omega⟩, (by first | assumption | exact (by assumption : TOK T2)), (by first | assumption | omega), (by first | assumption | omega), (by first | exact k59 | exact k35 | exact hk10)⟩
      · refine l_aload_n rfl rfl ?_
        refine l_gfr rfl rfl rfl rfl rfl ((hFT1 876 4 rfl).2.2.trans hts) ?_
        refine l_iload_n rfl rfl ?_
        refine l_baload (n := 5000) rfl (tp_sv (by assumption)) (lay_tp (by assumption)) (by decide) (by omega) (by omega) (by unfold rg; omega) ?_
        have w21 : -128 ≤ (Xi T1 ts ((v3).toNat)) ∧ (Xi T1 ts ((v3).toNat)) ≤ 127 := tpc hHT1 (by assumption)
        refine l_bipush rfl rfl ?_
        refine l_icmp_ne rfl rfl (by unfold rg; omega) (by unfold rg; omega) (fun w22 => ?_) (fun w23 => ?_)
        · refine l_aload_n rfl rfl ?_
          refine l_iload_n rfl rfl ?_
          refine l_iload_n rfl rfl ?_
          refine l_callV rfl rfl rfl (t_to_scanWord__2 hHT1 ts v3 to ⟨by omega, by omega⟩ ⟨by omega, by omega⟩ ((hFT1 876 4 rfl).2.2.trans hts) htp (by first | assumption | exact (by assumption : TOK T1)) (by first | assumption | omega) _) ?_
          rintro _ T3 ⟨hHT3, w31, z30, rfl, w30, w25, w26, w27, w28, w29⟩
          have hFT3 : FR md_to_takeInside__2 S T3 := FR.tr hFT1 w31 rfl
          show Rl _ _ _ _ _ [iv z30] _ _
          have k35 : KTK S T3 (Xi S 876 6) := ktk_tr hk10 (by assumption : KTK T1 T3 (Xi T1 876 7)) (by omega)
          refine l_istore rfl rfl rfl ?_
          refine l_iload rfl rfl ?_
          refine l_iconst rfl ?_
          refine l_icmp_ne rfl rfl (by unfold rg; omega) (by unfold rg; omega) (fun w32 => ?_) (fun w33 => ?_)
          · refine l_iload rfl rfl ?_
            refine l_istore_n rfl rfl rfl ?_
            refine l_goto rfl rfl ?_
            have w34 : 0 ≤ Xi T3 876 7 ∧ Xi T3 876 7 ≤ 5125 := hHT3.c _ _
            exact Rl_weak (ih10 _ (by omega) T3 hHT3 hFT3 (z30) (by omega) (by first | assumption | exact (by assumption : TOK T3)) (by omega) (by omega) (by first | exact k35 | exact hk10 | exact ktk_f (FR_e rfl) rfl KTK.rf) rfl) (And.intro rfl (And.intro rfl (And.intro rfl (True.intro))))
          · refine l_iconst rfl ?_
            refine l_ireturn rfl rfl ?_
            have w35 : 0 ≤ Xi T3 876 7 ∧ Xi T3 876 7 ≤ 5125 := hHT3.c _ _
            exact ⟨hHT3, hFT3, _, rfl, ⟨by omega, by omega⟩, (by first | assumption | exact (by assumption : TOK T3)), (by first | assumption | omega), (by first | assumption | omega), (by first | exact k59 | exact k35 | exact hk10)⟩
        · refine l_iload_n rfl rfl ?_
          refine l_iconst rfl ?_
          refine l_iadd rfl ?_
          refine l_goto rfl rfl ?_
          refine l_istore rfl rfl rfl ?_
          refine l_iload rfl rfl ?_
          refine l_iconst rfl ?_
          refine l_icmp_ne rfl rfl (by unfold rg; omega) (by unfold rg; omega) (fun w36 => ?_) (fun w37 => ?_)
          · refine l_iload rfl rfl ?_
            refine l_istore_n rfl rfl rfl ?_
            refine l_goto rfl rfl ?_
            exact Rl_weak (ih10 _ (by omega) T1 hHT1 hFT1 ((v3 + 1)) (by omega) (by first | assumption | exact (by assumption : TOK T1)) (by omega) (by omega) (by first | exact k35 | exact hk10 | exact ktk_f (FR_e rfl) rfl KTK.rf) rfl) (And.intro rfl (And.intro rfl (And.intro rfl (True.intro))))
          · refine l_iconst rfl ?_
            refine l_ireturn rfl rfl ?_
            exact ⟨hHT1, hFT1, _, rfl, ⟨by omega, by omega⟩, (by first | assumption | exact (by assumption : TOK T1)), (by first | assumption | omega), (by first | assumption | omega), (by first | exact k59 | exact k35 | exact hk10)⟩
  refine l_iload_n rfl rfl ?_
  refine l_istore_n rfl rfl rfl ?_
  refine l_aload_n rfl rfl ?_
  refine l_aload_n rfl rfl ?_
  refine l_gfi rfl rfl rfl rfl rfl ?_
  refine l_pfi rfl rfl rfl rfl ?_
  obtain ⟨U4, eU4⟩ : ∃ T : sS, T = uI S 876 7 (Int32.ofInt (Xi S 876 6)) := ⟨_, rfl⟩
  rw [← eU4]
  have hHU4 : HI U4 := by rw [eU4]; exact HI_w hH (show 0 ≤ (Xi S 876 6) by omega) (show (Xi S 876 6) ≤ 5125 by omega)
  have hFU4 : FR md_to_takeInside__2 S U4 := by rw [eU4]; exact FR.wI hF (mdf_i (r := (876, 877, 7, 8)) (List.mem_of_getElem? (i := 0) rfl) (inR_i (by omega) (by omega) (by omega) (by omega)))
  have w40 : Xi U4 876 7 = (Xi S 876 6) := by rw [eU4]; exact Xi_same (by unfold rg; omega)
  have hT0 : TOK U4 := TOK_set7 eU4 hT (by omega) (by omega)
  have w41 : 0 ≤ Xi U4 876 7 ∧ Xi U4 876 7 ≤ 5125 := hHU4.c _ _
  exact Rl_weak (C10 _ U4 hHU4 hFU4 (from_) (by omega) (by first | assumption | exact (by assumption : TOK U4)) (by omega) (by omega) (by first | exact k35 | exact hk10 | exact ktk_f (FR_e eU4) rfl KTK.rf) rfl) (And.intro rfl (And.intro rfl (And.intro rfl (True.intro))))
/-! SAFETY: rules: every other rule stays; references that are written -/
def KRU (S T : sS) (c : Nat) : Prop := ∀ k j : Nat, k < 24 → k ≠ c → Xi T (248 + k) j = Xi S (248 + k) j
theorem KRU.rf {S : sS} {c : Nat} : KRU S S c := fun _ _ _ _ => rfl
theorem kru_w {S T U : sS} {c j : Nat} {v : Int32} (e : U = uI T (248 + c) j v) (h : KRU S T c) : KRU S U c := fun k i hk hn => by
  rw [e, Xi_ne (by omega)]; exact h k i hk hn
theorem kru_o {S T U : sS} {c x j : Nat} {v : Int32} (e : U = uI T x j v) (hx : x < 248 ∨ 272 ≤ x) (h : KRU S T c) : KRU S U c := fun k i hk hn => by
  rw [e, Xi_ne (by omega)]; exact h k i hk hn
theorem kru_tr {S T U : sS} {c : Nat} (h : KRU S T c) (g : KRU T U c) : KRU S U c := fun k i hk hn => (g k i hk hn).trans (h k i hk hn)
theorem kru_f {l : List rec} {S T U : sS} {c : Nat} (f : FR l T U) (e : kdis l [(248, 272)] = true) (h : KRU S T c) : KRU S U c := fun k i hk hn => (FR_ru f e hk).trans (h k i hk hn)
theorem uR_s {S : sS} {k j : Nat} {v : Option Nat} : (uR S k j v).2.2 k j = v := by simp only [uR, va_up, if_true]
theorem uR_o {S : sS} {k j a b : Nat} {v : Option Nat} (h : ¬(a = k ∧ b = j)) : (uR S k j v).2.2 a b = S.2.2 a b := by
  show va_up S.2.2 k (va_up (S.2.2 k) j v) a b = _
  unfold va_up
  by_cases e : a = k
  · subst e
    by_cases f : b = j
    · exact absurd ⟨rfl, f⟩ h
    · simp [f]
  · simp [e]
theorem FR.wR {l : List rec} {S T : sS} {k j : Nat} {v : Option Nat} (h : FR l S T) (e : mdf l k j = true) : FR l S (uR T k j v) := fun a b hm => by
  have n : ¬(a = k ∧ b = j) := fun q => by rw [q.1, q.2, e] at hm; cases hm
  obtain ⟨x, y, z⟩ := h a b hm
  exact ⟨x, y, (uR_o n).trans z⟩
theorem FR_R {S U : sS} {k j : Nat} {v : Option Nat} (e : U = uR S k j v) : FR [(k, k + 1, j, j + 1)] S U := by
  rw [e]
  exact FR.wR FR.rf (mdf_i (List.mem_cons_self) (inR_i (Nat.le_refl k) (by omega) (Nat.le_refl j) (by omega)))
theorem HI_R {S : sS} {k j : Nat} {v : Option Nat} (h : HI S) (e : rT k j = none) (er : rRw.all (fun q => !(Nat.beq q.1 k)) = true)
    (h8 : k = 0 ∧ j = 8 → ∃ t, v = some t ∧ tp t) (h9 : k = 0 ∧ j = 9 → ∃ t, v = some t ∧ tp t) (h20 : k = 20 ∧ j = 1 → ∃ t, v = some t ∧ (t = 245 ∨ tp t)) (h76 : k = 876 ∧ j = 4 → ∃ t, v = some t ∧ (t = 881 ∨ tp t)) (h99 : k = 899 ∧ j = 4 → ∃ i, v = some (248 + i) ∧ i < 24) : HI (uR S k j v) := by
  obtain ⟨⟨r1, r2, r3, r4, r5, r6, r7⟩, c⟩ := h
  have o : ∀ {P : Nat → Prop} (a b : Nat), (∃ t, S.2.2 a b = some t ∧ P t) → (k = a ∧ j = b → ∃ t, v = some t ∧ P t) → ∃ t, (uR S k j v).2.2 a b = some t ∧ P t := fun a b x y => by
    by_cases q : a = k ∧ b = j
    · obtain ⟨rfl, rfl⟩ := q
      rw [uR_s]; exact y ⟨rfl, rfl⟩
    · rw [uR_o q]; exact x
  refine ⟨⟨fun a b x hx => ?_, fun q hq i hi => ?_, o 0 8 r3 h8, o 0 9 r4 h9, o 20 1 r5 h20, o 876 4 r6 h76, ?_⟩, c⟩
  · rw [uR_o (fun q => by rw [q.1, q.2, e] at hx; cases hx)]; exact r1 a b x hx
  · have := List.all_eq_true.mp er q hq
    rw [uR_o (fun z => by rw [z.1] at this; simp at this)]; exact r2 q hq i hi
  · by_cases q : 899 = k ∧ 4 = j
    · obtain ⟨rfl, rfl⟩ := q
      rw [uR_s]; exact h99 ⟨rfl, rfl⟩
    · rw [uR_o q]; exact r7
theorem isKn_o {S : sS} {o : Int} : ∀ (n : Nat) (k : Int), isKn S o n k ≠ 0 → 0 ≤ o := by
  intro n
  induction n with
  | zero => intro k h; exact absurd rfl h
  | succ n ih =>
    intro k h
    unfold isKn at h
    split at h
    · exact absurd rfl h
    · split at h
      · omega
      · exact ih _ h
theorem isK_o {S : sS} {k o z : Int} (h : z = isK S k o) (q : z ≠ 0) : 0 ≤ o := isKn_o 16 k (by rw [h] at q; exact q)
/-- the rule that is being read: its tests and phrases so far -/
def RB (S : sS) (r : Nat) (c0 t p : Int) : Prop := (Xi S (248 + r) 7 = c0 ∧ 0 ≤ c0 ∧ Xi S 246 5 = c0 + Xi S (248 + r) 4 + t + p ∧ Xi S (248 + r) 1 < Xi S 5 8) ∧ (Xi S (248 + r) 3 ≠ -1 → rN S r) ∧ (0 ≤ Xi S 895 4 → rN S r) ∧
  (∀ i : Nat, (i : Int) < Xi S (248 + r) 4 + t → TSok S (rN S r) (c0.toNat + i)) ∧ (∀ i : Nat, (i : Int) < Xi S (248 + r) 4 + t + p → CLok S (rN S r) (c0.toNat + i))
theorem mad_cl {S U : sS} {c j : Nat} {v : Int32} (e : U = uI S (276 + c) j v) (hc : c < 600) (h : MAD S) : MAD U := fun i hi => by
  rw [e, Xi_ne (by omega)] at hi
  rw [e, Xi_ne (by omega), Xi_ne (by omega), Xi_ne (by omega)]
  exact h i hi
theorem rN_g {S T : sS} {r : Nat} (g : sG S T) (h1 : Xi T (248 + r) 1 = Xi S (248 + r) 1) (h8 : Xi S (248 + r) 1 < Xi S 5 8) : rN T r = rN S r := by
  unfold rN
  rw [h1]
  by_cases e : 0 ≤ Xi S (248 + r) 1
  · rw [g.2.2.2.2.2.1 _ (by omega)]
  · exact propext ⟨fun q => absurd q.1 e, fun q => absurd q.1 e⟩
theorem rb_0 {T : sS} {r : Nat} {c0 : Int} (h7 : Xi T (248 + r) 7 = c0) (hc0 : 0 ≤ c0) (hc : Xi T 246 5 = c0 + Xi T (248 + r) 4) (h1 : Xi T (248 + r) 1 < Xi T 5 8) (h3 : Xi T (248 + r) 3 ≠ -1 → rN T r) (hs : 0 ≤ Xi T 895 4 → rN T r) (ht : ∀ i : Nat, (i : Int) < Xi T (248 + r) 4 → TSok T True (c0.toNat + i)) (hn : 0 < Xi T (248 + r) 4 → rN T r) : RB T r c0 0 0 :=
  ⟨⟨h7, hc0, by omega, h1⟩, h3, hs, fun i hi => (ht i (by omega)).mono (fun _ => hn (by omega)), fun i hi => ((ht i (by omega)).mono (fun _ => hn (by omega))).1⟩
theorem RB_x {S T : sS} {r : Nat} {c0 t p n : Int} (hH : HI S) (hr : r < 24) (g : sG S T) (x1 : Xi T (248 + r) 1 = Xi S (248 + r) 1) (x3 : Xi T (248 + r) 3 = Xi S (248 + r) 3) (x4 : Xi T (248 + r) 4 = Xi S (248 + r) 4) (x7 : Xi T (248 + r) 7 = Xi S (248 + r) 7) (hs : Xi T 895 4 = Xi S 895 4) (h6 : Xi S 246 5 ≤ 600) (h0 : 0 ≤ t ∧ 0 ≤ p) (h : RB S r c0 t p) :
    rN T r = rN S r ∧ (Xi T (248 + r) 3 ≠ -1 → rN T r) ∧ (0 ≤ Xi T 895 4 → rN T r) ∧ Xi T (248 + r) 1 < Xi T 5 8 ∧
    (∀ i : Nat, (i : Int) < Xi T (248 + r) 4 + t → TSok T (rN T r) (c0.toNat + i)) ∧ (∀ i : Nat, (i : Int) < Xi T (248 + r) 4 + t + p → CLok T (rN T r) (c0.toNat + i)) := by
  obtain ⟨⟨a1, a2, a3, a4⟩, b3, bs, bt, bp⟩ := h
  have e := rN_g g x1 a4
  have g8 := g.2.2.2.2.1
  have r4 : 0 ≤ Xi S (248 + r) 4 ∧ Xi S (248 + r) 4 ≤ 5 := ruc4 hH hr
  refine ⟨e, fun q => ?_, fun q => ?_, by omega, fun i hi => ?_, fun i hi => ?_⟩
  · rw [e]; exact b3 (by omega)
  · rw [e]; exact bs (by omega)
  · rw [e]; exact TSok_sG hH g (by omega) (by omega) (bt i (by omega))
  · rw [e]; exact CLok_sG hH g (by omega) (by omega) (bp i (by omega))
theorem RB_t {S T : sS} {r : Nat} {c0 n : Int} (hH : HI S) (hr : r < 24) (g : sG S T) (x1 : Xi T (248 + r) 1 = Xi S (248 + r) 1) (x3 : Xi T (248 + r) 3 = Xi S (248 + r) 3) (x4 : Xi T (248 + r) 4 = Xi S (248 + r) 4) (x7 : Xi T (248 + r) 7 = Xi S (248 + r) 7) (hs : Xi T 895 4 = Xi S 895 4) (h6 : Xi S 246 5 ≤ 600) (hn : 0 ≤ n) (hc : Xi T 246 5 = Xi S 246 5 + n) (ht : ∀ i : Nat, (i : Int) < n → TSok T (0 ≤ Xi S 895 4) ((Xi S 246 5).toNat + i)) (h : RB S r c0 0 0) : RB T r c0 n 0 := by
  obtain ⟨e, k3, ks, k8, kt, kp⟩ := RB_x (n := 0) hH hr g x1 x3 x4 x7 hs h6 ⟨Int.le_refl 0, Int.le_refl 0⟩ h
  obtain ⟨⟨a1, a2, a3, a4⟩, b3, bs, bt, bp⟩ := h
  have r4 : 0 ≤ Xi S (248 + r) 4 ∧ Xi S (248 + r) 4 ≤ 5 := ruc4 hH hr
  have al : ∀ i : Nat, (i : Int) < Xi T (248 + r) 4 + n → TSok T (rN T r) (c0.toNat + i) := fun i hi => by
    by_cases q : (i : Int) < Xi T (248 + r) 4 + 0
    · exact kt i q
    · have t := ht (i - (Xi S (248 + r) 4).toNat) (by omega)
      rw [show (Xi S 246 5).toNat + (i - (Xi S (248 + r) 4).toNat) = c0.toNat + i by omega] at t
      exact t.mono (fun z => by rw [e]; exact bs z)
  exact ⟨⟨by omega, a2, by omega, k8⟩, k3, ks, al, fun i hi => (al i (by omega)).1⟩
theorem RB_p {S T : sS} {r z : Nat} {c0 t p : Int} (hH : HI S) (hr : r < 24) (g : sG S T) (x1 : Xi T (248 + r) 1 = Xi S (248 + r) 1) (x3 : Xi T (248 + r) 3 = Xi S (248 + r) 3) (x4 : Xi T (248 + r) 4 = Xi S (248 + r) 4) (x7 : Xi T (248 + r) 7 = Xi S (248 + r) 7) (hs : Xi T 895 4 = Xi S 895 4) (h6 : Xi S 246 5 ≤ 600) (h0 : 0 ≤ t ∧ 0 ≤ p) (hc : Xi T 246 5 = Xi S 246 5 + 1) (hk : CLok T (0 ≤ Xi S 895 4) z) (hz : (z : Int) = Xi S 246 5) (h : RB S r c0 t p) : RB T r c0 t (p + 1) := by
  obtain ⟨e, k3, ks, k8, kt, kp⟩ := RB_x (n := 0) hH hr g x1 x3 x4 x7 hs h6 h0 h
  obtain ⟨⟨a1, a2, a3, a4⟩, b3, bs, bt, bp⟩ := h
  have r4 : 0 ≤ Xi S (248 + r) 4 ∧ Xi S (248 + r) 4 ≤ 5 := ruc4 hH hr
  refine ⟨⟨by omega, a2, by omega, k8⟩, k3, ks, kt, fun i hi => ?_⟩
  by_cases q : (i : Int) < Xi T (248 + r) 4 + t + p
  · exact kp i q
  · rw [show c0.toNat + i = z by omega]
    exact hk.mono (fun y => by rw [e]; exact bs y)
theorem RB_e {S T : sS} {r : Nat} {c0 t p : Int} (hH : HI S) (hr : r < 24) (g : sG S T) (x1 : Xi T (248 + r) 1 = Xi S (248 + r) 1) (x3 : Xi T (248 + r) 3 = Xi S (248 + r) 3) (x4 : Xi T (248 + r) 4 = Xi S (248 + r) 4) (x7 : Xi T (248 + r) 7 = Xi S (248 + r) 7) (hs : Xi T 895 4 = Xi S 895 4) (h6 : Xi S 246 5 ≤ 600) (h0 : 0 ≤ t ∧ 0 ≤ p) (hc : Xi T 246 5 = Xi S 246 5) (h5 : Xi T (248 + r) 5 = t) (hp : Xi T (248 + r) 6 = p) (h : RB S r c0 t p) : RUL1 T r := by
  obtain ⟨e, k3, ks, k8, kt, kp⟩ := RB_x (n := 0) hH hr g x1 x3 x4 x7 hs h6 h0 h
  obtain ⟨⟨a1, a2, a3, a4⟩, b3, bs, bt, bp⟩ := h
  unfold RUL1
  rw [x7, a1, h5, hp]
  exact ⟨⟨a2, by omega, by omega, k8⟩, k3, kt, kp⟩
/-- inserts that come -/
def IGR (S T : sS) (b : Prop) : Prop := (Xi S 246 8 ≤ Xi T 246 8 ∧ Xi T 246 8 ≤ 1666) ∧ (∀ j : Nat, (j : Int) < Xi S 246 8 → Xi T 274 j = Xi S 274 j ∧ Xi T 275 j = Xi S 275 j) ∧ ∀ j : Nat, Xi S 246 8 ≤ j → (j : Int) < Xi T 246 8 → Xi T 275 j ≠ -1 → WHO b (Xi T 274 j)
theorem IGR.rf {S : sS} {b : Prop} (hH : HI S) : IGR S S b := ⟨⟨Int.le_refl _, (hH.c 246 8).2⟩, fun _ _ => ⟨rfl, rfl⟩, fun j h1 h2 => by omega⟩
theorem IGR.tr {S T U : sS} {b c : Prop} (h : IGR S T b) (g : IGR T U c) (hb : c → b) : IGR S U b := by
  obtain ⟨⟨a1, a2⟩, a3, a4⟩ := h
  obtain ⟨⟨b1, b2⟩, b3, b4⟩ := g
  refine ⟨⟨by omega, b2⟩, fun j hj => ⟨(b3 j (by omega)).1.trans (a3 j hj).1, (b3 j (by omega)).2.trans (a3 j hj).2⟩, fun j h1 h2 h3 => ?_⟩
  by_cases q : (j : Int) < Xi T 246 8
  · rw [(b3 j q).1]; rw [(b3 j q).2] at h3; exact a4 j h1 q h3
  · exact (b4 j (by omega) h2 h3).mono hb
theorem igr_f {l : List rec} {S T U : sS} {b : Prop} (f : FR l T U) (e : (kdis l [(274, 276)] && !(mdf l 246 8)) = true) (h : IGR S T b) : IGR S U b := by
  simp only [Bool.and_eq_true, Bool.not_eq_true'] at e
  have k := f.smk e.1
  obtain ⟨⟨a1, a2⟩, a3, a4⟩ := h
  have x := f.x 246 8 e.2
  refine ⟨⟨by omega, by omega⟩, fun j hj => ⟨(k.x 274 rfl j).trans (a3 j hj).1, (k.x 275 rfl j).trans (a3 j hj).2⟩, fun j h1 h2 h3 => ?_⟩
  rw [k.x 274 rfl]
  rw [k.x 275 rfl] at h3
  exact a4 j h1 (by omega) h3
theorem igr_cl {S T U : sS} {b : Prop} {c j : Nat} {v : Int32} (e : U = uI T (276 + c) j v) (h : IGR S T b) : IGR S U b := by
  obtain ⟨⟨a1, a2⟩, a3, a4⟩ := h
  have x : ∀ k i, k < 276 → Xi U k i = Xi T k i := fun k i hk => by rw [e, Xi_ne (by omega)]
  have x8 := x 246 8 (by omega)
  refine ⟨⟨by omega, by omega⟩, fun i hi => ⟨(x 274 i (by omega)).trans (a3 i hi).1, (x 275 i (by omega)).trans (a3 i hi).2⟩, fun i h1 h2 h3 => ?_⟩
  rw [x 274 i (by omega)]
  rw [x 275 i (by omega)] at h3
  exact a4 i h1 (by omega) h3
/-- what is told stays, a clause comes, inserts may come -/
theorem sG_i {l : List rec} {S T : sS} {n : Nat} {b : Prop} (h : FR l S T) (e : (kdis l [(5, 6), (19, 20), (902, 904)] && !(mdf l 20 1)) = true) (k : KCL S T n) (i : IGR S T b) (hn : Xi S 246 5 ≤ n) (hc : Xi S 246 5 ≤ Xi T 246 5) : sG S T := by
  simp only [Bool.and_eq_true, Bool.not_eq_true'] at e
  have s := h.smk e.1
  have y3 : Xi T 5 3 = Xi S 5 3 := s.x 5 rfl 3
  have y8 : Xi T 5 8 = Xi S 5 8 := s.x 5 rfl 8
  exact ⟨fun a j ha => s a j (by
    obtain ⟨q, hq, h1⟩ := List.any_eq_true.mp ha
    rw [List.mem_singleton] at hq
    subst hq
    rw [Bool.and_eq_true] at h1
    exact inK_i (a := 902) (b := 904) (by decide) (Nat.le_of_ble_eq_true h1.1) (Nat.le_of_ble_eq_true h1.2)), (h 20 1 e.2).2.2, ⟨i.1.1, i.1.2, i.2.1⟩, by omega, by omega, fun j _ => s.x 19 rfl j, hc, fun c h6 hk j => k c j h6 (by omega)⟩
theorem igr_w {S T U : sS} {b : Prop} {x j : Nat} {v : Int32} (e : U = uI T x j v) (hx : x ≠ 246 ∧ x ≠ 274 ∧ x ≠ 275) (h : IGR S T b) : IGR S U b := by
  obtain ⟨⟨a1, a2⟩, a3, a4⟩ := h
  have y8 : Xi U 246 8 = Xi T 246 8 := by rw [e, Xi_ne (by omega)]
  have y4 : ∀ i, Xi U 274 i = Xi T 274 i := fun i => by rw [e, Xi_ne (by omega)]
  have y5 : ∀ i, Xi U 275 i = Xi T 275 i := fun i => by rw [e, Xi_ne (by omega)]
  refine ⟨⟨by omega, by omega⟩, fun i hi => ⟨(y4 i).trans (a3 i hi).1, (y5 i).trans (a3 i hi).2⟩, fun i h1 h2 h3 => ?_⟩
  rw [y4]
  rw [y5] at h3
  exact a4 i h1 (by omega) h3
def IAD (S T : sS) (th pr : Int) : Prop := ∀ b : Prop, (pr ≠ -1 → WHO b th) → IGR S T b
theorem iad_0 {S : sS} {th pr : Int} (hH : HI S) : IAD S S th pr := fun _ _ => IGR.rf hH
theorem iad_1 {S U1 U2 U3 : sS} {th pr : Int} {n : Nat} (e1 : U1 = uI S 274 n (Int32.ofInt th)) (e2 : U2 = uI U1 275 n (Int32.ofInt pr)) (e3 : U3 = uI U2 246 8 (Int32.ofInt (Xi S 246 8 + 1))) (hn : n = (Xi S 246 8).toNat) (h0 : 0 ≤ Xi S 246 8) (h1 : Xi S 246 8 < 1666) (ht : rg th) (hp : rg pr) : IAD S U3 th pr := fun b hb => by
  have x8 : Xi U3 246 8 = Xi S 246 8 + 1 := by rw [e3]; exact Xi_same ⟨by omega, by omega⟩
  have x4 : ∀ j, j ≠ n → Xi U3 274 j = Xi S 274 j := fun j hj => by rw [e3, Xi_ne (by omega), e2, Xi_ne (by omega), e1, Xi_ne (by omega)]
  have x5 : ∀ j, j ≠ n → Xi U3 275 j = Xi S 275 j := fun j hj => by rw [e3, Xi_ne (by omega), e2, Xi_ne (by omega), e1, Xi_ne (by omega)]
  have y4 : Xi U3 274 n = th := by rw [e3, Xi_ne (by omega), e2, Xi_ne (by omega), e1]; exact Xi_same ht
  have y5 : Xi U3 275 n = pr := by rw [e3, Xi_ne (by omega), e2]; exact Xi_same hp
  refine ⟨⟨by omega, by omega⟩, fun j hj => ⟨x4 j (by omega), x5 j (by omega)⟩, fun j q1 q2 q3 => ?_⟩
  have e : j = n := by omega
  subst e
  rw [y4]
  rw [y5] at q3
  exact hb q3
/-- how many [ are closed by inserts -/
def NB (S T : sS) (t : Nat) (w v n o : Int) : Prop := w + nbr S t v n.toNat ≤ Xi T 246 8 + (if o = -1 then 0 else 1) ∨ 1666 ≤ Xi T 246 8
theorem nb_0 {S T : sS} {t : Nat} {w v n : Int} (hn : n = 0) (h : Xi T 246 8 = w) : NB S T t w v n (-1) := by
  refine Or.inl ?_
  rw [hn, if_pos rfl]
  show w + nbr S t v 0 ≤ _
  show w + 0 ≤ _
  omega
theorem nb_s {S T U : sS} {t : Nat} {w v n m o o2 x : Int} (h : NB S T t w v n o) (hn : 0 ≤ n) (hm : m = n + 1) (hx : x = Xi S t (v + n).toNat) (hc : (x = 91 ∧ o = -1 ∧ o2 ≠ -1 ∧ Xi U 246 8 = Xi T 246 8) ∨ (x = 93 ∧ o ≠ -1 ∧ o2 = -1 ∧ (Xi U 246 8 = Xi T 246 8 + 1 ∨ 1666 ≤ Xi U 246 8)) ∨ (x ≠ 91 ∧ o2 = o ∧ Xi U 246 8 = Xi T 246 8)) : NB S U t w v m o2 := by
  unfold NB at *
  subst hm
  rcases hc with ⟨a, b, c, d⟩ | ⟨a, b, c, d⟩ | ⟨a, b, d⟩
  · rw [nbr_y hn (by omega), d, if_neg c]
    rw [if_pos b] at h
    omega
  · rw [nbr_n hn (by omega), if_pos c]
    rw [if_neg b] at h
    omega
  · rw [nbr_n hn (by omega), d, b]
    exact h
theorem ins_mk {S T : sS} {t : Nat} {b : Prop} {w v n : Int} (ht : t = txr S) (e : T.2.2 20 1 = S.2.2 20 1) (x : ∀ j, Xi T t j = Xi S t j) (h : NB S T t w v n (-1)) (hi : IGR S T b) (hw : w = Xi S 246 8) : INS T b w v n := by
  have et : txr T = t := by rw [ht]; unfold txr; rw [e]
  unfold INS
  rw [et, nbr_eq x]
  unfold NB at h
  rw [if_pos rfl] at h
  exact ⟨by omega, fun j h1 _ h3 h4 => hi.2.2 j (by omega) h3 h4⟩
theorem sG_ru {S U : sS} {r j : Nat} {v : Int32} (hH : HI S) (e : U = uI S (248 + r) j v) (hr : r < 24) : sG S U := by
  have x : ∀ k i, k < 248 ∨ 272 ≤ k → Xi U k i = Xi S k i := fun k i hk => by rw [e, Xi_ne (by omega)]
  have r8 : 0 ≤ Xi S 246 8 ∧ Xi S 246 8 ≤ 1666 := hH.c _ _
  have a := x 246 8 (by omega)
  have b := x 246 5 (by omega)
  have c := x 5 3 (by omega)
  have d := x 5 8 (by omega)
  refine ⟨fun k i hk => ?_, by rw [e]; rfl, ⟨by omega, by omega, fun i _ => ⟨x 274 i (by omega), x 275 i (by omega)⟩⟩, by omega, by omega, fun i _ => x 19 i (by omega), by omega, fun c hc _ i => x _ i (by omega)⟩
  have hk2 : 902 ≤ k := by
    obtain ⟨q, hq, h1⟩ := List.any_eq_true.mp hk
    rw [List.mem_singleton] at hq
    subst hq
    rw [Bool.and_eq_true] at h1
    exact Nat.le_of_ble_eq_true h1.1
  exact FR_e e k i (by unfold mdf; simp only [List.any_cons, List.any_nil, Bool.or_false]; unfold inR; cases h : Nat.blt k (248 + r + 1) with
    | false => simp
    | true => exact absurd (Nat.le_of_ble_eq_true h) (by omega))
theorem say_k {S T : sS} {n : Int} (h : SAY S n) (k : KTK S T n) : SAY T n := fun r hr e => by
  rw [k r hr] at e
  obtain ⟨a, b⟩ := h r hr e
  exact ⟨by rw [k (r + 1) (by omega)]; exact a, b⟩
theorem say_at {S : sS} {n v x : Int} (h : SAY S n) (h0 : 0 ≤ v) (hv : v < n) (hx : x = Xi S 877 v.toNat) (q : x = 43) : v + 1 < n ∧ Xi S 877 (v + 1).toNat = 102 := by
  obtain ⟨a, b⟩ := h v.toNat (by omega) (by rw [← hx]; exact q)
  rw [show (v + 1).toNat = v.toNat + 1 by omega]
  exact ⟨by omega, a⟩
def md_bo_startRule__2 : List rec := [(248, 272, 0, 100000)]
abbrev Q_bo_startRule__2 (S : sS) (sort : Int) : pst := fun r S1 => HI S1 ∧ FR md_bo_startRule__2 S S1 ∧ (∃ z : Nat, r = some (.ref (248 + z)) ∧ z < 24 ∧ ((z : Int) = Xi S 246 2) ∧ (KRU S S1 z) ∧ (Xi S1 (248 + z) 1 = -1 ∧ Xi S1 (248 + z) 2 = -1 ∧ Xi S1 (248 + z) 3 = -1 ∧ Xi S1 (248 + z) 4 = 0 ∧ Xi S1 (248 + z) 5 = 0 ∧ Xi S1 (248 + z) 6 = 0 ∧ Xi S1 (248 + z) 7 = Xi S 246 5))
set_option maxRecDepth 100000 in
theorem t_bo_startRule__2 {S : sS} (hH : HI S) (sort : Int) (hsort : 0 ≤ sort ∧ sort ≤ 3) (hr : Xi S 246 2 < 24) (d : Nat) : Mt lay0 (d + 1) m_bo_startRule [.ref 246, iv sort] S (Q_bo_startRule__2 S sort) := by
  refine Mt_R rfl rfl ?_
  have hF : FR md_bo_startRule__2 S S := FR.rf
  have w1 : 0 ≤ Xi S 246 2 ∧ Xi S 246 2 ≤ 24 := hH.c _ _
  have w2 : 0 ≤ Xi S 246 5 ∧ Xi S 246 5 ≤ 200000 := hH.c _ _
  refine l_aload_n rfl rfl ?_
  refine l_gfr rfl rfl rfl rfl rfl (hH.r 246 1 247 rfl) ?_
  refine l_aload_n rfl rfl ?_
  refine l_gfi rfl rfl rfl rfl rfl ?_
  refine l_aaload (n := 24) (a := 248 + ((Xi S 246 2)).toNat) rfl rfl (by decide) (by omega) (by omega) (by unfold rg; omega) (RW_247 hH (by omega)) ?_
  refine l_astore_n rfl rfl rfl ?_
  refine l_aload_n rfl rfl ?_
  refine l_iconst rfl ?_
  refine l_iload_n rfl rfl ?_
  refine l_iastore (n := 8) rfl (lay_248 (by omega)) (by omega) (by omega) (by unfold rg; omega) ?_
  obtain ⟨U1, eU1⟩ : ∃ T : sS, T = uI S (248 + ((Xi S 246 2)).toNat) ((0 : Int).toNat) (Int32.ofInt sort) := ⟨_, rfl⟩
  rw [← eU1]
  have hHU1 : HI U1 := by rw [eU1]; exact HI_w hH (by rw [lh_ru0 (by omega)]; omega) (by rw [lh_ru0 (by omega)]; omega)
  have hFU1 : FR md_bo_startRule__2 S U1 := by rw [eU1]; exact FR.wI hF (mdf_i (r := (248, 272, 0, 100000)) (List.mem_of_getElem? (i := 0) rfl) (inR_i (by omega) (by omega) (by omega) (by omega)))
  have w3 : Xi U1 (248 + ((Xi S 246 2)).toNat) ((0 : Int).toNat) = sort := by rw [eU1]; exact Xi_same (by unfold rg; omega)
  refine l_aload_n rfl rfl ?_
  refine l_iconst rfl ?_
  refine l_iconst rfl ?_
  refine l_iastore (n := 8) rfl (lay_248 (by omega)) (by omega) (by omega) (by unfold rg; omega) ?_
  obtain ⟨U2, eU2⟩ : ∃ T : sS, T = uI U1 (248 + ((Xi S 246 2)).toNat) ((1 : Int).toNat) (Int32.ofInt (-1)) := ⟨_, rfl⟩
  rw [← eU2]
  have hHU2 : HI U2 := by rw [eU2]; exact HI_w hHU1 (by rw [lh_ru1 (by omega)]; omega) (by rw [lh_ru1 (by omega)]; omega)
  have hFU2 : FR md_bo_startRule__2 S U2 := by rw [eU2]; exact FR.wI hFU1 (mdf_i (r := (248, 272, 0, 100000)) (List.mem_of_getElem? (i := 0) rfl) (inR_i (by omega) (by omega) (by omega) (by omega)))
  have w4 : Xi U2 (248 + ((Xi S 246 2)).toNat) ((1 : Int).toNat) = (-1) := by rw [eU2]; exact Xi_same (by unfold rg; omega)
  refine l_aload_n rfl rfl ?_
  refine l_iconst rfl ?_
  refine l_iconst rfl ?_
  refine l_iastore (n := 8) rfl (lay_248 (by omega)) (by omega) (by omega) (by unfold rg; omega) ?_
  obtain ⟨U3, eU3⟩ : ∃ T : sS, T = uI U2 (248 + ((Xi S 246 2)).toNat) ((2 : Int).toNat) (Int32.ofInt (-1)) := ⟨_, rfl⟩
  rw [← eU3]
  have hHU3 : HI U3 := by rw [eU3]; exact HI_w hHU2 (by rw [lh_ru2 (by omega)]; omega) (by rw [lh_ru2 (by omega)]; omega)
  have hFU3 : FR md_bo_startRule__2 S U3 := by rw [eU3]; exact FR.wI hFU2 (mdf_i (r := (248, 272, 0, 100000)) (List.mem_of_getElem? (i := 0) rfl) (inR_i (by omega) (by omega) (by omega) (by omega)))
  have w5 : Xi U3 (248 + ((Xi S 246 2)).toNat) ((2 : Int).toNat) = (-1) := by rw [eU3]; exact Xi_same (by unfold rg; omega)
  refine l_aload_n rfl rfl ?_
  refine l_iconst rfl ?_
  refine l_iconst rfl ?_
  refine l_iastore (n := 8) rfl (lay_248 (by omega)) (by omega) (by omega) (by unfold rg; omega) ?_
  obtain ⟨U4, eU4⟩ : ∃ T : sS, T = uI U3 (248 + ((Xi S 246 2)).toNat) ((3 : Int).toNat) (Int32.ofInt (-1)) := ⟨_, rfl⟩
  rw [← eU4]
  have hHU4 : HI U4 := by rw [eU4]; exact HI_w hHU3 (by rw [lh_ru3 (by omega)]; omega) (by rw [lh_ru3 (by omega)]; omega)
  have hFU4 : FR md_bo_startRule__2 S U4 := by rw [eU4]; exact FR.wI hFU3 (mdf_i (r := (248, 272, 0, 100000)) (List.mem_of_getElem? (i := 0) rfl) (inR_i (by omega) (by omega) (by omega) (by omega)))
  have w6 : Xi U4 (248 + ((Xi S 246 2)).toNat) ((3 : Int).toNat) = (-1) := by rw [eU4]; exact Xi_same (by unfold rg; omega)
  refine l_aload_n rfl rfl ?_
  refine l_iconst rfl ?_
  refine l_iconst rfl ?_
  refine l_iastore (n := 8) rfl (lay_248 (by omega)) (by omega) (by omega) (by unfold rg; omega) ?_
  obtain ⟨U5, eU5⟩ : ∃ T : sS, T = uI U4 (248 + ((Xi S 246 2)).toNat) ((4 : Int).toNat) (Int32.ofInt 0) := ⟨_, rfl⟩
  rw [← eU5]
  have hHU5 : HI U5 := by rw [eU5]; exact HI_w hHU4 (by rw [lh_ru4 (by omega)]; omega) (by rw [lh_ru4 (by omega)]; omega)
  have hFU5 : FR md_bo_startRule__2 S U5 := by rw [eU5]; exact FR.wI hFU4 (mdf_i (r := (248, 272, 0, 100000)) (List.mem_of_getElem? (i := 0) rfl) (inR_i (by omega) (by omega) (by omega) (by omega)))
  have w7 : Xi U5 (248 + ((Xi S 246 2)).toNat) ((4 : Int).toNat) = 0 := by rw [eU5]; exact Xi_same (by unfold rg; omega)
  refine l_aload_n rfl rfl ?_
  refine l_iconst rfl ?_
  refine l_iconst rfl ?_
  refine l_iastore (n := 8) rfl (lay_248 (by omega)) (by omega) (by omega) (by unfold rg; omega) ?_
  obtain ⟨U6, eU6⟩ : ∃ T : sS, T = uI U5 (248 + ((Xi S 246 2)).toNat) ((5 : Int).toNat) (Int32.ofInt 0) := ⟨_, rfl⟩
  rw [← eU6]
  have hHU6 : HI U6 := by rw [eU6]; exact HI_w hHU5 (by rw [lh_ru5 (by omega)]; omega) (by rw [lh_ru5 (by omega)]; omega)
  have hFU6 : FR md_bo_startRule__2 S U6 := by rw [eU6]; exact FR.wI hFU5 (mdf_i (r := (248, 272, 0, 100000)) (List.mem_of_getElem? (i := 0) rfl) (inR_i (by omega) (by omega) (by omega) (by omega)))
  have w8 : Xi U6 (248 + ((Xi S 246 2)).toNat) ((5 : Int).toNat) = 0 := by rw [eU6]; exact Xi_same (by unfold rg; omega)
  refine l_aload_n rfl rfl ?_
  refine l_bipush rfl rfl ?_
  refine l_iconst rfl ?_
  refine l_iastore (n := 8) rfl (lay_248 (by omega)) (by omega) (by omega) (by unfold rg; omega) ?_
  obtain ⟨U7, eU7⟩ : ∃ T : sS, T = uI U6 (248 + ((Xi S 246 2)).toNat) ((6 : Int).toNat) (Int32.ofInt 0) := ⟨_, rfl⟩
  rw [← eU7]
  have hHU7 : HI U7 := by rw [eU7]; exact HI_w hHU6 (by rw [lh_ru6 (by omega)]; omega) (by rw [lh_ru6 (by omega)]; omega)
  have hFU7 : FR md_bo_startRule__2 S U7 := by rw [eU7]; exact FR.wI hFU6 (mdf_i (r := (248, 272, 0, 100000)) (List.mem_of_getElem? (i := 0) rfl) (inR_i (by omega) (by omega) (by omega) (by omega)))
  have w9 : Xi U7 (248 + ((Xi S 246 2)).toNat) ((6 : Int).toNat) = 0 := by rw [eU7]; exact Xi_same (by unfold rg; omega)
  refine l_aload_n rfl rfl ?_
  refine l_bipush rfl rfl ?_
  refine l_aload_n rfl rfl ?_
  refine l_gfi rfl rfl rfl rfl rfl ?_
  have w10 : (Xi U7 246 5) = (Xi S 246 5) := (show Xi U7 246 5 = Xi U6 246 5 from by rw [eU7]; exact Xi_ne (by omega)).trans ( (show Xi U6 246 5 = Xi U5 246 5 from by rw [eU6]; exact Xi_ne (by omega)).trans ( (show Xi U5 246 5 = Xi U4 246 5 from by rw [eU5]; exact Xi_ne (by omega)).trans ( (show Xi U4 246 5 = Xi U3 246 5 from by rw [eU4]; exact Xi_ne (by omega)).trans ( (show Xi U3 246 5 = Xi U2 246 5 from by rw [eU3]; exact Xi_ne (by omega)).trans ( (show Xi U2 246 5 = Xi U1 246 5 from by rw [eU2]; exact Xi_ne (by omega)).trans ((show Xi U1 246 5 = Xi S 246 5 from by rw [eU1]; exact Xi_ne (by omega))))))))
  rw [w10]
  refine l_iastore (n := 8) rfl (lay_248 (by omega)) (by omega) (by omega) (by unfold rg; omega) ?_
  obtain ⟨U8, eU8⟩ : ∃ T : sS, T = uI U7 (248 + ((Xi S 246 2)).toNat) ((7 : Int).toNat) (Int32.ofInt (Xi S 246 5)) := ⟨_, rfl⟩
  rw [← eU8]
  have hHU8 : HI U8 := by rw [eU8]; exact HI_w hHU7 (by rw [lh_ru7 (by omega)]; omega) (by rw [lh_ru7 (by omega)]; omega)
  have hFU8 : FR md_bo_startRule__2 S U8 := by rw [eU8]; exact FR.wI hFU7 (mdf_i (r := (248, 272, 0, 100000)) (List.mem_of_getElem? (i := 0) rfl) (inR_i (by omega) (by omega) (by omega) (by omega)))
  have w11 : Xi U8 (248 + ((Xi S 246 2)).toNat) ((7 : Int).toNat) = (Xi S 246 5) := by rw [eU8]; exact Xi_same (by unfold rg; omega)
  refine l_aload_n rfl rfl ?_
  refine l_areturn rfl rfl ?_
  exact ⟨hHU8, hFU8, _, rfl, (by omega), (by first | assumption | omega), ((kru_w eU8 (kru_w eU7 (kru_w eU6 (kru_w eU5 (kru_w eU4 (kru_w eU3 (kru_w eU2 (kru_w eU1 KRU.rf))))))))), (⟨by rw [eU8, Xi_ne (by omega), eU7, Xi_ne (by omega), eU6, Xi_ne (by omega), eU5, Xi_ne (by omega), eU4, Xi_ne (by omega), eU3, Xi_ne (by omega), eU2]; exact Xi_same (by unfold rg; omega), by rw [eU8, Xi_ne (by omega), eU7, Xi_ne (by omega), eU6, Xi_ne (by omega), eU5, Xi_ne (by omega), eU4, Xi_ne (by omega), eU3]; exact Xi_same (by unfold rg; omega), by rw [eU8, Xi_ne (by omega), eU7, Xi_ne (by omega), eU6, Xi_ne (by omega), eU5, Xi_ne (by omega), eU4]; exact Xi_same (by unfold rg; omega), by rw [eU8, Xi_ne (by omega), eU7, Xi_ne (by omega), eU6, Xi_ne (by omega), eU5]; exact Xi_same (by unfold rg; omega), by rw [eU8, Xi_ne (by omega), eU7, Xi_ne (by omega), eU6]; exact Xi_same (by unfold rg; omega), by rw [eU8, Xi_ne (by omega), eU7]; exact Xi_same (by unfold rg; omega), by rw [eU8]; exact Xi_same (by unfold rg; omega)⟩)⟩
def md_rr_actingAlone : List rec := [(248, 272, 0, 100000), (876, 877, 8, 9), (876, 877, 9, 10)]
abbrev Q_rr_actingAlone (S : sS) (ru : Nat) (from_ : Int) (to : Int) : pst := fun r S1 => HI S1 ∧ FR md_rr_actingAlone S S1 ∧ (∃ z : Int, r = some (iv z) ∧ (0 ≤ z ∧ z ≤ 1) ∧ (KRU S S1 ru) ∧ (z = 1 → 0 ≤ Xi S1 (248 + ru) 1 ∧ Xi S1 (248 + ru) 1 < Xi S1 5 8) ∧ (z = 1 → Xi S1 (248 + ru) 2 ≠ -1 → 0 ≤ Xi S1 19 (Xi S1 (248 + ru) 1).toNat) ∧ (z = 1 → Xi S1 (248 + ru) 3 = Xi S (248 + ru) 3 ∧ Xi S1 (248 + ru) 4 = Xi S (248 + ru) 4 ∧ Xi S1 (248 + ru) 5 = Xi S (248 + ru) 5 ∧ Xi S1 (248 + ru) 6 = Xi S (248 + ru) 6 ∧ Xi S1 (248 + ru) 7 = Xi S (248 + ru) 7) ∧ (z = 0 → Xi S1 876 8 ≠ 0))
set_option maxRecDepth 100000 in
theorem t_rr_actingAlone {S : sS} (hH : HI S) (ru : Nat) (from_ : Int) (to : Int) (hfrom_ : 0 ≤ from_ ∧ from_ ≤ 5130) (hto : 0 ≤ to ∧ to ≤ 5130) (hru : S.2.2 899 4 = some (248 + ru)) (hrk : ru < 24) (hL : LEX S) (d : Nat) : Mt lay0 (d + 3) m_rr_actingAlone [.ref 899, iv from_, iv to] S (Q_rr_actingAlone S ru from_ to) := by
  refine Mt_R rfl rfl ?_
  have hF : FR md_rr_actingAlone S S := FR.rf
  have w1 : 0 ≤ Xi S 5 8 ∧ Xi S 5 8 ≤ 12 := hH.c _ _
  have C32 : ∀ (n32 : Nat) (v3 : Int) (v4 : Int) (v5 : Int) (v6 : Int), (-1 ≤ v3 ∧ v3 ≤ 11) → (-1 ≤ v4 ∧ v4 ≤ 23) → (0 ≤ v5 ∧ v5 ≤ 5131) → (1 ≤ v6 ∧ v6 ≤ 5131) → (v5 ≠ 0 → 0 ≤ v3 ∧ v3 < Xi S 5 8) → (v5 ≤ v6) → (v4 ≠ -1 → 0 ≤ Xi S 19 v3.toNat) → n32 = (5132 - v6).toNat → Rl lay0 (d + 2) m_rr_actingAlone 32 [(0, .ref 899), (1, iv from_), (2, iv to), (3, iv v3), (4, iv v4), (5, iv v5), (6, iv v6)] [] S (Q_rr_actingAlone S ru from_ to) := by
    intro n32
    induction n32 using Nat.strongRecOn with
    | ind n32 ih32 =>
      intro v3 v4 v5 v6 w2 w3 w4 w5 w6 w7 hn32 hm32
      refine l_iload rfl rfl ?_
      refine l_iload_n rfl rfl ?_
      refine l_icmp_ge rfl rfl (by unfold rg; omega) (by unfold rg; omega) (fun w8 => ?_) (fun w9 => ?_)
      · refine l_aload_n rfl rfl ?_
        refine l_gfr rfl rfl rfl rfl rfl ((hF 899 4 rfl).2.2.trans hru) ?_
        refine l_iconst rfl ?_
        refine l_iload_n rfl rfl ?_
        refine l_iastore (n := 8) rfl (lay_248 (by omega)) (by omega) (by omega) (by unfold rg; omega) ?_
        obtain ⟨U1, eU1⟩ : ∃ T : sS, T = uI S (248 + ru) ((1 : Int).toNat) (Int32.ofInt v3) := ⟨_, rfl⟩
        rw [← eU1]
        have hHU1 : HI U1 := by rw [eU1]; exact HI_w hH (by rw [lh_ru1 (by omega)]; omega) (by rw [lh_ru1 (by omega)]; omega)
        have hFU1 : FR md_rr_actingAlone S U1 := by rw [eU1]; exact FR.wI hF (mdf_i (r := (248, 272, 0, 100000)) (List.mem_of_getElem? (i := 0) rfl) (inR_i (by omega) (by omega) (by omega) (by omega)))
        have w11 : Xi U1 (248 + ru) ((1 : Int).toNat) = v3 := by rw [eU1]; exact Xi_same (by unfold rg; omega)
        have rU1_1 : Xi U1 (248 + ru) 1 = v3 := by rw [eU1]; exact Xi_same (by unfold rg; omega)
        have rU1_2 : Xi U1 (248 + ru) 2 = Xi S (248 + ru) 2 := by rw [eU1, Xi_ne (by omega)]
        have rU1_3 : Xi U1 (248 + ru) 3 = Xi S (248 + ru) 3 := by rw [eU1, Xi_ne (by omega)]
        have rU1_4 : Xi U1 (248 + ru) 4 = Xi S (248 + ru) 4 := by rw [eU1, Xi_ne (by omega)]
        have rU1_5 : Xi U1 (248 + ru) 5 = Xi S (248 + ru) 5 := by rw [eU1, Xi_ne (by omega)]
        have rU1_6 : Xi U1 (248 + ru) 6 = Xi S (248 + ru) 6 := by rw [eU1, Xi_ne (by omega)]
        have rU1_7 : Xi U1 (248 + ru) 7 = Xi S (248 + ru) 7 := by rw [eU1, Xi_ne (by omega)]
        refine l_aload_n rfl rfl ?_
        refine l_gfr rfl rfl rfl rfl rfl ((hFU1 899 4 rfl).2.2.trans hru) ?_
        refine l_iconst rfl ?_
        refine l_iload rfl rfl ?_
        refine l_iastore (n := 8) rfl (lay_248 (by omega)) (by omega) (by omega) (by unfold rg; omega) ?_
        obtain ⟨U2, eU2⟩ : ∃ T : sS, T = uI U1 (248 + ru) ((2 : Int).toNat) (Int32.ofInt v4) := ⟨_, rfl⟩
        rw [← eU2]
        have hHU2 : HI U2 := by rw [eU2]; exact HI_w hHU1 (by rw [lh_ru2 (by omega)]; omega) (by rw [lh_ru2 (by omega)]; omega)
        have hFU2 : FR md_rr_actingAlone S U2 := by rw [eU2]; exact FR.wI hFU1 (mdf_i (r := (248, 272, 0, 100000)) (List.mem_of_getElem? (i := 0) rfl) (inR_i (by omega) (by omega) (by omega) (by omega)))
        have w13 : Xi U2 (248 + ru) ((2 : Int).toNat) = v4 := by rw [eU2]; exact Xi_same (by unfold rg; omega)
        have rU2_1 : Xi U2 (248 + ru) 1 = Xi U1 (248 + ru) 1 := by rw [eU2, Xi_ne (by omega)]
        have rU2_2 : Xi U2 (248 + ru) 2 = v4 := by rw [eU2]; exact Xi_same (by unfold rg; omega)
        have rU2_3 : Xi U2 (248 + ru) 3 = Xi U1 (248 + ru) 3 := by rw [eU2, Xi_ne (by omega)]
        have rU2_4 : Xi U2 (248 + ru) 4 = Xi U1 (248 + ru) 4 := by rw [eU2, Xi_ne (by omega)]
        have rU2_5 : Xi U2 (248 + ru) 5 = Xi U1 (248 + ru) 5 := by rw [eU2, Xi_ne (by omega)]
        have rU2_6 : Xi U2 (248 + ru) 6 = Xi U1 (248 + ru) 6 := by rw [eU2, Xi_ne (by omega)]
        have rU2_7 : Xi U2 (248 + ru) 7 = Xi U1 (248 + ru) 7 := by rw [eU2, Xi_ne (by omega)]
        have f132 : Xi U2 5 8 = Xi S 5 8 := hFU2.x 5 8 rfl
        refine l_iload rfl rfl ?_
        refine l_iconst rfl ?_
        refine l_icmp_eq rfl rfl (by unfold rg; omega) (by unfold rg; omega) (fun w14 => ?_) (fun w15 => ?_)
        · refine l_iconst rfl ?_
          refine l_goto rfl rfl ?_
          refine l_ireturn rfl rfl ?_
          have w16 : Xi U2 5 8 = Xi S 5 8 := (show Xi U2 5 8 = Xi U1 5 8 from by rw [eU2]; exact Xi_ne (by omega)).trans ((show Xi U1 5 8 = Xi S 5 8 from by rw [eU1]; exact Xi_ne (by omega)))
          have w18 : Xi U2 876 8 = Xi S 876 8 := (show Xi U2 876 8 = Xi U1 876 8 from by rw [eU2]; exact Xi_ne (by omega)).trans ((show Xi U1 876 8 = Xi S 876 8 from by rw [eU1]; exact Xi_ne (by omega)))
          have w19 : 0 ≤ Xi S 876 8 ∧ Xi S 876 8 ≤ 9 := hH.c _ _
          exact ⟨hHU2, hFU2, _, rfl, ⟨by omega, by omega⟩, ((kru_w eU2 (kru_w eU1 KRU.rf))), (fun q => by have e58 : Xi U2 5 8 = Xi S 5 8 := hFU2.x 5 8 rfl; omega), (fun q q2 => by first | (exfalso; omega) | (rw [(hFU2.cx 19 rfl _).1, show Xi U2 (248 + ru) 1 = v3 by omega]; exact hn32 (by omega))), (by omega), (fun q => by first | omega | (exfalso; omega))⟩
        · refine l_aload_n rfl rfl ?_
          refine l_gfr rfl rfl rfl rfl rfl (hHU2.r 899 0 876 rfl) ?_
          refine l_iload rfl rfl ?_
          refine l_if_ne rfl rfl (by unfold rg; omega) (fun w20 => ?_) (fun w21 => ?_)
          · refine l_bipush rfl rfl ?_
            refine l_iload_n rfl rfl ?_
            refine l_callV rfl rfl rfl (t_to_wrong hHU2 7 from_ ⟨by omega, by omega⟩ ⟨by omega, by omega⟩ _) ?_
            rintro _ T3 ⟨hHT3, w25, z24, rfl, w24, w22, w23⟩
            have hFT3 : FR md_rr_actingAlone S T3 := FR.tr hFU2 w25 rfl
            show Rl _ _ _ _ _ [iv z24] _ _
            have rT3_1 : Xi T3 (248 + ru) 1 = Xi U2 (248 + ru) 1 := FR_ru w25 rfl (by omega)
            have rT3_2 : Xi T3 (248 + ru) 2 = Xi U2 (248 + ru) 2 := FR_ru w25 rfl (by omega)
            have rT3_3 : Xi T3 (248 + ru) 3 = Xi U2 (248 + ru) 3 := FR_ru w25 rfl (by omega)
            have rT3_4 : Xi T3 (248 + ru) 4 = Xi U2 (248 + ru) 4 := FR_ru w25 rfl (by omega)
            have rT3_5 : Xi T3 (248 + ru) 5 = Xi U2 (248 + ru) 5 := FR_ru w25 rfl (by omega)
            have rT3_6 : Xi T3 (248 + ru) 6 = Xi U2 (248 + ru) 6 := FR_ru w25 rfl (by omega)
            have rT3_7 : Xi T3 (248 + ru) 7 = Xi U2 (248 + ru) 7 := FR_ru w25 rfl (by omega)
            refine l_if_eq rfl rfl (by unfold rg; omega) (fun w26 => ?_) (fun w27 => ?_)
            · refine l_iconst rfl ?_
              refine l_ireturn rfl rfl ?_
              have w28 : Xi T3 5 8 = Xi S 5 8 := (show Xi T3 5 8 = Xi U2 5 8 from w25.x _ _ rfl).trans ( (show Xi U2 5 8 = Xi U1 5 8 from by rw [eU2]; exact Xi_ne (by omega)).trans ((show Xi U1 5 8 = Xi S 5 8 from by rw [eU1]; exact Xi_ne (by omega))))
              have w30 : 0 ≤ Xi T3 876 8 ∧ Xi T3 876 8 ≤ 9 := hHT3.c _ _
              exact ⟨hHT3, hFT3, _, rfl, ⟨by omega, by omega⟩, ((kru_f w25 rfl (kru_w eU2 (kru_w eU1 KRU.rf)))), (fun q => by have e58 : Xi T3 5 8 = Xi S 5 8 := hFT3.x 5 8 rfl; omega), (fun q q2 => by first | (exfalso; omega) | (rw [(hFT3.cx 19 rfl _).1, show Xi T3 (248 + ru) 1 = v3 by omega]; exact hn32 (by omega))), (by omega), (fun q => by first | omega | (exfalso; omega))⟩
            · refine l_iconst rfl ?_
              refine l_goto rfl rfl ?_
              refine l_ireturn rfl rfl ?_
              have w31 : Xi T3 5 8 = Xi S 5 8 := (show Xi T3 5 8 = Xi U2 5 8 from w25.x _ _ rfl).trans ( (show Xi U2 5 8 = Xi U1 5 8 from by rw [eU2]; exact Xi_ne (by omega)).trans ((show Xi U1 5 8 = Xi S 5 8 from by rw [eU1]; exact Xi_ne (by omega))))
              have w33 : 0 ≤ Xi T3 876 8 ∧ Xi T3 876 8 ≤ 9 := hHT3.c _ _
              exact ⟨hHT3, hFT3, _, rfl, ⟨by omega, by omega⟩, ((kru_f w25 rfl (kru_w eU2 (kru_w eU1 KRU.rf)))), (fun q => by have e58 : Xi T3 5 8 = Xi S 5 8 := hFT3.x 5 8 rfl; omega), (fun q q2 => by first | (exfalso; omega) | (rw [(hFT3.cx 19 rfl _).1, show Xi T3 (248 + ru) 1 = v3 by omega]; exact hn32 (by omega))), (by omega), (fun q => by first | omega | (exfalso; omega))⟩
          · refine l_iconst rfl ?_
            refine l_goto rfl rfl ?_
            refine l_iload_n rfl rfl ?_
            refine l_callV rfl rfl rfl (t_to_wrong hHU2 4 from_ ⟨by omega, by omega⟩ ⟨by omega, by omega⟩ _) ?_
            rintro _ T4 ⟨hHT4, w37, z36, rfl, w36, w34, w35⟩
            have hFT4 : FR md_rr_actingAlone S T4 := FR.tr hFU2 w37 rfl
            show Rl _ _ _ _ _ [iv z36] _ _
            have rT4_1 : Xi T4 (248 + ru) 1 = Xi U2 (248 + ru) 1 := FR_ru w37 rfl (by omega)
            have rT4_2 : Xi T4 (248 + ru) 2 = Xi U2 (248 + ru) 2 := FR_ru w37 rfl (by omega)
            have rT4_3 : Xi T4 (248 + ru) 3 = Xi U2 (248 + ru) 3 := FR_ru w37 rfl (by omega)
            have rT4_4 : Xi T4 (248 + ru) 4 = Xi U2 (248 + ru) 4 := FR_ru w37 rfl (by omega)
            have rT4_5 : Xi T4 (248 + ru) 5 = Xi U2 (248 + ru) 5 := FR_ru w37 rfl (by omega)
            have rT4_6 : Xi T4 (248 + ru) 6 = Xi U2 (248 + ru) 6 := FR_ru w37 rfl (by omega)
            have rT4_7 : Xi T4 (248 + ru) 7 = Xi U2 (248 + ru) 7 := FR_ru w37 rfl (by omega)
            refine l_if_eq rfl rfl (by unfold rg; omega) (fun w38 => ?_) (fun w39 => ?_)
            · refine l_iconst rfl ?_
              refine l_ireturn rfl rfl ?_
              have w40 : Xi T4 5 8 = Xi S 5 8 := (show Xi T4 5 8 = Xi U2 5 8 from w37.x _ _ rfl).trans ( (show Xi U2 5 8 = Xi U1 5 8 from by rw [eU2]; exact Xi_ne (by omega)).trans ((show Xi U1 5 8 = Xi S 5 8 from by rw [eU1]; exact Xi_ne (by omega))))
              have w42 : 0 ≤ Xi T4 876 8 ∧ Xi T4 876 8 ≤ 9 := hHT4.c _ _
              exact ⟨hHT4, hFT4, _, rfl, ⟨by omega, by omega⟩, ((kru_f w37 rfl (kru_w eU2 (kru_w eU1 KRU.rf)))), (fun q => by have e58 : Xi T4 5 8 = Xi S 5 8 := hFT4.x 5 8 rfl; omega), (fun q q2 => by first | (exfalso; omega) | (rw [(hFT4.cx 19 rfl _).1, show Xi T4 (248 + ru) 1 = v3 by omega]; exact hn32 (by omega))), (by omega), (fun q => by first | omega | (exfalso; omega))⟩
            · refine l_iconst rfl ?_
              refine l_goto rfl rfl ?_
              refine l_ireturn rfl rfl ?_
              have w43 : Xi T4 5 8 = Xi S 5 8 := (show Xi T4 5 8 = Xi U2 5 8 from w37.x _ _ rfl).trans ( (show Xi U2 5 8 = Xi U1 5 8 from by rw [eU2]; exact Xi_ne (by omega)).trans ((show Xi U1 5 8 = Xi S 5 8 from by rw [eU1]; exact Xi_ne (by omega))))
              have w45 : 0 ≤ Xi T4 876 8 ∧ Xi T4 876 8 ≤ 9 := hHT4.c _ _
              exact ⟨hHT4, hFT4, _, rfl, ⟨by omega, by omega⟩, ((kru_f w37 rfl (kru_w eU2 (kru_w eU1 KRU.rf)))), (fun q => by have e58 : Xi T4 5 8 = Xi S 5 8 := hFT4.x 5 8 rfl; omega), (fun q q2 => by first | (exfalso; omega) | (rw [(hFT4.cx 19 rfl _).1, show Xi T4 (248 + ru) 1 = v3 by omega]; exact hn32 (by omega))), (by omega), (fun q => by first | omega | (exfalso; omega))⟩
      · refine l_aload_n rfl rfl ?_
        refine l_gfr rfl rfl rfl rfl rfl (hH.r 899 2 895 rfl) ?_
        refine l_bipush rfl rfl ?_
        refine l_iload_n rfl rfl ?_
        refine l_iload rfl rfl ?_
        refine l_callV rfl rfl rfl (t_me_find hH 8 from_ v6 ⟨by omega, by omega⟩ ⟨by omega, by omega⟩ ⟨by omega, by omega⟩ (by first | assumption | exact (LEX_FR hF rfl rfl (by assumption : LEX S))) _) ?_
        rintro _ _ ⟨rfl, z49, rfl, w49, w46, w47, w48⟩
        have w50 : z49 ≠ -1 → _ := fun h => fb8 hH (w46 h)
        clear w47
        show Rl _ _ _ _ _ [iv z49] _ _
        refine l_istore rfl rfl rfl ?_
        refine l_aload_n rfl rfl ?_
        refine l_gfr rfl rfl rfl rfl rfl (hH.r 899 2 895 rfl) ?_
        refine l_iconst rfl ?_
        refine l_iload rfl rfl ?_
        refine l_iload_n rfl rfl ?_
        refine l_callV rfl rfl rfl (t_me_find hH 2 v6 to ⟨by omega, by omega⟩ ⟨by omega, by omega⟩ ⟨by omega, by omega⟩ (by first | assumption | exact (LEX_FR hF rfl rfl (by assumption : LEX S))) _) ?_
        rintro _ _ ⟨rfl, z54, rfl, w54, w51, w52, w53⟩
        have w55 : z54 ≠ -1 → _ := fun h => fb2 hH (w51 h)
        clear w52
        show Rl _ _ _ _ _ [iv z54] _ _
        refine l_istore rfl rfl rfl ?_
        refine l_iload rfl rfl ?_
        refine l_iconst rfl ?_
        refine l_icmp_eq rfl rfl (by unfold rg; omega) (by unfold rg; omega) (fun w56 => ?_) (fun w57 => ?_)
        · refine l_iinc rfl rfl rfl rfl ?_
          refine l_goto rfl rfl ?_
          exact Rl_weak (ih32 _ (by omega) (v3) (v4) (v5) ((v6 + 1)) (by omega) (by omega) (by omega) (by omega) (by omega) (by omega) (by first | exact hn32 | (intro q; exfalso; omega) | exact fun _ => isK_o (by assumption) (by omega)) rfl) (And.intro rfl (And.intro rfl (And.intro rfl (And.intro rfl (And.intro rfl (And.intro rfl (And.intro rfl (True.intro))))))))
        · refine l_iload rfl rfl ?_
          refine l_iconst rfl ?_
          refine l_icmp_eq rfl rfl (by unfold rg; omega) (by unfold rg; omega) (fun w58 => ?_) (fun w59 => ?_)
          · refine l_iinc rfl rfl rfl rfl ?_
            refine l_goto rfl rfl ?_
            exact Rl_weak (ih32 _ (by omega) (v3) (v4) (v5) ((v6 + 1)) (by omega) (by omega) (by omega) (by omega) (by omega) (by omega) (by first | exact hn32 | (intro q; exfalso; omega) | exact fun _ => isK_o (by assumption) (by omega)) rfl) (And.intro rfl (And.intro rfl (And.intro rfl (And.intro rfl (And.intro rfl (And.intro rfl (And.intro rfl (True.intro))))))))
          · refine l_aload_n rfl rfl ?_
            refine l_gfr rfl rfl rfl rfl rfl (hH.r 899 2 895 rfl) ?_
            refine l_gfr rfl rfl rfl rfl rfl (hH.r 895 2 20 rfl) ?_
            refine l_iload rfl rfl ?_
            refine l_aload_n rfl rfl ?_
            refine l_gfr rfl rfl rfl rfl rfl (hH.r 899 1 1 rfl) ?_
            refine l_gfr rfl rfl rfl rfl rfl (hH.r 1 18 19 rfl) ?_
            refine l_iload rfl rfl ?_
            refine l_iaload (n := 12) rfl rfl (by omega) (by omega) (by unfold rg; omega) ?_
            have w60 : -2 ≤ (Xi S 19 ((z49).toNat)) ∧ (Xi S 19 ((z49).toNat)) ≤ 15 := hH.c _ _
            refine l_callV rfl rfl rfl (t_wo_isA hH z54 (Xi S 19 ((z49).toNat)) ⟨by omega, by omega⟩ ⟨by omega, by omega⟩ _) ?_
            rintro _ _ ⟨rfl, z62, rfl, w62, w61⟩
            show Rl _ _ _ _ _ [iv z62] _ _
            refine l_if_eq rfl rfl (by unfold rg; omega) (fun w63 => ?_) (fun w64 => ?_)
            · refine l_iinc rfl rfl rfl rfl ?_
              refine l_goto rfl rfl ?_
              exact Rl_weak (ih32 _ (by omega) (v3) (v4) (v5) ((v6 + 1)) (by omega) (by omega) (by omega) (by omega) (by omega) (by omega) (by first | exact hn32 | (intro q; exfalso; omega) | exact fun _ => isK_o (by assumption) (by omega)) rfl) (And.intro rfl (And.intro rfl (And.intro rfl (And.intro rfl (And.intro rfl (And.intro rfl (And.intro rfl (True.intro))))))))
            · refine l_iload rfl rfl ?_
              refine l_istore_n rfl rfl rfl ?_
              refine l_iload rfl rfl ?_
              refine l_istore rfl rfl rfl ?_
              refine l_iinc rfl rfl rfl rfl ?_
              refine l_iinc rfl rfl rfl rfl ?_
              refine l_goto rfl rfl ?_
              exact Rl_weak (ih32 _ (by omega) (z49) (z54) ((v5 + 1)) ((v6 + 1)) (by omega) (by omega) (by omega) (by omega) (by omega) (by omega) (by first | exact hn32 | (intro q; exfalso; omega) | exact fun _ => isK_o (by assumption) (by omega)) rfl) (And.intro rfl (And.intro rfl (And.intro rfl (And.intro rfl (And.intro rfl (And.intro rfl (And.intro rfl (True.intro))))))))
  refine l_aload_n rfl rfl ?_
  refine l_gfr rfl rfl rfl rfl rfl (hH.r 899 2 895 rfl) ?_
  refine l_bipush rfl rfl ?_
  refine l_iload_n rfl rfl ?_
  refine l_iload_n rfl rfl ?_
  refine l_callV rfl rfl rfl (t_me_find hH 8 from_ to ⟨by omega, by omega⟩ ⟨by omega, by omega⟩ ⟨by omega, by omega⟩ (by first | assumption | exact (LEX_FR hF rfl rfl (by assumption : LEX S))) _) ?_
  rintro _ _ ⟨rfl, z68, rfl, w68, w65, w66, w67⟩
  have w69 : z68 ≠ -1 → _ := fun h => fb8 hH (w65 h)
  clear w66
  show Rl _ _ _ _ _ [iv z68] _ _
  refine l_istore_n rfl rfl rfl ?_
  refine l_iconst rfl ?_
  refine l_istore rfl rfl rfl ?_
  refine l_iload_n rfl rfl ?_
  refine l_iconst rfl ?_
  refine l_icmp_ne rfl rfl (by unfold rg; omega) (by unfold rg; omega) (fun w70 => ?_) (fun w71 => ?_)
  · refine l_iconst rfl ?_
    refine l_istore rfl rfl rfl ?_
    refine l_iload_n rfl rfl ?_
    refine l_iconst rfl ?_
    refine l_iadd rfl ?_
    refine l_istore rfl rfl rfl ?_
    exact Rl_weak (C32 _ (z68) ((-1)) (1) ((from_ + 1)) (by omega) (by omega) (by omega) (by omega) (by omega) (by omega) (by first | exact hn32 | (intro q; exfalso; omega) | exact fun _ => isK_o (by assumption) (by omega)) rfl) (And.intro rfl (And.intro rfl (And.intro rfl (And.intro rfl (And.intro rfl (And.intro rfl (And.intro rfl (True.intro))))))))
  · refine l_iconst rfl ?_
    refine l_goto rfl rfl ?_
    refine l_istore rfl rfl rfl ?_
    refine l_iload_n rfl rfl ?_
    refine l_iconst rfl ?_
    refine l_iadd rfl ?_
    refine l_istore rfl rfl rfl ?_
    exact Rl_weak (C32 _ (z68) ((-1)) (0) ((from_ + 1)) (by omega) (by omega) (by omega) (by omega) (by omega) (by omega) (by first | exact hn32 | (intro q; exfalso; omega) | exact fun _ => isK_o (by assumption) (by omega)) rfl) (And.intro rfl (And.intro rfl (And.intro rfl (And.intro rfl (And.intro rfl (And.intro rfl (And.intro rfl (True.intro))))))))
def md_rr_nameNoun : List rec := [(895, 896, 3, 4), (895, 896, 4, 5)]
abbrev Q_rr_nameNoun (S : sS) (ru : Nat) : pst := fun r S1 => HI S1 ∧ FR md_rr_nameNoun S S1 ∧ (r = none ∧ (0 ≤ Xi S1 895 4 → Xi S 19 (Xi S (248 + ru) 1).toNat ≠ -1))
set_option maxRecDepth 100000 in
theorem t_rr_nameNoun {S : sS} (hH : HI S) (ru : Nat) (hru : S.2.2 899 4 = some (248 + ru)) (hrk : ru < 24) (ha : 0 ≤ Xi S (248 + ru) 1 ∧ Xi S (248 + ru) 1 < Xi S 5 8) (h2 : Xi S (248 + ru) 2 ≠ -1 → 0 ≤ Xi S 19 (Xi S (248 + ru) 1).toNat) (h3 : Xi S (248 + ru) 3 ≠ -1 → 0 ≤ Xi S 19 (Xi S (248 + ru) 1).toNat) (d : Nat) : Mt lay0 (d + 2) m_rr_nameNoun [.ref 899] S (Q_rr_nameNoun S ru) := by
  refine Mt_R rfl rfl ?_
  have hF : FR md_rr_nameNoun S S := FR.rf
  have w1 : 0 ≤ Xi S 5 8 ∧ Xi S 5 8 ≤ 12 := hH.c _ _
  have h58 : 0 ≤ Xi S 5 8 ∧ Xi S 5 8 ≤ 12 := hH.c _ _
  have C63 : ∀  (v1 : Int), (-2 ≤ v1 ∧ v1 ≤ 15) → (0 ≤ v1 → Xi S 19 (Xi S (248 + ru) 1).toNat ≠ -1) → Rl lay0 (d + 1) m_rr_nameNoun 63 [(0, .ref 899), (1, iv v1)] [] S (Q_rr_nameNoun S ru) := by
    intro v1 w2 w3
    refine l_aload_n rfl rfl ?_
    refine l_gfr rfl rfl rfl rfl rfl (hH.r 899 2 895 rfl) ?_
    refine l_bipush rfl rfl ?_
    refine l_iload_n rfl rfl ?_
    refine l_bipush rfl rfl ?_
    refine l_icmp_ne rfl rfl (by unfold rg; omega) (by unfold rg; omega) (fun w4 => ?_) (fun w5 => ?_)
    · refine l_iload_n rfl rfl ?_
      refine l_callV rfl rfl rfl (t_me_startSelf hH 53 v1 ⟨by omega, by omega⟩ ⟨by omega, by omega⟩ _) ?_
      rintro _ T1 ⟨hHT1, w8, rfl, w6⟩
      have hFT1 : FR md_rr_nameNoun S T1 := FR.tr hF w8 rfl
      show Rl _ _ _ _ _ [] _ _
      refine l_return rfl rfl ?_
      have w9 : -1 ≤ Xi T1 895 4 ∧ Xi T1 895 4 ≤ 15 := hHT1.c _ _
      exact ⟨hHT1, hFT1, rfl, (by omega)⟩
    · refine l_iconst rfl ?_
      refine l_goto rfl rfl ?_
      refine l_callV rfl rfl rfl (t_me_startSelf hH 53 (-1) ⟨by omega, by omega⟩ ⟨by omega, by omega⟩ _) ?_
      rintro _ T2 ⟨hHT2, w12, rfl, w10⟩
      have hFT2 : FR md_rr_nameNoun S T2 := FR.tr hF w12 rfl
      show Rl _ _ _ _ _ [] _ _
      refine l_return rfl rfl ?_
      have w13 : -1 ≤ Xi T2 895 4 ∧ Xi T2 895 4 ≤ 15 := hHT2.c _ _
      exact ⟨hHT2, hFT2, rfl, (by omega)⟩
  refine l_aload_n rfl rfl ?_
  refine l_gfr rfl rfl rfl rfl rfl (hH.r 899 1 1 rfl) ?_
  refine l_gfr rfl rfl rfl rfl rfl (hH.r 1 18 19 rfl) ?_
  refine l_aload_n rfl rfl ?_
  refine l_gfr rfl rfl rfl rfl rfl ((hF 899 4 rfl).2.2.trans hru) ?_
  refine l_iconst rfl ?_
  refine l_iaload (n := 8) rfl (lay_248 (by omega)) (by omega) (by omega) (by unfold rg; omega) ?_
  have w15 : -1 ≤ (Xi S (248 + ru) ((1 : Int).toNat)) ∧ (Xi S (248 + ru) ((1 : Int).toNat)) ≤ 11 := ruc1 hH (by omega)
  have w16 : (Xi S (248 + ru) ((1 : Int).toNat)) = Xi S (248 + ru) 1 := rfl
  refine l_iaload (n := 12) rfl rfl (by omega) (by omega) (by unfold rg; omega) ?_
  have w17 : -2 ≤ (Xi S 19 (((Xi S (248 + ru) ((1 : Int).toNat))).toNat)) ∧ (Xi S 19 (((Xi S (248 + ru) ((1 : Int).toNat))).toNat)) ≤ 15 := hH.c _ _
  have k13 : (Xi S 19 (((Xi S (248 + ru) ((1 : Int).toNat))).toNat)) = Xi S 19 (Xi S (248 + ru) 1).toNat := rfl
  refine l_istore_n rfl rfl rfl ?_
  refine l_aload_n rfl rfl ?_
  refine l_gfr rfl rfl rfl rfl rfl ((hF 899 4 rfl).2.2.trans hru) ?_
  refine l_iconst rfl ?_
  refine l_iaload (n := 8) rfl (lay_248 (by omega)) (by omega) (by omega) (by unfold rg; omega) ?_
  have w19 : -1 ≤ (Xi S (248 + ru) ((2 : Int).toNat)) ∧ (Xi S (248 + ru) ((2 : Int).toNat)) ≤ 23 := ruc2 hH (by omega)
  have w20 : (Xi S (248 + ru) ((2 : Int).toNat)) = Xi S (248 + ru) 2 := rfl
  refine l_iconst rfl ?_
  refine l_icmp_eq rfl rfl (by unfold rg; omega) (by unfold rg; omega) (fun w21 => ?_) (fun w22 => ?_)
  · refine l_aload_n rfl rfl ?_
    refine l_gfr rfl rfl rfl rfl rfl ((hF 899 4 rfl).2.2.trans hru) ?_
    refine l_iconst rfl ?_
    refine l_iaload (n := 8) rfl (lay_248 (by omega)) (by omega) (by omega) (by unfold rg; omega) ?_
    have w24 : -1 ≤ (Xi S (248 + ru) ((3 : Int).toNat)) ∧ (Xi S (248 + ru) ((3 : Int).toNat)) ≤ 15 := ruc3 hH (by omega)
    have w25 : (Xi S (248 + ru) ((3 : Int).toNat)) = Xi S (248 + ru) 3 := rfl
    refine l_iconst rfl ?_
    refine l_icmp_eq rfl rfl (by unfold rg; omega) (by unfold rg; omega) (fun w26 => ?_) (fun w27 => ?_)
    · exact Rl_weak (C63 ((Xi S 19 (((Xi S (248 + ru) ((1 : Int).toNat))).toNat))) (by omega) (by omega)) (And.intro rfl (And.intro rfl (True.intro)))
    · refine l_aload_n rfl rfl ?_
      refine l_gfr rfl rfl rfl rfl rfl ((hF 899 4 rfl).2.2.trans hru) ?_
      refine l_iconst rfl ?_
      refine l_iaload (n := 8) rfl (lay_248 (by omega)) (by omega) (by omega) (by unfold rg; omega) ?_
      refine l_istore_n rfl rfl rfl ?_
      exact Rl_weak (C63 ((Xi S (248 + ru) ((3 : Int).toNat))) (by omega) (by omega)) (And.intro rfl (And.intro rfl (True.intro)))
  · refine l_aload_n rfl rfl ?_
    refine l_gfr rfl rfl rfl rfl rfl (hH.r 899 2 895 rfl) ?_
    refine l_gfr rfl rfl rfl rfl rfl (hH.r 895 2 20 rfl) ?_
    refine l_gfr rfl rfl rfl rfl rfl (hH.r 20 2 21 rfl) ?_
    refine l_aload_n rfl rfl ?_
    refine l_gfr rfl rfl rfl rfl rfl ((hF 899 4 rfl).2.2.trans hru) ?_
    refine l_iconst rfl ?_
    refine l_iaload (n := 8) rfl (lay_248 (by omega)) (by omega) (by omega) (by unfold rg; omega) ?_
    refine l_iaload (n := 24) rfl rfl (by omega) (by omega) (by unfold rg; omega) ?_
    have w30 : 0 ≤ (Xi S 21 (((Xi S (248 + ru) ((2 : Int).toNat))).toNat)) ∧ (Xi S 21 (((Xi S (248 + ru) ((2 : Int).toNat))).toNat)) ≤ 15 := hH.c _ _
    refine l_istore_n rfl rfl rfl ?_
    refine l_goto rfl rfl ?_
    exact Rl_weak (C63 ((Xi S 21 (((Xi S (248 + ru) ((2 : Int).toNat))).toNat))) (by omega) (by omega)) (And.intro rfl (And.intro rfl (True.intro)))
/-! SAFETY of methods: printed by wip/safe (vc.py, decl.py) -/
def md_bo_addInsert__2 : List rec := [(246, 247, 8, 9), (274, 275, 0, 100000), (275, 276, 0, 100000)]
abbrev Q_bo_addInsert__2 (S : sS) (thing : Int) (prop : Int) : pst := fun r S1 => HI S1 ∧ FR md_bo_addInsert__2 S S1 ∧ (r = none ∧ (IAD S S1 thing prop) ∧ (Xi S1 246 8 = Xi S 246 8 + 1 ∨ 1666 ≤ Xi S1 246 8))
set_option maxRecDepth 100000 in
theorem t_bo_addInsert__2 {S : sS} (hH : HI S) (thing : Int) (prop : Int) (hthing : -2 ≤ thing ∧ thing ≤ 23) (hprop : -1 ≤ prop ∧ prop ≤ 11) (d : Nat) : Mt lay0 (d + 1) m_bo_addInsert [.ref 246, iv thing, iv prop] S (Q_bo_addInsert__2 S thing prop) := by
  refine Mt_R rfl rfl ?_
  have hF : FR md_bo_addInsert__2 S S := FR.rf
  have w1 : 0 ≤ Xi S 246 8 ∧ Xi S 246 8 ≤ 1666 := hH.c _ _
  refine l_aload_n rfl rfl ?_
  refine l_gfi rfl rfl rfl rfl rfl ?_
  refine l_sipush rfl rfl ?_
  refine l_icmp_ge rfl rfl (by unfold rg; omega) (by unfold rg; omega) (fun w2 => ?_) (fun w3 => ?_)
  · refine l_return rfl rfl ?_
    exact ⟨hH, hF, rfl, (by first | exact iad_0 hH | exact iad_1 eU1 eU2 eU3 rfl (by omega) (by omega) (by unfold rg; omega) (by unfold rg; omega)), (by omega)⟩
  · refine l_aload_n rfl rfl ?_
    refine l_gfr rfl rfl rfl rfl rfl (hH.r 246 6 274 rfl) ?_
    refine l_aload_n rfl rfl ?_
    refine l_gfi rfl rfl rfl rfl rfl ?_
    refine l_iload_n rfl rfl ?_
    refine l_iastore (n := 1666) rfl rfl (by omega) (by omega) (by unfold rg; omega) ?_
    obtain ⟨U1, eU1⟩ : ∃ T : sS, T = uI S 274 (((Xi S 246 8)).toNat) (Int32.ofInt thing) := ⟨_, rfl⟩
    rw [← eU1]
    have hHU1 : HI U1 := by rw [eU1]; exact HI_w hH (show -2 ≤ thing by omega) (show thing ≤ 23 by omega)
    have hFU1 : FR md_bo_addInsert__2 S U1 := by rw [eU1]; exact FR.wI hF (mdf_i (r := (274, 275, 0, 100000)) (List.mem_of_getElem? (i := 1) rfl) (inR_i (by omega) (by omega) (by omega) (by omega)))
    have w5 : Xi U1 274 (((Xi S 246 8)).toNat) = thing := by rw [eU1]; exact Xi_same (by unfold rg; omega)
    refine l_aload_n rfl rfl ?_
    refine l_gfr rfl rfl rfl rfl rfl (hHU1.r 246 7 275 rfl) ?_
    refine l_aload_n rfl rfl ?_
    refine l_gfi rfl rfl rfl rfl rfl ?_
    have w6 : (Xi U1 246 8) = (Xi S 246 8) := (show Xi U1 246 8 = Xi S 246 8 from by rw [eU1]; exact Xi_ne (by omega))
    rw [w6]
    refine l_iload_n rfl rfl ?_
    refine l_iastore (n := 1666) rfl rfl (by omega) (by omega) (by unfold rg; omega) ?_
    obtain ⟨U2, eU2⟩ : ∃ T : sS, T = uI U1 275 (((Xi S 246 8)).toNat) (Int32.ofInt prop) := ⟨_, rfl⟩
    rw [← eU2]
    have hHU2 : HI U2 := by rw [eU2]; exact HI_w hHU1 (show -1 ≤ prop by omega) (show prop ≤ 11 by omega)
    have hFU2 : FR md_bo_addInsert__2 S U2 := by rw [eU2]; exact FR.wI hFU1 (mdf_i (r := (275, 276, 0, 100000)) (List.mem_of_getElem? (i := 2) rfl) (inR_i (by omega) (by omega) (by omega) (by omega)))
    have w7 : Xi U2 275 (((Xi S 246 8)).toNat) = prop := by rw [eU2]; exact Xi_same (by unfold rg; omega)
    refine l_aload_n rfl rfl ?_
    refine l_dup rfl rfl ?_
    refine l_gfi rfl rfl rfl rfl rfl ?_
    have w8 : (Xi U2 246 8) = (Xi S 246 8) := (show Xi U2 246 8 = Xi U1 246 8 from by rw [eU2]; exact Xi_ne (by omega)).trans ((show Xi U1 246 8 = Xi S 246 8 from by rw [eU1]; exact Xi_ne (by omega)))
    rw [w8]
    refine l_iconst rfl ?_
    refine l_iadd rfl ?_
    refine l_pfi rfl rfl rfl rfl ?_
    obtain ⟨U3, eU3⟩ : ∃ T : sS, T = uI U2 246 8 (Int32.ofInt ((Xi S 246 8) + 1)) := ⟨_, rfl⟩
    rw [← eU3]
    have hHU3 : HI U3 := by rw [eU3]; exact HI_w hHU2 (show 0 ≤ ((Xi S 246 8) + 1) by omega) (show ((Xi S 246 8) + 1) ≤ 1666 by omega)
    have hFU3 : FR md_bo_addInsert__2 S U3 := by rw [eU3]; exact FR.wI hFU2 (mdf_i (r := (246, 247, 8, 9)) (List.mem_of_getElem? (i := 0) rfl) (inR_i (by omega) (by omega) (by omega) (by omega)))
    have w9 : Xi U3 246 8 = ((Xi S 246 8) + 1) := by rw [eU3]; exact Xi_same (by unfold rg; omega)
    refine l_return rfl rfl ?_
    have w10 : 0 ≤ Xi U3 246 8 ∧ Xi U3 246 8 ≤ 1666 := hHU3.c _ _
    exact ⟨hHU3, hFU3, rfl, (by first | exact iad_0 hH | exact iad_1 eU1 eU2 eU3 rfl (by omega) (by omega) (by unfold rg; omega) (by unfold rg; omega)), (by omega)⟩
def md_rr_tryAlone : List rec := [(276, 876, 2, 3), (276, 876, 3, 4), (876, 877, 8, 9), (876, 877, 9, 10)]
abbrev Q_rr_tryAlone (S : sS) (from_ : Int) (to : Int) (cl : Nat) : pst := fun r S1 => HI S1 ∧ FR md_rr_tryAlone S S1 ∧ (∃ z : Int, r = some (iv z) ∧ (0 ≤ z ∧ z ≤ 1) ∧ (KCL S S1 cl) ∧ (z = 1 → CLok S1 (0 ≤ Xi S 895 4) cl) ∧ (z = 0 → Xi S1 876 8 ≠ 0))
set_option maxRecDepth 100000 in
theorem t_rr_tryAlone {S : sS} (hH : HI S) (from_ : Int) (to : Int) (cl : Nat) (hfrom_ : 0 ≤ from_ ∧ from_ ≤ 5130) (hto : 0 ≤ to ∧ to ≤ 5130) (hcl : cl < 600) (hL : LEX S) (hf : Xi S (276 + cl) 0 = 10) (d : Nat) : Mt lay0 (d + 3) m_rr_tryAlone [.ref 899, iv from_, iv to, .ref (276 + cl)] S (Q_rr_tryAlone S from_ to cl) := by
  refine Mt_R rfl rfl ?_
  have hF : FR md_rr_tryAlone S S := FR.rf
  have w1 : -1 ≤ Xi S 895 4 ∧ Xi S 895 4 ≤ 15 := hH.c _ _
  have C50 : ∀ (n50 : Nat) (T1 : sS) (_ : HI T1) (_ : FR md_rr_tryAlone S T1) (v4 : Int) (v6 : Int), (0 ≤ v4 ∧ v4 ≤ 5132) → (1 ≤ v6 ∧ v6 ≤ 5131) → (KCL S T1 cl) → (Xi T1 (276 + cl) 0 = 10) → (v4 ≤ v6 + 1) → (v4 ≠ 0 → CLok T1 (0 ≤ Xi S 895 4) cl) → n50 = (5132 - v6).toNat → Rl lay0 (d + 2) m_rr_tryAlone 50 [(0, .ref 899), (1, iv from_), (2, iv to), (3, .ref (276 + cl)), (4, iv v4), (6, iv v6)] [] T1 (Q_rr_tryAlone S from_ to cl) := by
    intro n50
    induction n50 using Nat.strongRecOn with
    | ind n50 ih50 =>
      intro T1 hHT1 hFT1 v4 v6 w2 w3 hk50 w4 w5 ho50 hm50
      have w6 : Xi T1 895 4 = Xi S 895 4 := hFT1.x _ _ rfl
      refine l_iload rfl rfl ?_
      refine l_iload_n rfl rfl ?_
      refine l_icmp_ge rfl rfl (by unfold rg; omega) (by unfold rg; omega) (fun w7 => ?_) (fun w8 => ?_)
      · refine l_iload rfl rfl ?_
        refine l_iconst rfl ?_
        refine l_icmp_eq rfl rfl (by unfold rg; omega) (by unfold rg; omega) (fun w9 => ?_) (fun w10 => ?_)
        · refine l_iconst rfl ?_
          refine l_goto rfl rfl ?_
          refine l_ireturn rfl rfl ?_
          have w11 : 0 ≤ Xi T1 876 8 ∧ Xi T1 876 8 ≤ 9 := hHT1.c _ _
          exact ⟨hHT1, hFT1, _, rfl, ⟨by omega, by omega⟩, (hk50), (fun q => by first | (exfalso; omega) | exact ho50 (by omega)), (fun q => by first | omega | (exfalso; omega))⟩
        · refine l_aload_n rfl rfl ?_
          refine l_gfr rfl rfl rfl rfl rfl (hHT1.r 899 0 876 rfl) ?_
          refine l_iload rfl rfl ?_
          refine l_if_ne rfl rfl (by unfold rg; omega) (fun w12 => ?_) (fun w13 => ?_)
          · refine l_bipush rfl rfl ?_
            refine l_iload_n rfl rfl ?_
            refine l_callV rfl rfl rfl (t_to_wrong hHT1 7 from_ ⟨by omega, by omega⟩ ⟨by omega, by omega⟩ _) ?_
            rintro _ T2 ⟨hHT2, w17, z16, rfl, w16, w14, w15⟩
            have hFT2 : FR md_rr_tryAlone S T2 := FR.tr hFT1 w17 rfl
            show Rl _ _ _ _ _ [iv z16] _ _
            refine l_if_eq rfl rfl (by unfold rg; omega) (fun w18 => ?_) (fun w19 => ?_)
            · refine l_iconst rfl ?_
              refine l_ireturn rfl rfl ?_
              have w20 : Xi T2 (276 + cl) 0 = Xi T1 (276 + cl) 0 := (show Xi T2 (276 + cl) 0 = Xi T1 (276 + cl) 0 from FR_cl w17 rfl (by omega))
              have w21 : 0 ≤ Xi T2 876 8 ∧ Xi T2 876 8 ≤ 9 := hHT2.c _ _
              exact ⟨hHT2, hFT2, _, rfl, ⟨by omega, by omega⟩, ((kcl_f w17 rfl hk50)), (fun q => by first | (exfalso; omega) | exact ho50 (by omega)), (fun q => by first | omega | (exfalso; omega))⟩
            · refine l_iconst rfl ?_
              refine l_goto rfl rfl ?_
              refine l_ireturn rfl rfl ?_
              have w22 : Xi T2 (276 + cl) 0 = Xi T1 (276 + cl) 0 := (show Xi T2 (276 + cl) 0 = Xi T1 (276 + cl) 0 from FR_cl w17 rfl (by omega))
              have w23 : 0 ≤ Xi T2 876 8 ∧ Xi T2 876 8 ≤ 9 := hHT2.c _ _
              exact ⟨hHT2, hFT2, _, rfl, ⟨by omega, by omega⟩, ((kcl_f w17 rfl hk50)), (fun q => by first | (exfalso; omega) | exact ho50 (by omega)), (fun q => by first | omega | (exfalso; omega))⟩
          · refine l_iconst rfl ?_
            refine l_goto rfl rfl ?_
            refine l_iload_n rfl rfl ?_
            refine l_callV rfl rfl rfl (t_to_wrong hHT1 4 from_ ⟨by omega, by omega⟩ ⟨by omega, by omega⟩ _) ?_
            rintro _ T3 ⟨hHT3, w27, z26, rfl, w26, w24, w25⟩
            have hFT3 : FR md_rr_tryAlone S T3 := FR.tr hFT1 w27 rfl
            show Rl _ _ _ _ _ [iv z26] _ _
            refine l_if_eq rfl rfl (by unfold rg; omega) (fun w28 => ?_) (fun w29 => ?_)
            · refine l_iconst rfl ?_
              refine l_ireturn rfl rfl ?_
              have w30 : Xi T3 (276 + cl) 0 = Xi T1 (276 + cl) 0 := (show Xi T3 (276 + cl) 0 = Xi T1 (276 + cl) 0 from FR_cl w27 rfl (by omega))
              have w31 : 0 ≤ Xi T3 876 8 ∧ Xi T3 876 8 ≤ 9 := hHT3.c _ _
              exact ⟨hHT3, hFT3, _, rfl, ⟨by omega, by omega⟩, ((kcl_f w27 rfl hk50)), (fun q => by first | (exfalso; omega) | exact ho50 (by omega)), (fun q => by first | omega | (exfalso; omega))⟩
            · refine l_iconst rfl ?_
              refine l_goto rfl rfl ?_
              refine l_ireturn rfl rfl ?_
              have w32 : Xi T3 (276 + cl) 0 = Xi T1 (276 + cl) 0 := (show Xi T3 (276 + cl) 0 = Xi T1 (276 + cl) 0 from FR_cl w27 rfl (by omega))
              have w33 : 0 ≤ Xi T3 876 8 ∧ Xi T3 876 8 ≤ 9 := hHT3.c _ _
              exact ⟨hHT3, hFT3, _, rfl, ⟨by omega, by omega⟩, ((kcl_f w27 rfl hk50)), (fun q => by first | (exfalso; omega) | exact ho50 (by omega)), (fun q => by first | omega | (exfalso; omega))⟩
      · refine l_aload_n rfl rfl ?_
        refine l_gfr rfl rfl rfl rfl rfl (hHT1.r 899 2 895 rfl) ?_
        refine l_bipush rfl rfl ?_
        refine l_iload_n rfl rfl ?_
        refine l_iload rfl rfl ?_
        refine l_callV rfl rfl rfl (t_me_find hHT1 8 from_ v6 ⟨by omega, by omega⟩ ⟨by omega, by omega⟩ ⟨by omega, by omega⟩ (by first | assumption | exact (LEX_FR hFT1 rfl rfl (by assumption : LEX S))) _) ?_
        rintro _ _ ⟨rfl, z37, rfl, w37, w34, w35, w36⟩
        have w38 : z37 ≠ -1 → _ := fun h => fb8 hHT1 (w34 h)
        clear w35
        show Rl _ _ _ _ _ [iv z37] _ _
        refine l_istore rfl rfl rfl ?_
        refine l_aload_n rfl rfl ?_
        refine l_gfr rfl rfl rfl rfl rfl (hHT1.r 899 2 895 rfl) ?_
        refine l_iconst rfl ?_
        refine l_iload rfl rfl ?_
        refine l_iload_n rfl rfl ?_
        refine l_callV rfl rfl rfl (t_me_find hHT1 2 v6 to ⟨by omega, by omega⟩ ⟨by omega, by omega⟩ ⟨by omega, by omega⟩ (by first | assumption | exact (LEX_FR hFT1 rfl rfl (by assumption : LEX S))) _) ?_
        rintro _ _ ⟨rfl, z42, rfl, w42, w39, w40, w41⟩
        have w43 : z42 ≠ -1 → _ := fun h => fb2 hHT1 (w39 h)
        clear w40
        show Rl _ _ _ _ _ [iv z42] _ _
        refine l_istore rfl rfl rfl ?_
        refine l_iload rfl rfl ?_
        refine l_iconst rfl ?_
        refine l_icmp_eq rfl rfl (by unfold rg; omega) (by unfold rg; omega) (fun w44 => ?_) (fun w45 => ?_)
        · refine l_iinc rfl rfl rfl rfl ?_
          refine l_goto rfl rfl ?_
          exact Rl_weak (ih50 _ (by omega) T1 hHT1 hFT1 (v4) ((v6 + 1)) (by omega) (by omega) (hk50) (by omega) (by omega) (by first | (intro q; exfalso; omega) | exact fun _ => c117 | exact fun _ => c39 | exact ho50) rfl) (And.intro rfl (And.intro rfl (And.intro rfl (And.intro rfl (And.intro rfl (And.intro rfl (True.intro)))))))
        · refine l_iload rfl rfl ?_
          refine l_iconst rfl ?_
          refine l_icmp_eq rfl rfl (by unfold rg; omega) (by unfold rg; omega) (fun w46 => ?_) (fun w47 => ?_)
          · refine l_iinc rfl rfl rfl rfl ?_
            refine l_goto rfl rfl ?_
            exact Rl_weak (ih50 _ (by omega) T1 hHT1 hFT1 (v4) ((v6 + 1)) (by omega) (by omega) (hk50) (by omega) (by omega) (by first | (intro q; exfalso; omega) | exact fun _ => c117 | exact fun _ => c39 | exact ho50) rfl) (And.intro rfl (And.intro rfl (And.intro rfl (And.intro rfl (And.intro rfl (And.intro rfl (True.intro)))))))
          · refine l_aload_n rfl rfl ?_
            refine l_gfr rfl rfl rfl rfl rfl (hHT1.r 899 1 1 rfl) ?_
            refine l_gfr rfl rfl rfl rfl rfl (hHT1.r 1 18 19 rfl) ?_
            refine l_iload rfl rfl ?_
            refine l_iaload (n := 12) rfl rfl (by omega) (by omega) (by unfold rg; omega) ?_
            have w48 : -2 ≤ (Xi T1 19 ((z37).toNat)) ∧ (Xi T1 19 ((z37).toNat)) ≤ 15 := hHT1.c _ _
            have a104 : (Xi T1 19 ((z37).toNat)) = Xi S 19 (z37).toNat := (hFT1.cx 19 rfl _).1
            have e104 : Xi T1 5 8 = Xi S 5 8 := hFT1.x 5 8 rfl
            refine l_if_lt rfl rfl (by unfold rg; omega) (fun w49 => ?_) (fun w50 => ?_)
            · refine l_iinc rfl rfl rfl rfl ?_
              refine l_goto rfl rfl ?_
              exact Rl_weak (ih50 _ (by omega) T1 hHT1 hFT1 (v4) ((v6 + 1)) (by omega) (by omega) (hk50) (by omega) (by omega) (by first | (intro q; exfalso; omega) | exact fun _ => c117 | exact fun _ => c39 | exact ho50) rfl) (And.intro rfl (And.intro rfl (And.intro rfl (And.intro rfl (And.intro rfl (And.intro rfl (True.intro)))))))
            · refine l_aload_n rfl rfl ?_
              refine l_iload rfl rfl ?_
              refine l_pfi rfl rfl (layClW (by omega) rfl) rfl ?_
              obtain ⟨U4, eU4⟩ : ∃ T : sS, T = uI T1 (276 + cl) 3 (Int32.ofInt z37) := ⟨_, rfl⟩
              rw [← eU4]
              have hHU4 : HI U4 := by rw [eU4]; exact HI_w hHT1 (by rw [lh_cl3 (by omega)]; omega) (by rw [lh_cl3 (by omega)]; omega)
              have hFU4 : FR md_rr_tryAlone S U4 := by rw [eU4]; exact FR.wI hFT1 (mdf_i (r := (276, 876, 3, 4)) (List.mem_of_getElem? (i := 1) rfl) (inR_i (by omega) (by omega) (by omega) (by omega)))
              have w51 : Xi U4 (276 + cl) 3 = z37 := by rw [eU4]; exact Xi_same (by unfold rg; omega)
              have f111_0 : Xi U4 (276 + cl) 0 = Xi T1 (276 + cl) 0 := by rw [eU4, Xi_ne (by omega)]
              refine l_aload_n rfl rfl ?_
              refine l_iload rfl rfl ?_
              refine l_pfi rfl rfl (layClW (by omega) rfl) rfl ?_
              obtain ⟨U5, eU5⟩ : ∃ T : sS, T = uI U4 (276 + cl) 2 (Int32.ofInt z42) := ⟨_, rfl⟩
              rw [← eU5]
              have hHU5 : HI U5 := by rw [eU5]; exact HI_w hHU4 (by rw [lh_cl2 (by omega)]; omega) (by rw [lh_cl2 (by omega)]; omega)
              have hFU5 : FR md_rr_tryAlone S U5 := by rw [eU5]; exact FR.wI hFU4 (mdf_i (r := (276, 876, 2, 3)) (List.mem_of_getElem? (i := 0) rfl) (inR_i (by omega) (by omega) (by omega) (by omega)))
              have w52 : Xi U5 (276 + cl) 2 = z42 := by rw [eU5]; exact Xi_same (by unfold rg; omega)
              have f117_0 : Xi U5 (276 + cl) 0 = Xi U4 (276 + cl) 0 := by rw [eU5, Xi_ne (by omega)]
              have f117_3 : Xi U5 (276 + cl) 3 = Xi U4 (276 + cl) 3 := by rw [eU5, Xi_ne (by omega)]
              have b117 : ∀ j, Xi U5 19 j = Xi S 19 j := fun j => (hFU5.cx 19 rfl j).1
              have c117 : CLok U5 (0 ≤ Xi S 895 4) cl := cl_10 (by omega) (x := z42) (by omega) (y := z37) (by omega) ⟨by omega, (by have e58 : Xi U5 5 8 = Xi S 5 8 := hFU5.x 5 8 rfl; omega)⟩ (fun _ => Or.inl (by omega)) (by rw [b117]; omega)
              refine l_iinc rfl rfl rfl rfl ?_
              refine l_iinc rfl rfl rfl rfl ?_
              refine l_goto rfl rfl ?_
              have w53 : Xi U5 (276 + cl) 0 = Xi T1 (276 + cl) 0 := (show Xi U5 (276 + cl) 0 = Xi U4 (276 + cl) 0 from by rw [eU5]; exact Xi_ne (by omega)).trans ((show Xi U4 (276 + cl) 0 = Xi T1 (276 + cl) 0 from by rw [eU4]; exact Xi_ne (by omega)))
              exact Rl_weak (ih50 _ (by omega) U5 hHU5 hFU5 ((v4 + 1)) ((v6 + 1)) (by omega) (by omega) ((kcl_w eU5 (kcl_w eU4 hk50))) (by omega) (by omega) (by first | (intro q; exfalso; omega) | exact fun _ => c117 | exact fun _ => c39 | exact ho50) rfl) (And.intro rfl (And.intro rfl (And.intro rfl (And.intro rfl (And.intro rfl (And.intro rfl (True.intro)))))))
  refine l_iconst rfl ?_
  refine l_istore rfl rfl rfl ?_
  refine l_aload_n rfl rfl ?_
  refine l_gfr rfl rfl rfl rfl rfl (hH.r 899 2 895 rfl) ?_
  refine l_bipush rfl rfl ?_
  refine l_iload_n rfl rfl ?_
  refine l_iload_n rfl rfl ?_
  refine l_callV rfl rfl rfl (t_me_find hH 8 from_ to ⟨by omega, by omega⟩ ⟨by omega, by omega⟩ ⟨by omega, by omega⟩ (by first | assumption | exact (LEX_FR hF rfl rfl (by assumption : LEX S))) _) ?_
  rintro _ _ ⟨rfl, z57, rfl, w57, w54, w55, w56⟩
  have w58 : z57 ≠ -1 → _ := fun h => fb8 hH (w54 h)
  clear w55
  show Rl _ _ _ _ _ [iv z57] _ _
  refine l_istore rfl rfl rfl ?_
  refine l_iload rfl rfl ?_
  refine l_iconst rfl ?_
  refine l_icmp_eq rfl rfl (by unfold rg; omega) (by unfold rg; omega) (fun w59 => ?_) (fun w60 => ?_)
  · refine l_iload_n rfl rfl ?_
    refine l_iconst rfl ?_
    refine l_iadd rfl ?_
    refine l_istore rfl rfl rfl ?_
    exact Rl_weak (C50 _ S hH hF (0) ((from_ + 1)) (by omega) (by omega) (KCL.rf) (by omega) (by omega) (by first | (intro q; exfalso; omega) | exact fun _ => c117 | exact fun _ => c39 | exact ho50) rfl) (And.intro rfl (And.intro rfl (And.intro rfl (And.intro rfl (And.intro rfl (And.intro rfl (True.intro)))))))
  · refine l_aload_n rfl rfl ?_
    refine l_gfr rfl rfl rfl rfl rfl (hH.r 899 1 1 rfl) ?_
    refine l_gfr rfl rfl rfl rfl rfl (hH.r 1 18 19 rfl) ?_
    refine l_iload rfl rfl ?_
    refine l_iaload (n := 12) rfl rfl (by omega) (by omega) (by unfold rg; omega) ?_
    have w61 : -2 ≤ (Xi S 19 ((z57).toNat)) ∧ (Xi S 19 ((z57).toNat)) ≤ 15 := hH.c _ _
    have a31 : (Xi S 19 ((z57).toNat)) = Xi S 19 (z57).toNat := rfl
    refine l_iconst rfl ?_
    refine l_icmp_ne rfl rfl (by unfold rg; omega) (by unfold rg; omega) (fun w62 => ?_) (fun w63 => ?_)
    · refine l_iload_n rfl rfl ?_
      refine l_iconst rfl ?_
      refine l_iadd rfl ?_
      refine l_istore rfl rfl rfl ?_
      exact Rl_weak (C50 _ S hH hF (0) ((from_ + 1)) (by omega) (by omega) (KCL.rf) (by omega) (by omega) (by first | (intro q; exfalso; omega) | exact fun _ => c117 | exact fun _ => c39 | exact ho50) rfl) (And.intro rfl (And.intro rfl (And.intro rfl (And.intro rfl (And.intro rfl (And.intro rfl (True.intro)))))))
    · refine l_aload_n rfl rfl ?_
      refine l_iload rfl rfl ?_
      refine l_pfi rfl rfl (layClW (by omega) rfl) rfl ?_
      obtain ⟨U6, eU6⟩ : ∃ T : sS, T = uI S (276 + cl) 3 (Int32.ofInt z57) := ⟨_, rfl⟩
      rw [← eU6]
      have hHU6 : HI U6 := by rw [eU6]; exact HI_w hH (by rw [lh_cl3 (by omega)]; omega) (by rw [lh_cl3 (by omega)]; omega)
      have hFU6 : FR md_rr_tryAlone S U6 := by rw [eU6]; exact FR.wI hF (mdf_i (r := (276, 876, 3, 4)) (List.mem_of_getElem? (i := 1) rfl) (inR_i (by omega) (by omega) (by omega) (by omega)))
      have w64 : Xi U6 (276 + cl) 3 = z57 := by rw [eU6]; exact Xi_same (by unfold rg; omega)
      have f39_0 : Xi U6 (276 + cl) 0 = Xi S (276 + cl) 0 := by rw [eU6, Xi_ne (by omega)]
      have b39 : ∀ j, Xi U6 19 j = Xi S 19 j := fun j => (hFU6.cx 19 rfl j).1
      have c39 : CLok U6 (0 ≤ Xi S 895 4) cl := cl_10 (by omega) (x := Xi U6 (276 + cl) 2) rfl (y := z57) (by omega) ⟨by omega, (by have e58 : Xi U6 5 8 = Xi S 5 8 := hFU6.x 5 8 rfl; omega)⟩ (by rw [b39]; intro q; omega) (by rw [b39]; omega)
      refine l_iinc rfl rfl rfl rfl ?_
      refine l_iload_n rfl rfl ?_
      refine l_iconst rfl ?_
      refine l_iadd rfl ?_
      refine l_istore rfl rfl rfl ?_
      have w65 : Xi U6 (276 + cl) 0 = Xi S (276 + cl) 0 := (show Xi U6 (276 + cl) 0 = Xi S (276 + cl) 0 from by rw [eU6]; exact Xi_ne (by omega))
      exact Rl_weak (C50 _ U6 hHU6 hFU6 ((0 + 1)) ((from_ + 1)) (by omega) (by omega) ((kcl_w eU6 KCL.rf)) (by omega) (by omega) (by first | (intro q; exfalso; omega) | exact fun _ => c117 | exact fun _ => c39 | exact ho50) rfl) (And.intro rfl (And.intro rfl (And.intro rfl (And.intro rfl (And.intro rfl (And.intro rfl (True.intro)))))))
def md_rr_tryOn : List rec := [(276, 876, 2, 3), (276, 876, 3, 4), (876, 877, 8, 9), (876, 877, 9, 10), (895, 896, 5, 6), (895, 896, 6, 7), (895, 896, 7, 8)]
abbrev Q_rr_tryOn (S : sS) (from_ : Int) (behind : Int) (to : Int) (cl : Nat) : pst := fun r S1 => HI S1 ∧ FR md_rr_tryOn S S1 ∧ (∃ z : Int, r = some (iv z) ∧ (0 ≤ z ∧ z ≤ 1) ∧ (KCL S S1 cl) ∧ (z = 1 → CLok S1 (0 ≤ Xi S 895 4) cl) ∧ (z = 0 → Xi S1 876 8 ≠ 0))
set_option maxRecDepth 100000 in
theorem t_rr_tryOn {S : sS} (hH : HI S) (from_ : Int) (behind : Int) (to : Int) (cl : Nat) (hfrom_ : 0 ≤ from_ ∧ from_ ≤ 5130) (hbehind : 0 ≤ behind ∧ behind ≤ 5140) (hto : 0 ≤ to ∧ to ≤ 5140) (hcl : cl < 600) (hL : LEX S) (hf : Xi S (276 + cl) 0 = 10) (d : Nat) : Mt lay0 (d + 3) m_rr_tryOn [.ref 899, iv from_, iv behind, iv to, .ref (276 + cl)] S (Q_rr_tryOn S from_ behind to cl) := by
  refine Mt_R rfl rfl ?_
  have hF : FR md_rr_tryOn S S := FR.rf
  have w1 : -1 ≤ Xi S 895 4 ∧ Xi S 895 4 ≤ 15 := hH.c _ _
  refine l_aload rfl rfl ?_
  refine l_aload_n rfl rfl ?_
  refine l_gfr rfl rfl rfl rfl rfl (hH.r 899 2 895 rfl) ?_
  refine l_bipush rfl rfl ?_
  refine l_iload_n rfl rfl ?_
  refine l_iload_n rfl rfl ?_
  refine l_callV rfl rfl rfl (t_me_find hH 8 from_ behind ⟨by omega, by omega⟩ ⟨by omega, by omega⟩ ⟨by omega, by omega⟩ (by first | assumption | exact (LEX_FR hF rfl rfl (by assumption : LEX S))) _) ?_
  rintro _ _ ⟨rfl, z6, rfl, w6, w3, w4, w5⟩
  have w7 : z6 ≠ -1 → _ := fun h => fb8 hH (w3 h)
  clear w4
  show Rl _ _ _ _ _ [iv z6, .ref (276 + cl)] _ _
  refine l_pfi rfl rfl (layClW (by omega) rfl) rfl ?_
  obtain ⟨U1, eU1⟩ : ∃ T : sS, T = uI S (276 + cl) 3 (Int32.ofInt z6) := ⟨_, rfl⟩
  rw [← eU1]
  have hHU1 : HI U1 := by rw [eU1]; exact HI_w hH (by rw [lh_cl3 (by omega)]; omega) (by rw [lh_cl3 (by omega)]; omega)
  have hFU1 : FR md_rr_tryOn S U1 := by rw [eU1]; exact FR.wI hF (mdf_i (r := (276, 876, 3, 4)) (List.mem_of_getElem? (i := 1) rfl) (inR_i (by omega) (by omega) (by omega) (by omega)))
  have w8 : Xi U1 (276 + cl) 3 = z6 := by rw [eU1]; exact Xi_same (by unfold rg; omega)
  have f13_0 : Xi U1 (276 + cl) 0 = Xi S (276 + cl) 0 := by rw [eU1, Xi_ne (by omega)]
  refine l_aload rfl rfl ?_
  refine l_gfi rfl rfl rfl (layCl (by omega)) rfl ?_
  refine l_iconst rfl ?_
  refine l_icmp_eq rfl rfl (by unfold rg; omega) (by unfold rg; omega) (fun w9 => ?_) (fun w10 => ?_)
  · refine l_aload_n rfl rfl ?_
    refine l_gfr rfl rfl rfl rfl rfl (hHU1.r 899 0 876 rfl) ?_
    refine l_iconst rfl ?_
    refine l_iload_n rfl rfl ?_
    have w11 : Xi U1 (276 + cl) 0 = Xi S (276 + cl) 0 := (show Xi U1 (276 + cl) 0 = Xi S (276 + cl) 0 from by rw [eU1]; exact Xi_ne (by omega))
    have w12 : Xi U1 (276 + cl) 2 = Xi S (276 + cl) 2 := (show Xi U1 (276 + cl) 2 = Xi S (276 + cl) 2 from by rw [eU1]; exact Xi_ne (by omega))
    refine l_callV rfl rfl rfl (t_to_wrong hHU1 4 from_ ⟨by omega, by omega⟩ ⟨by omega, by omega⟩ _) ?_
    rintro _ T2 ⟨hHT2, w18, z17, rfl, w17, w15, w16⟩
    have hFT2 : FR md_rr_tryOn S T2 := FR.tr hFU1 w18 rfl
    show Rl _ _ _ _ _ [iv z17] _ _
    refine l_ireturn rfl (retI_z (by omega)) ?_
    have w19 : Xi T2 (276 + cl) 0 = Xi S (276 + cl) 0 := (show Xi T2 (276 + cl) 0 = Xi U1 (276 + cl) 0 from FR_cl w18 rfl (by omega)).trans ((show Xi U1 (276 + cl) 0 = Xi S (276 + cl) 0 from by rw [eU1]; exact Xi_ne (by omega)))
    have w20 : Xi T2 (276 + cl) 2 = Xi S (276 + cl) 2 := (show Xi T2 (276 + cl) 2 = Xi U1 (276 + cl) 2 from FR_cl w18 rfl (by omega)).trans ((show Xi U1 (276 + cl) 2 = Xi S (276 + cl) 2 from by rw [eU1]; exact Xi_ne (by omega)))
    have w21 : Xi T2 (276 + cl) 3 = Xi U1 (276 + cl) 3 := (show Xi T2 (276 + cl) 3 = Xi U1 (276 + cl) 3 from FR_cl w18 rfl (by omega))
    have w22 : 0 ≤ Xi T2 876 8 ∧ Xi T2 876 8 ≤ 9 := hHT2.c _ _
    have w23 : Xi T2 895 4 = Xi S 895 4 := (show Xi T2 895 4 = Xi U1 895 4 from w18.x _ _ rfl).trans ((show Xi U1 895 4 = Xi S 895 4 from by rw [eU1]; exact Xi_ne (by omega)))
    exact ⟨hHT2, hFT2, _, rfl, ⟨by omega, by omega⟩, ((kcl_f w18 rfl (kcl_w eU1 KCL.rf))), (fun q => by first | (exfalso; omega) | exact cl_10 (by omega) (x := Xi _ 895 5) (by omega) (y := Xi T2 (276 + cl) 3) rfl ⟨by omega, (by have e58 : Xi T2 5 8 = Xi S 5 8 := hFT2.x 5 8 rfl; omega)⟩ (fun _ => w57 (by omega)) (by rw [b70]; omega)), (fun q => by first | omega | (exfalso; omega))⟩
  · refine l_aload_n rfl rfl ?_
    refine l_gfr rfl rfl rfl rfl rfl (hHU1.r 899 1 1 rfl) ?_
    refine l_gfr rfl rfl rfl rfl rfl (hHU1.r 1 18 19 rfl) ?_
    refine l_aload rfl rfl ?_
    refine l_gfi rfl rfl rfl (layCl (by omega)) rfl ?_
    refine l_iaload (n := 12) rfl rfl (by omega) (by omega) (by unfold rg; omega) ?_
    have w25 : -2 ≤ (Xi U1 19 (((Xi U1 (276 + cl) 3)).toNat)) ∧ (Xi U1 19 (((Xi U1 (276 + cl) 3)).toNat)) ≤ 15 := hHU1.c _ _
    have a37 : (Xi U1 19 (((Xi U1 (276 + cl) 3)).toNat)) = Xi S 19 (Xi U1 (276 + cl) 3).toNat := (hFU1.cx 19 rfl _).1
    have e37 : Xi U1 5 8 = Xi S 5 8 := hFU1.x 5 8 rfl
    refine l_if_ge rfl rfl (by unfold rg; omega) (fun w26 => ?_) (fun w27 => ?_)
    · refine l_aload_n rfl rfl ?_
      refine l_gfr rfl rfl rfl rfl rfl (hHU1.r 899 2 895 rfl) ?_
      refine l_iload_n rfl rfl ?_
      refine l_iload_n rfl rfl ?_
      have w28 : Xi U1 (276 + cl) 0 = Xi S (276 + cl) 0 := (show Xi U1 (276 + cl) 0 = Xi S (276 + cl) 0 from by rw [eU1]; exact Xi_ne (by omega))
      have w29 : Xi U1 (276 + cl) 2 = Xi S (276 + cl) 2 := (show Xi U1 (276 + cl) 2 = Xi S (276 + cl) 2 from by rw [eU1]; exact Xi_ne (by omega))
      have w30 : Xi U1 895 4 = Xi S 895 4 := (show Xi U1 895 4 = Xi S 895 4 from by rw [eU1]; exact Xi_ne (by omega))
      refine l_callV rfl rfl rfl (t_me_readThing hHU1 behind to ⟨by omega, by omega⟩ ⟨by omega, by omega⟩ (by first | assumption | exact (LEX_FR hFU1 rfl rfl (by assumption : LEX S))) _) ?_
      rintro _ T3 ⟨hHT3, w37, z36, rfl, w36, w32, w33, w34, w35⟩
      have hFT3 : FR md_rr_tryOn S T3 := FR.tr hFU1 w37 rfl
      show Rl _ _ _ _ _ [iv z36] _ _
      have w57 : Xi T3 895 5 ≠ -1 → WHO (0 ≤ Xi S 895 4) (Xi T3 895 5) := fun q => who_of q (hHT3.c 895 5).1 (fun e => by have t := (by assumption : Xi T3 895 5 = -2 → 0 ≤ Xi U1 895 4) e; omega)
      have f57_3 : Xi T3 (276 + cl) 3 = Xi U1 (276 + cl) 3 := cl_keep (by assumption : FR md_me_readThing U1 T3) rfl (by omega) 3
      have f57_0 : Xi T3 (276 + cl) 0 = Xi U1 (276 + cl) 0 := cl_keep (by assumption : FR md_me_readThing U1 T3) rfl (by omega) 0
      have a57 : 0 ≤ Xi S 19 (Xi T3 (276 + cl) 3).toNat := by rw [f57_3]; omega
      refine l_pop rfl rfl ?_
      refine l_aload rfl rfl ?_
      refine l_aload_n rfl rfl ?_
      refine l_gfr rfl rfl rfl rfl rfl (hHT3.r 899 2 895 rfl) ?_
      refine l_gfi rfl rfl rfl rfl rfl ?_
      have w38 : -2 ≤ (Xi T3 895 5) ∧ (Xi T3 895 5) ≤ 23 := hHT3.c _ _
      refine l_pfi rfl rfl (layClW (by omega) rfl) rfl ?_
      obtain ⟨U4, eU4⟩ : ∃ T : sS, T = uI T3 (276 + cl) 2 (Int32.ofInt (Xi T3 895 5)) := ⟨_, rfl⟩
      rw [← eU4]
      have hHU4 : HI U4 := by rw [eU4]; exact HI_w hHT3 (by rw [lh_cl2 (by omega)]; omega) (by rw [lh_cl2 (by omega)]; omega)
      have hFU4 : FR md_rr_tryOn S U4 := by rw [eU4]; exact FR.wI hFT3 (mdf_i (r := (276, 876, 2, 3)) (List.mem_of_getElem? (i := 0) rfl) (inR_i (by omega) (by omega) (by omega) (by omega)))
      have w39 : Xi U4 (276 + cl) 2 = (Xi T3 895 5) := by rw [eU4]; exact Xi_same (by unfold rg; omega)
      have f70_0 : Xi U4 (276 + cl) 0 = Xi T3 (276 + cl) 0 := by rw [eU4, Xi_ne (by omega)]
      have f70_3 : Xi U4 (276 + cl) 3 = Xi T3 (276 + cl) 3 := by rw [eU4, Xi_ne (by omega)]
      have y70 : Xi U4 895 5 = Xi T3 895 5 := by rw [eU4, Xi_ne (by omega)]
      have a70 : 0 ≤ Xi S 19 (Xi U4 (276 + cl) 3).toNat := by rw [f70_3]; exact a57
      have b70 : ∀ j, Xi U4 19 j = Xi S 19 j := fun j => (hFU4.cx 19 rfl j).1
      refine l_aload_n rfl rfl ?_
      refine l_gfr rfl rfl rfl rfl rfl (hHU4.r 899 2 895 rfl) ?_
      refine l_gfi rfl rfl rfl rfl rfl ?_
      have w40 : (Xi U4 895 5) = (Xi T3 895 5) := (show Xi U4 895 5 = Xi T3 895 5 from by rw [eU4]; exact Xi_ne (by omega))
      rw [w40]
      refine l_iconst rfl ?_
      refine l_icmp_ne rfl rfl (by unfold rg; omega) (by unfold rg; omega) (fun w41 => ?_) (fun w42 => ?_)
      · refine l_iconst rfl ?_
        refine l_goto rfl rfl ?_
        refine l_ireturn rfl rfl ?_
        have w43 : Xi U4 (276 + cl) 0 = Xi S (276 + cl) 0 := (show Xi U4 (276 + cl) 0 = Xi T3 (276 + cl) 0 from by rw [eU4]; exact Xi_ne (by omega)).trans ( (show Xi T3 (276 + cl) 0 = Xi U1 (276 + cl) 0 from FR_cl w37 rfl (by omega)).trans ((show Xi U1 (276 + cl) 0 = Xi S (276 + cl) 0 from by rw [eU1]; exact Xi_ne (by omega))))
        have w44 : Xi U4 (276 + cl) 3 = Xi U1 (276 + cl) 3 := (show Xi U4 (276 + cl) 3 = Xi T3 (276 + cl) 3 from by rw [eU4]; exact Xi_ne (by omega)).trans ((show Xi T3 (276 + cl) 3 = Xi U1 (276 + cl) 3 from FR_cl w37 rfl (by omega)))
        have w45 : Xi U4 876 8 = Xi S 876 8 := (show Xi U4 876 8 = Xi T3 876 8 from by rw [eU4]; exact Xi_ne (by omega)).trans ( (show Xi T3 876 8 = Xi U1 876 8 from w37.x _ _ rfl).trans ((show Xi U1 876 8 = Xi S 876 8 from by rw [eU1]; exact Xi_ne (by omega))))
        have w46 : 0 ≤ Xi S 876 8 ∧ Xi S 876 8 ≤ 9 := hH.c _ _
        have w47 : Xi U4 895 4 = Xi S 895 4 := (show Xi U4 895 4 = Xi T3 895 4 from by rw [eU4]; exact Xi_ne (by omega)).trans ( (show Xi T3 895 4 = Xi U1 895 4 from w37.x _ _ rfl).trans ((show Xi U1 895 4 = Xi S 895 4 from by rw [eU1]; exact Xi_ne (by omega))))
        exact ⟨hHU4, hFU4, _, rfl, ⟨by omega, by omega⟩, ((kcl_w eU4 (kcl_f w37 rfl (kcl_w eU1 KCL.rf)))), (fun q => by first | (exfalso; omega) | exact cl_10 (by omega) (x := Xi _ 895 5) (by omega) (y := Xi U4 (276 + cl) 3) rfl ⟨by omega, (by have e58 : Xi U4 5 8 = Xi S 5 8 := hFU4.x 5 8 rfl; omega)⟩ (fun _ => w57 (by omega)) (by rw [b70]; omega)), (fun q => by first | omega | (exfalso; omega))⟩
      · refine l_aload_n rfl rfl ?_
        refine l_gfr rfl rfl rfl rfl rfl (hHU4.r 899 0 876 rfl) ?_
        refine l_iconst rfl ?_
        refine l_aload_n rfl rfl ?_
        refine l_gfr rfl rfl rfl rfl rfl (hHU4.r 899 2 895 rfl) ?_
        refine l_gfi rfl rfl rfl rfl rfl ?_
        have w49 : -2147483648 ≤ (Xi U4 895 7) ∧ (Xi U4 895 7) ≤ 2147483647 := Xi_rgI
        have w50 : Xi U4 (276 + cl) 0 = Xi S (276 + cl) 0 := (show Xi U4 (276 + cl) 0 = Xi T3 (276 + cl) 0 from by rw [eU4]; exact Xi_ne (by omega)).trans ( (show Xi T3 (276 + cl) 0 = Xi U1 (276 + cl) 0 from FR_cl w37 rfl (by omega)).trans ((show Xi U1 (276 + cl) 0 = Xi S (276 + cl) 0 from by rw [eU1]; exact Xi_ne (by omega))))
        have w51 : Xi U4 (276 + cl) 3 = Xi U1 (276 + cl) 3 := (show Xi U4 (276 + cl) 3 = Xi T3 (276 + cl) 3 from by rw [eU4]; exact Xi_ne (by omega)).trans ((show Xi T3 (276 + cl) 3 = Xi U1 (276 + cl) 3 from FR_cl w37 rfl (by omega)))
        refine l_callV rfl rfl rfl (t_to_wrong hHU4 4 (Xi U4 895 7) ⟨by omega, by omega⟩ ⟨by omega, by omega⟩ _) ?_
        rintro _ T5 ⟨hHT5, w57, z56, rfl, w56, w54, w55⟩
        have hFT5 : FR md_rr_tryOn S T5 := FR.tr hFU4 w57 rfl
        show Rl _ _ _ _ _ [iv z56] _ _
        refine l_if_eq rfl rfl (by unfold rg; omega) (fun w58 => ?_) (fun w59 => ?_)
        · refine l_iconst rfl ?_
          refine l_ireturn rfl rfl ?_
          have w60 : Xi T5 (276 + cl) 0 = Xi S (276 + cl) 0 := (show Xi T5 (276 + cl) 0 = Xi U4 (276 + cl) 0 from FR_cl w57 rfl (by omega)).trans ( (show Xi U4 (276 + cl) 0 = Xi T3 (276 + cl) 0 from by rw [eU4]; exact Xi_ne (by omega)).trans ( (show Xi T3 (276 + cl) 0 = Xi U1 (276 + cl) 0 from FR_cl w37 rfl (by omega)).trans ((show Xi U1 (276 + cl) 0 = Xi S (276 + cl) 0 from by rw [eU1]; exact Xi_ne (by omega)))))
          have w61 : Xi T5 (276 + cl) 2 = Xi U4 (276 + cl) 2 := (show Xi T5 (276 + cl) 2 = Xi U4 (276 + cl) 2 from FR_cl w57 rfl (by omega))
          have w62 : Xi T5 (276 + cl) 3 = Xi U1 (276 + cl) 3 := (show Xi T5 (276 + cl) 3 = Xi U4 (276 + cl) 3 from FR_cl w57 rfl (by omega)).trans ( (show Xi U4 (276 + cl) 3 = Xi T3 (276 + cl) 3 from by rw [eU4]; exact Xi_ne (by omega)).trans ((show Xi T3 (276 + cl) 3 = Xi U1 (276 + cl) 3 from FR_cl w37 rfl (by omega))))
          have w63 : 0 ≤ Xi T5 876 8 ∧ Xi T5 876 8 ≤ 9 := hHT5.c _ _
          have w64 : Xi T5 895 4 = Xi S 895 4 := (show Xi T5 895 4 = Xi U4 895 4 from w57.x _ _ rfl).trans ( (show Xi U4 895 4 = Xi T3 895 4 from by rw [eU4]; exact Xi_ne (by omega)).trans ( (show Xi T3 895 4 = Xi U1 895 4 from w37.x _ _ rfl).trans ((show Xi U1 895 4 = Xi S 895 4 from by rw [eU1]; exact Xi_ne (by omega)))))
          exact ⟨hHT5, hFT5, _, rfl, ⟨by omega, by omega⟩, ((kcl_f w57 rfl (kcl_w eU4 (kcl_f w37 rfl (kcl_w eU1 KCL.rf))))), (fun q => by first | (exfalso; omega) | exact cl_10 (by omega) (x := Xi _ 895 5) (by omega) (y := Xi T5 (276 + cl) 3) rfl ⟨by omega, (by have e58 : Xi T5 5 8 = Xi S 5 8 := hFT5.x 5 8 rfl; omega)⟩ (fun _ => w57 (by omega)) (by rw [b70]; omega)), (fun q => by first | omega | (exfalso; omega))⟩
        · refine l_iconst rfl ?_
          refine l_goto rfl rfl ?_
          refine l_ireturn rfl rfl ?_
          have w66 : Xi T5 (276 + cl) 0 = Xi S (276 + cl) 0 := (show Xi T5 (276 + cl) 0 = Xi U4 (276 + cl) 0 from FR_cl w57 rfl (by omega)).trans ( (show Xi U4 (276 + cl) 0 = Xi T3 (276 + cl) 0 from by rw [eU4]; exact Xi_ne (by omega)).trans ( (show Xi T3 (276 + cl) 0 = Xi U1 (276 + cl) 0 from FR_cl w37 rfl (by omega)).trans ((show Xi U1 (276 + cl) 0 = Xi S (276 + cl) 0 from by rw [eU1]; exact Xi_ne (by omega)))))
          have w67 : Xi T5 (276 + cl) 2 = Xi U4 (276 + cl) 2 := (show Xi T5 (276 + cl) 2 = Xi U4 (276 + cl) 2 from FR_cl w57 rfl (by omega))
          have w68 : Xi T5 (276 + cl) 3 = Xi U1 (276 + cl) 3 := (show Xi T5 (276 + cl) 3 = Xi U4 (276 + cl) 3 from FR_cl w57 rfl (by omega)).trans ( (show Xi U4 (276 + cl) 3 = Xi T3 (276 + cl) 3 from by rw [eU4]; exact Xi_ne (by omega)).trans ((show Xi T3 (276 + cl) 3 = Xi U1 (276 + cl) 3 from FR_cl w37 rfl (by omega))))
          have w69 : 0 ≤ Xi T5 876 8 ∧ Xi T5 876 8 ≤ 9 := hHT5.c _ _
          have w70 : Xi T5 895 4 = Xi S 895 4 := (show Xi T5 895 4 = Xi U4 895 4 from w57.x _ _ rfl).trans ( (show Xi U4 895 4 = Xi T3 895 4 from by rw [eU4]; exact Xi_ne (by omega)).trans ( (show Xi T3 895 4 = Xi U1 895 4 from w37.x _ _ rfl).trans ((show Xi U1 895 4 = Xi S 895 4 from by rw [eU1]; exact Xi_ne (by omega)))))
          exact ⟨hHT5, hFT5, _, rfl, ⟨by omega, by omega⟩, ((kcl_f w57 rfl (kcl_w eU4 (kcl_f w37 rfl (kcl_w eU1 KCL.rf))))), (fun q => by first | (exfalso; omega) | exact cl_10 (by omega) (x := Xi _ 895 5) (by omega) (y := Xi T5 (276 + cl) 3) rfl ⟨by omega, (by have e58 : Xi T5 5 8 = Xi S 5 8 := hFT5.x 5 8 rfl; omega)⟩ (fun _ => w57 (by omega)) (by rw [b70]; omega)), (fun q => by first | omega | (exfalso; omega))⟩
    · refine l_aload_n rfl rfl ?_
      refine l_gfr rfl rfl rfl rfl rfl (hHU1.r 899 0 876 rfl) ?_
      refine l_iconst rfl ?_
      refine l_iload_n rfl rfl ?_
      have w72 : Xi U1 (276 + cl) 0 = Xi S (276 + cl) 0 := (show Xi U1 (276 + cl) 0 = Xi S (276 + cl) 0 from by rw [eU1]; exact Xi_ne (by omega))
      have w73 : Xi U1 (276 + cl) 2 = Xi S (276 + cl) 2 := (show Xi U1 (276 + cl) 2 = Xi S (276 + cl) 2 from by rw [eU1]; exact Xi_ne (by omega))
      refine l_callV rfl rfl rfl (t_to_wrong hHU1 4 from_ ⟨by omega, by omega⟩ ⟨by omega, by omega⟩ _) ?_
      rintro _ T6 ⟨hHT6, w79, z78, rfl, w78, w76, w77⟩
      have hFT6 : FR md_rr_tryOn S T6 := FR.tr hFU1 w79 rfl
      show Rl _ _ _ _ _ [iv z78] _ _
      refine l_ireturn rfl (retI_z (by omega)) ?_
      have w80 : Xi T6 (276 + cl) 0 = Xi S (276 + cl) 0 := (show Xi T6 (276 + cl) 0 = Xi U1 (276 + cl) 0 from FR_cl w79 rfl (by omega)).trans ((show Xi U1 (276 + cl) 0 = Xi S (276 + cl) 0 from by rw [eU1]; exact Xi_ne (by omega)))
      have w81 : Xi T6 (276 + cl) 2 = Xi S (276 + cl) 2 := (show Xi T6 (276 + cl) 2 = Xi U1 (276 + cl) 2 from FR_cl w79 rfl (by omega)).trans ((show Xi U1 (276 + cl) 2 = Xi S (276 + cl) 2 from by rw [eU1]; exact Xi_ne (by omega)))
      have w82 : Xi T6 (276 + cl) 3 = Xi U1 (276 + cl) 3 := (show Xi T6 (276 + cl) 3 = Xi U1 (276 + cl) 3 from FR_cl w79 rfl (by omega))
      have w83 : 0 ≤ Xi T6 876 8 ∧ Xi T6 876 8 ≤ 9 := hHT6.c _ _
      have w84 : Xi T6 895 4 = Xi S 895 4 := (show Xi T6 895 4 = Xi U1 895 4 from w79.x _ _ rfl).trans ((show Xi U1 895 4 = Xi S 895 4 from by rw [eU1]; exact Xi_ne (by omega)))
      exact ⟨hHT6, hFT6, _, rfl, ⟨by omega, by omega⟩, ((kcl_f w79 rfl (kcl_w eU1 KCL.rf))), (fun q => by first | (exfalso; omega) | exact cl_10 (by omega) (x := Xi _ 895 5) (by omega) (y := Xi T6 (276 + cl) 3) rfl ⟨by omega, (by have e58 : Xi T6 5 8 = Xi S 5 8 := hFT6.x 5 8 rfl; omega)⟩ (fun _ => w57 (by omega)) (by rw [b70]; omega)), (fun q => by first | omega | (exfalso; omega))⟩
/-! SAFETY of methods: printed by wip/safe (vc.py, decl.py) -/
def md_rr_insert : List rec := [(246, 247, 8, 9), (274, 275, 0, 100000), (275, 276, 0, 100000), (876, 877, 7, 8), (877, 878, 0, 100000), (878, 879, 0, 100000), (879, 880, 0, 100000), (895, 896, 5, 6), (895, 896, 6, 7), (895, 896, 7, 8)]
abbrev Q_rr_insert (S : sS) (ts : Nat) (from_ : Int) (to : Int) : pst := fun r S1 => HI S1 ∧ FR md_rr_insert S S1 ∧ (∃ z : Int, r = some (iv z) ∧ (0 ≤ z ∧ z ≤ 1) ∧ (TOK S1) ∧ (Xi S 876 6 ≤ Xi S1 876 7) ∧ (KTK S S1 (Xi S 876 6)) ∧ (IGR S S1 (0 ≤ Xi S 895 4)) ∧ (z = 1 → Xi S1 246 8 = Xi S 246 8 + 1 ∨ 1666 ≤ Xi S1 246 8))
set_option maxRecDepth 100000 in
theorem t_rr_insert {S : sS} (hH : HI S) (ts : Nat) (from_ : Int) (to : Int) (hfrom_ : 0 ≤ from_ ∧ from_ ≤ 5000) (hto : 0 ≤ to ∧ to ≤ 5000) (hts : S.2.2 876 4 = some ts) (htp : tp ts) (hL : LEX S) (hT : TOK S) (hcr : Xi S 876 6 ≤ Xi S 876 7) (hft : to ≤ from_ + 121) (d : Nat) : Mt lay0 (d + 4) m_rr_insert [.ref 899, iv from_, iv to] S (Q_rr_insert S ts from_ to) := by
  refine Mt_R rfl rfl ?_
  have hF : FR md_rr_insert S S := FR.rf
  have w1 : 0 ≤ Xi S 246 8 ∧ Xi S 246 8 ≤ 1666 := hH.c _ _
  have w2 : 0 ≤ Xi S 876 6 ∧ Xi S 876 6 ≤ 5002 := hH.c _ _
  have w3 : 0 ≤ Xi S 876 7 ∧ Xi S 876 7 ≤ 5125 := hH.c _ _
  have w4 : -1 ≤ Xi S 895 4 ∧ Xi S 895 4 ≤ 15 := hH.c _ _
  refine l_aload_n rfl rfl ?_
  refine l_gfr rfl rfl rfl rfl rfl (hH.r 899 0 876 rfl) ?_
  refine l_iload_n rfl rfl ?_
  refine l_iload_n rfl rfl ?_
  refine l_callV rfl rfl rfl (t_to_takeInside__2 hH ts from_ to ⟨by omega, by omega⟩ ⟨by omega, by omega⟩ ((hF 876 4 rfl).2.2.trans hts) htp (by first | assumption | exact (by assumption : TOK S)) (by first | assumption | omega) (by first | assumption | omega) _) ?_
  rintro _ T1 ⟨hHT1, w14, z13, rfl, w13, w9, w10, w11, w12⟩
  have hFT1 : FR md_rr_insert S T1 := FR.tr hF w14 rfl
  show Rl _ _ _ _ _ [iv z13] _ _
  have k6 : KTK S T1 (Xi S 876 6) := by assumption
  have i6 : IGR S T1 (0 ≤ Xi S 895 4) := igr_f (by assumption : FR md_to_takeInside__2 S T1) rfl (IGR.rf hH)
  refine l_istore_n rfl rfl rfl ?_
  refine l_iconst rfl ?_
  refine l_istore rfl rfl rfl ?_
  refine l_iload_n rfl rfl ?_
  refine l_iconst rfl ?_
  refine l_icmp_ne rfl rfl (by unfold rg; omega) (by unfold rg; omega) (fun w15 => ?_) (fun w16 => ?_)
  · refine l_aload_n rfl rfl ?_
    refine l_gfr rfl rfl rfl rfl rfl (hHT1.r 899 0 876 rfl) ?_
    refine l_iload_n rfl rfl ?_
    refine l_callV rfl rfl rfl (t_to_beginsProperty hHT1 z13 ⟨by omega, by omega⟩ _) ?_
    rintro _ _ ⟨rfl, z23, rfl, w23, w22⟩
    show Rl _ _ _ _ _ [iv z23] _ _
    refine l_istore rfl rfl rfl ?_
    refine l_iload_n rfl rfl ?_
    refine l_iconst rfl ?_
    refine l_iadd rfl ?_
    refine l_istore rfl rfl rfl ?_
    refine l_aload_n rfl rfl ?_
    refine l_gfr rfl rfl rfl rfl rfl (hHT1.r 899 0 876 rfl) ?_
    refine l_iload rfl rfl ?_
    have w26 : 0 ≤ Xi T1 876 7 ∧ Xi T1 876 7 ≤ 5125 := hHT1.c _ _
    refine l_callV rfl rfl rfl (t_to_runEnd hHT1 (z13 + 1) ⟨by omega, by omega⟩ _) ?_
    rintro _ _ ⟨rfl, z36, rfl, w36, w29, w30, w31, w32, w33, w34, w35⟩
    clear w31 w32 w33 w34
    show Rl _ _ _ _ _ [iv z36] _ _
    refine l_istore rfl rfl rfl ?_
    refine l_iload rfl rfl ?_
    refine l_if_eq rfl rfl (by unfold rg; omega) (fun w37 => ?_) (fun w38 => ?_)
    · refine l_iload_n rfl rfl ?_
      refine l_istore rfl rfl rfl ?_
      refine l_aload_n rfl rfl ?_
      refine l_gfr rfl rfl rfl rfl rfl (hHT1.r 899 2 895 rfl) ?_
      refine l_iload rfl rfl ?_
      refine l_aload_n rfl rfl ?_
      refine l_gfr rfl rfl rfl rfl rfl (hHT1.r 899 0 876 rfl) ?_
      refine l_callV rfl rfl rfl (t_to_lastRow hHT1 _) ?_
      rintro _ _ ⟨rfl, z45, rfl, w45, w44⟩
      show Rl _ _ _ _ _ [iv z45, iv z13, .ref 895] _ _
      have w49 : Xi T1 895 4 = Xi S 895 4 := (show Xi T1 895 4 = Xi S 895 4 from w14.x _ _ rfl)
      refine l_callV rfl rfl rfl (t_me_readThing hHT1 z13 z45 ⟨by omega, by omega⟩ ⟨by omega, by omega⟩ (by first | assumption | exact (LEX_FR hFT1 rfl rfl (by assumption : LEX S))) _) ?_
      rintro _ T2 ⟨hHT2, w56, z55, rfl, w55, w51, w52, w53, w54⟩
      have hFT2 : FR md_rr_insert S T2 := FR.tr hFT1 w56 rfl
      show Rl _ _ _ _ _ [iv z55] _ _
      have wo74 : Xi T2 895 5 ≠ -1 → WHO (0 ≤ Xi S 895 4) (Xi T2 895 5) := fun q => who_of q (hHT2.c 895 5).1 (fun e => by have t := (by assumption : Xi T2 895 5 = -2 → 0 ≤ Xi T1 895 4) e; omega)
      have k74 : KTK S T2 (Xi S 876 6) := ktk_f (by assumption : FR md_me_readThing T1 T2) rfl k6
      have i74 : IGR S T2 (0 ≤ Xi S 895 4) := igr_f (by assumption : FR md_me_readThing T1 T2) rfl i6
      refine l_aload_n rfl rfl ?_
      refine l_gfr rfl rfl rfl rfl rfl (hHT2.r 899 0 876 rfl) ?_
      have w59 : Xi T2 876 7 = Xi T1 876 7 := (show Xi T2 876 7 = Xi T1 876 7 from w56.x _ _ rfl)
      refine l_callV rfl rfl rfl (t_to_lastRow hHT2 _) ?_
      rintro _ _ ⟨rfl, z64, rfl, w64, w63⟩
      show Rl _ _ _ _ _ [iv z64, iv z55] _ _
      refine l_icmp_ne rfl rfl (by unfold rg; omega) (by unfold rg; omega) (fun w65 => ?_) (fun w66 => ?_)
      · refine l_iconst rfl ?_
        refine l_ireturn rfl rfl ?_
        have w67 : Xi T2 246 8 = Xi S 246 8 := (show Xi T2 246 8 = Xi T1 246 8 from w56.x _ _ rfl).trans ((show Xi T1 246 8 = Xi S 246 8 from w14.x _ _ rfl))
        have w71 : Xi T2 895 4 = Xi S 895 4 := (show Xi T2 895 4 = Xi T1 895 4 from w56.x _ _ rfl).trans ((show Xi T1 895 4 = Xi S 895 4 from w14.x _ _ rfl))
        exact ⟨hHT2, hFT2, _, rfl, ⟨by omega, by omega⟩, (by first | assumption | exact (TOK_FR w56 rfl rfl rfl (by assumption : TOK T1))), (by omega), (by first | exact k162 | exact k74 | exact k6), (by first | exact i162 | exact i74 | exact i6), (by omega)⟩
      · refine l_aload_n rfl rfl ?_
        refine l_gfr rfl rfl rfl rfl rfl (hHT2.r 899 2 895 rfl) ?_
        refine l_gfi rfl rfl rfl rfl rfl ?_
        have w73 : -2 ≤ (Xi T2 895 5) ∧ (Xi T2 895 5) ≤ 23 := hHT2.c _ _
        refine l_iconst rfl ?_
        refine l_icmp_ne rfl rfl (by unfold rg; omega) (by unfold rg; omega) (fun w74 => ?_) (fun w75 => ?_)
        · refine l_iload rfl rfl ?_
          refine l_if_eq rfl rfl (by unfold rg; omega) (fun w76 => ?_) (fun w77 => ?_)
          · refine l_aload_n rfl rfl ?_
            refine l_gfr rfl rfl rfl rfl rfl (hHT2.r 899 3 246 rfl) ?_
            refine l_aload_n rfl rfl ?_
            refine l_gfr rfl rfl rfl rfl rfl (hHT2.r 899 2 895 rfl) ?_
            refine l_gfi rfl rfl rfl rfl rfl ?_
            refine l_iload rfl rfl ?_
            have w78 : Xi T2 246 8 = Xi S 246 8 := (show Xi T2 246 8 = Xi T1 246 8 from w56.x _ _ rfl).trans ((show Xi T1 246 8 = Xi S 246 8 from w14.x _ _ rfl))
            refine l_callV rfl rfl rfl (t_bo_addInsert__2 hHT2 (Xi T2 895 5) (-1) ⟨by omega, by omega⟩ ⟨by omega, by omega⟩ _) ?_
            rintro _ T3 ⟨hHT3, w87, rfl, w84, w85⟩
            have hFT3 : FR md_rr_insert S T3 := FR.tr hFT2 w87 rfl
            show Rl _ _ _ _ _ [] _ _
            have k162 : KTK S T3 (Xi S 876 6) := ktk_f (by assumption : FR md_bo_addInsert__2 T2 T3) rfl k74
            have i162 : IGR S T3 (0 ≤ Xi S 895 4) := IGR.tr i74 ((by assumption : IAD T2 T3 _ _) (0 ≤ Xi S 895 4) (fun q => wo74 (by omega))) (fun x => x)
            refine l_iconst rfl ?_
            refine l_ireturn rfl rfl ?_
            have w88 : 0 ≤ Xi T3 246 8 ∧ Xi T3 246 8 ≤ 1666 := hHT3.c _ _
            have w89 : Xi T3 876 7 = Xi T1 876 7 := (show Xi T3 876 7 = Xi T2 876 7 from w87.x _ _ rfl).trans ((show Xi T2 876 7 = Xi T1 876 7 from w56.x _ _ rfl))
            have w91 : Xi T3 895 4 = Xi S 895 4 := (show Xi T3 895 4 = Xi T2 895 4 from w87.x _ _ rfl).trans ( (show Xi T2 895 4 = Xi T1 895 4 from w56.x _ _ rfl).trans ((show Xi T1 895 4 = Xi S 895 4 from w14.x _ _ rfl)))
            exact ⟨hHT3, hFT3, _, rfl, ⟨by omega, by omega⟩, (by first | assumption | exact (TOK_FR w87 rfl rfl rfl (TOK_FR w56 rfl rfl rfl (by assumption : TOK T1)))), (by omega), (by first | exact k162 | exact k74 | exact k6), (by first | exact i162 | exact i74 | exact i6), (by omega)⟩
          · refine l_aload_n rfl rfl ?_
            refine l_gfr rfl rfl rfl rfl rfl (hHT2.r 899 2 895 rfl) ?_
            refine l_iconst rfl ?_
            refine l_iload rfl rfl ?_
            refine l_iload rfl rfl ?_
            refine l_callV rfl rfl rfl (t_me_find hHT2 5 (z13 + 1) z36 ⟨by omega, by omega⟩ ⟨by omega, by omega⟩ ⟨by omega, by omega⟩ (by first | assumption | exact (LEX_FR hFT2 rfl rfl (by assumption : LEX S))) _) ?_
            rintro _ _ ⟨rfl, z102, rfl, w102, w99, w100, w101⟩
            have w103 : z102 ≠ -1 → _ := fun h => fb5 hHT2 (w99 h)
            clear w100
            show Rl _ _ _ _ _ [iv z102] _ _
            refine l_istore rfl rfl rfl ?_
            refine l_iload rfl rfl ?_
            refine l_iconst rfl ?_
            refine l_icmp_eq rfl rfl (by unfold rg; omega) (by unfold rg; omega) (fun w104 => ?_) (fun w105 => ?_)
            · refine l_iconst rfl ?_
              refine l_ireturn rfl rfl ?_
              have w106 : Xi T2 246 8 = Xi S 246 8 := (show Xi T2 246 8 = Xi T1 246 8 from w56.x _ _ rfl).trans ((show Xi T1 246 8 = Xi S 246 8 from w14.x _ _ rfl))
              have w110 : Xi T2 895 4 = Xi S 895 4 := (show Xi T2 895 4 = Xi T1 895 4 from w56.x _ _ rfl).trans ((show Xi T1 895 4 = Xi S 895 4 from w14.x _ _ rfl))
              exact ⟨hHT2, hFT2, _, rfl, ⟨by omega, by omega⟩, (by first | assumption | exact (TOK_FR w56 rfl rfl rfl (by assumption : TOK T1))), (by omega), (by first | exact k162 | exact k74 | exact k6), (by first | exact i162 | exact i74 | exact i6), (by omega)⟩
            · refine l_aload_n rfl rfl ?_
              refine l_gfr rfl rfl rfl rfl rfl (hHT2.r 899 1 1 rfl) ?_
              refine l_aload_n rfl rfl ?_
              refine l_gfr rfl rfl rfl rfl rfl (hHT2.r 899 2 895 rfl) ?_
              refine l_gfi rfl rfl rfl rfl rfl ?_
              have w112 : -1 ≤ (Xi T2 895 6) ∧ (Xi T2 895 6) ≤ 15 := hHT2.c _ _
              refine l_callV rfl rfl rfl (t_vo_propertiesOf hHT2 (Xi T2 895 6) ⟨by omega, by omega⟩ _) ?_
              rintro _ _ ⟨rfl, z120, rfl, w120, w119⟩
              show Rl _ _ _ _ _ [iv z120] _ _
              refine l_iload rfl rfl ?_
              refine l_ishrF rfl ?_
              have w121 : -2147483648 ≤ (ishrF z120 z102) ∧ (ishrF z120 z102) ≤ 2147483647 := ishrF_rg
              refine l_iconst rfl ?_
              refine l_iandF rfl ?_
              have w122 : 0 ≤ (iandF (ishrF z120 z102) 1) ∧ (iandF (ishrF z120 z102) 1) ≤ 1 := iandF_le (by omega) (by unfold rg; omega)
              refine l_if_ne rfl rfl (by unfold rg; omega) (fun w123 => ?_) (fun w124 => ?_)
              · refine l_aload_n rfl rfl ?_
                refine l_gfr rfl rfl rfl rfl rfl (hHT2.r 899 3 246 rfl) ?_
                refine l_aload_n rfl rfl ?_
                refine l_gfr rfl rfl rfl rfl rfl (hHT2.r 899 2 895 rfl) ?_
                refine l_gfi rfl rfl rfl rfl rfl ?_
                refine l_iload rfl rfl ?_
                have w125 : Xi T2 246 8 = Xi S 246 8 := (show Xi T2 246 8 = Xi T1 246 8 from w56.x _ _ rfl).trans ((show Xi T1 246 8 = Xi S 246 8 from w14.x _ _ rfl))
                refine l_callV rfl rfl rfl (t_bo_addInsert__2 hHT2 (Xi T2 895 5) z102 ⟨by omega, by omega⟩ ⟨by omega, by omega⟩ _) ?_
                rintro _ T4 ⟨hHT4, w134, rfl, w131, w132⟩
                have hFT4 : FR md_rr_insert S T4 := FR.tr hFT2 w134 rfl
                show Rl _ _ _ _ _ [] _ _
                have k162 : KTK S T4 (Xi S 876 6) := ktk_f (by assumption : FR md_bo_addInsert__2 T2 T4) rfl k74
                have i162 : IGR S T4 (0 ≤ Xi S 895 4) := IGR.tr i74 ((by assumption : IAD T2 T4 _ _) (0 ≤ Xi S 895 4) (fun q => wo74 (by omega))) (fun x => x)
                refine l_iconst rfl ?_
                refine l_ireturn rfl rfl ?_
                have w135 : 0 ≤ Xi T4 246 8 ∧ Xi T4 246 8 ≤ 1666 := hHT4.c _ _
                have w136 : Xi T4 876 7 = Xi T1 876 7 := (show Xi T4 876 7 = Xi T2 876 7 from w134.x _ _ rfl).trans ((show Xi T2 876 7 = Xi T1 876 7 from w56.x _ _ rfl))
                have w138 : Xi T4 895 4 = Xi S 895 4 := (show Xi T4 895 4 = Xi T2 895 4 from w134.x _ _ rfl).trans ( (show Xi T2 895 4 = Xi T1 895 4 from w56.x _ _ rfl).trans ((show Xi T1 895 4 = Xi S 895 4 from w14.x _ _ rfl)))
                exact ⟨hHT4, hFT4, _, rfl, ⟨by omega, by omega⟩, (by first | assumption | exact (TOK_FR w134 rfl rfl rfl (TOK_FR w56 rfl rfl rfl (by assumption : TOK T1)))), (by omega), (by first | exact k162 | exact k74 | exact k6), (by first | exact i162 | exact i74 | exact i6), (by omega)⟩
              · refine l_iconst rfl ?_
                refine l_ireturn rfl rfl ?_
                have w140 : Xi T2 246 8 = Xi S 246 8 := (show Xi T2 246 8 = Xi T1 246 8 from w56.x _ _ rfl).trans ((show Xi T1 246 8 = Xi S 246 8 from w14.x _ _ rfl))
                have w144 : Xi T2 895 4 = Xi S 895 4 := (show Xi T2 895 4 = Xi T1 895 4 from w56.x _ _ rfl).trans ((show Xi T1 895 4 = Xi S 895 4 from w14.x _ _ rfl))
                exact ⟨hHT2, hFT2, _, rfl, ⟨by omega, by omega⟩, (by first | assumption | exact (TOK_FR w56 rfl rfl rfl (by assumption : TOK T1))), (by omega), (by first | exact k162 | exact k74 | exact k6), (by first | exact i162 | exact i74 | exact i6), (by omega)⟩
        · refine l_iconst rfl ?_
          refine l_ireturn rfl rfl ?_
          have w146 : Xi T2 246 8 = Xi S 246 8 := (show Xi T2 246 8 = Xi T1 246 8 from w56.x _ _ rfl).trans ((show Xi T1 246 8 = Xi S 246 8 from w14.x _ _ rfl))
          have w150 : Xi T2 895 4 = Xi S 895 4 := (show Xi T2 895 4 = Xi T1 895 4 from w56.x _ _ rfl).trans ((show Xi T1 895 4 = Xi S 895 4 from w14.x _ _ rfl))
          exact ⟨hHT2, hFT2, _, rfl, ⟨by omega, by omega⟩, (by first | assumption | exact (TOK_FR w56 rfl rfl rfl (by assumption : TOK T1))), (by omega), (by first | exact k162 | exact k74 | exact k6), (by first | exact i162 | exact i74 | exact i6), (by omega)⟩
    · refine l_iload rfl rfl ?_
      refine l_iconst rfl ?_
      refine l_iadd rfl ?_
      refine l_goto rfl rfl ?_
      refine l_istore rfl rfl rfl ?_
      refine l_aload_n rfl rfl ?_
      refine l_gfr rfl rfl rfl rfl rfl (hHT1.r 899 2 895 rfl) ?_
      refine l_iload rfl rfl ?_
      refine l_aload_n rfl rfl ?_
      refine l_gfr rfl rfl rfl rfl rfl (hHT1.r 899 0 876 rfl) ?_
      refine l_callV rfl rfl rfl (t_to_lastRow hHT1 _) ?_
      rintro _ _ ⟨rfl, z158, rfl, w158, w157⟩
      show Rl _ _ _ _ _ [iv z158, iv (z36 + 1), .ref 895] _ _
      have w162 : Xi T1 895 4 = Xi S 895 4 := (show Xi T1 895 4 = Xi S 895 4 from w14.x _ _ rfl)
      refine l_callV rfl rfl rfl (t_me_readThing hHT1 (z36 + 1) z158 ⟨by omega, by omega⟩ ⟨by omega, by omega⟩ (by first | assumption | exact (LEX_FR hFT1 rfl rfl (by assumption : LEX S))) _) ?_
      rintro _ T5 ⟨hHT5, w169, z168, rfl, w168, w164, w165, w166, w167⟩
      have hFT5 : FR md_rr_insert S T5 := FR.tr hFT1 w169 rfl
      show Rl _ _ _ _ _ [iv z168] _ _
      have wo74 : Xi T5 895 5 ≠ -1 → WHO (0 ≤ Xi S 895 4) (Xi T5 895 5) := fun q => who_of q (hHT5.c 895 5).1 (fun e => by have t := (by assumption : Xi T5 895 5 = -2 → 0 ≤ Xi T1 895 4) e; omega)
      have k74 : KTK S T5 (Xi S 876 6) := ktk_f (by assumption : FR md_me_readThing T1 T5) rfl k6
      have i74 : IGR S T5 (0 ≤ Xi S 895 4) := igr_f (by assumption : FR md_me_readThing T1 T5) rfl i6
      refine l_aload_n rfl rfl ?_
      refine l_gfr rfl rfl rfl rfl rfl (hHT5.r 899 0 876 rfl) ?_
      have w172 : Xi T5 876 7 = Xi T1 876 7 := (show Xi T5 876 7 = Xi T1 876 7 from w169.x _ _ rfl)
      refine l_callV rfl rfl rfl (t_to_lastRow hHT5 _) ?_
      rintro _ _ ⟨rfl, z177, rfl, w177, w176⟩
      show Rl _ _ _ _ _ [iv z177, iv z168] _ _
      refine l_icmp_ne rfl rfl (by unfold rg; omega) (by unfold rg; omega) (fun w178 => ?_) (fun w179 => ?_)
      · refine l_iconst rfl ?_
        refine l_ireturn rfl rfl ?_
        have w180 : Xi T5 246 8 = Xi S 246 8 := (show Xi T5 246 8 = Xi T1 246 8 from w169.x _ _ rfl).trans ((show Xi T1 246 8 = Xi S 246 8 from w14.x _ _ rfl))
        have w184 : Xi T5 895 4 = Xi S 895 4 := (show Xi T5 895 4 = Xi T1 895 4 from w169.x _ _ rfl).trans ((show Xi T1 895 4 = Xi S 895 4 from w14.x _ _ rfl))
        exact ⟨hHT5, hFT5, _, rfl, ⟨by omega, by omega⟩, (by first | assumption | exact (TOK_FR w169 rfl rfl rfl (by assumption : TOK T1))), (by omega), (by first | exact k162 | exact k74 | exact k6), (by first | exact i162 | exact i74 | exact i6), (by omega)⟩
      · refine l_aload_n rfl rfl ?_
        refine l_gfr rfl rfl rfl rfl rfl (hHT5.r 899 2 895 rfl) ?_
        refine l_gfi rfl rfl rfl rfl rfl ?_
        have w186 : -2 ≤ (Xi T5 895 5) ∧ (Xi T5 895 5) ≤ 23 := hHT5.c _ _
        refine l_iconst rfl ?_
        refine l_icmp_ne rfl rfl (by unfold rg; omega) (by unfold rg; omega) (fun w187 => ?_) (fun w188 => ?_)
        · refine l_iload rfl rfl ?_
          refine l_if_eq rfl rfl (by unfold rg; omega) (fun w189 => ?_) (fun w190 => ?_)
          · refine l_aload_n rfl rfl ?_
            refine l_gfr rfl rfl rfl rfl rfl (hHT5.r 899 3 246 rfl) ?_
            refine l_aload_n rfl rfl ?_
            refine l_gfr rfl rfl rfl rfl rfl (hHT5.r 899 2 895 rfl) ?_
            refine l_gfi rfl rfl rfl rfl rfl ?_
            refine l_iload rfl rfl ?_
            have w191 : Xi T5 246 8 = Xi S 246 8 := (show Xi T5 246 8 = Xi T1 246 8 from w169.x _ _ rfl).trans ((show Xi T1 246 8 = Xi S 246 8 from w14.x _ _ rfl))
            refine l_callV rfl rfl rfl (t_bo_addInsert__2 hHT5 (Xi T5 895 5) (-1) ⟨by omega, by omega⟩ ⟨by omega, by omega⟩ _) ?_
            rintro _ T6 ⟨hHT6, w200, rfl, w197, w198⟩
            have hFT6 : FR md_rr_insert S T6 := FR.tr hFT5 w200 rfl
            show Rl _ _ _ _ _ [] _ _
            have k162 : KTK S T6 (Xi S 876 6) := ktk_f (by assumption : FR md_bo_addInsert__2 T5 T6) rfl k74
            have i162 : IGR S T6 (0 ≤ Xi S 895 4) := IGR.tr i74 ((by assumption : IAD T5 T6 _ _) (0 ≤ Xi S 895 4) (fun q => wo74 (by omega))) (fun x => x)
            refine l_iconst rfl ?_
            refine l_ireturn rfl rfl ?_
            have w201 : 0 ≤ Xi T6 246 8 ∧ Xi T6 246 8 ≤ 1666 := hHT6.c _ _
            have w202 : Xi T6 876 7 = Xi T1 876 7 := (show Xi T6 876 7 = Xi T5 876 7 from w200.x _ _ rfl).trans ((show Xi T5 876 7 = Xi T1 876 7 from w169.x _ _ rfl))
            have w204 : Xi T6 895 4 = Xi S 895 4 := (show Xi T6 895 4 = Xi T5 895 4 from w200.x _ _ rfl).trans ( (show Xi T5 895 4 = Xi T1 895 4 from w169.x _ _ rfl).trans ((show Xi T1 895 4 = Xi S 895 4 from w14.x _ _ rfl)))
            exact ⟨hHT6, hFT6, _, rfl, ⟨by omega, by omega⟩, (by first | assumption | exact (TOK_FR w200 rfl rfl rfl (TOK_FR w169 rfl rfl rfl (by assumption : TOK T1)))), (by omega), (by first | exact k162 | exact k74 | exact k6), (by first | exact i162 | exact i74 | exact i6), (by omega)⟩
          · refine l_aload_n rfl rfl ?_
            refine l_gfr rfl rfl rfl rfl rfl (hHT5.r 899 2 895 rfl) ?_
            refine l_iconst rfl ?_
            refine l_iload rfl rfl ?_
            refine l_iload rfl rfl ?_
            refine l_callV rfl rfl rfl (t_me_find hHT5 5 (z13 + 1) z36 ⟨by omega, by omega⟩ ⟨by omega, by omega⟩ ⟨by omega, by omega⟩ (by first | assumption | exact (LEX_FR hFT5 rfl rfl (by assumption : LEX S))) _) ?_
            rintro _ _ ⟨rfl, z215, rfl, w215, w212, w213, w214⟩
            have w216 : z215 ≠ -1 → _ := fun h => fb5 hHT5 (w212 h)
            clear w213
            show Rl _ _ _ _ _ [iv z215] _ _
            refine l_istore rfl rfl rfl ?_
            refine l_iload rfl rfl ?_
            refine l_iconst rfl ?_
            refine l_icmp_eq rfl rfl (by unfold rg; omega) (by unfold rg; omega) (fun w217 => ?_) (fun w218 => ?_)
            · refine l_iconst rfl ?_
              refine l_ireturn rfl rfl ?_
              have w219 : Xi T5 246 8 = Xi S 246 8 := (show Xi T5 246 8 = Xi T1 246 8 from w169.x _ _ rfl).trans ((show Xi T1 246 8 = Xi S 246 8 from w14.x _ _ rfl))
              have w223 : Xi T5 895 4 = Xi S 895 4 := (show Xi T5 895 4 = Xi T1 895 4 from w169.x _ _ rfl).trans ((show Xi T1 895 4 = Xi S 895 4 from w14.x _ _ rfl))
              exact ⟨hHT5, hFT5, _, rfl, ⟨by omega, by omega⟩, (by first | assumption | exact (TOK_FR w169 rfl rfl rfl (by assumption : TOK T1))), (by omega), (by first | exact k162 | exact k74 | exact k6), (by first | exact i162 | exact i74 | exact i6), (by omega)⟩
            · refine l_aload_n rfl rfl ?_
              refine l_gfr rfl rfl rfl rfl rfl (hHT5.r 899 1 1 rfl) ?_
              refine l_aload_n rfl rfl ?_
              refine l_gfr rfl rfl rfl rfl rfl (hHT5.r 899 2 895 rfl) ?_
              refine l_gfi rfl rfl rfl rfl rfl ?_
              have w225 : -1 ≤ (Xi T5 895 6) ∧ (Xi T5 895 6) ≤ 15 := hHT5.c _ _
              refine l_callV rfl rfl rfl (t_vo_propertiesOf hHT5 (Xi T5 895 6) ⟨by omega, by omega⟩ _) ?_
              rintro _ _ ⟨rfl, z233, rfl, w233, w232⟩
              show Rl _ _ _ _ _ [iv z233] _ _
              refine l_iload rfl rfl ?_
              refine l_ishrF rfl ?_
              have w234 : -2147483648 ≤ (ishrF z233 z215) ∧ (ishrF z233 z215) ≤ 2147483647 := ishrF_rg
              refine l_iconst rfl ?_
              refine l_iandF rfl ?_
              have w235 : 0 ≤ (iandF (ishrF z233 z215) 1) ∧ (iandF (ishrF z233 z215) 1) ≤ 1 := iandF_le (by omega) (by unfold rg; omega)
              refine l_if_ne rfl rfl (by unfold rg; omega) (fun w236 => ?_) (fun w237 => ?_)
              · refine l_aload_n rfl rfl ?_
                refine l_gfr rfl rfl rfl rfl rfl (hHT5.r 899 3 246 rfl) ?_
                refine l_aload_n rfl rfl ?_
                refine l_gfr rfl rfl rfl rfl rfl (hHT5.r 899 2 895 rfl) ?_
                refine l_gfi rfl rfl rfl rfl rfl ?_
                refine l_iload rfl rfl ?_
                have w238 : Xi T5 246 8 = Xi S 246 8 := (show Xi T5 246 8 = Xi T1 246 8 from w169.x _ _ rfl).trans ((show Xi T1 246 8 = Xi S 246 8 from w14.x _ _ rfl))
                refine l_callV rfl rfl rfl (t_bo_addInsert__2 hHT5 (Xi T5 895 5) z215 ⟨by omega, by omega⟩ ⟨by omega, by omega⟩ _) ?_
                rintro _ T7 ⟨hHT7, w247, rfl, w244, w245⟩
                have hFT7 : FR md_rr_insert S T7 := FR.tr hFT5 w247 rfl
                show Rl _ _ _ _ _ [] _ _
                have k162 : KTK S T7 (Xi S 876 6) := ktk_f (by assumption : FR md_bo_addInsert__2 T5 T7) rfl k74
                have i162 : IGR S T7 (0 ≤ Xi S 895 4) := IGR.tr i74 ((by assumption : IAD T5 T7 _ _) (0 ≤ Xi S 895 4) (fun q => wo74 (by omega))) (fun x => x)
                refine l_iconst rfl ?_
                refine l_ireturn rfl rfl ?_
                have w248 : 0 ≤ Xi T7 246 8 ∧ Xi T7 246 8 ≤ 1666 := hHT7.c _ _
                have w249 : Xi T7 876 7 = Xi T1 876 7 := (show Xi T7 876 7 = Xi T5 876 7 from w247.x _ _ rfl).trans ((show Xi T5 876 7 = Xi T1 876 7 from w169.x _ _ rfl))
                have w251 : Xi T7 895 4 = Xi S 895 4 := (show Xi T7 895 4 = Xi T5 895 4 from w247.x _ _ rfl).trans ( (show Xi T5 895 4 = Xi T1 895 4 from w169.x _ _ rfl).trans ((show Xi T1 895 4 = Xi S 895 4 from w14.x _ _ rfl)))
                exact ⟨hHT7, hFT7, _, rfl, ⟨by omega, by omega⟩, (by first | assumption | exact (TOK_FR w247 rfl rfl rfl (TOK_FR w169 rfl rfl rfl (by assumption : TOK T1)))), (by omega), (by first | exact k162 | exact k74 | exact k6), (by first | exact i162 | exact i74 | exact i6), (by omega)⟩
              · refine l_iconst rfl ?_
                refine l_ireturn rfl rfl ?_
                have w253 : Xi T5 246 8 = Xi S 246 8 := (show Xi T5 246 8 = Xi T1 246 8 from w169.x _ _ rfl).trans ((show Xi T1 246 8 = Xi S 246 8 from w14.x _ _ rfl))
                have w257 : Xi T5 895 4 = Xi S 895 4 := (show Xi T5 895 4 = Xi T1 895 4 from w169.x _ _ rfl).trans ((show Xi T1 895 4 = Xi S 895 4 from w14.x _ _ rfl))
                exact ⟨hHT5, hFT5, _, rfl, ⟨by omega, by omega⟩, (by first | assumption | exact (TOK_FR w169 rfl rfl rfl (by assumption : TOK T1))), (by omega), (by first | exact k162 | exact k74 | exact k6), (by first | exact i162 | exact i74 | exact i6), (by omega)⟩
        · refine l_iconst rfl ?_
          refine l_ireturn rfl rfl ?_
          have w259 : Xi T5 246 8 = Xi S 246 8 := (show Xi T5 246 8 = Xi T1 246 8 from w169.x _ _ rfl).trans ((show Xi T1 246 8 = Xi S 246 8 from w14.x _ _ rfl))
          have w263 : Xi T5 895 4 = Xi S 895 4 := (show Xi T5 895 4 = Xi T1 895 4 from w169.x _ _ rfl).trans ((show Xi T1 895 4 = Xi S 895 4 from w14.x _ _ rfl))
          exact ⟨hHT5, hFT5, _, rfl, ⟨by omega, by omega⟩, (by first | assumption | exact (TOK_FR w169 rfl rfl rfl (by assumption : TOK T1))), (by omega), (by first | exact k162 | exact k74 | exact k6), (by first | exact i162 | exact i74 | exact i6), (by omega)⟩
  · refine l_iconst rfl ?_
    refine l_ireturn rfl rfl ?_
    have w265 : Xi T1 246 8 = Xi S 246 8 := (show Xi T1 246 8 = Xi S 246 8 from w14.x _ _ rfl)
    have w267 : 0 ≤ Xi T1 876 7 ∧ Xi T1 876 7 ≤ 5125 := hHT1.c _ _
    have w268 : Xi T1 895 4 = Xi S 895 4 := (show Xi T1 895 4 = Xi S 895 4 from w14.x _ _ rfl)
    exact ⟨hHT1, hFT1, _, rfl, ⟨by omega, by omega⟩, (by first | assumption | exact (by assumption : TOK T1)), (by omega), (by first | exact k162 | exact k74 | exact k6), (by first | exact i162 | exact i74 | exact i6), (by omega)⟩


