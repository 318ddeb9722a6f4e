def md_mo_holds : List rec := [(904, 905, 154, 155)]
/-! SAFETY of the reference: rules as turns want them -/
def nM (S : sS) (r : Nat) : Prop := 0 ≤ Xi S 979 r ∧ 0 ≤ Xi S 942 (Xi S 979 r).toNat
def NQ (S : sS) (c : Prop) (q : Nat) : Prop := TQ S False c q ∧ (Xi S 969 q = 0 ∨ Xi S 969 q = 3 ∨ Xi S 969 q = 5) ∧ (Xi S 969 q = 3 → Xi S 973 q < 100 → Xi S 922 (Xi S 973 q).toNat ≠ -1)
def PQ (S : sS) (c : Prop) (i : Nat) : Prop := Xi S 977 i < 2400 ∧ (Xi S 976 i = 0 → 0 ≤ Xi S 973 (Xi S 977 i).toNat ∧ 0 ≤ Xi S 974 (Xi S 977 i).toNat ∧ Xi S 973 (Xi S 977 i).toNat + Xi S 974 (Xi S 977 i).toNat ≤ 5000) ∧ (Xi S 976 i = 1 → NQ S c (Xi S 977 i).toNat) ∧
  (Xi S 976 i = 2 → thK S False c (Xi S 971 (Xi S 977 i).toNat) ∧ thK S False c (Xi S 975 (Xi S 977 i).toNat)) ∧
  (Xi S 976 i = 3 ∨ Xi S 976 i = 4 → thK S False c (Xi S 971 (Xi S 977 i).toNat) ∧ 0 ≤ Xi S 972 (Xi S 977 i).toNat ∧ Xi S 972 (Xi S 977 i).toNat < Xi S 904 32 ∧ Xi S 928 (Xi S 972 (Xi S 977 i).toNat).toNat ≠ 1) ∧
  (Xi S 976 i = 5 → (0 ≤ Xi S 972 (Xi S 977 i).toNat ∧ Xi S 972 (Xi S 977 i).toNat < Xi S 904 49) ∧ (Xi S 970 (Xi S 977 i).toNat = 0 → thK S False c (Xi S 971 (Xi S 977 i).toNat)) ∧ (Xi S 970 (Xi S 977 i).toNat ≠ 0 → Xi S 942 (Xi S 972 (Xi S 977 i).toNat).toNat < 0))
def RULM (S : sS) : Prop := ∀ r : Nat, (r : Int) < Xi S 904 130 → (Xi S 984 r + Xi S 985 r ≤ 2400 ∧ Xi S 986 r + Xi S 987 r ≤ 2000 ∧ Xi S 979 r < Xi S 904 49 ∧ (Xi S 978 r = 3 → Xi S 979 r = -1)) ∧ (Xi S 981 r ≠ -1 → nM S r) ∧
  (∀ k : Nat, (k : Int) < Xi S 982 r → nM S r ∧ ADM S (Xi S 983 (6 * r + k))) ∧ (∀ k : Nat, (k : Int) < Xi S 985 r → TQ S False (nM S r) ((Xi S 984 r).toNat + k)) ∧ (∀ k : Nat, (k : Int) < Xi S 987 r → PQ S (nM S r) ((Xi S 986 r).toNat + k))
def kR : List (Nat × Nat) := [(969, 988), (942, 943), (922, 925), (928, 929)]
theorem RULM_FR {l : List rec} {S T : sS} (h : FR l S T) (e : (kdis l kR && mD l [19, 23, 32, 49, 130]) = true) (hR : RULM S) : RULM T := by
  rw [Bool.and_eq_true] at e
  have k := h.smk e.1
  unfold RULM PQ NQ TQ nM ADM thK
  simp only [k.x 969 rfl, k.x 970 rfl, k.x 971 rfl, k.x 972 rfl, k.x 973 rfl, k.x 974 rfl, k.x 975 rfl, k.x 976 rfl, k.x 977 rfl, k.x 978 rfl, k.x 979 rfl, k.x 981 rfl, k.x 982 rfl, k.x 983 rfl, k.x 984 rfl, k.x 985 rfl, k.x 986 rfl, k.x 987 rfl, k.x 942 rfl, k.x 922 rfl, k.x 928 rfl, mD_x h e.2 19 (by decide), mD_x h e.2 23 (by decide), mD_x h e.2 32 (by decide), mD_x h e.2 49 (by decide), mD_x h e.2 130 (by decide)]
  exact hR
theorem PQ_FR {l : List rec} {S T : sS} {c : Prop} {i : Nat} (h : FR l S T) (e : (kdis l kR && mD l [19, 23, 32, 49, 130]) = true) (hp : PQ S c i) : PQ T c i := by
  rw [Bool.and_eq_true] at e
  have k := h.smk e.1
  unfold PQ NQ TQ ADM thK
  simp only [k.x 969 rfl, k.x 970 rfl, k.x 971 rfl, k.x 972 rfl, k.x 973 rfl, k.x 974 rfl, k.x 975 rfl, k.x 976 rfl, k.x 977 rfl, k.x 942 rfl, k.x 922 rfl, k.x 928 rfl, mD_x h e.2 19 (by decide), mD_x h e.2 23 (by decide), mD_x h e.2 32 (by decide), mD_x h e.2 49 (by decide)]
  exact hp
theorem rul_ts {S : sS} {b : Prop} {r i q : Int} (h : RULM S) (h0 : 0 ≤ r) (hr : r < Xi S 904 130) (hi : 0 ≤ i) (hi2 : i < Xi S 985 r.toNat) (hf : 0 ≤ Xi S 984 r.toNat) (hq : q = Xi S 984 r.toNat + i) (hb : nM S r.toNat → b) {a : Prop} : TQ S a b q.toNat := by
  have t := (h r.toNat (by omega)).2.2.2.1 i.toNat (by omega)
  rw [show (Xi S 984 r.toNat).toNat + i.toNat = q.toNat by omega] at t
  exact t.mono (fun f => f.elim) hb
theorem rul_ad {S : sS} {r i q : Int} (h : RULM S) (h0 : 0 ≤ r) (hr : r < Xi S 904 130) (hi : 0 ≤ i) (hi2 : i < Xi S 982 r.toNat) (hq : q = 6 * r + i) : nM S r.toNat ∧ ADM S (Xi S 983 q.toNat) := by
  have t := (h r.toNat (by omega)).2.2.1 i.toNat (by omega)
  rw [show 6 * r.toNat + i.toNat = q.toNat by omega] at t
  exact t
theorem rul_ph {S : sS} {r i q : Int} (h : RULM S) (h0 : 0 ≤ r) (hr : r < Xi S 904 130) (hi : 0 ≤ i) (hi2 : i < Xi S 987 r.toNat) (hf : 0 ≤ Xi S 986 r.toNat) (hq : q = Xi S 986 r.toNat + i) : PQ S (nM S r.toNat) q.toNat := by
  have t := (h r.toNat (by omega)).2.2.2.2 i.toNat (by omega)
  rw [show (Xi S 986 r.toNat).toNat + i.toNat = q.toNat by omega] at t
  exact t
def WYM (S : sS) : Prop := ∀ o : Nat, o < 24 → Xi S 919 o ≠ 0 → 0 ≤ Xi S 920 o
theorem WYM_FR {l : List rec} {S T : sS} (h : FR l S T) (e : kdis l [(919, 921)] = true) (hW : WYM S) : WYM T := fun o ho => by rw [(h.smk e).x 919 rfl, (h.smk e).x 920 rfl]; exact hW o ho
theorem wym_w {S U1 U2 : sS} {n : Nat} {a b : Int32} (e1 : U1 = uI S 919 n a) (e2 : U2 = uI U1 920 n b) (h : Xi U2 919 n ≠ 0 → 0 ≤ Xi U2 920 n) (hW : WYM S) : WYM U2 := fun o ho q => by
  by_cases e : o = n
  · rw [e] at q ⊢; exact h q
  · have x : Xi U2 919 o = Xi S 919 o := by rw [e2, Xi_ne (by omega), e1, Xi_ne (by omega)]
    have y : Xi U2 920 o = Xi S 920 o := by rw [e2, Xi_ne (by omega), e1, Xi_ne (by omega)]
    rw [x] at q
    rw [y]
    exact hW o ho q
theorem wym_t {S U : sS} {n : Nat} {v : Int} (e : U = uI S 920 n (Int32.ofInt v)) (hv : 0 ≤ v ∧ v ≤ 23) (hW : WYM S) : WYM U := fun o ho q => by
  rw [e, Xi_ne (by omega)] at q
  by_cases c : o = n
  · rw [c, e, Xi_same ⟨by omega, by omega⟩]; exact hv.1
  · rw [e, Xi_ne (by omega)]; exact hW o ho q
/-- a property of an object is told -/
theorem txm_w {S U1 U2 U3 : sS} {o p v n : Int} {i : Nat} {w : Int32} (e1 : U1 = uI S 930 i w) (e2 : U2 = uI U1 931 i (Int32.ofInt v)) (e3 : U3 = uI U2 932 i (Int32.ofInt n)) (hi : i = (12 * o + p).toNat) (h0 : 0 ≤ o) (hp : 0 ≤ p) (hp2 : p < Xi S 904 32) (hp3 : p < 12) (hv : rg v) (hn : rg n) (hk : Xi S 928 p.toNat = 1 → OKT v n) (hX : TXM S) : TXM U3 := by
  have x : ∀ k j, k ≠ 930 → k ≠ 931 → k ≠ 932 → Xi U3 k j = Xi S k j := fun k j a b c => by rw [e3, Xi_ne (by omega), e2, Xi_ne (by omega), e1, Xi_ne (by omega)]
  refine ⟨fun a h1 h2 => ?_, fun a b h1 h2 h3 h4 h5 => ?_, fun a b h1 h2 h3 h4 h5 => ?_⟩
  · rw [x 904 19 (by decide) (by decide) (by decide)] at h2
    rw [x 918 _ (by decide) (by decide) (by decide), x 904 16 (by decide) (by decide) (by decide)]
    exact hX.1 a h1 h2
  · rw [x 904 19 (by decide) (by decide) (by decide)] at h2
    rw [x 904 32 (by decide) (by decide) (by decide), x 928 _ (by decide) (by decide) (by decide)]
    by_cases q : (12 * a + b).toNat = i
    · have eb : b = p := by omega
      subst eb
      refine ⟨hp2, fun z => ?_⟩
      have y1 : Xi U3 931 (12 * a + b).toNat = v := by rw [q, e3, Xi_ne (by omega), e2]; exact Xi_same hv
      have y2 : Xi U3 932 (12 * a + b).toNat = n := by rw [q, e3]; exact Xi_same hn
      rw [y1, y2]
      exact hk z
    · have y0 : Xi U3 930 (12 * a + b).toNat = Xi S 930 (12 * a + b).toNat := by rw [e3, Xi_ne (by omega), e2, Xi_ne (by omega), e1, Xi_ne (by omega)]
      have y1 : Xi U3 931 (12 * a + b).toNat = Xi S 931 (12 * a + b).toNat := by rw [e3, Xi_ne (by omega), e2, Xi_ne (by omega), e1, Xi_ne (by omega)]
      have y2 : Xi U3 932 (12 * a + b).toNat = Xi S 932 (12 * a + b).toNat := by rw [e3, Xi_ne (by omega), e2, Xi_ne (by omega), e1, Xi_ne (by omega)]
      rw [y0] at h5
      rw [y1, y2]
      exact hX.2.1 a b h1 h2 h3 h4 h5
  · rw [x 904 16 (by decide) (by decide) (by decide)] at h2
    rw [x 933 _ (by decide) (by decide) (by decide)] at h5
    rw [x 904 32 (by decide) (by decide) (by decide), x 928 _ (by decide) (by decide) (by decide), x 934 _ (by decide) (by decide) (by decide), x 935 _ (by decide) (by decide) (by decide)]
    exact hX.2.2 a b h1 h2 h3 h4 h5
theorem txm_a {S U1 U2 : sS} {o p v : Int} {i : Nat} {w : Int32} (e1 : U1 = uI S 930 i w) (e2 : U2 = uI U1 931 i (Int32.ofInt v)) (hi : i = (12 * o + p).toNat) (h0 : 0 ≤ o) (hp : 0 ≤ p) (hp2 : p < Xi S 904 32) (hp3 : p < 12) (hv : rg v) (hk : Xi S 928 p.toNat ≠ 1) (hX : TXM S) : TXM U2 :=
  txm_w (n := Xi U2 932 i) e1 e2 (U3 := U2) (by
    have e : uI U2 932 i (Int32.ofInt (Xi U2 932 i)) = U2 := by
      show (va_up U2.1 932 (va_up (U2.1 932) i (Int32.ofInt (U2.1 932 i).toInt)), U2.2.1, U2.2.2) = U2
      rw [ofI_toI]
      have f : va_up U2.1 932 (va_up (U2.1 932) i (U2.1 932 i)) = U2.1 := by
        funext k
        unfold va_up
        by_cases c : k = 932
        · subst c; simp only [if_true]; funext j; by_cases g : j = i
          · subst g; simp
          · simp [g]
        · simp [c]
      rw [f]
    exact e.symm) hi h0 hp hp2 hp3 hv Xi_rg (fun z => absurd z hk) hX
theorem thK.mono {S : sS} {b c c2 : Prop} {x : Int} (hc : c → c2) (h : thK S b c x) : thK S b c2 x := h.elim Or.inl (fun u => u.elim (fun v => Or.inr (Or.inl v)) (fun v => Or.inr (Or.inr ⟨v.1, hc v.2⟩)))
theorem NQ.mono {S : sS} {c c2 : Prop} {q : Nat} (hc : c → c2) (h : NQ S c q) : NQ S c2 q := ⟨h.1.mono (fun f => f) hc, h.2⟩
/-- the first actions, adjectives, properties -/
def AKR (S : sS) : Prop := 5 ≤ Xi S 904 49 ∧ Xi S 942 0 = -1 ∧ Xi S 942 1 = 0 ∧ Xi S 942 2 = 0 ∧ Xi S 942 3 = 0 ∧ Xi S 942 4 = -2 ∧ 2 ≤ Xi S 904 23 ∧ 1 ≤ Xi S 904 32
theorem AKR_FR {l : List rec} {S T : sS} (h : FR l S T) (e : (kdis l [(942, 943)] && mD l [23, 32, 49]) = true) (hA : AKR S) : AKR T := by
  rw [Bool.and_eq_true] at e
  have k := h.smk e.1
  unfold AKR
  rw [k.x 942 rfl, k.x 942 rfl, k.x 942 rfl, k.x 942 rfl, k.x 942 rfl, mD_x h e.2 23 (by decide), mD_x h e.2 32 (by decide), mD_x h e.2 49 (by decide)]
  exact hA
theorem akr_n {S : sS} {a noun : Int} (hA : AKR S) (hn : 0 ≤ Xi S 942 a.toNat → 0 ≤ noun) : 1 ≤ a → a ≤ 3 → 0 ≤ noun := fun h1 h3 => hn (by
  obtain ⟨_, _, x1, x2, x3, _⟩ := hA
  rcases (by omega : a = 1 ∨ a = 2 ∨ a = 3) with e | e | e
  · rw [e]; show 0 ≤ Xi S 942 1; omega
  · rw [e]; show 0 ≤ Xi S 942 2; omega
  · rw [e]; show 0 ≤ Xi S 942 3; omega)
/-! the same question again -/
def dv (lay : Nat → Nat × Nat) (d : Nat) (q : mT) (av : List Value) (S : sS) (r : Option Value) (S1 : sS) : Prop := ∃ N : Nat, ∀ G, N ≤ G → evd lay G d q av S = some (r, S1)
theorem Mt_d {lay : Nat → Nat × Nat} {d : Nat} {q : mT} {av : List Value} {S : sS} {Q : pst} (h : Mt lay d q av S Q) : Mt lay d q av S (fun r S1 => Q r S1 ∧ dv lay d q av S r S1) := by
  obtain ⟨N, r, S1, h1, h2⟩ := h
  exact ⟨N, r, S1, h1, h2, N, h1⟩
theorem dv_i {lay : Nat → Nat × Nat} {d : Nat} {q : mT} {av : List Value} {S S1 S2 : sS} {z z2 : Int} (h : dv lay d q av S (some (iv z)) S1) (h2 : dv lay d q av S (some (iv z2)) S2) (hz : rg z) (hz2 : rg z2) : z2 = z := by
  obtain ⟨N, a⟩ := h
  obtain ⟨M, b⟩ := h2
  have e := (a (N + M) (by omega)).symm.trans (b (N + M) (by omega))
  injection e with e
  injection e with e _
  injection e with e
  unfold iv at e
  injection e with e
  have t := congrArg Int32.toInt e
  rw [toI hz, toI hz2] at t
  exact t.symm
def md_mo_words : List rec := [(904, 905, 160, 161), (994, 995, 0, 100000)]
abbrev Q_mo_words (S : sS) (from_ : Int) (end_ : Int) : pst := fun r S1 => HI S1 ∧ FR md_mo_words S S1 ∧ (∃ z : Int, r = some (iv z) ∧ (-1 ≤ z ∧ z ≤ 5000) ∧ (z ≠ -1 → from_ < z ∧ z ≤ end_))
set_option maxRecDepth 100000 in
theorem t_mo_words {S : sS} (hH : HI S) (from_ : Int) (end_ : Int) (hfrom_ : 0 ≤ from_ ∧ from_ ≤ 5000) (hend_ : 0 ≤ end_ ∧ end_ ≤ 5000) (d : Nat) : Mt lay0 (d + 4) m_mo_words [.ref 904, iv from_, iv end_] S (Q_mo_words S from_ end_) := by
  refine Mt_R rfl rfl ?_
  have hF : FR md_mo_words S S := FR.rf
  have C7 : ∀ (n7 : Nat) (T1 : sS) (_ : HI T1) (_ : FR md_mo_words S T1) (v3 : Int), (0 ≤ v3 ∧ v3 ≤ 5000) → (from_ ≤ v3) → n7 = (5001 - v3).toNat → Rl lay0 (d + 3) m_mo_words 7 [(0, .ref 904), (2, iv end_), (3, iv v3)] [] T1 (Q_mo_words S from_ end_) := by
    intro n7
    induction n7 using Nat.strongRecOn with
    | ind n7 ih7 =>
      intro T1 hHT1 hFT1 v3 w1 w2 hm7
      have C55 : ∀ (n55 : Nat) (T2 : sS) (_ : HI T2) (_ : FR md_mo_words S T2) (v3 : Int) (v4 : Int), (0 ≤ v3 ∧ v3 ≤ 4999) → (0 ≤ v4 ∧ v4 ≤ 5000) → (from_ ≤ v3) → (v3 ≤ v4) → (v3 < end_) → (v4 ≤ end_) → (v4 = v3 → ltr (Xi S 906 (v4).toNat) = 1) → ((5001 - v3).toNat ≤ n7) → n55 = (5001 - v4).toNat → Rl lay0 (d + 3) m_mo_words 55 [(0, .ref 904), (2, iv end_), (3, iv v3), (4, iv v4)] [] T2 (Q_mo_words S from_ end_) := by
        intro n55
        induction n55 using Nat.strongRecOn with
        | ind n55 ih55 =>
          intro T2 hHT2 hFT2 v3 v4 w3 w4 w5 w6 w7 w8 hl55 w9 hm55
          have C80 : ∀  (T3 : sS) (_ : HI T3) (_ : FR md_mo_words S T3) (v3 : Int) (v4 : Int), (0 ≤ v3 ∧ v3 ≤ 4999) → (0 ≤ v4 ∧ v4 ≤ 5000) → (from_ ≤ v3) → (v3 ≤ v4) → (v3 < end_) → (v4 ≤ end_) → (v3 < v4) → ((5001 - v3).toNat ≤ n7) → Rl lay0 (d + 3) m_mo_words 80 [(0, .ref 904), (2, iv end_), (3, iv v3), (4, iv v4)] [] T3 (Q_mo_words S from_ end_) := by
            intro T3 hHT3 hFT3 v3 v4 w10 w11 w12 w13 w14 w15 w16 w17
            refine l_iload rfl rfl ?_
            refine l_iload_n rfl rfl ?_
            refine l_isub rfl ?_
            refine l_bipush rfl rfl ?_
            refine l_icmp_gt rfl rfl (by unfold rg; omega) (by unfold rg; omega) (fun w18 => ?_) (fun w19 => ?_)
            · refine l_iconst rfl ?_
              refine l_ireturn rfl rfl ?_
              exact ⟨hHT3, hFT3, _, rfl, ⟨by omega, by omega⟩, (by first | assumption | omega)⟩
            · refine l_aload_n rfl rfl ?_
              refine l_gfi rfl rfl rfl rfl rfl ?_
              have w20 : 0 ≤ (Xi T3 904 160) ∧ (Xi T3 904 160) ≤ 64 := hHT3.c _ _
              refine l_bipush rfl rfl ?_
              refine l_icmp_ne rfl rfl (by unfold rg; omega) (by unfold rg; omega) (fun w21 => ?_) (fun w22 => ?_)
              · refine l_aload_n rfl rfl ?_
                refine l_gfr rfl rfl rfl rfl rfl (hHT3.r 904 159 994 rfl) ?_
                refine l_aload_n rfl rfl ?_
                refine l_gfi rfl rfl rfl rfl rfl ?_
                refine l_aload_n rfl rfl ?_
                refine l_gfr rfl rfl rfl rfl rfl (hHT3.r 904 2 906 rfl) ?_
                refine l_iload_n rfl rfl ?_
                refine l_iload rfl rfl ?_
                refine l_iload_n rfl rfl ?_
                refine l_isub rfl ?_
                refine l_callS rfl rfl (by decide) rfl (t_mo_wordOf hHT3 906 v3 (v4 - v3) (Or.inr rfl) ⟨by omega, by omega⟩ ⟨by omega, by omega⟩ (by first | assumption | omega) _) ?_
                rintro _ _ ⟨rfl, z23, rfl⟩
                show Rl _ _ _ _ _ [jw z23, iv (Xi T3 904 160), .ref 994] _ _
                refine l_lastore (n := 64) rfl rfl (by omega) (by omega) (by unfold rg; omega) ?_
                obtain ⟨U4, eU4⟩ : ∃ T : sS, T = uJ T3 994 (((Xi T3 904 160)).toNat) (Int64.ofInt z23) := ⟨_, rfl⟩
                rw [← eU4]
                have hHU4 : HI U4 := by rw [eU4]; exact HI_J hHT3
                have hFU4 : FR md_mo_words S U4 := by rw [eU4]; exact FR.wJ hFT3 (mdf_i (r := (994, 995, 0, 100000)) (List.mem_of_getElem? (i := 1) rfl) (inR_i (by omega) (by omega) (by omega) (by omega)))
                refine l_aload_n rfl rfl ?_
                refine l_dup rfl rfl ?_
                refine l_gfi rfl rfl rfl rfl rfl ?_
                have w24 : (Xi U4 904 160) = (Xi T3 904 160) := (show Xi U4 904 160 = Xi T3 904 160 from by rw [eU4]; rfl)
                rw [w24]
                refine l_iconst rfl ?_
                refine l_iadd rfl ?_
                refine l_pfi rfl rfl rfl rfl ?_
                obtain ⟨U5, eU5⟩ : ∃ T : sS, T = uI U4 904 160 (Int32.ofInt ((Xi T3 904 160) + 1)) := ⟨_, rfl⟩
                rw [← eU5]
                have hHU5 : HI U5 := by rw [eU5]; exact HI_w hHU4 (show 0 ≤ ((Xi T3 904 160) + 1) by omega) (show ((Xi T3 904 160) + 1) ≤ 64 by omega)
                have hFU5 : FR md_mo_words S U5 := by rw [eU5]; exact FR.wI hFU4 (mdf_i (r := (904, 905, 160, 161)) (List.mem_of_getElem? (i := 0) rfl) (inR_i (by omega) (by omega) (by omega) (by omega)))
                have w25 : Xi U5 904 160 = ((Xi T3 904 160) + 1) := by rw [eU5]; exact Xi_same (by unfold rg; omega)
                refine l_iload rfl rfl ?_
                refine l_istore_n rfl rfl rfl ?_
                refine l_goto rfl rfl ?_
                exact Rl_weak (ih7 _ (by omega) U5 hHU5 hFU5 (v4) (by omega) (by omega) rfl) (And.intro rfl (And.intro rfl (And.intro rfl (True.intro))))
              · refine l_iconst rfl ?_
                refine l_ireturn rfl rfl ?_
                exact ⟨hHT3, hFT3, _, rfl, ⟨by omega, by omega⟩, (by first | assumption | omega)⟩
          refine l_iload rfl rfl ?_
          refine l_iload_n rfl rfl ?_
          refine l_icmp_ge rfl rfl (by unfold rg; omega) (by unfold rg; omega) (fun w26 => ?_) (fun w27 => ?_)
          · exact Rl_weak (C80 T2 hHT2 hFT2 (v3) (v4) (by omega) (by omega) (by omega) (by omega) (by omega) (by omega) (by omega) (by omega)) (And.intro rfl (And.intro rfl (And.intro rfl (And.intro rfl (True.intro)))))
          · refine l_aload_n rfl rfl ?_
            refine l_gfr rfl rfl rfl rfl rfl (hHT2.r 904 2 906 rfl) ?_
            refine l_iload rfl rfl ?_
            refine l_baload (n := 5000) rfl rfl rfl (by decide) (by omega) (by omega) (by unfold rg; omega) ?_
            have w28 : -128 ≤ (Xi T2 906 ((v4).toNat)) ∧ (Xi T2 906 ((v4).toNat)) ≤ 127 := hHT2.c _ _
            have e67 : (Xi T2 906 ((v4).toNat)) = Xi S 906 (v4).toNat := by first | rfl | exact (hFT2.cx 906 rfl _).1
            refine l_callS rfl rfl (by decide) rfl (t_mo_isLetter hHT2 (Xi T2 906 ((v4).toNat)) ⟨by omega, by omega⟩ _) ?_
            rintro _ _ ⟨rfl, z30, rfl, w30, w29⟩
            show Rl _ _ _ _ _ [iv z30] _ _
            have l68 : v4 = v3 → z30 = 1 := fun q => by rw [(by assumption : z30 = ltr _), e67]; exact hl55 q
            refine l_if_eq rfl rfl (by unfold rg; omega) (fun w31 => ?_) (fun w32 => ?_)
            · exact Rl_weak (C80 T2 hHT2 hFT2 (v3) (v4) (by omega) (by omega) (by omega) (by omega) (by omega) (by omega) (by omega) (by omega)) (And.intro rfl (And.intro rfl (And.intro rfl (And.intro rfl (True.intro)))))
            · refine l_iinc rfl rfl rfl rfl ?_
              refine l_goto rfl rfl ?_
              exact Rl_weak (ih55 _ (by omega) T2 hHT2 hFT2 (v3) ((v4 + 1)) (by omega) (by omega) (by omega) (by omega) (by omega) (by omega) (by first | exact fun _ => by omega | exact fun q => by omega) (by omega) rfl) (And.intro rfl (And.intro rfl (And.intro rfl (And.intro rfl (True.intro)))))
      have C139 : ∀  (T6 : sS) (_ : HI T6) (_ : FR md_mo_words S T6) (v3 : Int), (0 ≤ v3 ∧ v3 ≤ 5000) → (from_ ≤ v3) → Rl lay0 (d + 3) m_mo_words 139 [(2, iv end_), (3, iv v3)] [] T6 (Q_mo_words S from_ end_) := by
        intro T6 hHT6 hFT6 v3 w33 w34
        refine l_iload_n rfl rfl ?_
        refine l_iload_n rfl rfl ?_
        refine l_icmp_ge rfl rfl (by unfold rg; omega) (by unfold rg; omega) (fun w35 => ?_) (fun w36 => ?_)
        · refine l_iconst rfl ?_
          refine l_ireturn rfl rfl ?_
          exact ⟨hHT6, hFT6, _, rfl, ⟨by omega, by omega⟩, (by first | assumption | omega)⟩
        · refine l_iload_n rfl rfl ?_
          refine l_iconst rfl ?_
          refine l_iadd rfl ?_
          refine l_goto rfl rfl ?_
          refine l_ireturn rfl rfl ?_
          exact ⟨hHT6, hFT6, _, rfl, ⟨by omega, by omega⟩, (by first | assumption | omega)⟩
      refine l_iload_n rfl rfl ?_
      refine l_iload_n rfl rfl ?_
      refine l_icmp_ge rfl rfl (by unfold rg; omega) (by unfold rg; omega) (fun w37 => ?_) (fun w38 => ?_)
      · exact Rl_weak (C139 T1 hHT1 hFT1 (v3) (by omega) (by omega)) (And.intro rfl (And.intro rfl (True.intro)))
      · refine l_aload_n rfl rfl ?_
        refine l_gfr rfl rfl rfl rfl rfl (hHT1.r 904 2 906 rfl) ?_
        refine l_iload_n rfl rfl ?_
        refine l_baload (n := 5000) rfl rfl rfl (by decide) (by omega) (by omega) (by unfold rg; omega) ?_
        have w39 : -128 ≤ (Xi T1 906 ((v3).toNat)) ∧ (Xi T1 906 ((v3).toNat)) ≤ 127 := hHT1.c _ _
        refine l_bipush rfl rfl ?_
        refine l_icmp_eq rfl rfl (by unfold rg; omega) (by unfold rg; omega) (fun w40 => ?_) (fun w41 => ?_)
        · exact Rl_weak (C139 T1 hHT1 hFT1 (v3) (by omega) (by omega)) (And.intro rfl (And.intro rfl (True.intro)))
        · refine l_aload_n rfl rfl ?_
          refine l_gfr rfl rfl rfl rfl rfl (hHT1.r 904 2 906 rfl) ?_
          refine l_iload_n rfl rfl ?_
          refine l_baload (n := 5000) rfl rfl rfl (by decide) (by omega) (by omega) (by unfold rg; omega) ?_
          refine l_bipush rfl rfl ?_
          refine l_icmp_ne rfl rfl (by unfold rg; omega) (by unfold rg; omega) (fun w42 => ?_) (fun w43 => ?_)
          · refine l_aload_n rfl rfl ?_
            refine l_gfr rfl rfl rfl rfl rfl (hHT1.r 904 2 906 rfl) ?_
            refine l_iload_n rfl rfl ?_
            refine l_baload (n := 5000) rfl rfl rfl (by decide) (by omega) (by omega) (by unfold rg; omega) ?_
            have e45 : (Xi T1 906 ((v3).toNat)) = Xi S 906 (v3).toNat := by first | rfl | exact (hFT1.cx 906 rfl _).1
            refine l_callS rfl rfl (by decide) rfl (t_mo_isLetter hHT1 (Xi T1 906 ((v3).toNat)) ⟨by omega, by omega⟩ _) ?_
            rintro _ _ ⟨rfl, z45, rfl, w45, w44⟩
            show Rl _ _ _ _ _ [iv z45] _ _
            have l46 : z45 = ltr (Xi S 906 (v3).toNat) := by rw [← e45]; assumption
            refine l_if_eq rfl rfl (by unfold rg; omega) (fun w46 => ?_) (fun w47 => ?_)
            · refine l_iconst rfl ?_
              refine l_ireturn rfl rfl ?_
              exact ⟨hHT1, hFT1, _, rfl, ⟨by omega, by omega⟩, (by first | assumption | omega)⟩
            · refine l_iload_n rfl rfl ?_
              refine l_istore rfl rfl rfl ?_
              exact Rl_weak (C55 _ T1 hHT1 hFT1 (v3) (v3) (by omega) (by omega) (by omega) (by omega) (by omega) (by omega) (by first | exact fun _ => by omega | exact fun q => by omega) (by omega) rfl) (And.intro rfl (And.intro rfl (And.intro rfl (And.intro rfl (True.intro)))))
          · refine l_iinc rfl rfl rfl rfl ?_
            refine l_goto rfl rfl ?_
            exact Rl_weak (ih7 _ (by omega) T1 hHT1 hFT1 ((v3 + 1)) (by omega) (by omega) rfl) (And.intro rfl (And.intro rfl (And.intro rfl (True.intro))))
  refine l_iload_n rfl rfl ?_
  refine l_istore_n rfl rfl rfl ?_
  refine l_aload_n rfl rfl ?_
  refine l_iconst rfl ?_
  refine l_pfi rfl rfl rfl rfl ?_
  obtain ⟨U7, eU7⟩ : ∃ T : sS, T = uI S 904 160 (Int32.ofInt 0) := ⟨_, rfl⟩
  rw [← eU7]
  have hHU7 : HI U7 := by rw [eU7]; exact HI_w hH (show 0 ≤ 0 by omega) (show 0 ≤ 64 by omega)
  have hFU7 : FR md_mo_words S U7 := by rw [eU7]; exact FR.wI hF (mdf_i (r := (904, 905, 160, 161)) (List.mem_of_getElem? (i := 0) rfl) (inR_i (by omega) (by omega) (by omega) (by omega)))
  have w48 : Xi U7 904 160 = 0 := by rw [eU7]; exact Xi_same (by unfold rg; omega)
  exact Rl_weak (C7 _ U7 hHU7 hFU7 (from_) (by omega) (by omega) rfl) (And.intro rfl (And.intro rfl (And.intro rfl (True.intro))))
def md_mo_written : List rec := [(904, 905, 154, 155), (904, 905, 156, 157), (904, 905, 160, 161), (993, 994, 0, 100000), (994, 995, 0, 100000)]
abbrev Q_mo_written (S : sS) (from_ : Int) (n : Int) : pst := fun r S1 => HI S1 ∧ FR md_mo_written S S1 ∧ (∃ z : Int, r = some (iv z) ∧ (0 ≤ z ∧ z ≤ 1))
set_option maxRecDepth 100000 in
theorem t_mo_written {S : sS} (hH : HI S) (from_ : Int) (n : Int) (hfrom_ : 0 ≤ from_ ∧ from_ ≤ 5000) (hn : 0 ≤ n ∧ n ≤ 5000) (hA : from_ + n ≤ 5000) (hM : LXM S) (hB : ABV S) (hX : TXM S) (hno : Xi S 904 158 < Xi S 904 19) (d : Nat) : Mt lay0 (d + 6) m_mo_written [.ref 904, iv from_, iv n] S (Q_mo_written S from_ n) := by
  refine Mt_R rfl rfl ?_
  have hF : FR md_mo_written S S := FR.rf
  have w1 : -1 ≤ Xi S 904 158 ∧ Xi S 904 158 ≤ 23 := hH.c _ _
  have w2 : 0 ≤ Xi S 904 19 ∧ Xi S 904 19 ≤ 24 := hH.c _ _
  have C7 : ∀ (n7 : Nat) (T1 : sS) (_ : HI T1) (_ : FR md_mo_written S T1) (v3 : Int) (v4 : Int), (0 ≤ v3 ∧ v3 ≤ 5000) → (0 ≤ v4 ∧ v4 ≤ 5000) → (from_ ≤ v3) → (v4 = from_ + n) → n7 = (5001 - v3).toNat → Rl lay0 (d + 5) m_mo_written 7 [(0, .ref 904), (3, iv v3), (4, iv v4)] [] T1 (Q_mo_written S from_ n) := by
    intro n7
    induction n7 using Nat.strongRecOn with
    | ind n7 ih7 =>
      intro T1 hHT1 hFT1 v3 v4 w3 w4 w5 w6 hm7
      have w7 : Xi T1 904 158 = Xi S 904 158 := hFT1.x _ _ rfl
      have w8 : Xi T1 904 19 = Xi S 904 19 := hFT1.x _ _ rfl
      refine l_iload_n rfl rfl ?_
      refine l_iload rfl rfl ?_
      refine l_icmp_ge rfl rfl (by unfold rg; omega) (by unfold rg; omega) (fun w9 => ?_) (fun w10 => ?_)
      · refine l_iconst rfl ?_
        refine l_ireturn rfl rfl ?_
        exact ⟨hHT1, hFT1, _, rfl, ⟨by omega, by omega⟩⟩
      · refine l_aload_n rfl rfl ?_
        refine l_gfr rfl rfl rfl rfl rfl (hHT1.r 904 2 906 rfl) ?_
        refine l_iload_n rfl rfl ?_
        refine l_baload (n := 5000) rfl rfl rfl (by decide) (by omega) (by omega) (by unfold rg; omega) ?_
        have w11 : -128 ≤ (Xi T1 906 ((v3).toNat)) ∧ (Xi T1 906 ((v3).toNat)) ≤ 127 := hHT1.c _ _
        refine l_bipush rfl rfl ?_
        refine l_icmp_ne rfl rfl (by unfold rg; omega) (by unfold rg; omega) (fun w12 => ?_) (fun w13 => ?_)
        · refine l_aload_n rfl rfl ?_
          refine l_gfr rfl rfl rfl rfl rfl (hHT1.r 904 2 906 rfl) ?_
          refine l_iload_n rfl rfl ?_
          refine l_baload (n := 5000) rfl rfl rfl (by decide) (by omega) (by omega) (by unfold rg; omega) ?_
          refine l_bipush rfl rfl ?_
          refine l_icmp_ne rfl rfl (by unfold rg; omega) (by unfold rg; omega) (fun w14 => ?_) (fun w15 => ?_)
          · refine l_aload_n rfl rfl ?_
            refine l_aload_n rfl rfl ?_
            refine l_gfr rfl rfl rfl rfl rfl (hHT1.r 904 2 906 rfl) ?_
            refine l_iload_n rfl rfl ?_
            refine l_baload (n := 5000) rfl rfl rfl (by decide) (by omega) (by omega) (by unfold rg; omega) ?_
            refine l_callV rfl rfl rfl (t_mo_put hHT1 (Xi T1 906 ((v3).toNat)) ⟨by omega, by omega⟩ _) ?_
            rintro _ T2 ⟨hHT2, w17, rfl⟩
            have hFT2 : FR md_mo_written S T2 := FR.tr hFT1 w17 rfl
            show Rl _ _ _ _ _ [] _ _
            refine l_iinc rfl rfl rfl rfl ?_
            refine l_goto rfl rfl ?_
            exact Rl_weak (ih7 _ (by omega) T2 hHT2 hFT2 ((v3 + 1)) (v4) (by omega) (by omega) (by omega) (by omega) rfl) (And.intro rfl (And.intro rfl (And.intro rfl (True.intro))))
          · refine l_aload_n rfl rfl ?_
            refine l_iload_n rfl rfl ?_
            refine l_iconst rfl ?_
            refine l_iadd rfl ?_
            refine l_iload rfl rfl ?_
            refine l_callV rfl rfl rfl (t_mo_words hHT1 (v3 + 1) v4 ⟨by omega, by omega⟩ ⟨by omega, by omega⟩ _) ?_
            rintro _ T3 ⟨hHT3, w20, z19, rfl, w19, w18⟩
            have hFT3 : FR md_mo_written S T3 := FR.tr hFT1 w20 rfl
            show Rl _ _ _ _ _ [iv z19] _ _
            refine l_istore_n rfl rfl rfl ?_
            refine l_iload_n rfl rfl ?_
            refine l_iconst rfl ?_
            refine l_icmp_eq rfl rfl (by unfold rg; omega) (by unfold rg; omega) (fun w21 => ?_) (fun w22 => ?_)
            · refine l_iconst rfl ?_
              refine l_ireturn rfl rfl ?_
              exact ⟨hHT3, hFT3, _, rfl, ⟨by omega, by omega⟩⟩
            · refine l_aload_n rfl rfl ?_
              have w23 : Xi T3 904 158 = Xi T1 904 158 := (show Xi T3 904 158 = Xi T1 904 158 from w20.x _ _ rfl)
              have w24 : -1 ≤ Xi T1 904 158 ∧ Xi T1 904 158 ≤ 23 := hHT1.c _ _
              have w25 : Xi T3 904 19 = Xi T1 904 19 := (show Xi T3 904 19 = Xi T1 904 19 from w20.x _ _ rfl)
              have w26 : 0 ≤ Xi T1 904 19 ∧ Xi T1 904 19 ≤ 24 := hHT1.c _ _
              refine l_callV rfl rfl rfl (t_mo_saysInside hHT3 (by first | assumption | exact (LXM_FR hFT3 rfl (by assumption : LXM S))) (by first | assumption | exact (ABV_FR hFT3 rfl (by assumption : ABV S))) (by first | assumption | exact (TXM_FR hFT3 rfl (by assumption : TXM S))) (by first | assumption | omega) _) ?_
              rintro _ T4 ⟨hHT4, w28, z27, rfl, w27⟩
              have hFT4 : FR md_mo_written S T4 := FR.tr hFT3 w28 rfl
              show Rl _ _ _ _ _ [iv z27] _ _
              refine l_if_ne rfl rfl (by unfold rg; omega) (fun w29 => ?_) (fun w30 => ?_)
              · exact Rl_weak (ih7 _ (by omega) T4 hHT4 hFT4 (z19) (v4) (by omega) (by omega) (by omega) (by omega) rfl) (And.intro rfl (And.intro rfl (And.intro rfl (True.intro))))
              · refine l_iconst rfl ?_
                refine l_ireturn rfl rfl ?_
                exact ⟨hHT4, hFT4, _, rfl, ⟨by omega, by omega⟩⟩
        · refine l_iconst rfl ?_
          refine l_ireturn rfl rfl ?_
          exact ⟨hHT1, hFT1, _, rfl, ⟨by omega, by omega⟩⟩
  refine l_iload_n rfl rfl ?_
  refine l_istore_n rfl rfl rfl ?_
  refine l_iload_n rfl rfl ?_
  refine l_iload_n rfl rfl ?_
  refine l_iadd rfl ?_
  refine l_istore rfl rfl rfl ?_
  exact Rl_weak (C7 _ S hH hF (from_) ((from_ + n)) (by omega) (by omega) (by omega) (by omega) rfl) (And.intro rfl (And.intro rfl (And.intro rfl (True.intro))))
/-! SAFETY of methods: printed by wip/safe (vc.py, decl.py) -/
theorem tok_ru {S U : sS} {r j : Nat} {v : Int32} (e : U = uI S (248 + r) j v) (hr : r < 24) (h : TOK S) : TOK U := fun i hi => by
  rw [e, Xi_ne (by omega)] at hi
  have t := h i hi
  have x7 : Xi U 877 i = Xi S 877 i := by rw [e, Xi_ne (by omega)]
  have x8 : Xi U 878 i = Xi S 878 i := by rw [e, Xi_ne (by omega)]
  have x5 : Xi U 876 5 = Xi S 876 5 := by rw [e, Xi_ne (by omega)]
  have x9 : Xj U 879 i = Xj S 879 i := by rw [e]; rfl
  rw [x7, x8, x5, x9]
  exact t
def md_rr_rulePhrases : List rec := [(246, 247, 2, 3), (246, 247, 5, 6), (246, 247, 8, 9), (248, 272, 0, 100000), (274, 275, 0, 100000), (275, 276, 0, 100000), (276, 876, 0, 1), (276, 876, 1, 2), (276, 876, 2, 3), (276, 876, 3, 4), (276, 876, 4, 5), (276, 876, 5, 6), (276, 876, 6, 7), (876, 877, 7, 8), (876, 877, 8, 9), (876, 877, 9, 10), (877, 878, 0, 100000), (878, 879, 0, 100000), (879, 880, 0, 100000), (895, 896, 5, 6), (895, 896, 6, 7), (895, 896, 7, 8), (895, 896, 8, 9), (895, 896, 9, 10), (895, 896, 10, 11), (895, 896, 11, 12)]
abbrev Q_rr_rulePhrases (S : sS) (ru : Nat) (ts : Nat) : pst := fun r S1 => HI S1 ∧ FR md_rr_rulePhrases S S1 ∧ (∃ z : Int, r = some (iv z) ∧ (0 ≤ z ∧ z ≤ 1) ∧ (z = 1 → sG S S1) ∧ (z = 1 → KRU S S1 ru) ∧ (z = 1 → Xi S1 246 2 = Xi S 246 2 + 1 ∧ Xi S1 246 5 ≤ Xi S 246 5 + 8) ∧ (z = 1 → RUL1 S1 ru) ∧ (z = 0 → Xi S1 876 8 ≠ 0))
set_option maxRecDepth 100000 in
set_option maxHeartbeats 4000000 in
theorem t_rr_rulePhrases {S : sS} (hH : HI S) (ru : Nat) (ts : Nat) (hts : S.2.2 876 4 = some ts) (htp : tp ts) (hru : S.2.2 899 4 = some (248 + ru)) (hrk : ru < 24) (hL : LEX S) (hT : TOK S) (hS : SRX S) (hx : ts = txr S) (hcr : Xi S 876 6 = Xi S 876 7) (hY : SAY S (Xi S 876 6)) (hdot : Xi S 877 (Xi S 876 6 - 1).toNat = 103) (hd1 : 1 ≤ Xi S 876 6) (hn : Xi S 246 5 + 8 ≤ 600) (hb : RB S ru (Xi S (248 + ru) 7) (Xi S 899 6) 0) (h6 : Xi S (248 + ru) 6 = 0) (hr : (ru : Int) = Xi S 246 2) (d : Nat) : Mt lay0 (d + 6) m_rr_rulePhrases [.ref 899] S (Q_rr_rulePhrases S ru ts) := by
  refine Mt_R rfl rfl ?_
  have hF : FR md_rr_rulePhrases S S := FR.rf
  have w1 : 0 ≤ Xi S 246 2 ∧ Xi S 246 2 ≤ 24 := hH.c _ _
  have w2 : 0 ≤ Xi S 246 5 ∧ Xi S 246 5 ≤ 200000 := hH.c _ _
  have w3 : 0 ≤ Xi S 876 6 ∧ Xi S 876 6 ≤ 5002 := hH.c _ _
  have w4 : 0 ≤ Xi S 876 7 ∧ Xi S 876 7 ≤ 5125 := hH.c _ _
  have w5 : 0 ≤ Xi S 876 8 ∧ Xi S 876 8 ≤ 9 := hH.c _ _
  have w6 : -1 ≤ Xi S 895 4 ∧ Xi S 895 4 ≤ 15 := hH.c _ _
  have w7 : 0 ≤ Xi S 899 6 ∧ Xi S 899 6 ≤ 6 := hH.c _ _
  have C11 : ∀ (n11 : Nat) (T1 : sS) (_ : HI T1) (_ : FR md_rr_rulePhrases S T1) (v1 : Int) (v2 : Int) (v3 : Int), (0 ≤ v1 ∧ v1 ≤ 5132) → (0 ≤ v2 ∧ v2 ≤ 1) → (0 ≤ v3 ∧ v3 ≤ 8) → (sG S T1) → (KRU S T1 ru) → (RB T1 ru (Xi S (248 + ru) 7) (Xi S 899 6) v3) → (Xi T1 (248 + ru) 6 = v3) → (Xi T1 246 5 = Xi S 246 5 + v3) → (Xi T1 246 2 = Xi S 246 2) → (TOK T1) → (Xi S 876 6 ≤ Xi T1 876 7) → (KTK S T1 (Xi S 876 6)) → (v2 = 1 → 0 ≤ v1) → (v2 = 1 → Xi S 876 6 ≤ v1 → Xi T1 876 7 = Xi S 876 6) → n11 = (9 - v3).toNat → Rl lay0 (d + 5) m_rr_rulePhrases 11 [(0, .ref 899), (1, iv v1), (2, iv v2), (3, iv v3)] [] T1 (Q_rr_rulePhrases S ru ts) := by
    intro n11
    induction n11 using Nat.strongRecOn with
    | ind n11 ih11 =>
      intro T1 hHT1 hFT1 v1 v2 v3 w8 w9 w10 hg11 hq11 hb11 w11 w12 w13 hT11 w14 hk11 h1_11 h2_11 hm11
      have w15 : Xi T1 876 6 = Xi S 876 6 := hFT1.x _ _ rfl
      have w16 : Xi T1 895 4 = Xi S 895 4 := hFT1.x _ _ rfl
      have w17 : Xi T1 899 6 = Xi S 899 6 := hFT1.x _ _ rfl
      have w18 : 0 ≤ Xi T1 246 2 ∧ Xi T1 246 2 ≤ 24 := hHT1.c _ _
      have w19 : 0 ≤ Xi T1 246 5 ∧ Xi T1 246 5 ≤ 200000 := hHT1.c _ _
      have w20 : 0 ≤ Xi T1 876 7 ∧ Xi T1 876 7 ≤ 5125 := hHT1.c _ _
      have C64 : ∀  (T2 : sS) (_ : HI T2) (_ : FR md_rr_rulePhrases S T2) (x1 : Int) (x3 : Int) (v4 : Int) (v5 : Int) (cz : Nat), (0 ≤ x1 ∧ x1 ≤ 5132) → (0 ≤ x3 ∧ x3 ≤ 7) → (0 ≤ v4 ∧ v4 ≤ 108) → (0 ≤ v5 ∧ v5 ≤ 5125) → (cz < 600) → (x1 = v1) → (x3 = v3) → (v3 < 8) → (0 ≤ x1) → (KCL T1 T2 cz) → (KRU T1 T2 ru) → (FR md_rr_rulePhrases T1 T2) → (IGR T1 T2 (0 ≤ Xi S 895 4)) → (TOK T2) → (KTK S T2 (Xi S 876 6)) → (Xi S 876 6 ≤ Xi T2 876 7) → ((cz : Int) = Xi T1 246 5) → (Xi T2 246 5 = Xi T1 246 5 + 1) → (Xi T2 (248 + ru) 1 = Xi T1 (248 + ru) 1 ∧ Xi T2 (248 + ru) 3 = Xi T1 (248 + ru) 3 ∧ Xi T2 (248 + ru) 4 = Xi T1 (248 + ru) 4 ∧ Xi T2 (248 + ru) 5 = Xi T1 (248 + ru) 5 ∧ Xi T2 (248 + ru) 6 = Xi T1 (248 + ru) 6 ∧ Xi T2 (248 + ru) 7 = Xi T1 (248 + ru) 7) → (Xi T2 895 4 = Xi S 895 4) → (Xi T2 246 2 = Xi S 246 2) → (Xi T2 876 6 = Xi S 876 6) → (Xi T2 (276 + cz) 0 = 11 ∧ Xi T2 (276 + cz) 5 = 0) → (v4 = 43 → x1 + 1 < Xi S 876 6 ∧ Xi T2 877 (x1 + 1).toNat = 102) → (x1 < Xi S 876 6 → v5 ≤ Xi S 876 6 - 1) → (Xi S 876 6 ≤ x1 → Xi S 876 6 ≤ v5) → (Xi S 876 6 ≤ x1 → Xi T2 876 7 = Xi S 876 6) → (v4 ≠ 107 → x1 < Xi T2 876 7) → ((9 - v3).toNat ≤ n11) → Rl lay0 (d + 5) m_rr_rulePhrases 64 [(0, .ref 899), (1, iv x1), (3, iv x3), (4, iv v4), (5, iv v5), (6, .ref (276 + cz))] [] T2 (Q_rr_rulePhrases S ru ts) := by
        intro T2 hHT2 hFT2 x1 x3 v4 v5 cz w21 w22 w23 w24 w25 w26 w27 w28 w29 k64 u64 f64 i64 t64 K64 w30 w31 w32 r64 w33 w34 w35 w36 s64 d64 c64 b64 l64 w37
        have w38 : Xi T2 876 6 = Xi S 876 6 := hFT2.x _ _ rfl
        have w39 : Xi T2 895 4 = Xi S 895 4 := hFT2.x _ _ rfl
        have w40 : Xi T2 899 6 = Xi S 899 6 := hFT2.x _ _ rfl
        have w41 : 0 ≤ Xi T2 246 2 ∧ Xi T2 246 2 ≤ 24 := hHT2.c _ _
        have w42 : 0 ≤ Xi T2 246 5 ∧ Xi T2 246 5 ≤ 200000 := hHT2.c _ _
        have w43 : 0 ≤ Xi T2 876 6 ∧ Xi T2 876 6 ≤ 5002 := hHT2.c _ _
        have w44 : 0 ≤ Xi T2 876 7 ∧ Xi T2 876 7 ≤ 5125 := hHT2.c _ _
        have w45 : -1 ≤ Xi T2 895 4 ∧ Xi T2 895 4 ≤ 15 := hHT2.c _ _
        have C124 : ∀  (T3 : sS) (_ : HI T3) (_ : FR md_rr_rulePhrases S T3) (w3 : Int) (w5 : Int) (v7 : Int), (0 ≤ w3 ∧ w3 ≤ 7) → (0 ≤ w5 ∧ w5 ≤ 5125) → (0 ≤ v7 ∧ v7 ≤ 1) → (w3 = x3) → (w5 = v5) → (KCL T2 T3 cz) → (KRU T2 T3 ru) → (FR md_rr_rulePhrases T2 T3) → (v7 = 1 → IGR T2 T3 (0 ≤ Xi S 895 4)) → (v7 = 1 → KTK S T3 (Xi S 876 6)) → (v7 = 1 → TOK T3) → (v7 = 1 → Xi S 876 6 ≤ Xi T3 876 7) → (v7 = 1 → CLok T3 (0 ≤ Xi S 895 4) cz) → (Xi T3 246 5 = Xi T2 246 5) → (Xi T3 (248 + ru) 1 = Xi T2 (248 + ru) 1 ∧ Xi T3 (248 + ru) 3 = Xi T2 (248 + ru) 3 ∧ Xi T3 (248 + ru) 4 = Xi T2 (248 + ru) 4 ∧ Xi T3 (248 + ru) 5 = Xi T2 (248 + ru) 5 ∧ Xi T3 (248 + ru) 6 = Xi T2 (248 + ru) 6 ∧ Xi T3 (248 + ru) 7 = Xi T2 (248 + ru) 7) → (Xi T3 895 4 = Xi S 895 4) → (Xi T3 246 2 = Xi S 246 2) → (Xi T3 876 6 = Xi S 876 6) → (v7 = 0 → Xi T3 876 8 ≠ 0) → (v7 = 1 → Xi S 876 6 ≤ x1 → Xi T3 876 7 = Xi S 876 6 ∧ Xi S 876 6 ≤ v5) → ((9 - v3).toNat ≤ n11) → Rl lay0 (d + 5) m_rr_rulePhrases 124 [(0, .ref 899), (3, iv w3), (5, iv w5), (7, iv v7)] [] T3 (Q_rr_rulePhrases S ru ts) := by
          intro T3 hHT3 hFT3 w3 w5 v7 w46 w47 w48 w49 w50 k124 u124 f124 i124 K124 T124 c124 o124 w51 r124 w52 w53 w54 z124 l124 w55
          have w56 : Xi T3 876 6 = Xi S 876 6 := hFT3.x _ _ rfl
          have w57 : Xi T3 895 4 = Xi S 895 4 := hFT3.x _ _ rfl
          have w58 : Xi T3 899 6 = Xi S 899 6 := hFT3.x _ _ rfl
          have w59 : 0 ≤ Xi T3 246 2 ∧ Xi T3 246 2 ≤ 24 := hHT3.c _ _
          have w60 : 0 ≤ Xi T3 246 5 ∧ Xi T3 246 5 ≤ 200000 := hHT3.c _ _
          have w61 : 0 ≤ Xi T3 876 6 ∧ Xi T3 876 6 ≤ 5002 := hHT3.c _ _
          have w62 : 0 ≤ Xi T3 876 7 ∧ Xi T3 876 7 ≤ 5125 := hHT3.c _ _
          have w63 : 0 ≤ Xi T3 876 8 ∧ Xi T3 876 8 ≤ 9 := hHT3.c _ _
          have w64 : -1 ≤ Xi T3 895 4 ∧ Xi T3 895 4 ≤ 15 := hHT3.c _ _
          refine l_iload rfl rfl ?_
          refine l_if_ne rfl rfl (by unfold rg; omega) (fun w65 => ?_) (fun w66 => ?_)
          · refine l_aload_n rfl rfl ?_
            refine l_gfr rfl rfl rfl rfl rfl ((hFT3 899 4 rfl).2.2.trans hru) ?_
            refine l_bipush rfl rfl ?_
            refine l_iload_n rfl rfl ?_
            refine l_iconst rfl ?_
            refine l_iadd rfl ?_
            refine l_iastore (n := 8) rfl (lay_248 (by omega)) (by omega) (by omega) (by unfold rg; omega) ?_
            obtain ⟨U4, eU4⟩ : ∃ T : sS, T = uI T3 (248 + ru) ((6 : Int).toNat) (Int32.ofInt (w3 + 1)) := ⟨_, rfl⟩
            rw [← eU4]
            have hHU4 : HI U4 := by rw [eU4]; exact HI_w hHT3 (by rw [lh_ru6 (by omega)]; omega) (by rw [lh_ru6 (by omega)]; omega)
            have hFU4 : FR md_rr_rulePhrases S U4 := by rw [eU4]; exact FR.wI hFT3 (mdf_i (r := (248, 272, 0, 100000)) (List.mem_of_getElem? (i := 3) rfl) (inR_i (by omega) (by omega) (by omega) (by omega)))
            have w68 : Xi U4 (248 + ru) ((6 : Int).toNat) = (w3 + 1) := by rw [eU4]; exact Xi_same (by unfold rg; omega)
            have rU4_1 : Xi U4 (248 + ru) 1 = Xi T3 (248 + ru) 1 := by rw [eU4, Xi_ne (by omega)]
            have rU4_3 : Xi U4 (248 + ru) 3 = Xi T3 (248 + ru) 3 := by rw [eU4, Xi_ne (by omega)]
            have rU4_4 : Xi U4 (248 + ru) 4 = Xi T3 (248 + ru) 4 := by rw [eU4, Xi_ne (by omega)]
            have rU4_5 : Xi U4 (248 + ru) 5 = Xi T3 (248 + ru) 5 := by rw [eU4, Xi_ne (by omega)]
            have rU4_6 : Xi U4 (248 + ru) 6 = (w3 + 1) := by rw [eU4]; exact Xi_same (by unfold rg; omega)
            have rU4_7 : Xi U4 (248 + ru) 7 = Xi T3 (248 + ru) 7 := by rw [eU4, Xi_ne (by omega)]
            have i140 : IGR T2 U4 (0 ≤ Xi S 895 4) := igr_w eU4 (by omega) (i124 (by omega))
            have k140 : KTK S U4 (Xi S 876 6) := fun r hr => by rw [eU4, Xi_ne (by omega)]; exact K124 (by omega) r hr
            have t140 : TOK U4 := tok_ru eU4 (by omega) (T124 (by omega))
            have r140 : Xi U4 876 7 = Xi T3 876 7 := by rw [eU4, Xi_ne (by omega)]
            have o140 : CLok U4 (0 ≤ Xi S 895 4) cz := CLok_x (sG_ru hHT3 eU4 hrk) (fun j => by rw [eU4, Xi_ne (by omega)]) (o124 (by omega))
            have f140 : FR md_rr_rulePhrases T2 U4 := FR.tr f124 ((show FR md_rr_rulePhrases T3 U4 from by rw [eU4]; exact FR.wI FR.rf (mdf_i (r := (248, 272, 0, 100000)) (List.mem_of_getElem? (i := 3) rfl) (inR_i (by omega) (by omega) (by omega) (by omega)))) : FR md_rr_rulePhrases T3 U4) rfl
            have q140 : KCL T2 U4 cz := kcl_o eU4 (by omega) k124
            have z140 : Xi S 876 6 ≤ Xi U4 876 7 := by have t := c124 (by omega); omega
            have m140 : Xi S 876 6 ≤ x1 → Xi U4 876 7 = Xi S 876 6 ∧ Xi S 876 6 ≤ w5 := fun q => by have t := l124 (by omega) q; exact ⟨by omega, by omega⟩
            clear c124 l124 z124
            refine l_aload_n rfl rfl ?_
            refine l_gfr rfl rfl rfl rfl rfl (hHU4.r 899 0 876 rfl) ?_
            refine l_iload rfl rfl ?_
            have w69 : Xi U4 246 2 = Xi T3 246 2 := (show Xi U4 246 2 = Xi T3 246 2 from by rw [eU4]; exact Xi_ne (by omega))
            have w71 : Xi U4 246 5 = Xi T3 246 5 := (show Xi U4 246 5 = Xi T3 246 5 from by rw [eU4]; exact Xi_ne (by omega))
            have w73 : Xi U4 876 6 = Xi T3 876 6 := (show Xi U4 876 6 = Xi T3 876 6 from by rw [eU4]; exact Xi_ne (by omega))
            have w75 : Xi U4 876 7 = Xi T3 876 7 := (show Xi U4 876 7 = Xi T3 876 7 from by rw [eU4]; exact Xi_ne (by omega))
            have w77 : Xi U4 895 4 = Xi T3 895 4 := (show Xi U4 895 4 = Xi T3 895 4 from by rw [eU4]; exact Xi_ne (by omega))
            refine l_callV rfl rfl rfl (t_to_typeAt hHU4 w5 ⟨by omega, by omega⟩ _) ?_
            rintro _ _ ⟨rfl, z81, rfl, w81, hp147, w79, w80⟩
            clear w79 w80
            show Rl _ _ _ _ _ [iv z81] _ _
            have g147 : Xi U4 877 (Xi S 876 6 - 1).toNat = 103 := by rw [k140 _ (by omega)]; exact hdot
            have n147 : z81 = 105 → w5 + 1 ≤ Xi S 876 6 - 1 := fun q => (Int.lt_or_le x1 (Xi S 876 6)).elim (fun h => by have p := hp147 (by omega); have t := d64 h; have e : w5 ≠ Xi S 876 6 - 1 := (fun e => by rw [← e] at g147; omega); omega) (fun h => by have p := hp147 (by omega); have t := m140 h; omega)
            clear hp147 m140 d64 c64 b64 l64 s64
            have G147 : sG T1 U4 := sG_i (FR.tr f64 f140 rfl) rfl (kcl_tr k64 q140) (IGR.tr i64 i140 (fun x => x)) (by omega) (by omega)
            have B147 : RB U4 ru (Xi S (248 + ru) 7) (Xi S 899 6) (v3 + 1) := RB_p hHT1 hrk G147 (by omega) (by omega) (by omega) (by omega) (by omega) (by omega) (by omega) (by omega) (o140.mono (fun e => by omega)) (by omega) hb11
            refine l_bipush rfl rfl ?_
            refine l_icmp_ne rfl rfl (by unfold rg; omega) (by unfold rg; omega) (fun w82 => ?_) (fun w83 => ?_)
            · refine l_iconst rfl ?_
              refine l_istore_n rfl rfl rfl ?_
              refine l_iload rfl rfl ?_
              refine l_iconst rfl ?_
              refine l_iadd rfl ?_
              refine l_istore_n rfl rfl rfl ?_
              refine l_iinc rfl rfl rfl rfl ?_
              refine l_goto rfl rfl ?_
              exact Rl_weak (ih11 _ (by omega) U4 hHU4 hFU4 ((w5 + 1)) (0) ((w3 + 1)) (⟨by omega, by omega⟩) (⟨by omega, by omega⟩) (⟨by omega, by omega⟩) (by first | exact sG.rf hH | exact sG.tr hg11 G147) (by first | exact KRU.rf | exact kru_tr hq11 (kru_tr u64 (kru_w eU4 u124))) (by first | exact hb | (rw [show w3 + 1 = v3 + 1 by omega]; exact B147)) (by omega) (by omega) (by omega) (by first | exact hT | exact t140) (by omega) (by first | exact KTK.rf | exact k140) (fun _ => by omega) (by first | exact fun _ _ => hcr.symm | exact fun q => absurd q (by decide) | exact fun _ q => by have t := n147 (by omega); omega) rfl) (And.intro rfl (And.intro rfl (And.intro rfl (And.intro rfl (True.intro)))))
            · refine l_iconst rfl ?_
              refine l_goto rfl rfl ?_
              refine l_istore_n rfl rfl rfl ?_
              refine l_iload rfl rfl ?_
              refine l_iconst rfl ?_
              refine l_iadd rfl ?_
              refine l_istore_n rfl rfl rfl ?_
              refine l_iinc rfl rfl rfl rfl ?_
              refine l_goto rfl rfl ?_
              exact Rl_weak (ih11 _ (by omega) U4 hHU4 hFU4 ((w5 + 1)) (1) ((w3 + 1)) (⟨by omega, by omega⟩) (⟨by omega, by omega⟩) (⟨by omega, by omega⟩) (by first | exact sG.rf hH | exact sG.tr hg11 G147) (by first | exact KRU.rf | exact kru_tr hq11 (kru_tr u64 (kru_w eU4 u124))) (by first | exact hb | (rw [show w3 + 1 = v3 + 1 by omega]; exact B147)) (by omega) (by omega) (by omega) (by first | exact hT | exact t140) (by omega) (by first | exact KTK.rf | exact k140) (fun _ => by omega) (by first | exact fun _ _ => hcr.symm | exact fun q => absurd q (by decide) | exact fun _ q => by have t := n147 (by omega); omega) rfl) (And.intro rfl (And.intro rfl (And.intro rfl (And.intro rfl (True.intro)))))
          · refine l_iconst rfl ?_
            refine l_ireturn rfl rfl ?_
            exact ⟨hHT3, hFT3, _, rfl, ⟨by omega, by omega⟩, (fun q => by first | (exfalso; omega) | exact sG.tr hg11 (sG.tr g181 g192)), (fun q => by first | (exfalso; omega) | exact kru_tr hq11 (kru_o rfl (by omega) (kru_w  KRU.rf))), (fun q => by first | (exfalso; omega) | exact ⟨by omega, by omega⟩), (fun q => by first | (exfalso; omega) | exact RB_e hHT3 hrk (sG.tr g181 g192) (by omega) (by omega) (by omega) (by omega) (by omega) (by omega) (by omega) (by omega) (by omega) (by omega) hb11), (fun q => by first | omega | (exfalso; omega))⟩
        refine l_iload rfl rfl ?_
        refine l_bipush rfl rfl ?_
        refine l_icmp_ne rfl rfl (by unfold rg; omega) (by unfold rg; omega) (fun w109 => ?_) (fun w110 => ?_)
        · refine l_iload rfl rfl ?_
          refine l_bipush rfl rfl ?_
          refine l_icmp_ne rfl rfl (by unfold rg; omega) (by unfold rg; omega) (fun w111 => ?_) (fun w112 => ?_)
          · refine l_aload_n rfl rfl ?_
            refine l_iload rfl rfl ?_
            refine l_iload_n rfl rfl ?_
            refine l_iconst rfl ?_
            refine l_iadd rfl ?_
            refine l_iload rfl rfl ?_
            refine l_aload rfl rfl ?_
            refine l_callV rfl rfl rfl (t_rr_otherPhrase hHT2 v4 (x1 + 1) v5 cz ⟨by omega, by omega⟩ ⟨by omega, by omega⟩ ⟨by omega, by omega⟩ (by omega) (by first | assumption | exact (LEX_FR hFT2 rfl rfl (by assumption : LEX S))) (fun q => ⟨by have t := l64 (by omega); omega, by omega⟩) (by omega) _) ?_
            rintro _ T5 ⟨hHT5, w120, z119, rfl, w119, w117, w118, hz77⟩
            have hFT5 : FR md_rr_rulePhrases S T5 := FR.tr hFT2 w120 rfl
            show Rl _ _ _ _ _ [iv z119] _ _
            have rT5_1 : Xi T5 (248 + ru) 1 = Xi T2 (248 + ru) 1 := FR_ru w120 rfl (by omega)
            have rT5_3 : Xi T5 (248 + ru) 3 = Xi T2 (248 + ru) 3 := FR_ru w120 rfl (by omega)
            have rT5_4 : Xi T5 (248 + ru) 4 = Xi T2 (248 + ru) 4 := FR_ru w120 rfl (by omega)
            have rT5_5 : Xi T5 (248 + ru) 5 = Xi T2 (248 + ru) 5 := FR_ru w120 rfl (by omega)
            have rT5_6 : Xi T5 (248 + ru) 6 = Xi T2 (248 + ru) 6 := FR_ru w120 rfl (by omega)
            have rT5_7 : Xi T5 (248 + ru) 7 = Xi T2 (248 + ru) 7 := FR_ru w120 rfl (by omega)
            have o77 : z119 = 1 → CLok T5 (0 ≤ Xi S 895 4) cz := fun q => ((by assumption : z119 = 1 → CLok T5 (0 ≤ Xi T2 895 4) cz) q).mono (fun e => by omega)
            have i77 : z119 = 1 → IGR T2 T5 (0 ≤ Xi S 895 4) := fun q => igr_f (by assumption : FR md_rr_otherPhrase T2 T5) rfl (IGR.rf hHT2)
            have k77 : z119 = 1 → KTK S T5 (Xi S 876 6) := fun q => ktk_f (by assumption : FR md_rr_otherPhrase T2 T5) rfl K64
            have t77 : z119 = 1 → TOK T5 := fun _ => TOK_FR (by assumption : FR md_rr_otherPhrase T2 T5) rfl rfl rfl t64
            have r77 : Xi T5 876 7 = Xi T2 876 7 := (by assumption : FR md_rr_otherPhrase T2 T5).x 876 7 rfl
            have c77 : z119 = 1 → Xi S 876 6 ≤ Xi T5 876 7 := fun _ => by omega
            have l77 : z119 = 1 → Xi S 876 6 ≤ x1 → Xi T5 876 7 = Xi S 876 6 ∧ Xi S 876 6 ≤ v5 := fun _ q => ⟨r77.trans (b64 q), c64 q⟩
            refine l_istore rfl rfl rfl ?_
            have w121 : Xi T5 246 2 = Xi T2 246 2 := (show Xi T5 246 2 = Xi T2 246 2 from w120.x _ _ rfl)
            have w123 : Xi T5 246 5 = Xi T2 246 5 := (show Xi T5 246 5 = Xi T2 246 5 from w120.x _ _ rfl)
            have w125 : Xi T5 876 6 = Xi T2 876 6 := (show Xi T5 876 6 = Xi T2 876 6 from w120.x _ _ rfl)
            have w127 : Xi T5 876 7 = Xi T2 876 7 := (show Xi T5 876 7 = Xi T2 876 7 from w120.x _ _ rfl)
            have w129 : 0 ≤ Xi T5 876 8 ∧ Xi T5 876 8 ≤ 9 := hHT5.c _ _
            have w130 : Xi T5 895 4 = Xi T2 895 4 := (show Xi T5 895 4 = Xi T2 895 4 from w120.x _ _ rfl)
            exact Rl_weak (C124 T5 hHT5 hFT5 (x3) (v5) (z119) (⟨by omega, by omega⟩) (⟨by omega, by omega⟩) (⟨by omega, by omega⟩) (by omega) (by omega) ((kcl_tr KCL.rf (by assumption : KCL T2 T5 _))) ((kru_f w120 rfl KRU.rf)) (((FR.tr FR.rf w120 rfl) : FR md_rr_rulePhrases T2 T5)) (i77) (k77) (t77) (c77) (o77) (by omega) (⟨rT5_1, rT5_3, rT5_4, rT5_5, rT5_6, rT5_7⟩) (by omega) (by omega) (by omega) (hz77) (l77) (by omega)) (And.intro rfl (And.intro rfl (And.intro rfl (And.intro rfl (True.intro)))))
          · refine l_aload_n rfl rfl ?_
            refine l_iload_n rfl rfl ?_
            refine l_iconst rfl ?_
            refine l_iadd rfl ?_
            refine l_iload rfl rfl ?_
            refine l_aload rfl rfl ?_
            refine l_iconst rfl ?_
            refine l_callV rfl rfl rfl (t_rr_test hHT2 (x1 + 1) v5 cz 1 ⟨by omega, by omega⟩ ⟨by omega, by omega⟩ (by omega) ⟨by omega, by omega⟩ (by first | assumption | exact (LEX_FR hFT2 rfl rfl (by assumption : LEX S))) (t64) (by first | assumption | exact (SRX_FR hFT2 rfl (by assumption : SRX S))) (by omega) _) ?_
            rintro _ T6 ⟨hHT6, w139, z138, rfl, w138, w136, w137, hz77⟩
            have hFT6 : FR md_rr_rulePhrases S T6 := FR.tr hFT2 w139 rfl
            show Rl _ _ _ _ _ [iv z138] _ _
            have rT6_1 : Xi T6 (248 + ru) 1 = Xi T2 (248 + ru) 1 := FR_ru w139 rfl (by omega)
            have rT6_3 : Xi T6 (248 + ru) 3 = Xi T2 (248 + ru) 3 := FR_ru w139 rfl (by omega)
            have rT6_4 : Xi T6 (248 + ru) 4 = Xi T2 (248 + ru) 4 := FR_ru w139 rfl (by omega)
            have rT6_5 : Xi T6 (248 + ru) 5 = Xi T2 (248 + ru) 5 := FR_ru w139 rfl (by omega)
            have rT6_6 : Xi T6 (248 + ru) 6 = Xi T2 (248 + ru) 6 := FR_ru w139 rfl (by omega)
            have rT6_7 : Xi T6 (248 + ru) 7 = Xi T2 (248 + ru) 7 := FR_ru w139 rfl (by omega)
            have o77 : z138 = 1 → CLok T6 (0 ≤ Xi S 895 4) cz := fun q => ((by assumption : z138 = 1 → TSok T6 (0 ≤ Xi T2 895 4) cz) q).1.mono (fun e => by omega)
            have i77 : z138 = 1 → IGR T2 T6 (0 ≤ Xi S 895 4) := fun q => igr_f (by assumption : FR md_rr_test T2 T6) rfl (IGR.rf hHT2)
            have k77 : z138 = 1 → KTK S T6 (Xi S 876 6) := fun q => ktk_f (by assumption : FR md_rr_test T2 T6) rfl K64
            have t77 : z138 = 1 → TOK T6 := fun _ => TOK_FR (by assumption : FR md_rr_test T2 T6) rfl rfl rfl t64
            have r77 : Xi T6 876 7 = Xi T2 876 7 := (by assumption : FR md_rr_test T2 T6).x 876 7 rfl
            have c77 : z138 = 1 → Xi S 876 6 ≤ Xi T6 876 7 := fun _ => by omega
            have l77 : z138 = 1 → Xi S 876 6 ≤ x1 → Xi T6 876 7 = Xi S 876 6 ∧ Xi S 876 6 ≤ v5 := fun _ q => ⟨r77.trans (b64 q), c64 q⟩
            refine l_istore rfl rfl rfl ?_
            refine l_goto rfl rfl ?_
            have w140 : Xi T6 246 2 = Xi T2 246 2 := (show Xi T6 246 2 = Xi T2 246 2 from w139.x _ _ rfl)
            have w142 : Xi T6 246 5 = Xi T2 246 5 := (show Xi T6 246 5 = Xi T2 246 5 from w139.x _ _ rfl)
            have w144 : Xi T6 876 6 = Xi T2 876 6 := (show Xi T6 876 6 = Xi T2 876 6 from w139.x _ _ rfl)
            have w146 : Xi T6 876 7 = Xi T2 876 7 := (show Xi T6 876 7 = Xi T2 876 7 from w139.x _ _ rfl)
            have w148 : 0 ≤ Xi T6 876 8 ∧ Xi T6 876 8 ≤ 9 := hHT6.c _ _
            have w149 : Xi T6 895 4 = Xi T2 895 4 := (show Xi T6 895 4 = Xi T2 895 4 from w139.x _ _ rfl)
            exact Rl_weak (C124 T6 hHT6 hFT6 (x3) (v5) (z138) (⟨by omega, by omega⟩) (⟨by omega, by omega⟩) (⟨by omega, by omega⟩) (by omega) (by omega) ((kcl_tr KCL.rf (by assumption : KCL T2 T6 _))) ((kru_f w139 rfl KRU.rf)) (((FR.tr FR.rf w139 rfl) : FR md_rr_rulePhrases T2 T6)) (i77) (k77) (t77) (c77) (o77) (by omega) (⟨rT6_1, rT6_3, rT6_4, rT6_5, rT6_6, rT6_7⟩) (by omega) (by omega) (by omega) (hz77) (l77) (by omega)) (And.intro rfl (And.intro rfl (And.intro rfl (And.intro rfl (True.intro)))))
        · refine l_aload_n rfl rfl ?_
          refine l_iload_n rfl rfl ?_
          refine l_iconst rfl ?_
          refine l_iadd rfl ?_
          refine l_aload rfl rfl ?_
          refine l_callV rfl rfl rfl (t_rr_sayText hHT2 ts (x1 + 1) cz ⟨by omega, by omega⟩ (by omega) ((hFT2 876 4 rfl).2.2.trans hts) htp (by first | assumption | exact (LEX_FR hFT2 rfl rfl (by assumption : LEX S))) (t64) (by first | assumption | exact (SRX_FR hFT2 rfl (by assumption : SRX S))) (hx.trans (by unfold txr; rw [(hFT2 20 1 rfl).2.2])) (by omega) (⟨by have t := (s64 (by omega)).1; omega, (s64 (by omega)).2⟩) _) ?_
          rintro _ T7 ⟨hHT7, w162, z161, rfl, w161, w156, w157, w158, w159, w160, hc77, hz77⟩
          have hFT7 : FR md_rr_rulePhrases S T7 := FR.tr hFT2 w162 rfl
          show Rl _ _ _ _ _ [iv z161] _ _
          have rT7_1 : Xi T7 (248 + ru) 1 = Xi T2 (248 + ru) 1 := FR_ru w162 rfl (by omega)
          have rT7_3 : Xi T7 (248 + ru) 3 = Xi T2 (248 + ru) 3 := FR_ru w162 rfl (by omega)
          have rT7_4 : Xi T7 (248 + ru) 4 = Xi T2 (248 + ru) 4 := FR_ru w162 rfl (by omega)
          have rT7_5 : Xi T7 (248 + ru) 5 = Xi T2 (248 + ru) 5 := FR_ru w162 rfl (by omega)
          have rT7_6 : Xi T7 (248 + ru) 6 = Xi T2 (248 + ru) 6 := FR_ru w162 rfl (by omega)
          have rT7_7 : Xi T7 (248 + ru) 7 = Xi T2 (248 + ru) 7 := FR_ru w162 rfl (by omega)
          have o77 : z161 = 1 → CLok T7 (0 ≤ Xi S 895 4) cz := fun q => ((by assumption : z161 = 1 → CLok T7 (0 ≤ Xi T2 895 4) cz) q).mono (fun e => by omega)
          have i77 : z161 = 1 → IGR T2 T7 (0 ≤ Xi S 895 4) := fun q => IGR.tr (IGR.rf hHT2) ((by assumption : z161 = 1 → IGR T2 T7 (0 ≤ Xi T2 895 4)) q) (fun e => by omega)
          have k77 : z161 = 1 → KTK S T7 (Xi S 876 6) := fun q => ktk_tr K64 ((by assumption : z161 = 1 → KTK T2 T7 (Xi T2 876 6)) q) (by omega)
          have t77 : z161 = 1 → TOK T7 := by assumption
          have c77 : z161 = 1 → Xi S 876 6 ≤ Xi T7 876 7 := fun q => by have t := hc77 q; omega
          have l77 : z161 = 1 → Xi S 876 6 ≤ x1 → Xi T7 876 7 = Xi S 876 6 ∧ Xi S 876 6 ≤ v5 := fun _ q => absurd (s64 (by omega)).1 (by omega)
          refine l_istore rfl rfl rfl ?_
          refine l_goto rfl rfl ?_
          have w163 : Xi T7 246 2 = Xi T2 246 2 := (show Xi T7 246 2 = Xi T2 246 2 from w162.x _ _ rfl)
          have w165 : Xi T7 246 5 = Xi T2 246 5 := (show Xi T7 246 5 = Xi T2 246 5 from w162.x _ _ rfl)
          have w167 : Xi T7 876 6 = Xi T2 876 6 := (show Xi T7 876 6 = Xi T2 876 6 from w162.x _ _ rfl)
          have w169 : 0 ≤ Xi T7 876 7 ∧ Xi T7 876 7 ≤ 5125 := hHT7.c _ _
          have w170 : 0 ≤ Xi T7 876 8 ∧ Xi T7 876 8 ≤ 9 := hHT7.c _ _
          have w171 : Xi T7 895 4 = Xi T2 895 4 := (show Xi T7 895 4 = Xi T2 895 4 from w162.x _ _ rfl)
          exact Rl_weak (C124 T7 hHT7 hFT7 (x3) (v5) (z161) (⟨by omega, by omega⟩) (⟨by omega, by omega⟩) (⟨by omega, by omega⟩) (by omega) (by omega) ((kcl_tr KCL.rf (by assumption : KCL T2 T7 _))) ((kru_f w162 rfl KRU.rf)) (((FR.tr FR.rf w162 rfl) : FR md_rr_rulePhrases T2 T7)) (i77) (k77) (t77) (c77) (o77) (by omega) (⟨rT7_1, rT7_3, rT7_4, rT7_5, rT7_6, rT7_7⟩) (by omega) (by omega) (by omega) (hz77) (l77) (by omega)) (And.intro rfl (And.intro rfl (And.intro rfl (And.intro rfl (True.intro)))))
      refine l_iload_n rfl rfl ?_
      refine l_if_eq rfl rfl (by unfold rg; omega) (fun w173 => ?_) (fun w174 => ?_)
      · refine l_aload_n rfl rfl ?_
        refine l_gfr rfl rfl rfl rfl rfl ((hFT1 899 4 rfl).2.2.trans hru) ?_
        refine l_iconst rfl ?_
        refine l_aload_n rfl rfl ?_
        refine l_gfi rfl rfl rfl rfl rfl ?_
        refine l_iastore (n := 8) rfl (lay_248 (by omega)) (by omega) (by omega) (by unfold rg; omega) ?_
        obtain ⟨U8, eU8⟩ : ∃ T : sS, T = uI T1 (248 + ru) ((5 : Int).toNat) (Int32.ofInt (Xi T1 899 6)) := ⟨_, rfl⟩
        rw [← eU8]
        have hHU8 : HI U8 := by rw [eU8]; exact HI_w hHT1 (by rw [lh_ru5 (by omega)]; omega) (by rw [lh_ru5 (by omega)]; omega)
        have hFU8 : FR md_rr_rulePhrases S U8 := by rw [eU8]; exact FR.wI hFT1 (mdf_i (r := (248, 272, 0, 100000)) (List.mem_of_getElem? (i := 3) rfl) (inR_i (by omega) (by omega) (by omega) (by omega)))
        have w176 : Xi U8 (248 + ru) ((5 : Int).toNat) = (Xi T1 899 6) := by rw [eU8]; exact Xi_same (by unfold rg; omega)
        have rU8_1 : Xi U8 (248 + ru) 1 = Xi T1 (248 + ru) 1 := by rw [eU8, Xi_ne (by omega)]
        have rU8_3 : Xi U8 (248 + ru) 3 = Xi T1 (248 + ru) 3 := by rw [eU8, Xi_ne (by omega)]
        have rU8_4 : Xi U8 (248 + ru) 4 = Xi T1 (248 + ru) 4 := by rw [eU8, Xi_ne (by omega)]
        have rU8_5 : Xi U8 (248 + ru) 5 = (Xi T1 899 6) := by rw [eU8]; exact Xi_same (by unfold rg; omega)
        have rU8_6 : Xi U8 (248 + ru) 6 = Xi T1 (248 + ru) 6 := by rw [eU8, Xi_ne (by omega)]
        have rU8_7 : Xi U8 (248 + ru) 7 = Xi T1 (248 + ru) 7 := by rw [eU8, Xi_ne (by omega)]
        have g181 : sG T1 U8 := sG_ru hHT1 eU8 hrk
        refine l_aload_n rfl rfl ?_
        refine l_gfr rfl rfl rfl rfl rfl (hHU8.r 899 3 246 rfl) ?_
        refine l_dup rfl rfl ?_
        refine l_gfi rfl rfl rfl rfl rfl ?_
        have w177 : (Xi U8 246 2) = (Xi T1 246 2) := (show Xi U8 246 2 = Xi T1 246 2 from by rw [eU8]; exact Xi_ne (by omega))
        rw [w177]
        refine l_iconst rfl ?_
        refine l_iadd rfl ?_
        refine l_pfi rfl rfl rfl rfl ?_
        obtain ⟨U9, eU9⟩ : ∃ T : sS, T = uI U8 246 2 (Int32.ofInt ((Xi T1 246 2) + 1)) := ⟨_, rfl⟩
        rw [← eU9]
        have hHU9 : HI U9 := by rw [eU9]; exact HI_w hHU8 (show 0 ≤ ((Xi T1 246 2) + 1) by omega) (show ((Xi T1 246 2) + 1) ≤ 24 by omega)
        have hFU9 : FR md_rr_rulePhrases S U9 := by rw [eU9]; exact FR.wI hFU8 (mdf_i (r := (246, 247, 2, 3)) (List.mem_of_getElem? (i := 0) rfl) (inR_i (by omega) (by omega) (by omega) (by omega)))
        have w178 : Xi U9 246 2 = ((Xi T1 246 2) + 1) := by rw [eU9]; exact Xi_same (by unfold rg; omega)
        have rU9_1 : Xi U9 (248 + ru) 1 = Xi U8 (248 + ru) 1 := by rw [eU9, Xi_ne (by omega)]
        have rU9_3 : Xi U9 (248 + ru) 3 = Xi U8 (248 + ru) 3 := by rw [eU9, Xi_ne (by omega)]
        have rU9_4 : Xi U9 (248 + ru) 4 = Xi U8 (248 + ru) 4 := by rw [eU9, Xi_ne (by omega)]
        have rU9_5 : Xi U9 (248 + ru) 5 = Xi U8 (248 + ru) 5 := by rw [eU9, Xi_ne (by omega)]
        have rU9_6 : Xi U9 (248 + ru) 6 = Xi U8 (248 + ru) 6 := by rw [eU9, Xi_ne (by omega)]
        have rU9_7 : Xi U9 (248 + ru) 7 = Xi U8 (248 + ru) 7 := by rw [eU9, Xi_ne (by omega)]
        have g192 : sG U8 U9 := FR_sG hHU8 (FR_e eU9) rfl (by rw [((FR_e eU9).x 5 3 rfl)]; exact Int.le_refl _) (by rw [((FR_e eU9).x 5 8 rfl)]; exact Int.le_refl _)
        refine l_iconst rfl ?_
        refine l_ireturn rfl rfl ?_
        have w179 : 0 ≤ Xi U9 246 2 ∧ Xi U9 246 2 ≤ 24 := hHU9.c _ _
        have w180 : Xi U9 246 5 = Xi T1 246 5 := (show Xi U9 246 5 = Xi U8 246 5 from by rw [eU9]; exact Xi_ne (by omega)).trans ((show Xi U8 246 5 = Xi T1 246 5 from by rw [eU8]; exact Xi_ne (by omega)))
        have w182 : Xi U9 876 6 = Xi T1 876 6 := (show Xi U9 876 6 = Xi U8 876 6 from by rw [eU9]; exact Xi_ne (by omega)).trans ((show Xi U8 876 6 = Xi T1 876 6 from by rw [eU8]; exact Xi_ne (by omega)))
        have w183 : 0 ≤ Xi T1 876 6 ∧ Xi T1 876 6 ≤ 5002 := hHT1.c _ _
        have w184 : Xi U9 876 8 = Xi T1 876 8 := (show Xi U9 876 8 = Xi U8 876 8 from by rw [eU9]; exact Xi_ne (by omega)).trans ((show Xi U8 876 8 = Xi T1 876 8 from by rw [eU8]; exact Xi_ne (by omega)))
        have w185 : 0 ≤ Xi T1 876 8 ∧ Xi T1 876 8 ≤ 9 := hHT1.c _ _
        have w186 : Xi U9 895 4 = Xi T1 895 4 := (show Xi U9 895 4 = Xi U8 895 4 from by rw [eU9]; exact Xi_ne (by omega)).trans ((show Xi U8 895 4 = Xi T1 895 4 from by rw [eU8]; exact Xi_ne (by omega)))
        have w187 : -1 ≤ Xi T1 895 4 ∧ Xi T1 895 4 ≤ 15 := hHT1.c _ _
        exact ⟨hHU9, hFU9, _, rfl, ⟨by omega, by omega⟩, (fun q => by first | (exfalso; omega) | exact sG.tr hg11 (sG.tr g181 g192)), (fun q => by first | (exfalso; omega) | exact kru_tr hq11 (kru_o eU9 (by omega) (kru_w eU8 KRU.rf))), (fun q => by first | (exfalso; omega) | exact ⟨by omega, by omega⟩), (fun q => by first | (exfalso; omega) | exact RB_e hHT1 hrk (sG.tr g181 g192) (by omega) (by omega) (by omega) (by omega) (by omega) (by omega) (by omega) (by omega) (by omega) (by omega) hb11), (fun q => by first | omega | (exfalso; omega))⟩
      · refine l_iload_n rfl rfl ?_
        have a15 : 0 ≤ v1 := h1_11 (by omega)
        have b15 : Xi S 876 6 ≤ v1 → Xi T1 876 7 = Xi S 876 6 := h2_11 (by omega)
        clear h1_11 h2_11
        refine l_bipush rfl rfl ?_
        refine l_icmp_ne rfl rfl (by unfold rg; omega) (by unfold rg; omega) (fun w188 => ?_) (fun w189 => ?_)
        · refine l_aload_n rfl rfl ?_
          refine l_gfr rfl rfl rfl rfl rfl (hHT1.r 899 0 876 rfl) ?_
          refine l_iload_n rfl rfl ?_
          have w192 : 0 ≤ Xi T1 876 6 ∧ Xi T1 876 6 ≤ 5002 := hHT1.c _ _
          have w194 : -1 ≤ Xi T1 895 4 ∧ Xi T1 895 4 ≤ 15 := hHT1.c _ _
          refine l_callV rfl rfl rfl (t_to_typeAt hHT1 v1 ⟨by omega, by omega⟩ _) ?_
          rintro _ _ ⟨rfl, z197, rfl, w197, hp37, w195, w196⟩
          clear w195 w196
          show Rl _ _ _ _ _ [iv z197] _ _
          have l37 : z197 ≠ 107 → v1 < Xi T1 876 7 := fun q => (hp37 q).2.1
          have s37 : z197 = 43 → v1 + 1 < Xi S 876 6 ∧ Xi T1 877 (v1 + 1).toNat = 102 := fun q => say_at (say_k hY hk11) a15 ((Int.lt_or_le v1 (Xi S 876 6)).elim (fun h => h) (fun h => by have t := l37 (by omega); have := b15 h; omega)) (x := z197) (hp37 (by omega)).2.2 q
          clear hp37
          refine l_istore rfl rfl rfl ?_
          refine l_aload_n rfl rfl ?_
          refine l_gfr rfl rfl rfl rfl rfl (hHT1.r 899 0 876 rfl) ?_
          refine l_iload_n rfl rfl ?_
          refine l_iconst rfl ?_
          refine l_callV rfl rfl rfl (t_to_testEnd__2 hHT1 v1 1 ⟨by omega, by omega⟩ ⟨by omega, by omega⟩ _) ?_
          rintro _ _ ⟨rfl, z203, rfl, w203, hp48, hq48, he48, hd48⟩
          show Rl _ _ _ _ _ [iv z203] _ _
          have g48 : Xi T1 877 (Xi S 876 6 - 1).toNat = 103 := by rw [hk11 _ (by omega)]; exact hdot
          have d48 : v1 < Xi S 876 6 → z203 ≤ Xi S 876 6 - 1 := fun q => by have t := hd48 (Xi S 876 6 - 1).toNat (by omega) (by omega) g48; omega
          have c48 : Xi S 876 6 ≤ v1 → Xi S 876 6 ≤ z203 := fun q => by have t := b15 q; omega
          clear hp48 hq48 hd48
          refine l_istore rfl rfl rfl ?_
          refine l_aload_n rfl rfl ?_
          refine l_gfr rfl rfl rfl rfl rfl (hHT1.r 899 3 246 rfl) ?_
          refine l_bipush rfl rfl ?_
          refine l_callV rfl rfl rfl (t_bo_nextClause__2 hHT1 11 ⟨by omega, by omega⟩ (by first | assumption | omega) _) ?_
          rintro _ T10 ⟨hHT10, w213, z212, rfl, w212, w208, w209, w210, w211⟩
          have hFT10 : FR md_rr_rulePhrases S T10 := FR.tr hFT1 w213 rfl
          show Rl _ _ _ _ _ [.ref (276 + z212)] _ _
          have rT10_1 : Xi T10 (248 + ru) 1 = Xi T1 (248 + ru) 1 := FR_ru w213 rfl (by omega)
          have rT10_3 : Xi T10 (248 + ru) 3 = Xi T1 (248 + ru) 3 := FR_ru w213 rfl (by omega)
          have rT10_4 : Xi T10 (248 + ru) 4 = Xi T1 (248 + ru) 4 := FR_ru w213 rfl (by omega)
          have rT10_5 : Xi T10 (248 + ru) 5 = Xi T1 (248 + ru) 5 := FR_ru w213 rfl (by omega)
          have rT10_6 : Xi T10 (248 + ru) 6 = Xi T1 (248 + ru) 6 := FR_ru w213 rfl (by omega)
          have rT10_7 : Xi T10 (248 + ru) 7 = Xi T1 (248 + ru) 7 := FR_ru w213 rfl (by omega)
          have f59 : FR md_bo_nextClause__2 T1 T10 := by assumption
          have i59 : IGR T1 T10 (0 ≤ Xi S 895 4) := igr_f f59 rfl (IGR.rf hHT1)
          have k59 : KTK S T10 (Xi S 876 6) := ktk_f f59 rfl hk11
          have t59 : TOK T10 := TOK_FR f59 rfl rfl rfl hT11
          have x59 : Xi T10 876 7 = Xi T1 876 7 := f59.x 876 7 rfl
          have s59 : z197 = 43 → v1 + 1 < Xi S 876 6 ∧ Xi T10 877 (v1 + 1).toNat = 102 := fun q => ⟨(s37 q).1, by rw [(f59.cx 877 rfl _).1]; exact (s37 q).2⟩
          have b59 : Xi S 876 6 ≤ v1 → Xi T10 876 7 = Xi S 876 6 := fun q => x59.trans (b15 q)
          have l59 : z197 ≠ 107 → v1 < Xi T10 876 7 := fun q => by rw [x59]; exact l37 q
          clear s37 b15 l37
          refine l_astore rfl rfl rfl ?_
          have w214 : Xi T10 246 2 = Xi T1 246 2 := (show Xi T10 246 2 = Xi T1 246 2 from w213.x _ _ rfl)
          have w216 : 0 ≤ Xi T10 246 5 ∧ Xi T10 246 5 ≤ 200000 := hHT10.c _ _
          have w217 : Xi T10 876 6 = Xi T1 876 6 := (show Xi T10 876 6 = Xi T1 876 6 from w213.x _ _ rfl)
          have w219 : Xi T10 876 7 = Xi T1 876 7 := (show Xi T10 876 7 = Xi T1 876 7 from w213.x _ _ rfl)
          have w221 : Xi T10 895 4 = Xi T1 895 4 := (show Xi T10 895 4 = Xi T1 895 4 from w213.x _ _ rfl)
          exact Rl_weak (C64 T10 hHT10 hFT10 (v1) (v3) (z197) (z203) (z212) (⟨by omega, by omega⟩) (⟨by omega, by omega⟩) (⟨by omega, by omega⟩) (⟨by omega, by omega⟩) (by omega) (by omega) (by omega) (by omega) (by omega) ((kcl_tr KCL.rf (by assumption : KCL T1 T10 _))) ((kru_f w213 rfl KRU.rf)) (((FR.tr FR.rf w213 rfl) : FR md_rr_rulePhrases T1 T10)) (i59) (t59) (k59) (by omega) (by omega) (by omega) (⟨rT10_1, rT10_3, rT10_4, rT10_5, rT10_6, rT10_7⟩) (by omega) (by omega) (by omega) (⟨by omega, by omega⟩) (s59) (d48) (c48) (b59) (l59) (by omega)) (And.intro rfl (And.intro rfl (And.intro rfl (And.intro rfl (And.intro rfl (And.intro rfl (True.intro)))))))
        · refine l_aload_n rfl rfl ?_
          refine l_gfr rfl rfl rfl rfl rfl (hHT1.r 899 0 876 rfl) ?_
          refine l_bipush rfl rfl ?_
          refine l_iload_n rfl rfl ?_
          have w225 : 0 ≤ Xi T1 876 6 ∧ Xi T1 876 6 ≤ 5002 := hHT1.c _ _
          have w226 : -1 ≤ Xi T1 895 4 ∧ Xi T1 895 4 ≤ 15 := hHT1.c _ _
          refine l_callV rfl rfl rfl (t_to_wrong hHT1 9 v1 ⟨by omega, by omega⟩ ⟨by omega, by omega⟩ _) ?_
          rintro _ T11 ⟨hHT11, w230, z229, rfl, w229, w227, w228⟩
          have hFT11 : FR md_rr_rulePhrases S T11 := FR.tr hFT1 w230 rfl
          show Rl _ _ _ _ _ [iv z229] _ _
          have rT11_1 : Xi T11 (248 + ru) 1 = Xi T1 (248 + ru) 1 := FR_ru w230 rfl (by omega)
          have rT11_3 : Xi T11 (248 + ru) 3 = Xi T1 (248 + ru) 3 := FR_ru w230 rfl (by omega)
          have rT11_4 : Xi T11 (248 + ru) 4 = Xi T1 (248 + ru) 4 := FR_ru w230 rfl (by omega)
          have rT11_5 : Xi T11 (248 + ru) 5 = Xi T1 (248 + ru) 5 := FR_ru w230 rfl (by omega)
          have rT11_6 : Xi T11 (248 + ru) 6 = Xi T1 (248 + ru) 6 := FR_ru w230 rfl (by omega)
          have rT11_7 : Xi T11 (248 + ru) 7 = Xi T1 (248 + ru) 7 := FR_ru w230 rfl (by omega)
          refine l_ireturn rfl (retI_z (by omega)) ?_
          have w231 : Xi T11 246 2 = Xi T1 246 2 := (show Xi T11 246 2 = Xi T1 246 2 from w230.x _ _ rfl)
          have w233 : Xi T11 246 5 = Xi T1 246 5 := (show Xi T11 246 5 = Xi T1 246 5 from w230.x _ _ rfl)
          have w235 : Xi T11 876 6 = Xi T1 876 6 := (show Xi T11 876 6 = Xi T1 876 6 from w230.x _ _ rfl)
          have w237 : 0 ≤ Xi T11 876 8 ∧ Xi T11 876 8 ≤ 9 := hHT11.c _ _
          have w238 : Xi T11 895 4 = Xi T1 895 4 := (show Xi T11 895 4 = Xi T1 895 4 from w230.x _ _ rfl)
          exact ⟨hHT11, hFT11, _, rfl, ⟨by omega, by omega⟩, (fun q => by first | (exfalso; omega) | exact sG.tr hg11 (sG.tr g181 g192)), (fun q => by first | (exfalso; omega) | exact kru_tr hq11 (kru_o rfl (by omega) (kru_w  KRU.rf))), (fun q => by first | (exfalso; omega) | exact ⟨by omega, by omega⟩), (fun q => by first | (exfalso; omega) | exact RB_e hHT1 hrk (sG.tr g181 g192) (by omega) (by omega) (by omega) (by omega) (by omega) (by omega) (by omega) (by omega) (by omega) (by omega) hb11), (fun q => by first | omega | (exfalso; omega))⟩
  refine l_aload_n rfl rfl ?_
  refine l_gfi rfl rfl rfl rfl rfl ?_
  have w240 : -1 ≤ (Xi S 899 5) ∧ (Xi S 899 5) ≤ 5131 := hH.c _ _
  refine l_iconst rfl ?_
  refine l_iadd rfl ?_
  refine l_istore_n rfl rfl rfl ?_
  refine l_iconst rfl ?_
  refine l_istore_n rfl rfl rfl ?_
  refine l_iconst rfl ?_
  refine l_istore_n rfl rfl rfl ?_
  exact Rl_weak (C11 _ S hH hF (((Xi S 899 5) + 1)) (1) (0) (⟨by omega, by omega⟩) (⟨by omega, by omega⟩) (⟨by omega, by omega⟩) (by first | exact sG.rf hH | exact sG.tr hg11 G147) (by first | exact KRU.rf | exact kru_tr hq11 (kru_tr u64 (kru_w rfl u124))) (by first | exact hb | (rw [show w3 + 1 = v3 + 1 by omega]; exact B147)) (by omega) (by omega) (by omega) (by first | exact hT | exact t140) (by omega) (by first | exact KTK.rf | exact k140) (fun _ => by omega) (by first | exact fun _ _ => hcr.symm | exact fun q => absurd q (by decide) | exact fun _ q => by have t := n147 (by omega); omega) rfl) (And.intro rfl (And.intro rfl (And.intro rfl (And.intro rfl (True.intro)))))


