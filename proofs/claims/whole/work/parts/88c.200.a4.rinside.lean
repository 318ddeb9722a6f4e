section
/-! rules of the reference: what stands in [ ] -/
def kyr (S : sS) (w : Int) : Int := if ky7 (Xj S 911) w (-1) = -1 then 3 else 100 + ky7 (Xj S 911) w (-1)
def ikR (S : sS) (i : Int) : Int := kyr S (Xj S 994 i.toNat)
def icr (S : sS) (x : Int × Int) : Int := c32 (Xi S 906) x.1.toNat (x.2 - x.1).toNat
def RIW (S T : sS) (L : List (Int × Int)) : Prop := Xi T 904 160 = L.length ∧ ∀ i : Nat, i < L.length → Xj T 994 i = icr S (L.getD i (0, 0))
def RWL (S T : sS) (a e p : Int) : Prop := ∃ L : List (Int × Int), WLp (Xi S 906) e a L p ∧ RIW S T L
def RWO (S S1 : sS) (a e z : Int) : Prop := (z = -1 → ∃ (L : List (Int × Int)) (p : Int), WLp (Xi S 906) e a L p ∧ (p = e ∨ (p < e ∧ Xi S 906 p.toNat ≠ 32 ∧ Xi S 906 p.toNat ≠ 93 ∧ (we7 (Xi S 906) e p = p ∨ 12 < we7 (Xi S 906) e p - p ∨ L.length = 64)))) ∧
  (z ≠ -1 → ∃ L : List (Int × Int), WLp (Xi S 906) e a L (z - 1) ∧ z - 1 < e ∧ Xi S 906 (z - 1).toNat = 93 ∧ RIW S S1 L)
theorem rwl_0 {S T : sS} {a e : Int} (h : a ≤ e) (q : T = uI S 904 160 (Int32.ofInt 0)) : RWL S T a e a :=
  ⟨[], ⟨Int.le_refl _, h, fun q x y => absurd x (by omega)⟩, by rw [q, Xi_same ⟨by decide, by decide⟩]; rfl, fun i hi => absurd hi (Nat.not_lt_zero _)⟩
theorem rwl_b {S T : sS} {a e p : Int} (h : RWL S T a e p) (hp : p < e) (hb : Xi S 906 p.toNat = 32) : RWL S T a e (p + 1) := by
  obtain ⟨L, h1, h2⟩ := h
  exact ⟨L, wl_b L h1 hp hb, h2⟩
theorem rwl_w {S T P U : sS} {a e p q w : Int} (h : RWL S T a e p) (hp : p < e) (hb : Xi S 906 p.toNat ≠ 32) (hq : q = we7 (Xi S 906) e p) (hn : q ≠ p) (h12 : q - p ≤ 12) (he : q ≤ e) (hw : w = c32 (Xi S 906) p.toNat (q - p).toNat) (hr : rgL w) (hi : 0 ≤ Xi T 904 160 ∧ Xi T 904 160 ≤ 64) (e1 : P = uJ T 994 (Xi T 904 160).toNat (Int64.ofInt w)) (e2 : U = uI P 904 160 (Int32.ofInt (Xi T 904 160 + 1))) : RWL S U a e q := by
  obtain ⟨L, h1, h2, h3⟩ := h
  refine ⟨L ++ [(p, q)], wl_w L h1 hp hb hq hn h12 he, by rw [e2, Xi_same ⟨by omega, by omega⟩, h2]; simp, fun i hl => ?_⟩
  by_cases c : i < L.length
  · have g : (L ++ [(p, q)]).getD i (0, 0) = L.getD i (0, 0) := by simp [List.getD_eq_getElem?_getD, List.getElem?_append_left c]
    rw [g, e2, Xj_I, e1, Xj_ne (by omega)]
    exact h3 i c
  · have z1 : i = L.length := by simp at hl; omega
    have z2 : (L ++ [(p, q)]).getD i (0, 0) = (p, q) := by rw [z1]; simp
    rw [z2, e2, Xj_I, e1, show (Xi T 904 160).toNat = i by omega, Xj_same hr]
    exact hw
theorem rwl_e {S T : sS} {a e p z : Int} (h : RWL S T a e p) (hp : p = e) (hz : z = -1) : RWO S T a e z := by
  obtain ⟨L, h1, _⟩ := h
  exact ⟨fun _ => ⟨L, p, h1, Or.inl hp⟩, fun q => absurd hz q⟩
theorem rwl_x {S T : sS} {a e p q z : Int} (h : RWL S T a e p) (hp : p < e) (hb : Xi S 906 p.toNat ≠ 32) (hc : Xi S 906 p.toNat ≠ 93) (hq : q = we7 (Xi S 906) e p) (hx : q = p ∨ 12 < q - p ∨ Xi T 904 160 = 64) (hz : z = -1) : RWO S T a e z := by
  obtain ⟨L, h1, h2, _⟩ := h
  subst hq
  exact ⟨fun _ => ⟨L, p, h1, Or.inr ⟨hp, hb, hc, by omega⟩⟩, fun q => absurd hz q⟩
theorem rwl_y {S T : sS} {a e p z : Int} (h : RWL S T a e p) (hp : p < e) (hb : Xi S 906 p.toNat = 93) (hz : z = p + 1) (hn : z ≠ -1) : RWO S T a e z := by
  obtain ⟨L, h1, h2⟩ := h
  exact ⟨fun q => absurd q hn, fun _ => ⟨L, by rw [show z - 1 = p by omega]; exact h1, by omega, by rw [show z - 1 = p by omega]; exact hb, h2⟩⟩
def frK (S : sS) (a n : Int) : Prop := ∀ j : Int, 0 ≤ j → j < n → ikR S (a + j) = 3
noncomputable def fiR (S : sS) (a n : Int) : Int := @ite Int (frK S a n ∧ 1 ≤ n ∧ n ≤ 3) (Classical.propDecidable _) (fdR S (Xj S 994 a.toNat) (if 1 < n then Xj S 994 (a + 1).toNat else 0) (if 2 < n then Xj S 994 (a + 2).toNat else 0) n (Xi S 904 15).toNat) (-1)
theorem fiR_l {S : sS} {v a n : Int} (h15 : 0 ≤ Xi S 904 15) (e : v = fiR S a n) (h : v ≠ -1) : ((v.toNat : Nat) : Int) < Xi S 904 15 := by
  unfold fiR at e
  by_cases q : frK S a n ∧ 1 ≤ n ∧ n ≤ 3
  · rw [if_pos q] at e
    have r := fdR_rg (S := S) (a := Xj S 994 a.toNat) (b := if 1 < n then Xj S 994 (a + 1).toNat else 0) (c := if 2 < n then Xj S 994 (a + 2).toNat else 0) (n := n) (Xi S 904 15).toNat
    rw [← e] at r
    omega
  · rw [if_neg q] at e
    exact absurd e h
theorem fiR_n {S : sS} {a n : Int} (h : ¬ (frK S a n ∧ 1 ≤ n ∧ n ≤ 3)) : fiR S a n = -1 := if_neg h
theorem fiR_y {S : sS} {a n x y w : Int} (h : frK S a n) (hn : 1 ≤ n ∧ n ≤ 3) (hx : x = Xj S 994 a.toNat) (hy : y = (if 1 < n then Xj S 994 (a + 1).toNat else 0)) (hw : w = (if 2 < n then Xj S 994 (a + 2).toNat else 0)) : fiR S a n = fdR S x y w n (Xi S 904 15).toNat := by
  subst hx hy hw
  exact if_pos ⟨h, hn⟩
/-- THING in [ ], when nothing is written -/
noncomputable def itR (S : sS) (a : Int) : Int := if 0 < Xi S 904 160 - a ∧ ikR S (Xi S 904 160 - 1) = 153 then (if (Xi S 904 160 - a = 1 ∨ (Xi S 904 160 - a = 2 ∧ ikR S a = 102)) ∧ Xi S 904 116 ≠ -1 then -2 else -9) else
  (if fiR S (if 0 < Xi S 904 160 - a ∧ 100 ≤ ikR S a ∧ ikR S a ≤ 103 then a + 1 else a) (Xi S 904 160 - (if 0 < Xi S 904 160 - a ∧ 100 ≤ ikR S a ∧ ikR S a ≤ 103 then a + 1 else a)) ≠ -1 ∧ Xi S 914 (fiR S (if 0 < Xi S 904 160 - a ∧ 100 ≤ ikR S a ∧ ikR S a ≤ 103 then a + 1 else a) (Xi S 904 160 - (if 0 < Xi S 904 160 - a ∧ 100 ≤ ikR S a ∧ ikR S a ≤ 103 then a + 1 else a))).toNat = 4 then Xi S 915 (fiR S (if 0 < Xi S 904 160 - a ∧ 100 ≤ ikR S a ∧ ikR S a ≤ 103 then a + 1 else a) (Xi S 904 160 - (if 0 < Xi S 904 160 - a ∧ 100 ≤ ikR S a ∧ ikR S a ≤ 103 then a + 1 else a))).toNat else -9)
theorem itR_1 {S : sS} {a : Int} (h : 0 < Xi S 904 160 - a ∧ ikR S (Xi S 904 160 - 1) = 153) (g : (Xi S 904 160 - a = 1 ∨ (Xi S 904 160 - a = 2 ∧ ikR S a = 102)) ∧ Xi S 904 116 ≠ -1) : itR S a = -2 := by
  unfold itR; rw [if_pos h, if_pos g]
theorem itR_2 {S : sS} {a : Int} (h : 0 < Xi S 904 160 - a ∧ ikR S (Xi S 904 160 - 1) = 153) (g : ¬ ((Xi S 904 160 - a = 1 ∨ (Xi S 904 160 - a = 2 ∧ ikR S a = 102)) ∧ Xi S 904 116 ≠ -1)) : itR S a = -9 := by
  unfold itR; rw [if_pos h, if_neg g]
theorem itR_3 {S : sS} {a f k z : Int} (h : ¬ (0 < Xi S 904 160 - a ∧ ikR S (Xi S 904 160 - 1) = 153)) (hf : f = (if 0 < Xi S 904 160 - a ∧ 100 ≤ ikR S a ∧ ikR S a ≤ 103 then a + 1 else a)) (hk : k = fiR S f (Xi S 904 160 - f)) (hz : z = (if k ≠ -1 ∧ Xi S 914 k.toNat = 4 then Xi S 915 k.toNat else -9)) : z = itR S a := by
  unfold itR; rw [if_neg h, ← hf, ← hk]; exact hz
/-- the first word behind the first that isn't FREE -/
def ofF (S : sS) : Nat → Int → Int
  | 0, i => i
  | m + 1, i => if i < Xi S 904 160 ∧ ikR S i = 3 then ofF S m (i + 1) else i
def ofR (S : sS) : Int := ofF S 65 1
theorem ofF_s {S : sS} {i : Int} (h0 : 1 ≤ i) (h1 : i < Xi S 904 160) (h2 : Xi S 904 160 ≤ 64) (h3 : ikR S i = 3) : ofF S (66 - i).toNat i = ofF S (66 - (i + 1)).toNat (i + 1) := by
  rw [show (66 - i).toNat = (66 - (i + 1)).toNat + 1 by omega, ofF, if_pos ⟨h1, h3⟩]
theorem ofF_e {S : sS} {i : Int} {n : Nat} (h : ¬ (i < Xi S 904 160 ∧ ikR S i = 3)) : ofF S n i = i := by
  cases n with
  | zero => rfl
  | succ n => rw [ofF, if_neg h]
def isO (S : sS) : Prop := 0 < Xi S 904 160 ∧ ikR S 0 = 102 ∧ 1 < ofR S ∧ ofR S < Xi S 904 160 ∧ ikR S (ofR S) = 107
noncomputable def itA (S : sS) : Int := itR S (@ite Int (isO S) (Classical.propDecidable _) (ofR S + 1) 0)
noncomputable def ipR (S : sS) : Int := if fiR S 1 (ofR S - 1) ≠ -1 ∧ Xi S 914 (fiR S 1 (ofR S - 1)).toNat = 7 then Xi S 915 (fiR S 1 (ofR S - 1)).toNat else -1
/-- what stands in [ ] is as it must be -/
def sIOK (S : sS) : Prop := itA S ≠ -9 ∧ (isO S → ipR S ≠ -1 ∧ hsR S (ktC S (itA S)) (ipR S) ≠ 0)
theorem itA_y {S : sS} (h : isO S) : itA S = itR S (ofR S + 1) := by unfold itA; rw [if_pos h]
theorem itA_n {S : sS} (h : ¬ isO S) : itA S = itR S 0 := by unfold itA; rw [if_neg h]
theorem ktC_r {S : sS} {t : Int} (h : ∀ j : Nat, -1 ≤ Xi S 918 j ∧ Xi S 918 j ≤ 15) (a : -1 ≤ Xi S 904 115 ∧ Xi S 904 115 ≤ 15) (b : -1 ≤ Xi S 904 116 ∧ Xi S 904 116 ≤ 15) : -1 ≤ ktC S t ∧ ktC S t ≤ 15 := by
  unfold ktC
  have := h t.toNat
  split
  · exact a
  · split
    · exact b
    · split <;> omega

def md_mo_words__p : List rec := [(904, 905, 160, 161), (994, 995, 0, 100000)]
abbrev Q_mo_words__p (S : sS) (from_ : Int) (end_ : Int) : pst := fun r S1 => RI S1 ∧ FR md_mo_words__p S S1 ∧ (∃ z : Int, r = some (iv z) ∧ (-2147483648 ≤ z ∧ z ≤ 2147483647) ∧ (RWO S S1 from_ end_ z) ∧ (z = -1 ∨ (from_ < z ∧ z ≤ end_)) ∧ (0 ≤ Xi S1 904 160 ∧ Xi S1 904 160 ≤ 64))
set_option maxRecDepth 100000 in
theorem t_mo_words__p {S : sS} (hH : RI S) (from_ : Int) (end_ : Int) (hfrom_ : 0 ≤ from_ ∧ from_ ≤ 5000) (hend_ : 0 ≤ end_ ∧ end_ ≤ 5000) (hb6 : BYT S 906) (hfe : from_ ≤ end_) (d : Nat) : Mp lay0 (d + 4) m_mo_words [.ref 904, iv from_, iv end_] S (Q_mo_words__p S from_ end_) := by
  refine Mp_R rfl rfl (fun fu => ?_)
  have hF : FR md_mo_words__p S S := FR.rf
  have w1 : -2147483648 ≤ Xi S 904 160 ∧ Xi S 904 160 ≤ 2147483647 := Xi_rgI
  have C7 : ∀ (n7 : Nat) (_ : n7 ≤ fu) (T1 : sS) (_ : RI T1) (_ : FR md_mo_words__p S T1) (v3 : Int), (0 ≤ v3 ∧ v3 ≤ 5000) → (from_ ≤ v3 ∧ v3 ≤ end_) → (0 ≤ Xi T1 904 160 ∧ Xi T1 904 160 ≤ 64) → (Hid (RWL S T1 from_ end_ v3)) → Pl n7 lay0 (d + 3) m_mo_words 7 [(0, .ref 904), (2, iv end_), (3, iv v3)] [] T1 (Q_mo_words__p S from_ end_) := by
    intro n7
    induction n7 with
    | zero => intros; exact Pl_0
    | succ n7 ih7 =>
      intro hm7 T1 hHT1 hFT1 v3 w2 w3 w4 G7
      have w5 : -2147483648 ≤ Xi T1 904 160 ∧ Xi T1 904 160 ≤ 2147483647 := Xi_rgI
      have C55 : ∀ (n55 : Nat) (_ : n55 ≤ n7) (T2 : sS) (_ : RI T2) (_ : FR md_mo_words__p S T2) (v3 : Int) (v4 : Int), (0 ≤ v3 ∧ v3 ≤ 5000) → (0 ≤ v4 ∧ v4 ≤ 5000) → (from_ ≤ v3 ∧ v3 < end_) → (v3 ≤ v4 ∧ v4 ≤ end_) → (0 ≤ Xi T2 904 160 ∧ Xi T2 904 160 ≤ 64) → (Xi S 906 (v3).toNat ≠ 93 ∧ Xi S 906 (v3).toNat ≠ 32) → (v4 = v3 → ltr (Xi S 906 (v3).toNat) = 1) → (Hid (RWL S T2 from_ end_ v3)) → (we7 (Xi S 906) end_ v3 = we7 (Xi S 906) end_ v4) → (Hid (∀ j : Nat, v3 ≤ (j : Int) → (j : Int) < v4 → ltr (Xi S 906 j) = 1)) → Pl n55 lay0 (d + 3) m_mo_words 55 [(0, .ref 904), (2, iv end_), (3, iv v3), (4, iv v4)] [] T2 (Q_mo_words__p S from_ end_) := by
        intro n55
        induction n55 with
        | zero => intros; exact Pl_0
        | succ n55 ih55 =>
          intro hm55 T2 hHT2 hFT2 v3 v4 w6 w7 w8 w9 w10 w11 f55 G55 w55 L55
          have w12 : -2147483648 ≤ Xi T2 904 160 ∧ Xi T2 904 160 ≤ 2147483647 := Xi_rgI
          refine ys_iload rfl rfl ?_
          refine y_iload_n rfl rfl ?_
          refine y_icmp_ge rfl rfl (by unfold rg; omega) (by unfold rg; omega) (fun w13 => ?_) (fun w14 => ?_)
          · refine y_iload rfl rfl ?_
            have K80 : True := trivial
            have e80 : v4 = we7 (Xi S 906) end_ v3 := we7_x w55 (by first | exact Or.inl (by omega) | exact Or.inr (by omega))
            have p80 : v3 < v4 := by by_cases q : v4 = v3; (have u := f55 q; first | omega | (rw [← q] at u; omega)); omega
            refine y_iload_n rfl rfl ?_
            refine y_isub rfl ?_
            refine y_bipush rfl rfl ?_
            refine y_icmp_gt rfl rfl (by unfold rg; omega) (by unfold rg; omega) (fun w15 => ?_) (fun w16 => ?_)
            · refine y_iconst rfl ?_
              refine y_ireturn rfl rfl ?_
              exact ⟨hHT2, hFT2, _, rfl, ⟨by omega, by omega⟩, (by first | (have u := K80; exact rwl_x G55.o (by omega) (by omega) (by omega) e80 (by omega) rfl) | (have u := l46; exact rwl_x (q := v3) G7.o (by omega) (by omega) (by omega) (we7_x rfl (Or.inr (by omega))) (Or.inl rfl) rfl) | (have u := y17; exact rwl_y G7.o (by omega) (by omega) (by omega) (by omega)) | exact rwl_e G7.o (by omega) (by omega) | (exfalso; omega)), (by omega), (by omega)⟩
            · refine y_aload_n rfl rfl ?_
              refine y_gfi rfl rfl rfl rfl rfl ?_
              refine y_bipush rfl rfl ?_
              refine y_icmp_ne rfl rfl (by unfold rg; omega) (by unfold rg; omega) (fun w17 => ?_) (fun w18 => ?_)
              · refine y_aload_n rfl rfl ?_
                refine y_gfr rfl rfl rfl rfl rfl (hHT2.r 904 159 994 rfl) ?_
                refine y_aload_n rfl rfl ?_
                refine y_gfi rfl rfl rfl rfl rfl ?_
                refine y_aload_n rfl rfl ?_
                refine y_gfr rfl rfl rfl rfl rfl (hHT2.r 904 2 906 rfl) ?_
                refine y_iload_n rfl rfl ?_
                refine y_iload rfl rfl ?_
                refine y_iload_n rfl rfl ?_
                refine y_isub rfl ?_
                refine y_callS rfl rfl (by decide) rfl (t_mo_wordOf__p hHT2 906 v3 (v4 - v3) (Or.inr rfl) ⟨by omega, by omega⟩ ⟨by omega, by omega⟩ (BYT_R hFT2 rfl hb6) (fun i a b => by rw [(hFT2.cx 906 rfl _).1]; exact L55.o i a (by omega)) _) ?_
                rintro _ _ ⟨rfl, z19, rfl, f117, g117⟩
                show Pl _ _ _ _ _ _ [jw z19, iv (Xi T2 904 160), .ref 994] _ _
                have c117 : z19 = c32 (Xi S 906) (v3).toNat (v4 - v3).toNat := by have u := f117; rw [show Xi T2 906 = Xi S 906 from funext (fun j => (hFT2.cx 906 rfl j).1)] at u; exact u
                clear f117
                refine y_lastoreP (n := 64) rfl rfl (by unfold rg; omega) (fun w20 w21 => ?_)
                obtain ⟨U3, eU3⟩ : ∃ T : sS, T = uJ T2 994 (((Xi T2 904 160)).toNat) (Int64.ofInt z19) := ⟨_, rfl⟩
                rw [← eU3]
                have hHU3 : RI U3 := by rw [eU3]; exact RI_J hHT2
                have hFU3 : FR md_mo_words__p S U3 := by rw [eU3]; exact FR.wJ hFT2 (mdf_i (r := (994, 995, 0, 100000)) (List.mem_of_getElem? (i := 1) rfl) (inR_i (by omega) (by omega) (by omega) (by omega)))
                have e120 := eU3
                refine y_aload_n rfl rfl ?_
                refine y_dup rfl rfl ?_
                refine y_gfi rfl rfl rfl rfl rfl ?_
                have w22 : (Xi U3 904 160) = (Xi T2 904 160) := (show Xi U3 904 160 = Xi T2 904 160 from by rw [eU3]; rfl)
                rw [w22]
                refine y_iconst rfl ?_
                refine y_iadd rfl ?_
                refine y_pfi rfl rfl rfl rfl ?_
                obtain ⟨U4, eU4⟩ : ∃ T : sS, T = uI U3 904 160 (Int32.ofInt ((Xi T2 904 160) + 1)) := ⟨_, rfl⟩
                rw [← eU4]
                have hHU4 : RI U4 := by rw [eU4]; exact RI_w hHU3
                have hFU4 : FR md_mo_words__p S U4 := by rw [eU4]; exact FR.wI hFU3 (mdf_i (r := (904, 905, 160, 161)) (List.mem_of_getElem? (i := 0) rfl) (inR_i (by omega) (by omega) (by omega) (by omega)))
                have w23 : Xi U4 904 160 = ((Xi T2 904 160) + 1) := by rw [eU4]; exact Xi_same (by unfold rg; omega)
                have e128 := eU4
                have n128 : Xi U4 904 160 = Xi T2 904 160 + 1 := by rw [e128]; exact Xi_same (by unfold rg; omega)
                refine y_iload rfl rfl ?_
                refine y_istore_n rfl rfl rfl ?_
                have G133 : Hid (RWL S U4 from_ end_ v4) := rwl_w G55.o (by omega) (by omega) e80 (by omega) (by omega) (by omega) c117 g117 (by omega) e120 e128
                refine y_goto rfl rfl ?_
                exact Pl_weak (ih7 (by omega) U4 hHU4 hFU4 (v4) (by omega) (by omega) (by omega) (by first | exact G133 | exact G34 | exact rwl_0 (by omega) e4)) (by omega) (And.intro rfl (And.intro rfl (And.intro rfl (True.intro))))
              · refine y_iconst rfl ?_
                refine y_ireturn rfl rfl ?_
                exact ⟨hHT2, hFT2, _, rfl, ⟨by omega, by omega⟩, (by first | (have u := K80; exact rwl_x G55.o (by omega) (by omega) (by omega) e80 (by omega) rfl) | (have u := l46; exact rwl_x (q := v3) G7.o (by omega) (by omega) (by omega) (we7_x rfl (Or.inr (by omega))) (Or.inl rfl) rfl) | (have u := y17; exact rwl_y G7.o (by omega) (by omega) (by omega) (by omega)) | exact rwl_e G7.o (by omega) (by omega) | (exfalso; omega)), (by omega), (by omega)⟩
          · refine y_aload_n rfl rfl ?_
            refine y_gfr rfl rfl rfl rfl rfl (hHT2.r 904 2 906 rfl) ?_
            refine y_iload rfl rfl ?_
            refine y_baloadP (n := 5000) rfl rfl rfl (by decide) (by unfold rg; omega) (fun w24 w25 => ?_)
            have w26 : -2147483648 ≤ (Xi T2 906 ((v4).toNat)) ∧ (Xi T2 906 ((v4).toNat)) ≤ 2147483647 := Xi_rgI
            have y67 : Xi T2 906 (v4).toNat = Xi S 906 (v4).toNat := (hFT2.cx 906 rfl _).1
            have z67 := hb6 (v4).toNat
            refine y_callS rfl rfl (by decide) rfl (t_mo_isLetter__p hHT2 (Xi T2 906 ((v4).toNat)) ⟨by omega, by omega⟩ _) ?_
            rintro _ _ ⟨rfl, z27, rfl, w27, q68⟩
            show Pl _ _ _ _ _ _ [iv z27] _ _
            have l68 : z27 = ltr (Xi S 906 (v4).toNat) := by rw [← y67]; exact q68
            clear q68
            refine y_if_eq rfl rfl (by unfold rg; omega) (fun w28 => ?_) (fun w29 => ?_)
            · refine y_iload rfl rfl ?_
              have K80 : True := trivial
              have e80 : v4 = we7 (Xi S 906) end_ v3 := we7_x w55 (by first | exact Or.inl (by omega) | exact Or.inr (by omega))
              have p80 : v3 < v4 := by by_cases q : v4 = v3; (have u := f55 q; first | omega | (rw [← q] at u; omega)); omega
              refine y_iload_n rfl rfl ?_
              refine y_isub rfl ?_
              refine y_bipush rfl rfl ?_
              refine y_icmp_gt rfl rfl (by unfold rg; omega) (by unfold rg; omega) (fun w30 => ?_) (fun w31 => ?_)
              · refine y_iconst rfl ?_
                refine y_ireturn rfl rfl ?_
                exact ⟨hHT2, hFT2, _, rfl, ⟨by omega, by omega⟩, (by first | (have u := K80; exact rwl_x G55.o (by omega) (by omega) (by omega) e80 (by omega) rfl) | (have u := l46; exact rwl_x (q := v3) G7.o (by omega) (by omega) (by omega) (we7_x rfl (Or.inr (by omega))) (Or.inl rfl) rfl) | (have u := y17; exact rwl_y G7.o (by omega) (by omega) (by omega) (by omega)) | exact rwl_e G7.o (by omega) (by omega) | (exfalso; omega)), (by omega), (by omega)⟩
              · refine y_aload_n rfl rfl ?_
                refine y_gfi rfl rfl rfl rfl rfl ?_
                refine y_bipush rfl rfl ?_
                refine y_icmp_ne rfl rfl (by unfold rg; omega) (by unfold rg; omega) (fun w32 => ?_) (fun w33 => ?_)
                · refine y_aload_n rfl rfl ?_
                  refine y_gfr rfl rfl rfl rfl rfl (hHT2.r 904 159 994 rfl) ?_
                  refine y_aload_n rfl rfl ?_
                  refine y_gfi rfl rfl rfl rfl rfl ?_
                  refine y_aload_n rfl rfl ?_
                  refine y_gfr rfl rfl rfl rfl rfl (hHT2.r 904 2 906 rfl) ?_
                  refine y_iload_n rfl rfl ?_
                  refine y_iload rfl rfl ?_
                  refine y_iload_n rfl rfl ?_
                  refine y_isub rfl ?_
                  refine y_callS rfl rfl (by decide) rfl (t_mo_wordOf__p hHT2 906 v3 (v4 - v3) (Or.inr rfl) ⟨by omega, by omega⟩ ⟨by omega, by omega⟩ (BYT_R hFT2 rfl hb6) (fun i a b => by rw [(hFT2.cx 906 rfl _).1]; exact L55.o i a (by omega)) _) ?_
                  rintro _ _ ⟨rfl, z34, rfl, f117, g117⟩
                  show Pl _ _ _ _ _ _ [jw z34, iv (Xi T2 904 160), .ref 994] _ _
                  have c117 : z34 = c32 (Xi S 906) (v3).toNat (v4 - v3).toNat := by have u := f117; rw [show Xi T2 906 = Xi S 906 from funext (fun j => (hFT2.cx 906 rfl j).1)] at u; exact u
                  clear f117
                  refine y_lastoreP (n := 64) rfl rfl (by unfold rg; omega) (fun w35 w36 => ?_)
                  obtain ⟨U5, eU5⟩ : ∃ T : sS, T = uJ T2 994 (((Xi T2 904 160)).toNat) (Int64.ofInt z34) := ⟨_, rfl⟩
                  rw [← eU5]
                  have hHU5 : RI U5 := by rw [eU5]; exact RI_J hHT2
                  have hFU5 : FR md_mo_words__p S U5 := by rw [eU5]; exact FR.wJ hFT2 (mdf_i (r := (994, 995, 0, 100000)) (List.mem_of_getElem? (i := 1) rfl) (inR_i (by omega) (by omega) (by omega) (by omega)))
                  have e120 := eU5
                  refine y_aload_n rfl rfl ?_
                  refine y_dup rfl rfl ?_
                  refine y_gfi rfl rfl rfl rfl rfl ?_
                  have w37 : (Xi U5 904 160) = (Xi T2 904 160) := (show Xi U5 904 160 = Xi T2 904 160 from by rw [eU5]; rfl)
                  rw [w37]
                  refine y_iconst rfl ?_
                  refine y_iadd rfl ?_
                  refine y_pfi rfl rfl rfl rfl ?_
                  obtain ⟨U6, eU6⟩ : ∃ T : sS, T = uI U5 904 160 (Int32.ofInt ((Xi T2 904 160) + 1)) := ⟨_, rfl⟩
                  rw [← eU6]
                  have hHU6 : RI U6 := by rw [eU6]; exact RI_w hHU5
                  have hFU6 : FR md_mo_words__p S U6 := by rw [eU6]; exact FR.wI hFU5 (mdf_i (r := (904, 905, 160, 161)) (List.mem_of_getElem? (i := 0) rfl) (inR_i (by omega) (by omega) (by omega) (by omega)))
                  have w38 : Xi U6 904 160 = ((Xi T2 904 160) + 1) := by rw [eU6]; exact Xi_same (by unfold rg; omega)
                  have e128 := eU6
                  have n128 : Xi U6 904 160 = Xi T2 904 160 + 1 := by rw [e128]; exact Xi_same (by unfold rg; omega)
                  refine y_iload rfl rfl ?_
                  refine y_istore_n rfl rfl rfl ?_
                  have G133 : Hid (RWL S U6 from_ end_ v4) := rwl_w G55.o (by omega) (by omega) e80 (by omega) (by omega) (by omega) c117 g117 (by omega) e120 e128
                  refine y_goto rfl rfl ?_
                  exact Pl_weak (ih7 (by omega) U6 hHU6 hFU6 (v4) (by omega) (by omega) (by omega) (by first | exact G133 | exact G34 | exact rwl_0 (by omega) e4)) (by omega) (And.intro rfl (And.intro rfl (And.intro rfl (True.intro))))
                · refine y_iconst rfl ?_
                  refine y_ireturn rfl rfl ?_
                  exact ⟨hHT2, hFT2, _, rfl, ⟨by omega, by omega⟩, (by first | (have u := K80; exact rwl_x G55.o (by omega) (by omega) (by omega) e80 (by omega) rfl) | (have u := l46; exact rwl_x (q := v3) G7.o (by omega) (by omega) (by omega) (we7_x rfl (Or.inr (by omega))) (Or.inl rfl) rfl) | (have u := y17; exact rwl_y G7.o (by omega) (by omega) (by omega) (by omega)) | exact rwl_e G7.o (by omega) (by omega) | (exfalso; omega)), (by omega), (by omega)⟩
            · refine y_iinc rfl rfl rfl rfl ?_
              have w74 : we7 (Xi S 906) end_ v3 = we7 (Xi S 906) end_ (v4 + 1) := we7_t w55 (by omega) (by omega)
              have L74 : Hid (∀ j : Nat, v3 ≤ (j : Int) → (j : Int) < v4 + 1 → ltr (Xi S 906 j) = 1) := fun j a b => by by_cases q : (j : Int) < v4; (exact L55.o j a q); (rw [show j = (v4).toNat by omega]; omega)
              refine y_goto rfl rfl ?_
              exact Pl_weak (ih55 (by omega) T2 hHT2 hFT2 (v3) ((v4 + 1)) (by omega) (by omega) (by omega) (by omega) (by omega) (by omega) (by first | omega | (intro _; omega)) (by first | exact G55 | exact G7) (by first | exact w74 | rfl) (by first | exact L74 | exact fun j a b => absurd a (by omega))) (by omega) (And.intro rfl (And.intro rfl (And.intro rfl (And.intro rfl (True.intro)))))
      refine ys_iload_n rfl rfl ?_
      refine y_iload_n rfl rfl ?_
      refine y_icmp_ge rfl rfl (by unfold rg; omega) (by unfold rg; omega) (fun w39 => ?_) (fun w40 => ?_)
      · refine y_iload_n rfl rfl ?_
        refine y_iload_n rfl rfl ?_
        refine y_icmp_ge rfl rfl (by unfold rg; omega) (by unfold rg; omega) (fun w41 => ?_) (fun w42 => ?_)
        · refine y_iconst rfl ?_
          refine y_ireturn rfl rfl ?_
          exact ⟨hHT1, hFT1, _, rfl, ⟨by omega, by omega⟩, (by first | (have u := K80; exact rwl_x G55.o (by omega) (by omega) (by omega) e80 (by omega) rfl) | (have u := l46; exact rwl_x (q := v3) G7.o (by omega) (by omega) (by omega) (we7_x rfl (Or.inr (by omega))) (Or.inl rfl) rfl) | (have u := y17; exact rwl_y G7.o (by omega) (by omega) (by omega) (by omega)) | exact rwl_e G7.o (by omega) (by omega) | (exfalso; omega)), (by omega), (by omega)⟩
        · refine y_iload_n rfl rfl ?_
          refine y_iconst rfl ?_
          refine y_iadd rfl ?_
          refine y_goto rfl rfl ?_
          refine y_ireturn rfl rfl ?_
          exact ⟨hHT1, hFT1, _, rfl, ⟨by omega, by omega⟩, (by first | (have u := K80; exact rwl_x G55.o (by omega) (by omega) (by omega) e80 (by omega) rfl) | (have u := l46; exact rwl_x (q := v3) G7.o (by omega) (by omega) (by omega) (we7_x rfl (Or.inr (by omega))) (Or.inl rfl) rfl) | (have u := y17; exact rwl_y G7.o (by omega) (by omega) (by omega) (by omega)) | exact rwl_e G7.o (by omega) (by omega) | (exfalso; omega)), (by omega), (by omega)⟩
      · refine y_aload_n rfl rfl ?_
        refine y_gfr rfl rfl rfl rfl rfl (hHT1.r 904 2 906 rfl) ?_
        refine y_iload_n rfl rfl ?_
        refine y_baloadP (n := 5000) rfl rfl rfl (by decide) (by unfold rg; omega) (fun w43 w44 => ?_)
        have w45 : -2147483648 ≤ (Xi T1 906 ((v3).toNat)) ∧ (Xi T1 906 ((v3).toNat)) ≤ 2147483647 := Xi_rgI
        have y17 : Xi T1 906 (v3).toNat = Xi S 906 (v3).toNat := (hFT1.cx 906 rfl _).1
        have z17 := hb6 (v3).toNat
        refine y_bipush rfl rfl ?_
        refine y_icmp_eq rfl rfl (by unfold rg; omega) (by unfold rg; omega) (fun w46 => ?_) (fun w47 => ?_)
        · refine y_iload_n rfl rfl ?_
          refine y_iload_n rfl rfl ?_
          refine y_icmp_ge rfl rfl (by unfold rg; omega) (by unfold rg; omega) (fun w48 => ?_) (fun w49 => ?_)
          · refine y_iconst rfl ?_
            refine y_ireturn rfl rfl ?_
            exact ⟨hHT1, hFT1, _, rfl, ⟨by omega, by omega⟩, (by first | (have u := K80; exact rwl_x G55.o (by omega) (by omega) (by omega) e80 (by omega) rfl) | (have u := l46; exact rwl_x (q := v3) G7.o (by omega) (by omega) (by omega) (we7_x rfl (Or.inr (by omega))) (Or.inl rfl) rfl) | (have u := y17; exact rwl_y G7.o (by omega) (by omega) (by omega) (by omega)) | exact rwl_e G7.o (by omega) (by omega) | (exfalso; omega)), (by omega), (by omega)⟩
          · refine y_iload_n rfl rfl ?_
            refine y_iconst rfl ?_
            refine y_iadd rfl ?_
            refine y_goto rfl rfl ?_
            refine y_ireturn rfl rfl ?_
            exact ⟨hHT1, hFT1, _, rfl, ⟨by omega, by omega⟩, (by first | (have u := K80; exact rwl_x G55.o (by omega) (by omega) (by omega) e80 (by omega) rfl) | (have u := l46; exact rwl_x (q := v3) G7.o (by omega) (by omega) (by omega) (we7_x rfl (Or.inr (by omega))) (Or.inl rfl) rfl) | (have u := y17; exact rwl_y G7.o (by omega) (by omega) (by omega) (by omega)) | exact rwl_e G7.o (by omega) (by omega) | (exfalso; omega)), (by omega), (by omega)⟩
        · refine y_aload_n rfl rfl ?_
          refine y_gfr rfl rfl rfl rfl rfl (hHT1.r 904 2 906 rfl) ?_
          refine y_iload_n rfl rfl ?_
          refine y_baloadP (n := 5000) rfl rfl rfl (by decide) (by unfold rg; omega) (fun w50 w51 => ?_)
          have y28 : Xi T1 906 (v3).toNat = Xi S 906 (v3).toNat := (hFT1.cx 906 rfl _).1
          refine y_bipush rfl rfl ?_
          refine y_icmp_ne rfl rfl (by unfold rg; omega) (by unfold rg; omega) (fun w52 => ?_) (fun w53 => ?_)
          · refine y_aload_n rfl rfl ?_
            refine y_gfr rfl rfl rfl rfl rfl (hHT1.r 904 2 906 rfl) ?_
            refine y_iload_n rfl rfl ?_
            refine y_baloadP (n := 5000) rfl rfl rfl (by decide) (by unfold rg; omega) (fun w54 w55 => ?_)
            have y45 : Xi T1 906 (v3).toNat = Xi S 906 (v3).toNat := (hFT1.cx 906 rfl _).1
            have z45 := hb6 (v3).toNat
            refine y_callS rfl rfl (by decide) rfl (t_mo_isLetter__p hHT1 (Xi T1 906 ((v3).toNat)) ⟨by omega, by omega⟩ _) ?_
            rintro _ _ ⟨rfl, z56, rfl, w56, q46⟩
            show Pl _ _ _ _ _ _ [iv z56] _ _
            have l46 : z56 = ltr (Xi S 906 (v3).toNat) := by rw [← y45]; exact q46
            clear q46
            refine y_if_eq rfl rfl (by unfold rg; omega) (fun w57 => ?_) (fun w58 => ?_)
            · refine y_iconst rfl ?_
              refine y_ireturn rfl rfl ?_
              exact ⟨hHT1, hFT1, _, rfl, ⟨by omega, by omega⟩, (by first | (have u := K80; exact rwl_x G55.o (by omega) (by omega) (by omega) e80 (by omega) rfl) | (have u := l46; exact rwl_x (q := v3) G7.o (by omega) (by omega) (by omega) (we7_x rfl (Or.inr (by omega))) (Or.inl rfl) rfl) | (have u := y17; exact rwl_y G7.o (by omega) (by omega) (by omega) (by omega)) | exact rwl_e G7.o (by omega) (by omega) | (exfalso; omega)), (by omega), (by omega)⟩
            · refine y_iload_n rfl rfl ?_
              refine y_istore rfl rfl rfl ?_
              exact Pl_weak (C55 n7 (by omega) T1 hHT1 hFT1 (v3) (v3) (by omega) (by omega) (by omega) (by omega) (by omega) (by omega) (by first | omega | (intro _; omega)) (by first | exact G55 | exact G7) (by first | exact w74 | rfl) (by first | exact L74 | exact fun j a b => absurd a (by omega))) (by omega) (And.intro rfl (And.intro rfl (And.intro rfl (And.intro rfl (True.intro)))))
          · refine y_iinc rfl rfl rfl rfl ?_
            have G34 : Hid (RWL S T1 from_ end_ (v3 + 1)) := rwl_b G7.o (by omega) (by omega)
            refine y_goto rfl rfl ?_
            exact Pl_weak (ih7 (by omega) T1 hHT1 hFT1 ((v3 + 1)) (by omega) (by omega) (by omega) (by first | exact G133 | exact G34 | exact rwl_0 (by omega) e4)) (by omega) (And.intro rfl (And.intro rfl (And.intro rfl (True.intro))))
  refine y_iload_n rfl rfl ?_
  refine y_istore_n rfl rfl rfl ?_
  refine y_aload_n rfl rfl ?_
  refine y_iconst rfl ?_
  refine y_pfi rfl rfl rfl rfl ?_
  obtain ⟨U7, eU7⟩ : ∃ T : sS, T = uI S 904 160 (Int32.ofInt 0) := ⟨_, rfl⟩
  rw [← eU7]
  have hHU7 : RI U7 := by rw [eU7]; exact RI_w hH
  have hFU7 : FR md_mo_words__p S U7 := by rw [eU7]; exact FR.wI hF (mdf_i (r := (904, 905, 160, 161)) (List.mem_of_getElem? (i := 0) rfl) (inR_i (by omega) (by omega) (by omega) (by omega)))
  have w59 : Xi U7 904 160 = 0 := by rw [eU7]; exact Xi_same (by unfold rg; omega)
  have e4 := eU7
  exact Pl_weak (C7 fu (by omega) U7 hHU7 hFU7 (from_) (by omega) (by omega) (by omega) (by first | exact G133 | exact G34 | exact rwl_0 (by omega) e4)) (by omega) (And.intro rfl (And.intro rfl (And.intro rfl (True.intro))))
abbrev Q_mo_foundIn__p (S : sS) (from_ : Int) (n : Int) : pst := fun r S1 => S = S1 ∧ (∃ z : Int, r = some (iv z) ∧ (-2147483648 ≤ z ∧ z ≤ 2147483647) ∧ (z = fiR S from_ n))
set_option maxRecDepth 100000 in
theorem t_mo_foundIn__p {S : sS} (hH : RI S) (from_ : Int) (n : Int) (hfrom_ : 0 ≤ from_ ∧ from_ ≤ 64) (hn : -64 ≤ n ∧ n ≤ 64) (hn : from_ + n ≤ 64) (hLS : LSP S) (h15 : 0 ≤ Xi S 904 15) (d : Nat) : Mp lay0 (d + 2) m_mo_foundIn [.ref 904, iv from_, iv n] S (Q_mo_foundIn__p S from_ n) := by
  refine Mp_R rfl rfl (fun fu => ?_)
  have w1 : -2147483648 ≤ Xi S 904 15 ∧ Xi S 904 15 ≤ 2147483647 := Xi_rgI
  have C2 : ∀ (n2 : Nat) (_ : n2 ≤ fu) (v3 : Int), (0 ≤ v3 ∧ v3 ≤ 64) → (0 ≤ v3 ∧ (v3 ≤ n ∨ v3 = 0)) → (Hid (frK S from_ v3)) → Pl n2 lay0 (d + 1) m_mo_foundIn 2 [(0, .ref 904), (1, iv from_), (2, iv n), (3, iv v3)] [] S (Q_mo_foundIn__p S from_ n) := by
    intro n2
    induction n2 with
    | zero => intros; exact Pl_0
    | succ n2 ih2 =>
      intro hm2 v3 w2 w3 K2
      refine ys_iload_n rfl rfl ?_
      refine y_iload_n rfl rfl ?_
      refine y_icmp_ge rfl rfl (by unfold rg; omega) (by unfold rg; omega) (fun w4 => ?_) (fun w5 => ?_)
      · refine y_iload_n rfl rfl ?_
        refine y_iconst rfl ?_
        refine y_icmp_lt rfl rfl (by unfold rg; omega) (by unfold rg; omega) (fun w6 => ?_) (fun w7 => ?_)
        · refine y_iconst rfl ?_
          have N41 : (-1 : Int) = fiR S from_ n := (fiR_n (fun q => by have t := q.2; omega)).symm
          refine y_goto rfl rfl ?_
          refine y_ireturn rfl rfl ?_
          exact ⟨rfl, _, rfl, ⟨by omega, by omega⟩, (by first | exact X23 | exact G87 | exact N41)⟩
        · refine y_iload_n rfl rfl ?_
          refine y_iconst rfl ?_
          refine y_icmp_le rfl rfl (by unfold rg; omega) (by unfold rg; omega) (fun w8 => ?_) (fun w9 => ?_)
          · refine y_aload_n rfl rfl ?_
            have K45 : frK S from_ n := by have t := K2.o; rw [show v3 = n by omega] at t; exact t
            refine y_aload_n rfl rfl ?_
            refine y_gfr rfl rfl rfl rfl rfl (hH.r 904 159 994 rfl) ?_
            refine y_iload_n rfl rfl ?_
            refine y_laloadP (n := 64) rfl rfl (by unfold rg; omega) (fun w10 w11 => ?_)
            have w12 : -9223372036854775808 ≤ (Xj S 994 ((from_).toNat)) ∧ (Xj S 994 ((from_).toNat)) < 9223372036854775808 := Xj_rg
            refine y_iload_n rfl rfl ?_
            refine y_iconst rfl ?_
            refine y_icmp_le rfl rfl (by unfold rg; omega) (by unfold rg; omega) (fun w13 => ?_) (fun w14 => ?_)
            · refine y_lconst (z := 0) rfl rfl ?_
              refine y_iload_n rfl rfl ?_
              refine y_iconst rfl ?_
              refine y_icmp_le rfl rfl (by unfold rg; omega) (by unfold rg; omega) (fun w15 => ?_) (fun w16 => ?_)
              · refine y_lconst (z := 0) rfl rfl ?_
                refine y_iload_n rfl rfl ?_
                refine y_callV rfl rfl rfl (t_mo_find__p hH (Xj S 994 ((from_).toNat)) 0 0 n ⟨by omega, by omega⟩ (Xj_rg) (by first | exact Xj_rg | (unfold rgL; omega)) (by first | exact Xj_rg | (unfold rgL; omega)) (by first | assumption | omega) (by first | assumption | exact (by assumption : LSP S)) _) ?_
                rintro _ _ ⟨rfl, z17, rfl, w17, f87⟩
                show Pl _ _ _ _ _ _ [iv z17] _ _
                have G87 : z17 = fiR S from_ n := by rw [f87]; exact (fiR_y K45 (by omega) rfl (by first | exact (if_pos (by omega)).symm | exact (if_neg (by omega)).symm) (by first | exact (if_pos (by omega)).symm | exact (if_neg (by omega)).symm)).symm
                refine y_ireturn rfl rfl ?_
                exact ⟨rfl, _, rfl, ⟨by omega, by omega⟩, (by first | exact X23 | exact G87 | exact N41)⟩
              · exfalso; omega
            · refine y_aload_n rfl rfl ?_
              refine y_gfr rfl rfl rfl rfl rfl (hH.r 904 159 994 rfl) ?_
              refine y_iload_n rfl rfl ?_
              refine y_iconst rfl ?_
              refine y_iadd rfl ?_
              refine y_laloadP (n := 64) rfl rfl (by unfold rg; omega) (fun w18 w19 => ?_)
              have w20 : -9223372036854775808 ≤ (Xj S 994 (((from_ + 1)).toNat)) ∧ (Xj S 994 (((from_ + 1)).toNat)) < 9223372036854775808 := Xj_rg
              refine y_goto rfl rfl ?_
              refine y_iload_n rfl rfl ?_
              refine y_iconst rfl ?_
              refine y_icmp_le rfl rfl (by unfold rg; omega) (by unfold rg; omega) (fun w21 => ?_) (fun w22 => ?_)
              · refine y_lconst (z := 0) rfl rfl ?_
                refine y_iload_n rfl rfl ?_
                refine y_callV rfl rfl rfl (t_mo_find__p hH (Xj S 994 ((from_).toNat)) (Xj S 994 (((from_ + 1)).toNat)) 0 n ⟨by omega, by omega⟩ (Xj_rg) (by first | exact Xj_rg | (unfold rgL; omega)) (by first | exact Xj_rg | (unfold rgL; omega)) (by first | assumption | omega) (by first | assumption | exact (by assumption : LSP S)) _) ?_
                rintro _ _ ⟨rfl, z23, rfl, w23, f87⟩
                show Pl _ _ _ _ _ _ [iv z23] _ _
                have G87 : z23 = fiR S from_ n := by rw [f87]; exact (fiR_y K45 (by omega) rfl (by first | exact (if_pos (by omega)).symm | exact (if_neg (by omega)).symm) (by first | exact (if_pos (by omega)).symm | exact (if_neg (by omega)).symm)).symm
                refine y_ireturn rfl rfl ?_
                exact ⟨rfl, _, rfl, ⟨by omega, by omega⟩, (by first | exact X23 | exact G87 | exact N41)⟩
              · refine y_aload_n rfl rfl ?_
                refine y_gfr rfl rfl rfl rfl rfl (hH.r 904 159 994 rfl) ?_
                refine y_iload_n rfl rfl ?_
                refine y_iconst rfl ?_
                refine y_iadd rfl ?_
                refine y_laloadP (n := 64) rfl rfl (by unfold rg; omega) (fun w24 w25 => ?_)
                have w26 : -9223372036854775808 ≤ (Xj S 994 (((from_ + 2)).toNat)) ∧ (Xj S 994 (((from_ + 2)).toNat)) < 9223372036854775808 := Xj_rg
                refine y_goto rfl rfl ?_
                refine y_iload_n rfl rfl ?_
                refine y_callV rfl rfl rfl (t_mo_find__p hH (Xj S 994 ((from_).toNat)) (Xj S 994 (((from_ + 1)).toNat)) (Xj S 994 (((from_ + 2)).toNat)) n ⟨by omega, by omega⟩ (Xj_rg) (by first | exact Xj_rg | (unfold rgL; omega)) (by first | exact Xj_rg | (unfold rgL; omega)) (by first | assumption | omega) (by first | assumption | exact (by assumption : LSP S)) _) ?_
                rintro _ _ ⟨rfl, z27, rfl, w27, f87⟩
                show Pl _ _ _ _ _ _ [iv z27] _ _
                have G87 : z27 = fiR S from_ n := by rw [f87]; exact (fiR_y K45 (by omega) rfl (by first | exact (if_pos (by omega)).symm | exact (if_neg (by omega)).symm) (by first | exact (if_pos (by omega)).symm | exact (if_neg (by omega)).symm)).symm
                refine y_ireturn rfl rfl ?_
                exact ⟨rfl, _, rfl, ⟨by omega, by omega⟩, (by first | exact X23 | exact G87 | exact N41)⟩
          · refine y_iconst rfl ?_
            have N41 : (-1 : Int) = fiR S from_ n := (fiR_n (fun q => by have t := q.2; omega)).symm
            refine y_goto rfl rfl ?_
            refine y_ireturn rfl rfl ?_
            exact ⟨rfl, _, rfl, ⟨by omega, by omega⟩, (by first | exact X23 | exact G87 | exact N41)⟩
      · refine y_aload_n rfl rfl ?_
        refine y_aload_n rfl rfl ?_
        refine y_gfr rfl rfl rfl rfl rfl (hH.r 904 159 994 rfl) ?_
        refine y_iload_n rfl rfl ?_
        refine y_iload_n rfl rfl ?_
        refine y_iadd rfl ?_
        refine y_laloadP (n := 64) rfl rfl (by unfold rg; omega) (fun w28 w29 => ?_)
        have w30 : -9223372036854775808 ≤ (Xj S 994 (((from_ + v3)).toNat)) ∧ (Xj S 994 (((from_ + v3)).toNat)) < 9223372036854775808 := Xj_rg
        refine y_callV rfl rfl rfl (t_mo_keyOf__p hH (Xj S 994 (((from_ + v3)).toNat)) (Xj_rg) _) ?_
        rintro _ _ ⟨rfl, z31, rfl, w31, f16⟩
        show Pl _ _ _ _ _ _ [iv z31] _ _
        have x16 : z31 = ikR S (from_ + v3) := by unfold ikR kyr; exact f16
        refine y_iconst rfl ?_
        refine y_icmp_eq rfl rfl (by unfold rg; omega) (by unfold rg; omega) (fun w32 => ?_) (fun w33 => ?_)
        · refine y_iinc rfl rfl rfl rfl ?_
          refine y_goto rfl rfl ?_
          exact Pl_weak (ih2 (by omega) ((v3 + 1)) (by omega) (by omega) (by first | exact fun j a b => absurd a (by omega) | exact fun j a b => by by_cases q : j < v3; (exact K2.o j a q); (rw [show j = v3 by omega, ← x16]; omega))) (by omega) (And.intro rfl (And.intro rfl (And.intro rfl (And.intro rfl (True.intro)))))
        · refine y_iconst rfl ?_
          have X23 : (-1 : Int) = fiR S from_ n := (fiR_n (fun q => by have t := q.1 v3 (by omega) (by omega); omega)).symm
          refine y_ireturn rfl rfl ?_
          exact ⟨rfl, _, rfl, ⟨by omega, by omega⟩, (by first | exact X23 | exact G87 | exact N41)⟩
  refine y_iconst rfl ?_
  refine y_istore_n rfl rfl rfl ?_
  exact Pl_weak (C2 fu (by omega) (0) (by omega) (by omega) (by first | exact fun j a b => absurd a (by omega) | exact fun j a b => by by_cases q : j < v3; (exact K2.o j a q); (rw [show j = v3 by omega, ← x16]; omega))) (by omega) (And.intro rfl (And.intro rfl (And.intro rfl (And.intro rfl (True.intro)))))
abbrev Q_mo_insideThing__d (S : sS) (from_ : Int) : pst := fun r S1 => S = S1 ∧ (∃ z : Int, r = some (iv z) ∧ (-2147483648 ≤ z ∧ z ≤ 2147483647) ∧ (z = itR S from_))
set_option maxRecDepth 100000 in
theorem t_mo_insideThing__d {S : sS} (hH : RI S) (from_ : Int) (hfrom_ : 0 ≤ from_ ∧ from_ ≤ 64) (hLS : LSP S) (h15 : 0 ≤ Xi S 904 15) (hdr : Xi S 904 157 = 1) (hi6 : 0 ≤ Xi S 904 160 ∧ Xi S 904 160 ≤ 64) (d : Nat) : Mp lay0 (d + 3) m_mo_insideThing [.ref 904, iv from_] S (Q_mo_insideThing__d S from_) := by
  refine Mp_R rfl rfl (fun fu => ?_)
  have w1 : -2147483648 ≤ Xi S 904 15 ∧ Xi S 904 15 ≤ 2147483647 := Xi_rgI
  have w2 : -2147483648 ≤ Xi S 904 157 ∧ Xi S 904 157 ≤ 2147483647 := Xi_rgI
  have w3 : -2147483648 ≤ Xi S 904 160 ∧ Xi S 904 160 ≤ 2147483647 := Xi_rgI
  refine y_aload_n rfl rfl ?_
  refine y_gfi rfl rfl rfl rfl rfl ?_
  refine y_iload_n rfl rfl ?_
  refine y_isub rfl ?_
  refine y_istore_n rfl rfl rfl ?_
  refine y_iload_n rfl rfl ?_
  refine y_if_le rfl rfl (by unfold rg; omega) (fun w4 => ?_) (fun w5 => ?_)
  · refine y_iload_n rfl rfl ?_
    have N101 : ¬ (0 < Xi S 904 160 - from_ ∧ ikR S (Xi S 904 160 - 1) = 153) := by first | (have t := x23; rw [← x23]; omega) | omega
    refine y_if_le rfl rfl (by unfold rg; omega) (fun w6 => ?_) (fun w7 => ?_)
    · refine y_iload_n rfl rfl ?_
      refine y_istore_n rfl rfl rfl ?_
      refine y_aload_n rfl rfl ?_
      have F129 : from_ = (if 0 < Xi S 904 160 - from_ ∧ 100 ≤ ikR S from_ ∧ ikR S from_ ≤ 103 then from_ + 1 else from_) := by first | (have t := x112; rw [← x112]; first | exact (if_pos (by omega)).symm | exact (if_neg (by omega)).symm) | exact (if_neg (by omega)).symm
      refine y_iload_n rfl rfl ?_
      refine y_aload_n rfl rfl ?_
      refine y_gfi rfl rfl rfl rfl rfl ?_
      refine y_iload_n rfl rfl ?_
      refine y_isub rfl ?_
      refine y_callV rfl rfl rfl (t_mo_foundIn__p hH from_ ((Xi S 904 160) - from_) ⟨by omega, by omega⟩ ⟨by omega, by omega⟩ (by first | assumption | omega) (by first | assumption | exact (by assumption : LSP S)) (by first | assumption | omega) _) ?_
      rintro _ _ ⟨rfl, z8, rfl, w8, f137⟩
      show Pl _ _ _ _ _ _ [iv z8] _ _
      refine y_istore rfl rfl rfl ?_
      refine y_iload rfl rfl ?_
      refine y_iconst rfl ?_
      refine y_icmp_eq rfl rfl (by unfold rg; omega) (by unfold rg; omega) (fun w9 => ?_) (fun w10 => ?_)
      · refine y_bipush rfl rfl ?_
        refine y_ireturn rfl rfl ?_
        exact ⟨rfl, _, rfl, ⟨by omega, by omega⟩, (by first | (have u := g82; exact (itR_1 (by omega) (by omega)).symm) | exact (itR_2 (by omega) (by first | (have t := x49; rw [← x49]; omega) | omega)).symm | exact itR_3 N101 F129 f137 (by first | exact (if_pos ⟨by omega, by omega⟩).symm | exact (if_neg (by omega)).symm))⟩
      · refine y_aload_n rfl rfl ?_
        refine y_gfr rfl rfl rfl rfl rfl (hH.r 904 12 914 rfl) ?_
        refine y_iload rfl rfl ?_
        refine y_ialoadP (n := 300) rfl rfl (by unfold rg; omega) (fun w11 w12 => ?_)
        have w13 : -2147483648 ≤ (Xi S 914 ((z8).toNat)) ∧ (Xi S 914 ((z8).toNat)) ≤ 2147483647 := Xi_rgI
        refine y_iconst rfl ?_
        refine y_icmp_ne rfl rfl (by unfold rg; omega) (by unfold rg; omega) (fun w14 => ?_) (fun w15 => ?_)
        · refine y_bipush rfl rfl ?_
          refine y_ireturn rfl rfl ?_
          exact ⟨rfl, _, rfl, ⟨by omega, by omega⟩, (by first | (have u := g82; exact (itR_1 (by omega) (by omega)).symm) | exact (itR_2 (by omega) (by first | (have t := x49; rw [← x49]; omega) | omega)).symm | exact itR_3 N101 F129 f137 (by first | exact (if_pos ⟨by omega, by omega⟩).symm | exact (if_neg (by omega)).symm))⟩
        · refine y_aload_n rfl rfl ?_
          refine y_gfr rfl rfl rfl rfl rfl (hH.r 904 13 915 rfl) ?_
          refine y_iload rfl rfl ?_
          refine y_ialoadP (n := 300) rfl rfl (by unfold rg; omega) (fun w16 w17 => ?_)
          have w18 : -2147483648 ≤ (Xi S 915 ((z8).toNat)) ∧ (Xi S 915 ((z8).toNat)) ≤ 2147483647 := Xi_rgI
          refine y_goto rfl rfl ?_
          refine y_ireturn rfl rfl ?_
          exact ⟨rfl, _, rfl, ⟨by omega, by omega⟩, (by first | (have u := g82; exact (itR_1 (by omega) (by omega)).symm) | exact (itR_2 (by omega) (by first | (have t := x49; rw [← x49]; omega) | omega)).symm | exact itR_3 N101 F129 f137 (by first | exact (if_pos ⟨by omega, by omega⟩).symm | exact (if_neg (by omega)).symm))⟩
    · exfalso; omega
  · refine y_aload_n rfl rfl ?_
    refine y_aload_n rfl rfl ?_
    refine y_gfr rfl rfl rfl rfl rfl (hH.r 904 159 994 rfl) ?_
    refine y_aload_n rfl rfl ?_
    refine y_gfi rfl rfl rfl rfl rfl ?_
    refine y_iconst rfl ?_
    refine y_isub rfl ?_
    refine y_laloadP (n := 64) rfl rfl (by unfold rg; omega) (fun w19 w20 => ?_)
    have w21 : -9223372036854775808 ≤ (Xj S 994 ((((Xi S 904 160) - 1)).toNat)) ∧ (Xj S 994 ((((Xi S 904 160) - 1)).toNat)) < 9223372036854775808 := Xj_rg
    refine y_callV rfl rfl rfl (t_mo_keyOf__p hH (Xj S 994 ((((Xi S 904 160) - 1)).toNat)) (Xj_rg) _) ?_
    rintro _ _ ⟨rfl, z22, rfl, w22, f23⟩
    show Pl _ _ _ _ _ _ [iv z22] _ _
    have x23 : z22 = ikR S (Xi S 904 160 - 1) := by unfold ikR kyr; exact f23
    refine y_sipush rfl rfl ?_
    refine y_icmp_ne rfl rfl (by unfold rg; omega) (by unfold rg; omega) (fun w23 => ?_) (fun w24 => ?_)
    · refine y_iload_n rfl rfl ?_
      have N101 : ¬ (0 < Xi S 904 160 - from_ ∧ ikR S (Xi S 904 160 - 1) = 153) := by first | (have t := x23; rw [← x23]; omega) | omega
      refine y_if_le rfl rfl (by unfold rg; omega) (fun w25 => ?_) (fun w26 => ?_)
      · exfalso; omega
      · refine y_aload_n rfl rfl ?_
        refine y_aload_n rfl rfl ?_
        refine y_gfr rfl rfl rfl rfl rfl (hH.r 904 159 994 rfl) ?_
        refine y_iload_n rfl rfl ?_
        refine y_laloadP (n := 64) rfl rfl (by unfold rg; omega) (fun w27 w28 => ?_)
        have w29 : -9223372036854775808 ≤ (Xj S 994 ((from_).toNat)) ∧ (Xj S 994 ((from_).toNat)) < 9223372036854775808 := Xj_rg
        refine y_callV rfl rfl rfl (t_mo_keyOf__p hH (Xj S 994 ((from_).toNat)) (Xj_rg) _) ?_
        rintro _ _ ⟨rfl, z30, rfl, w30, f112⟩
        show Pl _ _ _ _ _ _ [iv z30] _ _
        have x112 : z30 = ikR S from_ := by unfold ikR kyr; exact f112
        refine y_callS rfl rfl (by decide) rfl (t_mo_isArt__p hH z30 ⟨by omega, by omega⟩ _) ?_
        rintro _ _ ⟨rfl, z31, rfl, w31, q115, n115⟩
        show Pl _ _ _ _ _ _ [iv z31] _ _
        refine y_if_eq rfl rfl (by unfold rg; omega) (fun w32 => ?_) (fun w33 => ?_)
        · refine y_iload_n rfl rfl ?_
          refine y_istore_n rfl rfl rfl ?_
          refine y_aload_n rfl rfl ?_
          have F129 : from_ = (if 0 < Xi S 904 160 - from_ ∧ 100 ≤ ikR S from_ ∧ ikR S from_ ≤ 103 then from_ + 1 else from_) := by first | (have t := x112; rw [← x112]; first | exact (if_pos (by omega)).symm | exact (if_neg (by omega)).symm) | exact (if_neg (by omega)).symm
          refine y_iload_n rfl rfl ?_
          refine y_aload_n rfl rfl ?_
          refine y_gfi rfl rfl rfl rfl rfl ?_
          refine y_iload_n rfl rfl ?_
          refine y_isub rfl ?_
          refine y_callV rfl rfl rfl (t_mo_foundIn__p hH from_ ((Xi S 904 160) - from_) ⟨by omega, by omega⟩ ⟨by omega, by omega⟩ (by first | assumption | omega) (by first | assumption | exact (by assumption : LSP S)) (by first | assumption | omega) _) ?_
          rintro _ _ ⟨rfl, z34, rfl, w34, f137⟩
          show Pl _ _ _ _ _ _ [iv z34] _ _
          refine y_istore rfl rfl rfl ?_
          refine y_iload rfl rfl ?_
          refine y_iconst rfl ?_
          refine y_icmp_eq rfl rfl (by unfold rg; omega) (by unfold rg; omega) (fun w35 => ?_) (fun w36 => ?_)
          · refine y_bipush rfl rfl ?_
            refine y_ireturn rfl rfl ?_
            exact ⟨rfl, _, rfl, ⟨by omega, by omega⟩, (by first | (have u := g82; exact (itR_1 (by omega) (by omega)).symm) | exact (itR_2 (by omega) (by first | (have t := x49; rw [← x49]; omega) | omega)).symm | exact itR_3 N101 F129 f137 (by first | exact (if_pos ⟨by omega, by omega⟩).symm | exact (if_neg (by omega)).symm))⟩
          · refine y_aload_n rfl rfl ?_
            refine y_gfr rfl rfl rfl rfl rfl (hH.r 904 12 914 rfl) ?_
            refine y_iload rfl rfl ?_
            refine y_ialoadP (n := 300) rfl rfl (by unfold rg; omega) (fun w37 w38 => ?_)
            have w39 : -2147483648 ≤ (Xi S 914 ((z34).toNat)) ∧ (Xi S 914 ((z34).toNat)) ≤ 2147483647 := Xi_rgI
            refine y_iconst rfl ?_
            refine y_icmp_ne rfl rfl (by unfold rg; omega) (by unfold rg; omega) (fun w40 => ?_) (fun w41 => ?_)
            · refine y_bipush rfl rfl ?_
              refine y_ireturn rfl rfl ?_
              exact ⟨rfl, _, rfl, ⟨by omega, by omega⟩, (by first | (have u := g82; exact (itR_1 (by omega) (by omega)).symm) | exact (itR_2 (by omega) (by first | (have t := x49; rw [← x49]; omega) | omega)).symm | exact itR_3 N101 F129 f137 (by first | exact (if_pos ⟨by omega, by omega⟩).symm | exact (if_neg (by omega)).symm))⟩
            · refine y_aload_n rfl rfl ?_
              refine y_gfr rfl rfl rfl rfl rfl (hH.r 904 13 915 rfl) ?_
              refine y_iload rfl rfl ?_
              refine y_ialoadP (n := 300) rfl rfl (by unfold rg; omega) (fun w42 w43 => ?_)
              have w44 : -2147483648 ≤ (Xi S 915 ((z34).toNat)) ∧ (Xi S 915 ((z34).toNat)) ≤ 2147483647 := Xi_rgI
              refine y_goto rfl rfl ?_
              refine y_ireturn rfl rfl ?_
              exact ⟨rfl, _, rfl, ⟨by omega, by omega⟩, (by first | (have u := g82; exact (itR_1 (by omega) (by omega)).symm) | exact (itR_2 (by omega) (by first | (have t := x49; rw [← x49]; omega) | omega)).symm | exact itR_3 N101 F129 f137 (by first | exact (if_pos ⟨by omega, by omega⟩).symm | exact (if_neg (by omega)).symm))⟩
        · refine y_iload_n rfl rfl ?_
          refine y_iconst rfl ?_
          refine y_iadd rfl ?_
          refine y_goto rfl rfl ?_
          refine y_istore_n rfl rfl rfl ?_
          refine y_aload_n rfl rfl ?_
          have F129 : (from_ + 1) = (if 0 < Xi S 904 160 - from_ ∧ 100 ≤ ikR S from_ ∧ ikR S from_ ≤ 103 then from_ + 1 else from_) := by first | (have t := x112; rw [← x112]; first | exact (if_pos (by omega)).symm | exact (if_neg (by omega)).symm) | exact (if_neg (by omega)).symm
          refine y_iload_n rfl rfl ?_
          refine y_aload_n rfl rfl ?_
          refine y_gfi rfl rfl rfl rfl rfl ?_
          refine y_iload_n rfl rfl ?_
          refine y_isub rfl ?_
          refine y_callV rfl rfl rfl (t_mo_foundIn__p hH (from_ + 1) ((Xi S 904 160) - (from_ + 1)) ⟨by omega, by omega⟩ ⟨by omega, by omega⟩ (by first | assumption | omega) (by first | assumption | exact (by assumption : LSP S)) (by first | assumption | omega) _) ?_
          rintro _ _ ⟨rfl, z45, rfl, w45, f137⟩
          show Pl _ _ _ _ _ _ [iv z45] _ _
          refine y_istore rfl rfl rfl ?_
          refine y_iload rfl rfl ?_
          refine y_iconst rfl ?_
          refine y_icmp_eq rfl rfl (by unfold rg; omega) (by unfold rg; omega) (fun w46 => ?_) (fun w47 => ?_)
          · refine y_bipush rfl rfl ?_
            refine y_ireturn rfl rfl ?_
            exact ⟨rfl, _, rfl, ⟨by omega, by omega⟩, (by first | (have u := g82; exact (itR_1 (by omega) (by omega)).symm) | exact (itR_2 (by omega) (by first | (have t := x49; rw [← x49]; omega) | omega)).symm | exact itR_3 N101 F129 f137 (by first | exact (if_pos ⟨by omega, by omega⟩).symm | exact (if_neg (by omega)).symm))⟩
          · refine y_aload_n rfl rfl ?_
            refine y_gfr rfl rfl rfl rfl rfl (hH.r 904 12 914 rfl) ?_
            refine y_iload rfl rfl ?_
            refine y_ialoadP (n := 300) rfl rfl (by unfold rg; omega) (fun w48 w49 => ?_)
            have w50 : -2147483648 ≤ (Xi S 914 ((z45).toNat)) ∧ (Xi S 914 ((z45).toNat)) ≤ 2147483647 := Xi_rgI
            refine y_iconst rfl ?_
            refine y_icmp_ne rfl rfl (by unfold rg; omega) (by unfold rg; omega) (fun w51 => ?_) (fun w52 => ?_)
            · refine y_bipush rfl rfl ?_
              refine y_ireturn rfl rfl ?_
              exact ⟨rfl, _, rfl, ⟨by omega, by omega⟩, (by first | (have u := g82; exact (itR_1 (by omega) (by omega)).symm) | exact (itR_2 (by omega) (by first | (have t := x49; rw [← x49]; omega) | omega)).symm | exact itR_3 N101 F129 f137 (by first | exact (if_pos ⟨by omega, by omega⟩).symm | exact (if_neg (by omega)).symm))⟩
            · refine y_aload_n rfl rfl ?_
              refine y_gfr rfl rfl rfl rfl rfl (hH.r 904 13 915 rfl) ?_
              refine y_iload rfl rfl ?_
              refine y_ialoadP (n := 300) rfl rfl (by unfold rg; omega) (fun w53 w54 => ?_)
              have w55 : -2147483648 ≤ (Xi S 915 ((z45).toNat)) ∧ (Xi S 915 ((z45).toNat)) ≤ 2147483647 := Xi_rgI
              refine y_goto rfl rfl ?_
              refine y_ireturn rfl rfl ?_
              exact ⟨rfl, _, rfl, ⟨by omega, by omega⟩, (by first | (have u := g82; exact (itR_1 (by omega) (by omega)).symm) | exact (itR_2 (by omega) (by first | (have t := x49; rw [← x49]; omega) | omega)).symm | exact itR_3 N101 F129 f137 (by first | exact (if_pos ⟨by omega, by omega⟩).symm | exact (if_neg (by omega)).symm))⟩
    · refine y_iload_n rfl rfl ?_
      refine y_iconst rfl ?_
      refine y_icmp_eq rfl rfl (by unfold rg; omega) (by unfold rg; omega) (fun w56 => ?_) (fun w57 => ?_)
      · refine y_iconst rfl ?_
        refine y_goto rfl rfl ?_
        refine y_istore_n rfl rfl rfl ?_
        refine y_iload_n rfl rfl ?_
        refine y_if_eq rfl rfl (by unfold rg; omega) (fun w58 => absurd w58 (by omega)) (fun w59 => ?_)
        · refine y_aload_n rfl rfl ?_
          refine y_gfi rfl rfl rfl rfl rfl ?_
          refine y_if_eq rfl rfl (by unfold rg; omega) (fun w60 => ?_) (fun w61 => ?_)
          · exfalso; omega
          · refine y_aload_n rfl rfl ?_
            refine y_gfi rfl rfl rfl rfl rfl ?_
            have w62 : -2147483648 ≤ (Xi S 904 116) ∧ (Xi S 904 116) ≤ 2147483647 := Xi_rgI
            refine y_iconst rfl ?_
            refine y_icmp_eq rfl rfl (by unfold rg; omega) (by unfold rg; omega) (fun w63 => ?_) (fun w64 => ?_)
            · refine y_bipush rfl rfl ?_
              refine y_ireturn rfl rfl ?_
              exact ⟨rfl, _, rfl, ⟨by omega, by omega⟩, (by first | (have u := g82; exact (itR_1 (by omega) (by omega)).symm) | exact (itR_2 (by omega) (by first | (have t := x49; rw [← x49]; omega) | omega)).symm | exact itR_3 N101 F129 f137 (by first | exact (if_pos ⟨by omega, by omega⟩).symm | exact (if_neg (by omega)).symm))⟩
            · refine y_goto rfl rfl ?_
              refine y_bipush rfl rfl ?_
              have g82 : True := trivial
              refine y_goto rfl rfl ?_
              refine y_ireturn rfl rfl ?_
              exact ⟨rfl, _, rfl, ⟨by omega, by omega⟩, (by first | (have u := g82; exact (itR_1 (by omega) (by omega)).symm) | exact (itR_2 (by omega) (by first | (have t := x49; rw [← x49]; omega) | omega)).symm | exact itR_3 N101 F129 f137 (by first | exact (if_pos ⟨by omega, by omega⟩).symm | exact (if_neg (by omega)).symm))⟩
      · refine y_iload_n rfl rfl ?_
        refine y_iconst rfl ?_
        refine y_icmp_ne rfl rfl (by unfold rg; omega) (by unfold rg; omega) (fun w65 => ?_) (fun w66 => ?_)
        · refine y_iconst rfl ?_
          refine y_istore_n rfl rfl rfl ?_
          refine y_iload_n rfl rfl ?_
          refine y_if_eq rfl rfl (by unfold rg; omega) (fun w67 => ?_) (fun w68 => absurd w68 (by omega))
          · refine y_bipush rfl rfl ?_
            refine y_ireturn rfl rfl ?_
            exact ⟨rfl, _, rfl, ⟨by omega, by omega⟩, (by first | (have u := g82; exact (itR_1 (by omega) (by omega)).symm) | exact (itR_2 (by omega) (by first | (have t := x49; rw [← x49]; omega) | omega)).symm | exact itR_3 N101 F129 f137 (by first | exact (if_pos ⟨by omega, by omega⟩).symm | exact (if_neg (by omega)).symm))⟩
        · refine y_aload_n rfl rfl ?_
          refine y_aload_n rfl rfl ?_
          refine y_gfr rfl rfl rfl rfl rfl (hH.r 904 159 994 rfl) ?_
          refine y_iload_n rfl rfl ?_
          refine y_laloadP (n := 64) rfl rfl (by unfold rg; omega) (fun w69 w70 => ?_)
          have w71 : -9223372036854775808 ≤ (Xj S 994 ((from_).toNat)) ∧ (Xj S 994 ((from_).toNat)) < 9223372036854775808 := Xj_rg
          refine y_callV rfl rfl rfl (t_mo_keyOf__p hH (Xj S 994 ((from_).toNat)) (Xj_rg) _) ?_
          rintro _ _ ⟨rfl, z72, rfl, w72, f49⟩
          show Pl _ _ _ _ _ _ [iv z72] _ _
          have x49 : z72 = ikR S from_ := by unfold ikR kyr; exact f49
          refine y_bipush rfl rfl ?_
          refine y_icmp_ne rfl rfl (by unfold rg; omega) (by unfold rg; omega) (fun w73 => ?_) (fun w74 => ?_)
          · refine y_iconst rfl ?_
            refine y_istore_n rfl rfl rfl ?_
            refine y_iload_n rfl rfl ?_
            refine y_if_eq rfl rfl (by unfold rg; omega) (fun w75 => ?_) (fun w76 => absurd w76 (by omega))
            · refine y_bipush rfl rfl ?_
              refine y_ireturn rfl rfl ?_
              exact ⟨rfl, _, rfl, ⟨by omega, by omega⟩, (by first | (have u := g82; exact (itR_1 (by omega) (by omega)).symm) | exact (itR_2 (by omega) (by first | (have t := x49; rw [← x49]; omega) | omega)).symm | exact itR_3 N101 F129 f137 (by first | exact (if_pos ⟨by omega, by omega⟩).symm | exact (if_neg (by omega)).symm))⟩
          · refine y_iconst rfl ?_
            refine y_goto rfl rfl ?_
            refine y_istore_n rfl rfl rfl ?_
            refine y_iload_n rfl rfl ?_
            refine y_if_eq rfl rfl (by unfold rg; omega) (fun w77 => absurd w77 (by omega)) (fun w78 => ?_)
            · refine y_aload_n rfl rfl ?_
              refine y_gfi rfl rfl rfl rfl rfl ?_
              refine y_if_eq rfl rfl (by unfold rg; omega) (fun w79 => ?_) (fun w80 => ?_)
              · exfalso; omega
              · refine y_aload_n rfl rfl ?_
                refine y_gfi rfl rfl rfl rfl rfl ?_
                have w81 : -2147483648 ≤ (Xi S 904 116) ∧ (Xi S 904 116) ≤ 2147483647 := Xi_rgI
                refine y_iconst rfl ?_
                refine y_icmp_eq rfl rfl (by unfold rg; omega) (by unfold rg; omega) (fun w82 => ?_) (fun w83 => ?_)
                · refine y_bipush rfl rfl ?_
                  refine y_ireturn rfl rfl ?_
                  exact ⟨rfl, _, rfl, ⟨by omega, by omega⟩, (by first | (have u := g82; exact (itR_1 (by omega) (by omega)).symm) | exact (itR_2 (by omega) (by first | (have t := x49; rw [← x49]; omega) | omega)).symm | exact itR_3 N101 F129 f137 (by first | exact (if_pos ⟨by omega, by omega⟩).symm | exact (if_neg (by omega)).symm))⟩
                · refine y_goto rfl rfl ?_
                  refine y_bipush rfl rfl ?_
                  have g82 : True := trivial
                  refine y_goto rfl rfl ?_
                  refine y_ireturn rfl rfl ?_
                  exact ⟨rfl, _, rfl, ⟨by omega, by omega⟩, (by first | (have u := g82; exact (itR_1 (by omega) (by omega)).symm) | exact (itR_2 (by omega) (by first | (have t := x49; rw [← x49]; omega) | omega)).symm | exact itR_3 N101 F129 f137 (by first | exact (if_pos ⟨by omega, by omega⟩).symm | exact (if_neg (by omega)).symm))⟩
def md_mo_saysInside__d : List rec := [(1000, 1001, 0, 1)]
abbrev Q_mo_saysInside__d (S : sS) : pst := fun r S1 => RI S1 ∧ FR md_mo_saysInside__d S S1 ∧ (∃ z : Int, r = some (iv z) ∧ (0 ≤ z ∧ z ≤ 1) ∧ (S1 = S) ∧ ((z = 1 → sIOK S) ∧ (z = 0 → ¬ sIOK S)))
set_option maxRecDepth 100000 in
theorem t_mo_saysInside__d {S : sS} (hH : RI S) (hLS : LSP S) (h15 : 0 ≤ Xi S 904 15) (hB : ABV S) (hkx : Hid (∀ j : Nat, -1 ≤ Xi S 918 j ∧ Xi S 918 j ≤ 15)) (hdr : Xi S 904 157 = 1) (hi6 : 0 ≤ Xi S 904 160 ∧ Xi S 904 160 ≤ 64) (hlx7 : Hid (∀ j : Nat, (j : Int) < Xi S 904 15 → Xi S 914 j = 7 → 0 ≤ Xi S 915 j ∧ Xi S 915 j ≤ 11)) (hit : (-1 ≤ Xi S 904 115 ∧ Xi S 904 115 ≤ 15) ∧ (-1 ≤ Xi S 904 116 ∧ Xi S 904 116 ≤ 15)) (d : Nat) : Mp lay0 (d + 5) m_mo_saysInside [.ref 904] S (Q_mo_saysInside__d S) := by
  refine Mp_R rfl rfl (fun fu => ?_)
  have hF : FR md_mo_saysInside__d S S := FR.rf
  have w1 : -2147483648 ≤ Xi S 904 115 ∧ Xi S 904 115 ≤ 2147483647 := Xi_rgI
  have w2 : -2147483648 ≤ Xi S 904 116 ∧ Xi S 904 116 ≤ 2147483647 := Xi_rgI
  have w3 : -2147483648 ≤ Xi S 904 15 ∧ Xi S 904 15 ≤ 2147483647 := Xi_rgI
  have w4 : -2147483648 ≤ Xi S 904 157 ∧ Xi S 904 157 ≤ 2147483647 := Xi_rgI
  have w5 : -2147483648 ≤ Xi S 904 160 ∧ Xi S 904 160 ≤ 2147483647 := Xi_rgI
  have C2 : ∀ (n2 : Nat) (_ : n2 ≤ fu) (v1 : Int), (1 ≤ v1 ∧ v1 ≤ 64) → (1 ≤ v1 ∧ v1 ≤ 64) → (ofR S = ofF S (66 - v1).toNat v1) → Pl n2 lay0 (d + 4) m_mo_saysInside 2 [(0, .ref 904), (1, iv v1)] [] S (Q_mo_saysInside__d S) := by
    intro n2
    induction n2 with
    | zero => intros; exact Pl_0
    | succ n2 ih2 =>
      intro hm2 v1 w6 w7 o2
      have C86 : ∀  (v1 : Int) (v2 : Int), (1 ≤ v1 ∧ v1 ≤ 64) → (0 ≤ v2 ∧ v2 ≤ 1) → (1 ≤ v1 ∧ v1 ≤ 64) → (0 ≤ v2 ∧ v2 ≤ 1) → (v1 = ofR S) → (Hid ((v2 = 1 → isO S) ∧ (v2 = 0 → ¬ isO S))) → Pl n2 lay0 (d + 4) m_mo_saysInside 86 [(0, .ref 904), (1, iv v1), (2, iv v2)] [] S (Q_mo_saysInside__d S) := by
        intro v1 v2 w8 w9 w10 w11 o86 O86
        refine y_aload_n rfl rfl ?_
        refine y_iload_n rfl rfl ?_
        refine y_if_eq rfl rfl (by unfold rg; omega) (fun w12 => ?_) (fun w13 => ?_)
        · refine y_iconst rfl ?_
          refine y_callV rfl rfl rfl (t_mo_insideThing__d hH 0 ⟨by omega, by omega⟩ (by first | assumption | exact (LSP_FR hF rfl rfl (by assumption : LSP S))) (by first | assumption | omega) (by first | assumption | omega) (by first | assumption | omega) _) ?_
          rintro _ _ ⟨rfl, z14, rfl, w14, f98⟩
          show Pl _ _ _ _ _ _ [iv z14] _ _
          have I98 : itA S = z14 := by first | (rw [itA_y (O86.o.1 (by omega)), ← o86]; exact f98.symm) | (rw [itA_n (O86.o.2 (by omega))]; exact f98.symm)
          refine y_istore_n rfl rfl rfl ?_
          refine y_iload_n rfl rfl ?_
          refine y_bipush rfl rfl ?_
          refine y_icmp_ne rfl rfl (by unfold rg; omega) (by unfold rg; omega) (fun w15 => ?_) (fun w16 => ?_)
          · refine y_iload_n rfl rfl ?_
            refine y_bipush rfl rfl ?_
            refine y_icmp_ne rfl rfl (by unfold rg; omega) (by unfold rg; omega) (fun w17 => ?_) (fun w18 => ?_)
            · refine y_iload_n rfl rfl ?_
              refine y_istore rfl rfl rfl ?_
              refine y_iload_n rfl rfl ?_
              refine y_if_ne rfl rfl (by unfold rg; omega) (fun w19 => ?_) (fun w20 => ?_)
              · refine y_aload_n rfl rfl ?_
                refine y_iconst rfl ?_
                refine y_iload_n rfl rfl ?_
                refine y_iconst rfl ?_
                refine y_isub rfl ?_
                refine y_callV rfl rfl rfl (t_mo_foundIn__p hH 1 (v1 - 1) ⟨by omega, by omega⟩ ⟨by omega, by omega⟩ (by first | assumption | omega) (by first | assumption | exact (LSP_FR hF rfl rfl (by assumption : LSP S))) (by first | assumption | omega) _) ?_
                rintro _ _ ⟨rfl, z21, rfl, w21, f155⟩
                show Pl _ _ _ _ _ _ [iv z21] _ _
                refine y_istore rfl rfl rfl ?_
                refine y_iload rfl rfl ?_
                refine y_iconst rfl ?_
                refine y_icmp_eq rfl rfl (by unfold rg; omega) (by unfold rg; omega) (fun w22 => ?_) (fun w23 => ?_)
                · refine y_iconst rfl ?_
                  refine y_istore rfl rfl rfl ?_
                  refine y_aload_n rfl rfl ?_
                  have p191 : (-1) = ipR S := by unfold ipR; rw [← o86, ← f155]; first | exact (if_pos ⟨by omega, by omega⟩).symm | exact (if_neg (by omega)).symm
                  refine y_gfi rfl rfl rfl rfl rfl ?_
                  refine y_if_eq rfl rfl (by unfold rg; omega) (fun w24 => ?_) (fun w25 => ?_)
                  · exfalso; omega
                  · refine y_aload_n rfl rfl ?_
                    refine y_iload_n rfl rfl ?_
                    refine y_callV rfl rfl rfl (t_mo_kindOfThing__p hH z14 ⟨by omega, by omega⟩ _) ?_
                    rintro _ _ ⟨rfl, z26, rfl, w26, k200⟩
                    show Pl _ _ _ _ _ _ [iv z26] _ _
                    have r200 : -1 ≤ z26 ∧ z26 ≤ 15 := by rw [k200]; exact ktC_r hkx.o hit.1 hit.2
                    refine y_goto rfl rfl ?_
                    refine y_istore rfl rfl rfl ?_
                    refine y_iload rfl rfl ?_
                    refine y_iconst rfl ?_
                    refine y_icmp_eq rfl rfl (by unfold rg; omega) (by unfold rg; omega) (fun w27 => ?_) (fun w28 => absurd w28 (by omega))
                    · refine y_iconst rfl ?_
                      refine y_ireturn rfl rfl ?_
                      exact ⟨hH, hF, _, rfl, ⟨by omega, by omega⟩, (rfl), (by first | (have u := K249; exact ⟨fun q => ⟨by rw [I98]; omega, fun _ => ⟨by rw [← p191]; omega, by rw [I98, ← p191, ← k200, ← x226]; omega⟩⟩, fun q => absurd q (by omega)⟩) | (have u := K148; exact ⟨fun q => ⟨by rw [I98]; omega, fun w => absurd w (O86.o.2 (by omega))⟩, fun q => absurd q (by omega)⟩) | (have u := p191; exact ⟨fun q => absurd q (by omega), fun _ q => by have t := q.2 (O86.o.1 (by omega)); first | (have u := x226; rw [I98, ← p191, ← k200, ← x226] at t; omega) | (rw [← p191] at t; omega)⟩) | exact ⟨fun q => absurd q (by omega), fun _ q => q.1 (by rw [I98]; omega)⟩)⟩
                · refine y_aload_n rfl rfl ?_
                  refine y_gfr rfl rfl rfl rfl rfl (hH.r 904 12 914 rfl) ?_
                  refine y_iload rfl rfl ?_
                  refine y_ialoadP (n := 300) rfl rfl (by unfold rg; omega) (fun w29 w30 => ?_)
                  have w31 : -2147483648 ≤ (Xi S 914 ((z21).toNat)) ∧ (Xi S 914 ((z21).toNat)) ≤ 2147483647 := Xi_rgI
                  refine y_bipush rfl rfl ?_
                  refine y_icmp_ne rfl rfl (by unfold rg; omega) (by unfold rg; omega) (fun w32 => ?_) (fun w33 => ?_)
                  · refine y_iconst rfl ?_
                    refine y_istore rfl rfl rfl ?_
                    refine y_aload_n rfl rfl ?_
                    have p191 : (-1) = ipR S := by unfold ipR; rw [← o86, ← f155]; first | exact (if_pos ⟨by omega, by omega⟩).symm | exact (if_neg (by omega)).symm
                    refine y_gfi rfl rfl rfl rfl rfl ?_
                    refine y_if_eq rfl rfl (by unfold rg; omega) (fun w34 => ?_) (fun w35 => ?_)
                    · exfalso; omega
                    · refine y_aload_n rfl rfl ?_
                      refine y_iload_n rfl rfl ?_
                      refine y_callV rfl rfl rfl (t_mo_kindOfThing__p hH z14 ⟨by omega, by omega⟩ _) ?_
                      rintro _ _ ⟨rfl, z36, rfl, w36, k200⟩
                      show Pl _ _ _ _ _ _ [iv z36] _ _
                      have r200 : -1 ≤ z36 ∧ z36 ≤ 15 := by rw [k200]; exact ktC_r hkx.o hit.1 hit.2
                      refine y_goto rfl rfl ?_
                      refine y_istore rfl rfl rfl ?_
                      refine y_iload rfl rfl ?_
                      refine y_iconst rfl ?_
                      refine y_icmp_eq rfl rfl (by unfold rg; omega) (by unfold rg; omega) (fun w37 => ?_) (fun w38 => absurd w38 (by omega))
                      · refine y_iconst rfl ?_
                        refine y_ireturn rfl rfl ?_
                        exact ⟨hH, hF, _, rfl, ⟨by omega, by omega⟩, (rfl), (by first | (have u := K249; exact ⟨fun q => ⟨by rw [I98]; omega, fun _ => ⟨by rw [← p191]; omega, by rw [I98, ← p191, ← k200, ← x226]; omega⟩⟩, fun q => absurd q (by omega)⟩) | (have u := K148; exact ⟨fun q => ⟨by rw [I98]; omega, fun w => absurd w (O86.o.2 (by omega))⟩, fun q => absurd q (by omega)⟩) | (have u := p191; exact ⟨fun q => absurd q (by omega), fun _ q => by have t := q.2 (O86.o.1 (by omega)); first | (have u := x226; rw [I98, ← p191, ← k200, ← x226] at t; omega) | (rw [← p191] at t; omega)⟩) | exact ⟨fun q => absurd q (by omega), fun _ q => q.1 (by rw [I98]; omega)⟩)⟩
                  · refine y_aload_n rfl rfl ?_
                    refine y_gfr rfl rfl rfl rfl rfl (hH.r 904 13 915 rfl) ?_
                    refine y_iload rfl rfl ?_
                    refine y_ialoadP (n := 300) rfl rfl (by unfold rg; omega) (fun w39 w40 => ?_)
                    have w41 : -2147483648 ≤ (Xi S 915 ((z21).toNat)) ∧ (Xi S 915 ((z21).toNat)) ≤ 2147483647 := Xi_rgI
                    have r184 := hlx7.o (z21).toNat (fiR_l h15 f155 (by omega)) (by omega)
                    refine y_goto rfl rfl ?_
                    refine y_istore rfl rfl rfl ?_
                    refine y_aload_n rfl rfl ?_
                    have p191 : (Xi S 915 ((z21).toNat)) = ipR S := by unfold ipR; rw [← o86, ← f155]; first | exact (if_pos ⟨by omega, by omega⟩).symm | exact (if_neg (by omega)).symm
                    refine y_gfi rfl rfl rfl rfl rfl ?_
                    refine y_if_eq rfl rfl (by unfold rg; omega) (fun w42 => ?_) (fun w43 => ?_)
                    · exfalso; omega
                    · refine y_aload_n rfl rfl ?_
                      refine y_iload_n rfl rfl ?_
                      refine y_callV rfl rfl rfl (t_mo_kindOfThing__p hH z14 ⟨by omega, by omega⟩ _) ?_
                      rintro _ _ ⟨rfl, z44, rfl, w44, k200⟩
                      show Pl _ _ _ _ _ _ [iv z44] _ _
                      have r200 : -1 ≤ z44 ∧ z44 ≤ 15 := by rw [k200]; exact ktC_r hkx.o hit.1 hit.2
                      refine y_goto rfl rfl ?_
                      refine y_istore rfl rfl rfl ?_
                      refine y_iload rfl rfl ?_
                      refine y_iconst rfl ?_
                      refine y_icmp_eq rfl rfl (by unfold rg; omega) (by unfold rg; omega) (fun w45 => ?_) (fun w46 => ?_)
                      · refine y_iconst rfl ?_
                        refine y_ireturn rfl rfl ?_
                        exact ⟨hH, hF, _, rfl, ⟨by omega, by omega⟩, (rfl), (by first | (have u := K249; exact ⟨fun q => ⟨by rw [I98]; omega, fun _ => ⟨by rw [← p191]; omega, by rw [I98, ← p191, ← k200, ← x226]; omega⟩⟩, fun q => absurd q (by omega)⟩) | (have u := K148; exact ⟨fun q => ⟨by rw [I98]; omega, fun w => absurd w (O86.o.2 (by omega))⟩, fun q => absurd q (by omega)⟩) | (have u := p191; exact ⟨fun q => absurd q (by omega), fun _ q => by have t := q.2 (O86.o.1 (by omega)); first | (have u := x226; rw [I98, ← p191, ← k200, ← x226] at t; omega) | (rw [← p191] at t; omega)⟩) | exact ⟨fun q => absurd q (by omega), fun _ q => q.1 (by rw [I98]; omega)⟩)⟩
                      · refine y_aload_n rfl rfl ?_
                        refine y_iload rfl rfl ?_
                        refine y_iload rfl rfl ?_
                        refine y_callV rfl rfl rfl (t_mo_has__p hH z44 (Xi S 915 ((z21).toNat)) ⟨by omega, by omega⟩ ⟨by omega, by omega⟩ (by first | assumption | exact (ABV_FR hF rfl (by assumption : ABV S))) _) ?_
                        rintro _ _ ⟨rfl, z47, rfl, w47, x226⟩
                        show Pl _ _ _ _ _ _ [iv z47] _ _
                        refine y_if_ne rfl rfl (by unfold rg; omega) (fun w48 => ?_) (fun w49 => ?_)
                        · refine y_aload_n rfl rfl ?_
                          refine y_gfi rfl rfl rfl rfl rfl ?_
                          refine y_if_ne rfl rfl (by unfold rg; omega) (fun w50 => ?_) (fun w51 => ?_)
                          · refine y_iconst rfl ?_
                            have K249 : True := trivial
                            refine y_ireturn rfl rfl ?_
                            exact ⟨hH, hF, _, rfl, ⟨by omega, by omega⟩, (rfl), (by first | (have u := K249; exact ⟨fun q => ⟨by rw [I98]; omega, fun _ => ⟨by rw [← p191]; omega, by rw [I98, ← p191, ← k200, ← x226]; omega⟩⟩, fun q => absurd q (by omega)⟩) | (have u := K148; exact ⟨fun q => ⟨by rw [I98]; omega, fun w => absurd w (O86.o.2 (by omega))⟩, fun q => absurd q (by omega)⟩) | (have u := p191; exact ⟨fun q => absurd q (by omega), fun _ q => by have t := q.2 (O86.o.1 (by omega)); first | (have u := x226; rw [I98, ← p191, ← k200, ← x226] at t; omega) | (rw [← p191] at t; omega)⟩) | exact ⟨fun q => absurd q (by omega), fun _ q => q.1 (by rw [I98]; omega)⟩)⟩
                          · exfalso; omega
                        · refine y_iconst rfl ?_
                          refine y_ireturn rfl rfl ?_
                          exact ⟨hH, hF, _, rfl, ⟨by omega, by omega⟩, (rfl), (by first | (have u := K249; exact ⟨fun q => ⟨by rw [I98]; omega, fun _ => ⟨by rw [← p191]; omega, by rw [I98, ← p191, ← k200, ← x226]; omega⟩⟩, fun q => absurd q (by omega)⟩) | (have u := K148; exact ⟨fun q => ⟨by rw [I98]; omega, fun w => absurd w (O86.o.2 (by omega))⟩, fun q => absurd q (by omega)⟩) | (have u := p191; exact ⟨fun q => absurd q (by omega), fun _ q => by have t := q.2 (O86.o.1 (by omega)); first | (have u := x226; rw [I98, ← p191, ← k200, ← x226] at t; omega) | (rw [← p191] at t; omega)⟩) | exact ⟨fun q => absurd q (by omega), fun _ q => q.1 (by rw [I98]; omega)⟩)⟩
              · refine y_aload_n rfl rfl ?_
                refine y_gfi rfl rfl rfl rfl rfl ?_
                refine y_if_ne rfl rfl (by unfold rg; omega) (fun w52 => ?_) (fun w53 => ?_)
                · refine y_iconst rfl ?_
                  have K148 : True := trivial
                  refine y_ireturn rfl rfl ?_
                  exact ⟨hH, hF, _, rfl, ⟨by omega, by omega⟩, (rfl), (by first | (have u := K249; exact ⟨fun q => ⟨by rw [I98]; omega, fun _ => ⟨by rw [← p191]; omega, by rw [I98, ← p191, ← k200, ← x226]; omega⟩⟩, fun q => absurd q (by omega)⟩) | (have u := K148; exact ⟨fun q => ⟨by rw [I98]; omega, fun w => absurd w (O86.o.2 (by omega))⟩, fun q => absurd q (by omega)⟩) | (have u := p191; exact ⟨fun q => absurd q (by omega), fun _ q => by have t := q.2 (O86.o.1 (by omega)); first | (have u := x226; rw [I98, ← p191, ← k200, ← x226] at t; omega) | (rw [← p191] at t; omega)⟩) | exact ⟨fun q => absurd q (by omega), fun _ q => q.1 (by rw [I98]; omega)⟩)⟩
                · exfalso; omega
            · refine y_aload_n rfl rfl ?_
              refine y_gfi rfl rfl rfl rfl rfl ?_
              have w54 : -2147483648 ≤ (Xi S 904 158) ∧ (Xi S 904 158) ≤ 2147483647 := Xi_rgI
              refine y_goto rfl rfl ?_
              refine y_istore rfl rfl rfl ?_
              refine y_iload_n rfl rfl ?_
              refine y_if_ne rfl rfl (by unfold rg; omega) (fun w55 => ?_) (fun w56 => ?_)
              · refine y_aload_n rfl rfl ?_
                refine y_iconst rfl ?_
                refine y_iload_n rfl rfl ?_
                refine y_iconst rfl ?_
                refine y_isub rfl ?_
                refine y_callV rfl rfl rfl (t_mo_foundIn__p hH 1 (v1 - 1) ⟨by omega, by omega⟩ ⟨by omega, by omega⟩ (by first | assumption | omega) (by first | assumption | exact (LSP_FR hF rfl rfl (by assumption : LSP S))) (by first | assumption | omega) _) ?_
                rintro _ _ ⟨rfl, z57, rfl, w57, f155⟩
                show Pl _ _ _ _ _ _ [iv z57] _ _
                refine y_istore rfl rfl rfl ?_
                refine y_iload rfl rfl ?_
                refine y_iconst rfl ?_
                refine y_icmp_eq rfl rfl (by unfold rg; omega) (by unfold rg; omega) (fun w58 => ?_) (fun w59 => ?_)
                · refine y_iconst rfl ?_
                  refine y_istore rfl rfl rfl ?_
                  refine y_aload_n rfl rfl ?_
                  have p191 : (-1) = ipR S := by unfold ipR; rw [← o86, ← f155]; first | exact (if_pos ⟨by omega, by omega⟩).symm | exact (if_neg (by omega)).symm
                  refine y_gfi rfl rfl rfl rfl rfl ?_
                  refine y_if_eq rfl rfl (by unfold rg; omega) (fun w60 => ?_) (fun w61 => ?_)
                  · exfalso; omega
                  · refine y_aload_n rfl rfl ?_
                    refine y_iload_n rfl rfl ?_
                    refine y_callV rfl rfl rfl (t_mo_kindOfThing__p hH z14 ⟨by omega, by omega⟩ _) ?_
                    rintro _ _ ⟨rfl, z62, rfl, w62, k200⟩
                    show Pl _ _ _ _ _ _ [iv z62] _ _
                    have r200 : -1 ≤ z62 ∧ z62 ≤ 15 := by rw [k200]; exact ktC_r hkx.o hit.1 hit.2
                    refine y_goto rfl rfl ?_
                    refine y_istore rfl rfl rfl ?_
                    refine y_iload rfl rfl ?_
                    refine y_iconst rfl ?_
                    refine y_icmp_eq rfl rfl (by unfold rg; omega) (by unfold rg; omega) (fun w63 => ?_) (fun w64 => absurd w64 (by omega))
                    · refine y_iconst rfl ?_
                      refine y_ireturn rfl rfl ?_
                      exact ⟨hH, hF, _, rfl, ⟨by omega, by omega⟩, (rfl), (by first | (have u := K249; exact ⟨fun q => ⟨by rw [I98]; omega, fun _ => ⟨by rw [← p191]; omega, by rw [I98, ← p191, ← k200, ← x226]; omega⟩⟩, fun q => absurd q (by omega)⟩) | (have u := K148; exact ⟨fun q => ⟨by rw [I98]; omega, fun w => absurd w (O86.o.2 (by omega))⟩, fun q => absurd q (by omega)⟩) | (have u := p191; exact ⟨fun q => absurd q (by omega), fun _ q => by have t := q.2 (O86.o.1 (by omega)); first | (have u := x226; rw [I98, ← p191, ← k200, ← x226] at t; omega) | (rw [← p191] at t; omega)⟩) | exact ⟨fun q => absurd q (by omega), fun _ q => q.1 (by rw [I98]; omega)⟩)⟩
                · refine y_aload_n rfl rfl ?_
                  refine y_gfr rfl rfl rfl rfl rfl (hH.r 904 12 914 rfl) ?_
                  refine y_iload rfl rfl ?_
                  refine y_ialoadP (n := 300) rfl rfl (by unfold rg; omega) (fun w65 w66 => ?_)
                  have w67 : -2147483648 ≤ (Xi S 914 ((z57).toNat)) ∧ (Xi S 914 ((z57).toNat)) ≤ 2147483647 := Xi_rgI
                  refine y_bipush rfl rfl ?_
                  refine y_icmp_ne rfl rfl (by unfold rg; omega) (by unfold rg; omega) (fun w68 => ?_) (fun w69 => ?_)
                  · refine y_iconst rfl ?_
                    refine y_istore rfl rfl rfl ?_
                    refine y_aload_n rfl rfl ?_
                    have p191 : (-1) = ipR S := by unfold ipR; rw [← o86, ← f155]; first | exact (if_pos ⟨by omega, by omega⟩).symm | exact (if_neg (by omega)).symm
                    refine y_gfi rfl rfl rfl rfl rfl ?_
                    refine y_if_eq rfl rfl (by unfold rg; omega) (fun w70 => ?_) (fun w71 => ?_)
                    · exfalso; omega
                    · refine y_aload_n rfl rfl ?_
                      refine y_iload_n rfl rfl ?_
                      refine y_callV rfl rfl rfl (t_mo_kindOfThing__p hH z14 ⟨by omega, by omega⟩ _) ?_
                      rintro _ _ ⟨rfl, z72, rfl, w72, k200⟩
                      show Pl _ _ _ _ _ _ [iv z72] _ _
                      have r200 : -1 ≤ z72 ∧ z72 ≤ 15 := by rw [k200]; exact ktC_r hkx.o hit.1 hit.2
                      refine y_goto rfl rfl ?_
                      refine y_istore rfl rfl rfl ?_
                      refine y_iload rfl rfl ?_
                      refine y_iconst rfl ?_
                      refine y_icmp_eq rfl rfl (by unfold rg; omega) (by unfold rg; omega) (fun w73 => ?_) (fun w74 => absurd w74 (by omega))
                      · refine y_iconst rfl ?_
                        refine y_ireturn rfl rfl ?_
                        exact ⟨hH, hF, _, rfl, ⟨by omega, by omega⟩, (rfl), (by first | (have u := K249; exact ⟨fun q => ⟨by rw [I98]; omega, fun _ => ⟨by rw [← p191]; omega, by rw [I98, ← p191, ← k200, ← x226]; omega⟩⟩, fun q => absurd q (by omega)⟩) | (have u := K148; exact ⟨fun q => ⟨by rw [I98]; omega, fun w => absurd w (O86.o.2 (by omega))⟩, fun q => absurd q (by omega)⟩) | (have u := p191; exact ⟨fun q => absurd q (by omega), fun _ q => by have t := q.2 (O86.o.1 (by omega)); first | (have u := x226; rw [I98, ← p191, ← k200, ← x226] at t; omega) | (rw [← p191] at t; omega)⟩) | exact ⟨fun q => absurd q (by omega), fun _ q => q.1 (by rw [I98]; omega)⟩)⟩
                  · refine y_aload_n rfl rfl ?_
                    refine y_gfr rfl rfl rfl rfl rfl (hH.r 904 13 915 rfl) ?_
                    refine y_iload rfl rfl ?_
                    refine y_ialoadP (n := 300) rfl rfl (by unfold rg; omega) (fun w75 w76 => ?_)
                    have w77 : -2147483648 ≤ (Xi S 915 ((z57).toNat)) ∧ (Xi S 915 ((z57).toNat)) ≤ 2147483647 := Xi_rgI
                    have r184 := hlx7.o (z57).toNat (fiR_l h15 f155 (by omega)) (by omega)
                    refine y_goto rfl rfl ?_
                    refine y_istore rfl rfl rfl ?_
                    refine y_aload_n rfl rfl ?_
                    have p191 : (Xi S 915 ((z57).toNat)) = ipR S := by unfold ipR; rw [← o86, ← f155]; first | exact (if_pos ⟨by omega, by omega⟩).symm | exact (if_neg (by omega)).symm
                    refine y_gfi rfl rfl rfl rfl rfl ?_
                    refine y_if_eq rfl rfl (by unfold rg; omega) (fun w78 => ?_) (fun w79 => ?_)
                    · exfalso; omega
                    · refine y_aload_n rfl rfl ?_
                      refine y_iload_n rfl rfl ?_
                      refine y_callV rfl rfl rfl (t_mo_kindOfThing__p hH z14 ⟨by omega, by omega⟩ _) ?_
                      rintro _ _ ⟨rfl, z80, rfl, w80, k200⟩
                      show Pl _ _ _ _ _ _ [iv z80] _ _
                      have r200 : -1 ≤ z80 ∧ z80 ≤ 15 := by rw [k200]; exact ktC_r hkx.o hit.1 hit.2
                      refine y_goto rfl rfl ?_
                      refine y_istore rfl rfl rfl ?_
                      refine y_iload rfl rfl ?_
                      refine y_iconst rfl ?_
                      refine y_icmp_eq rfl rfl (by unfold rg; omega) (by unfold rg; omega) (fun w81 => ?_) (fun w82 => ?_)
                      · refine y_iconst rfl ?_
                        refine y_ireturn rfl rfl ?_
                        exact ⟨hH, hF, _, rfl, ⟨by omega, by omega⟩, (rfl), (by first | (have u := K249; exact ⟨fun q => ⟨by rw [I98]; omega, fun _ => ⟨by rw [← p191]; omega, by rw [I98, ← p191, ← k200, ← x226]; omega⟩⟩, fun q => absurd q (by omega)⟩) | (have u := K148; exact ⟨fun q => ⟨by rw [I98]; omega, fun w => absurd w (O86.o.2 (by omega))⟩, fun q => absurd q (by omega)⟩) | (have u := p191; exact ⟨fun q => absurd q (by omega), fun _ q => by have t := q.2 (O86.o.1 (by omega)); first | (have u := x226; rw [I98, ← p191, ← k200, ← x226] at t; omega) | (rw [← p191] at t; omega)⟩) | exact ⟨fun q => absurd q (by omega), fun _ q => q.1 (by rw [I98]; omega)⟩)⟩
                      · refine y_aload_n rfl rfl ?_
                        refine y_iload rfl rfl ?_
                        refine y_iload rfl rfl ?_
                        refine y_callV rfl rfl rfl (t_mo_has__p hH z80 (Xi S 915 ((z57).toNat)) ⟨by omega, by omega⟩ ⟨by omega, by omega⟩ (by first | assumption | exact (ABV_FR hF rfl (by assumption : ABV S))) _) ?_
                        rintro _ _ ⟨rfl, z83, rfl, w83, x226⟩
                        show Pl _ _ _ _ _ _ [iv z83] _ _
                        refine y_if_ne rfl rfl (by unfold rg; omega) (fun w84 => ?_) (fun w85 => ?_)
                        · refine y_aload_n rfl rfl ?_
                          refine y_gfi rfl rfl rfl rfl rfl ?_
                          refine y_if_ne rfl rfl (by unfold rg; omega) (fun w86 => ?_) (fun w87 => ?_)
                          · refine y_iconst rfl ?_
                            have K249 : True := trivial
                            refine y_ireturn rfl rfl ?_
                            exact ⟨hH, hF, _, rfl, ⟨by omega, by omega⟩, (rfl), (by first | (have u := K249; exact ⟨fun q => ⟨by rw [I98]; omega, fun _ => ⟨by rw [← p191]; omega, by rw [I98, ← p191, ← k200, ← x226]; omega⟩⟩, fun q => absurd q (by omega)⟩) | (have u := K148; exact ⟨fun q => ⟨by rw [I98]; omega, fun w => absurd w (O86.o.2 (by omega))⟩, fun q => absurd q (by omega)⟩) | (have u := p191; exact ⟨fun q => absurd q (by omega), fun _ q => by have t := q.2 (O86.o.1 (by omega)); first | (have u := x226; rw [I98, ← p191, ← k200, ← x226] at t; omega) | (rw [← p191] at t; omega)⟩) | exact ⟨fun q => absurd q (by omega), fun _ q => q.1 (by rw [I98]; omega)⟩)⟩
                          · exfalso; omega
                        · refine y_iconst rfl ?_
                          refine y_ireturn rfl rfl ?_
                          exact ⟨hH, hF, _, rfl, ⟨by omega, by omega⟩, (rfl), (by first | (have u := K249; exact ⟨fun q => ⟨by rw [I98]; omega, fun _ => ⟨by rw [← p191]; omega, by rw [I98, ← p191, ← k200, ← x226]; omega⟩⟩, fun q => absurd q (by omega)⟩) | (have u := K148; exact ⟨fun q => ⟨by rw [I98]; omega, fun w => absurd w (O86.o.2 (by omega))⟩, fun q => absurd q (by omega)⟩) | (have u := p191; exact ⟨fun q => absurd q (by omega), fun _ q => by have t := q.2 (O86.o.1 (by omega)); first | (have u := x226; rw [I98, ← p191, ← k200, ← x226] at t; omega) | (rw [← p191] at t; omega)⟩) | exact ⟨fun q => absurd q (by omega), fun _ q => q.1 (by rw [I98]; omega)⟩)⟩
              · refine y_aload_n rfl rfl ?_
                refine y_gfi rfl rfl rfl rfl rfl ?_
                refine y_if_ne rfl rfl (by unfold rg; omega) (fun w88 => ?_) (fun w89 => ?_)
                · refine y_iconst rfl ?_
                  have K148 : True := trivial
                  refine y_ireturn rfl rfl ?_
                  exact ⟨hH, hF, _, rfl, ⟨by omega, by omega⟩, (rfl), (by first | (have u := K249; exact ⟨fun q => ⟨by rw [I98]; omega, fun _ => ⟨by rw [← p191]; omega, by rw [I98, ← p191, ← k200, ← x226]; omega⟩⟩, fun q => absurd q (by omega)⟩) | (have u := K148; exact ⟨fun q => ⟨by rw [I98]; omega, fun w => absurd w (O86.o.2 (by omega))⟩, fun q => absurd q (by omega)⟩) | (have u := p191; exact ⟨fun q => absurd q (by omega), fun _ q => by have t := q.2 (O86.o.1 (by omega)); first | (have u := x226; rw [I98, ← p191, ← k200, ← x226] at t; omega) | (rw [← p191] at t; omega)⟩) | exact ⟨fun q => absurd q (by omega), fun _ q => q.1 (by rw [I98]; omega)⟩)⟩
                · exfalso; omega
          · refine y_iconst rfl ?_
            refine y_ireturn rfl rfl ?_
            exact ⟨hH, hF, _, rfl, ⟨by omega, by omega⟩, (rfl), (by first | (have u := K249; exact ⟨fun q => ⟨by rw [I98]; omega, fun _ => ⟨by rw [← p191]; omega, by rw [I98, ← p191, ← k200, ← x226]; omega⟩⟩, fun q => absurd q (by omega)⟩) | (have u := K148; exact ⟨fun q => ⟨by rw [I98]; omega, fun w => absurd w (O86.o.2 (by omega))⟩, fun q => absurd q (by omega)⟩) | (have u := p191; exact ⟨fun q => absurd q (by omega), fun _ q => by have t := q.2 (O86.o.1 (by omega)); first | (have u := x226; rw [I98, ← p191, ← k200, ← x226] at t; omega) | (rw [← p191] at t; omega)⟩) | exact ⟨fun q => absurd q (by omega), fun _ q => q.1 (by rw [I98]; omega)⟩)⟩
        · refine y_iload_n rfl rfl ?_
          have o91 := (O86.o.1 (by omega)).2.2.2.1
          refine y_iconst rfl ?_
          refine y_iadd rfl ?_
          refine y_goto rfl rfl ?_
          refine y_callV rfl rfl rfl (t_mo_insideThing__d hH (v1 + 1) ⟨by omega, by omega⟩ (by first | assumption | exact (LSP_FR hF rfl rfl (by assumption : LSP S))) (by first | assumption | omega) (by first | assumption | omega) (by first | assumption | omega) _) ?_
          rintro _ _ ⟨rfl, z90, rfl, w90, f98⟩
          show Pl _ _ _ _ _ _ [iv z90] _ _
          have I98 : itA S = z90 := by first | (rw [itA_y (O86.o.1 (by omega)), ← o86]; exact f98.symm) | (rw [itA_n (O86.o.2 (by omega))]; exact f98.symm)
          refine y_istore_n rfl rfl rfl ?_
          refine y_iload_n rfl rfl ?_
          refine y_bipush rfl rfl ?_
          refine y_icmp_ne rfl rfl (by unfold rg; omega) (by unfold rg; omega) (fun w91 => ?_) (fun w92 => ?_)
          · refine y_iload_n rfl rfl ?_
            refine y_bipush rfl rfl ?_
            refine y_icmp_ne rfl rfl (by unfold rg; omega) (by unfold rg; omega) (fun w93 => ?_) (fun w94 => ?_)
            · refine y_iload_n rfl rfl ?_
              refine y_istore rfl rfl rfl ?_
              refine y_iload_n rfl rfl ?_
              refine y_if_ne rfl rfl (by unfold rg; omega) (fun w95 => ?_) (fun w96 => ?_)
              · refine y_aload_n rfl rfl ?_
                refine y_iconst rfl ?_
                refine y_iload_n rfl rfl ?_
                refine y_iconst rfl ?_
                refine y_isub rfl ?_
                refine y_callV rfl rfl rfl (t_mo_foundIn__p hH 1 (v1 - 1) ⟨by omega, by omega⟩ ⟨by omega, by omega⟩ (by first | assumption | omega) (by first | assumption | exact (LSP_FR hF rfl rfl (by assumption : LSP S))) (by first | assumption | omega) _) ?_
                rintro _ _ ⟨rfl, z97, rfl, w97, f155⟩
                show Pl _ _ _ _ _ _ [iv z97] _ _
                refine y_istore rfl rfl rfl ?_
                refine y_iload rfl rfl ?_
                refine y_iconst rfl ?_
                refine y_icmp_eq rfl rfl (by unfold rg; omega) (by unfold rg; omega) (fun w98 => ?_) (fun w99 => ?_)
                · refine y_iconst rfl ?_
                  refine y_istore rfl rfl rfl ?_
                  refine y_aload_n rfl rfl ?_
                  have p191 : (-1) = ipR S := by unfold ipR; rw [← o86, ← f155]; first | exact (if_pos ⟨by omega, by omega⟩).symm | exact (if_neg (by omega)).symm
                  refine y_gfi rfl rfl rfl rfl rfl ?_
                  refine y_if_eq rfl rfl (by unfold rg; omega) (fun w100 => ?_) (fun w101 => ?_)
                  · exfalso; omega
                  · refine y_aload_n rfl rfl ?_
                    refine y_iload_n rfl rfl ?_
                    refine y_callV rfl rfl rfl (t_mo_kindOfThing__p hH z90 ⟨by omega, by omega⟩ _) ?_
                    rintro _ _ ⟨rfl, z102, rfl, w102, k200⟩
                    show Pl _ _ _ _ _ _ [iv z102] _ _
                    have r200 : -1 ≤ z102 ∧ z102 ≤ 15 := by rw [k200]; exact ktC_r hkx.o hit.1 hit.2
                    refine y_goto rfl rfl ?_
                    refine y_istore rfl rfl rfl ?_
                    refine y_iload rfl rfl ?_
                    refine y_iconst rfl ?_
                    refine y_icmp_eq rfl rfl (by unfold rg; omega) (by unfold rg; omega) (fun w103 => ?_) (fun w104 => absurd w104 (by omega))
                    · refine y_iconst rfl ?_
                      refine y_ireturn rfl rfl ?_
                      exact ⟨hH, hF, _, rfl, ⟨by omega, by omega⟩, (rfl), (by first | (have u := K249; exact ⟨fun q => ⟨by rw [I98]; omega, fun _ => ⟨by rw [← p191]; omega, by rw [I98, ← p191, ← k200, ← x226]; omega⟩⟩, fun q => absurd q (by omega)⟩) | (have u := K148; exact ⟨fun q => ⟨by rw [I98]; omega, fun w => absurd w (O86.o.2 (by omega))⟩, fun q => absurd q (by omega)⟩) | (have u := p191; exact ⟨fun q => absurd q (by omega), fun _ q => by have t := q.2 (O86.o.1 (by omega)); first | (have u := x226; rw [I98, ← p191, ← k200, ← x226] at t; omega) | (rw [← p191] at t; omega)⟩) | exact ⟨fun q => absurd q (by omega), fun _ q => q.1 (by rw [I98]; omega)⟩)⟩
                · refine y_aload_n rfl rfl ?_
                  refine y_gfr rfl rfl rfl rfl rfl (hH.r 904 12 914 rfl) ?_
                  refine y_iload rfl rfl ?_
                  refine y_ialoadP (n := 300) rfl rfl (by unfold rg; omega) (fun w105 w106 => ?_)
                  have w107 : -2147483648 ≤ (Xi S 914 ((z97).toNat)) ∧ (Xi S 914 ((z97).toNat)) ≤ 2147483647 := Xi_rgI
                  refine y_bipush rfl rfl ?_
                  refine y_icmp_ne rfl rfl (by unfold rg; omega) (by unfold rg; omega) (fun w108 => ?_) (fun w109 => ?_)
                  · refine y_iconst rfl ?_
                    refine y_istore rfl rfl rfl ?_
                    refine y_aload_n rfl rfl ?_
                    have p191 : (-1) = ipR S := by unfold ipR; rw [← o86, ← f155]; first | exact (if_pos ⟨by omega, by omega⟩).symm | exact (if_neg (by omega)).symm
                    refine y_gfi rfl rfl rfl rfl rfl ?_
                    refine y_if_eq rfl rfl (by unfold rg; omega) (fun w110 => ?_) (fun w111 => ?_)
                    · exfalso; omega
                    · refine y_aload_n rfl rfl ?_
                      refine y_iload_n rfl rfl ?_
                      refine y_callV rfl rfl rfl (t_mo_kindOfThing__p hH z90 ⟨by omega, by omega⟩ _) ?_
                      rintro _ _ ⟨rfl, z112, rfl, w112, k200⟩
                      show Pl _ _ _ _ _ _ [iv z112] _ _
                      have r200 : -1 ≤ z112 ∧ z112 ≤ 15 := by rw [k200]; exact ktC_r hkx.o hit.1 hit.2
                      refine y_goto rfl rfl ?_
                      refine y_istore rfl rfl rfl ?_
                      refine y_iload rfl rfl ?_
                      refine y_iconst rfl ?_
                      refine y_icmp_eq rfl rfl (by unfold rg; omega) (by unfold rg; omega) (fun w113 => ?_) (fun w114 => absurd w114 (by omega))
                      · refine y_iconst rfl ?_
                        refine y_ireturn rfl rfl ?_
                        exact ⟨hH, hF, _, rfl, ⟨by omega, by omega⟩, (rfl), (by first | (have u := K249; exact ⟨fun q => ⟨by rw [I98]; omega, fun _ => ⟨by rw [← p191]; omega, by rw [I98, ← p191, ← k200, ← x226]; omega⟩⟩, fun q => absurd q (by omega)⟩) | (have u := K148; exact ⟨fun q => ⟨by rw [I98]; omega, fun w => absurd w (O86.o.2 (by omega))⟩, fun q => absurd q (by omega)⟩) | (have u := p191; exact ⟨fun q => absurd q (by omega), fun _ q => by have t := q.2 (O86.o.1 (by omega)); first | (have u := x226; rw [I98, ← p191, ← k200, ← x226] at t; omega) | (rw [← p191] at t; omega)⟩) | exact ⟨fun q => absurd q (by omega), fun _ q => q.1 (by rw [I98]; omega)⟩)⟩
                  · refine y_aload_n rfl rfl ?_
                    refine y_gfr rfl rfl rfl rfl rfl (hH.r 904 13 915 rfl) ?_
                    refine y_iload rfl rfl ?_
                    refine y_ialoadP (n := 300) rfl rfl (by unfold rg; omega) (fun w115 w116 => ?_)
                    have w117 : -2147483648 ≤ (Xi S 915 ((z97).toNat)) ∧ (Xi S 915 ((z97).toNat)) ≤ 2147483647 := Xi_rgI
                    have r184 := hlx7.o (z97).toNat (fiR_l h15 f155 (by omega)) (by omega)
                    refine y_goto rfl rfl ?_
                    refine y_istore rfl rfl rfl ?_
                    refine y_aload_n rfl rfl ?_
                    have p191 : (Xi S 915 ((z97).toNat)) = ipR S := by unfold ipR; rw [← o86, ← f155]; first | exact (if_pos ⟨by omega, by omega⟩).symm | exact (if_neg (by omega)).symm
                    refine y_gfi rfl rfl rfl rfl rfl ?_
                    refine y_if_eq rfl rfl (by unfold rg; omega) (fun w118 => ?_) (fun w119 => ?_)
                    · exfalso; omega
                    · refine y_aload_n rfl rfl ?_
                      refine y_iload_n rfl rfl ?_
                      refine y_callV rfl rfl rfl (t_mo_kindOfThing__p hH z90 ⟨by omega, by omega⟩ _) ?_
                      rintro _ _ ⟨rfl, z120, rfl, w120, k200⟩
                      show Pl _ _ _ _ _ _ [iv z120] _ _
                      have r200 : -1 ≤ z120 ∧ z120 ≤ 15 := by rw [k200]; exact ktC_r hkx.o hit.1 hit.2
                      refine y_goto rfl rfl ?_
                      refine y_istore rfl rfl rfl ?_
                      refine y_iload rfl rfl ?_
                      refine y_iconst rfl ?_
                      refine y_icmp_eq rfl rfl (by unfold rg; omega) (by unfold rg; omega) (fun w121 => ?_) (fun w122 => ?_)
                      · refine y_iconst rfl ?_
                        refine y_ireturn rfl rfl ?_
                        exact ⟨hH, hF, _, rfl, ⟨by omega, by omega⟩, (rfl), (by first | (have u := K249; exact ⟨fun q => ⟨by rw [I98]; omega, fun _ => ⟨by rw [← p191]; omega, by rw [I98, ← p191, ← k200, ← x226]; omega⟩⟩, fun q => absurd q (by omega)⟩) | (have u := K148; exact ⟨fun q => ⟨by rw [I98]; omega, fun w => absurd w (O86.o.2 (by omega))⟩, fun q => absurd q (by omega)⟩) | (have u := p191; exact ⟨fun q => absurd q (by omega), fun _ q => by have t := q.2 (O86.o.1 (by omega)); first | (have u := x226; rw [I98, ← p191, ← k200, ← x226] at t; omega) | (rw [← p191] at t; omega)⟩) | exact ⟨fun q => absurd q (by omega), fun _ q => q.1 (by rw [I98]; omega)⟩)⟩
                      · refine y_aload_n rfl rfl ?_
                        refine y_iload rfl rfl ?_
                        refine y_iload rfl rfl ?_
                        refine y_callV rfl rfl rfl (t_mo_has__p hH z120 (Xi S 915 ((z97).toNat)) ⟨by omega, by omega⟩ ⟨by omega, by omega⟩ (by first | assumption | exact (ABV_FR hF rfl (by assumption : ABV S))) _) ?_
                        rintro _ _ ⟨rfl, z123, rfl, w123, x226⟩
                        show Pl _ _ _ _ _ _ [iv z123] _ _
                        refine y_if_ne rfl rfl (by unfold rg; omega) (fun w124 => ?_) (fun w125 => ?_)
                        · refine y_aload_n rfl rfl ?_
                          refine y_gfi rfl rfl rfl rfl rfl ?_
                          refine y_if_ne rfl rfl (by unfold rg; omega) (fun w126 => ?_) (fun w127 => ?_)
                          · refine y_iconst rfl ?_
                            have K249 : True := trivial
                            refine y_ireturn rfl rfl ?_
                            exact ⟨hH, hF, _, rfl, ⟨by omega, by omega⟩, (rfl), (by first | (have u := K249; exact ⟨fun q => ⟨by rw [I98]; omega, fun _ => ⟨by rw [← p191]; omega, by rw [I98, ← p191, ← k200, ← x226]; omega⟩⟩, fun q => absurd q (by omega)⟩) | (have u := K148; exact ⟨fun q => ⟨by rw [I98]; omega, fun w => absurd w (O86.o.2 (by omega))⟩, fun q => absurd q (by omega)⟩) | (have u := p191; exact ⟨fun q => absurd q (by omega), fun _ q => by have t := q.2 (O86.o.1 (by omega)); first | (have u := x226; rw [I98, ← p191, ← k200, ← x226] at t; omega) | (rw [← p191] at t; omega)⟩) | exact ⟨fun q => absurd q (by omega), fun _ q => q.1 (by rw [I98]; omega)⟩)⟩
                          · exfalso; omega
                        · refine y_iconst rfl ?_
                          refine y_ireturn rfl rfl ?_
                          exact ⟨hH, hF, _, rfl, ⟨by omega, by omega⟩, (rfl), (by first | (have u := K249; exact ⟨fun q => ⟨by rw [I98]; omega, fun _ => ⟨by rw [← p191]; omega, by rw [I98, ← p191, ← k200, ← x226]; omega⟩⟩, fun q => absurd q (by omega)⟩) | (have u := K148; exact ⟨fun q => ⟨by rw [I98]; omega, fun w => absurd w (O86.o.2 (by omega))⟩, fun q => absurd q (by omega)⟩) | (have u := p191; exact ⟨fun q => absurd q (by omega), fun _ q => by have t := q.2 (O86.o.1 (by omega)); first | (have u := x226; rw [I98, ← p191, ← k200, ← x226] at t; omega) | (rw [← p191] at t; omega)⟩) | exact ⟨fun q => absurd q (by omega), fun _ q => q.1 (by rw [I98]; omega)⟩)⟩
              · refine y_aload_n rfl rfl ?_
                refine y_gfi rfl rfl rfl rfl rfl ?_
                refine y_if_ne rfl rfl (by unfold rg; omega) (fun w128 => ?_) (fun w129 => ?_)
                · refine y_iconst rfl ?_
                  have K148 : True := trivial
                  refine y_ireturn rfl rfl ?_
                  exact ⟨hH, hF, _, rfl, ⟨by omega, by omega⟩, (rfl), (by first | (have u := K249; exact ⟨fun q => ⟨by rw [I98]; omega, fun _ => ⟨by rw [← p191]; omega, by rw [I98, ← p191, ← k200, ← x226]; omega⟩⟩, fun q => absurd q (by omega)⟩) | (have u := K148; exact ⟨fun q => ⟨by rw [I98]; omega, fun w => absurd w (O86.o.2 (by omega))⟩, fun q => absurd q (by omega)⟩) | (have u := p191; exact ⟨fun q => absurd q (by omega), fun _ q => by have t := q.2 (O86.o.1 (by omega)); first | (have u := x226; rw [I98, ← p191, ← k200, ← x226] at t; omega) | (rw [← p191] at t; omega)⟩) | exact ⟨fun q => absurd q (by omega), fun _ q => q.1 (by rw [I98]; omega)⟩)⟩
                · exfalso; omega
            · refine y_aload_n rfl rfl ?_
              refine y_gfi rfl rfl rfl rfl rfl ?_
              have w130 : -2147483648 ≤ (Xi S 904 158) ∧ (Xi S 904 158) ≤ 2147483647 := Xi_rgI
              refine y_goto rfl rfl ?_
              refine y_istore rfl rfl rfl ?_
              refine y_iload_n rfl rfl ?_
              refine y_if_ne rfl rfl (by unfold rg; omega) (fun w131 => ?_) (fun w132 => ?_)
              · refine y_aload_n rfl rfl ?_
                refine y_iconst rfl ?_
                refine y_iload_n rfl rfl ?_
                refine y_iconst rfl ?_
                refine y_isub rfl ?_
                refine y_callV rfl rfl rfl (t_mo_foundIn__p hH 1 (v1 - 1) ⟨by omega, by omega⟩ ⟨by omega, by omega⟩ (by first | assumption | omega) (by first | assumption | exact (LSP_FR hF rfl rfl (by assumption : LSP S))) (by first | assumption | omega) _) ?_
                rintro _ _ ⟨rfl, z133, rfl, w133, f155⟩
                show Pl _ _ _ _ _ _ [iv z133] _ _
                refine y_istore rfl rfl rfl ?_
                refine y_iload rfl rfl ?_
                refine y_iconst rfl ?_
                refine y_icmp_eq rfl rfl (by unfold rg; omega) (by unfold rg; omega) (fun w134 => ?_) (fun w135 => ?_)
                · refine y_iconst rfl ?_
                  refine y_istore rfl rfl rfl ?_
                  refine y_aload_n rfl rfl ?_
                  have p191 : (-1) = ipR S := by unfold ipR; rw [← o86, ← f155]; first | exact (if_pos ⟨by omega, by omega⟩).symm | exact (if_neg (by omega)).symm
                  refine y_gfi rfl rfl rfl rfl rfl ?_
                  refine y_if_eq rfl rfl (by unfold rg; omega) (fun w136 => ?_) (fun w137 => ?_)
                  · exfalso; omega
                  · refine y_aload_n rfl rfl ?_
                    refine y_iload_n rfl rfl ?_
                    refine y_callV rfl rfl rfl (t_mo_kindOfThing__p hH z90 ⟨by omega, by omega⟩ _) ?_
                    rintro _ _ ⟨rfl, z138, rfl, w138, k200⟩
                    show Pl _ _ _ _ _ _ [iv z138] _ _
                    have r200 : -1 ≤ z138 ∧ z138 ≤ 15 := by rw [k200]; exact ktC_r hkx.o hit.1 hit.2
                    refine y_goto rfl rfl ?_
                    refine y_istore rfl rfl rfl ?_
                    refine y_iload rfl rfl ?_
                    refine y_iconst rfl ?_
                    refine y_icmp_eq rfl rfl (by unfold rg; omega) (by unfold rg; omega) (fun w139 => ?_) (fun w140 => absurd w140 (by omega))
                    · refine y_iconst rfl ?_
                      refine y_ireturn rfl rfl ?_
                      exact ⟨hH, hF, _, rfl, ⟨by omega, by omega⟩, (rfl), (by first | (have u := K249; exact ⟨fun q => ⟨by rw [I98]; omega, fun _ => ⟨by rw [← p191]; omega, by rw [I98, ← p191, ← k200, ← x226]; omega⟩⟩, fun q => absurd q (by omega)⟩) | (have u := K148; exact ⟨fun q => ⟨by rw [I98]; omega, fun w => absurd w (O86.o.2 (by omega))⟩, fun q => absurd q (by omega)⟩) | (have u := p191; exact ⟨fun q => absurd q (by omega), fun _ q => by have t := q.2 (O86.o.1 (by omega)); first | (have u := x226; rw [I98, ← p191, ← k200, ← x226] at t; omega) | (rw [← p191] at t; omega)⟩) | exact ⟨fun q => absurd q (by omega), fun _ q => q.1 (by rw [I98]; omega)⟩)⟩
                · refine y_aload_n rfl rfl ?_
                  refine y_gfr rfl rfl rfl rfl rfl (hH.r 904 12 914 rfl) ?_
                  refine y_iload rfl rfl ?_
                  refine y_ialoadP (n := 300) rfl rfl (by unfold rg; omega) (fun w141 w142 => ?_)
                  have w143 : -2147483648 ≤ (Xi S 914 ((z133).toNat)) ∧ (Xi S 914 ((z133).toNat)) ≤ 2147483647 := Xi_rgI
                  refine y_bipush rfl rfl ?_
                  refine y_icmp_ne rfl rfl (by unfold rg; omega) (by unfold rg; omega) (fun w144 => ?_) (fun w145 => ?_)
                  · refine y_iconst rfl ?_
                    refine y_istore rfl rfl rfl ?_
                    refine y_aload_n rfl rfl ?_
                    have p191 : (-1) = ipR S := by unfold ipR; rw [← o86, ← f155]; first | exact (if_pos ⟨by omega, by omega⟩).symm | exact (if_neg (by omega)).symm
                    refine y_gfi rfl rfl rfl rfl rfl ?_
                    refine y_if_eq rfl rfl (by unfold rg; omega) (fun w146 => ?_) (fun w147 => ?_)
                    · exfalso; omega
                    · refine y_aload_n rfl rfl ?_
                      refine y_iload_n rfl rfl ?_
                      refine y_callV rfl rfl rfl (t_mo_kindOfThing__p hH z90 ⟨by omega, by omega⟩ _) ?_
                      rintro _ _ ⟨rfl, z148, rfl, w148, k200⟩
                      show Pl _ _ _ _ _ _ [iv z148] _ _
                      have r200 : -1 ≤ z148 ∧ z148 ≤ 15 := by rw [k200]; exact ktC_r hkx.o hit.1 hit.2
                      refine y_goto rfl rfl ?_
                      refine y_istore rfl rfl rfl ?_
                      refine y_iload rfl rfl ?_
                      refine y_iconst rfl ?_
                      refine y_icmp_eq rfl rfl (by unfold rg; omega) (by unfold rg; omega) (fun w149 => ?_) (fun w150 => absurd w150 (by omega))
                      · refine y_iconst rfl ?_
                        refine y_ireturn rfl rfl ?_
                        exact ⟨hH, hF, _, rfl, ⟨by omega, by omega⟩, (rfl), (by first | (have u := K249; exact ⟨fun q => ⟨by rw [I98]; omega, fun _ => ⟨by rw [← p191]; omega, by rw [I98, ← p191, ← k200, ← x226]; omega⟩⟩, fun q => absurd q (by omega)⟩) | (have u := K148; exact ⟨fun q => ⟨by rw [I98]; omega, fun w => absurd w (O86.o.2 (by omega))⟩, fun q => absurd q (by omega)⟩) | (have u := p191; exact ⟨fun q => absurd q (by omega), fun _ q => by have t := q.2 (O86.o.1 (by omega)); first | (have u := x226; rw [I98, ← p191, ← k200, ← x226] at t; omega) | (rw [← p191] at t; omega)⟩) | exact ⟨fun q => absurd q (by omega), fun _ q => q.1 (by rw [I98]; omega)⟩)⟩
                  · refine y_aload_n rfl rfl ?_
                    refine y_gfr rfl rfl rfl rfl rfl (hH.r 904 13 915 rfl) ?_
                    refine y_iload rfl rfl ?_
                    refine y_ialoadP (n := 300) rfl rfl (by unfold rg; omega) (fun w151 w152 => ?_)
                    have w153 : -2147483648 ≤ (Xi S 915 ((z133).toNat)) ∧ (Xi S 915 ((z133).toNat)) ≤ 2147483647 := Xi_rgI
                    have r184 := hlx7.o (z133).toNat (fiR_l h15 f155 (by omega)) (by omega)
                    refine y_goto rfl rfl ?_
                    refine y_istore rfl rfl rfl ?_
                    refine y_aload_n rfl rfl ?_
                    have p191 : (Xi S 915 ((z133).toNat)) = ipR S := by unfold ipR; rw [← o86, ← f155]; first | exact (if_pos ⟨by omega, by omega⟩).symm | exact (if_neg (by omega)).symm
                    refine y_gfi rfl rfl rfl rfl rfl ?_
                    refine y_if_eq rfl rfl (by unfold rg; omega) (fun w154 => ?_) (fun w155 => ?_)
                    · exfalso; omega
                    · refine y_aload_n rfl rfl ?_
                      refine y_iload_n rfl rfl ?_
                      refine y_callV rfl rfl rfl (t_mo_kindOfThing__p hH z90 ⟨by omega, by omega⟩ _) ?_
                      rintro _ _ ⟨rfl, z156, rfl, w156, k200⟩
                      show Pl _ _ _ _ _ _ [iv z156] _ _
                      have r200 : -1 ≤ z156 ∧ z156 ≤ 15 := by rw [k200]; exact ktC_r hkx.o hit.1 hit.2
                      refine y_goto rfl rfl ?_
                      refine y_istore rfl rfl rfl ?_
                      refine y_iload rfl rfl ?_
                      refine y_iconst rfl ?_
                      refine y_icmp_eq rfl rfl (by unfold rg; omega) (by unfold rg; omega) (fun w157 => ?_) (fun w158 => ?_)
                      · refine y_iconst rfl ?_
                        refine y_ireturn rfl rfl ?_
                        exact ⟨hH, hF, _, rfl, ⟨by omega, by omega⟩, (rfl), (by first | (have u := K249; exact ⟨fun q => ⟨by rw [I98]; omega, fun _ => ⟨by rw [← p191]; omega, by rw [I98, ← p191, ← k200, ← x226]; omega⟩⟩, fun q => absurd q (by omega)⟩) | (have u := K148; exact ⟨fun q => ⟨by rw [I98]; omega, fun w => absurd w (O86.o.2 (by omega))⟩, fun q => absurd q (by omega)⟩) | (have u := p191; exact ⟨fun q => absurd q (by omega), fun _ q => by have t := q.2 (O86.o.1 (by omega)); first | (have u := x226; rw [I98, ← p191, ← k200, ← x226] at t; omega) | (rw [← p191] at t; omega)⟩) | exact ⟨fun q => absurd q (by omega), fun _ q => q.1 (by rw [I98]; omega)⟩)⟩
                      · refine y_aload_n rfl rfl ?_
                        refine y_iload rfl rfl ?_
                        refine y_iload rfl rfl ?_
                        refine y_callV rfl rfl rfl (t_mo_has__p hH z156 (Xi S 915 ((z133).toNat)) ⟨by omega, by omega⟩ ⟨by omega, by omega⟩ (by first | assumption | exact (ABV_FR hF rfl (by assumption : ABV S))) _) ?_
                        rintro _ _ ⟨rfl, z159, rfl, w159, x226⟩
                        show Pl _ _ _ _ _ _ [iv z159] _ _
                        refine y_if_ne rfl rfl (by unfold rg; omega) (fun w160 => ?_) (fun w161 => ?_)
                        · refine y_aload_n rfl rfl ?_
                          refine y_gfi rfl rfl rfl rfl rfl ?_
                          refine y_if_ne rfl rfl (by unfold rg; omega) (fun w162 => ?_) (fun w163 => ?_)
                          · refine y_iconst rfl ?_
                            have K249 : True := trivial
                            refine y_ireturn rfl rfl ?_
                            exact ⟨hH, hF, _, rfl, ⟨by omega, by omega⟩, (rfl), (by first | (have u := K249; exact ⟨fun q => ⟨by rw [I98]; omega, fun _ => ⟨by rw [← p191]; omega, by rw [I98, ← p191, ← k200, ← x226]; omega⟩⟩, fun q => absurd q (by omega)⟩) | (have u := K148; exact ⟨fun q => ⟨by rw [I98]; omega, fun w => absurd w (O86.o.2 (by omega))⟩, fun q => absurd q (by omega)⟩) | (have u := p191; exact ⟨fun q => absurd q (by omega), fun _ q => by have t := q.2 (O86.o.1 (by omega)); first | (have u := x226; rw [I98, ← p191, ← k200, ← x226] at t; omega) | (rw [← p191] at t; omega)⟩) | exact ⟨fun q => absurd q (by omega), fun _ q => q.1 (by rw [I98]; omega)⟩)⟩
                          · exfalso; omega
                        · refine y_iconst rfl ?_
                          refine y_ireturn rfl rfl ?_
                          exact ⟨hH, hF, _, rfl, ⟨by omega, by omega⟩, (rfl), (by first | (have u := K249; exact ⟨fun q => ⟨by rw [I98]; omega, fun _ => ⟨by rw [← p191]; omega, by rw [I98, ← p191, ← k200, ← x226]; omega⟩⟩, fun q => absurd q (by omega)⟩) | (have u := K148; exact ⟨fun q => ⟨by rw [I98]; omega, fun w => absurd w (O86.o.2 (by omega))⟩, fun q => absurd q (by omega)⟩) | (have u := p191; exact ⟨fun q => absurd q (by omega), fun _ q => by have t := q.2 (O86.o.1 (by omega)); first | (have u := x226; rw [I98, ← p191, ← k200, ← x226] at t; omega) | (rw [← p191] at t; omega)⟩) | exact ⟨fun q => absurd q (by omega), fun _ q => q.1 (by rw [I98]; omega)⟩)⟩
              · refine y_aload_n rfl rfl ?_
                refine y_gfi rfl rfl rfl rfl rfl ?_
                refine y_if_ne rfl rfl (by unfold rg; omega) (fun w164 => ?_) (fun w165 => ?_)
                · refine y_iconst rfl ?_
                  have K148 : True := trivial
                  refine y_ireturn rfl rfl ?_
                  exact ⟨hH, hF, _, rfl, ⟨by omega, by omega⟩, (rfl), (by first | (have u := K249; exact ⟨fun q => ⟨by rw [I98]; omega, fun _ => ⟨by rw [← p191]; omega, by rw [I98, ← p191, ← k200, ← x226]; omega⟩⟩, fun q => absurd q (by omega)⟩) | (have u := K148; exact ⟨fun q => ⟨by rw [I98]; omega, fun w => absurd w (O86.o.2 (by omega))⟩, fun q => absurd q (by omega)⟩) | (have u := p191; exact ⟨fun q => absurd q (by omega), fun _ q => by have t := q.2 (O86.o.1 (by omega)); first | (have u := x226; rw [I98, ← p191, ← k200, ← x226] at t; omega) | (rw [← p191] at t; omega)⟩) | exact ⟨fun q => absurd q (by omega), fun _ q => q.1 (by rw [I98]; omega)⟩)⟩
                · exfalso; omega
          · refine y_iconst rfl ?_
            refine y_ireturn rfl rfl ?_
            exact ⟨hH, hF, _, rfl, ⟨by omega, by omega⟩, (rfl), (by first | (have u := K249; exact ⟨fun q => ⟨by rw [I98]; omega, fun _ => ⟨by rw [← p191]; omega, by rw [I98, ← p191, ← k200, ← x226]; omega⟩⟩, fun q => absurd q (by omega)⟩) | (have u := K148; exact ⟨fun q => ⟨by rw [I98]; omega, fun w => absurd w (O86.o.2 (by omega))⟩, fun q => absurd q (by omega)⟩) | (have u := p191; exact ⟨fun q => absurd q (by omega), fun _ q => by have t := q.2 (O86.o.1 (by omega)); first | (have u := x226; rw [I98, ← p191, ← k200, ← x226] at t; omega) | (rw [← p191] at t; omega)⟩) | exact ⟨fun q => absurd q (by omega), fun _ q => q.1 (by rw [I98]; omega)⟩)⟩
      refine ys_iload_n rfl rfl ?_
      refine y_aload_n rfl rfl ?_
      refine y_gfi rfl rfl rfl rfl rfl ?_
      refine y_icmp_ge rfl rfl (by unfold rg; omega) (by unfold rg; omega) (fun w166 => ?_) (fun w167 => ?_)
      · refine y_aload_n rfl rfl ?_
        have o30 : v1 = ofR S := by rw [o2]; exact (ofF_e (by first | omega | (have t := x17; intro q; have := q.2; omega))).symm
        refine y_gfi rfl rfl rfl rfl rfl ?_
        refine y_if_le rfl rfl (by unfold rg; omega) (fun w168 => ?_) (fun w169 => ?_)
        · refine y_iconst rfl ?_
          refine y_istore_n rfl rfl rfl ?_
          exact Pl_weak (C86 (v1) (0) (by omega) (by omega) (by omega) (by omega) (o30) (by first | exact Hid.i ⟨fun _ => ⟨by omega, by omega, by omega, by omega, by rw [← o30]; omega⟩, fun q => absurd q (by omega)⟩ | exact Hid.i ⟨fun q => absurd q (by omega), fun _ w => by obtain ⟨w1, w2, w3, w4, w5⟩ := w; rw [← o30] at w3 w4 w5; omega⟩)) (by omega) (And.intro rfl (And.intro rfl (And.intro rfl (True.intro))))
        · refine y_aload_n rfl rfl ?_
          refine y_aload_n rfl rfl ?_
          refine y_gfr rfl rfl rfl rfl rfl (hH.r 904 159 994 rfl) ?_
          refine y_iconst rfl ?_
          refine y_laloadP (n := 64) rfl rfl (by unfold rg; omega) (fun w170 w171 => ?_)
          have w172 : -9223372036854775808 ≤ (Xj S 994 ((0 : Int).toNat)) ∧ (Xj S 994 ((0 : Int).toNat)) < 9223372036854775808 := Xj_rg
          refine y_callV rfl rfl rfl (t_mo_keyOf__p hH (Xj S 994 ((0 : Int).toNat)) (Xj_rg) _) ?_
          rintro _ _ ⟨rfl, z173, rfl, w173, f44⟩
          show Pl _ _ _ _ _ _ [iv z173] _ _
          have x44 : z173 = ikR S 0 := by unfold ikR kyr; exact f44
          refine y_bipush rfl rfl ?_
          refine y_icmp_ne rfl rfl (by unfold rg; omega) (by unfold rg; omega) (fun w174 => ?_) (fun w175 => ?_)
          · refine y_iconst rfl ?_
            refine y_istore_n rfl rfl rfl ?_
            exact Pl_weak (C86 (v1) (0) (by omega) (by omega) (by omega) (by omega) (o30) (by first | exact Hid.i ⟨fun _ => ⟨by omega, by omega, by omega, by omega, by rw [← o30]; omega⟩, fun q => absurd q (by omega)⟩ | exact Hid.i ⟨fun q => absurd q (by omega), fun _ w => by obtain ⟨w1, w2, w3, w4, w5⟩ := w; rw [← o30] at w3 w4 w5; omega⟩)) (by omega) (And.intro rfl (And.intro rfl (And.intro rfl (True.intro))))
          · refine y_iload_n rfl rfl ?_
            refine y_iconst rfl ?_
            refine y_icmp_le rfl rfl (by unfold rg; omega) (by unfold rg; omega) (fun w176 => ?_) (fun w177 => ?_)
            · refine y_iconst rfl ?_
              refine y_istore_n rfl rfl rfl ?_
              exact Pl_weak (C86 (v1) (0) (by omega) (by omega) (by omega) (by omega) (o30) (by first | exact Hid.i ⟨fun _ => ⟨by omega, by omega, by omega, by omega, by rw [← o30]; omega⟩, fun q => absurd q (by omega)⟩ | exact Hid.i ⟨fun q => absurd q (by omega), fun _ w => by obtain ⟨w1, w2, w3, w4, w5⟩ := w; rw [← o30] at w3 w4 w5; omega⟩)) (by omega) (And.intro rfl (And.intro rfl (And.intro rfl (True.intro))))
            · refine y_iload_n rfl rfl ?_
              refine y_aload_n rfl rfl ?_
              refine y_gfi rfl rfl rfl rfl rfl ?_
              refine y_icmp_ge rfl rfl (by unfold rg; omega) (by unfold rg; omega) (fun w178 => ?_) (fun w179 => ?_)
              · refine y_iconst rfl ?_
                refine y_istore_n rfl rfl rfl ?_
                exact Pl_weak (C86 (v1) (0) (by omega) (by omega) (by omega) (by omega) (o30) (by first | exact Hid.i ⟨fun _ => ⟨by omega, by omega, by omega, by omega, by rw [← o30]; omega⟩, fun q => absurd q (by omega)⟩ | exact Hid.i ⟨fun q => absurd q (by omega), fun _ w => by obtain ⟨w1, w2, w3, w4, w5⟩ := w; rw [← o30] at w3 w4 w5; omega⟩)) (by omega) (And.intro rfl (And.intro rfl (And.intro rfl (True.intro))))
              · refine y_aload_n rfl rfl ?_
                refine y_aload_n rfl rfl ?_
                refine y_gfr rfl rfl rfl rfl rfl (hH.r 904 159 994 rfl) ?_
                refine y_iload_n rfl rfl ?_
                refine y_laloadP (n := 64) rfl rfl (by unfold rg; omega) (fun w180 w181 => ?_)
                have w182 : -9223372036854775808 ≤ (Xj S 994 ((v1).toNat)) ∧ (Xj S 994 ((v1).toNat)) < 9223372036854775808 := Xj_rg
                refine y_callV rfl rfl rfl (t_mo_keyOf__p hH (Xj S 994 ((v1).toNat)) (Xj_rg) _) ?_
                rintro _ _ ⟨rfl, z183, rfl, w183, f72⟩
                show Pl _ _ _ _ _ _ [iv z183] _ _
                have x72 : z183 = ikR S v1 := by unfold ikR kyr; exact f72
                refine y_bipush rfl rfl ?_
                refine y_icmp_ne rfl rfl (by unfold rg; omega) (by unfold rg; omega) (fun w184 => ?_) (fun w185 => ?_)
                · refine y_iconst rfl ?_
                  refine y_istore_n rfl rfl rfl ?_
                  exact Pl_weak (C86 (v1) (0) (by omega) (by omega) (by omega) (by omega) (o30) (by first | exact Hid.i ⟨fun _ => ⟨by omega, by omega, by omega, by omega, by rw [← o30]; omega⟩, fun q => absurd q (by omega)⟩ | exact Hid.i ⟨fun q => absurd q (by omega), fun _ w => by obtain ⟨w1, w2, w3, w4, w5⟩ := w; rw [← o30] at w3 w4 w5; omega⟩)) (by omega) (And.intro rfl (And.intro rfl (And.intro rfl (True.intro))))
                · refine y_iconst rfl ?_
                  refine y_goto rfl rfl ?_
                  refine y_istore_n rfl rfl rfl ?_
                  exact Pl_weak (C86 (v1) (1) (by omega) (by omega) (by omega) (by omega) (o30) (by first | exact Hid.i ⟨fun _ => ⟨by omega, by omega, by omega, by omega, by rw [← o30]; omega⟩, fun q => absurd q (by omega)⟩ | exact Hid.i ⟨fun q => absurd q (by omega), fun _ w => by obtain ⟨w1, w2, w3, w4, w5⟩ := w; rw [← o30] at w3 w4 w5; omega⟩)) (by omega) (And.intro rfl (And.intro rfl (And.intro rfl (True.intro))))
      · refine y_aload_n rfl rfl ?_
        refine y_aload_n rfl rfl ?_
        refine y_gfr rfl rfl rfl rfl rfl (hH.r 904 159 994 rfl) ?_
        refine y_iload_n rfl rfl ?_
        refine y_laloadP (n := 64) rfl rfl (by unfold rg; omega) (fun w186 w187 => ?_)
        have w188 : -9223372036854775808 ≤ (Xj S 994 ((v1).toNat)) ∧ (Xj S 994 ((v1).toNat)) < 9223372036854775808 := Xj_rg
        refine y_callV rfl rfl rfl (t_mo_keyOf__p hH (Xj S 994 ((v1).toNat)) (Xj_rg) _) ?_
        rintro _ _ ⟨rfl, z189, rfl, w189, f17⟩
        show Pl _ _ _ _ _ _ [iv z189] _ _
        have x17 : z189 = ikR S v1 := by unfold ikR kyr; exact f17
        refine y_iconst rfl ?_
        refine y_icmp_ne rfl rfl (by unfold rg; omega) (by unfold rg; omega) (fun w190 => ?_) (fun w191 => ?_)
        · refine y_aload_n rfl rfl ?_
          have o30 : v1 = ofR S := by rw [o2]; exact (ofF_e (by first | omega | (have t := x17; intro q; have := q.2; omega))).symm
          refine y_gfi rfl rfl rfl rfl rfl ?_
          refine y_if_le rfl rfl (by unfold rg; omega) (fun w192 => ?_) (fun w193 => ?_)
          · refine y_iconst rfl ?_
            refine y_istore_n rfl rfl rfl ?_
            exact Pl_weak (C86 (v1) (0) (by omega) (by omega) (by omega) (by omega) (o30) (by first | exact Hid.i ⟨fun _ => ⟨by omega, by omega, by omega, by omega, by rw [← o30]; omega⟩, fun q => absurd q (by omega)⟩ | exact Hid.i ⟨fun q => absurd q (by omega), fun _ w => by obtain ⟨w1, w2, w3, w4, w5⟩ := w; rw [← o30] at w3 w4 w5; omega⟩)) (by omega) (And.intro rfl (And.intro rfl (And.intro rfl (True.intro))))
          · refine y_aload_n rfl rfl ?_
            refine y_aload_n rfl rfl ?_
            refine y_gfr rfl rfl rfl rfl rfl (hH.r 904 159 994 rfl) ?_
            refine y_iconst rfl ?_
            refine y_laloadP (n := 64) rfl rfl (by unfold rg; omega) (fun w194 w195 => ?_)
            have w196 : -9223372036854775808 ≤ (Xj S 994 ((0 : Int).toNat)) ∧ (Xj S 994 ((0 : Int).toNat)) < 9223372036854775808 := Xj_rg
            refine y_callV rfl rfl rfl (t_mo_keyOf__p hH (Xj S 994 ((0 : Int).toNat)) (Xj_rg) _) ?_
            rintro _ _ ⟨rfl, z197, rfl, w197, f44⟩
            show Pl _ _ _ _ _ _ [iv z197] _ _
            have x44 : z197 = ikR S 0 := by unfold ikR kyr; exact f44
            refine y_bipush rfl rfl ?_
            refine y_icmp_ne rfl rfl (by unfold rg; omega) (by unfold rg; omega) (fun w198 => ?_) (fun w199 => ?_)
            · refine y_iconst rfl ?_
              refine y_istore_n rfl rfl rfl ?_
              exact Pl_weak (C86 (v1) (0) (by omega) (by omega) (by omega) (by omega) (o30) (by first | exact Hid.i ⟨fun _ => ⟨by omega, by omega, by omega, by omega, by rw [← o30]; omega⟩, fun q => absurd q (by omega)⟩ | exact Hid.i ⟨fun q => absurd q (by omega), fun _ w => by obtain ⟨w1, w2, w3, w4, w5⟩ := w; rw [← o30] at w3 w4 w5; omega⟩)) (by omega) (And.intro rfl (And.intro rfl (And.intro rfl (True.intro))))
            · refine y_iload_n rfl rfl ?_
              refine y_iconst rfl ?_
              refine y_icmp_le rfl rfl (by unfold rg; omega) (by unfold rg; omega) (fun w200 => ?_) (fun w201 => ?_)
              · refine y_iconst rfl ?_
                refine y_istore_n rfl rfl rfl ?_
                exact Pl_weak (C86 (v1) (0) (by omega) (by omega) (by omega) (by omega) (o30) (by first | exact Hid.i ⟨fun _ => ⟨by omega, by omega, by omega, by omega, by rw [← o30]; omega⟩, fun q => absurd q (by omega)⟩ | exact Hid.i ⟨fun q => absurd q (by omega), fun _ w => by obtain ⟨w1, w2, w3, w4, w5⟩ := w; rw [← o30] at w3 w4 w5; omega⟩)) (by omega) (And.intro rfl (And.intro rfl (And.intro rfl (True.intro))))
              · refine y_iload_n rfl rfl ?_
                refine y_aload_n rfl rfl ?_
                refine y_gfi rfl rfl rfl rfl rfl ?_
                refine y_icmp_ge rfl rfl (by unfold rg; omega) (by unfold rg; omega) (fun w202 => ?_) (fun w203 => ?_)
                · refine y_iconst rfl ?_
                  refine y_istore_n rfl rfl rfl ?_
                  exact Pl_weak (C86 (v1) (0) (by omega) (by omega) (by omega) (by omega) (o30) (by first | exact Hid.i ⟨fun _ => ⟨by omega, by omega, by omega, by omega, by rw [← o30]; omega⟩, fun q => absurd q (by omega)⟩ | exact Hid.i ⟨fun q => absurd q (by omega), fun _ w => by obtain ⟨w1, w2, w3, w4, w5⟩ := w; rw [← o30] at w3 w4 w5; omega⟩)) (by omega) (And.intro rfl (And.intro rfl (And.intro rfl (True.intro))))
                · refine y_aload_n rfl rfl ?_
                  refine y_aload_n rfl rfl ?_
                  refine y_gfr rfl rfl rfl rfl rfl (hH.r 904 159 994 rfl) ?_
                  refine y_iload_n rfl rfl ?_
                  refine y_laloadP (n := 64) rfl rfl (by unfold rg; omega) (fun w204 w205 => ?_)
                  have w206 : -9223372036854775808 ≤ (Xj S 994 ((v1).toNat)) ∧ (Xj S 994 ((v1).toNat)) < 9223372036854775808 := Xj_rg
                  refine y_callV rfl rfl rfl (t_mo_keyOf__p hH (Xj S 994 ((v1).toNat)) (Xj_rg) _) ?_
                  rintro _ _ ⟨rfl, z207, rfl, w207, f72⟩
                  show Pl _ _ _ _ _ _ [iv z207] _ _
                  have x72 : z207 = ikR S v1 := by unfold ikR kyr; exact f72
                  refine y_bipush rfl rfl ?_
                  refine y_icmp_ne rfl rfl (by unfold rg; omega) (by unfold rg; omega) (fun w208 => ?_) (fun w209 => ?_)
                  · refine y_iconst rfl ?_
                    refine y_istore_n rfl rfl rfl ?_
                    exact Pl_weak (C86 (v1) (0) (by omega) (by omega) (by omega) (by omega) (o30) (by first | exact Hid.i ⟨fun _ => ⟨by omega, by omega, by omega, by omega, by rw [← o30]; omega⟩, fun q => absurd q (by omega)⟩ | exact Hid.i ⟨fun q => absurd q (by omega), fun _ w => by obtain ⟨w1, w2, w3, w4, w5⟩ := w; rw [← o30] at w3 w4 w5; omega⟩)) (by omega) (And.intro rfl (And.intro rfl (And.intro rfl (True.intro))))
                  · refine y_iconst rfl ?_
                    refine y_goto rfl rfl ?_
                    refine y_istore_n rfl rfl rfl ?_
                    exact Pl_weak (C86 (v1) (1) (by omega) (by omega) (by omega) (by omega) (o30) (by first | exact Hid.i ⟨fun _ => ⟨by omega, by omega, by omega, by omega, by rw [← o30]; omega⟩, fun q => absurd q (by omega)⟩ | exact Hid.i ⟨fun q => absurd q (by omega), fun _ w => by obtain ⟨w1, w2, w3, w4, w5⟩ := w; rw [← o30] at w3 w4 w5; omega⟩)) (by omega) (And.intro rfl (And.intro rfl (And.intro rfl (True.intro))))
        · refine y_iinc rfl rfl rfl rfl ?_
          refine y_goto rfl rfl ?_
          exact Pl_weak (ih2 (by omega) ((v1 + 1)) (by omega) (by omega) (by first | rfl | exact o2.trans (ofF_s (by omega) (by omega) (by omega) (by omega)))) (by omega) (And.intro rfl (And.intro rfl (True.intro)))
  refine y_iconst rfl ?_
  refine y_istore_n rfl rfl rfl ?_
  exact Pl_weak (C2 fu (by omega) (1) (by omega) (by omega) (by first | rfl | exact o2.trans (ofF_s (by omega) (by omega) (by omega) (by omega)))) (by omega) (And.intro rfl (And.intro rfl (True.intro)))
end
section
/-! rules of the reference: what a text says -/
def RCH (S : sS) (e : Int) : List (Int × Int) → sS → Prop
  | [], T => T = S
  | (o, q) :: L, T => ∃ W : sS, RCH S e L W ∧ FR md_mo_words__p W T ∧ RWO W T (o + 1) e (q + 1) ∧ sIOK T
def RWS (S S1 : sS) (f n z : Int) : Prop := (z = 1 → ∃ L : List (Int × Int), brF (Xi S 906) f n.toNat = some (-1, L) ∧ RCH S (f + n) L S1) ∧
  (z = 0 → brF (Xi S 906) f n.toNat = none ∨ ∃ (p : Int) (L : List (Int × Int)) (W W1 : sS), f ≤ p ∧ p < f + n ∧ brF (Xi S 906) f (p - f).toNat = some (-1, L) ∧ RCH S (f + n) L W ∧ Xi S 906 p.toNat = 91 ∧ FR md_mo_words__p W W1 ∧ (RWO W W1 (p + 1) (f + n) (-1) ∨ ∃ q : Int, RWO W W1 (p + 1) (f + n) (q + 1) ∧ q + 1 ≠ -1 ∧ ¬ sIOK W1))
theorem br_run {B : Nat → Int} {f o p : Int} {L : List (Int × Int)} (h : brF B f (p - f).toNat = some (o, L)) (hp : f ≤ p) : ∀ (d : Nat), (∀ i : Int, p ≤ i → i < p + d → B i.toNat ≠ 91 ∧ B i.toNat ≠ 93) → brF B f (p + d - f).toNat = some (o, L)
  | 0, _ => by rw [show p + ((0 : Nat) : Int) - f = p - f by omega]; exact h
  | d + 1, k => by
    have u := br_run h hp d (fun i a b => k i a (by omega))
    have w := k (p + d) (by omega) (by omega)
    have t := br_k u (by omega) w.1 w.2
    rw [show p + ((d + 1 : Nat) : Int) - f = p + d + 1 - f by omega]
    exact t
theorem we7_lt {B : Nat → Int} {e : Int} {s i : Int} (h1 : s ≤ i) (h2 : i < we7 B e s) : lt7 (B i.toNat) > 0 := by
  have key : ∀ (d : Nat) (s : Int), (i - s).toNat = d → s ≤ i → i < we7 B e s → lt7 (B i.toNat) > 0 := by
    intro d
    induction d with
    | zero =>
      intro s hd a b
      have es : s = i := by omega
      subst es
      by_cases q : s < e
      · by_cases w : lt7 (B s.toNat) > 0
        · exact w
        · have := we7_n (B := B) (e := e) (p := s) (by have := lt7_r (B s.toNat); omega); omega
      · have := we7_e (B := B) (e := e) (p := s) (by omega); omega
    | succ d ih =>
      intro s hd a b
      by_cases q : s < e
      · by_cases w : lt7 (B s.toNat) > 0
        · have u := we7_s (B := B) (e := e) (p := s) q (by omega)
          exact ih (s + 1) (by omega) (by omega) (by omega)
        · have := we7_n (B := B) (e := e) (p := s) (by have := lt7_r (B s.toNat); omega); omega
      · have := we7_e (B := B) (e := e) (p := s) (by omega); omega
  exact key _ s rfl h1 h2
theorem wl_nb {B : Nat → Int} {e : Int} : ∀ (L : List (Int × Int)) {a p : Int}, WLp B e a L p → ∀ i : Int, a ≤ i → i < p → B i.toNat ≠ 91 ∧ B i.toNat ≠ 93
  | [], a, p, h, i, x, y => by rw [h.2.2 i x y]; exact ⟨by decide, by decide⟩
  | (s, t) :: L, a, p, h, i, x, y => by
    obtain ⟨h1, h2, h3, h4, h5, h6⟩ := h
    by_cases q : i < s
    · rw [h1.2.2 i x q]; exact ⟨by decide, by decide⟩
    · by_cases w : i < t
      · have u := we7_lt (B := B) (e := e) (s := s) (i := i) (by omega) (by omega)
        refine ⟨fun c => ?_, fun c => ?_⟩ <;> (rw [c] at u; exact absurd u (by decide))
      · exact wl_nb L h6 i (by omega) y
theorem wl_ap {B : Nat → Int} {e : Int} : ∀ (L : List (Int × Int)) {a p : Int}, WLp B e a L p → a ≤ p
  | [], a, p, h => h.1
  | (s, t) :: L, a, p, h => by
    obtain ⟨h1, h2, h3, h4, h5, h6⟩ := h
    have := wl_ap L h6
    have := we7_b (B := B) (e := e) (p := s)
    omega
theorem br_in {B : Nat → Int} {f p q e : Int} {L L2 : List (Int × Int)} (h : brF B f (p - f).toNat = some (-1, L)) (hp : f ≤ p) (h1 : B p.toNat = 91) (w : WLp B e (p + 1) L2 q) (h0 : 0 ≤ p) (h2 : B q.toNat = 93) : brF B f (q + 1 - f).toNat = some (-1, (p, q) :: L) := by
  have a := br_o h hp rfl h1
  have l := wl_ap L2 w
  have b := br_run (p := p + 1) a (by omega) (q - (p + 1)).toNat (fun i x y => wl_nb L2 w i x (by omega))
  rw [show p + 1 + ((q - (p + 1)).toNat : Int) - f = q - f by omega] at b
  exact brk_c b (by omega) (by omega) h2
def RWV (S T : sS) (f n p : Int) : Prop := ∃ L : List (Int × Int), brF (Xi S 906) f (p - f).toNat = some (-1, L) ∧ RCH S (f + n) L T
theorem rwv_0 {S : sS} {f n : Int} : RWV S S f n f := ⟨[], by rw [show (f - f).toNat = 0 by omega]; rfl, rfl⟩
theorem rwv_k {S T : sS} {f n p : Int} (h : RWV S T f n p) (hp : f ≤ p) (h1 : Xi S 906 p.toNat ≠ 91) (h2 : Xi S 906 p.toNat ≠ 93) : RWV S T f n (p + 1) := by
  obtain ⟨L, a, b⟩ := h
  exact ⟨L, br_k a hp h1 h2, b⟩
theorem rwv_i {S W T : sS} {f n p z : Int} (h : RWV S W f n p) (h0 : 0 ≤ p) (hp : f ≤ p) (h1 : Xi S 906 p.toNat = 91) (b6 : Xi W 906 = Xi S 906) (fr : FR md_mo_words__p W T) (o : RWO W T (p + 1) (f + n) z) (hz : z ≠ -1) (k : sIOK T) : RWV S T f n z := by
  obtain ⟨L, a, b⟩ := h
  obtain ⟨L2, w, _, q, _⟩ := o.2 hz
  rw [b6] at w q
  have e := br_in a hp h1 w h0 q
  rw [show z - 1 + 1 - f = z - f by omega] at e
  exact ⟨(p, z - 1) :: L, e, W, b, fr, by rw [show z - 1 + 1 = z by omega]; exact o, k⟩
theorem rws_y {S T : sS} {f n p z : Int} (h : RWV S T f n p) (hp : p = f + n) (hz : z = 1) : RWS S T f n z := by
  obtain ⟨L, a, b⟩ := h
  rw [hp, show f + n - f = n by omega] at a
  exact ⟨fun _ => ⟨L, a, b⟩, fun q => absurd hz (by omega)⟩
theorem rws_c {S T : sS} {f n p z : Int} (h : RWV S T f n p) (hp : f ≤ p) (hq : p < f + n) (hb : Xi S 906 p.toNat = 93) (hz : z = 0) : RWS S T f n z := by
  obtain ⟨L, a, b⟩ := h
  exact ⟨fun q => absurd hz (by omega), fun _ => Or.inl (br_x a hp (by omega) (Or.inr ⟨hb, rfl⟩))⟩
theorem rws_w {S W T : sS} {f n p z w : Int} (h : RWV S W f n p) (hp : f ≤ p) (hq : p < f + n) (hb : Xi S 906 p.toNat = 91) (fr : FR md_mo_words__p W T) (o : RWO W T (p + 1) (f + n) w) (hw : w = -1) (hz : z = 0) : RWS S T f n z := by
  obtain ⟨L, a, b⟩ := h
  subst hw
  exact ⟨fun q => absurd hz (by omega), fun _ => Or.inr ⟨p, L, W, T, hp, hq, a, b, hb, fr, Or.inl o⟩⟩
theorem rws_s {S W T : sS} {f n p z w : Int} (h : RWV S W f n p) (hp : f ≤ p) (hq : p < f + n) (hb : Xi S 906 p.toNat = 91) (fr : FR md_mo_words__p W T) (o : RWO W T (p + 1) (f + n) w) (hw : w ≠ -1) (k : ¬ sIOK T) (hz : z = 0) : RWS S T f n z := by
  obtain ⟨L, a, b⟩ := h
  exact ⟨fun q => absurd hz (by omega), fun _ => Or.inr ⟨p, L, W, T, hp, hq, a, b, hb, fr, Or.inr ⟨w - 1, by rw [show w - 1 + 1 = w by omega]; exact o, by omega, k⟩⟩⟩

def md_mo_put__d : List rec := [(1000, 1001, 0, 1)]
abbrev Q_mo_put__d (S : sS) (c : Int) : pst := fun r S1 => RI S1 ∧ FR md_mo_put__d S S1 ∧ (r = none ∧ (S1 = S))
set_option maxRecDepth 100000 in
theorem t_mo_put__d {S : sS} (hH : RI S) (c : Int) (hc : -2147483648 ≤ c ∧ c ≤ 2147483647) (hdr : Xi S 904 157 = 1) (d : Nat) : Mp lay0 (d + 1) m_mo_put [.ref 904, iv c] S (Q_mo_put__d S c) := by
  refine Mp_R rfl rfl (fun fu => ?_)
  have hF : FR md_mo_put__d S S := FR.rf
  have w1 : -2147483648 ≤ Xi S 904 157 ∧ Xi S 904 157 ≤ 2147483647 := Xi_rgI
  refine y_aload_n rfl rfl ?_
  refine y_gfi rfl rfl rfl rfl rfl ?_
  have w2 : -2147483648 ≤ (Xi S 904 156) ∧ (Xi S 904 156) ≤ 2147483647 := Xi_rgI
  refine y_sipush rfl rfl ?_
  refine y_icmp_ge rfl rfl (by unfold rg; omega) (by unfold rg; omega) (fun w3 => ?_) (fun w4 => ?_)
  · refine y_return rfl rfl ?_
    exact ⟨hH, hF, rfl, (rfl)⟩
  · refine y_aload_n rfl rfl ?_
    refine y_gfi rfl rfl rfl rfl rfl ?_
    refine y_if_ne rfl rfl (by unfold rg; omega) (fun w5 => ?_) (fun w6 => ?_)
    · refine y_return rfl rfl ?_
      exact ⟨hH, hF, rfl, (rfl)⟩
    · exfalso; omega
def md_mo_written__d : List rec := [(904, 905, 160, 161), (994, 995, 0, 100000), (1000, 1001, 0, 1)]
abbrev Q_mo_written__d (S : sS) (from_ : Int) (n : Int) : pst := fun r S1 => RI S1 ∧ FR md_mo_written__d S S1 ∧ (∃ z : Int, r = some (iv z) ∧ (0 ≤ z ∧ z ≤ 1) ∧ (RWS S S1 from_ n z))
set_option maxRecDepth 100000 in
theorem t_mo_written__d {S : sS} (hH : RI S) (from_ : Int) (n : Int) (hfrom_ : 0 ≤ from_ ∧ from_ ≤ 5000) (hn : 0 ≤ n ∧ n ≤ 5000) (hA : from_ + n ≤ 5000) (hb6 : BYT S 906) (hLS : LSP S) (h15 : 0 ≤ Xi S 904 15) (hB : ABV S) (hkx : Hid (∀ j : Nat, -1 ≤ Xi S 918 j ∧ Xi S 918 j ≤ 15)) (hdr : Xi S 904 157 = 1) (hlx7 : Hid (∀ j : Nat, (j : Int) < Xi S 904 15 → Xi S 914 j = 7 → 0 ≤ Xi S 915 j ∧ Xi S 915 j ≤ 11)) (hit : (-1 ≤ Xi S 904 115 ∧ Xi S 904 115 ≤ 15) ∧ (-1 ≤ Xi S 904 116 ∧ Xi S 904 116 ≤ 15)) (d : Nat) : Mp lay0 (d + 6) m_mo_written [.ref 904, iv from_, iv n] S (Q_mo_written__d S from_ n) := by
  refine Mp_R rfl rfl (fun fu => ?_)
  have hF : FR md_mo_written__d S S := FR.rf
  have w1 : -2147483648 ≤ Xi S 904 115 ∧ Xi S 904 115 ≤ 2147483647 := Xi_rgI
  have w2 : -2147483648 ≤ Xi S 904 116 ∧ Xi S 904 116 ≤ 2147483647 := Xi_rgI
  have w3 : -2147483648 ≤ Xi S 904 15 ∧ Xi S 904 15 ≤ 2147483647 := Xi_rgI
  have w4 : -2147483648 ≤ Xi S 904 157 ∧ Xi S 904 157 ≤ 2147483647 := Xi_rgI
  have w5 : -2147483648 ≤ Xi S 904 160 ∧ Xi S 904 160 ≤ 2147483647 := Xi_rgI
  have C7 : ∀ (n7 : Nat) (_ : n7 ≤ fu) (T1 : sS) (_ : RI T1) (_ : FR md_mo_written__d S T1) (v3 : Int) (v4 : Int), (0 ≤ v3 ∧ v3 ≤ 5000) → (0 ≤ v4 ∧ v4 ≤ 5000) → (from_ ≤ v3 ∧ v3 ≤ from_ + n) → (v4 = from_ + n) → (Hid (RWV S T1 from_ n v3)) → Pl n7 lay0 (d + 5) m_mo_written 7 [(0, .ref 904), (3, iv v3), (4, iv v4)] [] T1 (Q_mo_written__d S from_ n) := by
    intro n7
    induction n7 with
    | zero => intros; exact Pl_0
    | succ n7 ih7 =>
      intro hm7 T1 hHT1 hFT1 v3 v4 w6 w7 w8 w9 V7
      have w10 : Xi T1 904 115 = Xi S 904 115 := hFT1.x _ _ rfl
      have w11 : Xi T1 904 116 = Xi S 904 116 := hFT1.x _ _ rfl
      have w12 : Xi T1 904 15 = Xi S 904 15 := hFT1.x _ _ rfl
      have w13 : Xi T1 904 157 = Xi S 904 157 := hFT1.x _ _ rfl
      have w14 : Xi T1 904 158 = Xi S 904 158 := hFT1.x _ _ rfl
      have w15 : Xi T1 904 19 = Xi S 904 19 := hFT1.x _ _ rfl
      have w16 : -2147483648 ≤ Xi T1 904 115 ∧ Xi T1 904 115 ≤ 2147483647 := Xi_rgI
      have w17 : -2147483648 ≤ Xi T1 904 116 ∧ Xi T1 904 116 ≤ 2147483647 := Xi_rgI
      have w18 : -2147483648 ≤ Xi T1 904 157 ∧ Xi T1 904 157 ≤ 2147483647 := Xi_rgI
      have w19 : -2147483648 ≤ Xi T1 904 160 ∧ Xi T1 904 160 ≤ 2147483647 := Xi_rgI
      refine ys_iload_n rfl rfl ?_
      refine y_iload rfl rfl ?_
      refine y_icmp_ge rfl rfl (by unfold rg; omega) (by unfold rg; omega) (fun w20 => ?_) (fun w21 => ?_)
      · refine y_iconst rfl ?_
        refine y_ireturn rfl rfl ?_
        exact ⟨hHT1, hFT1, _, rfl, ⟨by omega, by omega⟩, (by first | (have u := K53; rw [s53]; exact rws_s V7.o (by omega) (by omega) (by omega) F43 (by rw [← e4_]; exact o43) (by omega) (o53.2 (by omega)) rfl) | (have u := K43; exact rws_w V7.o (by omega) (by omega) (by omega) F43 (by rw [← e4_]; exact o43) (by omega) rfl) | (have u := K24; exact rws_c V7.o (by omega) (by omega) (by omega) rfl) | exact rws_y V7.o (by omega) rfl)⟩
      · refine y_aload_n rfl rfl ?_
        refine y_gfr rfl rfl rfl rfl rfl (hHT1.r 904 2 906 rfl) ?_
        refine y_iload_n rfl rfl ?_
        refine y_baloadP (n := 5000) rfl rfl rfl (by decide) (by unfold rg; omega) (fun w22 w23 => ?_)
        have w24 : -2147483648 ≤ (Xi T1 906 ((v3).toNat)) ∧ (Xi T1 906 ((v3).toNat)) ≤ 2147483647 := Xi_rgI
        have y18 : Xi T1 906 (v3).toNat = Xi S 906 (v3).toNat := (hFT1.cx 906 rfl _).1
        have z18 := hb6 (v3).toNat
        refine y_bipush rfl rfl ?_
        refine y_icmp_ne rfl rfl (by unfold rg; omega) (by unfold rg; omega) (fun w25 => ?_) (fun w26 => ?_)
        · refine y_aload_n rfl rfl ?_
          refine y_gfr rfl rfl rfl rfl rfl (hHT1.r 904 2 906 rfl) ?_
          refine y_iload_n rfl rfl ?_
          refine y_baloadP (n := 5000) rfl rfl rfl (by decide) (by unfold rg; omega) (fun w27 w28 => ?_)
          have y31 : Xi T1 906 (v3).toNat = Xi S 906 (v3).toNat := (hFT1.cx 906 rfl _).1
          refine y_bipush rfl rfl ?_
          refine y_icmp_ne rfl rfl (by unfold rg; omega) (by unfold rg; omega) (fun w29 => ?_) (fun w30 => ?_)
          · refine y_aload_n rfl rfl ?_
            refine y_aload_n rfl rfl ?_
            refine y_gfr rfl rfl rfl rfl rfl (hHT1.r 904 2 906 rfl) ?_
            refine y_iload_n rfl rfl ?_
            refine y_baloadP (n := 5000) rfl rfl rfl (by decide) (by unfold rg; omega) (fun w31 w32 => ?_)
            have y67 : Xi T1 906 (v3).toNat = Xi S 906 (v3).toNat := (hFT1.cx 906 rfl _).1
            have z67 := hb6 (v3).toNat
            refine y_callV rfl rfl rfl (t_mo_put__d hHT1 (Xi T1 906 ((v3).toNat)) ⟨by omega, by omega⟩ (by first | assumption | omega) _) ?_
            rintro _ T2 ⟨hHT2, w34, rfl, s68⟩
            have hFT2 : FR md_mo_written__d S T2 := FR.tr hFT1 w34 rfl
            show Pl _ _ _ _ _ _ [] _ _
            refine y_iinc rfl rfl rfl rfl ?_
            have V71 : Hid (RWV S T2 from_ n (v3 + 1)) := by rw [s68]; exact rwv_k V7.o (by omega) (by omega) (by omega)
            refine y_goto rfl rfl ?_
            have w35 : Xi T2 904 115 = Xi T1 904 115 := (show Xi T2 904 115 = Xi T1 904 115 from w34.x _ _ rfl)
            have w36 : Xi T2 904 116 = Xi T1 904 116 := (show Xi T2 904 116 = Xi T1 904 116 from w34.x _ _ rfl)
            have w37 : Xi T2 904 157 = Xi T1 904 157 := (show Xi T2 904 157 = Xi T1 904 157 from w34.x _ _ rfl)
            have w38 : Xi T2 904 160 = Xi T1 904 160 := (show Xi T2 904 160 = Xi T1 904 160 from w34.x _ _ rfl)
            exact Pl_weak (ih7 (by omega) T2 hHT2 hFT2 ((v3 + 1)) (v4) (by omega) (by omega) (by omega) (by omega) (by first | exact V71 | (have u := K53; rw [s53]; exact rwv_i V7.o (by omega) (by omega) (by omega) b6_ F43 (by rw [← e4_]; exact o43) (by omega) (o53.1 (by omega))) | exact rwv_0)) (by omega) (And.intro rfl (And.intro rfl (And.intro rfl (True.intro))))
          · refine y_aload_n rfl rfl ?_
            refine y_iload_n rfl rfl ?_
            refine y_iconst rfl ?_
            refine y_iadd rfl ?_
            refine y_iload rfl rfl ?_
            refine y_callV rfl rfl rfl (t_mo_words__p hHT1 (v3 + 1) v4 ⟨by omega, by omega⟩ ⟨by omega, by omega⟩ (BYT_R hFT1 rfl hb6) (by first | assumption | omega) _) ?_
            rintro _ T3 ⟨hHT3, w40, z39, rfl, w39, o43, b43, i43⟩
            have hFT3 : FR md_mo_written__d S T3 := FR.tr hFT1 w40 rfl
            show Pl _ _ _ _ _ _ [iv z39] _ _
            have K43 : True := trivial
            have F43 := (by assumption : FR md_mo_words__p T1 T3)
            have e4_ : v4 = from_ + n := by omega
            have b6_ : Xi T1 906 = Xi S 906 := funext (fun j => (hFT1.cx 906 rfl j).1)
            refine y_istore_n rfl rfl rfl ?_
            refine y_iload_n rfl rfl ?_
            refine y_iconst rfl ?_
            refine y_icmp_eq rfl rfl (by unfold rg; omega) (by unfold rg; omega) (fun w41 => ?_) (fun w42 => ?_)
            · refine y_iconst rfl ?_
              refine y_ireturn rfl rfl ?_
              have w43 : Xi T3 904 115 = Xi T1 904 115 := (show Xi T3 904 115 = Xi T1 904 115 from w40.x _ _ rfl)
              have w44 : Xi T3 904 116 = Xi T1 904 116 := (show Xi T3 904 116 = Xi T1 904 116 from w40.x _ _ rfl)
              have w45 : Xi T3 904 157 = Xi T1 904 157 := (show Xi T3 904 157 = Xi T1 904 157 from w40.x _ _ rfl)
              exact ⟨hHT3, hFT3, _, rfl, ⟨by omega, by omega⟩, (by first | (have u := K53; rw [s53]; exact rws_s V7.o (by omega) (by omega) (by omega) F43 (by rw [← e4_]; exact o43) (by omega) (o53.2 (by omega)) rfl) | (have u := K43; exact rws_w V7.o (by omega) (by omega) (by omega) F43 (by rw [← e4_]; exact o43) (by omega) rfl) | (have u := K24; exact rws_c V7.o (by omega) (by omega) (by omega) rfl) | exact rws_y V7.o (by omega) rfl)⟩
            · refine y_aload_n rfl rfl ?_
              have w46 : Xi T3 904 115 = Xi T1 904 115 := (show Xi T3 904 115 = Xi T1 904 115 from w40.x _ _ rfl)
              have w47 : Xi T3 904 116 = Xi T1 904 116 := (show Xi T3 904 116 = Xi T1 904 116 from w40.x _ _ rfl)
              have w48 : Xi T3 904 15 = Xi T1 904 15 := (show Xi T3 904 15 = Xi T1 904 15 from w40.x _ _ rfl)
              have w49 : Xi T3 904 157 = Xi T1 904 157 := (show Xi T3 904 157 = Xi T1 904 157 from w40.x _ _ rfl)
              refine y_callV rfl rfl rfl (t_mo_saysInside__d hHT3 (by first | assumption | exact (LSP_FR hFT3 rfl rfl (by assumption : LSP S))) (by first | assumption | omega) (by first | assumption | exact (ABV_FR hFT3 rfl (by assumption : ABV S))) (fun j => by rw [(hFT3.cx 918 rfl _).1]; exact hkx.o j) (by first | assumption | omega) (by first | assumption | omega) (fun j => by rw [(hFT3.cx 914 rfl _).1, (hFT3.cx 915 rfl _).1, hFT3.x 904 15 rfl]; exact hlx7.o j) (by first | assumption | omega) _) ?_
              rintro _ T4 ⟨hHT4, w51, z50, rfl, w50, s53, o53⟩
              have hFT4 : FR md_mo_written__d S T4 := FR.tr hFT3 w51 rfl
              show Pl _ _ _ _ _ _ [iv z50] _ _
              have K53 : True := trivial
              refine y_if_ne rfl rfl (by unfold rg; omega) (fun w52 => ?_) (fun w53 => ?_)
              · have w54 : Xi T4 904 115 = Xi T1 904 115 := (show Xi T4 904 115 = Xi T3 904 115 from w51.x _ _ rfl).trans ((show Xi T3 904 115 = Xi T1 904 115 from w40.x _ _ rfl))
                have w55 : Xi T4 904 116 = Xi T1 904 116 := (show Xi T4 904 116 = Xi T3 904 116 from w51.x _ _ rfl).trans ((show Xi T3 904 116 = Xi T1 904 116 from w40.x _ _ rfl))
                have w56 : Xi T4 904 157 = Xi T1 904 157 := (show Xi T4 904 157 = Xi T3 904 157 from w51.x _ _ rfl).trans ((show Xi T3 904 157 = Xi T1 904 157 from w40.x _ _ rfl))
                have w57 : Xi T4 904 160 = Xi T3 904 160 := (show Xi T4 904 160 = Xi T3 904 160 from w51.x _ _ rfl)
                exact Pl_weak (ih7 (by omega) T4 hHT4 hFT4 (z39) (v4) (by omega) (by omega) (by omega) (by omega) (by first | exact V71 | (have u := K53; rw [s53]; exact rwv_i V7.o (by omega) (by omega) (by omega) b6_ F43 (by rw [← e4_]; exact o43) (by omega) (o53.1 (by omega))) | exact rwv_0)) (by omega) (And.intro rfl (And.intro rfl (And.intro rfl (True.intro))))
              · refine y_iconst rfl ?_
                refine y_ireturn rfl rfl ?_
                have w58 : Xi T4 904 115 = Xi T1 904 115 := (show Xi T4 904 115 = Xi T3 904 115 from w51.x _ _ rfl).trans ((show Xi T3 904 115 = Xi T1 904 115 from w40.x _ _ rfl))
                have w59 : Xi T4 904 116 = Xi T1 904 116 := (show Xi T4 904 116 = Xi T3 904 116 from w51.x _ _ rfl).trans ((show Xi T3 904 116 = Xi T1 904 116 from w40.x _ _ rfl))
                have w60 : Xi T4 904 157 = Xi T1 904 157 := (show Xi T4 904 157 = Xi T3 904 157 from w51.x _ _ rfl).trans ((show Xi T3 904 157 = Xi T1 904 157 from w40.x _ _ rfl))
                have w61 : Xi T4 904 160 = Xi T3 904 160 := (show Xi T4 904 160 = Xi T3 904 160 from w51.x _ _ rfl)
                exact ⟨hHT4, hFT4, _, rfl, ⟨by omega, by omega⟩, (by first | (have u := K53; rw [s53]; exact rws_s V7.o (by omega) (by omega) (by omega) F43 (by rw [← e4_]; exact o43) (by omega) (o53.2 (by omega)) rfl) | (have u := K43; exact rws_w V7.o (by omega) (by omega) (by omega) F43 (by rw [← e4_]; exact o43) (by omega) rfl) | (have u := K24; exact rws_c V7.o (by omega) (by omega) (by omega) rfl) | exact rws_y V7.o (by omega) rfl)⟩
        · refine y_iconst rfl ?_
          have K24 : True := trivial
          refine y_ireturn rfl rfl ?_
          exact ⟨hHT1, hFT1, _, rfl, ⟨by omega, by omega⟩, (by first | (have u := K53; rw [s53]; exact rws_s V7.o (by omega) (by omega) (by omega) F43 (by rw [← e4_]; exact o43) (by omega) (o53.2 (by omega)) rfl) | (have u := K43; exact rws_w V7.o (by omega) (by omega) (by omega) F43 (by rw [← e4_]; exact o43) (by omega) rfl) | (have u := K24; exact rws_c V7.o (by omega) (by omega) (by omega) rfl) | exact rws_y V7.o (by omega) rfl)⟩
  refine y_iload_n rfl rfl ?_
  refine y_istore_n rfl rfl rfl ?_
  refine y_iload_n rfl rfl ?_
  refine y_iload_n rfl rfl ?_
  refine y_iadd rfl ?_
  refine y_istore rfl rfl rfl ?_
  exact Pl_weak (C7 fu (by omega) S hH hF (from_) ((from_ + n)) (by omega) (by omega) (by omega) (by omega) (by first | exact V71 | (have u := K53; rw [s53]; exact rwv_i V7.o (by omega) (by omega) (by omega) b6_ F43 (by rw [← e4_]; exact o43) (by omega) (o53.1 (by omega))) | exact rwv_0)) (by omega) (And.intro rfl (And.intro rfl (And.intro rfl (True.intro))))
def SAYD (S S1 : sS) (f n noun z : Int) : Prop := ∃ B T : sS, B = uI (uI S 904 157 (Int32.ofInt 1)) 904 158 (Int32.ofInt noun) ∧ RWS B T f n z ∧ FR md_mo_written__d B T ∧ S1 = uI T 904 157 (Int32.ofInt 0)

def md_mo_says__d : List rec := [(904, 905, 157, 158), (904, 905, 158, 159), (904, 905, 160, 161), (994, 995, 0, 100000), (1000, 1001, 0, 1)]
abbrev Q_mo_says__d (S : sS) (from_ : Int) (n : Int) (noun : Int) : pst := fun r S1 => RI S1 ∧ FR md_mo_says__d S S1 ∧ (∃ z : Int, r = some (iv z) ∧ (0 ≤ z ∧ z ≤ 1) ∧ (SAYD S S1 from_ n noun z))
set_option maxRecDepth 100000 in
theorem t_mo_says__d {S : sS} (hH : RI S) (from_ : Int) (n : Int) (noun : Int) (hfrom_ : 0 ≤ from_ ∧ from_ ≤ 5000) (hn : 0 ≤ n ∧ n ≤ 5000) (hnoun : -1 ≤ noun ∧ noun ≤ 23) (hA : from_ + n ≤ 5000) (hb6 : BYT S 906) (hLS : LSP S) (h15 : 0 ≤ Xi S 904 15) (hB : ABV S) (hkx : Hid (∀ j : Nat, -1 ≤ Xi S 918 j ∧ Xi S 918 j ≤ 15)) (hlx7 : Hid (∀ j : Nat, (j : Int) < Xi S 904 15 → Xi S 914 j = 7 → 0 ≤ Xi S 915 j ∧ Xi S 915 j ≤ 11)) (hit : (-1 ≤ Xi S 904 115 ∧ Xi S 904 115 ≤ 15) ∧ (-1 ≤ Xi S 904 116 ∧ Xi S 904 116 ≤ 15)) (d : Nat) : Mp lay0 (d + 7) m_mo_says [.ref 904, iv from_, iv n, iv noun] S (Q_mo_says__d S from_ n noun) := by
  refine Mp_R rfl rfl (fun fu => ?_)
  have hF : FR md_mo_says__d S S := FR.rf
  have w1 : -2147483648 ≤ Xi S 904 115 ∧ Xi S 904 115 ≤ 2147483647 := Xi_rgI
  have w2 : -2147483648 ≤ Xi S 904 116 ∧ Xi S 904 116 ≤ 2147483647 := Xi_rgI
  have w3 : -2147483648 ≤ Xi S 904 15 ∧ Xi S 904 15 ≤ 2147483647 := Xi_rgI
  have w4 : -2147483648 ≤ Xi S 904 157 ∧ Xi S 904 157 ≤ 2147483647 := Xi_rgI
  have w5 : -2147483648 ≤ Xi S 904 158 ∧ Xi S 904 158 ≤ 2147483647 := Xi_rgI
  refine y_aload_n rfl rfl ?_
  refine y_iconst rfl ?_
  refine y_pfz rfl rfl rfl rfl (by omega) ?_
  obtain ⟨U1, eU1⟩ : ∃ T : sS, T = uI S 904 157 (Int32.ofInt 1) := ⟨_, rfl⟩
  rw [← eU1]
  have hHU1 : RI U1 := by rw [eU1]; exact RI_w hH
  have hFU1 : FR md_mo_says__d S U1 := by rw [eU1]; exact FR.wI hF (mdf_i (r := (904, 905, 157, 158)) (List.mem_of_getElem? (i := 0) rfl) (inR_i (by omega) (by omega) (by omega) (by omega)))
  have w6 : Xi U1 904 157 = 1 := by rw [eU1]; exact Xi_same (by unfold rg; omega)
  have e2 := eU1
  refine y_aload_n rfl rfl ?_
  refine y_iload_n rfl rfl ?_
  refine y_pfi rfl rfl rfl rfl ?_
  obtain ⟨U2, eU2⟩ : ∃ T : sS, T = uI U1 904 158 (Int32.ofInt noun) := ⟨_, rfl⟩
  rw [← eU2]
  have hHU2 : RI U2 := by rw [eU2]; exact RI_w hHU1
  have hFU2 : FR md_mo_says__d S U2 := by rw [eU2]; exact FR.wI hFU1 (mdf_i (r := (904, 905, 158, 159)) (List.mem_of_getElem? (i := 1) rfl) (inR_i (by omega) (by omega) (by omega) (by omega)))
  have w7 : Xi U2 904 158 = noun := by rw [eU2]; exact Xi_same (by unfold rg; omega)
  have e7 := eU2
  refine y_aload_n rfl rfl ?_
  refine y_iload_n rfl rfl ?_
  refine y_iload_n rfl rfl ?_
  have w8 : Xi U2 904 115 = Xi S 904 115 := (show Xi U2 904 115 = Xi U1 904 115 from by rw [eU2]; exact Xi_ne (by omega)).trans ((show Xi U1 904 115 = Xi S 904 115 from by rw [eU1]; exact Xi_ne (by omega)))
  have w9 : Xi U2 904 116 = Xi S 904 116 := (show Xi U2 904 116 = Xi U1 904 116 from by rw [eU2]; exact Xi_ne (by omega)).trans ((show Xi U1 904 116 = Xi S 904 116 from by rw [eU1]; exact Xi_ne (by omega)))
  have w10 : Xi U2 904 15 = Xi S 904 15 := (show Xi U2 904 15 = Xi U1 904 15 from by rw [eU2]; exact Xi_ne (by omega)).trans ((show Xi U1 904 15 = Xi S 904 15 from by rw [eU1]; exact Xi_ne (by omega)))
  have w11 : Xi U2 904 157 = Xi U1 904 157 := (show Xi U2 904 157 = Xi U1 904 157 from by rw [eU2]; exact Xi_ne (by omega))
  refine y_callV rfl rfl rfl (t_mo_written__d hHU2 from_ n ⟨by omega, by omega⟩ ⟨by omega, by omega⟩ (by first | assumption | omega) (BYT_R hFU2 rfl hb6) (by first | assumption | exact (LSP_FR hFU2 rfl rfl (by assumption : LSP S))) (by first | assumption | omega) (by first | assumption | exact (ABV_FR hFU2 rfl (by assumption : ABV S))) (fun j => by rw [(hFU2.cx 918 rfl _).1]; exact hkx.o j) (by first | assumption | omega) (fun j => by rw [(hFU2.cx 914 rfl _).1, (hFU2.cx 915 rfl _).1, hFU2.x 904 15 rfl]; exact hlx7.o j) (by first | assumption | omega) _) ?_
  rintro _ T3 ⟨hHT3, w13, z12, rfl, w12, o13⟩
  have hFT3 : FR md_mo_says__d S T3 := FR.tr hFU2 w13 rfl
  show Pl _ _ _ _ _ _ [iv z12] _ _
  have F13 := (by assumption : FR md_mo_written__d U2 T3)
  refine y_istore rfl rfl rfl ?_
  refine y_aload_n rfl rfl ?_
  refine y_iconst rfl ?_
  refine y_pfz rfl rfl rfl rfl (by omega) ?_
  obtain ⟨U4, eU4⟩ : ∃ T : sS, T = uI T3 904 157 (Int32.ofInt 0) := ⟨_, rfl⟩
  rw [← eU4]
  have hHU4 : RI U4 := by rw [eU4]; exact RI_w hHT3
  have hFU4 : FR md_mo_says__d S U4 := by rw [eU4]; exact FR.wI hFT3 (mdf_i (r := (904, 905, 157, 158)) (List.mem_of_getElem? (i := 0) rfl) (inR_i (by omega) (by omega) (by omega) (by omega)))
  have w14 : Xi U4 904 157 = 0 := by rw [eU4]; exact Xi_same (by unfold rg; omega)
  have e20 := eU4
  refine y_iload rfl rfl ?_
  refine y_ireturn rfl (retI_z (by omega)) ?_
  exact ⟨hHU4, hFU4, _, rfl, ⟨by omega, by omega⟩, (⟨_, _, by rw [← e2]; exact e7, o13, F13, e20⟩)⟩
end
