section
/-! COMMANDS: the words that are typed (reference) -/
def sdW (S : sS) (x : Int × Int) : Int := c32 (Xi S 905) x.1.toNat (x.2 - x.1).toNat
def ISC (S T : sS) (to p : Int) : Prop := ∃ L : List (Int × Int), WLp (Xi S 905) to 0 L p ∧ L.length ≤ 50 ∧ Xi T 904 164 = L.length ∧ ∀ i : Nat, i < L.length → Xj T 995 i = sdW S (L.getD i (0, 0))
def ISO7 (S S1 : sS) (n z : Int) : Prop := (z = 1 → ISC S S1 n n) ∧ (z = 0 → ∃ (L : List (Int × Int)) (p : Int), WLp (Xi S 905) n 0 L p ∧ p < n ∧ Xi S 905 p.toNat ≠ 32 ∧ (we7 (Xi S 905) n p = p ∨ 12 < we7 (Xi S 905) n p - p ∨ L.length = 50))
theorem isc_0 {S T : sS} {to : Int} (h : 0 ≤ to) (e : T = uI S 904 164 (Int32.ofInt 0)) : ISC S T to 0 := ⟨[], ⟨Int.le_refl _, h, fun q x y => absurd x (by omega)⟩, by decide, by rw [e]; exact Xi_same ⟨by decide, by decide⟩, fun i hi => absurd hi (Nat.not_lt_zero _)⟩
theorem isc_b {S T : sS} {to p : Int} (h : ISC S T to p) (hp : p < to) (hb : Xi S 905 p.toNat = 32) : ISC S T to (p + 1) := by
  obtain ⟨L, h1, h2⟩ := h
  exact ⟨L, wl_b L h1 hp hb, h2⟩
theorem isc_w {S T P U : sS} {to p e w : Int} (h : ISC S T to p) (hp : p < to) (hb : Xi S 905 p.toNat ≠ 32) (he : e = we7 (Xi S 905) to p) (hn : e ≠ p) (h12 : e - p ≤ 12) (ht : e ≤ to) (h50 : Xi T 904 164 ≠ 50) (hw : w = c32 (Xi S 905) p.toNat (e - p).toNat) (hr : rgL w) (e1 : P = uJ T 995 (Xi T 904 164).toNat (Int64.ofInt w)) (e2 : U = uI P 904 164 (Int32.ofInt (Xi T 904 164 + 1))) : ISC S U to e := by
  obtain ⟨L, h1, h2, h3, h4⟩ := h
  refine ⟨L ++ [(p, e)], wl_w L h1 hp hb he hn h12 ht, by rw [List.length_append]; simp; omega, by rw [e2, Xi_same ⟨by omega, by omega⟩, h3]; simp, fun i hl => ?_⟩
  by_cases c : i < L.length
  · have g : (L ++ [(p, e)]).getD i (0, 0) = L.getD i (0, 0) := by simp [List.getD_eq_getElem?_getD, List.getElem?_append_left c]
    rw [g, e2, Xj_I, e1, Xj_ne (by omega)]
    exact h4 i c
  · have z1 : i = L.length := by simp at hl; omega
    have z2 : (L ++ [(p, e)]).getD i (0, 0) = (p, e) := by rw [z1]; simp
    rw [z2, e2, Xj_I, e1, show (Xi T 904 164).toNat = i by omega, Xj_same hr]
    exact hw
theorem iso_y {S T : sS} {n p z : Int} (h : ISC S T n p) (hp : p = n) (hz : z = 1) : ISO7 S T n z := ⟨fun _ => by rw [hp] at h; exact h, fun q => absurd q (by omega)⟩
theorem iso_n {S T U : sS} {n p e z : Int} (h : ISC S T n p) (hp : p < n) (hb : Xi S 905 p.toNat ≠ 32) (he : e = we7 (Xi S 905) n p) (hx : e = p ∨ 12 < e - p ∨ Xi T 904 164 = 50) (hz : z = 0) : ISO7 S U n z := by
  obtain ⟨L, h1, _, h3, _⟩ := h
  exact ⟨fun q => absurd q (by omega), fun _ => ⟨L, p, h1, hp, hb, by rw [← he]; omega⟩⟩

def md_mo_isSaid__p : List rec := [(904, 905, 164, 165), (995, 996, 0, 100000)]
abbrev Q_mo_isSaid__p (S : sS) : pst := fun r S1 => RI S1 ∧ FR md_mo_isSaid__p S S1 ∧ (∃ z : Int, r = some (iv z) ∧ (0 ≤ z ∧ z ≤ 1) ∧ (ISO7 S S1 (Xi S 904 1) z))
set_option maxRecDepth 100000 in
theorem t_mo_isSaid__p {S : sS} (hH : RI S) (hb5 : BYT S 905) (h1r : 0 ≤ Xi S 904 1 ∧ Xi S 904 1 ≤ 5000) (d : Nat) : Mp lay0 (d + 4) m_mo_isSaid [.ref 904] S (Q_mo_isSaid__p S) := by
  refine Mp_R rfl rfl (fun fu => ?_)
  have hF : FR md_mo_isSaid__p S S := FR.rf
  have w1 : -2147483648 ≤ Xi S 904 1 ∧ Xi S 904 1 ≤ 2147483647 := Xi_rgI
  have C7 : ∀ (n7 : Nat) (_ : n7 ≤ fu) (T1 : sS) (_ : RI T1) (_ : FR md_mo_isSaid__p S T1) (v1 : Int), (0 ≤ v1 ∧ v1 ≤ 5000) → (0 ≤ v1 ∧ v1 ≤ (Xi S 904 1)) → (Hid (ISC S T1 (Xi S 904 1) v1)) → Pl n7 lay0 (d + 3) m_mo_isSaid 7 [(0, .ref 904), (1, iv v1)] [] T1 (Q_mo_isSaid__p S) := by
    intro n7
    induction n7 with
    | zero => intros; exact Pl_0
    | succ n7 ih7 =>
      intro hm7 T1 hHT1 hFT1 v1 w2 w3 G7
      have w4 : Xi T1 904 1 = Xi S 904 1 := hFT1.x _ _ rfl
      have w5 : -2147483648 ≤ Xi T1 904 1 ∧ Xi T1 904 1 ≤ 2147483647 := Xi_rgI
      have C34 : ∀ (n34 : Nat) (_ : n34 ≤ n7) (T2 : sS) (_ : RI T2) (_ : FR md_mo_isSaid__p S T2) (v1 : Int) (v2 : Int), (0 ≤ v1 ∧ v1 ≤ 5000) → (0 ≤ v2 ∧ v2 ≤ 5000) → (0 ≤ v1 ∧ v1 < (Xi S 904 1)) → (v1 ≤ v2 ∧ v2 ≤ (Xi S 904 1)) → (Xi S 905 (v1).toNat ≠ 32) → (Hid (ISC S T2 (Xi S 904 1) v1)) → (we7 (Xi S 905) (Xi S 904 1) v1 = we7 (Xi S 905) (Xi S 904 1) v2) → (Hid (∀ j : Nat, v1 ≤ (j : Int) → (j : Int) < v2 → ltr (Xi S 905 j) = 1)) → Pl n34 lay0 (d + 3) m_mo_isSaid 34 [(0, .ref 904), (1, iv v1), (2, iv v2)] [] T2 (Q_mo_isSaid__p S) := by
        intro n34
        induction n34 with
        | zero => intros; exact Pl_0
        | succ n34 ih34 =>
          intro hm34 T2 hHT2 hFT2 v1 v2 w6 w7 w8 w9 w10 G34 we34 L34
          have w11 : Xi T2 904 1 = Xi S 904 1 := hFT2.x _ _ rfl
          have w12 : -2147483648 ≤ Xi T2 904 1 ∧ Xi T2 904 1 ≤ 2147483647 := Xi_rgI
          have C60 : ∀  (T3 : sS) (_ : RI T3) (_ : FR md_mo_isSaid__p S T3) (v1 : Int) (v2 : Int), (0 ≤ v1 ∧ v1 ≤ 5000) → (0 ≤ v2 ∧ v2 ≤ 5000) → (0 ≤ v1 ∧ v1 < (Xi S 904 1)) → (v1 ≤ v2 ∧ v2 ≤ (Xi S 904 1)) → (Xi S 905 (v1).toNat ≠ 32) → (Hid (ISC S T3 (Xi S 904 1) v1)) → (v2 = we7 (Xi S 905) (Xi S 904 1) v1) → (Hid (∀ j : Nat, v1 ≤ (j : Int) → (j : Int) < v2 → ltr (Xi S 905 j) = 1)) → Pl n34 lay0 (d + 3) m_mo_isSaid 60 [(0, .ref 904), (1, iv v1), (2, iv v2)] [] T3 (Q_mo_isSaid__p S) := by
            intro T3 hHT3 hFT3 v1 v2 w13 w14 w15 w16 w17 G60 e60 L60
            have w18 : Xi T3 904 1 = Xi S 904 1 := hFT3.x _ _ rfl
            have w19 : -2147483648 ≤ Xi T3 904 1 ∧ Xi T3 904 1 ≤ 2147483647 := Xi_rgI
            refine y_iload_n rfl rfl ?_
            have K60 : True := trivial
            refine y_iload_n rfl rfl ?_
            refine y_icmp_eq rfl rfl (by unfold rg; omega) (by unfold rg; omega) (fun w20 => ?_) (fun w21 => ?_)
            · refine y_iconst rfl ?_
              refine y_ireturn rfl rfl ?_
              exact ⟨hHT3, hFT3, _, rfl, ⟨by omega, by omega⟩, (by first | (have u := K60; exact iso_n G60.o (by omega) (by omega) e60 (by omega) (by omega)) | exact iso_y G7.o (by omega) (by omega))⟩
            · refine y_iload_n rfl rfl ?_
              refine y_iload_n rfl rfl ?_
              refine y_isub rfl ?_
              refine y_bipush rfl rfl ?_
              refine y_icmp_gt rfl rfl (by unfold rg; omega) (by unfold rg; omega) (fun w22 => ?_) (fun w23 => ?_)
              · refine y_iconst rfl ?_
                refine y_ireturn rfl rfl ?_
                exact ⟨hHT3, hFT3, _, rfl, ⟨by omega, by omega⟩, (by first | (have u := K60; exact iso_n G60.o (by omega) (by omega) e60 (by omega) (by omega)) | exact iso_y G7.o (by omega) (by omega))⟩
              · refine y_aload_n rfl rfl ?_
                refine y_gfi rfl rfl rfl rfl rfl ?_
                have w24 : -2147483648 ≤ (Xi T3 904 164) ∧ (Xi T3 904 164) ≤ 2147483647 := Xi_rgI
                refine y_bipush rfl rfl ?_
                refine y_icmp_ne rfl rfl (by unfold rg; omega) (by unfold rg; omega) (fun w25 => ?_) (fun w26 => ?_)
                · refine y_aload_n rfl rfl ?_
                  refine y_gfr rfl rfl rfl rfl rfl (hHT3.r 904 163 995 rfl) ?_
                  refine y_aload_n rfl rfl ?_
                  refine y_gfi rfl rfl rfl rfl rfl ?_
                  refine y_aload_n rfl rfl ?_
                  refine y_gfr rfl rfl rfl rfl rfl (hHT3.r 904 0 905 rfl) ?_
                  refine y_iload_n rfl rfl ?_
                  refine y_iload_n rfl rfl ?_
                  refine y_iload_n rfl rfl ?_
                  refine y_isub rfl ?_
                  refine y_callS rfl rfl (by decide) rfl (t_mo_wordOf__p hHT3 905 v1 (v2 - v1) (Or.inl rfl) ⟨by omega, by omega⟩ ⟨by omega, by omega⟩ ((fun j => by rw [(hFT3.cx 905 rfl j).1]; exact hb5 j)) (fun i a b => by rw [(hFT3.cx 905 rfl _).1]; exact L60.o i a (by omega)) _) ?_
                  rintro _ _ ⟨rfl, z27, rfl, f100, g100⟩
                  show Pl _ _ _ _ _ _ [jw z27, iv (Xi T3 904 164), .ref 995] _ _
                  have c100 : z27 = c32 (Xi S 905) (v1).toNat (v2 - v1).toNat := by have u := f100; rw [show Xi T3 905 = Xi S 905 from funext (fun j => (hFT3.cx 905 rfl j).1)] at u; exact u
                  clear f100
                  refine y_lastoreP (n := 50) rfl rfl (by unfold rg; omega) (fun w28 w29 => ?_)
                  obtain ⟨U4, eU4⟩ : ∃ T : sS, T = uJ T3 995 (((Xi T3 904 164)).toNat) (Int64.ofInt z27) := ⟨_, rfl⟩
                  rw [← eU4]
                  have hHU4 : RI U4 := by rw [eU4]; exact RI_J hHT3
                  have hFU4 : FR md_mo_isSaid__p S U4 := by rw [eU4]; exact FR.wJ hFT3 (mdf_i (r := (995, 996, 0, 100000)) (List.mem_of_getElem? (i := 1) rfl) (inR_i (by omega) (by omega) (by omega) (by omega)))
                  have e103 := eU4
                  refine y_aload_n rfl rfl ?_
                  refine y_dup rfl rfl ?_
                  refine y_gfi rfl rfl rfl rfl rfl ?_
                  have w30 : (Xi U4 904 164) = (Xi T3 904 164) := (show Xi U4 904 164 = Xi T3 904 164 from by rw [eU4]; rfl)
                  rw [w30]
                  refine y_iconst rfl ?_
                  refine y_iadd rfl ?_
                  refine y_pfi rfl rfl rfl rfl ?_
                  obtain ⟨U5, eU5⟩ : ∃ T : sS, T = uI U4 904 164 (Int32.ofInt ((Xi T3 904 164) + 1)) := ⟨_, rfl⟩
                  rw [← eU5]
                  have hHU5 : RI U5 := by rw [eU5]; exact RI_w hHU4
                  have hFU5 : FR md_mo_isSaid__p S U5 := by rw [eU5]; exact FR.wI hFU4 (mdf_i (r := (904, 905, 164, 165)) (List.mem_of_getElem? (i := 0) rfl) (inR_i (by omega) (by omega) (by omega) (by omega)))
                  have w31 : Xi U5 904 164 = ((Xi T3 904 164) + 1) := by rw [eU5]; exact Xi_same (by unfold rg; omega)
                  have e111 := eU5
                  have G111 : Hid (ISC S U5 (Xi S 904 1) v2) := isc_w G60.o (by omega) (by omega) e60 (by omega) (by omega) (by omega) (by omega) c100 g100 e103 e111
                  refine y_iload_n rfl rfl ?_
                  refine y_istore_n rfl rfl rfl ?_
                  refine y_goto rfl rfl ?_
                  have w32 : Xi U5 904 1 = Xi T3 904 1 := (show Xi U5 904 1 = Xi U4 904 1 from by rw [eU5]; exact Xi_ne (by omega)).trans ((show Xi U4 904 1 = Xi T3 904 1 from by rw [eU4]; rfl))
                  exact Pl_weak (ih7 (by omega) U5 hHU5 hFU5 (v2) (by omega) (by omega) (by first | exact G111 | exact G26 | exact isc_0 (by omega) e2)) (by omega) (And.intro rfl (And.intro rfl (True.intro)))
                · refine y_iconst rfl ?_
                  refine y_ireturn rfl rfl ?_
                  exact ⟨hHT3, hFT3, _, rfl, ⟨by omega, by omega⟩, (by first | (have u := K60; exact iso_n G60.o (by omega) (by omega) e60 (by omega) (by omega)) | exact iso_y G7.o (by omega) (by omega))⟩
          refine ys_iload_n rfl rfl ?_
          refine y_aload_n rfl rfl ?_
          refine y_gfi rfl rfl rfl rfl rfl ?_
          refine y_icmp_ge rfl rfl (by unfold rg; omega) (by unfold rg; omega) (fun w33 => ?_) (fun w34 => ?_)
          · exact Pl_weak (C60 T2 hHT2 hFT2 (v1) (v2) (by omega) (by omega) (by omega) (by omega) (by omega) (G34) (we7_x we34 (by first | exact Or.inl (by omega) | exact Or.inr (by omega))) (L34)) (by omega) (And.intro rfl (And.intro rfl (And.intro rfl (True.intro))))
          · refine y_aload_n rfl rfl ?_
            refine y_gfr rfl rfl rfl rfl rfl (hHT2.r 904 0 905 rfl) ?_
            refine y_iload_n rfl rfl ?_
            refine y_baloadP (n := 5000) rfl rfl rfl (by decide) (by unfold rg; omega) (fun w35 w36 => ?_)
            have w37 : -2147483648 ≤ (Xi T2 905 ((v2).toNat)) ∧ (Xi T2 905 ((v2).toNat)) ≤ 2147483647 := Xi_rgI
            have y47 : Xi T2 905 (v2).toNat = Xi S 905 (v2).toNat := (hFT2.cx 905 rfl _).1
            have b47 := hb5 (v2).toNat
            refine y_callS rfl rfl (by decide) rfl (t_mo_isLetter__p hHT2 (Xi T2 905 ((v2).toNat)) ⟨by omega, by omega⟩ _) ?_
            rintro _ _ ⟨rfl, z38, rfl, w38, q48⟩
            show Pl _ _ _ _ _ _ [iv z38] _ _
            have l48 : z38 = ltr (Xi S 905 (v2).toNat) := by rw [← y47]; exact q48
            clear q48
            refine y_if_eq rfl rfl (by unfold rg; omega) (fun w39 => ?_) (fun w40 => ?_)
            · exact Pl_weak (C60 T2 hHT2 hFT2 (v1) (v2) (by omega) (by omega) (by omega) (by omega) (by omega) (G34) (we7_x we34 (by first | exact Or.inl (by omega) | exact Or.inr (by omega))) (L34)) (by omega) (And.intro rfl (And.intro rfl (And.intro rfl (True.intro))))
            · refine y_iinc rfl rfl rfl rfl ?_
              have we54 : we7 (Xi S 905) (Xi S 904 1) v1 = we7 (Xi S 905) (Xi S 904 1) (v2 + 1) := we7_t we34 (by omega) (by omega)
              have L54 : Hid (∀ j : Nat, v1 ≤ (j : Int) → (j : Int) < v2 + 1 → ltr (Xi S 905 j) = 1) := fun j a b => by by_cases q : (j : Int) < v2; (exact L34.o j a q); (rw [show j = (v2).toNat by omega]; omega)
              refine y_goto rfl rfl ?_
              exact Pl_weak (ih34 (by omega) T2 hHT2 hFT2 (v1) ((v2 + 1)) (by omega) (by omega) (by omega) (by omega) (by omega) (by first | exact G34 | exact G7) (by first | exact we54 | rfl) (by first | exact L54 | exact fun j a b => absurd a (by omega))) (by omega) (And.intro rfl (And.intro rfl (And.intro rfl (True.intro))))
      refine ys_iload_n rfl rfl ?_
      refine y_aload_n rfl rfl ?_
      refine y_gfi rfl rfl rfl rfl rfl ?_
      refine y_icmp_ge rfl rfl (by unfold rg; omega) (by unfold rg; omega) (fun w41 => ?_) (fun w42 => ?_)
      · refine y_iconst rfl ?_
        refine y_ireturn rfl rfl ?_
        exact ⟨hHT1, hFT1, _, rfl, ⟨by omega, by omega⟩, (by first | (have u := K60; exact iso_n G60.o (by omega) (by omega) e60 (by omega) (by omega)) | exact iso_y G7.o (by omega) (by omega))⟩
      · refine y_aload_n rfl rfl ?_
        refine y_gfr rfl rfl rfl rfl rfl (hHT1.r 904 0 905 rfl) ?_
        refine y_iload_n rfl rfl ?_
        refine y_baloadP (n := 5000) rfl rfl rfl (by decide) (by unfold rg; omega) (fun w43 w44 => ?_)
        have w45 : -2147483648 ≤ (Xi T1 905 ((v1).toNat)) ∧ (Xi T1 905 ((v1).toNat)) ≤ 2147483647 := Xi_rgI
        have y20 : Xi T1 905 (v1).toNat = Xi S 905 (v1).toNat := (hFT1.cx 905 rfl _).1
        have b20 := hb5 (v1).toNat
        refine y_bipush rfl rfl ?_
        refine y_icmp_ne rfl rfl (by unfold rg; omega) (by unfold rg; omega) (fun w46 => ?_) (fun w47 => ?_)
        · refine y_iload_n rfl rfl ?_
          refine y_istore_n rfl rfl rfl ?_
          exact Pl_weak (C34 n7 (by omega) T1 hHT1 hFT1 (v1) (v1) (by omega) (by omega) (by omega) (by omega) (by omega) (by first | exact G34 | exact G7) (by first | exact we54 | rfl) (by first | exact L54 | exact fun j a b => absurd a (by omega))) (by omega) (And.intro rfl (And.intro rfl (And.intro rfl (True.intro))))
        · refine y_iinc rfl rfl rfl rfl ?_
          have G26 : Hid (ISC S T1 (Xi S 904 1) (v1 + 1)) := isc_b G7.o (by omega) (by omega)
          refine y_goto rfl rfl ?_
          exact Pl_weak (ih7 (by omega) T1 hHT1 hFT1 ((v1 + 1)) (by omega) (by omega) (by first | exact G111 | exact G26 | exact isc_0 (by omega) e2)) (by omega) (And.intro rfl (And.intro rfl (True.intro)))
  refine y_aload_n rfl rfl ?_
  refine y_iconst rfl ?_
  refine y_pfi rfl rfl rfl rfl ?_
  obtain ⟨U6, eU6⟩ : ∃ T : sS, T = uI S 904 164 (Int32.ofInt 0) := ⟨_, rfl⟩
  rw [← eU6]
  have hHU6 : RI U6 := by rw [eU6]; exact RI_w hH
  have hFU6 : FR md_mo_isSaid__p S U6 := by rw [eU6]; exact FR.wI hF (mdf_i (r := (904, 905, 164, 165)) (List.mem_of_getElem? (i := 0) rfl) (inR_i (by omega) (by omega) (by omega) (by omega)))
  have w48 : Xi U6 904 164 = 0 := by rw [eU6]; exact Xi_same (by unfold rg; omega)
  have e2 := eU6
  refine y_iconst rfl ?_
  refine y_istore_n rfl rfl rfl ?_
  have w49 : Xi U6 904 1 = Xi S 904 1 := (show Xi U6 904 1 = Xi S 904 1 from by rw [eU6]; exact Xi_ne (by omega))
  exact Pl_weak (C7 fu (by omega) U6 hHU6 hFU6 (0) (by omega) (by omega) (by first | exact G111 | exact G26 | exact isc_0 (by omega) e2)) (by omega) (And.intro rfl (And.intro rfl (True.intro)))
end
section
/-! COMMANDS: the words that are typed, in both -/
theorem wlq_p {B : Nat → Int} {to : Int} : ∀ (L : List (Int × Int)) (a p : Int), WLp B to a L p → WLq B to a L p
  | [], _, _, h => h
  | (_, _) :: L, _, p, h => ⟨h.1, h.2.1, h.2.2.1, h.2.2.2.1, wlq_p L _ p h.2.2.2.2.2⟩
theorem wlq_c {B C : Nat → Int} {to : Int} (be : BE B C to) : ∀ (L : List (Int × Int)) (a p : Int), 0 ≤ a → WLq B to a L p → WLq C to a L p
  | [], a, p, h0, h => ⟨h.1, h.2.1, fun q q0 q1 => by have t := h.2.2 q q0 q1; rw [← t]; exact (be q.toNat (by have := h.2.1; omega)).symm⟩
  | (s, e) :: L, a, p, h0, h => by
    obtain ⟨⟨h1, h2, h3⟩, h4, h5, h6, h8⟩ := h
    have w := (we7_b (B := B) (e := to) (p := s)).1
    have bs := be s.toNat (by omega)
    exact ⟨⟨h1, h2, fun q q0 q1 => by have t := h3 q q0 q1; rw [← t]; exact (be q.toNat (by omega)).symm⟩, by rw [← bs]; exact h4, by rw [h5]; exact we7_c be (by omega), h6, wlq_c be L e p (by omega) h8⟩
/-- both go along the same words: the one that stands at a word of the other has gone as far -/
theorem wlq_x {B : Nat → Int} {to p : Int} (hp : p < to) (hb : B p.toNat ≠ 32) : ∀ (L L' : List (Int × Int)) (a : Int), WLq B to a L p → WLq B to a L' to → L.length < L'.length ∧ (∀ i : Nat, i < L.length → L'.getD i (0, 0) = L.getD i (0, 0)) ∧ L'.getD L.length (0, 0) = (p, we7 B to p) ∧ we7 B to p ≠ p
  | [], [], a, h, h' => by
    exfalso
    exact hb (h'.2.2 p h.1 hp)
  | [], (s, e) :: L', a, h, h' => by
    obtain ⟨h1, h2, h3⟩ := h
    obtain ⟨⟨k1, k2, k3⟩, k4, k5, k6, _⟩ := h'
    have sp : s = p := by
      by_cases c : p < s
      · exact absurd (k3 p h1 c) hb
      · by_cases d : s < p
        · exact absurd (h3 s k1 d) k4
        · omega
    subst sp
    refine ⟨Nat.zero_lt_succ _, fun i hi => absurd hi (Nat.not_lt_zero _), ?_, by rw [← k5]; exact k6⟩
    show (s, e) = _
    rw [k5]
  | (s, e) :: L, [], a, h, h' => by
    exfalso
    obtain ⟨⟨k1, k2, k3⟩, k4, _⟩ := h
    exact k4 (h'.2.2 s k1 k2)
  | (s, e) :: L, (s', e') :: L', a, h, h' => by
    obtain ⟨⟨h1, h2, h3⟩, h4, h5, h6, h8⟩ := h
    obtain ⟨⟨k1, k2, k3⟩, k4, k5, k6, k8⟩ := h'
    have ss : s = s' := by
      by_cases c : s < s'
      · exact absurd (k3 s h1 c) h4
      · by_cases d : s' < s
        · exact absurd (h3 s' k1 d) k4
        · omega
    subst ss
    have ee : e = e' := by rw [h5, k5]
    subst ee
    obtain ⟨i1, i2, i3, i4⟩ := wlq_x hp hb L L' e h8 k8
    refine ⟨Nat.succ_lt_succ i1, fun i hi => ?_, i3, i4⟩
    cases i with
    | zero => rfl
    | succ i => exact i2 i (Nat.lt_of_succ_lt_succ hi)
theorem wlq_t {B : Nat → Int} {to : Int} : ∀ (L L' : List (Int × Int)) (a : Int), WLq B to a L to → WLq B to a L' to → L = L'
  | [], [], _, _, _ => rfl
  | [], (s, e) :: L', a, h, h' => absurd (h.2.2 s h'.1.1 h'.1.2.1) h'.2.1
  | (s, e) :: L, [], a, h, h' => absurd (h'.2.2 s h.1.1 h.1.2.1) h.2.1
  | (s, e) :: L, (s', e') :: L', a, h, h' => by
    obtain ⟨⟨h1, h2, h3⟩, h4, h5, h6, h8⟩ := h
    obtain ⟨⟨k1, k2, k3⟩, k4, k5, k6, k8⟩ := h'
    have ss : s = s' := by
      by_cases c : s < s'
      · exact absurd (k3 s h1 c) h4
      · by_cases d : s' < s
        · exact absurd (h3 s' k1 d) k4
        · omega
    subst ss
    have ee : e = e' := by rw [h5, k5]
    subst ee
    rw [wlq_t L L' e h8 k8]
/-- what both have of the words -/
theorem typ_s {U U1 S S1 : sS} {t : Nat} {n z y : Int} (be : BE (Xi U t) (Xi S 905) n) (n0 : 0 ≤ n) (hz : z = 0 ∨ z = 1) (hy : y = 0 ∨ y = 1) (c : TYO U U1 t n z) (r : ISO7 S S1 n y) : (y = 1 → z = 1 ∧ (Xi U1 882 12 = Xi S1 904 164 ∧ 0 ≤ Xi U1 882 12 ∧ Xi U1 882 12 ≤ 50) ∧ ∀ i : Nat, (i : Int) < Xi U1 882 12 → wdC (Xj U1 889 i) ∧ Xj S1 995 i = cv (Xj U1 889 i)) ∧ (y = 0 → z = 1 → ∃ i : Nat, (i : Int) < Xi U1 882 12 ∧ Xj U1 889 i = -1) := by
  refine ⟨fun y1 => ?_, fun y0 z1 => ?_⟩
  · obtain ⟨L, l1, l2, l3, l4⟩ := r.1 y1
    have lq := wlq_p L 0 n l1
    have z1 : z = 1 := by
      rcases hz with q | q
      · exfalso
        obtain ⟨L', p, p1, p2, p3, p4⟩ := c.2 q
        have pq := wlq_c be L' 0 p (Int.le_refl 0) p1
        have lp : 0 ≤ p := by
          have : ∀ (L : List (Int × Int)) (a : Int), 0 ≤ a → WLq (Xi U t) n a L p → 0 ≤ p := fun L => by
            induction L with
            | nil => intro a a0 h; have := h.1; omega
            | cons x L ih =>
              intro a a0 h
              obtain ⟨⟨h1, _, _⟩, _, h5, _, h8⟩ := h
              have w := (we7_b (B := Xi U t) (e := n) (p := x.1)).1
              exact ih x.2 (by omega) h8
          exact this L' 0 (Int.le_refl 0) p1
        have bp := be p.toNat (by omega)
        obtain ⟨x1, x2, x3, x4⟩ := wlq_x p2 (by rw [← bp]; exact p3) L' L 0 pq lq
        rw [we7_c be lp] at p4
        rcases p4 with p4 | p4
        · exact x4 p4
        · omega
      · exact q
    obtain ⟨L', p1, p2, p3, p4⟩ := c.1 z1
    have e := wlq_t L' L 0 (wlq_c be L' 0 n (Int.le_refl 0) p1) lq
    subst e
    refine ⟨z1, ⟨by rw [p3, l3], by omega, by omega⟩, fun i hi => ?_⟩
    have hi : i < L'.length := by omega
    have a1 := p4 i hi
    have a2 := l4 i hi
    obtain ⟨w0, w1, w2, w3, w4⟩ := wl_ww L' 0 n (Int.le_refl 0) l1 i hi
    generalize L'.getD i (0, 0) = x at *
    unfold tyW at a1
    rw [if_pos w2] at a1
    have w4u : ∀ j : Int, x.1 ≤ j → j < x.2 → lt7 (Xi U t j.toNat) > 0 := fun j j0 j1 => by rw [be j.toNat (by omega)]; exact w4 j j0 j1
    have c13 : cv (c27 (Xi U t) x.1.toNat (x.2 - x.1).toNat) = sdW S x := by
      unfold cv sdW
      rw [cv_c (x.2 - x.1).toNat 13 (by omega)]
      exact c32_e be _ (by omega)
    refine ⟨?_, by rw [a2, a1, c13]⟩
    rw [a1]
    have k := c27_r (B := Xi U t) (f := x.1.toNat) (x.2 - x.1).toNat
    have p := c27_pos (B := Xi U t) (f := x.1.toNat) (by have := w4u x.1 (Int.le_refl _) (by omega); omega) ((x.2 - x.1).toNat - 1)
    rw [show (x.2 - x.1).toNat - 1 + 1 = (x.2 - x.1).toNat by omega] at p
    exact ⟨p, Int.lt_of_lt_of_le k.2 (p27_12 ⟨(x.2 - x.1).toNat, by omega⟩)⟩
  · obtain ⟨L, p, l1, l2, l3, l4⟩ := r.2 y0
    obtain ⟨L', p1, p2, p3, p4⟩ := c.1 z1
    obtain ⟨x1, x2, x3, x4⟩ := wlq_x l2 l3 L L' 0 (wlq_p L 0 p l1) (wlq_c be L' 0 n (Int.le_refl 0) p1)
    rcases l4 with l4 | l4 | l4
    · exact absurd l4 x4
    · refine ⟨L.length, by omega, ?_⟩
      rw [p4 L.length x1, x3]
      unfold tyW
      exact if_neg (by show ¬ (we7 (Xi S 905) n p - p ≤ 12); omega)
    · omega
end
section
/-- the noun that is meant fits the gap's kind -/
def FGK (S : sS) (kd mt : Int) : Prop := (kd = -2 → mt / 256 = 14) ∧ (kd ≠ -2 → mt / 256 = 2 ∧ isK S (Xi S 21 (mt % 256).toNat) kd = 1)
/-- what fitsGap leaves -/
def FTG (S S1 : sS) (z kd mt : Int) : Prop := S1 = uI S 882 13 (Int32.ofInt (mt % 256)) ∧ (z = 1 → FGK S kd mt) ∧ (z = 0 → ¬ FGK S kd mt)
theorem ftg_d {S S1 : sS} {z kd mt : Int} (e : S1 = uI S 882 13 (Int32.ofInt (mt % 256))) (k : kd = -2) (h : z = 1 → mt / 256 = 14) (h' : z = 0 → mt / 256 ≠ 14) : FTG S S1 z kd mt :=
  ⟨e, fun q => ⟨fun _ => h q, fun w => absurd k w⟩, fun q w => h' q (w.1 k)⟩
theorem ftg_n {S S1 : sS} {z kd mt : Int} (e : S1 = uI S 882 13 (Int32.ofInt (mt % 256))) (k : kd ≠ -2) (h : mt / 256 ≠ 2) (hz : z = 0) : FTG S S1 z kd mt :=
  ⟨e, fun q => absurd q (by omega), fun _ w => h (w.2 k).1⟩
theorem ftg_o {S S1 : sS} {z kd mt w : Int} (e : S1 = uI S 882 13 (Int32.ofInt (mt % 256))) (k : kd ≠ -2) (h : mt / 256 = 2) (hw : w = isK S (Xi S 21 (mt % 256).toNat) kd) (h1 : z = 1 → w = 1) (h0 : z = 0 → w ≠ 1) : FTG S S1 z kd mt :=
  ⟨e, fun q => ⟨fun x => absurd x k, fun _ => ⟨h, hw ▸ h1 q⟩⟩, fun q x => h0 q (hw.trans (x.2 k).2)⟩
/-- where the gap begins; a command without a gap: its end -/
def fst7 (S : sS) (i : Int) : Int := if Xi S 885 i.toNat = -1 then Xi S 884 i.toNat else Xi S 885 i.toNat
/-- as many words as the command asks for -/
def FOK (S : sS) (i : Int) : Prop := (Xi S 885 i.toNat = -1 → Xi S 882 12 = Xi S 884 i.toNat) ∧ (Xi S 885 i.toNat ≠ -1 → Xi S 884 i.toNat ≤ Xi S 882 12 ∧ Xi S 882 12 < Xi S 884 i.toNat + 3)
/-- the words below m, but for the gap, are typed -/
def FWD (S : sS) (i m : Int) : Prop := ∀ k : Int, 0 ≤ k → k < m → k ≠ Xi S 885 i.toNat → Xj S 887 (i * 8 + k).toNat = Xj S 889 (if k < fst7 S i then k else k + (Xi S 882 12 - Xi S 884 i.toNat)).toNat
/-- what is typed in the gap -/
def mt7 (S : sS) (i : Int) : Int := mnR S 889 (Xi S 885 i.toNat).toNat (Xi S 882 12 - Xi S 884 i.toNat + 1).toNat
def FTR (S : sS) (i : Int) : Prop := FOK S i ∧ FWD S i (Xi S 884 i.toNat) ∧ (Xi S 885 i.toNat ≠ -1 → FGK S (Xi S 886 i.toNat) (mt7 S i))
def FTC (S S1 : sS) (z i : Int) : Prop := (z = 1 → FTR S i ∧ Xi S1 882 13 = (if Xi S 885 i.toNat = -1 then -1 else mt7 S i % 256)) ∧ (z = 0 → ¬ FTR S i)
theorem fwd_0 {S : sS} {i : Int} : FWD S i 0 := fun k a b => absurd b (by omega)
theorem fwd_e {S : sS} {i v w : Int} (h : FWD S i v) (e : v = w) : FWD S i w := e ▸ h
theorem fwd_g {S : sS} {i v : Int} (h : FWD S i v) (e : v = Xi S 885 i.toNat) : FWD S i (v + 1) := fun k a b c => h k a (by omega) c
theorem fwd_a {S : sS} {i v : Int} (h : FWD S i v) (hv : v < fst7 S i) (e : Xj S 887 (i * 8 + v).toNat = Xj S 889 v.toNat) : FWD S i (v + 1) := fun k a b c => by
  by_cases q : k < v
  · exact h k a q c
  · rw [show k = v by omega, if_pos hv]; exact e
theorem fwd_b {S : sS} {i v : Int} (h : FWD S i v) (hv : ¬ v < fst7 S i) (e : Xj S 887 (i * 8 + v).toNat = Xj S 889 (v + (Xi S 882 12 - Xi S 884 i.toNat)).toNat) : FWD S i (v + 1) := fun k a b c => by
  by_cases q : k < v
  · exact h k a q c
  · rw [show k = v by omega, if_neg hv]; exact e
theorem ftr_a {S : sS} {i v : Int} (h0 : 0 ≤ v) (h1 : v < Xi S 884 i.toNat) (hg : v ≠ Xi S 885 i.toNat) (hv : v < fst7 S i) (e : Xj S 887 (i * 8 + v).toNat ≠ Xj S 889 v.toNat) : ¬ FTR S i := fun q => by
  have u := q.2.1 v h0 h1 hg
  rw [if_pos hv] at u; exact e u
theorem ftr_b {S : sS} {i v : Int} (h0 : 0 ≤ v) (h1 : v < Xi S 884 i.toNat) (hg : v ≠ Xi S 885 i.toNat) (hv : ¬ v < fst7 S i) (e : Xj S 887 (i * 8 + v).toNat ≠ Xj S 889 (v + (Xi S 882 12 - Xi S 884 i.toNat)).toNat) : ¬ FTR S i := fun q => by
  have u := q.2.1 v h0 h1 hg
  rw [if_neg hv] at u; exact e u
theorem mnR_9 {S T : sS} (e1 : Xi T 1 3 = Xi S 1 3) (c : ∀ k : Nat, k = 2 ∨ k = 3 ∨ k = 4 ∨ k = 889 → ∀ j, Xi T k j = Xi S k j ∧ Xj T k j = Xj S k j) (f n : Nat) : mnR T 889 f n = mnR S 889 f n := by
  unfold mnR mnF
  rw [e1, (c 889 (by omega) _).2, (c 889 (by omega) _).2, (c 889 (by omega) _).2]
  exact msc_fr (fun j => (c 2 (by omega) j).2) (fun j => (c 3 (by omega) j).1) (fun j => (c 4 (by omega) j).1) _ _
theorem fgk_e {S T : sS} {w : Int} (E : T = uI S 882 13 (Int32.ofInt w)) {kd mt : Int} : FGK T kd mt ↔ FGK S kd mt := by
  unfold FGK
  rw [isK_F (FR_e E) rfl, ((FR_e E).cx 21 rfl _).1]
theorem ftc_g {S T S1 : sS} {z i kd mt w : Int} (E : T = uI S 882 13 (Int32.ofInt w)) (m : mt = mt7 S i) (k : kd = Xi S 886 i.toNat) (o : FTG T S1 z kd mt) (O : FOK S i) (W : FWD S i (Xi S 884 i.toNat)) (g : Xi S 885 i.toNat ≠ -1) : FTC S S1 z i := by
  subst k; subst m
  refine ⟨fun q => ⟨⟨O, W, fun _ => (fgk_e E).1 (o.2.1 q)⟩, ?_⟩, fun q x => o.2.2 q ((fgk_e E).2 (x.2.2 g))⟩
  rw [if_neg g, o.1]; exact Xi_same ⟨by omega, by omega⟩
theorem ftc_p {S S1 : sS} {z i : Int} (E : S1 = uI S 882 13 (Int32.ofInt (-1))) (O : FOK S i) (W : FWD S i (Xi S 884 i.toNat)) (g : Xi S 885 i.toNat = -1) (hz : z = 1) : FTC S S1 z i :=
  ⟨fun _ => ⟨⟨O, W, fun q => absurd g q⟩, by rw [if_pos g, E]; exact Xi_same ⟨by omega, by omega⟩⟩, fun q => absurd q (by omega)⟩
theorem ftc_n {S S1 : sS} {z i : Int} (n : ¬ FTR S i) (hz : z = 0) : FTC S S1 z i := ⟨fun q => absurd q (by omega), fun _ => n⟩

def md_co_fitsGap__p : List rec := [(882, 883, 13, 14)]
abbrev Q_co_fitsGap__p (S : sS) (kind : Int) (meant : Int) : pst := fun r S1 => RI S1 ∧ FR md_co_fitsGap__p S S1 ∧ (∃ z : Int, r = some (iv z) ∧ (0 ≤ z ∧ z ≤ 1) ∧ (FTG S S1 z kind meant))
set_option maxRecDepth 100000 in
theorem t_co_fitsGap__p {S : sS} (hH : RI S) (kind : Int) (meant : Int) (hkind : -2147483648 ≤ kind ∧ kind ≤ 2147483647) (hmeant : -2147483648 ≤ meant ∧ meant ≤ 2147483647) (d : Nat) : Mp lay0 (d + 3) m_co_fitsGap [.ref 882, iv kind, iv meant] S (Q_co_fitsGap__p S kind meant) := by
  refine Mp_R rfl rfl (fun fu => ?_)
  have hF : FR md_co_fitsGap__p S S := FR.rf
  refine y_aload_n rfl rfl ?_
  refine y_iload_n rfl rfl ?_
  refine y_sipush rfl rfl ?_
  refine y_iand255 rfl (by unfold rg; omega) ?_
  refine y_pfi rfl rfl rfl rfl ?_
  obtain ⟨U1, eU1⟩ : ∃ T : sS, T = uI S 882 13 (Int32.ofInt (meant % 256)) := ⟨_, rfl⟩
  rw [← eU1]
  have hHU1 : RI U1 := by rw [eU1]; exact RI_w hH
  have hFU1 : FR md_co_fitsGap__p S U1 := by rw [eU1]; exact FR.wI hF (mdf_i (r := (882, 883, 13, 14)) (List.mem_of_getElem? (i := 0) rfl) (inR_i (by omega) (by omega) (by omega) (by omega)))
  have w2 : Xi U1 882 13 = (meant % 256) := by rw [eU1]; exact Xi_same (by unfold rg; omega)
  have e6 := eU1
  refine y_iload_n rfl rfl ?_
  refine y_bipush rfl rfl ?_
  refine y_icmp_ne rfl rfl (by unfold rg; omega) (by unfold rg; omega) (fun w3 => ?_) (fun w4 => ?_)
  · refine y_iload_n rfl rfl ?_
    refine y_bipush rfl rfl ?_
    refine y_ishr8 rfl (by unfold rg; omega) ?_
    refine y_iconst rfl ?_
    refine y_icmp_ne rfl rfl (by unfold rg; omega) (by unfold rg; omega) (fun w6 => ?_) (fun w7 => ?_)
    · refine y_iconst rfl ?_
      refine y_ireturn rfl rfl ?_
      exact ⟨hHU1, hFU1, _, rfl, ⟨by omega, by omega⟩, (by first | (have u := K47; exact ftg_o e6 (by omega) (by omega) k47 (by omega) (by omega)) | exact ftg_d e6 (by omega) (by omega) (by omega) | exact ftg_n e6 (by omega) (by omega) (by omega))⟩
    · refine y_aload_n rfl rfl ?_
      refine y_gfr rfl rfl rfl rfl rfl (hHU1.r 882 2 20 rfl) ?_
      refine y_aload_n rfl rfl ?_
      refine y_gfi rfl rfl rfl rfl rfl ?_
      refine y_iload_n rfl rfl ?_
      refine y_callV rfl rfl rfl (t_wo_isA__p hHU1 (Xi U1 882 13) kind ⟨by omega, by omega⟩ ⟨by omega, by omega⟩ _) ?_
      rintro _ _ ⟨rfl, z8, rfl, w8, q47⟩
      show Pl _ _ _ _ _ _ [iv z8] _ _
      have K47 : True := trivial
      have k47 : z8 = isK S (Xi S 21 (meant % 256).toNat) kind := q47.trans ((isK_F (FR_e e6) rfl _ _).trans (by rw [((FR_e e6).cx 21 rfl _).1, show Xi U1 882 13 = meant % 256 from by rw [e6]; exact Xi_same ⟨by omega, by omega⟩]))
      refine y_if_eq rfl rfl (by unfold rg; omega) (fun w9 => ?_) (fun w10 => ?_)
      · refine y_iconst rfl ?_
        refine y_ireturn rfl rfl ?_
        exact ⟨hHU1, hFU1, _, rfl, ⟨by omega, by omega⟩, (by first | (have u := K47; exact ftg_o e6 (by omega) (by omega) k47 (by omega) (by omega)) | exact ftg_d e6 (by omega) (by omega) (by omega) | exact ftg_n e6 (by omega) (by omega) (by omega))⟩
      · refine y_iconst rfl ?_
        refine y_goto rfl rfl ?_
        refine y_ireturn rfl rfl ?_
        exact ⟨hHU1, hFU1, _, rfl, ⟨by omega, by omega⟩, (by first | (have u := K47; exact ftg_o e6 (by omega) (by omega) k47 (by omega) (by omega)) | exact ftg_d e6 (by omega) (by omega) (by omega) | exact ftg_n e6 (by omega) (by omega) (by omega))⟩
  · refine y_iload_n rfl rfl ?_
    refine y_bipush rfl rfl ?_
    refine y_ishr8 rfl (by unfold rg; omega) ?_
    refine y_bipush rfl rfl ?_
    refine y_icmp_ne rfl rfl (by unfold rg; omega) (by unfold rg; omega) (fun w12 => ?_) (fun w13 => ?_)
    · refine y_iconst rfl ?_
      refine y_ireturn rfl rfl ?_
      exact ⟨hHU1, hFU1, _, rfl, ⟨by omega, by omega⟩, (by first | (have u := K47; exact ftg_o e6 (by omega) (by omega) k47 (by omega) (by omega)) | exact ftg_d e6 (by omega) (by omega) (by omega) | exact ftg_n e6 (by omega) (by omega) (by omega))⟩
    · refine y_iconst rfl ?_
      refine y_goto rfl rfl ?_
      refine y_ireturn rfl rfl ?_
      exact ⟨hHU1, hFU1, _, rfl, ⟨by omega, by omega⟩, (by first | (have u := K47; exact ftg_o e6 (by omega) (by omega) k47 (by omega) (by omega)) | exact ftg_d e6 (by omega) (by omega) (by omega) | exact ftg_n e6 (by omega) (by omega) (by omega))⟩
def md_co_fits__p : List rec := [(882, 883, 13, 14)]
abbrev Q_co_fits__p (S : sS) (i : Int) : pst := fun r S1 => RI S1 ∧ FR md_co_fits__p S S1 ∧ (∃ z : Int, r = some (iv z) ∧ (0 ≤ z ∧ z ≤ 1) ∧ (FTC S S1 z i))
set_option maxRecDepth 100000 in
theorem t_co_fits__p {S : sS} (hH : RI S) (i : Int) (hi : 0 ≤ i ∧ i ≤ 19) (h13 : 0 ≤ Xi S 1 3 ∧ Xi S 1 3 ≤ 200) (hCE : CEN S) (hg : Xi S 885 i.toNat = -1 ∨ (0 ≤ Xi S 885 i.toNat ∧ Xi S 885 i.toNat < Xi S 884 i.toNat)) (hn : 0 ≤ Xi S 882 12 ∧ Xi S 882 12 ≤ 50) (hsz : 0 ≤ Xi S 884 i.toNat ∧ Xi S 884 i.toNat ≤ 8) (d : Nat) : Mp lay0 (d + 4) m_co_fits [.ref 882, iv i] S (Q_co_fits__p S i) := by
  refine Mp_R rfl rfl (fun fu => ?_)
  have hF : FR md_co_fits__p S S := FR.rf
  have w1 : -2147483648 ≤ Xi S 1 3 ∧ Xi S 1 3 ≤ 2147483647 := Xi_rgI
  have w2 : -2147483648 ≤ Xi S 882 12 ∧ Xi S 882 12 ≤ 2147483647 := Xi_rgI
  have C74 : ∀ (n74 : Nat) (_ : n74 ≤ fu) (T1 : sS) (_ : RI T1) (_ : FR md_co_fits__p S T1) (v2 : Int) (v3 : Int) (v4 : Int), (-2147483648 ≤ v2 ∧ v2 ≤ 2147483647) → (-2147483648 ≤ v3 ∧ v3 ≤ 2147483647) → (0 ≤ v4 ∧ v4 ≤ 8) → (0 ≤ v4 ∧ v4 ≤ Xi S 884 i.toNat) → (v2 = Xi S 882 12 - Xi S 884 i.toNat) → (v3 = fst7 S i) → (T1 = uI S 882 13 (Int32.ofInt (-1))) → (FOK S i) → (Hid (FWD S i v4)) → Pl n74 lay0 (d + 3) m_co_fits 74 [(0, .ref 882), (1, iv i), (2, iv v2), (3, iv v3), (4, iv v4)] [] T1 (Q_co_fits__p S i) := by
    intro n74
    induction n74 with
    | zero => intros; exact Pl_0
    | succ n74 ih74 =>
      intro hm74 T1 hHT1 hFT1 v2 v3 v4 w3 w4 w5 w6 e74 f74 E74 O74 W74
      have w7 : Xi T1 1 3 = Xi S 1 3 := hFT1.x _ _ rfl
      have w8 : Xi T1 882 12 = Xi S 882 12 := hFT1.x _ _ rfl
      refine ys_iload rfl rfl ?_
      refine y_aload_n rfl rfl ?_
      refine y_gfr rfl rfl rfl rfl rfl (hHT1.r 882 5 884 rfl) ?_
      refine y_iload_n rfl rfl ?_
      refine y_ialoadP (n := 20) rfl rfl (by unfold rg; omega) (fun w9 w10 => ?_)
      have w11 : -2147483648 ≤ (Xi T1 884 ((i).toNat)) ∧ (Xi T1 884 ((i).toNat)) ≤ 2147483647 := Xi_rgI
      have y81 : Xi T1 884 i.toNat = Xi S 884 i.toNat := (hFT1.cx 884 rfl _).1
      refine y_icmp_ge rfl rfl (by unfold rg; omega) (by unfold rg; omega) (fun w12 => ?_) (fun w13 => ?_)
      · refine y_aload_n rfl rfl ?_
        refine y_gfr rfl rfl rfl rfl rfl (hHT1.r 882 6 885 rfl) ?_
        refine y_iload_n rfl rfl ?_
        refine y_ialoadP (n := 20) rfl rfl (by unfold rg; omega) (fun w14 w15 => ?_)
        have w16 : -2147483648 ≤ (Xi T1 885 ((i).toNat)) ∧ (Xi T1 885 ((i).toNat)) ≤ 2147483647 := Xi_rgI
        have K145 : True := trivial
        have y145 : Xi T1 885 i.toNat = Xi S 885 i.toNat := (hFT1.cx 885 rfl _).1
        have W145 : FWD S i (Xi S 884 i.toNat) := fwd_e W74.o (by omega)
        refine y_iconst rfl ?_
        refine y_icmp_eq rfl rfl (by unfold rg; omega) (by unfold rg; omega) (fun w17 => ?_) (fun w18 => ?_)
        · refine y_iconst rfl ?_
          refine y_goto rfl rfl ?_
          refine y_ireturn rfl rfl ?_
          exact ⟨hHT1, hFT1, _, rfl, ⟨by omega, by omega⟩, (by first | (have u := K174; exact ftc_g E74 m171 y156 (by first | exact o174 | (rw [show (1 : Int) = z174 by omega]; exact o174) | (rw [show (0 : Int) = z174 by omega]; exact o174)) O74 W145 (by omega)) | (have u := K145; exact ftc_p E74 O74 W145 (by omega) rfl) | exact ftc_n N132 rfl | exact ftc_n N69 rfl)⟩
        · refine y_aload_n rfl rfl ?_
          refine y_aload_n rfl rfl ?_
          refine y_gfr rfl rfl rfl rfl rfl (hHT1.r 882 7 886 rfl) ?_
          refine y_iload_n rfl rfl ?_
          refine y_ialoadP (n := 20) rfl rfl (by unfold rg; omega) (fun w19 w20 => ?_)
          have w21 : -2147483648 ≤ (Xi T1 886 ((i).toNat)) ∧ (Xi T1 886 ((i).toNat)) ≤ 2147483647 := Xi_rgI
          have y156 : Xi T1 886 i.toNat = Xi S 886 i.toNat := (hFT1.cx 886 rfl _).1
          have v156 : v3 = Xi S 885 i.toNat := f74.trans (if_neg (by omega))
          have o156 := O74.2 (by omega)
          refine y_aload_n rfl rfl ?_
          refine y_gfr rfl rfl rfl rfl rfl (hHT1.r 882 1 1 rfl) ?_
          refine y_aload_n rfl rfl ?_
          refine y_gfr rfl rfl rfl rfl rfl (hHT1.r 882 11 889 rfl) ?_
          refine y_iload_n rfl rfl ?_
          refine y_iload_n rfl rfl ?_
          refine y_iload_n rfl rfl ?_
          refine y_iadd rfl ?_
          refine y_iconst rfl ?_
          refine y_iadd rfl ?_
          refine y_callV rfl rfl rfl (t_vo_meaning__p hHT1 889 50 v3 ((v3 + v2) + 1) rfl ⟨by omega, by omega⟩ ⟨by omega, by omega⟩ ⟨by omega, by omega⟩ (by first | assumption | omega) (by first | assumption | exact (CEN_FR hFT1 rfl rfl (by assumption : CEN S))) _) ?_
          rintro _ _ ⟨rfl, z22, rfl, w22, f171, n171⟩
          show Pl _ _ _ _ _ _ [iv z22, iv (Xi T1 886 ((i).toNat)), .ref 882] _ _
          have m171 : z22 = mt7 S i := by have u := f171 (by omega) (by omega) (by omega) (by omega); rw [v156, show Xi S 885 i.toNat + v2 + 1 - Xi S 885 i.toNat = Xi S 882 12 - Xi S 884 i.toNat + 1 by omega] at u; exact u.trans (mnR_9 (hFT1.x 1 3 rfl) (fun k q j => by rcases q with q | q | q | q <;> subst q; exact hFT1.cx 2 rfl j; exact hFT1.cx 3 rfl j; exact hFT1.cx 4 rfl j; exact hFT1.cx 889 rfl j) _ _)
          refine y_callV rfl rfl rfl (t_co_fitsGap__p hHT1 (Xi T1 886 ((i).toNat)) z22 ⟨by omega, by omega⟩ ⟨by omega, by omega⟩ _) ?_
          rintro _ T2 ⟨hHT2, w24, z23, rfl, w23, o174⟩
          have hFT2 : FR md_co_fits__p S T2 := FR.tr hFT1 w24 rfl
          show Pl _ _ _ _ _ _ [iv z23] _ _
          have K174 : True := trivial
          obtain ⟨z174, ez174⟩ : ∃ q : Int, q = z23 := ⟨_, rfl⟩
          rw [← ez174] at o174
          refine y_if_eq rfl rfl (by unfold rg; omega) (fun w25 => ?_) (fun w26 => ?_)
          · refine y_iconst rfl ?_
            refine y_ireturn rfl rfl ?_
            exact ⟨hHT2, hFT2, _, rfl, ⟨by omega, by omega⟩, (by first | (have u := K174; exact ftc_g E74 m171 y156 (by first | exact o174 | (rw [show (1 : Int) = z174 by omega]; exact o174) | (rw [show (0 : Int) = z174 by omega]; exact o174)) O74 W145 (by omega)) | (have u := K145; exact ftc_p E74 O74 W145 (by omega) rfl) | exact ftc_n N132 rfl | exact ftc_n N69 rfl)⟩
          · refine y_iconst rfl ?_
            refine y_goto rfl rfl ?_
            refine y_ireturn rfl rfl ?_
            exact ⟨hHT2, hFT2, _, rfl, ⟨by omega, by omega⟩, (by first | (have u := K174; exact ftc_g E74 m171 y156 (by first | exact o174 | (rw [show (1 : Int) = z174 by omega]; exact o174) | (rw [show (0 : Int) = z174 by omega]; exact o174)) O74 W145 (by omega)) | (have u := K145; exact ftc_p E74 O74 W145 (by omega) rfl) | exact ftc_n N132 rfl | exact ftc_n N69 rfl)⟩
      · refine y_iload rfl rfl ?_
        refine y_aload_n rfl rfl ?_
        refine y_gfr rfl rfl rfl rfl rfl (hHT1.r 882 6 885 rfl) ?_
        refine y_iload_n rfl rfl ?_
        refine y_ialoadP (n := 20) rfl rfl (by unfold rg; omega) (fun w27 w28 => ?_)
        have w29 : -2147483648 ≤ (Xi T1 885 ((i).toNat)) ∧ (Xi T1 885 ((i).toNat)) ≤ 2147483647 := Xi_rgI
        have y92 : Xi T1 885 i.toNat = Xi S 885 i.toNat := (hFT1.cx 885 rfl _).1
        refine y_icmp_eq rfl rfl (by unfold rg; omega) (by unfold rg; omega) (fun w30 => ?_) (fun w31 => ?_)
        · refine y_iinc rfl rfl rfl rfl ?_
          have W134 : Hid (FWD S i (v4 + 1)) := by first | (have u := K126; exact fwd_b W74.o (by omega) (by rw [← e74, ← y107, ← y127]; omega)) | (have u := K107; exact fwd_a W74.o (by omega) (by rw [← y107, ← y127]; omega)) | exact fwd_g W74.o (by omega)
          refine y_goto rfl rfl ?_
          exact Pl_weak (ih74 (by omega) T1 hHT1 hFT1 (v2) (v3) ((v4 + 1)) (by omega) (by omega) (by omega) (by omega) (by first | exact e74 | rfl) (by first | exact f74 | exact (if_pos (show Xi S 885 i.toNat = -1 by omega)).symm | exact (if_neg (show ¬ Xi S 885 i.toNat = -1 by omega)).symm) (by first | exact E74 | exact e40) (by first | exact O74 | exact ⟨fun q => by omega, fun q => by omega⟩) (by first | exact W134 | exact fwd_0)) (by omega) (And.intro rfl (And.intro rfl (And.intro rfl (And.intro rfl (And.intro rfl (True.intro))))))
        · refine y_aload_n rfl rfl ?_
          refine y_gfr rfl rfl rfl rfl rfl (hHT1.r 882 8 887 rfl) ?_
          refine y_iload_n rfl rfl ?_
          refine y_bipush rfl rfl ?_
          refine y_imul rfl ?_
          refine y_iload rfl rfl ?_
          refine y_iadd rfl ?_
          refine y_laloadP (n := 160) rfl rfl (by unfold rg; omega) (fun w32 w33 => ?_)
          have w34 : -9223372036854775808 ≤ (Xj T1 887 ((((i * 8) + v4)).toNat)) ∧ (Xj T1 887 ((((i * 8) + v4)).toNat)) < 9223372036854775808 := Xj_rg
          have K107 : True := trivial
          have y107 : Xj T1 887 (i * 8 + v4).toNat = Xj S 887 (i * 8 + v4).toNat := (hFT1.cx 887 rfl _).2
          refine y_aload_n rfl rfl ?_
          refine y_gfr rfl rfl rfl rfl rfl (hHT1.r 882 11 889 rfl) ?_
          refine y_iload rfl rfl ?_
          refine y_iload_n rfl rfl ?_
          refine y_icmp_ge rfl rfl (by unfold rg; omega) (by unfold rg; omega) (fun w35 => ?_) (fun w36 => ?_)
          · refine y_iload rfl rfl ?_
            refine y_iload_n rfl rfl ?_
            refine y_iadd rfl ?_
            have K126 : True := trivial
            refine y_laloadP (n := 50) rfl rfl (by unfold rg; omega) (fun w37 w38 => ?_)
            have w39 : -9223372036854775808 ≤ (Xj T1 889 (((v4 + v2)).toNat)) ∧ (Xj T1 889 (((v4 + v2)).toNat)) < 9223372036854775808 := Xj_rg
            have y127 : ∀ j, Xj T1 889 j = Xj S 889 j := fun j => (hFT1.cx 889 rfl j).2
            refine y_lcmp rfl (by unfold rgL; omega) (by unfold rgL; omega) (fun c40 w40 w40a w40b w40c => ?_)
            refine y_if_eq rfl rfl (by unfold rg; omega) (fun w41 => ?_) (fun w42 => ?_)
            · refine y_iinc rfl rfl rfl rfl ?_
              have W134 : Hid (FWD S i (v4 + 1)) := by first | (have u := K126; exact fwd_b W74.o (by omega) (by rw [← e74, ← y107, ← y127]; omega)) | (have u := K107; exact fwd_a W74.o (by omega) (by rw [← y107, ← y127]; omega)) | exact fwd_g W74.o (by omega)
              refine y_goto rfl rfl ?_
              exact Pl_weak (ih74 (by omega) T1 hHT1 hFT1 (v2) (v3) ((v4 + 1)) (by omega) (by omega) (by omega) (by omega) (by first | exact e74 | rfl) (by first | exact f74 | exact (if_pos (show Xi S 885 i.toNat = -1 by omega)).symm | exact (if_neg (show ¬ Xi S 885 i.toNat = -1 by omega)).symm) (by first | exact E74 | exact e40) (by first | exact O74 | exact ⟨fun q => by omega, fun q => by omega⟩) (by first | exact W134 | exact fwd_0)) (by omega) (And.intro rfl (And.intro rfl (And.intro rfl (And.intro rfl (And.intro rfl (True.intro))))))
            · refine y_iconst rfl ?_
              have N132 : ¬ FTR S i := by first | (have u := K126; exact ftr_b (v := v4) (by omega) (by omega) (by omega) (by omega) (by rw [← e74, ← y107, ← y127]; omega)) | exact ftr_a (v := v4) (by omega) (by omega) (by omega) (by omega) (by rw [← y107, ← y127]; omega)
              refine y_ireturn rfl rfl ?_
              exact ⟨hHT1, hFT1, _, rfl, ⟨by omega, by omega⟩, (by first | (have u := K174; exact ftc_g E74 m171 y156 (by first | exact o174 | (rw [show (1 : Int) = z174 by omega]; exact o174) | (rw [show (0 : Int) = z174 by omega]; exact o174)) O74 W145 (by omega)) | (have u := K145; exact ftc_p E74 O74 W145 (by omega) rfl) | exact ftc_n N132 rfl | exact ftc_n N69 rfl)⟩
          · refine y_iload rfl rfl ?_
            refine y_goto rfl rfl ?_
            refine y_laloadP (n := 50) rfl rfl (by unfold rg; omega) (fun w43 w44 => ?_)
            have w45 : -9223372036854775808 ≤ (Xj T1 889 ((v4).toNat)) ∧ (Xj T1 889 ((v4).toNat)) < 9223372036854775808 := Xj_rg
            have y127 : ∀ j, Xj T1 889 j = Xj S 889 j := fun j => (hFT1.cx 889 rfl j).2
            refine y_lcmp rfl (by unfold rgL; omega) (by unfold rgL; omega) (fun c46 w46 w46a w46b w46c => ?_)
            refine y_if_eq rfl rfl (by unfold rg; omega) (fun w47 => ?_) (fun w48 => ?_)
            · refine y_iinc rfl rfl rfl rfl ?_
              have W134 : Hid (FWD S i (v4 + 1)) := by first | (have u := K126; exact fwd_b W74.o (by omega) (by rw [← e74, ← y107, ← y127]; omega)) | (have u := K107; exact fwd_a W74.o (by omega) (by rw [← y107, ← y127]; omega)) | exact fwd_g W74.o (by omega)
              refine y_goto rfl rfl ?_
              exact Pl_weak (ih74 (by omega) T1 hHT1 hFT1 (v2) (v3) ((v4 + 1)) (by omega) (by omega) (by omega) (by omega) (by first | exact e74 | rfl) (by first | exact f74 | exact (if_pos (show Xi S 885 i.toNat = -1 by omega)).symm | exact (if_neg (show ¬ Xi S 885 i.toNat = -1 by omega)).symm) (by first | exact E74 | exact e40) (by first | exact O74 | exact ⟨fun q => by omega, fun q => by omega⟩) (by first | exact W134 | exact fwd_0)) (by omega) (And.intro rfl (And.intro rfl (And.intro rfl (And.intro rfl (And.intro rfl (True.intro))))))
            · refine y_iconst rfl ?_
              have N132 : ¬ FTR S i := by first | (have u := K126; exact ftr_b (v := v4) (by omega) (by omega) (by omega) (by omega) (by rw [← e74, ← y107, ← y127]; omega)) | exact ftr_a (v := v4) (by omega) (by omega) (by omega) (by omega) (by rw [← y107, ← y127]; omega)
              refine y_ireturn rfl rfl ?_
              exact ⟨hHT1, hFT1, _, rfl, ⟨by omega, by omega⟩, (by first | (have u := K174; exact ftc_g E74 m171 y156 (by first | exact o174 | (rw [show (1 : Int) = z174 by omega]; exact o174) | (rw [show (0 : Int) = z174 by omega]; exact o174)) O74 W145 (by omega)) | (have u := K145; exact ftc_p E74 O74 W145 (by omega) rfl) | exact ftc_n N132 rfl | exact ftc_n N69 rfl)⟩
  refine y_aload_n rfl rfl ?_
  refine y_gfi rfl rfl rfl rfl rfl ?_
  refine y_aload_n rfl rfl ?_
  refine y_gfr rfl rfl rfl rfl rfl (hH.r 882 5 884 rfl) ?_
  refine y_iload_n rfl rfl ?_
  refine y_ialoadP (n := 20) rfl rfl (by unfold rg; omega) (fun w49 w50 => ?_)
  have w51 : -2147483648 ≤ (Xi S 884 ((i).toNat)) ∧ (Xi S 884 ((i).toNat)) ≤ 2147483647 := Xi_rgI
  refine y_isub rfl ?_
  refine y_istore_n rfl rfl rfl ?_
  refine y_aload_n rfl rfl ?_
  refine y_gfr rfl rfl rfl rfl rfl (hH.r 882 6 885 rfl) ?_
  refine y_iload_n rfl rfl ?_
  refine y_ialoadP (n := 20) rfl rfl (by unfold rg; omega) (fun w52 w53 => ?_)
  have w54 : -2147483648 ≤ (Xi S 885 ((i).toNat)) ∧ (Xi S 885 ((i).toNat)) ≤ 2147483647 := Xi_rgI
  refine y_iconst rfl ?_
  refine y_icmp_ne rfl rfl (by unfold rg; omega) (by unfold rg; omega) (fun w55 => ?_) (fun w56 => ?_)
  · refine y_aload_n rfl rfl ?_
    refine y_gfr rfl rfl rfl rfl rfl (hH.r 882 6 885 rfl) ?_
    refine y_iload_n rfl rfl ?_
    refine y_ialoadP (n := 20) rfl rfl (by unfold rg; omega) (fun w57 w58 => ?_)
    refine y_istore_n rfl rfl rfl ?_
    refine y_aload_n rfl rfl ?_
    refine y_iconst rfl ?_
    refine y_pfi rfl rfl rfl rfl ?_
    obtain ⟨U3, eU3⟩ : ∃ T : sS, T = uI S 882 13 (Int32.ofInt (-1)) := ⟨_, rfl⟩
    rw [← eU3]
    have hHU3 : RI U3 := by rw [eU3]; exact RI_w hH
    have hFU3 : FR md_co_fits__p S U3 := by rw [eU3]; exact FR.wI hF (mdf_i (r := (882, 883, 13, 14)) (List.mem_of_getElem? (i := 0) rfl) (inR_i (by omega) (by omega) (by omega) (by omega)))
    have w59 : Xi U3 882 13 = (-1) := by rw [eU3]; exact Xi_same (by unfold rg; omega)
    have e40 := eU3
    refine y_aload_n rfl rfl ?_
    refine y_gfr rfl rfl rfl rfl rfl (hHU3.r 882 6 885 rfl) ?_
    refine y_iload_n rfl rfl ?_
    refine y_ialoadP (n := 20) rfl rfl (by unfold rg; omega) (fun w60 w61 => ?_)
    have w62 : (Xi U3 885 ((i).toNat)) = (Xi S 885 ((i).toNat)) := (show Xi U3 885 ((i).toNat) = Xi S 885 ((i).toNat) from by rw [eU3]; exact Xi_ne (by omega))
    rw [w62]
    refine y_iconst rfl ?_
    refine y_icmp_ne rfl rfl (by unfold rg; omega) (by unfold rg; omega) (fun w63 => ?_) (fun w64 => ?_)
    · refine y_iload_n rfl rfl ?_
      refine y_if_lt rfl rfl (by unfold rg; omega) (fun w65 => ?_) (fun w66 => ?_)
      · refine y_iconst rfl ?_
        have N69 : ¬ FTR S i := fun q => by have a := q.1.1; have b := q.1.2; omega
        refine y_ireturn rfl rfl ?_
        exact ⟨hHU3, hFU3, _, rfl, ⟨by omega, by omega⟩, (by first | (have u := K174; exact ftc_g E74 m171 y156 (by first | exact o174 | (rw [show (1 : Int) = z174 by omega]; exact o174) | (rw [show (0 : Int) = z174 by omega]; exact o174)) O74 W145 (by omega)) | (have u := K145; exact ftc_p E74 O74 W145 (by omega) rfl) | exact ftc_n N132 rfl | exact ftc_n N69 rfl)⟩
      · refine y_iload_n rfl rfl ?_
        refine y_iconst rfl ?_
        refine y_icmp_lt rfl rfl (by unfold rg; omega) (by unfold rg; omega) (fun w67 => ?_) (fun w68 => ?_)
        · refine y_iconst rfl ?_
          refine y_istore rfl rfl rfl ?_
          exact Pl_weak (C74 fu (by omega) U3 hHU3 hFU3 (((Xi S 882 12) - (Xi S 884 ((i).toNat)))) ((Xi S 885 ((i).toNat))) (0) (by omega) (by omega) (by omega) (by omega) (by first | exact e74 | rfl) (by first | exact f74 | exact (if_pos (show Xi S 885 i.toNat = -1 by omega)).symm | exact (if_neg (show ¬ Xi S 885 i.toNat = -1 by omega)).symm) (by first | exact E74 | exact e40) (by first | exact O74 | exact ⟨fun q => by omega, fun q => by omega⟩) (by first | exact W134 | exact fwd_0)) (by omega) (And.intro rfl (And.intro rfl (And.intro rfl (And.intro rfl (And.intro rfl (True.intro))))))
        · refine y_iconst rfl ?_
          have N69 : ¬ FTR S i := fun q => by have a := q.1.1; have b := q.1.2; omega
          refine y_ireturn rfl rfl ?_
          exact ⟨hHU3, hFU3, _, rfl, ⟨by omega, by omega⟩, (by first | (have u := K174; exact ftc_g E74 m171 y156 (by first | exact o174 | (rw [show (1 : Int) = z174 by omega]; exact o174) | (rw [show (0 : Int) = z174 by omega]; exact o174)) O74 W145 (by omega)) | (have u := K145; exact ftc_p E74 O74 W145 (by omega) rfl) | exact ftc_n N132 rfl | exact ftc_n N69 rfl)⟩
    · refine y_iload_n rfl rfl ?_
      refine y_if_eq rfl rfl (by unfold rg; omega) (fun w69 => ?_) (fun w70 => ?_)
      · refine y_iconst rfl ?_
        refine y_istore rfl rfl rfl ?_
        exact Pl_weak (C74 fu (by omega) U3 hHU3 hFU3 (((Xi S 882 12) - (Xi S 884 ((i).toNat)))) ((Xi S 885 ((i).toNat))) (0) (by omega) (by omega) (by omega) (by omega) (by first | exact e74 | rfl) (by first | exact f74 | exact (if_pos (show Xi S 885 i.toNat = -1 by omega)).symm | exact (if_neg (show ¬ Xi S 885 i.toNat = -1 by omega)).symm) (by first | exact E74 | exact e40) (by first | exact O74 | exact ⟨fun q => by omega, fun q => by omega⟩) (by first | exact W134 | exact fwd_0)) (by omega) (And.intro rfl (And.intro rfl (And.intro rfl (And.intro rfl (And.intro rfl (True.intro))))))
      · refine y_goto rfl rfl ?_
        refine y_iconst rfl ?_
        have N69 : ¬ FTR S i := fun q => by have a := q.1.1; have b := q.1.2; omega
        refine y_ireturn rfl rfl ?_
        exact ⟨hHU3, hFU3, _, rfl, ⟨by omega, by omega⟩, (by first | (have u := K174; exact ftc_g E74 m171 y156 (by first | exact o174 | (rw [show (1 : Int) = z174 by omega]; exact o174) | (rw [show (0 : Int) = z174 by omega]; exact o174)) O74 W145 (by omega)) | (have u := K145; exact ftc_p E74 O74 W145 (by omega) rfl) | exact ftc_n N132 rfl | exact ftc_n N69 rfl)⟩
  · refine y_aload_n rfl rfl ?_
    refine y_gfr rfl rfl rfl rfl rfl (hH.r 882 5 884 rfl) ?_
    refine y_iload_n rfl rfl ?_
    refine y_ialoadP (n := 20) rfl rfl (by unfold rg; omega) (fun w71 w72 => ?_)
    refine y_goto rfl rfl ?_
    refine y_istore_n rfl rfl rfl ?_
    refine y_aload_n rfl rfl ?_
    refine y_iconst rfl ?_
    refine y_pfi rfl rfl rfl rfl ?_
    obtain ⟨U4, eU4⟩ : ∃ T : sS, T = uI S 882 13 (Int32.ofInt (-1)) := ⟨_, rfl⟩
    rw [← eU4]
    have hHU4 : RI U4 := by rw [eU4]; exact RI_w hH
    have hFU4 : FR md_co_fits__p S U4 := by rw [eU4]; exact FR.wI hF (mdf_i (r := (882, 883, 13, 14)) (List.mem_of_getElem? (i := 0) rfl) (inR_i (by omega) (by omega) (by omega) (by omega)))
    have w73 : Xi U4 882 13 = (-1) := by rw [eU4]; exact Xi_same (by unfold rg; omega)
    have e40 := eU4
    refine y_aload_n rfl rfl ?_
    refine y_gfr rfl rfl rfl rfl rfl (hHU4.r 882 6 885 rfl) ?_
    refine y_iload_n rfl rfl ?_
    refine y_ialoadP (n := 20) rfl rfl (by unfold rg; omega) (fun w74 w75 => ?_)
    have w76 : (Xi U4 885 ((i).toNat)) = (Xi S 885 ((i).toNat)) := (show Xi U4 885 ((i).toNat) = Xi S 885 ((i).toNat) from by rw [eU4]; exact Xi_ne (by omega))
    rw [w76]
    refine y_iconst rfl ?_
    refine y_icmp_ne rfl rfl (by unfold rg; omega) (by unfold rg; omega) (fun w77 => ?_) (fun w78 => ?_)
    · refine y_iload_n rfl rfl ?_
      refine y_if_lt rfl rfl (by unfold rg; omega) (fun w79 => ?_) (fun w80 => ?_)
      · refine y_iconst rfl ?_
        have N69 : ¬ FTR S i := fun q => by have a := q.1.1; have b := q.1.2; omega
        refine y_ireturn rfl rfl ?_
        exact ⟨hHU4, hFU4, _, rfl, ⟨by omega, by omega⟩, (by first | (have u := K174; exact ftc_g E74 m171 y156 (by first | exact o174 | (rw [show (1 : Int) = z174 by omega]; exact o174) | (rw [show (0 : Int) = z174 by omega]; exact o174)) O74 W145 (by omega)) | (have u := K145; exact ftc_p E74 O74 W145 (by omega) rfl) | exact ftc_n N132 rfl | exact ftc_n N69 rfl)⟩
      · refine y_iload_n rfl rfl ?_
        refine y_iconst rfl ?_
        refine y_icmp_lt rfl rfl (by unfold rg; omega) (by unfold rg; omega) (fun w81 => ?_) (fun w82 => ?_)
        · refine y_iconst rfl ?_
          refine y_istore rfl rfl rfl ?_
          exact Pl_weak (C74 fu (by omega) U4 hHU4 hFU4 (((Xi S 882 12) - (Xi S 884 ((i).toNat)))) ((Xi S 884 ((i).toNat))) (0) (by omega) (by omega) (by omega) (by omega) (by first | exact e74 | rfl) (by first | exact f74 | exact (if_pos (show Xi S 885 i.toNat = -1 by omega)).symm | exact (if_neg (show ¬ Xi S 885 i.toNat = -1 by omega)).symm) (by first | exact E74 | exact e40) (by first | exact O74 | exact ⟨fun q => by omega, fun q => by omega⟩) (by first | exact W134 | exact fwd_0)) (by omega) (And.intro rfl (And.intro rfl (And.intro rfl (And.intro rfl (And.intro rfl (True.intro))))))
        · refine y_iconst rfl ?_
          have N69 : ¬ FTR S i := fun q => by have a := q.1.1; have b := q.1.2; omega
          refine y_ireturn rfl rfl ?_
          exact ⟨hHU4, hFU4, _, rfl, ⟨by omega, by omega⟩, (by first | (have u := K174; exact ftc_g E74 m171 y156 (by first | exact o174 | (rw [show (1 : Int) = z174 by omega]; exact o174) | (rw [show (0 : Int) = z174 by omega]; exact o174)) O74 W145 (by omega)) | (have u := K145; exact ftc_p E74 O74 W145 (by omega) rfl) | exact ftc_n N132 rfl | exact ftc_n N69 rfl)⟩
    · refine y_iload_n rfl rfl ?_
      refine y_if_eq rfl rfl (by unfold rg; omega) (fun w83 => ?_) (fun w84 => ?_)
      · refine y_iconst rfl ?_
        refine y_istore rfl rfl rfl ?_
        exact Pl_weak (C74 fu (by omega) U4 hHU4 hFU4 (((Xi S 882 12) - (Xi S 884 ((i).toNat)))) ((Xi S 884 ((i).toNat))) (0) (by omega) (by omega) (by omega) (by omega) (by first | exact e74 | rfl) (by first | exact f74 | exact (if_pos (show Xi S 885 i.toNat = -1 by omega)).symm | exact (if_neg (show ¬ Xi S 885 i.toNat = -1 by omega)).symm) (by first | exact E74 | exact e40) (by first | exact O74 | exact ⟨fun q => by omega, fun q => by omega⟩) (by first | exact W134 | exact fwd_0)) (by omega) (And.intro rfl (And.intro rfl (And.intro rfl (And.intro rfl (And.intro rfl (True.intro))))))
      · refine y_goto rfl rfl ?_
        refine y_iconst rfl ?_
        have N69 : ¬ FTR S i := fun q => by have a := q.1.1; have b := q.1.2; omega
        refine y_ireturn rfl rfl ?_
        exact ⟨hHU4, hFU4, _, rfl, ⟨by omega, by omega⟩, (by first | (have u := K174; exact ftc_g E74 m171 y156 (by first | exact o174 | (rw [show (1 : Int) = z174 by omega]; exact o174) | (rw [show (0 : Int) = z174 by omega]; exact o174)) O74 W145 (by omega)) | (have u := K145; exact ftc_p E74 O74 W145 (by omega) rfl) | exact ftc_n N132 rfl | exact ftc_n N69 rfl)⟩
end
section
/-- how many words stand in the gap -/
def fqm (S : sS) (c : Int) : Int := 1 + (Xi S 904 164 - Xi S 947 c.toNat)
/-- what is found for the words in the gap -/
noncomputable def fqe (S : sS) (c a : Int) : Int := fdR S (Xj S 995 a.toNat) (if 1 < fqm S c then Xj S 995 (a + 1).toNat else 0) (if 2 < fqm S c then Xj S 995 (a + 2).toNat else 0) (fqm S c) (Xi S 904 15).toNat
def FQE (S : sS) (c e : Int) : Prop := e ≠ -1 ∧ (Xi S 949 c.toNat = -2 → Xi S 914 e.toNat = 12) ∧ (Xi S 949 c.toNat ≠ -2 → Xi S 914 e.toNat = 4 ∧ blR S (Xi S 918 (Xi S 915 e.toNat).toNat) (Xi S 949 c.toNat) ≠ 0)
def FQS (S : sS) (c : Int) (j : Nat) (a n a' n' : Int) : Prop :=
  (Xj S 948 (8 * c + j).toNat ≠ 0 → a < Xi S 904 164 ∧ Xj S 995 a.toNat = Xj S 948 (8 * c + j).toNat ∧ a' = a + 1 ∧ n' = n) ∧
  (Xj S 948 (8 * c + j).toNat = 0 → (1 ≤ fqm S c ∧ fqm S c ≤ 3 ∧ a + fqm S c ≤ Xi S 904 164) ∧ FQE S c (fqe S c a) ∧ a' = a + fqm S c ∧ n' = Xi S 915 (fqe S c a).toNat)
/-- j words of the command are said: behind them a, the noun n -/
def FQC (S : sS) (c : Int) : Nat → Int → Int → Prop
  | 0, a, n => a = 0 ∧ n = -1
  | j + 1, a', n' => ∃ a n, FQC S c j a n ∧ FQS S c j a n a' n'
def FQO (S S1 : sS) (z c : Int) : Prop := (z = 1 → FQC S c (Xi S 947 c.toNat).toNat (Xi S 904 164) (Xi S1 904 165)) ∧ (z = 0 → ∀ n, ¬ FQC S c (Xi S 947 c.toNat).toNat (Xi S 904 164) n)
theorem fqs_det {S : sS} {c a n a1 n1 a2 n2 : Int} {j : Nat} (h : FQS S c j a n a1 n1) (g : FQS S c j a n a2 n2) : a1 = a2 ∧ n1 = n2 := by
  by_cases q : Xj S 948 (8 * c + j).toNat = 0
  · obtain ⟨_, _, x, y⟩ := h.2 q
    obtain ⟨_, _, u, v⟩ := g.2 q
    exact ⟨x.trans u.symm, y.trans v.symm⟩
  · obtain ⟨_, _, x, y⟩ := h.1 q
    obtain ⟨_, _, u, v⟩ := g.1 q
    exact ⟨x.trans u.symm, y.trans v.symm⟩
theorem fqc_det {S : sS} {c : Int} : ∀ (j : Nat) {a1 n1 a2 n2 : Int}, FQC S c j a1 n1 → FQC S c j a2 n2 → a1 = a2 ∧ n1 = n2
  | 0, _, _, _, _, h, g => ⟨h.1.trans g.1.symm, h.2.trans g.2.symm⟩
  | j + 1, _, _, _, _, h, g => by
    obtain ⟨a, n, h1, h2⟩ := h
    obtain ⟨b, m, g1, g2⟩ := g
    obtain ⟨e1, e2⟩ := fqc_det j h1 g1
    subst e1; subst e2
    exact fqs_det h2 g2
theorem fqc_no {S : sS} {c a n : Int} {j : Nat} (h : FQC S c j a n) (hn : ∀ a' n', ¬ FQS S c j a n a' n') : ∀ (k : Nat) (a' n' : Int), ¬ FQC S c (j + 1 + k) a' n'
  | 0, a', n', q => by
    obtain ⟨b, m, g1, g2⟩ := q
    obtain ⟨e1, e2⟩ := fqc_det j h g1
    subst e1; subst e2
    exact hn _ _ g2
  | k + 1, _, _, q => by
    obtain ⟨b, m, g1, _⟩ := q
    exact fqc_no h hn k _ _ g1
theorem fqc_n {S : sS} {c a n v w : Int} (h : FQC S c v.toNat a n) (h0 : 0 ≤ v) (hw : v < w) (hn : ∀ a' n', ¬ FQS S c v.toNat a n a' n') (b : Int) : ∀ m, ¬ FQC S c w.toNat b m := fun m q => by
  rw [show w.toNat = v.toNat + 1 + (w - v - 1).toNat by omega] at q
  exact fqc_no h hn _ _ _ q
theorem fqc_0 {S T : sS} {c : Int} (e : T = uI S 904 165 (Int32.ofInt (-1))) : FQC S c (0 : Int).toNat 0 (Xi T 904 165) := ⟨rfl, by rw [e]; exact Xi_same ⟨by decide, by decide⟩⟩
theorem fqc_w {S : sS} {c a n v : Int} (h : FQC S c v.toNat a n) (h0 : 0 ≤ v) (hw : Xj S 948 (8 * c + v).toNat ≠ 0) (ha : a < Xi S 904 164) (e : Xj S 995 a.toNat = Xj S 948 (8 * c + v).toNat) : FQC S c (v + 1).toNat (a + 1) n := by
  rw [show (v + 1).toNat = v.toNat + 1 by omega]
  have k : (v.toNat : Int) = v := by omega
  exact ⟨a, n, h, fun _ => ⟨ha, by rw [k]; exact e, rfl, rfl⟩, fun q => absurd q (by rw [k]; exact hw)⟩
theorem fqn_w {S : sS} {c a n v w : Int} (h : FQC S c v.toNat a n) (h0 : 0 ≤ v) (hv : v < w) (hw : Xj S 948 (8 * c + v).toNat ≠ 0) (e : Xi S 904 164 ≤ a ∨ Xj S 995 a.toNat ≠ Xj S 948 (8 * c + v).toNat) (b : Int) : ∀ m, ¬ FQC S c w.toNat b m :=
  fqc_n h h0 hv (fun a' n' q => by
    have k : (v.toNat : Int) = v := by omega
    have u := q.1 (by rw [k]; exact hw)
    rw [k] at u
    rcases e with e | e
    · exact absurd u.1 (by omega)
    · exact e u.2.1) b
theorem fqc_g {S T : sS} {c a n v x : Int} (h : FQC S c v.toNat a n) (h0 : 0 ≤ v) (hw : Xj S 948 (8 * c + v).toNat = 0) (hm : 1 ≤ fqm S c ∧ fqm S c ≤ 3 ∧ a + fqm S c ≤ Xi S 904 164) (e : FQE S c (fqe S c a)) (hx : x = a + fqm S c) (hT : Xi T 904 165 = Xi S 915 (fqe S c a).toNat) : FQC S c (v + 1).toNat x (Xi T 904 165) := by
  rw [show (v + 1).toNat = v.toNat + 1 by omega]
  have k : (v.toNat : Int) = v := by omega
  exact ⟨a, n, h, fun q => absurd (by rw [k]; exact hw) q, fun _ => ⟨hm, e, hx, hT⟩⟩
theorem fqn_g {S : sS} {c a n v w : Int} (h : FQC S c v.toNat a n) (h0 : 0 ≤ v) (hv : v < w) (hw : Xj S 948 (8 * c + v).toNat = 0) (e : ¬ ((1 ≤ fqm S c ∧ fqm S c ≤ 3 ∧ a + fqm S c ≤ Xi S 904 164) ∧ FQE S c (fqe S c a))) (b : Int) : ∀ m, ¬ FQC S c w.toNat b m :=
  fqc_n h h0 hv (fun a' n' q => by
    have k : (v.toNat : Int) = v := by omega
    have u := q.2 (by rw [k]; exact hw)
    exact e ⟨u.1, u.2.1⟩) b
theorem fqe_e {l : List rec} {S T : sS} {c a x y w m z : Int} (F : FR l S T) (k : kdis l [(912, 917)] = true) (k5 : Xi T 904 15 = Xi S 904 15) (hm : m = fqm S c) (f : z = fdR T x y w m (Xi T 904 15).toNat) (hx : x = Xj S 995 a.toNat) (hy : y = if 1 < fqm S c then Xj S 995 (a + 1).toNat else 0) (hw : w = if 2 < fqm S c then Xj S 995 (a + 2).toNat else 0) : z = fqe S c a := by
  subst hm; subst hx; subst hy; subst hw
  rw [f, k5]; exact fdR_k _ (LXK_FR F k)

def md_mo_fitsCommand__p : List rec := [(904, 905, 165, 166)]
abbrev Q_mo_fitsCommand__p (S : sS) (c : Int) : pst := fun r S1 => RI S1 ∧ FR md_mo_fitsCommand__p S S1 ∧ (∃ z : Int, r = some (iv z) ∧ (0 ≤ z ∧ z ≤ 1) ∧ (FQO S S1 z c))
set_option maxRecDepth 100000 in
theorem t_mo_fitsCommand__p {S : sS} (hH : RI S) (c : Int) (hc : 0 ≤ c ∧ c ≤ 19) (h15 : 0 ≤ Xi S 904 15) (hLS : LSP S) (hB : ABV S) (hk8 : ∀ j, -1 ≤ Xi S 918 j ∧ Xi S 918 j ≤ 15) (hn : 0 ≤ Xi S 904 164 ∧ Xi S 904 164 ≤ 50) (hsz : 0 ≤ Xi S 947 c.toNat ∧ Xi S 947 c.toNat ≤ 8) (d : Nat) : Mp lay0 (d + 2) m_mo_fitsCommand [.ref 904, iv c] S (Q_mo_fitsCommand__p S c) := by
  refine Mp_R rfl rfl (fun fu => ?_)
  have hF : FR md_mo_fitsCommand__p S S := FR.rf
  have w1 : -2147483648 ≤ Xi S 904 15 ∧ Xi S 904 15 ≤ 2147483647 := Xi_rgI
  have w2 : -2147483648 ≤ Xi S 904 164 ∧ Xi S 904 164 ≤ 2147483647 := Xi_rgI
  have w3 : -2147483648 ≤ Xi S 904 165 ∧ Xi S 904 165 ≤ 2147483647 := Xi_rgI
  have C25 : ∀ (n25 : Nat) (_ : n25 ≤ fu) (T1 : sS) (_ : RI T1) (_ : FR md_mo_fitsCommand__p S T1) (v2 : Int) (v3 : Int) (v4 : Int) (v5 : Int), (0 ≤ v2 ∧ v2 ≤ 8) → (-8 ≤ v3 ∧ v3 ≤ 50) → (0 ≤ v4 ∧ v4 ≤ 50) → (0 ≤ v5 ∧ v5 ≤ 8) → (0 ≤ v5 ∧ v5 ≤ Xi S 947 c.toNat) → (0 ≤ v4 ∧ v4 ≤ Xi S 904 164) → (v2 = Xi S 947 c.toNat) → (v3 = Xi S 904 164 - Xi S 947 c.toNat) → (Hid (FQC S c (v5).toNat v4 (Xi T1 904 165))) → Pl n25 lay0 (d + 1) m_mo_fitsCommand 25 [(0, .ref 904), (1, iv c), (2, iv v2), (3, iv v3), (4, iv v4), (5, iv v5)] [] T1 (Q_mo_fitsCommand__p S c) := by
    intro n25
    induction n25 with
    | zero => intros; exact Pl_0
    | succ n25 ih25 =>
      intro hm25 T1 hHT1 hFT1 v2 v3 v4 v5 w4 w5 w6 w7 w8 w9 w10 w11 Q25
      have w12 : Xi T1 904 15 = Xi S 904 15 := hFT1.x _ _ rfl
      have w13 : Xi T1 904 164 = Xi S 904 164 := hFT1.x _ _ rfl
      have w14 : -2147483648 ≤ Xi T1 904 164 ∧ Xi T1 904 164 ≤ 2147483647 := Xi_rgI
      have w15 : -2147483648 ≤ Xi T1 904 165 ∧ Xi T1 904 165 ≤ 2147483647 := Xi_rgI
      have C196 : ∀  (T2 : sS) (_ : RI T2) (_ : FR md_mo_fitsCommand__p S T2) (v2 : Int) (v3 : Int) (v4 : Int) (v5 : Int) (v6 : Int) (v7 : Int) (v8 : Int), (0 ≤ v2 ∧ v2 ≤ 8) → (-8 ≤ v3 ∧ v3 ≤ 50) → (0 ≤ v4 ∧ v4 ≤ 50) → (0 ≤ v5 ∧ v5 ≤ 8) → (-7 ≤ v6 ∧ v6 ≤ 51) → (-2147483648 ≤ v7 ∧ v7 ≤ 2147483647) → (0 ≤ v8 ∧ v8 ≤ 1) → (0 ≤ v5 ∧ v5 < Xi S 947 c.toNat) → (0 ≤ v4 ∧ v4 ≤ Xi S 904 164) → (v2 = Xi S 947 c.toNat) → (v3 = Xi S 904 164 - Xi S 947 c.toNat) → (v6 = fqm S c) → (1 ≤ v6 ∧ v6 ≤ 3 ∧ v4 + v6 ≤ Xi S 904 164) → (v7 ≠ -1) → ((v8 = 1 ∧ Xi S 949 c.toNat = -2) ∨ (v8 = 0 ∧ Xi S 949 c.toNat ≠ -2)) → (Xj S 948 (8 * c + v5).toNat = 0) → (v7 = fqe S c v4) → (Hid (FQC S c (v5).toNat v4 (Xi T2 904 165))) → Pl n25 lay0 (d + 1) m_mo_fitsCommand 196 [(0, .ref 904), (1, iv c), (2, iv v2), (3, iv v3), (4, iv v4), (5, iv v5), (6, iv v6), (7, iv v7), (8, iv v8)] [] T2 (Q_mo_fitsCommand__p S c) := by
        intro T2 hHT2 hFT2 v2 v3 v4 v5 v6 v7 v8 w16 w17 w18 w19 w20 w21 w22 w23 w24 w25 w26 m6 w27 w28 k8 z196 m196 Q196
        have w29 : Xi T2 904 15 = Xi S 904 15 := hFT2.x _ _ rfl
        have w30 : Xi T2 904 164 = Xi S 904 164 := hFT2.x _ _ rfl
        have w31 : -2147483648 ≤ Xi T2 904 164 ∧ Xi T2 904 164 ≤ 2147483647 := Xi_rgI
        have w32 : -2147483648 ≤ Xi T2 904 165 ∧ Xi T2 904 165 ≤ 2147483647 := Xi_rgI
        refine y_aload_n rfl rfl ?_
        refine y_gfr rfl rfl rfl rfl rfl (hHT2.r 904 12 914 rfl) ?_
        refine y_iload rfl rfl ?_
        refine y_ialoadP (n := 300) rfl rfl (by unfold rg; omega) (fun w33 w34 => ?_)
        have w35 : -2147483648 ≤ (Xi T2 914 ((v7).toNat)) ∧ (Xi T2 914 ((v7).toNat)) ≤ 2147483647 := Xi_rgI
        have y202 : Xi T2 914 (v7).toNat = Xi S 914 (v7).toNat := (hFT2.cx 914 rfl _).1
        refine y_iload rfl rfl ?_
        refine y_if_eq rfl rfl (by unfold rg; omega) (fun w36 => ?_) (fun w37 => ?_)
        · refine y_iconst rfl ?_
          refine y_icmp_ne rfl rfl (by unfold rg; omega) (by unfold rg; omega) (fun w38 => ?_) (fun w39 => ?_)
          · refine y_iconst rfl ?_
            have K247 : True := trivial
            have N247 : ∀ m, ¬ FQC S c (Xi S 947 c.toNat).toNat (Xi S 904 164) m := by first | exact fqn_g Q196.o (by omega) (by omega) z196 (fun q => by have a := q.2.1; have b := q.2.2.1; have d := q.2.2.2; rw [← m196] at a b d; first | (have u := K241; have u := (d (by omega)).2; omega) | omega) _ | exact fqn_g Q25.o (by omega) (by omega) (by rw [← y42]; omega) (fun q => by have a := q.2.1; rw [← m167] at a; omega) _
            refine y_ireturn rfl rfl ?_
            exact ⟨hHT2, hFT2, _, rfl, ⟨by omega, by omega⟩, (by first | (have u := K80; exact ⟨fun q => absurd q (by omega), fun _ => N80⟩) | (have u := K117; exact ⟨fun q => absurd q (by omega), fun _ => N117⟩) | (have u := K247; exact ⟨fun q => absurd q (by omega), fun _ => N247⟩) | (have u := K282; exact ⟨fun _ => by have u := Q25.o; rw [show v5 = Xi S 947 c.toNat by omega, show v4 = Xi S 904 164 by omega] at u; exact u, fun q => absurd q (by omega)⟩) | exact ⟨fun q => absurd q (by omega), fun _ m q => absurd (fqc_det _ q (by have u := Q25.o; rw [show v5 = Xi S 947 c.toNat by omega] at u; exact u)).1 (by omega)⟩)⟩
          · refine y_iload rfl rfl ?_
            refine y_if_ne rfl rfl (by unfold rg; omega) (fun w40 => ?_) (fun w41 => ?_)
            · refine y_aload_n rfl rfl ?_
              have E249 : FQE S c (fqe S c v4) := by rw [← m196]; first | (have u := K241; exact ⟨by omega, fun q => absurd q (by omega), fun _ => ⟨by omega, by omega⟩⟩) | exact ⟨by omega, fun _ => by omega, fun q => absurd (by omega) q⟩
              refine y_aload_n rfl rfl ?_
              refine y_gfr rfl rfl rfl rfl rfl (hHT2.r 904 13 915 rfl) ?_
              refine y_iload rfl rfl ?_
              refine y_ialoadP (n := 300) rfl rfl (by unfold rg; omega) (fun w42 w43 => ?_)
              have w44 : -2147483648 ≤ (Xi T2 915 ((v7).toNat)) ∧ (Xi T2 915 ((v7).toNat)) ≤ 2147483647 := Xi_rgI
              have y256 : Xi T2 915 (v7).toNat = Xi S 915 (v7).toNat := (hFT2.cx 915 rfl _).1
              refine y_pfi rfl rfl rfl rfl ?_
              obtain ⟨U3, eU3⟩ : ∃ T : sS, T = uI T2 904 165 (Int32.ofInt (Xi T2 915 ((v7).toNat))) := ⟨_, rfl⟩
              rw [← eU3]
              have hHU3 : RI U3 := by rw [eU3]; exact RI_w hHT2
              have hFU3 : FR md_mo_fitsCommand__p S U3 := by rw [eU3]; exact FR.wI hFT2 (mdf_i (r := (904, 905, 165, 166)) (List.mem_of_getElem? (i := 0) rfl) (inR_i (by omega) (by omega) (by omega) (by omega)))
              have w45 : Xi U3 904 165 = (Xi T2 915 ((v7).toNat)) := by rw [eU3]; exact Xi_same (by unfold rg; omega)
              have Q257 : Hid (FQC S c (v5 + 1).toNat (v4 + v6) (Xi U3 904 165)) := fqc_g Q196.o (by omega) z196 ⟨by omega, by omega, by omega⟩ E249 (by omega) (by rw [eU3, ← m196, ← y256]; exact Xi_same (by unfold rg; omega))
              refine y_iload rfl rfl ?_
              refine y_iload rfl rfl ?_
              refine y_iadd rfl ?_
              refine y_istore rfl rfl rfl ?_
              refine y_iinc rfl rfl rfl rfl ?_
              refine y_goto rfl rfl ?_
              have w46 : Xi U3 904 164 = Xi T2 904 164 := (show Xi U3 904 164 = Xi T2 904 164 from by rw [eU3]; exact Xi_ne (by omega))
              exact Pl_weak (ih25 (by omega) U3 hHU3 hFU3 (v2) (v3) ((v4 + v6)) ((v5 + 1)) (by omega) (by omega) (by omega) (by omega) (by omega) (by omega) (by omega) (by omega) (by first | exact Q82 | exact Q257 | exact fqc_0 e19)) (by omega) (And.intro rfl (And.intro rfl (And.intro rfl (And.intro rfl (And.intro rfl (And.intro rfl (True.intro)))))))
            · refine y_aload_n rfl rfl ?_
              refine y_aload_n rfl rfl ?_
              refine y_gfr rfl rfl rfl rfl rfl (hHT2.r 904 20 918 rfl) ?_
              refine y_aload_n rfl rfl ?_
              refine y_gfr rfl rfl rfl rfl rfl (hHT2.r 904 13 915 rfl) ?_
              refine y_iload rfl rfl ?_
              refine y_ialoadP (n := 300) rfl rfl (by unfold rg; omega) (fun w47 w48 => ?_)
              have w49 : -2147483648 ≤ (Xi T2 915 ((v7).toNat)) ∧ (Xi T2 915 ((v7).toNat)) ≤ 2147483647 := Xi_rgI
              have y233 : Xi T2 915 (v7).toNat = Xi S 915 (v7).toNat := (hFT2.cx 915 rfl _).1
              refine y_ialoadP (n := 24) rfl rfl (by unfold rg; omega) (fun w50 w51 => ?_)
              have w52 : -2147483648 ≤ (Xi T2 918 (((Xi T2 915 ((v7).toNat))).toNat)) ∧ (Xi T2 918 (((Xi T2 915 ((v7).toNat))).toNat)) ≤ 2147483647 := Xi_rgI
              have y234 : Xi T2 918 (Xi T2 915 (v7).toNat).toNat = Xi S 918 (Xi S 915 (v7).toNat).toNat := by rw [y233]; exact (hFT2.cx 918 rfl _).1
              have h234 := hk8 (Xi S 915 (v7).toNat).toNat
              refine y_aload_n rfl rfl ?_
              refine y_gfr rfl rfl rfl rfl rfl (hHT2.r 904 59 949 rfl) ?_
              refine y_iload_n rfl rfl ?_
              refine y_ialoadP (n := 20) rfl rfl (by unfold rg; omega) (fun w53 w54 => ?_)
              have w55 : -2147483648 ≤ (Xi T2 949 ((c).toNat)) ∧ (Xi T2 949 ((c).toNat)) ≤ 2147483647 := Xi_rgI
              have y240 : Xi T2 949 c.toNat = Xi S 949 c.toNat := (hFT2.cx 949 rfl _).1
              refine y_callV rfl rfl rfl (t_mo_isBelow__p hHT2 (Xi T2 918 (((Xi T2 915 ((v7).toNat))).toNat)) (Xi T2 949 ((c).toNat)) ⟨by omega, by omega⟩ ⟨by omega, by omega⟩ (by first | assumption | exact (ABV_FR hFT2 rfl (by assumption : ABV S))) _) ?_
              rintro _ _ ⟨rfl, z56, rfl, w56, f241⟩
              show Pl _ _ _ _ _ _ [iv z56] _ _
              have K241 : True := trivial
              have b241 : z56 = blR S (Xi S 918 (Xi S 915 (v7).toNat).toNat) (Xi S 949 c.toNat) := by have u := f241; rw [blR_fr hFT2 rfl, y234, (hFT2.cx 949 rfl _).1] at u; exact u
              clear f241
              refine y_if_ne rfl rfl (by unfold rg; omega) (fun w57 => ?_) (fun w58 => ?_)
              · refine y_aload_n rfl rfl ?_
                have E249 : FQE S c (fqe S c v4) := by rw [← m196]; first | (have u := K241; exact ⟨by omega, fun q => absurd q (by omega), fun _ => ⟨by omega, by omega⟩⟩) | exact ⟨by omega, fun _ => by omega, fun q => absurd (by omega) q⟩
                refine y_aload_n rfl rfl ?_
                refine y_gfr rfl rfl rfl rfl rfl (hHT2.r 904 13 915 rfl) ?_
                refine y_iload rfl rfl ?_
                refine y_ialoadP (n := 300) rfl rfl (by unfold rg; omega) (fun w59 w60 => ?_)
                have y256 : Xi T2 915 (v7).toNat = Xi S 915 (v7).toNat := (hFT2.cx 915 rfl _).1
                refine y_pfi rfl rfl rfl rfl ?_
                obtain ⟨U4, eU4⟩ : ∃ T : sS, T = uI T2 904 165 (Int32.ofInt (Xi T2 915 ((v7).toNat))) := ⟨_, rfl⟩
                rw [← eU4]
                have hHU4 : RI U4 := by rw [eU4]; exact RI_w hHT2
                have hFU4 : FR md_mo_fitsCommand__p S U4 := by rw [eU4]; exact FR.wI hFT2 (mdf_i (r := (904, 905, 165, 166)) (List.mem_of_getElem? (i := 0) rfl) (inR_i (by omega) (by omega) (by omega) (by omega)))
                have w61 : Xi U4 904 165 = (Xi T2 915 ((v7).toNat)) := by rw [eU4]; exact Xi_same (by unfold rg; omega)
                have Q257 : Hid (FQC S c (v5 + 1).toNat (v4 + v6) (Xi U4 904 165)) := fqc_g Q196.o (by omega) z196 ⟨by omega, by omega, by omega⟩ E249 (by omega) (by rw [eU4, ← m196, ← y256]; exact Xi_same (by unfold rg; omega))
                refine y_iload rfl rfl ?_
                refine y_iload rfl rfl ?_
                refine y_iadd rfl ?_
                refine y_istore rfl rfl rfl ?_
                refine y_iinc rfl rfl rfl rfl ?_
                refine y_goto rfl rfl ?_
                have w62 : Xi U4 904 164 = Xi T2 904 164 := (show Xi U4 904 164 = Xi T2 904 164 from by rw [eU4]; exact Xi_ne (by omega))
                exact Pl_weak (ih25 (by omega) U4 hHU4 hFU4 (v2) (v3) ((v4 + v6)) ((v5 + 1)) (by omega) (by omega) (by omega) (by omega) (by omega) (by omega) (by omega) (by omega) (by first | exact Q82 | exact Q257 | exact fqc_0 e19)) (by omega) (And.intro rfl (And.intro rfl (And.intro rfl (And.intro rfl (And.intro rfl (And.intro rfl (True.intro)))))))
              · refine y_iconst rfl ?_
                have K247 : True := trivial
                have N247 : ∀ m, ¬ FQC S c (Xi S 947 c.toNat).toNat (Xi S 904 164) m := by first | exact fqn_g Q196.o (by omega) (by omega) z196 (fun q => by have a := q.2.1; have b := q.2.2.1; have d := q.2.2.2; rw [← m196] at a b d; first | (have u := K241; have u := (d (by omega)).2; omega) | omega) _ | exact fqn_g Q25.o (by omega) (by omega) (by rw [← y42]; omega) (fun q => by have a := q.2.1; rw [← m167] at a; omega) _
                refine y_ireturn rfl rfl ?_
                exact ⟨hHT2, hFT2, _, rfl, ⟨by omega, by omega⟩, (by first | (have u := K80; exact ⟨fun q => absurd q (by omega), fun _ => N80⟩) | (have u := K117; exact ⟨fun q => absurd q (by omega), fun _ => N117⟩) | (have u := K247; exact ⟨fun q => absurd q (by omega), fun _ => N247⟩) | (have u := K282; exact ⟨fun _ => by have u := Q25.o; rw [show v5 = Xi S 947 c.toNat by omega, show v4 = Xi S 904 164 by omega] at u; exact u, fun q => absurd q (by omega)⟩) | exact ⟨fun q => absurd q (by omega), fun _ m q => absurd (fqc_det _ q (by have u := Q25.o; rw [show v5 = Xi S 947 c.toNat by omega] at u; exact u)).1 (by omega)⟩)⟩
        · refine y_bipush rfl rfl ?_
          refine y_goto rfl rfl ?_
          refine y_icmp_ne rfl rfl (by unfold rg; omega) (by unfold rg; omega) (fun w63 => ?_) (fun w64 => ?_)
          · refine y_iconst rfl ?_
            have K247 : True := trivial
            have N247 : ∀ m, ¬ FQC S c (Xi S 947 c.toNat).toNat (Xi S 904 164) m := by first | exact fqn_g Q196.o (by omega) (by omega) z196 (fun q => by have a := q.2.1; have b := q.2.2.1; have d := q.2.2.2; rw [← m196] at a b d; first | (have u := K241; have u := (d (by omega)).2; omega) | omega) _ | exact fqn_g Q25.o (by omega) (by omega) (by rw [← y42]; omega) (fun q => by have a := q.2.1; rw [← m167] at a; omega) _
            refine y_ireturn rfl rfl ?_
            exact ⟨hHT2, hFT2, _, rfl, ⟨by omega, by omega⟩, (by first | (have u := K80; exact ⟨fun q => absurd q (by omega), fun _ => N80⟩) | (have u := K117; exact ⟨fun q => absurd q (by omega), fun _ => N117⟩) | (have u := K247; exact ⟨fun q => absurd q (by omega), fun _ => N247⟩) | (have u := K282; exact ⟨fun _ => by have u := Q25.o; rw [show v5 = Xi S 947 c.toNat by omega, show v4 = Xi S 904 164 by omega] at u; exact u, fun q => absurd q (by omega)⟩) | exact ⟨fun q => absurd q (by omega), fun _ m q => absurd (fqc_det _ q (by have u := Q25.o; rw [show v5 = Xi S 947 c.toNat by omega] at u; exact u)).1 (by omega)⟩)⟩
          · refine y_iload rfl rfl ?_
            refine y_if_ne rfl rfl (by unfold rg; omega) (fun w65 => ?_) (fun w66 => ?_)
            · refine y_aload_n rfl rfl ?_
              have E249 : FQE S c (fqe S c v4) := by rw [← m196]; first | (have u := K241; exact ⟨by omega, fun q => absurd q (by omega), fun _ => ⟨by omega, by omega⟩⟩) | exact ⟨by omega, fun _ => by omega, fun q => absurd (by omega) q⟩
              refine y_aload_n rfl rfl ?_
              refine y_gfr rfl rfl rfl rfl rfl (hHT2.r 904 13 915 rfl) ?_
              refine y_iload rfl rfl ?_
              refine y_ialoadP (n := 300) rfl rfl (by unfold rg; omega) (fun w67 w68 => ?_)
              have w69 : -2147483648 ≤ (Xi T2 915 ((v7).toNat)) ∧ (Xi T2 915 ((v7).toNat)) ≤ 2147483647 := Xi_rgI
              have y256 : Xi T2 915 (v7).toNat = Xi S 915 (v7).toNat := (hFT2.cx 915 rfl _).1
              refine y_pfi rfl rfl rfl rfl ?_
              obtain ⟨U5, eU5⟩ : ∃ T : sS, T = uI T2 904 165 (Int32.ofInt (Xi T2 915 ((v7).toNat))) := ⟨_, rfl⟩
              rw [← eU5]
              have hHU5 : RI U5 := by rw [eU5]; exact RI_w hHT2
              have hFU5 : FR md_mo_fitsCommand__p S U5 := by rw [eU5]; exact FR.wI hFT2 (mdf_i (r := (904, 905, 165, 166)) (List.mem_of_getElem? (i := 0) rfl) (inR_i (by omega) (by omega) (by omega) (by omega)))
              have w70 : Xi U5 904 165 = (Xi T2 915 ((v7).toNat)) := by rw [eU5]; exact Xi_same (by unfold rg; omega)
              have Q257 : Hid (FQC S c (v5 + 1).toNat (v4 + v6) (Xi U5 904 165)) := fqc_g Q196.o (by omega) z196 ⟨by omega, by omega, by omega⟩ E249 (by omega) (by rw [eU5, ← m196, ← y256]; exact Xi_same (by unfold rg; omega))
              refine y_iload rfl rfl ?_
              refine y_iload rfl rfl ?_
              refine y_iadd rfl ?_
              refine y_istore rfl rfl rfl ?_
              refine y_iinc rfl rfl rfl rfl ?_
              refine y_goto rfl rfl ?_
              have w71 : Xi U5 904 164 = Xi T2 904 164 := (show Xi U5 904 164 = Xi T2 904 164 from by rw [eU5]; exact Xi_ne (by omega))
              exact Pl_weak (ih25 (by omega) U5 hHU5 hFU5 (v2) (v3) ((v4 + v6)) ((v5 + 1)) (by omega) (by omega) (by omega) (by omega) (by omega) (by omega) (by omega) (by omega) (by first | exact Q82 | exact Q257 | exact fqc_0 e19)) (by omega) (And.intro rfl (And.intro rfl (And.intro rfl (And.intro rfl (And.intro rfl (And.intro rfl (True.intro)))))))
            · refine y_aload_n rfl rfl ?_
              refine y_aload_n rfl rfl ?_
              refine y_gfr rfl rfl rfl rfl rfl (hHT2.r 904 20 918 rfl) ?_
              refine y_aload_n rfl rfl ?_
              refine y_gfr rfl rfl rfl rfl rfl (hHT2.r 904 13 915 rfl) ?_
              refine y_iload rfl rfl ?_
              refine y_ialoadP (n := 300) rfl rfl (by unfold rg; omega) (fun w72 w73 => ?_)
              have w74 : -2147483648 ≤ (Xi T2 915 ((v7).toNat)) ∧ (Xi T2 915 ((v7).toNat)) ≤ 2147483647 := Xi_rgI
              have y233 : Xi T2 915 (v7).toNat = Xi S 915 (v7).toNat := (hFT2.cx 915 rfl _).1
              refine y_ialoadP (n := 24) rfl rfl (by unfold rg; omega) (fun w75 w76 => ?_)
              have w77 : -2147483648 ≤ (Xi T2 918 (((Xi T2 915 ((v7).toNat))).toNat)) ∧ (Xi T2 918 (((Xi T2 915 ((v7).toNat))).toNat)) ≤ 2147483647 := Xi_rgI
              have y234 : Xi T2 918 (Xi T2 915 (v7).toNat).toNat = Xi S 918 (Xi S 915 (v7).toNat).toNat := by rw [y233]; exact (hFT2.cx 918 rfl _).1
              have h234 := hk8 (Xi S 915 (v7).toNat).toNat
              refine y_aload_n rfl rfl ?_
              refine y_gfr rfl rfl rfl rfl rfl (hHT2.r 904 59 949 rfl) ?_
              refine y_iload_n rfl rfl ?_
              refine y_ialoadP (n := 20) rfl rfl (by unfold rg; omega) (fun w78 w79 => ?_)
              have w80 : -2147483648 ≤ (Xi T2 949 ((c).toNat)) ∧ (Xi T2 949 ((c).toNat)) ≤ 2147483647 := Xi_rgI
              have y240 : Xi T2 949 c.toNat = Xi S 949 c.toNat := (hFT2.cx 949 rfl _).1
              refine y_callV rfl rfl rfl (t_mo_isBelow__p hHT2 (Xi T2 918 (((Xi T2 915 ((v7).toNat))).toNat)) (Xi T2 949 ((c).toNat)) ⟨by omega, by omega⟩ ⟨by omega, by omega⟩ (by first | assumption | exact (ABV_FR hFT2 rfl (by assumption : ABV S))) _) ?_
              rintro _ _ ⟨rfl, z81, rfl, w81, f241⟩
              show Pl _ _ _ _ _ _ [iv z81] _ _
              have K241 : True := trivial
              have b241 : z81 = blR S (Xi S 918 (Xi S 915 (v7).toNat).toNat) (Xi S 949 c.toNat) := by have u := f241; rw [blR_fr hFT2 rfl, y234, (hFT2.cx 949 rfl _).1] at u; exact u
              clear f241
              refine y_if_ne rfl rfl (by unfold rg; omega) (fun w82 => ?_) (fun w83 => ?_)
              · refine y_aload_n rfl rfl ?_
                have E249 : FQE S c (fqe S c v4) := by rw [← m196]; first | (have u := K241; exact ⟨by omega, fun q => absurd q (by omega), fun _ => ⟨by omega, by omega⟩⟩) | exact ⟨by omega, fun _ => by omega, fun q => absurd (by omega) q⟩
                refine y_aload_n rfl rfl ?_
                refine y_gfr rfl rfl rfl rfl rfl (hHT2.r 904 13 915 rfl) ?_
                refine y_iload rfl rfl ?_
                refine y_ialoadP (n := 300) rfl rfl (by unfold rg; omega) (fun w84 w85 => ?_)
                have y256 : Xi T2 915 (v7).toNat = Xi S 915 (v7).toNat := (hFT2.cx 915 rfl _).1
                refine y_pfi rfl rfl rfl rfl ?_
                obtain ⟨U6, eU6⟩ : ∃ T : sS, T = uI T2 904 165 (Int32.ofInt (Xi T2 915 ((v7).toNat))) := ⟨_, rfl⟩
                rw [← eU6]
                have hHU6 : RI U6 := by rw [eU6]; exact RI_w hHT2
                have hFU6 : FR md_mo_fitsCommand__p S U6 := by rw [eU6]; exact FR.wI hFT2 (mdf_i (r := (904, 905, 165, 166)) (List.mem_of_getElem? (i := 0) rfl) (inR_i (by omega) (by omega) (by omega) (by omega)))
                have w86 : Xi U6 904 165 = (Xi T2 915 ((v7).toNat)) := by rw [eU6]; exact Xi_same (by unfold rg; omega)
                have Q257 : Hid (FQC S c (v5 + 1).toNat (v4 + v6) (Xi U6 904 165)) := fqc_g Q196.o (by omega) z196 ⟨by omega, by omega, by omega⟩ E249 (by omega) (by rw [eU6, ← m196, ← y256]; exact Xi_same (by unfold rg; omega))
                refine y_iload rfl rfl ?_
                refine y_iload rfl rfl ?_
                refine y_iadd rfl ?_
                refine y_istore rfl rfl rfl ?_
                refine y_iinc rfl rfl rfl rfl ?_
                refine y_goto rfl rfl ?_
                have w87 : Xi U6 904 164 = Xi T2 904 164 := (show Xi U6 904 164 = Xi T2 904 164 from by rw [eU6]; exact Xi_ne (by omega))
                exact Pl_weak (ih25 (by omega) U6 hHU6 hFU6 (v2) (v3) ((v4 + v6)) ((v5 + 1)) (by omega) (by omega) (by omega) (by omega) (by omega) (by omega) (by omega) (by omega) (by first | exact Q82 | exact Q257 | exact fqc_0 e19)) (by omega) (And.intro rfl (And.intro rfl (And.intro rfl (And.intro rfl (And.intro rfl (And.intro rfl (True.intro)))))))
              · refine y_iconst rfl ?_
                have K247 : True := trivial
                have N247 : ∀ m, ¬ FQC S c (Xi S 947 c.toNat).toNat (Xi S 904 164) m := by first | exact fqn_g Q196.o (by omega) (by omega) z196 (fun q => by have a := q.2.1; have b := q.2.2.1; have d := q.2.2.2; rw [← m196] at a b d; first | (have u := K241; have u := (d (by omega)).2; omega) | omega) _ | exact fqn_g Q25.o (by omega) (by omega) (by rw [← y42]; omega) (fun q => by have a := q.2.1; rw [← m167] at a; omega) _
                refine y_ireturn rfl rfl ?_
                exact ⟨hHT2, hFT2, _, rfl, ⟨by omega, by omega⟩, (by first | (have u := K80; exact ⟨fun q => absurd q (by omega), fun _ => N80⟩) | (have u := K117; exact ⟨fun q => absurd q (by omega), fun _ => N117⟩) | (have u := K247; exact ⟨fun q => absurd q (by omega), fun _ => N247⟩) | (have u := K282; exact ⟨fun _ => by have u := Q25.o; rw [show v5 = Xi S 947 c.toNat by omega, show v4 = Xi S 904 164 by omega] at u; exact u, fun q => absurd q (by omega)⟩) | exact ⟨fun q => absurd q (by omega), fun _ m q => absurd (fqc_det _ q (by have u := Q25.o; rw [show v5 = Xi S 947 c.toNat by omega] at u; exact u)).1 (by omega)⟩)⟩
      refine ys_iload rfl rfl ?_
      refine y_iload_n rfl rfl ?_
      refine y_icmp_ge rfl rfl (by unfold rg; omega) (by unfold rg; omega) (fun w88 => ?_) (fun w89 => ?_)
      · refine y_iload rfl rfl ?_
        refine y_aload_n rfl rfl ?_
        refine y_gfi rfl rfl rfl rfl rfl ?_
        refine y_icmp_ne rfl rfl (by unfold rg; omega) (by unfold rg; omega) (fun w90 => ?_) (fun w91 => ?_)
        · refine y_iconst rfl ?_
          refine y_ireturn rfl rfl ?_
          exact ⟨hHT1, hFT1, _, rfl, ⟨by omega, by omega⟩, (by first | (have u := K80; exact ⟨fun q => absurd q (by omega), fun _ => N80⟩) | (have u := K117; exact ⟨fun q => absurd q (by omega), fun _ => N117⟩) | (have u := K247; exact ⟨fun q => absurd q (by omega), fun _ => N247⟩) | (have u := K282; exact ⟨fun _ => by have u := Q25.o; rw [show v5 = Xi S 947 c.toNat by omega, show v4 = Xi S 904 164 by omega] at u; exact u, fun q => absurd q (by omega)⟩) | exact ⟨fun q => absurd q (by omega), fun _ m q => absurd (fqc_det _ q (by have u := Q25.o; rw [show v5 = Xi S 947 c.toNat by omega] at u; exact u)).1 (by omega)⟩)⟩
        · refine y_iconst rfl ?_
          have K282 : True := trivial
          refine y_goto rfl rfl ?_
          refine y_ireturn rfl rfl ?_
          exact ⟨hHT1, hFT1, _, rfl, ⟨by omega, by omega⟩, (by first | (have u := K80; exact ⟨fun q => absurd q (by omega), fun _ => N80⟩) | (have u := K117; exact ⟨fun q => absurd q (by omega), fun _ => N117⟩) | (have u := K247; exact ⟨fun q => absurd q (by omega), fun _ => N247⟩) | (have u := K282; exact ⟨fun _ => by have u := Q25.o; rw [show v5 = Xi S 947 c.toNat by omega, show v4 = Xi S 904 164 by omega] at u; exact u, fun q => absurd q (by omega)⟩) | exact ⟨fun q => absurd q (by omega), fun _ m q => absurd (fqc_det _ q (by have u := Q25.o; rw [show v5 = Xi S 947 c.toNat by omega] at u; exact u)).1 (by omega)⟩)⟩
      · refine y_aload_n rfl rfl ?_
        refine y_gfr rfl rfl rfl rfl rfl (hHT1.r 904 58 948 rfl) ?_
        refine y_bipush rfl rfl ?_
        refine y_iload_n rfl rfl ?_
        refine y_imul rfl ?_
        refine y_iload rfl rfl ?_
        refine y_iadd rfl ?_
        refine y_laloadP (n := 160) rfl rfl (by unfold rg; omega) (fun w92 w93 => ?_)
        have w94 : -9223372036854775808 ≤ (Xj T1 948 ((((8 * c) + v5)).toNat)) ∧ (Xj T1 948 ((((8 * c) + v5)).toNat)) < 9223372036854775808 := Xj_rg
        have y42 : Xj T1 948 (8 * c + v5).toNat = Xj S 948 (8 * c + v5).toNat := (hFT1.cx 948 rfl _).2
        refine y_lconst (z := 0) rfl rfl ?_
        refine y_lcmp rfl (by unfold rgL; omega) (by unfold rgL; omega) (fun c95 w95 w95a w95b w95c => ?_)
        refine y_if_eq rfl rfl (by unfold rg; omega) (fun w96 => ?_) (fun w97 => ?_)
        · refine y_iconst rfl ?_
          refine y_iload_n rfl rfl ?_
          refine y_iadd rfl ?_
          refine y_istore rfl rfl rfl ?_
          refine y_iload rfl rfl ?_
          refine y_iconst rfl ?_
          refine y_icmp_lt rfl rfl (by unfold rg; omega) (by unfold rg; omega) (fun w98 => ?_) (fun w99 => ?_)
          · refine y_iconst rfl ?_
            have K117 : True := trivial
            have N117 : ∀ m, ¬ FQC S c (Xi S 947 c.toNat).toNat (Xi S 904 164) m := fqn_g Q25.o (by omega) (by omega) (by rw [← y42]; omega) (fun q => by have u := q.1; unfold fqm at u; omega) _
            refine y_ireturn rfl rfl ?_
            exact ⟨hHT1, hFT1, _, rfl, ⟨by omega, by omega⟩, (by first | (have u := K80; exact ⟨fun q => absurd q (by omega), fun _ => N80⟩) | (have u := K117; exact ⟨fun q => absurd q (by omega), fun _ => N117⟩) | (have u := K247; exact ⟨fun q => absurd q (by omega), fun _ => N247⟩) | (have u := K282; exact ⟨fun _ => by have u := Q25.o; rw [show v5 = Xi S 947 c.toNat by omega, show v4 = Xi S 904 164 by omega] at u; exact u, fun q => absurd q (by omega)⟩) | exact ⟨fun q => absurd q (by omega), fun _ m q => absurd (fqc_det _ q (by have u := Q25.o; rw [show v5 = Xi S 947 c.toNat by omega] at u; exact u)).1 (by omega)⟩)⟩
          · refine y_iload rfl rfl ?_
            refine y_iconst rfl ?_
            refine y_icmp_gt rfl rfl (by unfold rg; omega) (by unfold rg; omega) (fun w100 => ?_) (fun w101 => ?_)
            · refine y_iconst rfl ?_
              have K117 : True := trivial
              have N117 : ∀ m, ¬ FQC S c (Xi S 947 c.toNat).toNat (Xi S 904 164) m := fqn_g Q25.o (by omega) (by omega) (by rw [← y42]; omega) (fun q => by have u := q.1; unfold fqm at u; omega) _
              refine y_ireturn rfl rfl ?_
              exact ⟨hHT1, hFT1, _, rfl, ⟨by omega, by omega⟩, (by first | (have u := K80; exact ⟨fun q => absurd q (by omega), fun _ => N80⟩) | (have u := K117; exact ⟨fun q => absurd q (by omega), fun _ => N117⟩) | (have u := K247; exact ⟨fun q => absurd q (by omega), fun _ => N247⟩) | (have u := K282; exact ⟨fun _ => by have u := Q25.o; rw [show v5 = Xi S 947 c.toNat by omega, show v4 = Xi S 904 164 by omega] at u; exact u, fun q => absurd q (by omega)⟩) | exact ⟨fun q => absurd q (by omega), fun _ m q => absurd (fqc_det _ q (by have u := Q25.o; rw [show v5 = Xi S 947 c.toNat by omega] at u; exact u)).1 (by omega)⟩)⟩
            · refine y_iload rfl rfl ?_
              refine y_iload rfl rfl ?_
              refine y_iadd rfl ?_
              refine y_aload_n rfl rfl ?_
              refine y_gfi rfl rfl rfl rfl rfl ?_
              refine y_icmp_le rfl rfl (by unfold rg; omega) (by unfold rg; omega) (fun w102 => ?_) (fun w103 => ?_)
              · refine y_aload_n rfl rfl ?_
                refine y_aload_n rfl rfl ?_
                refine y_gfr rfl rfl rfl rfl rfl (hHT1.r 904 163 995 rfl) ?_
                refine y_iload rfl rfl ?_
                refine y_laloadP (n := 50) rfl rfl (by unfold rg; omega) (fun w104 w105 => ?_)
                have w106 : -9223372036854775808 ≤ (Xj T1 995 ((v4).toNat)) ∧ (Xj T1 995 ((v4).toNat)) < 9223372036854775808 := Xj_rg
                refine y_iload rfl rfl ?_
                refine y_iconst rfl ?_
                refine y_icmp_le rfl rfl (by unfold rg; omega) (by unfold rg; omega) (fun w107 => ?_) (fun w108 => ?_)
                · refine y_lconst (z := 0) rfl rfl ?_
                  refine y_iload rfl rfl ?_
                  refine y_iconst rfl ?_
                  refine y_icmp_le rfl rfl (by unfold rg; omega) (by unfold rg; omega) (fun w109 => ?_) (fun w110 => ?_)
                  · refine y_lconst (z := 0) rfl rfl ?_
                    refine y_iload rfl rfl ?_
                    refine y_callV rfl rfl rfl (t_mo_find__p hHT1 (Xj T1 995 ((v4).toNat)) 0 0 (1 + v3) ⟨by omega, by omega⟩ (Xj_rg) (by first | exact Xj_rg | (unfold rgL; omega)) (by first | exact Xj_rg | (unfold rgL; omega)) (by first | assumption | omega) (by first | assumption | exact (LSP_FR hFT1 rfl rfl (by assumption : LSP S))) _) ?_
                    rintro _ _ ⟨rfl, z111, rfl, w111, f167⟩
                    show Pl _ _ _ _ _ _ [iv z111] _ _
                    have m167 : z111 = fqe S c v4 := fqe_e hFT1 rfl (hFT1.x 904 15 rfl) (show _ = _ by unfold fqm; omega) f167 ((hFT1.cx 995 rfl _).2) (by first | exact (if_neg (by unfold fqm; omega)).symm | exact ((hFT1.cx 995 rfl _).2).trans (if_pos (by unfold fqm; omega)).symm) (by first | exact (if_neg (by unfold fqm; omega)).symm | exact ((hFT1.cx 995 rfl _).2).trans (if_pos (by unfold fqm; omega)).symm)
                    clear f167
                    refine y_istore rfl rfl rfl ?_
                    refine y_aload_n rfl rfl ?_
                    refine y_gfr rfl rfl rfl rfl rfl (hHT1.r 904 59 949 rfl) ?_
                    refine y_iload_n rfl rfl ?_
                    refine y_ialoadP (n := 20) rfl rfl (by unfold rg; omega) (fun w112 w113 => ?_)
                    have w114 : -2147483648 ≤ (Xi T1 949 ((c).toNat)) ∧ (Xi T1 949 ((c).toNat)) ≤ 2147483647 := Xi_rgI
                    have y177 : Xi T1 949 c.toNat = Xi S 949 c.toNat := (hFT1.cx 949 rfl _).1
                    refine y_bipush rfl rfl ?_
                    refine y_icmp_ne rfl rfl (by unfold rg; omega) (by unfold rg; omega) (fun w115 => ?_) (fun w116 => ?_)
                    · refine y_iconst rfl ?_
                      refine y_istore rfl rfl rfl ?_
                      refine y_iload rfl rfl ?_
                      refine y_iconst rfl ?_
                      refine y_icmp_eq rfl rfl (by unfold rg; omega) (by unfold rg; omega) (fun w117 => ?_) (fun w118 => ?_)
                      · refine y_iconst rfl ?_
                        have K247 : True := trivial
                        have N247 : ∀ m, ¬ FQC S c (Xi S 947 c.toNat).toNat (Xi S 904 164) m := by first | exact fqn_g Q196.o (by omega) (by omega) z196 (fun q => by have a := q.2.1; have b := q.2.2.1; have d := q.2.2.2; rw [← m196] at a b d; first | (have u := K241; have u := (d (by omega)).2; omega) | omega) _ | exact fqn_g Q25.o (by omega) (by omega) (by rw [← y42]; omega) (fun q => by have a := q.2.1; rw [← m167] at a; omega) _
                        refine y_ireturn rfl rfl ?_
                        exact ⟨hHT1, hFT1, _, rfl, ⟨by omega, by omega⟩, (by first | (have u := K80; exact ⟨fun q => absurd q (by omega), fun _ => N80⟩) | (have u := K117; exact ⟨fun q => absurd q (by omega), fun _ => N117⟩) | (have u := K247; exact ⟨fun q => absurd q (by omega), fun _ => N247⟩) | (have u := K282; exact ⟨fun _ => by have u := Q25.o; rw [show v5 = Xi S 947 c.toNat by omega, show v4 = Xi S 904 164 by omega] at u; exact u, fun q => absurd q (by omega)⟩) | exact ⟨fun q => absurd q (by omega), fun _ m q => absurd (fqc_det _ q (by have u := Q25.o; rw [show v5 = Xi S 947 c.toNat by omega] at u; exact u)).1 (by omega)⟩)⟩
                      · exact Pl_weak (C196 T1 hHT1 hFT1 (v2) (v3) (v4) (v5) ((1 + v3)) (z111) (0) (by omega) (by omega) (by omega) (by omega) (by omega) (by omega) (by omega) (by omega) (by omega) (by omega) (by omega) (by first | exact m6 | (unfold fqm; omega)) (by omega) (by omega) (by first | exact Or.inl ⟨rfl, by omega⟩ | exact Or.inr ⟨rfl, by omega⟩) (by rw [← y42]; omega) (m167) (Q25)) (by omega) (And.intro rfl (And.intro rfl (And.intro rfl (And.intro rfl (And.intro rfl (And.intro rfl (And.intro rfl (And.intro rfl (And.intro rfl (True.intro))))))))))
                    · refine y_iconst rfl ?_
                      refine y_goto rfl rfl ?_
                      refine y_istore rfl rfl rfl ?_
                      refine y_iload rfl rfl ?_
                      refine y_iconst rfl ?_
                      refine y_icmp_eq rfl rfl (by unfold rg; omega) (by unfold rg; omega) (fun w119 => ?_) (fun w120 => ?_)
                      · refine y_iconst rfl ?_
                        have K247 : True := trivial
                        have N247 : ∀ m, ¬ FQC S c (Xi S 947 c.toNat).toNat (Xi S 904 164) m := by first | exact fqn_g Q196.o (by omega) (by omega) z196 (fun q => by have a := q.2.1; have b := q.2.2.1; have d := q.2.2.2; rw [← m196] at a b d; first | (have u := K241; have u := (d (by omega)).2; omega) | omega) _ | exact fqn_g Q25.o (by omega) (by omega) (by rw [← y42]; omega) (fun q => by have a := q.2.1; rw [← m167] at a; omega) _
                        refine y_ireturn rfl rfl ?_
                        exact ⟨hHT1, hFT1, _, rfl, ⟨by omega, by omega⟩, (by first | (have u := K80; exact ⟨fun q => absurd q (by omega), fun _ => N80⟩) | (have u := K117; exact ⟨fun q => absurd q (by omega), fun _ => N117⟩) | (have u := K247; exact ⟨fun q => absurd q (by omega), fun _ => N247⟩) | (have u := K282; exact ⟨fun _ => by have u := Q25.o; rw [show v5 = Xi S 947 c.toNat by omega, show v4 = Xi S 904 164 by omega] at u; exact u, fun q => absurd q (by omega)⟩) | exact ⟨fun q => absurd q (by omega), fun _ m q => absurd (fqc_det _ q (by have u := Q25.o; rw [show v5 = Xi S 947 c.toNat by omega] at u; exact u)).1 (by omega)⟩)⟩
                      · exact Pl_weak (C196 T1 hHT1 hFT1 (v2) (v3) (v4) (v5) ((1 + v3)) (z111) (1) (by omega) (by omega) (by omega) (by omega) (by omega) (by omega) (by omega) (by omega) (by omega) (by omega) (by omega) (by first | exact m6 | (unfold fqm; omega)) (by omega) (by omega) (by first | exact Or.inl ⟨rfl, by omega⟩ | exact Or.inr ⟨rfl, by omega⟩) (by rw [← y42]; omega) (m167) (Q25)) (by omega) (And.intro rfl (And.intro rfl (And.intro rfl (And.intro rfl (And.intro rfl (And.intro rfl (And.intro rfl (And.intro rfl (And.intro rfl (True.intro))))))))))
                  · refine y_aload_n rfl rfl ?_
                    refine y_gfr rfl rfl rfl rfl rfl (hHT1.r 904 163 995 rfl) ?_
                    refine y_iload rfl rfl ?_
                    refine y_iconst rfl ?_
                    refine y_iadd rfl ?_
                    refine y_laloadP (n := 50) rfl rfl (by unfold rg; omega) (fun w121 w122 => ?_)
                    have w123 : -9223372036854775808 ≤ (Xj T1 995 (((v4 + 2)).toNat)) ∧ (Xj T1 995 (((v4 + 2)).toNat)) < 9223372036854775808 := Xj_rg
                    refine y_goto rfl rfl ?_
                    refine y_iload rfl rfl ?_
                    refine y_callV rfl rfl rfl (t_mo_find__p hHT1 (Xj T1 995 ((v4).toNat)) 0 (Xj T1 995 (((v4 + 2)).toNat)) (1 + v3) ⟨by omega, by omega⟩ (Xj_rg) (by first | exact Xj_rg | (unfold rgL; omega)) (by first | exact Xj_rg | (unfold rgL; omega)) (by first | assumption | omega) (by first | assumption | exact (LSP_FR hFT1 rfl rfl (by assumption : LSP S))) _) ?_
                    rintro _ _ ⟨rfl, z124, rfl, w124, f167⟩
                    show Pl _ _ _ _ _ _ [iv z124] _ _
                    have m167 : z124 = fqe S c v4 := fqe_e hFT1 rfl (hFT1.x 904 15 rfl) (show _ = _ by unfold fqm; omega) f167 ((hFT1.cx 995 rfl _).2) (by first | exact (if_neg (by unfold fqm; omega)).symm | exact ((hFT1.cx 995 rfl _).2).trans (if_pos (by unfold fqm; omega)).symm) (by first | exact (if_neg (by unfold fqm; omega)).symm | exact ((hFT1.cx 995 rfl _).2).trans (if_pos (by unfold fqm; omega)).symm)
                    clear f167
                    refine y_istore rfl rfl rfl ?_
                    refine y_aload_n rfl rfl ?_
                    refine y_gfr rfl rfl rfl rfl rfl (hHT1.r 904 59 949 rfl) ?_
                    refine y_iload_n rfl rfl ?_
                    refine y_ialoadP (n := 20) rfl rfl (by unfold rg; omega) (fun w125 w126 => ?_)
                    have w127 : -2147483648 ≤ (Xi T1 949 ((c).toNat)) ∧ (Xi T1 949 ((c).toNat)) ≤ 2147483647 := Xi_rgI
                    have y177 : Xi T1 949 c.toNat = Xi S 949 c.toNat := (hFT1.cx 949 rfl _).1
                    refine y_bipush rfl rfl ?_
                    refine y_icmp_ne rfl rfl (by unfold rg; omega) (by unfold rg; omega) (fun w128 => ?_) (fun w129 => ?_)
                    · refine y_iconst rfl ?_
                      refine y_istore rfl rfl rfl ?_
                      refine y_iload rfl rfl ?_
                      refine y_iconst rfl ?_
                      refine y_icmp_eq rfl rfl (by unfold rg; omega) (by unfold rg; omega) (fun w130 => ?_) (fun w131 => ?_)
                      · refine y_iconst rfl ?_
                        have K247 : True := trivial
                        have N247 : ∀ m, ¬ FQC S c (Xi S 947 c.toNat).toNat (Xi S 904 164) m := by first | exact fqn_g Q196.o (by omega) (by omega) z196 (fun q => by have a := q.2.1; have b := q.2.2.1; have d := q.2.2.2; rw [← m196] at a b d; first | (have u := K241; have u := (d (by omega)).2; omega) | omega) _ | exact fqn_g Q25.o (by omega) (by omega) (by rw [← y42]; omega) (fun q => by have a := q.2.1; rw [← m167] at a; omega) _
                        refine y_ireturn rfl rfl ?_
                        exact ⟨hHT1, hFT1, _, rfl, ⟨by omega, by omega⟩, (by first | (have u := K80; exact ⟨fun q => absurd q (by omega), fun _ => N80⟩) | (have u := K117; exact ⟨fun q => absurd q (by omega), fun _ => N117⟩) | (have u := K247; exact ⟨fun q => absurd q (by omega), fun _ => N247⟩) | (have u := K282; exact ⟨fun _ => by have u := Q25.o; rw [show v5 = Xi S 947 c.toNat by omega, show v4 = Xi S 904 164 by omega] at u; exact u, fun q => absurd q (by omega)⟩) | exact ⟨fun q => absurd q (by omega), fun _ m q => absurd (fqc_det _ q (by have u := Q25.o; rw [show v5 = Xi S 947 c.toNat by omega] at u; exact u)).1 (by omega)⟩)⟩
                      · exact Pl_weak (C196 T1 hHT1 hFT1 (v2) (v3) (v4) (v5) ((1 + v3)) (z124) (0) (by omega) (by omega) (by omega) (by omega) (by omega) (by omega) (by omega) (by omega) (by omega) (by omega) (by omega) (by first | exact m6 | (unfold fqm; omega)) (by omega) (by omega) (by first | exact Or.inl ⟨rfl, by omega⟩ | exact Or.inr ⟨rfl, by omega⟩) (by rw [← y42]; omega) (m167) (Q25)) (by omega) (And.intro rfl (And.intro rfl (And.intro rfl (And.intro rfl (And.intro rfl (And.intro rfl (And.intro rfl (And.intro rfl (And.intro rfl (True.intro))))))))))
                    · refine y_iconst rfl ?_
                      refine y_goto rfl rfl ?_
                      refine y_istore rfl rfl rfl ?_
                      refine y_iload rfl rfl ?_
                      refine y_iconst rfl ?_
                      refine y_icmp_eq rfl rfl (by unfold rg; omega) (by unfold rg; omega) (fun w132 => ?_) (fun w133 => ?_)
                      · refine y_iconst rfl ?_
                        have K247 : True := trivial
                        have N247 : ∀ m, ¬ FQC S c (Xi S 947 c.toNat).toNat (Xi S 904 164) m := by first | exact fqn_g Q196.o (by omega) (by omega) z196 (fun q => by have a := q.2.1; have b := q.2.2.1; have d := q.2.2.2; rw [← m196] at a b d; first | (have u := K241; have u := (d (by omega)).2; omega) | omega) _ | exact fqn_g Q25.o (by omega) (by omega) (by rw [← y42]; omega) (fun q => by have a := q.2.1; rw [← m167] at a; omega) _
                        refine y_ireturn rfl rfl ?_
                        exact ⟨hHT1, hFT1, _, rfl, ⟨by omega, by omega⟩, (by first | (have u := K80; exact ⟨fun q => absurd q (by omega), fun _ => N80⟩) | (have u := K117; exact ⟨fun q => absurd q (by omega), fun _ => N117⟩) | (have u := K247; exact ⟨fun q => absurd q (by omega), fun _ => N247⟩) | (have u := K282; exact ⟨fun _ => by have u := Q25.o; rw [show v5 = Xi S 947 c.toNat by omega, show v4 = Xi S 904 164 by omega] at u; exact u, fun q => absurd q (by omega)⟩) | exact ⟨fun q => absurd q (by omega), fun _ m q => absurd (fqc_det _ q (by have u := Q25.o; rw [show v5 = Xi S 947 c.toNat by omega] at u; exact u)).1 (by omega)⟩)⟩
                      · exact Pl_weak (C196 T1 hHT1 hFT1 (v2) (v3) (v4) (v5) ((1 + v3)) (z124) (1) (by omega) (by omega) (by omega) (by omega) (by omega) (by omega) (by omega) (by omega) (by omega) (by omega) (by omega) (by first | exact m6 | (unfold fqm; omega)) (by omega) (by omega) (by first | exact Or.inl ⟨rfl, by omega⟩ | exact Or.inr ⟨rfl, by omega⟩) (by rw [← y42]; omega) (m167) (Q25)) (by omega) (And.intro rfl (And.intro rfl (And.intro rfl (And.intro rfl (And.intro rfl (And.intro rfl (And.intro rfl (And.intro rfl (And.intro rfl (True.intro))))))))))
                · refine y_aload_n rfl rfl ?_
                  refine y_gfr rfl rfl rfl rfl rfl (hHT1.r 904 163 995 rfl) ?_
                  refine y_iload rfl rfl ?_
                  refine y_iconst rfl ?_
                  refine y_iadd rfl ?_
                  refine y_laloadP (n := 50) rfl rfl (by unfold rg; omega) (fun w134 w135 => ?_)
                  have w136 : -9223372036854775808 ≤ (Xj T1 995 (((v4 + 1)).toNat)) ∧ (Xj T1 995 (((v4 + 1)).toNat)) < 9223372036854775808 := Xj_rg
                  refine y_goto rfl rfl ?_
                  refine y_iload rfl rfl ?_
                  refine y_iconst rfl ?_
                  refine y_icmp_le rfl rfl (by unfold rg; omega) (by unfold rg; omega) (fun w137 => ?_) (fun w138 => ?_)
                  · refine y_lconst (z := 0) rfl rfl ?_
                    refine y_iload rfl rfl ?_
                    refine y_callV rfl rfl rfl (t_mo_find__p hHT1 (Xj T1 995 ((v4).toNat)) (Xj T1 995 (((v4 + 1)).toNat)) 0 (1 + v3) ⟨by omega, by omega⟩ (Xj_rg) (by first | exact Xj_rg | (unfold rgL; omega)) (by first | exact Xj_rg | (unfold rgL; omega)) (by first | assumption | omega) (by first | assumption | exact (LSP_FR hFT1 rfl rfl (by assumption : LSP S))) _) ?_
                    rintro _ _ ⟨rfl, z139, rfl, w139, f167⟩
                    show Pl _ _ _ _ _ _ [iv z139] _ _
                    have m167 : z139 = fqe S c v4 := fqe_e hFT1 rfl (hFT1.x 904 15 rfl) (show _ = _ by unfold fqm; omega) f167 ((hFT1.cx 995 rfl _).2) (by first | exact (if_neg (by unfold fqm; omega)).symm | exact ((hFT1.cx 995 rfl _).2).trans (if_pos (by unfold fqm; omega)).symm) (by first | exact (if_neg (by unfold fqm; omega)).symm | exact ((hFT1.cx 995 rfl _).2).trans (if_pos (by unfold fqm; omega)).symm)
                    clear f167
                    refine y_istore rfl rfl rfl ?_
                    refine y_aload_n rfl rfl ?_
                    refine y_gfr rfl rfl rfl rfl rfl (hHT1.r 904 59 949 rfl) ?_
                    refine y_iload_n rfl rfl ?_
                    refine y_ialoadP (n := 20) rfl rfl (by unfold rg; omega) (fun w140 w141 => ?_)
                    have w142 : -2147483648 ≤ (Xi T1 949 ((c).toNat)) ∧ (Xi T1 949 ((c).toNat)) ≤ 2147483647 := Xi_rgI
                    have y177 : Xi T1 949 c.toNat = Xi S 949 c.toNat := (hFT1.cx 949 rfl _).1
                    refine y_bipush rfl rfl ?_
                    refine y_icmp_ne rfl rfl (by unfold rg; omega) (by unfold rg; omega) (fun w143 => ?_) (fun w144 => ?_)
                    · refine y_iconst rfl ?_
                      refine y_istore rfl rfl rfl ?_
                      refine y_iload rfl rfl ?_
                      refine y_iconst rfl ?_
                      refine y_icmp_eq rfl rfl (by unfold rg; omega) (by unfold rg; omega) (fun w145 => ?_) (fun w146 => ?_)
                      · refine y_iconst rfl ?_
                        have K247 : True := trivial
                        have N247 : ∀ m, ¬ FQC S c (Xi S 947 c.toNat).toNat (Xi S 904 164) m := by first | exact fqn_g Q196.o (by omega) (by omega) z196 (fun q => by have a := q.2.1; have b := q.2.2.1; have d := q.2.2.2; rw [← m196] at a b d; first | (have u := K241; have u := (d (by omega)).2; omega) | omega) _ | exact fqn_g Q25.o (by omega) (by omega) (by rw [← y42]; omega) (fun q => by have a := q.2.1; rw [← m167] at a; omega) _
                        refine y_ireturn rfl rfl ?_
                        exact ⟨hHT1, hFT1, _, rfl, ⟨by omega, by omega⟩, (by first | (have u := K80; exact ⟨fun q => absurd q (by omega), fun _ => N80⟩) | (have u := K117; exact ⟨fun q => absurd q (by omega), fun _ => N117⟩) | (have u := K247; exact ⟨fun q => absurd q (by omega), fun _ => N247⟩) | (have u := K282; exact ⟨fun _ => by have u := Q25.o; rw [show v5 = Xi S 947 c.toNat by omega, show v4 = Xi S 904 164 by omega] at u; exact u, fun q => absurd q (by omega)⟩) | exact ⟨fun q => absurd q (by omega), fun _ m q => absurd (fqc_det _ q (by have u := Q25.o; rw [show v5 = Xi S 947 c.toNat by omega] at u; exact u)).1 (by omega)⟩)⟩
                      · exact Pl_weak (C196 T1 hHT1 hFT1 (v2) (v3) (v4) (v5) ((1 + v3)) (z139) (0) (by omega) (by omega) (by omega) (by omega) (by omega) (by omega) (by omega) (by omega) (by omega) (by omega) (by omega) (by first | exact m6 | (unfold fqm; omega)) (by omega) (by omega) (by first | exact Or.inl ⟨rfl, by omega⟩ | exact Or.inr ⟨rfl, by omega⟩) (by rw [← y42]; omega) (m167) (Q25)) (by omega) (And.intro rfl (And.intro rfl (And.intro rfl (And.intro rfl (And.intro rfl (And.intro rfl (And.intro rfl (And.intro rfl (And.intro rfl (True.intro))))))))))
                    · refine y_iconst rfl ?_
                      refine y_goto rfl rfl ?_
                      refine y_istore rfl rfl rfl ?_
                      refine y_iload rfl rfl ?_
                      refine y_iconst rfl ?_
                      refine y_icmp_eq rfl rfl (by unfold rg; omega) (by unfold rg; omega) (fun w147 => ?_) (fun w148 => ?_)
                      · refine y_iconst rfl ?_
                        have K247 : True := trivial
                        have N247 : ∀ m, ¬ FQC S c (Xi S 947 c.toNat).toNat (Xi S 904 164) m := by first | exact fqn_g Q196.o (by omega) (by omega) z196 (fun q => by have a := q.2.1; have b := q.2.2.1; have d := q.2.2.2; rw [← m196] at a b d; first | (have u := K241; have u := (d (by omega)).2; omega) | omega) _ | exact fqn_g Q25.o (by omega) (by omega) (by rw [← y42]; omega) (fun q => by have a := q.2.1; rw [← m167] at a; omega) _
                        refine y_ireturn rfl rfl ?_
                        exact ⟨hHT1, hFT1, _, rfl, ⟨by omega, by omega⟩, (by first | (have u := K80; exact ⟨fun q => absurd q (by omega), fun _ => N80⟩) | (have u := K117; exact ⟨fun q => absurd q (by omega), fun _ => N117⟩) | (have u := K247; exact ⟨fun q => absurd q (by omega), fun _ => N247⟩) | (have u := K282; exact ⟨fun _ => by have u := Q25.o; rw [show v5 = Xi S 947 c.toNat by omega, show v4 = Xi S 904 164 by omega] at u; exact u, fun q => absurd q (by omega)⟩) | exact ⟨fun q => absurd q (by omega), fun _ m q => absurd (fqc_det _ q (by have u := Q25.o; rw [show v5 = Xi S 947 c.toNat by omega] at u; exact u)).1 (by omega)⟩)⟩
                      · exact Pl_weak (C196 T1 hHT1 hFT1 (v2) (v3) (v4) (v5) ((1 + v3)) (z139) (1) (by omega) (by omega) (by omega) (by omega) (by omega) (by omega) (by omega) (by omega) (by omega) (by omega) (by omega) (by first | exact m6 | (unfold fqm; omega)) (by omega) (by omega) (by first | exact Or.inl ⟨rfl, by omega⟩ | exact Or.inr ⟨rfl, by omega⟩) (by rw [← y42]; omega) (m167) (Q25)) (by omega) (And.intro rfl (And.intro rfl (And.intro rfl (And.intro rfl (And.intro rfl (And.intro rfl (And.intro rfl (And.intro rfl (And.intro rfl (True.intro))))))))))
                  · refine y_aload_n rfl rfl ?_
                    refine y_gfr rfl rfl rfl rfl rfl (hHT1.r 904 163 995 rfl) ?_
                    refine y_iload rfl rfl ?_
                    refine y_iconst rfl ?_
                    refine y_iadd rfl ?_
                    refine y_laloadP (n := 50) rfl rfl (by unfold rg; omega) (fun w149 w150 => ?_)
                    have w151 : -9223372036854775808 ≤ (Xj T1 995 (((v4 + 2)).toNat)) ∧ (Xj T1 995 (((v4 + 2)).toNat)) < 9223372036854775808 := Xj_rg
                    refine y_goto rfl rfl ?_
                    refine y_iload rfl rfl ?_
                    refine y_callV rfl rfl rfl (t_mo_find__p hHT1 (Xj T1 995 ((v4).toNat)) (Xj T1 995 (((v4 + 1)).toNat)) (Xj T1 995 (((v4 + 2)).toNat)) (1 + v3) ⟨by omega, by omega⟩ (Xj_rg) (by first | exact Xj_rg | (unfold rgL; omega)) (by first | exact Xj_rg | (unfold rgL; omega)) (by first | assumption | omega) (by first | assumption | exact (LSP_FR hFT1 rfl rfl (by assumption : LSP S))) _) ?_
                    rintro _ _ ⟨rfl, z152, rfl, w152, f167⟩
                    show Pl _ _ _ _ _ _ [iv z152] _ _
                    have m167 : z152 = fqe S c v4 := fqe_e hFT1 rfl (hFT1.x 904 15 rfl) (show _ = _ by unfold fqm; omega) f167 ((hFT1.cx 995 rfl _).2) (by first | exact (if_neg (by unfold fqm; omega)).symm | exact ((hFT1.cx 995 rfl _).2).trans (if_pos (by unfold fqm; omega)).symm) (by first | exact (if_neg (by unfold fqm; omega)).symm | exact ((hFT1.cx 995 rfl _).2).trans (if_pos (by unfold fqm; omega)).symm)
                    clear f167
                    refine y_istore rfl rfl rfl ?_
                    refine y_aload_n rfl rfl ?_
                    refine y_gfr rfl rfl rfl rfl rfl (hHT1.r 904 59 949 rfl) ?_
                    refine y_iload_n rfl rfl ?_
                    refine y_ialoadP (n := 20) rfl rfl (by unfold rg; omega) (fun w153 w154 => ?_)
                    have w155 : -2147483648 ≤ (Xi T1 949 ((c).toNat)) ∧ (Xi T1 949 ((c).toNat)) ≤ 2147483647 := Xi_rgI
                    have y177 : Xi T1 949 c.toNat = Xi S 949 c.toNat := (hFT1.cx 949 rfl _).1
                    refine y_bipush rfl rfl ?_
                    refine y_icmp_ne rfl rfl (by unfold rg; omega) (by unfold rg; omega) (fun w156 => ?_) (fun w157 => ?_)
                    · refine y_iconst rfl ?_
                      refine y_istore rfl rfl rfl ?_
                      refine y_iload rfl rfl ?_
                      refine y_iconst rfl ?_
                      refine y_icmp_eq rfl rfl (by unfold rg; omega) (by unfold rg; omega) (fun w158 => ?_) (fun w159 => ?_)
                      · refine y_iconst rfl ?_
                        have K247 : True := trivial
                        have N247 : ∀ m, ¬ FQC S c (Xi S 947 c.toNat).toNat (Xi S 904 164) m := by first | exact fqn_g Q196.o (by omega) (by omega) z196 (fun q => by have a := q.2.1; have b := q.2.2.1; have d := q.2.2.2; rw [← m196] at a b d; first | (have u := K241; have u := (d (by omega)).2; omega) | omega) _ | exact fqn_g Q25.o (by omega) (by omega) (by rw [← y42]; omega) (fun q => by have a := q.2.1; rw [← m167] at a; omega) _
                        refine y_ireturn rfl rfl ?_
                        exact ⟨hHT1, hFT1, _, rfl, ⟨by omega, by omega⟩, (by first | (have u := K80; exact ⟨fun q => absurd q (by omega), fun _ => N80⟩) | (have u := K117; exact ⟨fun q => absurd q (by omega), fun _ => N117⟩) | (have u := K247; exact ⟨fun q => absurd q (by omega), fun _ => N247⟩) | (have u := K282; exact ⟨fun _ => by have u := Q25.o; rw [show v5 = Xi S 947 c.toNat by omega, show v4 = Xi S 904 164 by omega] at u; exact u, fun q => absurd q (by omega)⟩) | exact ⟨fun q => absurd q (by omega), fun _ m q => absurd (fqc_det _ q (by have u := Q25.o; rw [show v5 = Xi S 947 c.toNat by omega] at u; exact u)).1 (by omega)⟩)⟩
                      · exact Pl_weak (C196 T1 hHT1 hFT1 (v2) (v3) (v4) (v5) ((1 + v3)) (z152) (0) (by omega) (by omega) (by omega) (by omega) (by omega) (by omega) (by omega) (by omega) (by omega) (by omega) (by omega) (by first | exact m6 | (unfold fqm; omega)) (by omega) (by omega) (by first | exact Or.inl ⟨rfl, by omega⟩ | exact Or.inr ⟨rfl, by omega⟩) (by rw [← y42]; omega) (m167) (Q25)) (by omega) (And.intro rfl (And.intro rfl (And.intro rfl (And.intro rfl (And.intro rfl (And.intro rfl (And.intro rfl (And.intro rfl (And.intro rfl (True.intro))))))))))
                    · refine y_iconst rfl ?_
                      refine y_goto rfl rfl ?_
                      refine y_istore rfl rfl rfl ?_
                      refine y_iload rfl rfl ?_
                      refine y_iconst rfl ?_
                      refine y_icmp_eq rfl rfl (by unfold rg; omega) (by unfold rg; omega) (fun w160 => ?_) (fun w161 => ?_)
                      · refine y_iconst rfl ?_
                        have K247 : True := trivial
                        have N247 : ∀ m, ¬ FQC S c (Xi S 947 c.toNat).toNat (Xi S 904 164) m := by first | exact fqn_g Q196.o (by omega) (by omega) z196 (fun q => by have a := q.2.1; have b := q.2.2.1; have d := q.2.2.2; rw [← m196] at a b d; first | (have u := K241; have u := (d (by omega)).2; omega) | omega) _ | exact fqn_g Q25.o (by omega) (by omega) (by rw [← y42]; omega) (fun q => by have a := q.2.1; rw [← m167] at a; omega) _
                        refine y_ireturn rfl rfl ?_
                        exact ⟨hHT1, hFT1, _, rfl, ⟨by omega, by omega⟩, (by first | (have u := K80; exact ⟨fun q => absurd q (by omega), fun _ => N80⟩) | (have u := K117; exact ⟨fun q => absurd q (by omega), fun _ => N117⟩) | (have u := K247; exact ⟨fun q => absurd q (by omega), fun _ => N247⟩) | (have u := K282; exact ⟨fun _ => by have u := Q25.o; rw [show v5 = Xi S 947 c.toNat by omega, show v4 = Xi S 904 164 by omega] at u; exact u, fun q => absurd q (by omega)⟩) | exact ⟨fun q => absurd q (by omega), fun _ m q => absurd (fqc_det _ q (by have u := Q25.o; rw [show v5 = Xi S 947 c.toNat by omega] at u; exact u)).1 (by omega)⟩)⟩
                      · exact Pl_weak (C196 T1 hHT1 hFT1 (v2) (v3) (v4) (v5) ((1 + v3)) (z152) (1) (by omega) (by omega) (by omega) (by omega) (by omega) (by omega) (by omega) (by omega) (by omega) (by omega) (by omega) (by first | exact m6 | (unfold fqm; omega)) (by omega) (by omega) (by first | exact Or.inl ⟨rfl, by omega⟩ | exact Or.inr ⟨rfl, by omega⟩) (by rw [← y42]; omega) (m167) (Q25)) (by omega) (And.intro rfl (And.intro rfl (And.intro rfl (And.intro rfl (And.intro rfl (And.intro rfl (And.intro rfl (And.intro rfl (And.intro rfl (True.intro))))))))))
              · refine y_iconst rfl ?_
                have K117 : True := trivial
                have N117 : ∀ m, ¬ FQC S c (Xi S 947 c.toNat).toNat (Xi S 904 164) m := fqn_g Q25.o (by omega) (by omega) (by rw [← y42]; omega) (fun q => by have u := q.1; unfold fqm at u; omega) _
                refine y_ireturn rfl rfl ?_
                exact ⟨hHT1, hFT1, _, rfl, ⟨by omega, by omega⟩, (by first | (have u := K80; exact ⟨fun q => absurd q (by omega), fun _ => N80⟩) | (have u := K117; exact ⟨fun q => absurd q (by omega), fun _ => N117⟩) | (have u := K247; exact ⟨fun q => absurd q (by omega), fun _ => N247⟩) | (have u := K282; exact ⟨fun _ => by have u := Q25.o; rw [show v5 = Xi S 947 c.toNat by omega, show v4 = Xi S 904 164 by omega] at u; exact u, fun q => absurd q (by omega)⟩) | exact ⟨fun q => absurd q (by omega), fun _ m q => absurd (fqc_det _ q (by have u := Q25.o; rw [show v5 = Xi S 947 c.toNat by omega] at u; exact u)).1 (by omega)⟩)⟩
        · refine y_iload rfl rfl ?_
          refine y_aload_n rfl rfl ?_
          refine y_gfi rfl rfl rfl rfl rfl ?_
          refine y_icmp_ge rfl rfl (by unfold rg; omega) (by unfold rg; omega) (fun w162 => ?_) (fun w163 => ?_)
          · refine y_iconst rfl ?_
            have K80 : True := trivial
            have N80 : ∀ m, ¬ FQC S c (Xi S 947 c.toNat).toNat (Xi S 904 164) m := fqn_w Q25.o (by omega) (by omega) (by rw [← y42]; omega) (by first | (have u := K63; exact Or.inr (by rw [← y42, ← y63]; omega)) | exact Or.inl (by omega)) _
            refine y_ireturn rfl rfl ?_
            exact ⟨hHT1, hFT1, _, rfl, ⟨by omega, by omega⟩, (by first | (have u := K80; exact ⟨fun q => absurd q (by omega), fun _ => N80⟩) | (have u := K117; exact ⟨fun q => absurd q (by omega), fun _ => N117⟩) | (have u := K247; exact ⟨fun q => absurd q (by omega), fun _ => N247⟩) | (have u := K282; exact ⟨fun _ => by have u := Q25.o; rw [show v5 = Xi S 947 c.toNat by omega, show v4 = Xi S 904 164 by omega] at u; exact u, fun q => absurd q (by omega)⟩) | exact ⟨fun q => absurd q (by omega), fun _ m q => absurd (fqc_det _ q (by have u := Q25.o; rw [show v5 = Xi S 947 c.toNat by omega] at u; exact u)).1 (by omega)⟩)⟩
          · refine y_aload_n rfl rfl ?_
            refine y_gfr rfl rfl rfl rfl rfl (hHT1.r 904 163 995 rfl) ?_
            refine y_iload rfl rfl ?_
            refine y_laloadP (n := 50) rfl rfl (by unfold rg; omega) (fun w164 w165 => ?_)
            have w166 : -9223372036854775808 ≤ (Xj T1 995 ((v4).toNat)) ∧ (Xj T1 995 ((v4).toNat)) < 9223372036854775808 := Xj_rg
            have K63 : True := trivial
            have y63 : Xj T1 995 (v4).toNat = Xj S 995 (v4).toNat := (hFT1.cx 995 rfl _).2
            refine y_aload_n rfl rfl ?_
            refine y_gfr rfl rfl rfl rfl rfl (hHT1.r 904 58 948 rfl) ?_
            refine y_bipush rfl rfl ?_
            refine y_iload_n rfl rfl ?_
            refine y_imul rfl ?_
            refine y_iload rfl rfl ?_
            refine y_iadd rfl ?_
            refine y_laloadP (n := 160) rfl rfl (by unfold rg; omega) (fun w167 w168 => ?_)
            have w169 : -9223372036854775808 ≤ (Xj T1 948 ((((8 * c) + v5)).toNat)) ∧ (Xj T1 948 ((((8 * c) + v5)).toNat)) < 9223372036854775808 := Xj_rg
            refine y_lcmp rfl (by unfold rgL; omega) (by unfold rgL; omega) (fun c170 w170 w170a w170b w170c => ?_)
            refine y_if_eq rfl rfl (by unfold rg; omega) (fun w171 => ?_) (fun w172 => ?_)
            · refine y_iinc rfl rfl rfl rfl ?_
              have Q82 : Hid (FQC S c (v5 + 1).toNat (v4 + 1) (Xi T1 904 165)) := fqc_w Q25.o (by omega) (by rw [← y42]; omega) (by omega) (by rw [← y42, ← y63]; omega)
              refine y_goto rfl rfl ?_
              refine y_iinc rfl rfl rfl rfl ?_
              refine y_goto rfl rfl ?_
              exact Pl_weak (ih25 (by omega) T1 hHT1 hFT1 (v2) (v3) ((v4 + 1)) ((v5 + 1)) (by omega) (by omega) (by omega) (by omega) (by omega) (by omega) (by omega) (by omega) (by first | exact Q82 | exact Q257 | exact fqc_0 e19)) (by omega) (And.intro rfl (And.intro rfl (And.intro rfl (And.intro rfl (And.intro rfl (And.intro rfl (True.intro)))))))
            · refine y_iconst rfl ?_
              have K80 : True := trivial
              have N80 : ∀ m, ¬ FQC S c (Xi S 947 c.toNat).toNat (Xi S 904 164) m := fqn_w Q25.o (by omega) (by omega) (by rw [← y42]; omega) (by first | (have u := K63; exact Or.inr (by rw [← y42, ← y63]; omega)) | exact Or.inl (by omega)) _
              refine y_ireturn rfl rfl ?_
              exact ⟨hHT1, hFT1, _, rfl, ⟨by omega, by omega⟩, (by first | (have u := K80; exact ⟨fun q => absurd q (by omega), fun _ => N80⟩) | (have u := K117; exact ⟨fun q => absurd q (by omega), fun _ => N117⟩) | (have u := K247; exact ⟨fun q => absurd q (by omega), fun _ => N247⟩) | (have u := K282; exact ⟨fun _ => by have u := Q25.o; rw [show v5 = Xi S 947 c.toNat by omega, show v4 = Xi S 904 164 by omega] at u; exact u, fun q => absurd q (by omega)⟩) | exact ⟨fun q => absurd q (by omega), fun _ m q => absurd (fqc_det _ q (by have u := Q25.o; rw [show v5 = Xi S 947 c.toNat by omega] at u; exact u)).1 (by omega)⟩)⟩
  refine y_aload_n rfl rfl ?_
  refine y_gfr rfl rfl rfl rfl rfl (hH.r 904 57 947 rfl) ?_
  refine y_iload_n rfl rfl ?_
  refine y_ialoadP (n := 20) rfl rfl (by unfold rg; omega) (fun w173 w174 => ?_)
  have w175 : -2147483648 ≤ (Xi S 947 ((c).toNat)) ∧ (Xi S 947 ((c).toNat)) ≤ 2147483647 := Xi_rgI
  refine y_istore_n rfl rfl rfl ?_
  refine y_aload_n rfl rfl ?_
  refine y_gfi rfl rfl rfl rfl rfl ?_
  refine y_iload_n rfl rfl ?_
  refine y_isub rfl ?_
  refine y_istore_n rfl rfl rfl ?_
  refine y_iconst rfl ?_
  refine y_istore rfl rfl rfl ?_
  refine y_aload_n rfl rfl ?_
  refine y_iconst rfl ?_
  refine y_pfi rfl rfl rfl rfl ?_
  obtain ⟨U7, eU7⟩ : ∃ T : sS, T = uI S 904 165 (Int32.ofInt (-1)) := ⟨_, rfl⟩
  rw [← eU7]
  have hHU7 : RI U7 := by rw [eU7]; exact RI_w hH
  have hFU7 : FR md_mo_fitsCommand__p S U7 := by rw [eU7]; exact FR.wI hF (mdf_i (r := (904, 905, 165, 166)) (List.mem_of_getElem? (i := 0) rfl) (inR_i (by omega) (by omega) (by omega) (by omega)))
  have w176 : Xi U7 904 165 = (-1) := by rw [eU7]; exact Xi_same (by unfold rg; omega)
  have e19 := eU7
  refine y_iconst rfl ?_
  refine y_istore rfl rfl rfl ?_
  have w177 : Xi U7 904 164 = Xi S 904 164 := (show Xi U7 904 164 = Xi S 904 164 from by rw [eU7]; exact Xi_ne (by omega))
  exact Pl_weak (C25 fu (by omega) U7 hHU7 hFU7 ((Xi S 947 ((c).toNat))) (((Xi S 904 164) - (Xi S 947 ((c).toNat)))) (0) (0) (by omega) (by omega) (by omega) (by omega) (by omega) (by omega) (by omega) (by omega) (by first | exact Q82 | exact Q257 | exact fqc_0 e19)) (by omega) (And.intro rfl (And.intro rfl (And.intro rfl (And.intro rfl (And.intro rfl (And.intro rfl (True.intro)))))))
end
section
/-- what is typed is what is said -/
def WAL (U S : sS) : Prop := (Xi U 882 12 = Xi S 904 164 ∧ 0 ≤ Xi U 882 12 ∧ Xi U 882 12 ≤ 50) ∧ ∀ i : Nat, (i : Int) < Xi U 882 12 → wdC (Xj U 889 i) ∧ Xj S 995 i = cv (Xj U 889 i)
/-- the gap means the same to both -/
theorem mt_q {U S : sS} {i : Nat} (v : VOC U S) (w : WAL U S) (c : CM1 U S i) (g : Xi U 885 i ≠ -1) (o : Xi U 884 i ≤ Xi U 882 12 ∧ Xi U 882 12 < Xi U 884 i + 3) : mt7 U i = if fqe S i (Xi U 885 i) = -1 then -1 else sg7 (Xi S 914 (fqe S i (Xi U 885 i)).toNat) * 256 + Xi S 915 (fqe S i (Xi U 885 i)).toNat := by
  obtain ⟨_, ⟨c4, _, _⟩, _, c5, _, _⟩ := c
  obtain ⟨⟨w1, _, _⟩, w2⟩ := w
  have hg : 0 ≤ Xi U 885 i ∧ Xi U 885 i < Xi U 884 i := c5.elim (fun q => absurd q g) id
  have e1 : ((i : Int)).toNat = i := Int.toNat_natCast i
  obtain ⟨gn, hgn⟩ : ∃ gn : Nat, (gn : Int) = Xi U 885 i := ⟨(Xi U 885 i).toNat, by omega⟩
  have hm : fqm S i = Xi U 882 12 - Xi U 884 i + 1 := by unfold fqm; rw [e1]; omega
  obtain ⟨a1, b1⟩ := w2 gn (by omega)
  have a2 : 1 < fqm S i → wdC (Xj U 889 (gn + 1)) ∧ Xj S 995 (gn + 1) = cv (Xj U 889 (gn + 1)) := fun q => w2 (gn + 1) (by omega)
  have a3 : 2 < fqm S i → wdC (Xj U 889 (gn + 2)) ∧ Xj S 995 (gn + 2) = cv (Xj U 889 (gn + 2)) := fun q => w2 (gn + 2) (by omega)
  have u := voc_m v (n := fqm S i) ⟨by omega, by omega⟩ a1 (fun q => (a2 q).1) (fun q => (a3 q).1)
  have i2 : (if 1 < fqm S i then Xj S 995 (gn + 1) else 0) = (if 1 < fqm S i then cv (Xj U 889 (gn + 1)) else 0) := by
    by_cases q : 1 < fqm S i
    · rw [if_pos q, if_pos q]; exact (a2 q).2
    · rw [if_neg q, if_neg q]
  have i3 : (if 2 < fqm S i then Xj S 995 (gn + 2) else 0) = (if 2 < fqm S i then cv (Xj U 889 (gn + 2)) else 0) := by
    by_cases q : 2 < fqm S i
    · rw [if_pos q, if_pos q]; exact (a3 q).2
    · rw [if_neg q, if_neg q]
  have f : fqe S i (Xi U 885 i) = fdR S (cv (Xj U 889 gn)) (if 1 < fqm S i then cv (Xj U 889 (gn + 1)) else 0) (if 2 < fqm S i then cv (Xj U 889 (gn + 2)) else 0) (fqm S i) (Xi S 904 15).toNat := by
    unfold fqe
    rw [← hgn, Int.toNat_natCast, b1, show ((gn : Int) + 1).toNat = gn + 1 by omega, show ((gn : Int) + 2).toNat = gn + 2 by omega, i2, i3]
  refine Eq.trans ?_ (u.trans (by rw [f]))
  unfold mt7 mnR
  rw [e1, ← hgn, Int.toNat_natCast, ← hm]
  have j2 : (if 1 < (fqm S i).toNat then Xj U 889 (gn + 1) else 0) = (if 1 < fqm S i then Xj U 889 (gn + 1) else 0) := by
    by_cases q : 1 < fqm S i
    · rw [if_pos q, if_pos (by omega)]
    · rw [if_neg q, if_neg (by omega)]
  have j3 : (if 2 < (fqm S i).toNat then Xj U 889 (gn + 2) else 0) = (if 2 < fqm S i then Xj U 889 (gn + 2) else 0) := by
    by_cases q : 2 < fqm S i
    · rw [if_pos q, if_pos (by omega)]
    · rw [if_neg q, if_neg (by omega)]
  rw [j2, j3]
end
section
/-- an object that is meant is told -/
theorem mnf_o {U : sS} {a b c : Int} (hC : CEN U) (w : WHC U) (h : mnF U a b c / 256 = 2) : 0 ≤ mnF U a b c % 256 ∧ mnF U a b c % 256 < Xi U 5 2 := by
  have ne : mnF U a b c ≠ -1 := fun q => by rw [q] at h; omega
  obtain ⟨j, j0, j1, e⟩ := msc_is (U := U) (a := a) (b := b) (c := c) (Xi U 1 3).toNat 0 ne
  have e : mnF U a b c = Xi U 3 j * 256 + Xi U 4 j := e
  have p := hC j (by omega)
  have d := w j (by omega)
  have s : Xi U 3 j = 2 := by omega
  rw [s] at d
  have d : Xi U 4 j < Xi U 5 2 := d
  omega
/-- a direction that is meant is one of six -/
theorem mnf_d {U : sS} {a b c : Int} (hC : CEN U) (w : WHC U) (h : mnF U a b c / 256 = 14) : 0 ≤ mnF U a b c % 256 ∧ mnF U a b c % 256 ≤ 5 := by
  have ne : mnF U a b c ≠ -1 := fun q => by rw [q] at h; omega
  obtain ⟨j, j0, j1, e⟩ := msc_is (U := U) (a := a) (b := b) (c := c) (Xi U 1 3).toNat 0 ne
  have e : mnF U a b c = Xi U 3 j * 256 + Xi U 4 j := e
  have p := hC j (by omega)
  have d := w j (by omega)
  have s : Xi U 3 j = 14 := by omega
  rw [s] at d
  have d : Xi U 4 j < 6 := d
  omega
/-- what stands in the gap fits both or neither; it is the same noun -/
theorem gap_q {U S : sS} {i : Nat} (h : RLQ U S) (w : WAL U S) (c : CM1 U S i) (g : Xi U 885 i ≠ -1) (o : Xi U 884 i ≤ Xi U 882 12 ∧ Xi U 882 12 < Xi U 884 i + 3) : (FGK U (Xi U 886 i) (mt7 U i) ↔ FQE S i (fqe S i (Xi U 885 i))) ∧ (FGK U (Xi U 886 i) (mt7 U i) → mt7 U i % 256 = Xi S 915 (fqe S i (Xi U 885 i)).toNat) := by
  obtain ⟨⟨v, us, ce, lx, l3⟩, wc, ct, kd, ty, aj, re, bt, va, ⟨ob, _⟩, _⟩ := h
  have m := mt_q v w c g o
  have c6 := c.2.2.1.1
  have e1 : ((i : Int)).toNat = i := Int.toNat_natCast i
  have q2 : mt7 U i / 256 = 2 → 0 ≤ mt7 U i % 256 ∧ mt7 U i % 256 < Xi U 5 2 := fun q => mnf_o ce wc q
  by_cases n : fqe S i (Xi U 885 i) = -1
  · rw [if_pos n] at m
    have nf : ¬ FGK U (Xi U 886 i) (mt7 U i) := fun q => by
      rw [m] at q
      by_cases k : Xi U 886 i = -2
      · have u := q.1 k; omega
      · have u := (q.2 k).1; omega
    exact ⟨⟨fun q => absurd q nf, fun q => absurd n q.1⟩, fun q => absurd q nf⟩
  · rw [if_neg n] at m
    obtain ⟨k, hk, kl, _⟩ := fdR_is (Xi S 904 15).toNat n
    have hk : fqe S i (Xi U 885 i) = k := hk
    obtain ⟨e, he⟩ : ∃ e, e = fqe S i (Xi U 885 i) := ⟨_, rfl⟩
    rw [← he] at m n hk ⊢
    have ek : e.toNat = k := by omega
    obtain ⟨x1, x2⟩ := lx k (by omega)
    rw [ek] at m ⊢
    obtain ⟨s1, s2, s3⟩ := ug_sg x1
    have d1 : mt7 U i / 256 = sg7 (Xi S 914 k) := by omega
    have d2 : mt7 U i % 256 = Xi S 915 k := by omega
    have t12 : sg7 (Xi S 914 k) = 14 ↔ Xi S 914 k = 12 := ⟨fun q => sg_inj x1 (by omega) q, fun q => by rw [q]; rfl⟩
    have t4 : sg7 (Xi S 914 k) = 2 ↔ Xi S 914 k = 4 := ⟨fun q => sg_inj x1 (by omega) q, fun q => by rw [q]; rfl⟩
    refine ⟨?_, fun _ => d2⟩
    unfold FGK FQE
    rw [e1, ← c6, d1, d2, ek, t12, t4]
    by_cases kk : Xi U 886 i = -2
    · exact ⟨fun q => ⟨n, q.1, fun z => absurd kk z⟩, fun q => ⟨q.2.1, fun z => absurd kk z⟩⟩
    · refine ⟨fun q => ⟨n, fun z => absurd z kk, fun z => ?_⟩, fun q => ⟨fun z => absurd z kk, fun z => ?_⟩⟩
      · obtain ⟨y1, y2⟩ := q.2 z
        have u := q2 (by rw [d1]; exact t4.2 y1)
        rw [d2] at u
        rw [ad_r kd ob u] at y2
        exact ⟨y1, by omega⟩
      · obtain ⟨y1, y2⟩ := q.2.2 z
        have u := q2 (by rw [d1]; exact t4.2 y1)
        rw [d2] at u
        rw [ad_r kd ob u]
        exact ⟨y1, (bl_01 (S := S) (o := Xi U 886 i) 17 (Xi S 918 (Xi S 915 k).toNat)).elim (fun z => absurd z y2) id⟩
end
section
/-- where the reference stands behind j words, and with which noun -/
def fqa (U : sS) (i : Nat) (j : Int) : Int := if Xi U 885 i = -1 ∨ j ≤ Xi U 885 i then j else j + (Xi U 882 12 - Xi U 884 i)
def fqn (U : sS) (i : Nat) (j : Int) : Int := if Xi U 885 i = -1 ∨ j ≤ Xi U 885 i then -1 else mt7 U i % 256
/-- what fits the class fits the reference -/
theorem fit_1 {U S : sS} {i : Nat} (h : RLQ U S) (w : WAL U S) (c : CM1 U S i) (f : FTR U i) : ∀ j : Nat, (j : Int) ≤ Xi U 884 i → FQC S i j (fqa U i j) (fqn U i j)
  | 0, _ => by
    have c5 := c.2.2.2.1
    have q : Xi U 885 i = -1 ∨ ((0 : Nat) : Int) ≤ Xi U 885 i := by omega
    exact ⟨if_pos q, if_pos q⟩
  | j + 1, hj => by
    have ih := fit_1 h w c f j (by omega)
    have e1 : ((i : Int)).toNat = i := Int.toNat_natCast i
    obtain ⟨fo, fw, fg⟩ := f
    unfold FOK at fo
    rw [e1] at fo fw fg
    have c5 := c.2.2.2.1
    have c4 := c.2.1.1
    obtain ⟨z1, z2⟩ := c.2.2.2.2.2 j (by omega)
    have e8 : (8 * (i : Int) + (j : Nat)).toNat = 8 * i + j := by omega
    refine ⟨_, _, ih, ?_⟩
    unfold FQS
    rw [e8]
    by_cases q : (j : Int) = Xi U 885 i
    · have g : Xi U 885 i ≠ -1 := by omega
      have o := fo.2 g
      obtain ⟨ge, gn⟩ := gap_q h w c g o
      have F := fg g
      have a0 : fqa U i j = Xi U 885 i := (if_pos (Or.inr (by omega))).trans q
      have a1 : fqa U i ((j + 1 : Nat) : Int) = ((j + 1 : Nat) : Int) + (Xi U 882 12 - Xi U 884 i) := if_neg (by omega)
      have n1 : fqn U i ((j + 1 : Nat) : Int) = mt7 U i % 256 := if_neg (by omega)
      have m : fqm S i = 1 + (Xi U 882 12 - Xi U 884 i) := by unfold fqm; rw [e1, ← c4, w.1.1]
      have w1 := w.1.1
      rw [a0, a1, n1]
      exact ⟨fun z => absurd (z1 q) z, fun _ => ⟨⟨by omega, by omega, by omega⟩, ge.1 F, by omega, gn F⟩⟩
    · obtain ⟨x1, x2⟩ := z2 q
      have k := fw j (by omega) (by omega) q
      have e9 : ((i : Int) * 8 + (j : Nat)).toNat = 8 * i + j := by omega
      rw [e9] at k
      have w1 := w.1.1
      have aj : (if (j : Int) < fst7 U i then (j : Int) else (j : Int) + (Xi U 882 12 - Xi U 884 i)) = fqa U i j := by
        unfold fst7 fqa; rw [e1]
        by_cases g : Xi U 885 i = -1
        · rw [if_pos g, if_pos (by omega), if_pos (Or.inl g)]
        · rw [if_neg g]
          by_cases l : (j : Int) < Xi U 885 i
          · rw [if_pos l, if_pos (by omega)]
          · rw [if_neg l, if_neg (by omega)]
      rw [e1, aj] at k
      have al : 0 ≤ fqa U i j ∧ fqa U i j < Xi U 882 12 ∧ fqa U i ((j + 1 : Nat) : Int) = fqa U i j + 1 ∧ fqn U i ((j + 1 : Nat) : Int) = fqn U i j := by
        unfold fqa fqn
        by_cases g : Xi U 885 i = -1
        · rw [if_pos (Or.inl g), if_pos (Or.inl g), if_pos (Or.inl g), if_pos (Or.inl g)]
          have := fo.1 g
          exact ⟨by omega, by omega, by omega, rfl⟩
        · have := fo.2 g
          by_cases l : (j : Int) < Xi U 885 i
          · rw [if_pos (by omega), if_pos (by omega), if_pos (by omega), if_pos (by omega)]
            exact ⟨by omega, by omega, by omega, rfl⟩
          · rw [if_neg (by omega), if_neg (by omega), if_neg (by omega), if_neg (by omega)]
            exact ⟨by omega, by omega, by omega, rfl⟩
      obtain ⟨y1, y2⟩ := w.2 (fqa U i j).toNat (by omega)
      refine ⟨fun _ => ⟨by omega, by rw [y2, x2, k], al.2.2.1, al.2.2.2⟩, fun z => absurd (x2.symm.trans z) (by have := cv_po x1; omega)⟩
/-- what the reference has of j words -/
def FB7 (U S : sS) (i : Nat) (j a : Int) : Prop := a = fqa U i j ∧ FWD U i j ∧ (Xi U 885 i ≠ -1 → Xi U 885 i < j → (Xi U 884 i ≤ Xi U 882 12 ∧ Xi U 882 12 < Xi U 884 i + 3) ∧ FQE S i (fqe S i (Xi U 885 i)))
/-- what fits the reference fits the class -/
theorem fit_2 {U S : sS} {i : Nat} (w : WAL U S) (c : CM1 U S i) : ∀ (j : Nat) (a n : Int), (j : Int) ≤ Xi U 884 i → FQC S i j a n → FB7 U S i j a
  | 0, a, n, _, q => by
    have c5 := c.2.2.2.1
    have u : Xi U 885 i = -1 ∨ ((0 : Nat) : Int) ≤ Xi U 885 i := by omega
    exact ⟨q.1.trans (if_pos u).symm, fun k x y => absurd y (by omega), fun x y => absurd y (by omega)⟩
  | j + 1, a', n', hj, q => by
    obtain ⟨a, n, q1, q2⟩ := q
    obtain ⟨b1, b2, b3⟩ := fit_2 w c j a n (by omega) q1
    have e1 : ((i : Int)).toNat = i := Int.toNat_natCast i
    have c5 := c.2.2.2.1
    have c4 := c.2.1.1
    have w1 := w.1.1
    obtain ⟨z1, z2⟩ := c.2.2.2.2.2 j (by omega)
    have e8 : (8 * (i : Int) + (j : Nat)).toNat = 8 * i + j := by omega
    unfold FQS at q2
    rw [e8] at q2
    rw [show ((j + 1 : Nat) : Int) = (j : Int) + 1 by omega]
    by_cases g : (j : Int) = Xi U 885 i
    · obtain ⟨m, fe, ea, _⟩ := q2.2 (z1 g)
      have a0 : fqa U i j = Xi U 885 i := (if_pos (Or.inr (by omega))).trans g
      have mm : fqm S i = 1 + (Xi U 882 12 - Xi U 884 i) := by unfold fqm; rw [e1, ← c4, w.1.1]
      rw [b1, a0] at fe
      exact ⟨by rw [ea, b1, a0]; exact Eq.trans (by omega) (if_neg (by omega)).symm, fwd_g b2 (by rw [e1]; exact g), fun _ _ => ⟨⟨by omega, by omega⟩, fe⟩⟩
    · obtain ⟨x1, x2⟩ := z2 g
      obtain ⟨m1, m2, ea, _⟩ := q2.1 (by rw [x2]; have := cv_po x1; omega)
      have e9 : ((i : Int) * 8 + (j : Nat)).toNat = 8 * i + j := by omega
      have al : fqa U i ((j : Int) + 1) = fqa U i j + 1 := by
        unfold fqa
        by_cases l : Xi U 885 i = -1 ∨ (j : Int) < Xi U 885 i
        · rw [if_pos (by omega), if_pos (by omega)]
        · rw [if_neg (by omega), if_neg (by omega)]; omega
      have a0 : 0 ≤ a := by
        rw [b1]; unfold fqa
        by_cases l : Xi U 885 i = -1 ∨ (j : Int) ≤ Xi U 885 i
        · rw [if_pos l]; omega
        · rw [if_neg l]; have := (b3 (by omega) (by omega)).1; omega
      obtain ⟨y1, y2⟩ := w.2 a.toNat (by omega)
      have k : Xj U 887 (8 * i + j) = Xj U 889 a.toNat := cv_inj (wd_cd x1) (wd_cd y1) (by rw [← x2, ← y2]; exact m2.symm)
      refine ⟨by rw [ea, b1, al], ?_, fun x y => b3 x (by omega)⟩
      by_cases l : (j : Int) < fst7 U i
      · have : a = j := by
          rw [b1]; unfold fst7 at l; rw [e1] at l
          refine if_pos ?_
          by_cases gg : Xi U 885 i = -1
          · exact Or.inl gg
          · rw [if_neg gg] at l; exact Or.inr (by omega)
        exact fwd_a b2 l (by rw [e9, k, this])
      · have : a = (j : Int) + (Xi U 882 12 - Xi U 884 i) := by
          rw [b1]; unfold fst7 at l; rw [e1] at l
          refine if_neg ?_
          by_cases gg : Xi U 885 i = -1
          · rw [if_pos gg] at l; omega
          · rw [if_neg gg] at l; omega
        exact fwd_b b2 l (by rw [e9, k, this, e1])
end
section
/-- a word that is no word fits no command: outside the gap -/
theorem nof_w {U S : sS} {i k : Nat} (c : CM1 U S i) (f : FTR U i) (hk : (k : Int) < Xi U 882 12) (e : Xj U 889 k = -1) : Xi U 885 i ≠ -1 ∧ Xi U 885 i ≤ k ∧ (k : Int) < Xi U 885 i + (Xi U 882 12 - Xi U 884 i + 1) := by
  have e1 : ((i : Int)).toNat = i := Int.toNat_natCast i
  obtain ⟨fo, fw, _⟩ := f
  unfold FOK at fo
  rw [e1] at fo fw
  have c5 := c.2.2.2.1
  have no : ∀ j : Nat, (j : Int) < Xi U 884 i → (j : Int) ≠ Xi U 885 i → (if (j : Int) < fst7 U i then (j : Int) else (j : Int) + (Xi U 882 12 - Xi U 884 i)).toNat ≠ k := fun j a b q => by
    have u := fw j (by omega) a (by rw [e1]; exact b)
    rw [show ((i : Int) * 8 + (j : Nat)).toNat = 8 * i + j by omega, e1, q, e] at u
    have x := ((c.2.2.2.2.2 j a).2 b).1
    unfold wdC at x
    omega
  by_cases g : Xi U 885 i = -1
  · have o := fo.1 g
    exact absurd (by unfold fst7; rw [e1, if_pos g, if_pos (by omega)]; omega) (no k (by omega) (by omega))
  · have o := fo.2 g
    refine ⟨g, ?_, ?_⟩
    · by_cases q : Xi U 885 i ≤ k
      · exact q
      · exact absurd (by unfold fst7; rw [e1, if_neg g, if_pos (by omega)]; omega) (no k (by omega) (by omega))
    · by_cases q : (k : Int) < Xi U 885 i + (Xi U 882 12 - Xi U 884 i + 1)
      · exact q
      · have h : 0 ≤ (k : Int) - (Xi U 882 12 - Xi U 884 i) := by omega
        obtain ⟨j, hj⟩ : ∃ j : Nat, (j : Int) = (k : Int) - (Xi U 882 12 - Xi U 884 i) := ⟨((k : Int) - (Xi U 882 12 - Xi U 884 i)).toNat, by omega⟩
        exact absurd (by unfold fst7; rw [e1, if_neg g, if_neg (by omega)]; omega) (no j (by omega) (by omega))
end
