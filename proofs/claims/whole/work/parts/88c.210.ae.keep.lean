section
/-! the reference's reading: what is kept of tests and phrases -/
def tkR (S : sS) (i : Int) : Int := Xi S 907 i.toNat
theorem tkR_F7 {l : List rec} {S P : sS} (h : FR l S P) (e : kdis l [(907, 908)] = true) : tkR P = tkR S := funext (fun i => (h.smk e).x 907 rfl i.toNat)
/-- a RUN stands from p to q -/
def RQ (T : Int → Int) (p q : Int) : Prop := p < q ∧ (∀ i : Int, p ≤ i → i < q → T i = 3) ∧ T q ≠ 3
/-- the run r is p to q -/
def RR (V : sS) (r p q : Int) : Prop := (0 ≤ r ∧ r < Xi V 904 69) ∧ Xi V 950 r.toNat = p ∧ Xi V 951 r.toNat = q - p
def RUNK (S V : sS) : Prop := Xi S 904 69 ≤ Xi V 904 69 ∧ ∀ r : Nat, (r : Int) < Xi S 904 69 → Xi V 950 r = Xi S 950 r ∧ Xi V 951 r = Xi S 951 r
theorem RUNK.rf {S : sS} : RUNK S S := ⟨Int.le_refl _, fun _ _ => ⟨rfl, rfl⟩⟩
theorem RUNK.tr {S V W : sS} (h : RUNK S V) (g : RUNK V W) : RUNK S W := ⟨Int.le_trans h.1 g.1, fun r hr => ⟨(g.2 r (by have := h.1; omega)).1.trans (h.2 r hr).1, (g.2 r (by have := h.1; omega)).2.trans (h.2 r hr).2⟩⟩
theorem runk_F {l : List rec} {S V W : sS} (f : FR l V W) (e : kdis l [(950, 952)] = true) (e9 : mdf l 904 69 = false) (h : RUNK S V) : RUNK S W :=
  h.tr ⟨by rw [f.x 904 69 e9]; exact Int.le_refl _, fun r _ => ⟨(f.smk e).x 950 rfl r, (f.smk e).x 951 rfl r⟩⟩
theorem runk_w {S V W : sS} {k j : Nat} {v : Int32} (e : W = uI V k j v) (h1 : k ≠ 950 ∧ k ≠ 951 ∧ (k ≠ 904 ∨ j ≠ 69)) (h : RUNK S V) : RUNK S W :=
  h.tr ⟨by rw [e, Xi_ne (by omega)]; exact Int.le_refl _, fun r _ => ⟨by rw [e, Xi_ne (by omega)], by rw [e, Xi_ne (by omega)]⟩⟩
theorem rr_k {V W : sS} {r p q : Int} (h : RR V r p q) (k : RUNK V W) : RR W r p q := by
  obtain ⟨a, b, c⟩ := h
  have := k.1
  obtain ⟨x, y⟩ := k.2 r.toNat (by omega)
  exact ⟨⟨a.1, by omega⟩, x.trans b, y.trans c⟩
def bT (T : Int → Int) (p : Int) : Int := if 100 ≤ T p ∧ T p ≤ 103 then p + 1 else p
/-- a THING stands from p to e -/
def TH3 (T : Int → Int) (V : sS) (p e so ta tr : Int) : Prop :=
  (T p = 154 ∧ so = 0 ∧ ta = p ∧ e = p + 1) ∨ (T p = 153 ∧ so = 1 ∧ ta = p ∧ e = p + 1) ∨ (T p = 102 ∧ T (p + 1) = 153 ∧ so = 1 ∧ ta = p ∧ e = p + 2) ∨
  (T p ≠ 154 ∧ T p ≠ 153 ∧ ¬ (T p = 102 ∧ T (p + 1) = 153) ∧ so = 2 ∧ ta = bT T p ∧ RQ T (bT T p) e ∧ RR V tr (bT T p) e)
theorem th3_k {T : Int → Int} {V W : sS} {p e so ta tr : Int} (h : TH3 T V p e so ta tr) (k : RUNK V W) : TH3 T W p e so ta tr := by
  rcases h with h | h | h | ⟨a, b, c, d, f, g, r⟩
  · exact Or.inl h
  · exact Or.inr (Or.inl h)
  · exact Or.inr (Or.inr (Or.inl h))
  · exact Or.inr (Or.inr (Or.inr ⟨a, b, c, d, f, g, rr_k r k⟩))
/-- entries of tests that stay -/
def KTE (S V : sS) : Prop := ∀ c k : Nat, 952 ≤ c → c ≤ 962 → (k : Int) < Xi S 904 93 → Xi V c k = Xi S c k
theorem KTE.rf {S : sS} : KTE S S := fun _ _ _ _ _ => rfl
theorem kte_F {l : List rec} {S V W : sS} (f : FR l V W) (e : kdis l [(952, 963)] = true) (h : KTE S V) : KTE S W := fun c k a b d => by
  have m := f.smk e
  rw [show Xi W c k = Xi V c k by
    rcases (by omega : c = 952 ∨ c = 953 ∨ c = 954 ∨ c = 955 ∨ c = 956 ∨ c = 957 ∨ c = 958 ∨ c = 959 ∨ c = 960 ∨ c = 961 ∨ c = 962) with q | q | q | q | q | q | q | q | q | q | q <;> (subst q; exact m.x _ rfl k)]
  exact h c k a b d
theorem kte_t {S V W : sS} (h : KTE S V) (g : KTE V W) (e : Xi S 904 93 ≤ Xi V 904 93) : KTE S W := fun c k a b d => (g c k a b (by omega)).trans (h c k a b d)
theorem kte_w {S V W : sS} {x j : Nat} {v : Int32} (e : W = uI V x j v) (hx : (x < 952 ∨ 962 < x) ∨ Xi S 904 93 ≤ (j : Int)) (h : KTE S V) : KTE S W := fun c k a b d => by
  rw [e, Xi_ne (by omega)]; exact h c k a b d
def RNT (T : Int → Int) (S S1 : sS) (z : Int) : Prop := Xi S 904 65 = 0 ∧ (0 ≤ Xi S 904 8 ∧ Xi S 904 8 ≤ 5001) ∧ RQ T (Xi S 904 8) (Xi S1 904 8) ∧ z = Xi S 904 69 ∧ Xi S1 904 69 = Xi S 904 69 + 1 ∧ RR S1 z (Xi S 904 8) (Xi S1 904 8)
def NMT (T : Int → Int) (S S1 : sS) (z : Int) : Prop := Xi S 904 65 = 0 ∧ (0 ≤ Xi S 904 8 ∧ Xi S 904 8 ≤ 5001) ∧ RQ T (bT T (Xi S 904 8)) (Xi S1 904 8) ∧ z = Xi S 904 69 ∧ Xi S1 904 69 = Xi S 904 69 + 1 ∧ RR S1 z (bT T (Xi S 904 8)) (Xi S1 904 8)

abbrev Q_mo_isNext__t (S : sS) (k : Int) : pst := fun r S1 => S = S1 ∧ (∃ z : Int, r = some (iv z) ∧ (0 ≤ z ∧ z ≤ 1) ∧ ((z = 1 → Xi S 904 65 = 0 ∧ tkR S (Xi S 904 8) = k ∧ 0 ≤ Xi S 904 8 ∧ Xi S 904 8 ≤ 5001) ∧ (z = 0 → Xi S 904 65 ≠ 0 ∨ tkR S (Xi S 904 8) ≠ k)))
set_option maxRecDepth 100000 in
theorem t_mo_isNext__t {S : sS} (hH : RI S) (k : Int) (hk : -2147483648 ≤ k ∧ k ≤ 2147483647) (d : Nat) : Mp lay0 (d + 1) m_mo_isNext [.ref 904, iv k] S (Q_mo_isNext__t S k) := by
  refine Mp_R rfl rfl (fun fu => ?_)
  have w1 : -2147483648 ≤ Xi S 904 65 ∧ Xi S 904 65 ≤ 2147483647 := Xi_rgI
  have w2 : -2147483648 ≤ Xi S 904 69 ∧ Xi S 904 69 ≤ 2147483647 := Xi_rgI
  have w3 : -2147483648 ≤ Xi S 904 8 ∧ Xi S 904 8 ≤ 2147483647 := Xi_rgI
  have w4 : -2147483648 ≤ Xi S 904 93 ∧ Xi S 904 93 ≤ 2147483647 := Xi_rgI
  refine y_aload_n rfl rfl ?_
  refine y_gfi rfl rfl rfl rfl rfl ?_
  refine y_if_ne rfl rfl (by unfold rg; omega) (fun w5 => ?_) (fun w6 => ?_)
  · refine y_iconst rfl ?_
    refine y_ireturn rfl rfl ?_
    exact ⟨rfl, _, rfl, ⟨by omega, by omega⟩, (by first | exact ⟨fun _ => ⟨by omega, by show Xi S 907 _ = k; omega, by omega, by omega⟩, fun q => absurd q (by decide)⟩ | exact ⟨fun q => absurd q (by decide), fun _ => by first | exact Or.inl (by omega) | exact Or.inr (by show Xi S 907 _ ≠ k; omega)⟩)⟩
  · refine y_aload_n rfl rfl ?_
    refine y_gfr rfl rfl rfl rfl rfl (hH.r 904 4 907 rfl) ?_
    refine y_aload_n rfl rfl ?_
    refine y_gfi rfl rfl rfl rfl rfl ?_
    refine y_ialoadP (n := 5002) rfl rfl (by unfold rg; omega) (fun w7 w8 => ?_)
    have w9 : -2147483648 ≤ (Xi S 907 (((Xi S 904 8)).toNat)) ∧ (Xi S 907 (((Xi S 904 8)).toNat)) ≤ 2147483647 := Xi_rgI
    refine y_iload_n rfl rfl ?_
    refine y_icmp_ne rfl rfl (by unfold rg; omega) (by unfold rg; omega) (fun w10 => ?_) (fun w11 => ?_)
    · refine y_iconst rfl ?_
      refine y_ireturn rfl rfl ?_
      exact ⟨rfl, _, rfl, ⟨by omega, by omega⟩, (by first | exact ⟨fun _ => ⟨by omega, by show Xi S 907 _ = k; omega, by omega, by omega⟩, fun q => absurd q (by decide)⟩ | exact ⟨fun q => absurd q (by decide), fun _ => by first | exact Or.inl (by omega) | exact Or.inr (by show Xi S 907 _ ≠ k; omega)⟩)⟩
    · refine y_iconst rfl ?_
      refine y_goto rfl rfl ?_
      refine y_ireturn rfl rfl ?_
      exact ⟨rfl, _, rfl, ⟨by omega, by omega⟩, (by first | exact ⟨fun _ => ⟨by omega, by show Xi S 907 _ = k; omega, by omega, by omega⟩, fun q => absurd q (by decide)⟩ | exact ⟨fun q => absurd q (by decide), fun _ => by first | exact Or.inl (by omega) | exact Or.inr (by show Xi S 907 _ ≠ k; omega)⟩)⟩
abbrev Q_mo_look__t (S : sS) : pst := fun r S1 => S = S1 ∧ (∃ z : Int, r = some (iv z) ∧ (-2147483648 ≤ z ∧ z ≤ 2147483647) ∧ ((Xi S 904 65 = 0 → z = tkR S (Xi S 904 8) ∧ 0 ≤ Xi S 904 8 ∧ Xi S 904 8 ≤ 5001) ∧ (Xi S 904 65 ≠ 0 → z = 1)))
set_option maxRecDepth 100000 in
theorem t_mo_look__t {S : sS} (hH : RI S) (d : Nat) : Mp lay0 (d + 1) m_mo_look [.ref 904] S (Q_mo_look__t S) := by
  refine Mp_R rfl rfl (fun fu => ?_)
  have w1 : -2147483648 ≤ Xi S 904 65 ∧ Xi S 904 65 ≤ 2147483647 := Xi_rgI
  have w2 : -2147483648 ≤ Xi S 904 69 ∧ Xi S 904 69 ≤ 2147483647 := Xi_rgI
  have w3 : -2147483648 ≤ Xi S 904 8 ∧ Xi S 904 8 ≤ 2147483647 := Xi_rgI
  have w4 : -2147483648 ≤ Xi S 904 93 ∧ Xi S 904 93 ≤ 2147483647 := Xi_rgI
  refine y_aload_n rfl rfl ?_
  refine y_gfi rfl rfl rfl rfl rfl ?_
  refine y_if_eq rfl rfl (by unfold rg; omega) (fun w5 => ?_) (fun w6 => ?_)
  · refine y_aload_n rfl rfl ?_
    refine y_gfr rfl rfl rfl rfl rfl (hH.r 904 4 907 rfl) ?_
    refine y_aload_n rfl rfl ?_
    refine y_gfi rfl rfl rfl rfl rfl ?_
    refine y_ialoadP (n := 5002) rfl rfl (by unfold rg; omega) (fun w7 w8 => ?_)
    have w9 : -2147483648 ≤ (Xi S 907 (((Xi S 904 8)).toNat)) ∧ (Xi S 907 (((Xi S 904 8)).toNat)) ≤ 2147483647 := Xi_rgI
    refine y_ireturn rfl rfl ?_
    exact ⟨rfl, _, rfl, ⟨by omega, by omega⟩, (by first | exact ⟨fun _ => ⟨rfl, by omega, by omega⟩, fun q => absurd (by omega) q⟩ | exact ⟨fun q => absurd q (by omega), fun _ => rfl⟩)⟩
  · refine y_iconst rfl ?_
    refine y_goto rfl rfl ?_
    refine y_ireturn rfl rfl ?_
    exact ⟨rfl, _, rfl, ⟨by omega, by omega⟩, (by first | exact ⟨fun _ => ⟨rfl, by omega, by omega⟩, fun q => absurd (by omega) q⟩ | exact ⟨fun q => absurd q (by omega), fun _ => rfl⟩)⟩
def md_mo_odd__t : List rec := [(904, 905, 65, 66), (904, 905, 66, 67)]
abbrev Q_mo_odd__t (S : sS) : pst := fun r S1 => RI S1 ∧ FR md_mo_odd__t S S1 ∧ (r = none ∧ (Xi S1 904 65 ≠ 0) ∧ (Xi S1 904 8 = Xi S 904 8))
set_option maxRecDepth 100000 in
theorem t_mo_odd__t {S : sS} (hH : RI S) (d : Nat) : Mp lay0 (d + 1) m_mo_odd [.ref 904] S (Q_mo_odd__t S) := by
  refine Mp_R rfl rfl (fun fu => ?_)
  have hF : FR md_mo_odd__t S S := FR.rf
  have w1 : -2147483648 ≤ Xi S 904 65 ∧ Xi S 904 65 ≤ 2147483647 := Xi_rgI
  have w2 : -2147483648 ≤ Xi S 904 69 ∧ Xi S 904 69 ≤ 2147483647 := Xi_rgI
  have w3 : -2147483648 ≤ Xi S 904 8 ∧ Xi S 904 8 ≤ 2147483647 := Xi_rgI
  have w4 : -2147483648 ≤ Xi S 904 93 ∧ Xi S 904 93 ≤ 2147483647 := Xi_rgI
  refine y_aload_n rfl rfl ?_
  refine y_gfi rfl rfl rfl rfl rfl ?_
  refine y_if_ne rfl rfl (by unfold rg; omega) (fun w5 => ?_) (fun w6 => ?_)
  · refine y_return rfl rfl ?_
    exact ⟨hH, hF, rfl, (by omega), (by omega)⟩
  · refine y_aload_n rfl rfl ?_
    refine y_iconst rfl ?_
    refine y_pfz rfl rfl rfl rfl (by omega) ?_
    obtain ⟨U1, eU1⟩ : ∃ T : sS, T = uI S 904 65 (Int32.ofInt 1) := ⟨_, rfl⟩
    rw [← eU1]
    have hHU1 : RI U1 := by rw [eU1]; exact RI_w hH
    have hFU1 : FR md_mo_odd__t S U1 := by rw [eU1]; exact FR.wI hF (mdf_i (r := (904, 905, 65, 66)) (List.mem_of_getElem? (i := 0) rfl) (inR_i (by omega) (by omega) (by omega) (by omega)))
    have w7 : Xi U1 904 65 = 1 := by rw [eU1]; exact Xi_same (by unfold rg; omega)
    refine y_aload_n rfl rfl ?_
    refine y_aload_n rfl rfl ?_
    refine y_gfi rfl rfl rfl rfl rfl ?_
    have w8 : (Xi U1 904 8) = (Xi S 904 8) := (show Xi U1 904 8 = Xi S 904 8 from by rw [eU1]; exact Xi_ne (by omega))
    rw [w8]
    refine y_pfi rfl rfl rfl rfl ?_
    obtain ⟨U2, eU2⟩ : ∃ T : sS, T = uI U1 904 66 (Int32.ofInt (Xi S 904 8)) := ⟨_, rfl⟩
    rw [← eU2]
    have hHU2 : RI U2 := by rw [eU2]; exact RI_w hHU1
    have hFU2 : FR md_mo_odd__t S U2 := by rw [eU2]; exact FR.wI hFU1 (mdf_i (r := (904, 905, 66, 67)) (List.mem_of_getElem? (i := 1) rfl) (inR_i (by omega) (by omega) (by omega) (by omega)))
    have w9 : Xi U2 904 66 = (Xi S 904 8) := by rw [eU2]; exact Xi_same (by unfold rg; omega)
    refine y_return rfl rfl ?_
    have w10 : Xi U2 904 65 = Xi U1 904 65 := (show Xi U2 904 65 = Xi U1 904 65 from by rw [eU2]; exact Xi_ne (by omega))
    have w12 : Xi U2 904 8 = Xi S 904 8 := (show Xi U2 904 8 = Xi U1 904 8 from by rw [eU2]; exact Xi_ne (by omega)).trans ((show Xi U1 904 8 = Xi S 904 8 from by rw [eU1]; exact Xi_ne (by omega)))
    exact ⟨hHU2, hFU2, rfl, (by omega), (by omega)⟩
def md_mo_take__t : List rec := [(904, 905, 8, 9), (904, 905, 65, 66), (904, 905, 66, 67)]
abbrev Q_mo_take__t (S : sS) (k : Int) : pst := fun r S1 => RI S1 ∧ FR md_mo_take__t S S1 ∧ (r = none ∧ (Xi S1 904 65 = 0 → Xi S 904 65 = 0 ∧ tkR S (Xi S 904 8) = k ∧ 0 ≤ Xi S 904 8 ∧ Xi S1 904 8 = Xi S 904 8 + 1))
set_option maxRecDepth 100000 in
theorem t_mo_take__t {S : sS} (hH : RI S) (k : Int) (hk : -2147483648 ≤ k ∧ k ≤ 2147483647) (d : Nat) : Mp lay0 (d + 2) m_mo_take [.ref 904, iv k] S (Q_mo_take__t S k) := by
  refine Mp_R rfl rfl (fun fu => ?_)
  have hF : FR md_mo_take__t S S := FR.rf
  have w1 : -2147483648 ≤ Xi S 904 65 ∧ Xi S 904 65 ≤ 2147483647 := Xi_rgI
  have w2 : -2147483648 ≤ Xi S 904 69 ∧ Xi S 904 69 ≤ 2147483647 := Xi_rgI
  have w3 : -2147483648 ≤ Xi S 904 8 ∧ Xi S 904 8 ≤ 2147483647 := Xi_rgI
  have w4 : -2147483648 ≤ Xi S 904 93 ∧ Xi S 904 93 ≤ 2147483647 := Xi_rgI
  refine y_aload_n rfl rfl ?_
  refine y_iload_n rfl rfl ?_
  refine y_callV rfl rfl rfl (t_mo_isNext__t hH k ⟨by omega, by omega⟩ _) ?_
  rintro _ _ ⟨rfl, z5, rfl, w5, t2⟩
  show Pl _ _ _ _ _ _ [iv z5] _ _
  refine y_if_eq rfl rfl (by unfold rg; omega) (fun w6 => ?_) (fun w7 => ?_)
  · refine y_aload_n rfl rfl ?_
    refine y_callV rfl rfl rfl (t_mo_odd__t hH _) ?_
    rintro _ T1 ⟨hHT1, w10, rfl, t22, w8⟩
    have hFT1 : FR md_mo_take__t S T1 := FR.tr hF w10 rfl
    show Pl _ _ _ _ _ _ [] _ _
    refine y_return rfl rfl ?_
    have w12 : Xi T1 904 8 = Xi S 904 8 := (show Xi T1 904 8 = Xi S 904 8 from w10.x _ _ rfl)
    exact ⟨hHT1, hFT1, rfl, (by first | (have u := t22; exact fun q => absurd q t22) | exact fun _ => ⟨(t2.1 (by omega)).1, (t2.1 (by omega)).2.1, (t2.1 (by omega)).2.2.1, by omega⟩)⟩
  · refine y_aload_n rfl rfl ?_
    refine y_dup rfl rfl ?_
    refine y_gfi rfl rfl rfl rfl rfl ?_
    have b10 := (t2.1 (by omega)).2.2
    refine y_iconst rfl ?_
    refine y_iadd rfl ?_
    refine y_pfi rfl rfl rfl rfl ?_
    obtain ⟨U2, eU2⟩ : ∃ T : sS, T = uI S 904 8 (Int32.ofInt ((Xi S 904 8) + 1)) := ⟨_, rfl⟩
    rw [← eU2]
    have hHU2 : RI U2 := by rw [eU2]; exact RI_w hH
    have hFU2 : FR md_mo_take__t S U2 := by rw [eU2]; exact FR.wI hF (mdf_i (r := (904, 905, 8, 9)) (List.mem_of_getElem? (i := 0) rfl) (inR_i (by omega) (by omega) (by omega) (by omega)))
    have w14 : Xi U2 904 8 = ((Xi S 904 8) + 1) := by rw [eU2]; exact Xi_same (by unfold rg; omega)
    refine y_goto rfl rfl ?_
    refine y_return rfl rfl ?_
    have w15 : Xi U2 904 65 = Xi S 904 65 := (show Xi U2 904 65 = Xi S 904 65 from by rw [eU2]; exact Xi_ne (by omega))
    exact ⟨hHU2, hFU2, rfl, (by first | (have u := t22; exact fun q => absurd q t22) | exact fun _ => ⟨(t2.1 (by omega)).1, (t2.1 (by omega)).2.1, (t2.1 (by omega)).2.2.1, by omega⟩)⟩
def md_mo_art__t : List rec := [(904, 905, 8, 9), (904, 905, 65, 66), (904, 905, 66, 67)]
abbrev Q_mo_art__t (S : sS) : pst := fun r S1 => RI S1 ∧ FR md_mo_art__t S S1 ∧ (r = none ∧ (Xi S1 904 65 = 0 → Xi S 904 65 = 0 ∧ (100 ≤ tkR S (Xi S 904 8) ∧ tkR S (Xi S 904 8) ≤ 103) ∧ 0 ≤ Xi S 904 8 ∧ Xi S1 904 8 = Xi S 904 8 + 1))
set_option maxRecDepth 100000 in
theorem t_mo_art__t {S : sS} (hH : RI S) (d : Nat) : Mp lay0 (d + 2) m_mo_art [.ref 904] S (Q_mo_art__t S) := by
  refine Mp_R rfl rfl (fun fu => ?_)
  have hF : FR md_mo_art__t S S := FR.rf
  have w1 : -2147483648 ≤ Xi S 904 65 ∧ Xi S 904 65 ≤ 2147483647 := Xi_rgI
  have w2 : -2147483648 ≤ Xi S 904 69 ∧ Xi S 904 69 ≤ 2147483647 := Xi_rgI
  have w3 : -2147483648 ≤ Xi S 904 8 ∧ Xi S 904 8 ≤ 2147483647 := Xi_rgI
  have w4 : -2147483648 ≤ Xi S 904 93 ∧ Xi S 904 93 ≤ 2147483647 := Xi_rgI
  refine y_aload_n rfl rfl ?_
  refine y_callV rfl rfl rfl (t_mo_look__t hH _) ?_
  rintro _ _ ⟨rfl, z5, rfl, w5, t1⟩
  show Pl _ _ _ _ _ _ [iv z5] _ _
  refine y_callS rfl rfl (by decide) rfl (t_mo_isArt__p hH z5 ⟨by omega, by omega⟩ _) ?_
  rintro _ _ ⟨rfl, z6, rfl, w6, q4, n4⟩
  show Pl _ _ _ _ _ _ [iv z6] _ _
  refine y_if_eq rfl rfl (by unfold rg; omega) (fun w7 => ?_) (fun w8 => ?_)
  · refine y_aload_n rfl rfl ?_
    refine y_callV rfl rfl rfl (t_mo_odd__t hH _) ?_
    rintro _ T1 ⟨hHT1, w11, rfl, t24, w9⟩
    have hFT1 : FR md_mo_art__t S T1 := FR.tr hF w11 rfl
    show Pl _ _ _ _ _ _ [] _ _
    refine y_return rfl rfl ?_
    have w13 : Xi T1 904 8 = Xi S 904 8 := (show Xi T1 904 8 = Xi S 904 8 from w11.x _ _ rfl)
    exact ⟨hHT1, hFT1, rfl, (by first | (have u := t24; exact fun q => absurd q t24) | exact fun _ => ⟨n10, r10, by omega, by omega⟩)⟩
  · refine y_aload_n rfl rfl ?_
    have n10 : Xi S 904 65 = 0 := by by_cases c : Xi S 904 65 = 0; exact c; (have := t1.2 c; omega)
    have e10 := t1.1 n10
    have r10 : 100 ≤ tkR S (Xi S 904 8) ∧ tkR S (Xi S 904 8) ≤ 103 := by rw [← e10.1]; omega
    refine y_dup rfl rfl ?_
    refine y_gfi rfl rfl rfl rfl rfl ?_
    refine y_iconst rfl ?_
    refine y_iadd rfl ?_
    refine y_pfi rfl rfl rfl rfl ?_
    obtain ⟨U2, eU2⟩ : ∃ T : sS, T = uI S 904 8 (Int32.ofInt ((Xi S 904 8) + 1)) := ⟨_, rfl⟩
    rw [← eU2]
    have hHU2 : RI U2 := by rw [eU2]; exact RI_w hH
    have hFU2 : FR md_mo_art__t S U2 := by rw [eU2]; exact FR.wI hF (mdf_i (r := (904, 905, 8, 9)) (List.mem_of_getElem? (i := 0) rfl) (inR_i (by omega) (by omega) (by omega) (by omega)))
    have w15 : Xi U2 904 8 = ((Xi S 904 8) + 1) := by rw [eU2]; exact Xi_same (by unfold rg; omega)
    refine y_goto rfl rfl ?_
    refine y_return rfl rfl ?_
    have w16 : Xi U2 904 65 = Xi S 904 65 := (show Xi U2 904 65 = Xi S 904 65 from by rw [eU2]; exact Xi_ne (by omega))
    exact ⟨hHU2, hFU2, rfl, (by first | (have u := t24; exact fun q => absurd q t24) | exact fun _ => ⟨n10, r10, by omega, by omega⟩)⟩
def md_mo_run__t : List rec := [(904, 905, 8, 9), (904, 905, 65, 66), (904, 905, 66, 67), (904, 905, 69, 70), (950, 951, 0, 100000), (951, 952, 0, 100000)]
abbrev Q_mo_run__t (S : sS) : pst := fun r S1 => RI S1 ∧ FR md_mo_run__t S S1 ∧ (∃ z : Int, r = some (iv z) ∧ (-2147483648 ≤ z ∧ z ≤ 2147483647) ∧ (Xi S1 904 65 = 0 → RNT (tkR S) S S1 z) ∧ (RUNK S S1))
set_option maxRecDepth 100000 in
theorem t_mo_run__t {S : sS} (hH : RI S) (d : Nat) : Mp lay0 (d + 2) m_mo_run [.ref 904] S (Q_mo_run__t S) := by
  refine Mp_R rfl rfl (fun fu => ?_)
  have hF : FR md_mo_run__t S S := FR.rf
  have w1 : -2147483648 ≤ Xi S 904 65 ∧ Xi S 904 65 ≤ 2147483647 := Xi_rgI
  have w2 : -2147483648 ≤ Xi S 904 69 ∧ Xi S 904 69 ≤ 2147483647 := Xi_rgI
  have w3 : -2147483648 ≤ Xi S 904 8 ∧ Xi S 904 8 ≤ 2147483647 := Xi_rgI
  have w4 : -2147483648 ≤ Xi S 904 93 ∧ Xi S 904 93 ≤ 2147483647 := Xi_rgI
  have C27 : ∀ (n27 : Nat) (_ : n27 ≤ fu) (T1 : sS) (_ : RI T1) (_ : FR md_mo_run__t S T1), (Xi S 904 65 = 0) → (0 ≤ Xi S 904 8) → (Xi S 904 8 ≤ Xi T1 904 8) → (Xi T1 904 8 = Xi S 904 8 → tkR S (Xi S 904 8) = 3) → (Xi T1 904 65 = 0) → (Xi T1 904 69 = Xi S 904 69 ∧ 0 ≤ Xi S 904 69 ∧ Xi S 904 69 < 2600) → (Xi T1 950 (Xi S 904 69).toNat = Xi S 904 8) → (Hid (∀ i : Int, Xi S 904 8 ≤ i → i < Xi T1 904 8 → tkR S i = 3)) → (RUNK S T1) → Pl n27 lay0 (d + 1) m_mo_run 27 [(0, .ref 904)] [] T1 (Q_mo_run__t S) := by
    intro n27
    induction n27 with
    | zero => intros; exact Pl_0
    | succ n27 ih27 =>
      intro hm27 T1 hHT1 hFT1 n27 w5 w6 i27 w7 w8 f27 G27 k27
      have w9 : -2147483648 ≤ Xi T1 904 65 ∧ Xi T1 904 65 ≤ 2147483647 := Xi_rgI
      have w10 : -2147483648 ≤ Xi T1 904 69 ∧ Xi T1 904 69 ≤ 2147483647 := Xi_rgI
      have w11 : -2147483648 ≤ Xi T1 904 8 ∧ Xi T1 904 8 ≤ 2147483647 := Xi_rgI
      have w12 : -2147483648 ≤ Xi T1 904 93 ∧ Xi T1 904 93 ≤ 2147483647 := Xi_rgI
      refine ys_aload_n rfl rfl ?_
      refine y_gfr rfl rfl rfl rfl rfl (hHT1.r 904 4 907 rfl) ?_
      refine y_aload_n rfl rfl ?_
      refine y_gfi rfl rfl rfl rfl rfl ?_
      refine y_ialoadP (n := 5002) rfl rfl (by unfold rg; omega) (fun w13 w14 => ?_)
      have w15 : -2147483648 ≤ (Xi T1 907 (((Xi T1 904 8)).toNat)) ∧ (Xi T1 907 (((Xi T1 904 8)).toNat)) ≤ 2147483647 := Xi_rgI
      have e35 : (Xi T1 907 (((Xi T1 904 8)).toNat)) = tkR S (Xi T1 904 8) := ((hFT1.smk (by rfl : kdis _ [(907, 908)] = true)).x 907 rfl _)
      refine y_iconst rfl ?_
      refine y_icmp_ne rfl rfl (by unfold rg; omega) (by unfold rg; omega) (fun w16 => ?_) (fun w17 => ?_)
      · refine y_aload_n rfl rfl ?_
        have p53 : Xi S 904 8 < Xi T1 904 8 := by by_cases c : Xi T1 904 8 = Xi S 904 8; (have u := i27 c; rw [← c] at u; omega); omega
        refine y_gfr rfl rfl rfl rfl rfl (hHT1.r 904 68 951 rfl) ?_
        refine y_aload_n rfl rfl ?_
        refine y_gfi rfl rfl rfl rfl rfl ?_
        refine y_aload_n rfl rfl ?_
        refine y_gfi rfl rfl rfl rfl rfl ?_
        refine y_aload_n rfl rfl ?_
        refine y_gfr rfl rfl rfl rfl rfl (hHT1.r 904 67 950 rfl) ?_
        refine y_aload_n rfl rfl ?_
        refine y_gfi rfl rfl rfl rfl rfl ?_
        refine y_ialoadP (n := 2600) rfl rfl (by unfold rg; omega) (fun w18 w19 => ?_)
        have w20 : -2147483648 ≤ (Xi T1 950 (((Xi T1 904 69)).toNat)) ∧ (Xi T1 950 (((Xi T1 904 69)).toNat)) ≤ 2147483647 := Xi_rgI
        have e73 : (Xi T1 950 (((Xi T1 904 69)).toNat)) = Xi S 904 8 := by have u := f27; rw [show (Xi S 904 69).toNat = (Xi T1 904 69).toNat by omega] at u; exact u
        refine y_isub rfl ?_
        refine y_iastoreP (n := 2600) rfl rfl (by unfold rg; omega) (fun w21 w22 => ?_)
        obtain ⟨U2, eU2⟩ : ∃ T : sS, T = uI T1 951 (((Xi T1 904 69)).toNat) (Int32.ofInt ((Xi T1 904 8) - (Xi T1 950 (((Xi T1 904 69)).toNat)))) := ⟨_, rfl⟩
        rw [← eU2]
        have hHU2 : RI U2 := by rw [eU2]; exact RI_w hHT1
        have hFU2 : FR md_mo_run__t S U2 := by rw [eU2]; exact FR.wI hFT1 (mdf_i (r := (951, 952, 0, 100000)) (List.mem_of_getElem? (i := 5) rfl) (inR_i (by omega) (by omega) (by omega) (by omega)))
        have w23 : Xi U2 951 (((Xi T1 904 69)).toNat) = ((Xi T1 904 8) - (Xi T1 950 (((Xi T1 904 69)).toNat))) := by rw [eU2]; exact Xi_same (by unfold rg; omega)
        have e75 := eU2
        refine y_aload_n rfl rfl ?_
        refine y_dup rfl rfl ?_
        refine y_gfi rfl rfl rfl rfl rfl ?_
        have w24 : (Xi U2 904 69) = (Xi T1 904 69) := (show Xi U2 904 69 = Xi T1 904 69 from by rw [eU2]; exact Xi_ne (by omega))
        rw [w24]
        refine y_iconst rfl ?_
        refine y_iadd rfl ?_
        refine y_pfi rfl rfl rfl rfl ?_
        obtain ⟨U3, eU3⟩ : ∃ T : sS, T = uI U2 904 69 (Int32.ofInt ((Xi T1 904 69) + 1)) := ⟨_, rfl⟩
        rw [← eU3]
        have hHU3 : RI U3 := by rw [eU3]; exact RI_w hHU2
        have hFU3 : FR md_mo_run__t S U3 := by rw [eU3]; exact FR.wI hFU2 (mdf_i (r := (904, 905, 69, 70)) (List.mem_of_getElem? (i := 3) rfl) (inR_i (by omega) (by omega) (by omega) (by omega)))
        have w25 : Xi U3 904 69 = ((Xi T1 904 69) + 1) := by rw [eU3]; exact Xi_same (by unfold rg; omega)
        have e83 := eU3
        have f83 : Xi U3 950 (Xi S 904 69).toNat = Xi S 904 8 := by rw [e83, Xi_ne (by omega), e75, Xi_ne (by omega)]; exact f27
        have x83 : Xi U3 904 8 = Xi T1 904 8 := by rw [e83, Xi_ne (by omega), e75, Xi_ne (by omega)]
        have y83 : Xi U3 904 69 = Xi S 904 69 + 1 := by rw [e83]; refine (Xi_same (by unfold rg; omega)).trans ?_; omega
        have g83 : Xi U3 951 (Xi S 904 69).toNat = Xi U3 904 8 - Xi S 904 8 := by rw [x83, e83, Xi_ne (by omega), e75, show (Xi S 904 69).toNat = (Xi T1 904 69).toNat by omega]; refine (Xi_same (by unfold rg; omega)).trans ?_; have u := f27; rw [show (Xi S 904 69).toNat = (Xi T1 904 69).toNat by omega] at u; omega
        have K83 : RUNK S U3 := ⟨by omega, fun r hr => ⟨by rw [e83, Xi_ne (by omega), e75, Xi_ne (by omega)]; exact (k27.2 r hr).1, by rw [e83, Xi_ne (by omega), e75, Xi_ne (by omega)]; exact (k27.2 r hr).2⟩⟩
        refine y_aload_n rfl rfl ?_
        refine y_gfi rfl rfl rfl rfl rfl ?_
        refine y_iconst rfl ?_
        refine y_isub rfl ?_
        refine y_ireturn rfl rfl ?_
        have w26 : Xi U3 904 65 = Xi T1 904 65 := (show Xi U3 904 65 = Xi U2 904 65 from by rw [eU3]; exact Xi_ne (by omega)).trans ((show Xi U2 904 65 = Xi T1 904 65 from by rw [eU2]; exact Xi_ne (by omega)))
        exact ⟨hHU3, hFU3, _, rfl, ⟨by omega, by omega⟩, (by first | (have u := t9; exact fun q => absurd q t9) | exact fun _ => ⟨n27, by omega, ⟨by omega, fun i x y => G27.o i x (by omega), by rw [x83, ← e35]; omega⟩, by omega, by omega, ⟨by omega, by omega⟩, by rw [show (Xi U3 904 69 - 1).toNat = (Xi S 904 69).toNat by omega]; exact f83, by rw [show (Xi U3 904 69 - 1).toNat = (Xi S 904 69).toNat by omega]; exact g83⟩), (by first | (have u := t9; exact runk_F F9 rfl rfl RUNK.rf) | exact K83)⟩
      · refine y_aload_n rfl rfl ?_
        refine y_dup rfl rfl ?_
        refine y_gfi rfl rfl rfl rfl rfl ?_
        refine y_iconst rfl ?_
        refine y_iadd rfl ?_
        refine y_pfi rfl rfl rfl rfl ?_
        obtain ⟨U4, eU4⟩ : ∃ T : sS, T = uI T1 904 8 (Int32.ofInt ((Xi T1 904 8) + 1)) := ⟨_, rfl⟩
        rw [← eU4]
        have hHU4 : RI U4 := by rw [eU4]; exact RI_w hHT1
        have hFU4 : FR md_mo_run__t S U4 := by rw [eU4]; exact FR.wI hFT1 (mdf_i (r := (904, 905, 8, 9)) (List.mem_of_getElem? (i := 0) rfl) (inR_i (by omega) (by omega) (by omega) (by omega)))
        have e47 := eU4
        have x47 : Xi U4 904 8 = Xi T1 904 8 + 1 := by rw [e47]; exact Xi_same (by unfold rg; omega)
        have f47 : Xi U4 950 (Xi S 904 69).toNat = Xi S 904 8 := by rw [e47, Xi_ne (by omega)]; exact f27
        have G47 : Hid (∀ i : Int, Xi S 904 8 ≤ i → i < Xi U4 904 8 → tkR S i = 3) := fun i x y => by by_cases c : i < Xi T1 904 8; exact G27.o i x c; (rw [show i = Xi T1 904 8 by omega, ← e35]; omega)
        have k47 : RUNK S U4 := runk_w e47 (by omega) k27
        refine y_goto rfl rfl ?_
        have w29 : Xi U4 904 65 = Xi T1 904 65 := (show Xi U4 904 65 = Xi T1 904 65 from by rw [eU4]; exact Xi_ne (by omega))
        have w30 : Xi U4 904 69 = Xi T1 904 69 := (show Xi U4 904 69 = Xi T1 904 69 from by rw [eU4]; exact Xi_ne (by omega))
        have w31 : Xi U4 904 93 = Xi T1 904 93 := (show Xi U4 904 93 = Xi T1 904 93 from by rw [eU4]; exact Xi_ne (by omega))
        exact Pl_weak (ih27 (by omega) U4 hHU4 hFU4  (by first | exact n14.1 | exact n27) (by omega) (by omega) (by first | exact fun _ => n14.2.1 | (intro q; exfalso; omega)) (by omega) (by omega) (by first | exact f47 | (rw [e26]; exact Xi_same (by unfold rg; omega))) (by first | exact G47 | exact fun i x y => absurd x (by rw [e26, Xi_ne (by omega)] at y; omega)) (by first | exact k47 | exact ⟨by rw [e26, Xi_ne (by omega)]; exact Int.le_refl _, fun r hr => ⟨by rw [e26, Xi_ne (by omega)], by rw [e26, Xi_ne (by omega)]⟩⟩)) (by omega) (And.intro rfl (True.intro))
  refine y_aload_n rfl rfl ?_
  refine y_iconst rfl ?_
  refine y_callV rfl rfl rfl (t_mo_isNext__t hH 3 ⟨by omega, by omega⟩ _) ?_
  rintro _ _ ⟨rfl, z32, rfl, w32, t2⟩
  show Pl _ _ _ _ _ _ [iv z32] _ _
  refine y_if_ne rfl rfl (by unfold rg; omega) (fun w33 => ?_) (fun w34 => ?_)
  · refine y_aload_n rfl rfl ?_
    have n14 := (t2.1 (by omega))
    refine y_gfr rfl rfl rfl rfl rfl (hH.r 904 67 950 rfl) ?_
    refine y_aload_n rfl rfl ?_
    refine y_gfi rfl rfl rfl rfl rfl ?_
    refine y_aload_n rfl rfl ?_
    refine y_gfi rfl rfl rfl rfl rfl ?_
    refine y_iastoreP (n := 2600) rfl rfl (by unfold rg; omega) (fun w35 w36 => ?_)
    obtain ⟨U5, eU5⟩ : ∃ T : sS, T = uI S 950 (((Xi S 904 69)).toNat) (Int32.ofInt (Xi S 904 8)) := ⟨_, rfl⟩
    rw [← eU5]
    have hHU5 : RI U5 := by rw [eU5]; exact RI_w hH
    have hFU5 : FR md_mo_run__t S U5 := by rw [eU5]; exact FR.wI hF (mdf_i (r := (950, 951, 0, 100000)) (List.mem_of_getElem? (i := 4) rfl) (inR_i (by omega) (by omega) (by omega) (by omega)))
    have w37 : Xi U5 950 (((Xi S 904 69)).toNat) = (Xi S 904 8) := by rw [eU5]; exact Xi_same (by unfold rg; omega)
    have e26 := eU5
    have w38 : Xi U5 904 65 = Xi S 904 65 := (show Xi U5 904 65 = Xi S 904 65 from by rw [eU5]; exact Xi_ne (by omega))
    have w39 : Xi U5 904 69 = Xi S 904 69 := (show Xi U5 904 69 = Xi S 904 69 from by rw [eU5]; exact Xi_ne (by omega))
    have w40 : Xi U5 904 8 = Xi S 904 8 := (show Xi U5 904 8 = Xi S 904 8 from by rw [eU5]; exact Xi_ne (by omega))
    have w41 : Xi U5 904 93 = Xi S 904 93 := (show Xi U5 904 93 = Xi S 904 93 from by rw [eU5]; exact Xi_ne (by omega))
    exact Pl_weak (C27 fu (by omega) U5 hHU5 hFU5  (by first | exact n14.1 | exact n27) (by omega) (by omega) (by first | exact fun _ => n14.2.1 | (intro q; exfalso; omega)) (by omega) (by omega) (by first | exact f47 | (rw [e26]; exact Xi_same (by unfold rg; omega))) (by first | exact G47 | exact fun i x y => absurd x (by rw [e26, Xi_ne (by omega)] at y; omega)) (by first | exact k47 | exact ⟨by rw [e26, Xi_ne (by omega)]; exact Int.le_refl _, fun r hr => ⟨by rw [e26, Xi_ne (by omega)], by rw [e26, Xi_ne (by omega)]⟩⟩)) (by omega) (And.intro rfl (True.intro))
  · refine y_aload_n rfl rfl ?_
    refine y_callV rfl rfl rfl (t_mo_odd__t hH _) ?_
    rintro _ T6 ⟨hHT6, w44, rfl, t9, w42⟩
    have hFT6 : FR md_mo_run__t S T6 := FR.tr hF w44 rfl
    show Pl _ _ _ _ _ _ [] _ _
    have F9 := (by assumption : FR md_mo_odd__t S T6)
    refine y_iconst rfl ?_
    refine y_ireturn rfl rfl ?_
    have w45 : Xi T6 904 69 = Xi S 904 69 := (show Xi T6 904 69 = Xi S 904 69 from w44.x _ _ rfl)
    exact ⟨hHT6, hFT6, _, rfl, ⟨by omega, by omega⟩, (by first | (have u := t9; exact fun q => absurd q t9) | exact fun _ => ⟨n27, by omega, ⟨by omega, fun i x y => G27.o i x (by omega), by rw [x83, ← e35]; omega⟩, by omega, by omega, ⟨by omega, by omega⟩, by rw [show (Xi T6 904 69 - 1).toNat = (Xi S 904 69).toNat by omega]; exact f83, by rw [show (Xi T6 904 69 - 1).toNat = (Xi S 904 69).toNat by omega]; exact g83⟩), (by first | (have u := t9; exact runk_F F9 rfl rfl RUNK.rf) | exact K83)⟩
def md_mo_name__t : List rec := [(904, 905, 8, 9), (904, 905, 65, 66), (904, 905, 66, 67), (904, 905, 69, 70), (950, 951, 0, 100000), (951, 952, 0, 100000)]
abbrev Q_mo_name__t (S : sS) : pst := fun r S1 => RI S1 ∧ FR md_mo_name__t S S1 ∧ (∃ z : Int, r = some (iv z) ∧ (-2147483648 ≤ z ∧ z ≤ 2147483647) ∧ (Xi S1 904 65 = 0 → NMT (tkR S) S S1 z) ∧ (RUNK S S1))
set_option maxRecDepth 100000 in
theorem t_mo_name__t {S : sS} (hH : RI S) (d : Nat) : Mp lay0 (d + 3) m_mo_name [.ref 904] S (Q_mo_name__t S) := by
  refine Mp_R rfl rfl (fun fu => ?_)
  have hF : FR md_mo_name__t S S := FR.rf
  have w1 : -2147483648 ≤ Xi S 904 65 ∧ Xi S 904 65 ≤ 2147483647 := Xi_rgI
  have w2 : -2147483648 ≤ Xi S 904 69 ∧ Xi S 904 69 ≤ 2147483647 := Xi_rgI
  have w3 : -2147483648 ≤ Xi S 904 8 ∧ Xi S 904 8 ≤ 2147483647 := Xi_rgI
  have w4 : -2147483648 ≤ Xi S 904 93 ∧ Xi S 904 93 ≤ 2147483647 := Xi_rgI
  refine y_aload_n rfl rfl ?_
  refine y_callV rfl rfl rfl (t_mo_look__t hH _) ?_
  rintro _ _ ⟨rfl, z5, rfl, w5, t1⟩
  show Pl _ _ _ _ _ _ [iv z5] _ _
  refine y_callS rfl rfl (by decide) rfl (t_mo_isArt__p hH z5 ⟨by omega, by omega⟩ _) ?_
  rintro _ _ ⟨rfl, z6, rfl, w6, q4, n4⟩
  show Pl _ _ _ _ _ _ [iv z6] _ _
  refine y_if_eq rfl rfl (by unfold rg; omega) (fun w7 => ?_) (fun w8 => ?_)
  · refine y_aload_n rfl rfl ?_
    refine y_callV rfl rfl rfl (t_mo_run__t hH _) ?_
    rintro _ T1 ⟨hHT1, w10, z9, rfl, w9, t21, k21⟩
    have hFT1 : FR md_mo_name__t S T1 := FR.tr hF w10 rfl
    show Pl _ _ _ _ _ _ [iv z9] _ _
    have T21 := t21
    try rw [tkR_F7 hF rfl] at T21
    refine y_ireturn rfl rfl ?_
    have w11 : Xi T1 904 93 = Xi S 904 93 := (show Xi T1 904 93 = Xi S 904 93 from w10.x _ _ rfl)
    exact ⟨hHT1, hFT1, _, rfl, ⟨by omega, by omega⟩, (by first | (have u := K10; intro b; obtain ⟨a1, a2, a3, a4, a5, a6⟩ := T21 b; have e : bT (tkR S) (Xi S 904 8) = Xi S 904 8 := (if_pos r10).trans (by omega); exact ⟨n10, by omega, by rw [e]; exact a3, by omega, by omega, by rw [e]; exact a6⟩) | (intro b; obtain ⟨a1, a2, a3, a4, a5, a6⟩ := T21 b; have e : bT (tkR S) (Xi S 904 8) = Xi S 904 8 := if_neg (by have u := t1.1 a1; rw [← u.1]; omega); exact ⟨a1, a2, by rw [e]; exact a3, a4, a5, by rw [e]; exact a6⟩)), (by first | (have u := K10; exact RUNK.tr (runk_w e17 (by omega) RUNK.rf) k21) | exact k21)⟩
  · refine y_aload_n rfl rfl ?_
    have K10 : True := trivial
    have n10 : Xi S 904 65 = 0 := by by_cases c : Xi S 904 65 = 0; exact c; (have := t1.2 c; omega)
    have e10 := t1.1 n10
    have r10 : 100 ≤ tkR S (Xi S 904 8) ∧ tkR S (Xi S 904 8) ≤ 103 := by rw [← e10.1]; omega
    refine y_dup rfl rfl ?_
    refine y_gfi rfl rfl rfl rfl rfl ?_
    refine y_iconst rfl ?_
    refine y_iadd rfl ?_
    refine y_pfi rfl rfl rfl rfl ?_
    obtain ⟨U2, eU2⟩ : ∃ T : sS, T = uI S 904 8 (Int32.ofInt ((Xi S 904 8) + 1)) := ⟨_, rfl⟩
    rw [← eU2]
    have hHU2 : RI U2 := by rw [eU2]; exact RI_w hH
    have hFU2 : FR md_mo_name__t S U2 := by rw [eU2]; exact FR.wI hF (mdf_i (r := (904, 905, 8, 9)) (List.mem_of_getElem? (i := 0) rfl) (inR_i (by omega) (by omega) (by omega) (by omega)))
    have w12 : Xi U2 904 8 = ((Xi S 904 8) + 1) := by rw [eU2]; exact Xi_same (by unfold rg; omega)
    have e17 := eU2
    refine y_aload_n rfl rfl ?_
    have w13 : Xi U2 904 65 = Xi S 904 65 := (show Xi U2 904 65 = Xi S 904 65 from by rw [eU2]; exact Xi_ne (by omega))
    have w14 : Xi U2 904 69 = Xi S 904 69 := (show Xi U2 904 69 = Xi S 904 69 from by rw [eU2]; exact Xi_ne (by omega))
    have w15 : Xi U2 904 93 = Xi S 904 93 := (show Xi U2 904 93 = Xi S 904 93 from by rw [eU2]; exact Xi_ne (by omega))
    refine y_callV rfl rfl rfl (t_mo_run__t hHU2 _) ?_
    rintro _ T3 ⟨hHT3, w17, z16, rfl, w16, t21, k21⟩
    have hFT3 : FR md_mo_name__t S T3 := FR.tr hFU2 w17 rfl
    show Pl _ _ _ _ _ _ [iv z16] _ _
    have T21 := t21
    try rw [tkR_F7 hFU2 rfl] at T21
    refine y_ireturn rfl rfl ?_
    have w18 : Xi T3 904 93 = Xi S 904 93 := (show Xi T3 904 93 = Xi U2 904 93 from w17.x _ _ rfl).trans ((show Xi U2 904 93 = Xi S 904 93 from by rw [eU2]; exact Xi_ne (by omega)))
    exact ⟨hHT3, hFT3, _, rfl, ⟨by omega, by omega⟩, (by first | (have u := K10; intro b; obtain ⟨a1, a2, a3, a4, a5, a6⟩ := T21 b; have e : bT (tkR S) (Xi S 904 8) = Xi U2 904 8 := (if_pos r10).trans (by omega); exact ⟨n10, by omega, by rw [e]; exact a3, by omega, by omega, by rw [e]; exact a6⟩) | (intro b; obtain ⟨a1, a2, a3, a4, a5, a6⟩ := T21 b; have e : bT (tkR S) (Xi S 904 8) = Xi S 904 8 := if_neg (by have u := t1.1 a1; rw [← u.1]; omega); exact ⟨a1, a2, by rw [e]; exact a3, a4, a5, by rw [e]; exact a6⟩)), (by first | (have u := K10; exact RUNK.tr (runk_w e17 (by omega) RUNK.rf) k21) | exact k21)⟩
end
section
def md_mo_thing__t : List rec := [(904, 905, 8, 9), (904, 905, 65, 66), (904, 905, 66, 67), (904, 905, 69, 70), (904, 905, 99, 100), (904, 905, 100, 101), (904, 905, 101, 102), (950, 951, 0, 100000), (951, 952, 0, 100000)]
abbrev Q_mo_thing__t (S : sS) : pst := fun r S1 => RI S1 ∧ FR md_mo_thing__t S S1 ∧ (r = none ∧ (Xi S1 904 65 = 0 → Xi S 904 65 = 0 ∧ (0 ≤ Xi S 904 8 ∧ Xi S 904 8 ≤ 5001) ∧ TH3 (tkR S) S1 (Xi S 904 8) (Xi S1 904 8) (Xi S1 904 100) (Xi S1 904 101) (Xi S1 904 99)) ∧ (RUNK S S1))
set_option maxRecDepth 100000 in
theorem t_mo_thing__t {S : sS} (hH : RI S) (d : Nat) : Mp lay0 (d + 4) m_mo_thing [.ref 904] S (Q_mo_thing__t S) := by
  refine Mp_R rfl rfl (fun fu => ?_)
  have hF : FR md_mo_thing__t S S := FR.rf
  have w1 : -2147483648 ≤ Xi S 904 100 ∧ Xi S 904 100 ≤ 2147483647 := Xi_rgI
  have w2 : -2147483648 ≤ Xi S 904 101 ∧ Xi S 904 101 ≤ 2147483647 := Xi_rgI
  have w3 : -2147483648 ≤ Xi S 904 65 ∧ Xi S 904 65 ≤ 2147483647 := Xi_rgI
  have w4 : -2147483648 ≤ Xi S 904 69 ∧ Xi S 904 69 ≤ 2147483647 := Xi_rgI
  have w5 : -2147483648 ≤ Xi S 904 8 ∧ Xi S 904 8 ≤ 2147483647 := Xi_rgI
  have w6 : -2147483648 ≤ Xi S 904 93 ∧ Xi S 904 93 ≤ 2147483647 := Xi_rgI
  have w7 : -2147483648 ≤ Xi S 904 99 ∧ Xi S 904 99 ≤ 2147483647 := Xi_rgI
  refine y_aload_n rfl rfl ?_
  refine y_aload_n rfl rfl ?_
  refine y_gfi rfl rfl rfl rfl rfl ?_
  refine y_pfi rfl rfl rfl rfl ?_
  obtain ⟨U1, eU1⟩ : ∃ T : sS, T = uI S 904 101 (Int32.ofInt (Xi S 904 8)) := ⟨_, rfl⟩
  rw [← eU1]
  have hHU1 : RI U1 := by rw [eU1]; exact RI_w hH
  have hFU1 : FR md_mo_thing__t S U1 := by rw [eU1]; exact FR.wI hF (mdf_i (r := (904, 905, 101, 102)) (List.mem_of_getElem? (i := 6) rfl) (inR_i (by omega) (by omega) (by omega) (by omega)))
  have w8 : Xi U1 904 101 = (Xi S 904 8) := by rw [eU1]; exact Xi_same (by unfold rg; omega)
  have e5 := eU1
  have a5 : Xi U1 904 8 = Xi S 904 8 := by rw [e5, Xi_ne (by omega)]
  have b5 : Xi U1 904 65 = Xi S 904 65 := by rw [e5, Xi_ne (by omega)]
  have h5 := tkR_F7 hFU1 rfl
  refine y_aload_n rfl rfl ?_
  refine y_sipush rfl rfl ?_
  have w9 : Xi U1 904 100 = Xi S 904 100 := (show Xi U1 904 100 = Xi S 904 100 from by rw [eU1]; exact Xi_ne (by omega))
  have w10 : Xi U1 904 65 = Xi S 904 65 := (show Xi U1 904 65 = Xi S 904 65 from by rw [eU1]; exact Xi_ne (by omega))
  have w11 : Xi U1 904 69 = Xi S 904 69 := (show Xi U1 904 69 = Xi S 904 69 from by rw [eU1]; exact Xi_ne (by omega))
  have w12 : Xi U1 904 8 = Xi S 904 8 := (show Xi U1 904 8 = Xi S 904 8 from by rw [eU1]; exact Xi_ne (by omega))
  have w13 : Xi U1 904 93 = Xi S 904 93 := (show Xi U1 904 93 = Xi S 904 93 from by rw [eU1]; exact Xi_ne (by omega))
  have w14 : Xi U1 904 99 = Xi S 904 99 := (show Xi U1 904 99 = Xi S 904 99 from by rw [eU1]; exact Xi_ne (by omega))
  refine y_callV rfl rfl rfl (t_mo_isNext__t hHU1 154 ⟨by omega, by omega⟩ _) ?_
  rintro _ _ ⟨rfl, z15, rfl, w15, t12⟩
  show Pl _ _ _ _ _ _ [iv z15] _ _
  have T12 := t12
  rw [h5, a5, b5] at T12
  clear t12
  refine y_if_eq rfl rfl (by unfold rg; omega) (fun w16 => ?_) (fun w17 => ?_)
  · refine y_aload_n rfl rfl ?_
    have i36 := T12.2 (by omega)
    refine y_sipush rfl rfl ?_
    refine y_callV rfl rfl rfl (t_mo_isNext__t hHU1 153 ⟨by omega, by omega⟩ _) ?_
    rintro _ _ ⟨rfl, z24, rfl, w24, t40⟩
    show Pl _ _ _ _ _ _ [iv z24] _ _
    have T40 := t40
    rw [h5, a5, b5] at T40
    clear t40
    refine y_if_ne rfl rfl (by unfold rg; omega) (fun w25 => ?_) (fun w26 => ?_)
    · refine y_aload_n rfl rfl ?_
      have i72 : Xi S 904 65 = 0 ∧ 0 ≤ Xi S 904 8 ∧ Xi S 904 8 ≤ 5001 := by first | (have u := K55; exact ⟨by omega, by omega, by omega⟩) | exact ⟨(T40.1 (by omega)).1, (T40.1 (by omega)).2.2⟩
      have y72 : tkR S (Xi S 904 8) = 102 ∨ tkR S (Xi S 904 8) = 153 := by first | (have u := K55; exact Or.inl (by omega)) | exact Or.inr (T40.1 (by omega)).2.1
      refine y_iconst rfl ?_
      refine y_pfi rfl rfl rfl rfl ?_
      obtain ⟨U2, eU2⟩ : ∃ T : sS, T = uI U1 904 100 (Int32.ofInt 1) := ⟨_, rfl⟩
      rw [← eU2]
      have hHU2 : RI U2 := by rw [eU2]; exact RI_w hHU1
      have hFU2 : FR md_mo_thing__t S U2 := by rw [eU2]; exact FR.wI hFU1 (mdf_i (r := (904, 905, 100, 101)) (List.mem_of_getElem? (i := 5) rfl) (inR_i (by omega) (by omega) (by omega) (by omega)))
      have w27 : Xi U2 904 100 = 1 := by rw [eU2]; exact Xi_same (by unfold rg; omega)
      have e74 := eU2
      refine y_aload_n rfl rfl ?_
      refine y_dup rfl rfl ?_
      refine y_gfi rfl rfl rfl rfl rfl ?_
      have w28 : (Xi U2 904 8) = (Xi S 904 8) := (show Xi U2 904 8 = Xi U1 904 8 from by rw [eU2]; exact Xi_ne (by omega)).trans ((show Xi U1 904 8 = Xi S 904 8 from by rw [eU1]; exact Xi_ne (by omega)))
      rw [w28]
      refine y_aload_n rfl rfl ?_
      refine y_gfr rfl rfl rfl rfl rfl (hHU2.r 904 4 907 rfl) ?_
      refine y_aload_n rfl rfl ?_
      refine y_gfi rfl rfl rfl rfl rfl ?_
      have w29 : (Xi U2 904 8) = (Xi S 904 8) := (show Xi U2 904 8 = Xi U1 904 8 from by rw [eU2]; exact Xi_ne (by omega)).trans ((show Xi U1 904 8 = Xi S 904 8 from by rw [eU1]; exact Xi_ne (by omega)))
      rw [w29]
      refine y_ialoadP (n := 5002) rfl rfl (by unfold rg; omega) (fun w30 w31 => ?_)
      have w32 : -2147483648 ≤ (Xi U2 907 (((Xi S 904 8)).toNat)) ∧ (Xi U2 907 (((Xi S 904 8)).toNat)) ≤ 2147483647 := Xi_rgI
      have v90 : (Xi U2 907 (((Xi S 904 8)).toNat)) = tkR S (Xi S 904 8) := by first | exact ((hFU2.smk (by rfl : kdis _ [(907, 908)] = true)).x 907 rfl _) | (show Xi _ 907 _ = Xi S 907 _; rw [(hFU2.cx 907 rfl _).1, a5])
      refine y_bipush rfl rfl ?_
      refine y_icmp_ne rfl rfl (by unfold rg; omega) (by unfold rg; omega) (fun w33 => ?_) (fun w34 => ?_)
      · refine y_iconst rfl ?_
        refine y_iadd rfl ?_
        refine y_pfi rfl rfl rfl rfl ?_
        obtain ⟨U3, eU3⟩ : ∃ T : sS, T = uI U2 904 8 (Int32.ofInt ((Xi S 904 8) + 1)) := ⟨_, rfl⟩
        rw [← eU3]
        have hHU3 : RI U3 := by rw [eU3]; exact RI_w hHU2
        have hFU3 : FR md_mo_thing__t S U3 := by rw [eU3]; exact FR.wI hFU2 (mdf_i (r := (904, 905, 8, 9)) (List.mem_of_getElem? (i := 0) rfl) (inR_i (by omega) (by omega) (by omega) (by omega)))
        have w35 : Xi U3 904 8 = ((Xi S 904 8) + 1) := by rw [eU3]; exact Xi_same (by unfold rg; omega)
        have e102 := eU3
        refine y_goto rfl rfl ?_
        refine y_return rfl rfl ?_
        have w36 : Xi U3 904 100 = Xi U2 904 100 := (show Xi U3 904 100 = Xi U2 904 100 from by rw [eU3]; exact Xi_ne (by omega))
        have w37 : Xi U3 904 101 = Xi U1 904 101 := (show Xi U3 904 101 = Xi U2 904 101 from by rw [eU3]; exact Xi_ne (by omega)).trans ((show Xi U2 904 101 = Xi U1 904 101 from by rw [eU2]; exact Xi_ne (by omega)))
        have w38 : Xi U3 904 65 = Xi S 904 65 := (show Xi U3 904 65 = Xi U2 904 65 from by rw [eU3]; exact Xi_ne (by omega)).trans ( (show Xi U2 904 65 = Xi U1 904 65 from by rw [eU2]; exact Xi_ne (by omega)).trans ((show Xi U1 904 65 = Xi S 904 65 from by rw [eU1]; exact Xi_ne (by omega))))
        have w39 : Xi U3 904 69 = Xi S 904 69 := (show Xi U3 904 69 = Xi U2 904 69 from by rw [eU3]; exact Xi_ne (by omega)).trans ( (show Xi U2 904 69 = Xi U1 904 69 from by rw [eU2]; exact Xi_ne (by omega)).trans ((show Xi U1 904 69 = Xi S 904 69 from by rw [eU1]; exact Xi_ne (by omega))))
        have w40 : Xi U3 904 93 = Xi S 904 93 := (show Xi U3 904 93 = Xi U2 904 93 from by rw [eU3]; exact Xi_ne (by omega)).trans ( (show Xi U2 904 93 = Xi U1 904 93 from by rw [eU2]; exact Xi_ne (by omega)).trans ((show Xi U1 904 93 = Xi S 904 93 from by rw [eU1]; exact Xi_ne (by omega))))
        have w41 : Xi U3 904 99 = Xi S 904 99 := (show Xi U3 904 99 = Xi U2 904 99 from by rw [eU3]; exact Xi_ne (by omega)).trans ( (show Xi U2 904 99 = Xi U1 904 99 from by rw [eU2]; exact Xi_ne (by omega)).trans ((show Xi U1 904 99 = Xi S 904 99 from by rw [eU1]; exact Xi_ne (by omega))))
        exact ⟨hHU3, hFU3, rfl, (by first | (have u := R145; exact R145.o) | (have u := K108; exact fun b => absurd b (by omega)) | (have u := K18; exact fun _ => ⟨by omega, by omega, Or.inl ⟨by omega, by omega, by omega, by omega⟩⟩) | (have u := K55; exact fun _ => ⟨by omega, by omega, Or.inr (Or.inr (Or.inl ⟨by omega, by omega, by omega, by omega, by omega⟩))⟩) | exact fun _ => ⟨by omega, by omega, Or.inr (Or.inl ⟨by omega, by omega, by omega, by omega⟩)⟩), (by first | (have u := K108; exact runk_w e145 (by omega) (runk_w e118 (by omega) (RUNK.tr (runk_w e110 (by omega) (runk_w e5 (by omega) RUNK.rf)) k115))) | (have u := K18; exact runk_w e30 (by omega) (runk_w e20 (by omega) (runk_w e5 (by omega) RUNK.rf))) | exact runk_w e102 (by omega) (runk_w e74 (by omega) (runk_w e5 (by omega) RUNK.rf)))⟩
      · exfalso; omega
    · refine y_aload_n rfl rfl ?_
      refine y_bipush rfl rfl ?_
      refine y_callV rfl rfl rfl (t_mo_isNext__t hHU1 102 ⟨by omega, by omega⟩ _) ?_
      rintro _ _ ⟨rfl, z48, rfl, w48, t49⟩
      show Pl _ _ _ _ _ _ [iv z48] _ _
      have T49 := t49
      rw [h5, a5, b5] at T49
      clear t49
      refine y_if_eq rfl rfl (by unfold rg; omega) (fun w49 => ?_) (fun w50 => ?_)
      · refine y_aload_n rfl rfl ?_
        have K108 : True := trivial
        have N108 : Hid (Xi S 904 65 = 0 → tkR S (Xi S 904 8) ≠ 154 ∧ tkR S (Xi S 904 8) ≠ 153 ∧ ¬ (tkR S (Xi S 904 8) = 102 ∧ tkR S (Xi S 904 8 + 1) = 153)) := fun b => ⟨by omega, by have u := T40.2 (by omega); omega, by first | (have u := v65; omega) | (have u := T49.2 (by omega); omega)⟩
        refine y_iconst rfl ?_
        refine y_pfi rfl rfl rfl rfl ?_
        obtain ⟨U4, eU4⟩ : ∃ T : sS, T = uI U1 904 100 (Int32.ofInt 2) := ⟨_, rfl⟩
        rw [← eU4]
        have hHU4 : RI U4 := by rw [eU4]; exact RI_w hHU1
        have hFU4 : FR md_mo_thing__t S U4 := by rw [eU4]; exact FR.wI hFU1 (mdf_i (r := (904, 905, 100, 101)) (List.mem_of_getElem? (i := 5) rfl) (inR_i (by omega) (by omega) (by omega) (by omega)))
        have w51 : Xi U4 904 100 = 2 := by rw [eU4]; exact Xi_same (by unfold rg; omega)
        have e110 := eU4
        have s110 := xi_of e110 (by unfold rg; omega)
        have a110 : Xi U4 904 8 = Xi S 904 8 := by rw [e110, Xi_ne (by omega)]; exact a5
        have b110 : Xi U4 904 65 = Xi S 904 65 := by rw [e110, Xi_ne (by omega), e5, Xi_ne (by omega)]
        refine y_aload_n rfl rfl ?_
        refine y_aload_n rfl rfl ?_
        have w52 : Xi U4 904 101 = Xi U1 904 101 := (show Xi U4 904 101 = Xi U1 904 101 from by rw [eU4]; exact Xi_ne (by omega))
        have w53 : Xi U4 904 65 = Xi S 904 65 := (show Xi U4 904 65 = Xi U1 904 65 from by rw [eU4]; exact Xi_ne (by omega)).trans ((show Xi U1 904 65 = Xi S 904 65 from by rw [eU1]; exact Xi_ne (by omega)))
        have w54 : Xi U4 904 69 = Xi S 904 69 := (show Xi U4 904 69 = Xi U1 904 69 from by rw [eU4]; exact Xi_ne (by omega)).trans ((show Xi U1 904 69 = Xi S 904 69 from by rw [eU1]; exact Xi_ne (by omega)))
        have w55 : Xi U4 904 8 = Xi S 904 8 := (show Xi U4 904 8 = Xi U1 904 8 from by rw [eU4]; exact Xi_ne (by omega)).trans ((show Xi U1 904 8 = Xi S 904 8 from by rw [eU1]; exact Xi_ne (by omega)))
        have w56 : Xi U4 904 93 = Xi S 904 93 := (show Xi U4 904 93 = Xi U1 904 93 from by rw [eU4]; exact Xi_ne (by omega)).trans ((show Xi U1 904 93 = Xi S 904 93 from by rw [eU1]; exact Xi_ne (by omega)))
        have w57 : Xi U4 904 99 = Xi S 904 99 := (show Xi U4 904 99 = Xi U1 904 99 from by rw [eU4]; exact Xi_ne (by omega)).trans ((show Xi U1 904 99 = Xi S 904 99 from by rw [eU1]; exact Xi_ne (by omega)))
        refine y_callV rfl rfl rfl (t_mo_name__t hHU4 _) ?_
        rintro _ T5 ⟨hHT5, w59, z58, rfl, w58, t115, k115⟩
        have hFT5 : FR md_mo_thing__t S T5 := FR.tr hFU4 w59 rfl
        show Pl _ _ _ _ _ _ [iv z58, .ref 904] _ _
        have F115 := (by assumption : FR md_mo_name__t U4 T5)
        have T115 := t115
        unfold NMT at T115
        rw [tkR_F7 hFU4 rfl, a110, b110] at T115
        clear t115
        refine y_pfi rfl rfl rfl rfl ?_
        obtain ⟨U6, eU6⟩ : ∃ T : sS, T = uI T5 904 99 (Int32.ofInt z58) := ⟨_, rfl⟩
        rw [← eU6]
        have hHU6 : RI U6 := by rw [eU6]; exact RI_w hHT5
        have hFU6 : FR md_mo_thing__t S U6 := by rw [eU6]; exact FR.wI hFT5 (mdf_i (r := (904, 905, 99, 100)) (List.mem_of_getElem? (i := 4) rfl) (inR_i (by omega) (by omega) (by omega) (by omega)))
        have w60 : Xi U6 904 99 = z58 := by rw [eU6]; exact Xi_same (by unfold rg; omega)
        have e118 := eU6
        have s118 : Xi U6 904 100 = 2 := by rw [e118, Xi_ne (by omega), F115.x 904 100 rfl]; exact s110
        refine y_aload_n rfl rfl ?_
        refine y_aload_n rfl rfl ?_
        refine y_gfi rfl rfl rfl rfl rfl ?_
        have w61 : -2147483648 ≤ (Xi U6 904 65) ∧ (Xi U6 904 65) ≤ 2147483647 := Xi_rgI
        refine y_if_eq rfl rfl (by unfold rg; omega) (fun w62 => ?_) (fun w63 => ?_)
        · refine y_aload_n rfl rfl ?_
          have Q136 : Hid (Xi S 904 65 = 0 ∧ (0 ≤ Xi S 904 8 ∧ Xi S 904 8 ≤ 5001) ∧ RQ (tkR S) (bT (tkR S) (Xi S 904 8)) (Xi U6 904 8) ∧ RR U6 (Xi U6 904 99) (bT (tkR S) (Xi S 904 8)) (Xi U6 904 8)) := by have x65 : Xi U6 904 65 = Xi T5 904 65 := (by rw [e118, Xi_ne (by omega)]); obtain ⟨a1, a2, a3, a4, a5_, a6⟩ := T115 (by omega); have r6 := a6.1; have g6 := Xi_rgI (S := T5) (k := 904) (j := 69); have z99 := xi_of e118 (by unfold rg; omega); have z8 : Xi U6 904 8 = Xi T5 904 8 := (by rw [e118, Xi_ne (by omega)]); exact ⟨a1, a2, by rw [z8]; exact a3, by rw [z8, z99]; exact rr_k a6 (runk_w e118 (by omega) RUNK.rf)⟩
          refine y_gfr rfl rfl rfl rfl rfl (hHU6.r 904 67 950 rfl) ?_
          refine y_aload_n rfl rfl ?_
          refine y_gfi rfl rfl rfl rfl rfl ?_
          refine y_ialoadP (n := 2600) rfl rfl (by unfold rg; omega) (fun w64 w65 => ?_)
          have w66 : -2147483648 ≤ (Xi U6 950 (((Xi U6 904 99)).toNat)) ∧ (Xi U6 950 (((Xi U6 904 99)).toNat)) ≤ 2147483647 := Xi_rgI
          refine y_pfi rfl rfl rfl rfl ?_
          obtain ⟨U7, eU7⟩ : ∃ T : sS, T = uI U6 904 101 (Int32.ofInt (Xi U6 950 (((Xi U6 904 99)).toNat))) := ⟨_, rfl⟩
          rw [← eU7]
          have hHU7 : RI U7 := by rw [eU7]; exact RI_w hHU6
          have hFU7 : FR md_mo_thing__t S U7 := by rw [eU7]; exact FR.wI hFU6 (mdf_i (r := (904, 905, 101, 102)) (List.mem_of_getElem? (i := 6) rfl) (inR_i (by omega) (by omega) (by omega) (by omega)))
          have w67 : Xi U7 904 101 = (Xi U6 950 (((Xi U6 904 99)).toNat)) := by rw [eU7]; exact Xi_same (by unfold rg; omega)
          have e145 := eU7
          have R145 : Hid (Xi U7 904 65 = 0 → Xi S 904 65 = 0 ∧ (0 ≤ Xi S 904 8 ∧ Xi S 904 8 ≤ 5001) ∧ TH3 (tkR S) U7 (Xi S 904 8) (Xi U7 904 8) (Xi U7 904 100) (Xi U7 904 101) (Xi U7 904 99)) := by first | (exact fun b => absurd b (by rw [e145, Xi_ne (by omega)]; first | omega | (rw [e118, Xi_ne (by omega)]; omega))) | (have u := Q136.o; exact fun b => ⟨u.1, u.2.1, Or.inr (Or.inr (Or.inr ⟨(N108.o u.1).1, (N108.o u.1).2.1, (N108.o u.1).2.2, by rw [e145, Xi_ne (by omega)]; exact s118, by rw [e145]; refine (Xi_same (by unfold rg; omega)).trans ?_; exact u.2.2.2.2.1, by rw [show Xi U7 904 8 = Xi U6 904 8 by rw [e145, Xi_ne (by omega)]]; exact u.2.2.1, by rw [show Xi U7 904 8 = Xi U6 904 8 by rw [e145, Xi_ne (by omega)], show Xi U7 904 99 = Xi U6 904 99 by rw [e145, Xi_ne (by omega)]]; exact rr_k u.2.2.2 (runk_w e145 (by omega) RUNK.rf)⟩))⟩)
          refine y_return rfl rfl ?_
          have w68 : Xi U7 904 100 = Xi U4 904 100 := (show Xi U7 904 100 = Xi U6 904 100 from by rw [eU7]; exact Xi_ne (by omega)).trans ( (show Xi U6 904 100 = Xi T5 904 100 from by rw [eU6]; exact Xi_ne (by omega)).trans ((show Xi T5 904 100 = Xi U4 904 100 from w59.x _ _ rfl)))
          have w69 : Xi U7 904 65 = Xi T5 904 65 := (show Xi U7 904 65 = Xi U6 904 65 from by rw [eU7]; exact Xi_ne (by omega)).trans ((show Xi U6 904 65 = Xi T5 904 65 from by rw [eU6]; exact Xi_ne (by omega)))
          have w70 : Xi U7 904 69 = Xi T5 904 69 := (show Xi U7 904 69 = Xi U6 904 69 from by rw [eU7]; exact Xi_ne (by omega)).trans ((show Xi U6 904 69 = Xi T5 904 69 from by rw [eU6]; exact Xi_ne (by omega)))
          have w71 : Xi U7 904 8 = Xi T5 904 8 := (show Xi U7 904 8 = Xi U6 904 8 from by rw [eU7]; exact Xi_ne (by omega)).trans ((show Xi U6 904 8 = Xi T5 904 8 from by rw [eU6]; exact Xi_ne (by omega)))
          have w72 : Xi U7 904 93 = Xi S 904 93 := (show Xi U7 904 93 = Xi U6 904 93 from by rw [eU7]; exact Xi_ne (by omega)).trans ( (show Xi U6 904 93 = Xi T5 904 93 from by rw [eU6]; exact Xi_ne (by omega)).trans ( (show Xi T5 904 93 = Xi U4 904 93 from w59.x _ _ rfl).trans ( (show Xi U4 904 93 = Xi U1 904 93 from by rw [eU4]; exact Xi_ne (by omega)).trans ((show Xi U1 904 93 = Xi S 904 93 from by rw [eU1]; exact Xi_ne (by omega))))))
          have w73 : Xi U7 904 99 = Xi U6 904 99 := (show Xi U7 904 99 = Xi U6 904 99 from by rw [eU7]; exact Xi_ne (by omega))
          exact ⟨hHU7, hFU7, rfl, (by first | (have u := R145; exact R145.o) | (have u := K108; exact fun b => absurd b (by omega)) | (have u := K18; exact fun _ => ⟨by omega, by omega, Or.inl ⟨by omega, by omega, by omega, by omega⟩⟩) | (have u := K55; exact fun _ => ⟨by omega, by omega, Or.inr (Or.inr (Or.inl ⟨by omega, by omega, by omega, by omega, by omega⟩))⟩) | exact fun _ => ⟨by omega, by omega, Or.inr (Or.inl ⟨by omega, by omega, by omega, by omega⟩)⟩), (by first | (have u := K108; exact runk_w e145 (by omega) (runk_w e118 (by omega) (RUNK.tr (runk_w e110 (by omega) (runk_w e5 (by omega) RUNK.rf)) k115))) | (have u := K18; exact runk_w e30 (by omega) (runk_w e20 (by omega) (runk_w e5 (by omega) RUNK.rf))) | exact runk_w e102 (by omega) (runk_w e74 (by omega) (runk_w e5 (by omega) RUNK.rf)))⟩
        · refine y_aload_n rfl rfl ?_
          refine y_gfi rfl rfl rfl rfl rfl ?_
          have w74 : -2147483648 ≤ (Xi U6 904 8) ∧ (Xi U6 904 8) ≤ 2147483647 := Xi_rgI
          refine y_goto rfl rfl ?_
          refine y_pfi rfl rfl rfl rfl ?_
          obtain ⟨U8, eU8⟩ : ∃ T : sS, T = uI U6 904 101 (Int32.ofInt (Xi U6 904 8)) := ⟨_, rfl⟩
          rw [← eU8]
          have hHU8 : RI U8 := by rw [eU8]; exact RI_w hHU6
          have hFU8 : FR md_mo_thing__t S U8 := by rw [eU8]; exact FR.wI hFU6 (mdf_i (r := (904, 905, 101, 102)) (List.mem_of_getElem? (i := 6) rfl) (inR_i (by omega) (by omega) (by omega) (by omega)))
          have w75 : Xi U8 904 101 = (Xi U6 904 8) := by rw [eU8]; exact Xi_same (by unfold rg; omega)
          have e145 := eU8
          have R145 : Hid (Xi U8 904 65 = 0 → Xi S 904 65 = 0 ∧ (0 ≤ Xi S 904 8 ∧ Xi S 904 8 ≤ 5001) ∧ TH3 (tkR S) U8 (Xi S 904 8) (Xi U8 904 8) (Xi U8 904 100) (Xi U8 904 101) (Xi U8 904 99)) := by first | (exact fun b => absurd b (by rw [e145, Xi_ne (by omega)]; first | omega | (rw [e118, Xi_ne (by omega)]; omega))) | (have u := Q136.o; exact fun b => ⟨u.1, u.2.1, Or.inr (Or.inr (Or.inr ⟨(N108.o u.1).1, (N108.o u.1).2.1, (N108.o u.1).2.2, by rw [e145, Xi_ne (by omega)]; exact s118, by rw [e145]; refine (Xi_same (by unfold rg; omega)).trans ?_; exact u.2.2.2.2.1, by rw [show Xi U8 904 8 = Xi U6 904 8 by rw [e145, Xi_ne (by omega)]]; exact u.2.2.1, by rw [show Xi U8 904 8 = Xi U6 904 8 by rw [e145, Xi_ne (by omega)], show Xi U8 904 99 = Xi U6 904 99 by rw [e145, Xi_ne (by omega)]]; exact rr_k u.2.2.2 (runk_w e145 (by omega) RUNK.rf)⟩))⟩)
          refine y_return rfl rfl ?_
          have w76 : Xi U8 904 100 = Xi U4 904 100 := (show Xi U8 904 100 = Xi U6 904 100 from by rw [eU8]; exact Xi_ne (by omega)).trans ( (show Xi U6 904 100 = Xi T5 904 100 from by rw [eU6]; exact Xi_ne (by omega)).trans ((show Xi T5 904 100 = Xi U4 904 100 from w59.x _ _ rfl)))
          have w77 : Xi U8 904 65 = Xi T5 904 65 := (show Xi U8 904 65 = Xi U6 904 65 from by rw [eU8]; exact Xi_ne (by omega)).trans ((show Xi U6 904 65 = Xi T5 904 65 from by rw [eU6]; exact Xi_ne (by omega)))
          have w78 : Xi U8 904 69 = Xi T5 904 69 := (show Xi U8 904 69 = Xi U6 904 69 from by rw [eU8]; exact Xi_ne (by omega)).trans ((show Xi U6 904 69 = Xi T5 904 69 from by rw [eU6]; exact Xi_ne (by omega)))
          have w79 : Xi U8 904 8 = Xi T5 904 8 := (show Xi U8 904 8 = Xi U6 904 8 from by rw [eU8]; exact Xi_ne (by omega)).trans ((show Xi U6 904 8 = Xi T5 904 8 from by rw [eU6]; exact Xi_ne (by omega)))
          have w80 : Xi U8 904 93 = Xi S 904 93 := (show Xi U8 904 93 = Xi U6 904 93 from by rw [eU8]; exact Xi_ne (by omega)).trans ( (show Xi U6 904 93 = Xi T5 904 93 from by rw [eU6]; exact Xi_ne (by omega)).trans ( (show Xi T5 904 93 = Xi U4 904 93 from w59.x _ _ rfl).trans ( (show Xi U4 904 93 = Xi U1 904 93 from by rw [eU4]; exact Xi_ne (by omega)).trans ((show Xi U1 904 93 = Xi S 904 93 from by rw [eU1]; exact Xi_ne (by omega))))))
          have w81 : Xi U8 904 99 = Xi U6 904 99 := (show Xi U8 904 99 = Xi U6 904 99 from by rw [eU8]; exact Xi_ne (by omega))
          exact ⟨hHU8, hFU8, rfl, (by first | (have u := R145; exact R145.o) | (have u := K108; exact fun b => absurd b (by omega)) | (have u := K18; exact fun _ => ⟨by omega, by omega, Or.inl ⟨by omega, by omega, by omega, by omega⟩⟩) | (have u := K55; exact fun _ => ⟨by omega, by omega, Or.inr (Or.inr (Or.inl ⟨by omega, by omega, by omega, by omega, by omega⟩))⟩) | exact fun _ => ⟨by omega, by omega, Or.inr (Or.inl ⟨by omega, by omega, by omega, by omega⟩)⟩), (by first | (have u := K108; exact runk_w e145 (by omega) (runk_w e118 (by omega) (RUNK.tr (runk_w e110 (by omega) (runk_w e5 (by omega) RUNK.rf)) k115))) | (have u := K18; exact runk_w e30 (by omega) (runk_w e20 (by omega) (runk_w e5 (by omega) RUNK.rf))) | exact runk_w e102 (by omega) (runk_w e74 (by omega) (runk_w e5 (by omega) RUNK.rf)))⟩
      · refine y_aload_n rfl rfl ?_
        have K55 : True := trivial
        have i55 := T49.1 (by omega)
        refine y_gfr rfl rfl rfl rfl rfl (hHU1.r 904 4 907 rfl) ?_
        refine y_aload_n rfl rfl ?_
        refine y_gfi rfl rfl rfl rfl rfl ?_
        have w82 : (Xi U1 904 8) = (Xi S 904 8) := (show Xi U1 904 8 = Xi S 904 8 from by rw [eU1]; exact Xi_ne (by omega))
        rw [w82]
        refine y_iconst rfl ?_
        refine y_iadd rfl ?_
        refine y_ialoadP (n := 5002) rfl rfl (by unfold rg; omega) (fun w83 w84 => ?_)
        have w85 : -2147483648 ≤ (Xi U1 907 ((((Xi S 904 8) + 1)).toNat)) ∧ (Xi U1 907 ((((Xi S 904 8) + 1)).toNat)) ≤ 2147483647 := Xi_rgI
        have v65 : (Xi U1 907 ((((Xi S 904 8) + 1)).toNat)) = tkR S (Xi S 904 8 + 1) := by first | exact ((hFU1.smk (by rfl : kdis _ [(907, 908)] = true)).x 907 rfl _) | (show Xi _ 907 _ = Xi S 907 _; rw [(hFU1.cx 907 rfl _).1, a5])
        refine y_sipush rfl rfl ?_
        refine y_icmp_ne rfl rfl (by unfold rg; omega) (by unfold rg; omega) (fun w86 => ?_) (fun w87 => ?_)
        · refine y_aload_n rfl rfl ?_
          have K108 : True := trivial
          have N108 : Hid (Xi S 904 65 = 0 → tkR S (Xi S 904 8) ≠ 154 ∧ tkR S (Xi S 904 8) ≠ 153 ∧ ¬ (tkR S (Xi S 904 8) = 102 ∧ tkR S (Xi S 904 8 + 1) = 153)) := fun b => ⟨by omega, by have u := T40.2 (by omega); omega, by first | (have u := v65; omega) | (have u := T49.2 (by omega); omega)⟩
          refine y_iconst rfl ?_
          refine y_pfi rfl rfl rfl rfl ?_
          obtain ⟨U9, eU9⟩ : ∃ T : sS, T = uI U1 904 100 (Int32.ofInt 2) := ⟨_, rfl⟩
          rw [← eU9]
          have hHU9 : RI U9 := by rw [eU9]; exact RI_w hHU1
          have hFU9 : FR md_mo_thing__t S U9 := by rw [eU9]; exact FR.wI hFU1 (mdf_i (r := (904, 905, 100, 101)) (List.mem_of_getElem? (i := 5) rfl) (inR_i (by omega) (by omega) (by omega) (by omega)))
          have w88 : Xi U9 904 100 = 2 := by rw [eU9]; exact Xi_same (by unfold rg; omega)
          have e110 := eU9
          have s110 := xi_of e110 (by unfold rg; omega)
          have a110 : Xi U9 904 8 = Xi S 904 8 := by rw [e110, Xi_ne (by omega)]; exact a5
          have b110 : Xi U9 904 65 = Xi S 904 65 := by rw [e110, Xi_ne (by omega), e5, Xi_ne (by omega)]
          refine y_aload_n rfl rfl ?_
          refine y_aload_n rfl rfl ?_
          have w89 : Xi U9 904 101 = Xi U1 904 101 := (show Xi U9 904 101 = Xi U1 904 101 from by rw [eU9]; exact Xi_ne (by omega))
          have w90 : Xi U9 904 65 = Xi S 904 65 := (show Xi U9 904 65 = Xi U1 904 65 from by rw [eU9]; exact Xi_ne (by omega)).trans ((show Xi U1 904 65 = Xi S 904 65 from by rw [eU1]; exact Xi_ne (by omega)))
          have w91 : Xi U9 904 69 = Xi S 904 69 := (show Xi U9 904 69 = Xi U1 904 69 from by rw [eU9]; exact Xi_ne (by omega)).trans ((show Xi U1 904 69 = Xi S 904 69 from by rw [eU1]; exact Xi_ne (by omega)))
          have w92 : Xi U9 904 8 = Xi S 904 8 := (show Xi U9 904 8 = Xi U1 904 8 from by rw [eU9]; exact Xi_ne (by omega)).trans ((show Xi U1 904 8 = Xi S 904 8 from by rw [eU1]; exact Xi_ne (by omega)))
          have w93 : Xi U9 904 93 = Xi S 904 93 := (show Xi U9 904 93 = Xi U1 904 93 from by rw [eU9]; exact Xi_ne (by omega)).trans ((show Xi U1 904 93 = Xi S 904 93 from by rw [eU1]; exact Xi_ne (by omega)))
          have w94 : Xi U9 904 99 = Xi S 904 99 := (show Xi U9 904 99 = Xi U1 904 99 from by rw [eU9]; exact Xi_ne (by omega)).trans ((show Xi U1 904 99 = Xi S 904 99 from by rw [eU1]; exact Xi_ne (by omega)))
          refine y_callV rfl rfl rfl (t_mo_name__t hHU9 _) ?_
          rintro _ T10 ⟨hHT10, w96, z95, rfl, w95, t115, k115⟩
          have hFT10 : FR md_mo_thing__t S T10 := FR.tr hFU9 w96 rfl
          show Pl _ _ _ _ _ _ [iv z95, .ref 904] _ _
          have F115 := (by assumption : FR md_mo_name__t U9 T10)
          have T115 := t115
          unfold NMT at T115
          rw [tkR_F7 hFU9 rfl, a110, b110] at T115
          clear t115
          refine y_pfi rfl rfl rfl rfl ?_
          obtain ⟨U11, eU11⟩ : ∃ T : sS, T = uI T10 904 99 (Int32.ofInt z95) := ⟨_, rfl⟩
          rw [← eU11]
          have hHU11 : RI U11 := by rw [eU11]; exact RI_w hHT10
          have hFU11 : FR md_mo_thing__t S U11 := by rw [eU11]; exact FR.wI hFT10 (mdf_i (r := (904, 905, 99, 100)) (List.mem_of_getElem? (i := 4) rfl) (inR_i (by omega) (by omega) (by omega) (by omega)))
          have w97 : Xi U11 904 99 = z95 := by rw [eU11]; exact Xi_same (by unfold rg; omega)
          have e118 := eU11
          have s118 : Xi U11 904 100 = 2 := by rw [e118, Xi_ne (by omega), F115.x 904 100 rfl]; exact s110
          refine y_aload_n rfl rfl ?_
          refine y_aload_n rfl rfl ?_
          refine y_gfi rfl rfl rfl rfl rfl ?_
          have w98 : -2147483648 ≤ (Xi U11 904 65) ∧ (Xi U11 904 65) ≤ 2147483647 := Xi_rgI
          refine y_if_eq rfl rfl (by unfold rg; omega) (fun w99 => ?_) (fun w100 => ?_)
          · refine y_aload_n rfl rfl ?_
            have Q136 : Hid (Xi S 904 65 = 0 ∧ (0 ≤ Xi S 904 8 ∧ Xi S 904 8 ≤ 5001) ∧ RQ (tkR S) (bT (tkR S) (Xi S 904 8)) (Xi U11 904 8) ∧ RR U11 (Xi U11 904 99) (bT (tkR S) (Xi S 904 8)) (Xi U11 904 8)) := by have x65 : Xi U11 904 65 = Xi T10 904 65 := (by rw [e118, Xi_ne (by omega)]); obtain ⟨a1, a2, a3, a4, a5_, a6⟩ := T115 (by omega); have r6 := a6.1; have g6 := Xi_rgI (S := T10) (k := 904) (j := 69); have z99 := xi_of e118 (by unfold rg; omega); have z8 : Xi U11 904 8 = Xi T10 904 8 := (by rw [e118, Xi_ne (by omega)]); exact ⟨a1, a2, by rw [z8]; exact a3, by rw [z8, z99]; exact rr_k a6 (runk_w e118 (by omega) RUNK.rf)⟩
            refine y_gfr rfl rfl rfl rfl rfl (hHU11.r 904 67 950 rfl) ?_
            refine y_aload_n rfl rfl ?_
            refine y_gfi rfl rfl rfl rfl rfl ?_
            refine y_ialoadP (n := 2600) rfl rfl (by unfold rg; omega) (fun w101 w102 => ?_)
            have w103 : -2147483648 ≤ (Xi U11 950 (((Xi U11 904 99)).toNat)) ∧ (Xi U11 950 (((Xi U11 904 99)).toNat)) ≤ 2147483647 := Xi_rgI
            refine y_pfi rfl rfl rfl rfl ?_
            obtain ⟨U12, eU12⟩ : ∃ T : sS, T = uI U11 904 101 (Int32.ofInt (Xi U11 950 (((Xi U11 904 99)).toNat))) := ⟨_, rfl⟩
            rw [← eU12]
            have hHU12 : RI U12 := by rw [eU12]; exact RI_w hHU11
            have hFU12 : FR md_mo_thing__t S U12 := by rw [eU12]; exact FR.wI hFU11 (mdf_i (r := (904, 905, 101, 102)) (List.mem_of_getElem? (i := 6) rfl) (inR_i (by omega) (by omega) (by omega) (by omega)))
            have w104 : Xi U12 904 101 = (Xi U11 950 (((Xi U11 904 99)).toNat)) := by rw [eU12]; exact Xi_same (by unfold rg; omega)
            have e145 := eU12
            have R145 : Hid (Xi U12 904 65 = 0 → Xi S 904 65 = 0 ∧ (0 ≤ Xi S 904 8 ∧ Xi S 904 8 ≤ 5001) ∧ TH3 (tkR S) U12 (Xi S 904 8) (Xi U12 904 8) (Xi U12 904 100) (Xi U12 904 101) (Xi U12 904 99)) := by first | (exact fun b => absurd b (by rw [e145, Xi_ne (by omega)]; first | omega | (rw [e118, Xi_ne (by omega)]; omega))) | (have u := Q136.o; exact fun b => ⟨u.1, u.2.1, Or.inr (Or.inr (Or.inr ⟨(N108.o u.1).1, (N108.o u.1).2.1, (N108.o u.1).2.2, by rw [e145, Xi_ne (by omega)]; exact s118, by rw [e145]; refine (Xi_same (by unfold rg; omega)).trans ?_; exact u.2.2.2.2.1, by rw [show Xi U12 904 8 = Xi U11 904 8 by rw [e145, Xi_ne (by omega)]]; exact u.2.2.1, by rw [show Xi U12 904 8 = Xi U11 904 8 by rw [e145, Xi_ne (by omega)], show Xi U12 904 99 = Xi U11 904 99 by rw [e145, Xi_ne (by omega)]]; exact rr_k u.2.2.2 (runk_w e145 (by omega) RUNK.rf)⟩))⟩)
            refine y_return rfl rfl ?_
            have w105 : Xi U12 904 100 = Xi U9 904 100 := (show Xi U12 904 100 = Xi U11 904 100 from by rw [eU12]; exact Xi_ne (by omega)).trans ( (show Xi U11 904 100 = Xi T10 904 100 from by rw [eU11]; exact Xi_ne (by omega)).trans ((show Xi T10 904 100 = Xi U9 904 100 from w96.x _ _ rfl)))
            have w106 : Xi U12 904 65 = Xi T10 904 65 := (show Xi U12 904 65 = Xi U11 904 65 from by rw [eU12]; exact Xi_ne (by omega)).trans ((show Xi U11 904 65 = Xi T10 904 65 from by rw [eU11]; exact Xi_ne (by omega)))
            have w107 : Xi U12 904 69 = Xi T10 904 69 := (show Xi U12 904 69 = Xi U11 904 69 from by rw [eU12]; exact Xi_ne (by omega)).trans ((show Xi U11 904 69 = Xi T10 904 69 from by rw [eU11]; exact Xi_ne (by omega)))
            have w108 : Xi U12 904 8 = Xi T10 904 8 := (show Xi U12 904 8 = Xi U11 904 8 from by rw [eU12]; exact Xi_ne (by omega)).trans ((show Xi U11 904 8 = Xi T10 904 8 from by rw [eU11]; exact Xi_ne (by omega)))
            have w109 : Xi U12 904 93 = Xi S 904 93 := (show Xi U12 904 93 = Xi U11 904 93 from by rw [eU12]; exact Xi_ne (by omega)).trans ( (show Xi U11 904 93 = Xi T10 904 93 from by rw [eU11]; exact Xi_ne (by omega)).trans ( (show Xi T10 904 93 = Xi U9 904 93 from w96.x _ _ rfl).trans ( (show Xi U9 904 93 = Xi U1 904 93 from by rw [eU9]; exact Xi_ne (by omega)).trans ((show Xi U1 904 93 = Xi S 904 93 from by rw [eU1]; exact Xi_ne (by omega))))))
            have w110 : Xi U12 904 99 = Xi U11 904 99 := (show Xi U12 904 99 = Xi U11 904 99 from by rw [eU12]; exact Xi_ne (by omega))
            exact ⟨hHU12, hFU12, rfl, (by first | (have u := R145; exact R145.o) | (have u := K108; exact fun b => absurd b (by omega)) | (have u := K18; exact fun _ => ⟨by omega, by omega, Or.inl ⟨by omega, by omega, by omega, by omega⟩⟩) | (have u := K55; exact fun _ => ⟨by omega, by omega, Or.inr (Or.inr (Or.inl ⟨by omega, by omega, by omega, by omega, by omega⟩))⟩) | exact fun _ => ⟨by omega, by omega, Or.inr (Or.inl ⟨by omega, by omega, by omega, by omega⟩)⟩), (by first | (have u := K108; exact runk_w e145 (by omega) (runk_w e118 (by omega) (RUNK.tr (runk_w e110 (by omega) (runk_w e5 (by omega) RUNK.rf)) k115))) | (have u := K18; exact runk_w e30 (by omega) (runk_w e20 (by omega) (runk_w e5 (by omega) RUNK.rf))) | exact runk_w e102 (by omega) (runk_w e74 (by omega) (runk_w e5 (by omega) RUNK.rf)))⟩
          · refine y_aload_n rfl rfl ?_
            refine y_gfi rfl rfl rfl rfl rfl ?_
            have w111 : -2147483648 ≤ (Xi U11 904 8) ∧ (Xi U11 904 8) ≤ 2147483647 := Xi_rgI
            refine y_goto rfl rfl ?_
            refine y_pfi rfl rfl rfl rfl ?_
            obtain ⟨U13, eU13⟩ : ∃ T : sS, T = uI U11 904 101 (Int32.ofInt (Xi U11 904 8)) := ⟨_, rfl⟩
            rw [← eU13]
            have hHU13 : RI U13 := by rw [eU13]; exact RI_w hHU11
            have hFU13 : FR md_mo_thing__t S U13 := by rw [eU13]; exact FR.wI hFU11 (mdf_i (r := (904, 905, 101, 102)) (List.mem_of_getElem? (i := 6) rfl) (inR_i (by omega) (by omega) (by omega) (by omega)))
            have w112 : Xi U13 904 101 = (Xi U11 904 8) := by rw [eU13]; exact Xi_same (by unfold rg; omega)
            have e145 := eU13
            have R145 : Hid (Xi U13 904 65 = 0 → Xi S 904 65 = 0 ∧ (0 ≤ Xi S 904 8 ∧ Xi S 904 8 ≤ 5001) ∧ TH3 (tkR S) U13 (Xi S 904 8) (Xi U13 904 8) (Xi U13 904 100) (Xi U13 904 101) (Xi U13 904 99)) := by first | (exact fun b => absurd b (by rw [e145, Xi_ne (by omega)]; first | omega | (rw [e118, Xi_ne (by omega)]; omega))) | (have u := Q136.o; exact fun b => ⟨u.1, u.2.1, Or.inr (Or.inr (Or.inr ⟨(N108.o u.1).1, (N108.o u.1).2.1, (N108.o u.1).2.2, by rw [e145, Xi_ne (by omega)]; exact s118, by rw [e145]; refine (Xi_same (by unfold rg; omega)).trans ?_; exact u.2.2.2.2.1, by rw [show Xi U13 904 8 = Xi U11 904 8 by rw [e145, Xi_ne (by omega)]]; exact u.2.2.1, by rw [show Xi U13 904 8 = Xi U11 904 8 by rw [e145, Xi_ne (by omega)], show Xi U13 904 99 = Xi U11 904 99 by rw [e145, Xi_ne (by omega)]]; exact rr_k u.2.2.2 (runk_w e145 (by omega) RUNK.rf)⟩))⟩)
            refine y_return rfl rfl ?_
            have w113 : Xi U13 904 100 = Xi U9 904 100 := (show Xi U13 904 100 = Xi U11 904 100 from by rw [eU13]; exact Xi_ne (by omega)).trans ( (show Xi U11 904 100 = Xi T10 904 100 from by rw [eU11]; exact Xi_ne (by omega)).trans ((show Xi T10 904 100 = Xi U9 904 100 from w96.x _ _ rfl)))
            have w114 : Xi U13 904 65 = Xi T10 904 65 := (show Xi U13 904 65 = Xi U11 904 65 from by rw [eU13]; exact Xi_ne (by omega)).trans ((show Xi U11 904 65 = Xi T10 904 65 from by rw [eU11]; exact Xi_ne (by omega)))
            have w115 : Xi U13 904 69 = Xi T10 904 69 := (show Xi U13 904 69 = Xi U11 904 69 from by rw [eU13]; exact Xi_ne (by omega)).trans ((show Xi U11 904 69 = Xi T10 904 69 from by rw [eU11]; exact Xi_ne (by omega)))
            have w116 : Xi U13 904 8 = Xi T10 904 8 := (show Xi U13 904 8 = Xi U11 904 8 from by rw [eU13]; exact Xi_ne (by omega)).trans ((show Xi U11 904 8 = Xi T10 904 8 from by rw [eU11]; exact Xi_ne (by omega)))
            have w117 : Xi U13 904 93 = Xi S 904 93 := (show Xi U13 904 93 = Xi U11 904 93 from by rw [eU13]; exact Xi_ne (by omega)).trans ( (show Xi U11 904 93 = Xi T10 904 93 from by rw [eU11]; exact Xi_ne (by omega)).trans ( (show Xi T10 904 93 = Xi U9 904 93 from w96.x _ _ rfl).trans ( (show Xi U9 904 93 = Xi U1 904 93 from by rw [eU9]; exact Xi_ne (by omega)).trans ((show Xi U1 904 93 = Xi S 904 93 from by rw [eU1]; exact Xi_ne (by omega))))))
            have w118 : Xi U13 904 99 = Xi U11 904 99 := (show Xi U13 904 99 = Xi U11 904 99 from by rw [eU13]; exact Xi_ne (by omega))
            exact ⟨hHU13, hFU13, rfl, (by first | (have u := R145; exact R145.o) | (have u := K108; exact fun b => absurd b (by omega)) | (have u := K18; exact fun _ => ⟨by omega, by omega, Or.inl ⟨by omega, by omega, by omega, by omega⟩⟩) | (have u := K55; exact fun _ => ⟨by omega, by omega, Or.inr (Or.inr (Or.inl ⟨by omega, by omega, by omega, by omega, by omega⟩))⟩) | exact fun _ => ⟨by omega, by omega, Or.inr (Or.inl ⟨by omega, by omega, by omega, by omega⟩)⟩), (by first | (have u := K108; exact runk_w e145 (by omega) (runk_w e118 (by omega) (RUNK.tr (runk_w e110 (by omega) (runk_w e5 (by omega) RUNK.rf)) k115))) | (have u := K18; exact runk_w e30 (by omega) (runk_w e20 (by omega) (runk_w e5 (by omega) RUNK.rf))) | exact runk_w e102 (by omega) (runk_w e74 (by omega) (runk_w e5 (by omega) RUNK.rf)))⟩
        · refine y_aload_n rfl rfl ?_
          have i72 : Xi S 904 65 = 0 ∧ 0 ≤ Xi S 904 8 ∧ Xi S 904 8 ≤ 5001 := by first | (have u := K55; exact ⟨by omega, by omega, by omega⟩) | exact ⟨(T40.1 (by omega)).1, (T40.1 (by omega)).2.2⟩
          have y72 : tkR S (Xi S 904 8) = 102 ∨ tkR S (Xi S 904 8) = 153 := by first | (have u := K55; exact Or.inl (by omega)) | exact Or.inr (T40.1 (by omega)).2.1
          refine y_iconst rfl ?_
          refine y_pfi rfl rfl rfl rfl ?_
          obtain ⟨U14, eU14⟩ : ∃ T : sS, T = uI U1 904 100 (Int32.ofInt 1) := ⟨_, rfl⟩
          rw [← eU14]
          have hHU14 : RI U14 := by rw [eU14]; exact RI_w hHU1
          have hFU14 : FR md_mo_thing__t S U14 := by rw [eU14]; exact FR.wI hFU1 (mdf_i (r := (904, 905, 100, 101)) (List.mem_of_getElem? (i := 5) rfl) (inR_i (by omega) (by omega) (by omega) (by omega)))
          have w119 : Xi U14 904 100 = 1 := by rw [eU14]; exact Xi_same (by unfold rg; omega)
          have e74 := eU14
          refine y_aload_n rfl rfl ?_
          refine y_dup rfl rfl ?_
          refine y_gfi rfl rfl rfl rfl rfl ?_
          have w120 : (Xi U14 904 8) = (Xi S 904 8) := (show Xi U14 904 8 = Xi U1 904 8 from by rw [eU14]; exact Xi_ne (by omega)).trans ((show Xi U1 904 8 = Xi S 904 8 from by rw [eU1]; exact Xi_ne (by omega)))
          rw [w120]
          refine y_aload_n rfl rfl ?_
          refine y_gfr rfl rfl rfl rfl rfl (hHU14.r 904 4 907 rfl) ?_
          refine y_aload_n rfl rfl ?_
          refine y_gfi rfl rfl rfl rfl rfl ?_
          have w121 : (Xi U14 904 8) = (Xi S 904 8) := (show Xi U14 904 8 = Xi U1 904 8 from by rw [eU14]; exact Xi_ne (by omega)).trans ((show Xi U1 904 8 = Xi S 904 8 from by rw [eU1]; exact Xi_ne (by omega)))
          rw [w121]
          refine y_ialoadP (n := 5002) rfl rfl (by unfold rg; omega) (fun w122 w123 => ?_)
          have w124 : -2147483648 ≤ (Xi U14 907 (((Xi S 904 8)).toNat)) ∧ (Xi U14 907 (((Xi S 904 8)).toNat)) ≤ 2147483647 := Xi_rgI
          have v90 : (Xi U14 907 (((Xi S 904 8)).toNat)) = tkR S (Xi S 904 8) := by first | exact ((hFU14.smk (by rfl : kdis _ [(907, 908)] = true)).x 907 rfl _) | (show Xi _ 907 _ = Xi S 907 _; rw [(hFU14.cx 907 rfl _).1, a5])
          refine y_bipush rfl rfl ?_
          refine y_icmp_ne rfl rfl (by unfold rg; omega) (by unfold rg; omega) (fun w125 => ?_) (fun w126 => ?_)
          · exfalso; omega
          · refine y_iconst rfl ?_
            refine y_goto rfl rfl ?_
            refine y_iadd rfl ?_
            refine y_pfi rfl rfl rfl rfl ?_
            obtain ⟨U15, eU15⟩ : ∃ T : sS, T = uI U14 904 8 (Int32.ofInt ((Xi S 904 8) + 2)) := ⟨_, rfl⟩
            rw [← eU15]
            have hHU15 : RI U15 := by rw [eU15]; exact RI_w hHU14
            have hFU15 : FR md_mo_thing__t S U15 := by rw [eU15]; exact FR.wI hFU14 (mdf_i (r := (904, 905, 8, 9)) (List.mem_of_getElem? (i := 0) rfl) (inR_i (by omega) (by omega) (by omega) (by omega)))
            have w127 : Xi U15 904 8 = ((Xi S 904 8) + 2) := by rw [eU15]; exact Xi_same (by unfold rg; omega)
            have e102 := eU15
            refine y_goto rfl rfl ?_
            refine y_return rfl rfl ?_
            have w128 : Xi U15 904 100 = Xi U14 904 100 := (show Xi U15 904 100 = Xi U14 904 100 from by rw [eU15]; exact Xi_ne (by omega))
            have w129 : Xi U15 904 101 = Xi U1 904 101 := (show Xi U15 904 101 = Xi U14 904 101 from by rw [eU15]; exact Xi_ne (by omega)).trans ((show Xi U14 904 101 = Xi U1 904 101 from by rw [eU14]; exact Xi_ne (by omega)))
            have w130 : Xi U15 904 65 = Xi S 904 65 := (show Xi U15 904 65 = Xi U14 904 65 from by rw [eU15]; exact Xi_ne (by omega)).trans ( (show Xi U14 904 65 = Xi U1 904 65 from by rw [eU14]; exact Xi_ne (by omega)).trans ((show Xi U1 904 65 = Xi S 904 65 from by rw [eU1]; exact Xi_ne (by omega))))
            have w131 : Xi U15 904 69 = Xi S 904 69 := (show Xi U15 904 69 = Xi U14 904 69 from by rw [eU15]; exact Xi_ne (by omega)).trans ( (show Xi U14 904 69 = Xi U1 904 69 from by rw [eU14]; exact Xi_ne (by omega)).trans ((show Xi U1 904 69 = Xi S 904 69 from by rw [eU1]; exact Xi_ne (by omega))))
            have w132 : Xi U15 904 93 = Xi S 904 93 := (show Xi U15 904 93 = Xi U14 904 93 from by rw [eU15]; exact Xi_ne (by omega)).trans ( (show Xi U14 904 93 = Xi U1 904 93 from by rw [eU14]; exact Xi_ne (by omega)).trans ((show Xi U1 904 93 = Xi S 904 93 from by rw [eU1]; exact Xi_ne (by omega))))
            have w133 : Xi U15 904 99 = Xi S 904 99 := (show Xi U15 904 99 = Xi U14 904 99 from by rw [eU15]; exact Xi_ne (by omega)).trans ( (show Xi U14 904 99 = Xi U1 904 99 from by rw [eU14]; exact Xi_ne (by omega)).trans ((show Xi U1 904 99 = Xi S 904 99 from by rw [eU1]; exact Xi_ne (by omega))))
            exact ⟨hHU15, hFU15, rfl, (by first | (have u := R145; exact R145.o) | (have u := K108; exact fun b => absurd b (by omega)) | (have u := K18; exact fun _ => ⟨by omega, by omega, Or.inl ⟨by omega, by omega, by omega, by omega⟩⟩) | (have u := K55; exact fun _ => ⟨by omega, by omega, Or.inr (Or.inr (Or.inl ⟨by omega, by omega, by omega, by omega, by omega⟩))⟩) | exact fun _ => ⟨by omega, by omega, Or.inr (Or.inl ⟨by omega, by omega, by omega, by omega⟩)⟩), (by first | (have u := K108; exact runk_w e145 (by omega) (runk_w e118 (by omega) (RUNK.tr (runk_w e110 (by omega) (runk_w e5 (by omega) RUNK.rf)) k115))) | (have u := K18; exact runk_w e30 (by omega) (runk_w e20 (by omega) (runk_w e5 (by omega) RUNK.rf))) | exact runk_w e102 (by omega) (runk_w e74 (by omega) (runk_w e5 (by omega) RUNK.rf)))⟩
  · refine y_aload_n rfl rfl ?_
    have K18 : True := trivial
    have i18 := T12.1 (by omega)
    refine y_iconst rfl ?_
    refine y_pfi rfl rfl rfl rfl ?_
    obtain ⟨U16, eU16⟩ : ∃ T : sS, T = uI U1 904 100 (Int32.ofInt 0) := ⟨_, rfl⟩
    rw [← eU16]
    have hHU16 : RI U16 := by rw [eU16]; exact RI_w hHU1
    have hFU16 : FR md_mo_thing__t S U16 := by rw [eU16]; exact FR.wI hFU1 (mdf_i (r := (904, 905, 100, 101)) (List.mem_of_getElem? (i := 5) rfl) (inR_i (by omega) (by omega) (by omega) (by omega)))
    have w134 : Xi U16 904 100 = 0 := by rw [eU16]; exact Xi_same (by unfold rg; omega)
    have e20 := eU16
    refine y_aload_n rfl rfl ?_
    refine y_dup rfl rfl ?_
    refine y_gfi rfl rfl rfl rfl rfl ?_
    have w135 : (Xi U16 904 8) = (Xi S 904 8) := (show Xi U16 904 8 = Xi U1 904 8 from by rw [eU16]; exact Xi_ne (by omega)).trans ((show Xi U1 904 8 = Xi S 904 8 from by rw [eU1]; exact Xi_ne (by omega)))
    rw [w135]
    refine y_iconst rfl ?_
    refine y_iadd rfl ?_
    refine y_pfi rfl rfl rfl rfl ?_
    obtain ⟨U17, eU17⟩ : ∃ T : sS, T = uI U16 904 8 (Int32.ofInt ((Xi S 904 8) + 1)) := ⟨_, rfl⟩
    rw [← eU17]
    have hHU17 : RI U17 := by rw [eU17]; exact RI_w hHU16
    have hFU17 : FR md_mo_thing__t S U17 := by rw [eU17]; exact FR.wI hFU16 (mdf_i (r := (904, 905, 8, 9)) (List.mem_of_getElem? (i := 0) rfl) (inR_i (by omega) (by omega) (by omega) (by omega)))
    have w136 : Xi U17 904 8 = ((Xi S 904 8) + 1) := by rw [eU17]; exact Xi_same (by unfold rg; omega)
    have e30 := eU17
    refine y_goto rfl rfl ?_
    refine y_return rfl rfl ?_
    have w137 : Xi U17 904 100 = Xi U16 904 100 := (show Xi U17 904 100 = Xi U16 904 100 from by rw [eU17]; exact Xi_ne (by omega))
    have w138 : Xi U17 904 101 = Xi U1 904 101 := (show Xi U17 904 101 = Xi U16 904 101 from by rw [eU17]; exact Xi_ne (by omega)).trans ((show Xi U16 904 101 = Xi U1 904 101 from by rw [eU16]; exact Xi_ne (by omega)))
    have w139 : Xi U17 904 65 = Xi S 904 65 := (show Xi U17 904 65 = Xi U16 904 65 from by rw [eU17]; exact Xi_ne (by omega)).trans ( (show Xi U16 904 65 = Xi U1 904 65 from by rw [eU16]; exact Xi_ne (by omega)).trans ((show Xi U1 904 65 = Xi S 904 65 from by rw [eU1]; exact Xi_ne (by omega))))
    have w140 : Xi U17 904 69 = Xi S 904 69 := (show Xi U17 904 69 = Xi U16 904 69 from by rw [eU17]; exact Xi_ne (by omega)).trans ( (show Xi U16 904 69 = Xi U1 904 69 from by rw [eU16]; exact Xi_ne (by omega)).trans ((show Xi U1 904 69 = Xi S 904 69 from by rw [eU1]; exact Xi_ne (by omega))))
    have w141 : Xi U17 904 93 = Xi S 904 93 := (show Xi U17 904 93 = Xi U16 904 93 from by rw [eU17]; exact Xi_ne (by omega)).trans ( (show Xi U16 904 93 = Xi U1 904 93 from by rw [eU16]; exact Xi_ne (by omega)).trans ((show Xi U1 904 93 = Xi S 904 93 from by rw [eU1]; exact Xi_ne (by omega))))
    have w142 : Xi U17 904 99 = Xi S 904 99 := (show Xi U17 904 99 = Xi U16 904 99 from by rw [eU17]; exact Xi_ne (by omega)).trans ( (show Xi U16 904 99 = Xi U1 904 99 from by rw [eU16]; exact Xi_ne (by omega)).trans ((show Xi U1 904 99 = Xi S 904 99 from by rw [eU1]; exact Xi_ne (by omega))))
    exact ⟨hHU17, hFU17, rfl, (by first | (have u := R145; exact R145.o) | (have u := K108; exact fun b => absurd b (by omega)) | (have u := K18; exact fun _ => ⟨by omega, by omega, Or.inl ⟨by omega, by omega, by omega, by omega⟩⟩) | (have u := K55; exact fun _ => ⟨by omega, by omega, Or.inr (Or.inr (Or.inl ⟨by omega, by omega, by omega, by omega, by omega⟩))⟩) | exact fun _ => ⟨by omega, by omega, Or.inr (Or.inl ⟨by omega, by omega, by omega, by omega⟩)⟩), (by first | (have u := K108; exact runk_w e145 (by omega) (runk_w e118 (by omega) (RUNK.tr (runk_w e110 (by omega) (runk_w e5 (by omega) RUNK.rf)) k115))) | (have u := K18; exact runk_w e30 (by omega) (runk_w e20 (by omega) (runk_w e5 (by omega) RUNK.rf))) | exact runk_w e102 (by omega) (runk_w e74 (by omega) (runk_w e5 (by omega) RUNK.rf)))⟩
/-! the reference's reading: what is kept of a THING, of the RUN of -/
def THE (T : Int → Int) (V : sS) (p e x y : Int) : Prop := ∃ so ta tr : Int, TH3 T V p e so ta tr ∧ x = so * 10000 + ta ∧ y = tr
theorem th3_b {T : Int → Int} {V : sS} {p e so ta tr : Int} (h : TH3 T V p e so ta tr) : (0 ≤ so ∧ so ≤ 2) ∧ (ta = p ∨ ta = p + 1) := by
  rcases h with ⟨_, b, c, _⟩ | ⟨_, b, c, _⟩ | ⟨_, _, b, c, _⟩ | ⟨_, _, _, b, c, _⟩
  · omega
  · omega
  · omega
  · unfold bT at c; split at c <;> omega
theorem the_k {T : Int → Int} {V W : sS} {p e x y : Int} (h : THE T V p e x y) (k : RUNK V W) : THE T W p e x y := by
  obtain ⟨so, ta, tr, a, b⟩ := h
  exact ⟨so, ta, tr, th3_k a k, b⟩
theorem the_of {T : Int → Int} {A B C : sS} {p e e1 : Int} {c : Nat} {i j : Nat} (h : TH3 T A p e (Xi A 904 100) (Xi A 904 101) (Xi A 904 99)) (hp : 0 ≤ p ∧ p ≤ 5001) (k : RUNK A C) {v w : Int} (e25 : B = uI A 954 i (Int32.ofInt v)) (e38 : C = uI B 955 j (Int32.ofInt w)) (hv : v = Xi A 904 100 * 10000 + Xi A 904 101 ∧ w = Xi A 904 99) (hc : i = c ∧ j = c ∧ e1 = e) : THE T C p e1 (Xi C 954 c) (Xi C 955 c) := by
  obtain ⟨hv1, hv2⟩ := hv
  obtain ⟨rfl, hj, rfl⟩ := hc
  subst hj
  have b := th3_b h
  have g := Xi_rgI (S := A) (k := 904) (j := 99)
  refine ⟨_, _, _, th3_k h k, ?_, ?_⟩
  · rw [e38, Xi_ne (by omega), e25, Xi_same ⟨by omega, by omega⟩]; exact hv1
  · rw [e38, Xi_same ⟨by omega, by omega⟩]; exact hv2
/-- the RUN of stands from p on, what is behind it at e -/
def PRE (T : Int → Int) (V : sS) (p e x : Int) : Prop := ∃ q : Int, T p = 102 ∧ RQ T (p + 1) q ∧ T q = 107 ∧ e = q + 1 ∧ RR V x (p + 1) q

def md_mo_thingOfTest__t : List rec := [(904, 905, 8, 9), (904, 905, 65, 66), (904, 905, 66, 67), (904, 905, 69, 70), (904, 905, 99, 100), (904, 905, 100, 101), (904, 905, 101, 102), (950, 951, 0, 100000), (951, 952, 0, 100000), (954, 955, 0, 100000), (955, 956, 0, 100000)]
abbrev Q_mo_thingOfTest__t (S : sS) : pst := fun r S1 => RI S1 ∧ FR md_mo_thingOfTest__t S S1 ∧ (r = none ∧ (Xi S1 904 65 = 0 → Xi S 904 65 = 0 ∧ (0 ≤ Xi S 904 8 ∧ Xi S 904 8 ≤ 5001) ∧ THE (tkR S) S1 (Xi S 904 8) (Xi S1 904 8) (Xi S1 954 (Xi S 904 93).toNat) (Xi S1 955 (Xi S 904 93).toNat)) ∧ (RUNK S S1) ∧ (KTE S S1))
set_option maxRecDepth 100000 in
theorem t_mo_thingOfTest__t {S : sS} (hH : RI S) (d : Nat) : Mp lay0 (d + 5) m_mo_thingOfTest [.ref 904] S (Q_mo_thingOfTest__t S) := by
  refine Mp_R rfl rfl (fun fu => ?_)
  have hF : FR md_mo_thingOfTest__t S S := FR.rf
  have w1 : -2147483648 ≤ Xi S 904 100 ∧ Xi S 904 100 ≤ 2147483647 := Xi_rgI
  have w2 : -2147483648 ≤ Xi S 904 101 ∧ Xi S 904 101 ≤ 2147483647 := Xi_rgI
  have w3 : -2147483648 ≤ Xi S 904 65 ∧ Xi S 904 65 ≤ 2147483647 := Xi_rgI
  have w4 : -2147483648 ≤ Xi S 904 69 ∧ Xi S 904 69 ≤ 2147483647 := Xi_rgI
  have w5 : -2147483648 ≤ Xi S 904 8 ∧ Xi S 904 8 ≤ 2147483647 := Xi_rgI
  have w6 : -2147483648 ≤ Xi S 904 93 ∧ Xi S 904 93 ≤ 2147483647 := Xi_rgI
  have w7 : -2147483648 ≤ Xi S 904 99 ∧ Xi S 904 99 ≤ 2147483647 := Xi_rgI
  refine y_aload_n rfl rfl ?_
  refine y_callV rfl rfl rfl (t_mo_thing__t hH _) ?_
  rintro _ T1 ⟨hHT1, w9, rfl, t1, k1⟩
  have hFT1 : FR md_mo_thingOfTest__t S T1 := FR.tr hF w9 rfl
  show Pl _ _ _ _ _ _ [] _ _
  have F1 := (by assumption : FR md_mo_thing__t S T1)
  have c1 : Xi T1 904 93 = Xi S 904 93 := F1.x 904 93 rfl
  refine y_aload_n rfl rfl ?_
  refine y_gfr rfl rfl rfl rfl rfl (hHT1.r 904 84 954 rfl) ?_
  refine y_aload_n rfl rfl ?_
  refine y_gfi rfl rfl rfl rfl rfl ?_
  have w10 : (Xi T1 904 93) = (Xi S 904 93) := (show Xi T1 904 93 = Xi S 904 93 from w9.x _ _ rfl)
  rw [w10]
  refine y_aload_n rfl rfl ?_
  refine y_gfi rfl rfl rfl rfl rfl ?_
  have w11 : -2147483648 ≤ (Xi T1 904 100) ∧ (Xi T1 904 100) ≤ 2147483647 := Xi_rgI
  refine y_sipush rfl rfl ?_
  refine y_imul rfl ?_
  refine y_aload_n rfl rfl ?_
  refine y_gfi rfl rfl rfl rfl rfl ?_
  have w12 : -2147483648 ≤ (Xi T1 904 101) ∧ (Xi T1 904 101) ≤ 2147483647 := Xi_rgI
  refine y_iadd rfl ?_
  refine y_iastoreP (n := 1700) rfl rfl (by unfold rg; omega) (fun w13 w14 => ?_)
  obtain ⟨U2, eU2⟩ : ∃ T : sS, T = uI T1 954 (((Xi S 904 93)).toNat) (Int32.ofInt (((Xi T1 904 100) * 10000) + (Xi T1 904 101))) := ⟨_, rfl⟩
  rw [← eU2]
  have hHU2 : RI U2 := by rw [eU2]; exact RI_w hHT1
  have hFU2 : FR md_mo_thingOfTest__t S U2 := by rw [eU2]; exact FR.wI hFT1 (mdf_i (r := (954, 955, 0, 100000)) (List.mem_of_getElem? (i := 9) rfl) (inR_i (by omega) (by omega) (by omega) (by omega)))
  have e25 := eU2
  refine y_aload_n rfl rfl ?_
  refine y_gfr rfl rfl rfl rfl rfl (hHU2.r 904 85 955 rfl) ?_
  refine y_aload_n rfl rfl ?_
  refine y_gfi rfl rfl rfl rfl rfl ?_
  have w15 : (Xi U2 904 93) = (Xi S 904 93) := (show Xi U2 904 93 = Xi T1 904 93 from by rw [eU2]; exact Xi_ne (by omega)).trans ((show Xi T1 904 93 = Xi S 904 93 from w9.x _ _ rfl))
  rw [w15]
  refine y_aload_n rfl rfl ?_
  refine y_gfi rfl rfl rfl rfl rfl ?_
  have w16 : -2147483648 ≤ (Xi U2 904 99) ∧ (Xi U2 904 99) ≤ 2147483647 := Xi_rgI
  refine y_iastoreP (n := 1700) rfl rfl (by unfold rg; omega) (fun w17 w18 => ?_)
  obtain ⟨U3, eU3⟩ : ∃ T : sS, T = uI U2 955 (((Xi S 904 93)).toNat) (Int32.ofInt (Xi U2 904 99)) := ⟨_, rfl⟩
  rw [← eU3]
  have hHU3 : RI U3 := by rw [eU3]; exact RI_w hHU2
  have hFU3 : FR md_mo_thingOfTest__t S U3 := by rw [eU3]; exact FR.wI hFU2 (mdf_i (r := (955, 956, 0, 100000)) (List.mem_of_getElem? (i := 10) rfl) (inR_i (by omega) (by omega) (by omega) (by omega)))
  have w19 : Xi U3 955 (((Xi S 904 93)).toNat) = (Xi U2 904 99) := by rw [eU3]; exact Xi_same (by unfold rg; omega)
  have e38 := eU3
  refine y_return rfl rfl ?_
  have w20 : Xi U3 904 100 = Xi T1 904 100 := (show Xi U3 904 100 = Xi U2 904 100 from by rw [eU3]; exact Xi_ne (by omega)).trans ((show Xi U2 904 100 = Xi T1 904 100 from by rw [eU2]; exact Xi_ne (by omega)))
  have w21 : Xi U3 904 101 = Xi T1 904 101 := (show Xi U3 904 101 = Xi U2 904 101 from by rw [eU3]; exact Xi_ne (by omega)).trans ((show Xi U2 904 101 = Xi T1 904 101 from by rw [eU2]; exact Xi_ne (by omega)))
  have w22 : Xi U3 904 65 = Xi T1 904 65 := (show Xi U3 904 65 = Xi U2 904 65 from by rw [eU3]; exact Xi_ne (by omega)).trans ((show Xi U2 904 65 = Xi T1 904 65 from by rw [eU2]; exact Xi_ne (by omega)))
  have w23 : Xi U3 904 69 = Xi T1 904 69 := (show Xi U3 904 69 = Xi U2 904 69 from by rw [eU3]; exact Xi_ne (by omega)).trans ((show Xi U2 904 69 = Xi T1 904 69 from by rw [eU2]; exact Xi_ne (by omega)))
  have w24 : Xi U3 904 8 = Xi T1 904 8 := (show Xi U3 904 8 = Xi U2 904 8 from by rw [eU3]; exact Xi_ne (by omega)).trans ((show Xi U2 904 8 = Xi T1 904 8 from by rw [eU2]; exact Xi_ne (by omega)))
  have w25 : Xi U3 904 93 = Xi S 904 93 := (show Xi U3 904 93 = Xi U2 904 93 from by rw [eU3]; exact Xi_ne (by omega)).trans ( (show Xi U2 904 93 = Xi T1 904 93 from by rw [eU2]; exact Xi_ne (by omega)).trans ((show Xi T1 904 93 = Xi S 904 93 from w9.x _ _ rfl)))
  have w26 : Xi U3 904 99 = Xi T1 904 99 := (show Xi U3 904 99 = Xi U2 904 99 from by rw [eU3]; exact Xi_ne (by omega)).trans ((show Xi U2 904 99 = Xi T1 904 99 from by rw [eU2]; exact Xi_ne (by omega)))
  exact ⟨hHU3, hFU3, rfl, (fun b => by obtain ⟨a1, a2, a3⟩ := t1 (by rw [e38, Xi_ne (by omega), e25, Xi_ne (by omega)] at b; exact b); exact ⟨a1, a2, the_of a3 a2 (runk_w e38 (by omega) (runk_w e25 (by omega) RUNK.rf)) e25 e38 ⟨by first | rfl | omega, by first | rfl | (rw [e25, Xi_ne (by omega)]) | omega⟩ ⟨by first | rfl | omega, by first | rfl | omega, by omega⟩⟩), (runk_w e38 (by omega) (runk_w e25 (by omega) k1)), (kte_w e38 (by omega) (kte_w e25 (by omega) (kte_F F1 rfl KTE.rf)))⟩
def md_mo_property__t : List rec := [(904, 905, 8, 9), (904, 905, 65, 66), (904, 905, 66, 67), (904, 905, 69, 70), (950, 951, 0, 100000), (951, 952, 0, 100000), (956, 957, 0, 100000)]
abbrev Q_mo_property__t (S : sS) : pst := fun r S1 => RI S1 ∧ FR md_mo_property__t S S1 ∧ (r = none ∧ (Xi S1 904 65 = 0 → Xi S 904 65 = 0 ∧ (0 ≤ Xi S 904 8 ∧ Xi S 904 8 ≤ 5001) ∧ PRE (tkR S) S1 (Xi S 904 8) (Xi S1 904 8) (Xi S1 956 (Xi S 904 93).toNat)) ∧ (RUNK S S1) ∧ (KTE S S1))
set_option maxRecDepth 100000 in
theorem t_mo_property__t {S : sS} (hH : RI S) (d : Nat) : Mp lay0 (d + 3) m_mo_property [.ref 904] S (Q_mo_property__t S) := by
  refine Mp_R rfl rfl (fun fu => ?_)
  have hF : FR md_mo_property__t S S := FR.rf
  have w1 : -2147483648 ≤ Xi S 904 100 ∧ Xi S 904 100 ≤ 2147483647 := Xi_rgI
  have w2 : -2147483648 ≤ Xi S 904 101 ∧ Xi S 904 101 ≤ 2147483647 := Xi_rgI
  have w3 : -2147483648 ≤ Xi S 904 65 ∧ Xi S 904 65 ≤ 2147483647 := Xi_rgI
  have w4 : -2147483648 ≤ Xi S 904 69 ∧ Xi S 904 69 ≤ 2147483647 := Xi_rgI
  have w5 : -2147483648 ≤ Xi S 904 8 ∧ Xi S 904 8 ≤ 2147483647 := Xi_rgI
  have w6 : -2147483648 ≤ Xi S 904 93 ∧ Xi S 904 93 ≤ 2147483647 := Xi_rgI
  have w7 : -2147483648 ≤ Xi S 904 99 ∧ Xi S 904 99 ≤ 2147483647 := Xi_rgI
  refine y_aload_n rfl rfl ?_
  refine y_bipush rfl rfl ?_
  refine y_callV rfl rfl rfl (t_mo_take__t hH 102 ⟨by omega, by omega⟩ _) ?_
  rintro _ T1 ⟨hHT1, w9, rfl, t3⟩
  have hFT1 : FR md_mo_property__t S T1 := FR.tr hF w9 rfl
  show Pl _ _ _ _ _ _ [] _ _
  have F3 := (by assumption : FR md_mo_take__t S T1)
  refine y_aload_n rfl rfl ?_
  refine y_gfr rfl rfl rfl rfl rfl (hHT1.r 904 86 956 rfl) ?_
  refine y_aload_n rfl rfl ?_
  refine y_gfi rfl rfl rfl rfl rfl ?_
  have w10 : (Xi T1 904 93) = (Xi S 904 93) := (show Xi T1 904 93 = Xi S 904 93 from w9.x _ _ rfl)
  rw [w10]
  refine y_aload_n rfl rfl ?_
  refine y_callV rfl rfl rfl (t_mo_run__t hHT1 _) ?_
  rintro _ T2 ⟨hHT2, w17, z16, rfl, w16, t15, k15⟩
  have hFT2 : FR md_mo_property__t S T2 := FR.tr hFT1 w17 rfl
  show Pl _ _ _ _ _ _ [iv z16, iv (Xi S 904 93), .ref 956] _ _
  have F15 := (by assumption : FR md_mo_run__t T1 T2)
  have T15 := t15
  unfold RNT at T15
  rw [tkR_F7 hFT1 rfl] at T15
  clear t15
  refine y_iastoreP (n := 1700) rfl rfl (by unfold rg; omega) (fun w18 w19 => ?_)
  obtain ⟨U3, eU3⟩ : ∃ T : sS, T = uI T2 956 (((Xi S 904 93)).toNat) (Int32.ofInt z16) := ⟨_, rfl⟩
  rw [← eU3]
  have hHU3 : RI U3 := by rw [eU3]; exact RI_w hHT2
  have hFU3 : FR md_mo_property__t S U3 := by rw [eU3]; exact FR.wI hFT2 (mdf_i (r := (956, 957, 0, 100000)) (List.mem_of_getElem? (i := 6) rfl) (inR_i (by omega) (by omega) (by omega) (by omega)))
  have w20 : Xi U3 956 (((Xi S 904 93)).toNat) = z16 := by rw [eU3]; exact Xi_same (by unfold rg; omega)
  have e18 := eU3
  refine y_aload_n rfl rfl ?_
  refine y_bipush rfl rfl ?_
  have w23 : Xi U3 904 65 = Xi T2 904 65 := (show Xi U3 904 65 = Xi T2 904 65 from by rw [eU3]; exact Xi_ne (by omega))
  have w25 : Xi U3 904 8 = Xi T2 904 8 := (show Xi U3 904 8 = Xi T2 904 8 from by rw [eU3]; exact Xi_ne (by omega))
  refine y_callV rfl rfl rfl (t_mo_take__t hHU3 107 ⟨by omega, by omega⟩ _) ?_
  rintro _ T4 ⟨hHT4, w29, rfl, t22⟩
  have hFT4 : FR md_mo_property__t S T4 := FR.tr hFU3 w29 rfl
  show Pl _ _ _ _ _ _ [] _ _
  have F22 := (by assumption : FR md_mo_take__t U3 T4)
  have T22 := t22
  rw [tkR_F7 hFU3 rfl] at T22
  clear t22
  refine y_return rfl rfl ?_
  have w30 : Xi T4 904 100 = Xi S 904 100 := (show Xi T4 904 100 = Xi U3 904 100 from w29.x _ _ rfl).trans ( (show Xi U3 904 100 = Xi T2 904 100 from by rw [eU3]; exact Xi_ne (by omega)).trans ( (show Xi T2 904 100 = Xi T1 904 100 from w17.x _ _ rfl).trans ((show Xi T1 904 100 = Xi S 904 100 from w9.x _ _ rfl))))
  have w31 : Xi T4 904 101 = Xi S 904 101 := (show Xi T4 904 101 = Xi U3 904 101 from w29.x _ _ rfl).trans ( (show Xi U3 904 101 = Xi T2 904 101 from by rw [eU3]; exact Xi_ne (by omega)).trans ( (show Xi T2 904 101 = Xi T1 904 101 from w17.x _ _ rfl).trans ((show Xi T1 904 101 = Xi S 904 101 from w9.x _ _ rfl))))
  have w32 : Xi T4 904 69 = Xi T2 904 69 := (show Xi T4 904 69 = Xi U3 904 69 from w29.x _ _ rfl).trans ((show Xi U3 904 69 = Xi T2 904 69 from by rw [eU3]; exact Xi_ne (by omega)))
  have w33 : Xi T4 904 93 = Xi S 904 93 := (show Xi T4 904 93 = Xi U3 904 93 from w29.x _ _ rfl).trans ( (show Xi U3 904 93 = Xi T2 904 93 from by rw [eU3]; exact Xi_ne (by omega)).trans ( (show Xi T2 904 93 = Xi T1 904 93 from w17.x _ _ rfl).trans ((show Xi T1 904 93 = Xi S 904 93 from w9.x _ _ rfl))))
  have w34 : Xi T4 904 99 = Xi S 904 99 := (show Xi T4 904 99 = Xi U3 904 99 from w29.x _ _ rfl).trans ( (show Xi U3 904 99 = Xi T2 904 99 from by rw [eU3]; exact Xi_ne (by omega)).trans ( (show Xi T2 904 99 = Xi T1 904 99 from w17.x _ _ rfl).trans ((show Xi T1 904 99 = Xi S 904 99 from w9.x _ _ rfl))))
  exact ⟨hHT4, hFT4, rfl, (fun b => by obtain ⟨c1, c2, c3, c4⟩ := T22 b; obtain ⟨b1, b2, b3, b4, b5, b6⟩ := T15 (by omega); obtain ⟨a1, a2, a3, a4⟩ := t3 (by omega); have r6 := b6.1; have g6 := Xi_rgI (S := U3) (k := 904) (j := 69); refine ⟨a1, by omega, Xi U3 904 8, a2, by rw [show Xi S 904 8 + 1 = Xi T1 904 8 by omega, show Xi U3 904 8 = Xi T2 904 8 by omega]; exact b3, by exact c2, by omega, ?_⟩; rw [show Xi T4 956 (Xi S 904 93).toNat = Xi U3 956 (Xi S 904 93).toNat from F22.x 956 _ rfl]; have z18 := xi_of e18 (by unfold rg; omega); rw [z18, show Xi S 904 8 + 1 = Xi T1 904 8 by omega, show Xi U3 904 8 = Xi T2 904 8 by omega]; exact rr_k b6 (runk_F F22 rfl rfl (runk_w e18 (by omega) RUNK.rf))), (runk_F F22 rfl rfl (runk_w e18 (by omega) (RUNK.tr (runk_F F3 rfl rfl RUNK.rf) k15))), (kte_F F22 rfl (kte_w e18 (by omega) (kte_F F15 rfl (kte_F F3 rfl KTE.rf))))⟩
end
section
/-! the reference's reading: what is kept of PLACES, of WHAT -/
def PLE (T : Int → Int) (p e w : Int) : Prop := (T p = 108 ∧ w = 1 ∧ e = p + 1) ∨ (T p = 109 ∧ w = 2 ∧ e = p + 1) ∨ (T p = 129 ∧ T (p + 1) = 107 ∧ w = 3 ∧ e = p + 2) ∨ (T p = 130 ∧ T (p + 1) = 110 ∧ w = 4 ∧ e = p + 2) ∨ (T p = 131 ∧ T (p + 1) = 110 ∧ w = 5 ∧ e = p + 2)
def WHE (T : Int → Int) (V : sS) (p e r : Int) : Prop := ((T p = 4 ∨ T p = 5) ∧ e = p + 1) ∨ (T p ≠ 4 ∧ T p ≠ 5 ∧ RQ T p e ∧ RR V r p e)
theorem whe_k {T : Int → Int} {V W : sS} {p e r : Int} (h : WHE T V p e r) (k : RUNK V W) : WHE T W p e r := by
  rcases h with h | ⟨a, b, c, d⟩
  · exact Or.inl h
  · exact Or.inr ⟨a, b, c, rr_k d k⟩
def TWE (T : Int → Int) (V : sS) (now p e n0 f n w r : Int) : Prop :=
  (now = 0 ∧ ((T p = 151 ∧ f = 1) ∨ (T p = 152 ∧ f = 2)) ∧ T (p + 1) = 150 ∧ w = p + 2 ∧ T (p + 2) = 4 ∧ e = p + 3 ∧ n = n0) ∨
  (¬ (now = 0 ∧ (T p = 151 ∨ T p = 152)) ∧ f = 0 ∧ ∃ b : Int, ((now = 0 ∧ T p = 106 ∧ n = 1 ∧ b = p + 1) ∨ (¬ (now = 0 ∧ T p = 106) ∧ n = 0 ∧ b = p)) ∧ w = b ∧ WHE T V b e r)
theorem twe_k {T : Int → Int} {V W : sS} {now p e n0 f n w r : Int} (h : TWE T V now p e n0 f n w r) (k : RUNK V W) : TWE T W now p e n0 f n w r := by
  rcases h with h | ⟨a, b, c, d, g, x⟩
  · exact Or.inl h
  · exact Or.inr ⟨a, b, c, d, g, whe_k x k⟩

def md_mo_placing__t : List rec := [(904, 905, 8, 9), (904, 905, 65, 66), (904, 905, 66, 67)]
abbrev Q_mo_placing__t (S : sS) : pst := fun r S1 => RI S1 ∧ FR md_mo_placing__t S S1 ∧ (∃ z : Int, r = some (iv z) ∧ (-2147483648 ≤ z ∧ z ≤ 2147483647) ∧ (Xi S1 904 65 = 0 → Xi S 904 65 = 0 ∧ (0 ≤ Xi S 904 8 ∧ Xi S 904 8 ≤ 5001) ∧ PLE (tkR S) (Xi S 904 8) (Xi S1 904 8) z))
set_option maxRecDepth 100000 in
theorem t_mo_placing__t {S : sS} (hH : RI S) (d : Nat) : Mp lay0 (d + 3) m_mo_placing [.ref 904] S (Q_mo_placing__t S) := by
  refine Mp_R rfl rfl (fun fu => ?_)
  have hF : FR md_mo_placing__t S S := FR.rf
  have w1 : -2147483648 ≤ Xi S 904 100 ∧ Xi S 904 100 ≤ 2147483647 := Xi_rgI
  have w2 : -2147483648 ≤ Xi S 904 101 ∧ Xi S 904 101 ≤ 2147483647 := Xi_rgI
  have w3 : -2147483648 ≤ Xi S 904 65 ∧ Xi S 904 65 ≤ 2147483647 := Xi_rgI
  have w4 : -2147483648 ≤ Xi S 904 69 ∧ Xi S 904 69 ≤ 2147483647 := Xi_rgI
  have w5 : -2147483648 ≤ Xi S 904 8 ∧ Xi S 904 8 ≤ 2147483647 := Xi_rgI
  have w6 : -2147483648 ≤ Xi S 904 93 ∧ Xi S 904 93 ≤ 2147483647 := Xi_rgI
  have w7 : -2147483648 ≤ Xi S 904 99 ∧ Xi S 904 99 ≤ 2147483647 := Xi_rgI
  refine y_aload_n rfl rfl ?_
  refine y_callV rfl rfl rfl (t_mo_look__t hH _) ?_
  rintro _ _ ⟨rfl, z8, rfl, w8, t1⟩
  show Pl _ _ _ _ _ _ [iv z8] _ _
  refine y_istore_n rfl rfl rfl ?_
  refine y_iload_n rfl rfl ?_
  refine y_bipush rfl rfl ?_
  refine y_icmp_ne rfl rfl (by unfold rg; omega) (by unfold rg; omega) (fun w9 => ?_) (fun w10 => ?_)
  · refine y_iload_n rfl rfl ?_
    refine y_bipush rfl rfl ?_
    refine y_icmp_ne rfl rfl (by unfold rg; omega) (by unfold rg; omega) (fun w11 => ?_) (fun w12 => ?_)
    · refine y_iload_n rfl rfl ?_
      refine y_sipush rfl rfl ?_
      refine y_icmp_ne rfl rfl (by unfold rg; omega) (by unfold rg; omega) (fun w13 => ?_) (fun w14 => ?_)
      · refine y_iload_n rfl rfl ?_
        refine y_sipush rfl rfl ?_
        refine y_icmp_ne rfl rfl (by unfold rg; omega) (by unfold rg; omega) (fun w15 => ?_) (fun w16 => ?_)
        · refine y_iload_n rfl rfl ?_
          refine y_sipush rfl rfl ?_
          refine y_icmp_ne rfl rfl (by unfold rg; omega) (by unfold rg; omega) (fun w17 => ?_) (fun w18 => ?_)
          · refine y_iconst rfl ?_
            refine y_istore_n rfl rfl rfl ?_
            refine y_iload_n rfl rfl ?_
            refine y_if_ne rfl rfl (by unfold rg; omega) (fun w19 => absurd w19 (by omega)) (fun w20 => ?_)
            · refine y_aload_n rfl rfl ?_
              refine y_callV rfl rfl rfl (t_mo_odd__t hH _) ?_
              rintro _ T1 ⟨hHT1, w23, rfl, t65, w21⟩
              have hFT1 : FR md_mo_placing__t S T1 := FR.tr hF w23 rfl
              show Pl _ _ _ _ _ _ [] _ _
              refine y_iconst rfl ?_
              refine y_ireturn rfl rfl ?_
              have w27 : Xi T1 904 8 = Xi S 904 8 := (show Xi T1 904 8 = Xi S 904 8 from w23.x _ _ rfl)
              exact ⟨hHT1, hFT1, _, rfl, ⟨by omega, by omega⟩, (by first | (have u := t65; exact fun b => absurd b t65) | (have u := F98; intro b; obtain ⟨c1, c2, c3, c4⟩ := T98 b; rw [x77] at c2; exact ⟨n70, e70.2, by first | exact Or.inr (Or.inr (Or.inl ⟨by omega, by omega, by omega, by omega⟩)) | exact Or.inr (Or.inr (Or.inr (Or.inl ⟨by omega, by omega, by omega, by omega⟩))) | exact Or.inr (Or.inr (Or.inr (Or.inr ⟨by omega, by omega, by omega, by omega⟩)))⟩) | exact fun _ => ⟨n70, e70.2, by first | exact Or.inl ⟨by omega, by omega, by omega⟩ | exact Or.inr (Or.inl ⟨by omega, by omega, by omega⟩)⟩)⟩
          · refine y_iconst rfl ?_
            refine y_goto rfl rfl ?_
            refine y_istore_n rfl rfl rfl ?_
            refine y_iload_n rfl rfl ?_
            refine y_if_ne rfl rfl (by unfold rg; omega) (fun w30 => ?_) (fun w31 => absurd w31 (by omega))
            · refine y_aload_n rfl rfl ?_
              have n70 : Xi S 904 65 = 0 := by by_cases c : Xi S 904 65 = 0; exact c; (have := t1.2 c; omega)
              have e70 := t1.1 n70
              refine y_dup rfl rfl ?_
              refine y_gfi rfl rfl rfl rfl rfl ?_
              refine y_iconst rfl ?_
              refine y_iadd rfl ?_
              refine y_pfi rfl rfl rfl rfl ?_
              obtain ⟨U2, eU2⟩ : ∃ T : sS, T = uI S 904 8 (Int32.ofInt ((Xi S 904 8) + 1)) := ⟨_, rfl⟩
              rw [← eU2]
              have hHU2 : RI U2 := by rw [eU2]; exact RI_w hH
              have hFU2 : FR md_mo_placing__t S U2 := by rw [eU2]; exact FR.wI hF (mdf_i (r := (904, 905, 8, 9)) (List.mem_of_getElem? (i := 0) rfl) (inR_i (by omega) (by omega) (by omega) (by omega)))
              have w32 : Xi U2 904 8 = ((Xi S 904 8) + 1) := by rw [eU2]; exact Xi_same (by unfold rg; omega)
              have e77 := eU2
              have x77 : Xi U2 904 8 = Xi S 904 8 + 1 := by rw [e77]; exact Xi_same (by unfold rg; omega)
              refine y_iload_n rfl rfl ?_
              refine y_iconst rfl ?_
              refine y_icmp_le rfl rfl (by unfold rg; omega) (by unfold rg; omega) (fun w33 => absurd w33 (by omega)) (fun w34 => ?_)
              · refine y_aload_n rfl rfl ?_
                refine y_iload_n rfl rfl ?_
                refine y_iconst rfl ?_
                refine y_icmp_ne rfl rfl (by unfold rg; omega) (by unfold rg; omega) (fun w35 => ?_) (fun w36 => absurd w36 (by omega))
                · refine y_bipush rfl rfl ?_
                  have w39 : Xi U2 904 65 = Xi S 904 65 := (show Xi U2 904 65 = Xi S 904 65 from by rw [eU2]; exact Xi_ne (by omega))
                  refine y_callV rfl rfl rfl (t_mo_take__t hHU2 110 ⟨by omega, by omega⟩ _) ?_
                  rintro _ T3 ⟨hHT3, w44, rfl, t98⟩
                  have hFT3 : FR md_mo_placing__t S T3 := FR.tr hFU2 w44 rfl
                  show Pl _ _ _ _ _ _ [] _ _
                  have F98 := (by assumption : FR md_mo_take__t U2 T3)
                  have T98 := t98
                  rw [tkR_F7 hFU2 rfl] at T98
                  clear t98
                  refine y_iload_n rfl rfl ?_
                  refine y_ireturn rfl rfl ?_
                  exact ⟨hHT3, hFT3, _, rfl, ⟨by omega, by omega⟩, (by first | (have u := t65; exact fun b => absurd b t65) | (have u := F98; intro b; obtain ⟨c1, c2, c3, c4⟩ := T98 b; rw [x77] at c2; exact ⟨n70, e70.2, by first | exact Or.inr (Or.inr (Or.inl ⟨by omega, by omega, by omega, by omega⟩)) | exact Or.inr (Or.inr (Or.inr (Or.inl ⟨by omega, by omega, by omega, by omega⟩))) | exact Or.inr (Or.inr (Or.inr (Or.inr ⟨by omega, by omega, by omega, by omega⟩)))⟩) | exact fun _ => ⟨n70, e70.2, by first | exact Or.inl ⟨by omega, by omega, by omega⟩ | exact Or.inr (Or.inl ⟨by omega, by omega, by omega⟩)⟩)⟩
        · refine y_iconst rfl ?_
          refine y_goto rfl rfl ?_
          refine y_istore_n rfl rfl rfl ?_
          refine y_iload_n rfl rfl ?_
          refine y_if_ne rfl rfl (by unfold rg; omega) (fun w50 => ?_) (fun w51 => absurd w51 (by omega))
          · refine y_aload_n rfl rfl ?_
            have n70 : Xi S 904 65 = 0 := by by_cases c : Xi S 904 65 = 0; exact c; (have := t1.2 c; omega)
            have e70 := t1.1 n70
            refine y_dup rfl rfl ?_
            refine y_gfi rfl rfl rfl rfl rfl ?_
            refine y_iconst rfl ?_
            refine y_iadd rfl ?_
            refine y_pfi rfl rfl rfl rfl ?_
            obtain ⟨U4, eU4⟩ : ∃ T : sS, T = uI S 904 8 (Int32.ofInt ((Xi S 904 8) + 1)) := ⟨_, rfl⟩
            rw [← eU4]
            have hHU4 : RI U4 := by rw [eU4]; exact RI_w hH
            have hFU4 : FR md_mo_placing__t S U4 := by rw [eU4]; exact FR.wI hF (mdf_i (r := (904, 905, 8, 9)) (List.mem_of_getElem? (i := 0) rfl) (inR_i (by omega) (by omega) (by omega) (by omega)))
            have w52 : Xi U4 904 8 = ((Xi S 904 8) + 1) := by rw [eU4]; exact Xi_same (by unfold rg; omega)
            have e77 := eU4
            have x77 : Xi U4 904 8 = Xi S 904 8 + 1 := by rw [e77]; exact Xi_same (by unfold rg; omega)
            refine y_iload_n rfl rfl ?_
            refine y_iconst rfl ?_
            refine y_icmp_le rfl rfl (by unfold rg; omega) (by unfold rg; omega) (fun w53 => absurd w53 (by omega)) (fun w54 => ?_)
            · refine y_aload_n rfl rfl ?_
              refine y_iload_n rfl rfl ?_
              refine y_iconst rfl ?_
              refine y_icmp_ne rfl rfl (by unfold rg; omega) (by unfold rg; omega) (fun w55 => ?_) (fun w56 => absurd w56 (by omega))
              · refine y_bipush rfl rfl ?_
                have w59 : Xi U4 904 65 = Xi S 904 65 := (show Xi U4 904 65 = Xi S 904 65 from by rw [eU4]; exact Xi_ne (by omega))
                refine y_callV rfl rfl rfl (t_mo_take__t hHU4 110 ⟨by omega, by omega⟩ _) ?_
                rintro _ T5 ⟨hHT5, w64, rfl, t98⟩
                have hFT5 : FR md_mo_placing__t S T5 := FR.tr hFU4 w64 rfl
                show Pl _ _ _ _ _ _ [] _ _
                have F98 := (by assumption : FR md_mo_take__t U4 T5)
                have T98 := t98
                rw [tkR_F7 hFU4 rfl] at T98
                clear t98
                refine y_iload_n rfl rfl ?_
                refine y_ireturn rfl rfl ?_
                exact ⟨hHT5, hFT5, _, rfl, ⟨by omega, by omega⟩, (by first | (have u := t65; exact fun b => absurd b t65) | (have u := F98; intro b; obtain ⟨c1, c2, c3, c4⟩ := T98 b; rw [x77] at c2; exact ⟨n70, e70.2, by first | exact Or.inr (Or.inr (Or.inl ⟨by omega, by omega, by omega, by omega⟩)) | exact Or.inr (Or.inr (Or.inr (Or.inl ⟨by omega, by omega, by omega, by omega⟩))) | exact Or.inr (Or.inr (Or.inr (Or.inr ⟨by omega, by omega, by omega, by omega⟩)))⟩) | exact fun _ => ⟨n70, e70.2, by first | exact Or.inl ⟨by omega, by omega, by omega⟩ | exact Or.inr (Or.inl ⟨by omega, by omega, by omega⟩)⟩)⟩
      · refine y_iconst rfl ?_
        refine y_goto rfl rfl ?_
        refine y_istore_n rfl rfl rfl ?_
        refine y_iload_n rfl rfl ?_
        refine y_if_ne rfl rfl (by unfold rg; omega) (fun w70 => ?_) (fun w71 => absurd w71 (by omega))
        · refine y_aload_n rfl rfl ?_
          have n70 : Xi S 904 65 = 0 := by by_cases c : Xi S 904 65 = 0; exact c; (have := t1.2 c; omega)
          have e70 := t1.1 n70
          refine y_dup rfl rfl ?_
          refine y_gfi rfl rfl rfl rfl rfl ?_
          refine y_iconst rfl ?_
          refine y_iadd rfl ?_
          refine y_pfi rfl rfl rfl rfl ?_
          obtain ⟨U6, eU6⟩ : ∃ T : sS, T = uI S 904 8 (Int32.ofInt ((Xi S 904 8) + 1)) := ⟨_, rfl⟩
          rw [← eU6]
          have hHU6 : RI U6 := by rw [eU6]; exact RI_w hH
          have hFU6 : FR md_mo_placing__t S U6 := by rw [eU6]; exact FR.wI hF (mdf_i (r := (904, 905, 8, 9)) (List.mem_of_getElem? (i := 0) rfl) (inR_i (by omega) (by omega) (by omega) (by omega)))
          have w72 : Xi U6 904 8 = ((Xi S 904 8) + 1) := by rw [eU6]; exact Xi_same (by unfold rg; omega)
          have e77 := eU6
          have x77 : Xi U6 904 8 = Xi S 904 8 + 1 := by rw [e77]; exact Xi_same (by unfold rg; omega)
          refine y_iload_n rfl rfl ?_
          refine y_iconst rfl ?_
          refine y_icmp_le rfl rfl (by unfold rg; omega) (by unfold rg; omega) (fun w73 => absurd w73 (by omega)) (fun w74 => ?_)
          · refine y_aload_n rfl rfl ?_
            refine y_iload_n rfl rfl ?_
            refine y_iconst rfl ?_
            refine y_icmp_ne rfl rfl (by unfold rg; omega) (by unfold rg; omega) (fun w75 => absurd w75 (by omega)) (fun w76 => ?_)
            · refine y_bipush rfl rfl ?_
              refine y_goto rfl rfl ?_
              have w79 : Xi U6 904 65 = Xi S 904 65 := (show Xi U6 904 65 = Xi S 904 65 from by rw [eU6]; exact Xi_ne (by omega))
              refine y_callV rfl rfl rfl (t_mo_take__t hHU6 107 ⟨by omega, by omega⟩ _) ?_
              rintro _ T7 ⟨hHT7, w84, rfl, t98⟩
              have hFT7 : FR md_mo_placing__t S T7 := FR.tr hFU6 w84 rfl
              show Pl _ _ _ _ _ _ [] _ _
              have F98 := (by assumption : FR md_mo_take__t U6 T7)
              have T98 := t98
              rw [tkR_F7 hFU6 rfl] at T98
              clear t98
              refine y_iload_n rfl rfl ?_
              refine y_ireturn rfl rfl ?_
              exact ⟨hHT7, hFT7, _, rfl, ⟨by omega, by omega⟩, (by first | (have u := t65; exact fun b => absurd b t65) | (have u := F98; intro b; obtain ⟨c1, c2, c3, c4⟩ := T98 b; rw [x77] at c2; exact ⟨n70, e70.2, by first | exact Or.inr (Or.inr (Or.inl ⟨by omega, by omega, by omega, by omega⟩)) | exact Or.inr (Or.inr (Or.inr (Or.inl ⟨by omega, by omega, by omega, by omega⟩))) | exact Or.inr (Or.inr (Or.inr (Or.inr ⟨by omega, by omega, by omega, by omega⟩)))⟩) | exact fun _ => ⟨n70, e70.2, by first | exact Or.inl ⟨by omega, by omega, by omega⟩ | exact Or.inr (Or.inl ⟨by omega, by omega, by omega⟩)⟩)⟩
    · refine y_iconst rfl ?_
      refine y_goto rfl rfl ?_
      refine y_istore_n rfl rfl rfl ?_
      refine y_iload_n rfl rfl ?_
      refine y_if_ne rfl rfl (by unfold rg; omega) (fun w90 => ?_) (fun w91 => absurd w91 (by omega))
      · refine y_aload_n rfl rfl ?_
        have n70 : Xi S 904 65 = 0 := by by_cases c : Xi S 904 65 = 0; exact c; (have := t1.2 c; omega)
        have e70 := t1.1 n70
        refine y_dup rfl rfl ?_
        refine y_gfi rfl rfl rfl rfl rfl ?_
        refine y_iconst rfl ?_
        refine y_iadd rfl ?_
        refine y_pfi rfl rfl rfl rfl ?_
        obtain ⟨U8, eU8⟩ : ∃ T : sS, T = uI S 904 8 (Int32.ofInt ((Xi S 904 8) + 1)) := ⟨_, rfl⟩
        rw [← eU8]
        have hHU8 : RI U8 := by rw [eU8]; exact RI_w hH
        have hFU8 : FR md_mo_placing__t S U8 := by rw [eU8]; exact FR.wI hF (mdf_i (r := (904, 905, 8, 9)) (List.mem_of_getElem? (i := 0) rfl) (inR_i (by omega) (by omega) (by omega) (by omega)))
        have w92 : Xi U8 904 8 = ((Xi S 904 8) + 1) := by rw [eU8]; exact Xi_same (by unfold rg; omega)
        have e77 := eU8
        have x77 : Xi U8 904 8 = Xi S 904 8 + 1 := by rw [e77]; exact Xi_same (by unfold rg; omega)
        refine y_iload_n rfl rfl ?_
        refine y_iconst rfl ?_
        refine y_icmp_le rfl rfl (by unfold rg; omega) (by unfold rg; omega) (fun w93 => ?_) (fun w94 => absurd w94 (by omega))
        · refine y_iload_n rfl rfl ?_
          refine y_ireturn rfl rfl ?_
          have w97 : Xi U8 904 65 = Xi S 904 65 := (show Xi U8 904 65 = Xi S 904 65 from by rw [eU8]; exact Xi_ne (by omega))
          exact ⟨hHU8, hFU8, _, rfl, ⟨by omega, by omega⟩, (by first | (have u := t65; exact fun b => absurd b t65) | (have u := F98; intro b; obtain ⟨c1, c2, c3, c4⟩ := T98 b; rw [x77] at c2; exact ⟨n70, e70.2, by first | exact Or.inr (Or.inr (Or.inl ⟨by omega, by omega, by omega, by omega⟩)) | exact Or.inr (Or.inr (Or.inr (Or.inl ⟨by omega, by omega, by omega, by omega⟩))) | exact Or.inr (Or.inr (Or.inr (Or.inr ⟨by omega, by omega, by omega, by omega⟩)))⟩) | exact fun _ => ⟨n70, e70.2, by first | exact Or.inl ⟨by omega, by omega, by omega⟩ | exact Or.inr (Or.inl ⟨by omega, by omega, by omega⟩)⟩)⟩
  · refine y_iconst rfl ?_
    refine y_goto rfl rfl ?_
    refine y_istore_n rfl rfl rfl ?_
    refine y_iload_n rfl rfl ?_
    refine y_if_ne rfl rfl (by unfold rg; omega) (fun w101 => ?_) (fun w102 => absurd w102 (by omega))
    · refine y_aload_n rfl rfl ?_
      have n70 : Xi S 904 65 = 0 := by by_cases c : Xi S 904 65 = 0; exact c; (have := t1.2 c; omega)
      have e70 := t1.1 n70
      refine y_dup rfl rfl ?_
      refine y_gfi rfl rfl rfl rfl rfl ?_
      refine y_iconst rfl ?_
      refine y_iadd rfl ?_
      refine y_pfi rfl rfl rfl rfl ?_
      obtain ⟨U9, eU9⟩ : ∃ T : sS, T = uI S 904 8 (Int32.ofInt ((Xi S 904 8) + 1)) := ⟨_, rfl⟩
      rw [← eU9]
      have hHU9 : RI U9 := by rw [eU9]; exact RI_w hH
      have hFU9 : FR md_mo_placing__t S U9 := by rw [eU9]; exact FR.wI hF (mdf_i (r := (904, 905, 8, 9)) (List.mem_of_getElem? (i := 0) rfl) (inR_i (by omega) (by omega) (by omega) (by omega)))
      have w103 : Xi U9 904 8 = ((Xi S 904 8) + 1) := by rw [eU9]; exact Xi_same (by unfold rg; omega)
      have e77 := eU9
      have x77 : Xi U9 904 8 = Xi S 904 8 + 1 := by rw [e77]; exact Xi_same (by unfold rg; omega)
      refine y_iload_n rfl rfl ?_
      refine y_iconst rfl ?_
      refine y_icmp_le rfl rfl (by unfold rg; omega) (by unfold rg; omega) (fun w104 => ?_) (fun w105 => absurd w105 (by omega))
      · refine y_iload_n rfl rfl ?_
        refine y_ireturn rfl rfl ?_
        have w108 : Xi U9 904 65 = Xi S 904 65 := (show Xi U9 904 65 = Xi S 904 65 from by rw [eU9]; exact Xi_ne (by omega))
        exact ⟨hHU9, hFU9, _, rfl, ⟨by omega, by omega⟩, (by first | (have u := t65; exact fun b => absurd b t65) | (have u := F98; intro b; obtain ⟨c1, c2, c3, c4⟩ := T98 b; rw [x77] at c2; exact ⟨n70, e70.2, by first | exact Or.inr (Or.inr (Or.inl ⟨by omega, by omega, by omega, by omega⟩)) | exact Or.inr (Or.inr (Or.inr (Or.inl ⟨by omega, by omega, by omega, by omega⟩))) | exact Or.inr (Or.inr (Or.inr (Or.inr ⟨by omega, by omega, by omega, by omega⟩)))⟩) | exact fun _ => ⟨n70, e70.2, by first | exact Or.inl ⟨by omega, by omega, by omega⟩ | exact Or.inr (Or.inl ⟨by omega, by omega, by omega⟩)⟩)⟩
def md_mo_what__t : List rec := [(904, 905, 8, 9), (904, 905, 65, 66), (904, 905, 66, 67), (904, 905, 69, 70), (904, 905, 78, 79), (950, 951, 0, 100000), (951, 952, 0, 100000)]
abbrev Q_mo_what__t (S : sS) : pst := fun r S1 => RI S1 ∧ FR md_mo_what__t S S1 ∧ (r = none ∧ (Xi S1 904 65 = 0 → Xi S 904 65 = 0 ∧ (0 ≤ Xi S 904 8 ∧ Xi S 904 8 ≤ 5001) ∧ WHE (tkR S) S1 (Xi S 904 8) (Xi S1 904 8) (Xi S1 904 69 - 1)) ∧ (Xi S1 904 78 = Xi S 904 8) ∧ (RUNK S S1))
set_option maxRecDepth 100000 in
theorem t_mo_what__t {S : sS} (hH : RI S) (d : Nat) : Mp lay0 (d + 3) m_mo_what [.ref 904] S (Q_mo_what__t S) := by
  refine Mp_R rfl rfl (fun fu => ?_)
  have hF : FR md_mo_what__t S S := FR.rf
  have w1 : -2147483648 ≤ Xi S 904 100 ∧ Xi S 904 100 ≤ 2147483647 := Xi_rgI
  have w2 : -2147483648 ≤ Xi S 904 101 ∧ Xi S 904 101 ≤ 2147483647 := Xi_rgI
  have w3 : -2147483648 ≤ Xi S 904 65 ∧ Xi S 904 65 ≤ 2147483647 := Xi_rgI
  have w4 : -2147483648 ≤ Xi S 904 69 ∧ Xi S 904 69 ≤ 2147483647 := Xi_rgI
  have w5 : -2147483648 ≤ Xi S 904 78 ∧ Xi S 904 78 ≤ 2147483647 := Xi_rgI
  have w6 : -2147483648 ≤ Xi S 904 8 ∧ Xi S 904 8 ≤ 2147483647 := Xi_rgI
  have w7 : -2147483648 ≤ Xi S 904 93 ∧ Xi S 904 93 ≤ 2147483647 := Xi_rgI
  have w8 : -2147483648 ≤ Xi S 904 99 ∧ Xi S 904 99 ≤ 2147483647 := Xi_rgI
  refine y_aload_n rfl rfl ?_
  refine y_aload_n rfl rfl ?_
  refine y_gfi rfl rfl rfl rfl rfl ?_
  refine y_pfi rfl rfl rfl rfl ?_
  obtain ⟨U1, eU1⟩ : ∃ T : sS, T = uI S 904 78 (Int32.ofInt (Xi S 904 8)) := ⟨_, rfl⟩
  rw [← eU1]
  have hHU1 : RI U1 := by rw [eU1]; exact RI_w hH
  have hFU1 : FR md_mo_what__t S U1 := by rw [eU1]; exact FR.wI hF (mdf_i (r := (904, 905, 78, 79)) (List.mem_of_getElem? (i := 4) rfl) (inR_i (by omega) (by omega) (by omega) (by omega)))
  have w9 : Xi U1 904 78 = (Xi S 904 8) := by rw [eU1]; exact Xi_same (by unfold rg; omega)
  have e5 := eU1
  have a5 : Xi U1 904 8 = Xi S 904 8 := by rw [e5, Xi_ne (by omega)]
  have x5a : Xi U1 904 65 = Xi S 904 65 := by rw [e5, Xi_ne (by omega)]
  have x5b : Xi U1 904 69 = Xi S 904 69 := by rw [e5, Xi_ne (by omega)]
  have w5 : Xi U1 904 78 = Xi S 904 8 := by rw [e5]; exact Xi_same (by unfold rg; omega)
  have h5 := tkR_F7 hFU1 rfl
  refine y_aload_n rfl rfl ?_
  have w12 : Xi U1 904 65 = Xi S 904 65 := (show Xi U1 904 65 = Xi S 904 65 from by rw [eU1]; exact Xi_ne (by omega))
  have w14 : Xi U1 904 8 = Xi S 904 8 := (show Xi U1 904 8 = Xi S 904 8 from by rw [eU1]; exact Xi_ne (by omega))
  refine y_callV rfl rfl rfl (t_mo_look__t hHU1 _) ?_
  rintro _ _ ⟨rfl, z17, rfl, w17, t9⟩
  show Pl _ _ _ _ _ _ [iv z17] _ _
  have T9 := t9
  rw [h5, a5, x5a] at T9
  clear t9
  refine y_istore_n rfl rfl rfl ?_
  refine y_iload_n rfl rfl ?_
  refine y_iconst rfl ?_
  refine y_icmp_eq rfl rfl (by unfold rg; omega) (by unfold rg; omega) (fun w18 => ?_) (fun w19 => ?_)
  · refine y_aload_n rfl rfl ?_
    have n23 : Xi S 904 65 = 0 := by by_cases c : Xi S 904 65 = 0; exact c; (have := T9.2 c; omega)
    have e23 := T9.1 n23
    refine y_dup rfl rfl ?_
    refine y_gfi rfl rfl rfl rfl rfl ?_
    have w20 : (Xi U1 904 8) = (Xi S 904 8) := (show Xi U1 904 8 = Xi S 904 8 from by rw [eU1]; exact Xi_ne (by omega))
    rw [w20]
    refine y_iconst rfl ?_
    refine y_iadd rfl ?_
    refine y_pfi rfl rfl rfl rfl ?_
    obtain ⟨U2, eU2⟩ : ∃ T : sS, T = uI U1 904 8 (Int32.ofInt ((Xi S 904 8) + 1)) := ⟨_, rfl⟩
    rw [← eU2]
    have hHU2 : RI U2 := by rw [eU2]; exact RI_w hHU1
    have hFU2 : FR md_mo_what__t S U2 := by rw [eU2]; exact FR.wI hFU1 (mdf_i (r := (904, 905, 8, 9)) (List.mem_of_getElem? (i := 0) rfl) (inR_i (by omega) (by omega) (by omega) (by omega)))
    have w21 : Xi U2 904 8 = ((Xi S 904 8) + 1) := by rw [eU2]; exact Xi_same (by unfold rg; omega)
    have e30 := eU2
    refine y_goto rfl rfl ?_
    refine y_return rfl rfl ?_
    have w22 : Xi U2 904 100 = Xi S 904 100 := (show Xi U2 904 100 = Xi U1 904 100 from by rw [eU2]; exact Xi_ne (by omega)).trans ((show Xi U1 904 100 = Xi S 904 100 from by rw [eU1]; exact Xi_ne (by omega)))
    have w23 : Xi U2 904 101 = Xi S 904 101 := (show Xi U2 904 101 = Xi U1 904 101 from by rw [eU2]; exact Xi_ne (by omega)).trans ((show Xi U1 904 101 = Xi S 904 101 from by rw [eU1]; exact Xi_ne (by omega)))
    have w24 : Xi U2 904 65 = Xi S 904 65 := (show Xi U2 904 65 = Xi U1 904 65 from by rw [eU2]; exact Xi_ne (by omega)).trans ((show Xi U1 904 65 = Xi S 904 65 from by rw [eU1]; exact Xi_ne (by omega)))
    have w25 : Xi U2 904 69 = Xi S 904 69 := (show Xi U2 904 69 = Xi U1 904 69 from by rw [eU2]; exact Xi_ne (by omega)).trans ((show Xi U1 904 69 = Xi S 904 69 from by rw [eU1]; exact Xi_ne (by omega)))
    have w26 : Xi U2 904 78 = Xi U1 904 78 := (show Xi U2 904 78 = Xi U1 904 78 from by rw [eU2]; exact Xi_ne (by omega))
    have w27 : Xi U2 904 93 = Xi S 904 93 := (show Xi U2 904 93 = Xi U1 904 93 from by rw [eU2]; exact Xi_ne (by omega)).trans ((show Xi U1 904 93 = Xi S 904 93 from by rw [eU1]; exact Xi_ne (by omega)))
    have w28 : Xi U2 904 99 = Xi S 904 99 := (show Xi U2 904 99 = Xi U1 904 99 from by rw [eU2]; exact Xi_ne (by omega)).trans ((show Xi U1 904 99 = Xi S 904 99 from by rw [eU1]; exact Xi_ne (by omega)))
    exact ⟨hHU2, hFU2, rfl, (by first | (have u := F37; intro b; obtain ⟨c1, c2, c3, c4, c5, c6⟩ := T37 b; have u := T9.1 (by omega); exact ⟨by omega, c2, Or.inr ⟨by omega, by omega, c3, by rw [show Xi U2 904 69 - 1 = Xi S 904 69 by omega, ← x5b, ← c4]; exact c6⟩⟩) | (have u := n23; exact fun _ => ⟨n23, e23.2, Or.inl ⟨by omega, by omega⟩⟩)), (by first | (have u := F37; rw [F37.x 904 78 rfl]; exact w5) | (rw [e30, Xi_ne (by omega)]; exact w5)), (by first | (have u := F37; exact RUNK.tr (runk_w e5 (by omega) RUNK.rf) k37) | exact runk_w e30 (by omega) (runk_w e5 (by omega) RUNK.rf))⟩
  · refine y_iload_n rfl rfl ?_
    refine y_iconst rfl ?_
    refine y_icmp_ne rfl rfl (by unfold rg; omega) (by unfold rg; omega) (fun w29 => ?_) (fun w30 => ?_)
    · refine y_aload_n rfl rfl ?_
      refine y_callV rfl rfl rfl (t_mo_run__t hHU1 _) ?_
      rintro _ T3 ⟨hHT3, w39, z38, rfl, w38, t37, k37⟩
      have hFT3 : FR md_mo_what__t S T3 := FR.tr hFU1 w39 rfl
      show Pl _ _ _ _ _ _ [iv z38] _ _
      have F37 := (by assumption : FR md_mo_run__t U1 T3)
      have T37 := t37
      unfold RNT at T37
      rw [h5, a5, x5a] at T37
      clear t37
      refine y_pop rfl rfl ?_
      refine y_return rfl rfl ?_
      have w40 : Xi T3 904 100 = Xi S 904 100 := (show Xi T3 904 100 = Xi U1 904 100 from w39.x _ _ rfl).trans ((show Xi U1 904 100 = Xi S 904 100 from by rw [eU1]; exact Xi_ne (by omega)))
      have w41 : Xi T3 904 101 = Xi S 904 101 := (show Xi T3 904 101 = Xi U1 904 101 from w39.x _ _ rfl).trans ((show Xi U1 904 101 = Xi S 904 101 from by rw [eU1]; exact Xi_ne (by omega)))
      have w42 : Xi T3 904 78 = Xi U1 904 78 := (show Xi T3 904 78 = Xi U1 904 78 from w39.x _ _ rfl)
      have w43 : Xi T3 904 93 = Xi S 904 93 := (show Xi T3 904 93 = Xi U1 904 93 from w39.x _ _ rfl).trans ((show Xi U1 904 93 = Xi S 904 93 from by rw [eU1]; exact Xi_ne (by omega)))
      have w44 : Xi T3 904 99 = Xi S 904 99 := (show Xi T3 904 99 = Xi U1 904 99 from w39.x _ _ rfl).trans ((show Xi U1 904 99 = Xi S 904 99 from by rw [eU1]; exact Xi_ne (by omega)))
      exact ⟨hHT3, hFT3, rfl, (by first | (have u := F37; intro b; obtain ⟨c1, c2, c3, c4, c5, c6⟩ := T37 b; have u := T9.1 (by omega); exact ⟨by omega, c2, Or.inr ⟨by omega, by omega, c3, by rw [show Xi T3 904 69 - 1 = Xi S 904 69 by omega, ← x5b, ← c4]; exact c6⟩⟩) | (have u := n23; exact fun _ => ⟨n23, e23.2, Or.inl ⟨by omega, by omega⟩⟩)), (by first | (have u := F37; rw [F37.x 904 78 rfl]; exact w5) | (rw [e30, Xi_ne (by omega)]; exact w5)), (by first | (have u := F37; exact RUNK.tr (runk_w e5 (by omega) RUNK.rf) k37) | exact runk_w e30 (by omega) (runk_w e5 (by omega) RUNK.rf))⟩
    · refine y_aload_n rfl rfl ?_
      have n23 : Xi S 904 65 = 0 := by by_cases c : Xi S 904 65 = 0; exact c; (have := T9.2 c; omega)
      have e23 := T9.1 n23
      refine y_dup rfl rfl ?_
      refine y_gfi rfl rfl rfl rfl rfl ?_
      have w45 : (Xi U1 904 8) = (Xi S 904 8) := (show Xi U1 904 8 = Xi S 904 8 from by rw [eU1]; exact Xi_ne (by omega))
      rw [w45]
      refine y_iconst rfl ?_
      refine y_iadd rfl ?_
      refine y_pfi rfl rfl rfl rfl ?_
      obtain ⟨U4, eU4⟩ : ∃ T : sS, T = uI U1 904 8 (Int32.ofInt ((Xi S 904 8) + 1)) := ⟨_, rfl⟩
      rw [← eU4]
      have hHU4 : RI U4 := by rw [eU4]; exact RI_w hHU1
      have hFU4 : FR md_mo_what__t S U4 := by rw [eU4]; exact FR.wI hFU1 (mdf_i (r := (904, 905, 8, 9)) (List.mem_of_getElem? (i := 0) rfl) (inR_i (by omega) (by omega) (by omega) (by omega)))
      have w46 : Xi U4 904 8 = ((Xi S 904 8) + 1) := by rw [eU4]; exact Xi_same (by unfold rg; omega)
      have e30 := eU4
      refine y_goto rfl rfl ?_
      refine y_return rfl rfl ?_
      have w47 : Xi U4 904 100 = Xi S 904 100 := (show Xi U4 904 100 = Xi U1 904 100 from by rw [eU4]; exact Xi_ne (by omega)).trans ((show Xi U1 904 100 = Xi S 904 100 from by rw [eU1]; exact Xi_ne (by omega)))
      have w48 : Xi U4 904 101 = Xi S 904 101 := (show Xi U4 904 101 = Xi U1 904 101 from by rw [eU4]; exact Xi_ne (by omega)).trans ((show Xi U1 904 101 = Xi S 904 101 from by rw [eU1]; exact Xi_ne (by omega)))
      have w49 : Xi U4 904 65 = Xi S 904 65 := (show Xi U4 904 65 = Xi U1 904 65 from by rw [eU4]; exact Xi_ne (by omega)).trans ((show Xi U1 904 65 = Xi S 904 65 from by rw [eU1]; exact Xi_ne (by omega)))
      have w50 : Xi U4 904 69 = Xi S 904 69 := (show Xi U4 904 69 = Xi U1 904 69 from by rw [eU4]; exact Xi_ne (by omega)).trans ((show Xi U1 904 69 = Xi S 904 69 from by rw [eU1]; exact Xi_ne (by omega)))
      have w51 : Xi U4 904 78 = Xi U1 904 78 := (show Xi U4 904 78 = Xi U1 904 78 from by rw [eU4]; exact Xi_ne (by omega))
      have w52 : Xi U4 904 93 = Xi S 904 93 := (show Xi U4 904 93 = Xi U1 904 93 from by rw [eU4]; exact Xi_ne (by omega)).trans ((show Xi U1 904 93 = Xi S 904 93 from by rw [eU1]; exact Xi_ne (by omega)))
      have w53 : Xi U4 904 99 = Xi S 904 99 := (show Xi U4 904 99 = Xi U1 904 99 from by rw [eU4]; exact Xi_ne (by omega)).trans ((show Xi U1 904 99 = Xi S 904 99 from by rw [eU1]; exact Xi_ne (by omega)))
      exact ⟨hHU4, hFU4, rfl, (by first | (have u := F37; intro b; obtain ⟨c1, c2, c3, c4, c5, c6⟩ := T37 b; have u := T9.1 (by omega); exact ⟨by omega, c2, Or.inr ⟨by omega, by omega, c3, by rw [show Xi U4 904 69 - 1 = Xi S 904 69 by omega, ← x5b, ← c4]; exact c6⟩⟩) | (have u := n23; exact fun _ => ⟨n23, e23.2, Or.inl ⟨by omega, by omega⟩⟩)), (by first | (have u := F37; rw [F37.x 904 78 rfl]; exact w5) | (rw [e30, Xi_ne (by omega)]; exact w5)), (by first | (have u := F37; exact RUNK.tr (runk_w e5 (by omega) RUNK.rf) k37) | exact runk_w e30 (by omega) (runk_w e5 (by omega) RUNK.rf))⟩
end
