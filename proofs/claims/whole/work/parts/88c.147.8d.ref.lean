section
/-! the reference's world: what is told -/
/-- a text is the same as another -/
def smR (S : sS) (t : Nat) (a b : Int) : Nat → Int → Int
  | 0, _ => 1
  | n + 1, i => if Xi S t (a + i).toNat = Xi S t (b + i).toNat then smR S t a b n (i + 1) else 0
def sameR (S : sS) (a n b m : Int) : Int := if n = m then smR S 906 a b n.toNat 0 else 0
theorem smR_e {S : sS} {t : Nat} {a b n i : Int} (h : n ≤ i) : smR S t a b (n - i).toNat i = 1 := by rw [tn_z h]; rfl
theorem smR_s {S : sS} {t : Nat} {a b n i : Int} (hi : i < n) (h : Xi S t (a + i).toNat = Xi S t (b + i).toNat) : smR S t a b (n - i).toNat i = smR S t a b (n - (i + 1)).toNat (i + 1) := by
  rw [tn_s hi]; show (if _ then _ else _) = _; rw [if_pos h]
theorem smR_f {S : sS} {t : Nat} {a b n i : Int} (hi : i < n) (h : Xi S t (a + i).toNat ≠ Xi S t (b + i).toNat) : smR S t a b (n - i).toNat i = 0 := by
  rw [tn_s hi]; show (if _ then _ else _) = _; rw [if_neg h]
/-- a property of an object (930 .. 932) or of a kind (933 .. 935) is told: c = 930 or 933 -/
def otwR (S : sS) (p w wl v l : Int) : Prop := (Xi S 928 p.toNat = 1 → sameR S w wl v l = 0) ∧ (Xi S 928 p.toNat ≠ 1 → w ≠ v)
def tPR (S : sS) (c : Nat) (k v l : Int) : sS := uI (uI (uI S c k.toNat (Int32.ofInt 1)) (c + 1) k.toNat (Int32.ofInt v)) (c + 2) k.toNat (Int32.ofInt l)
def TPR1 (S S1 : sS) (z : Int) (c : Nat) (r p v l : Int) : Prop := ((Xi S c (12 * r + p).toNat ≠ 0 ∧ otwR S p (Xi S (c + 1) (12 * r + p).toNat) (Xi S (c + 2) (12 * r + p).toNat) v l) → z = 0 ∧ S1 = S) ∧ (¬ (Xi S c (12 * r + p).toNat ≠ 0 ∧ otwR S p (Xi S (c + 1) (12 * r + p).toNat) (Xi S (c + 2) (12 * r + p).toNat) v l) → z = 1 ∧ S1 = tPR S c (12 * r + p) v l)
def TRD (S S1 : sS) (z o a i : Int) : Prop := (a < 100 → TISR S S1 z 925 (24 * o) a i) ∧ (100 ≤ a → TPR1 S S1 z 930 o (a % 100) (a / 100 - 1) 0)
def wiN (S : sS) (h : Int) : Nat → Int → Int
  | 0, _ => 0
  | n + 1, x => if x = -1 then 0 else if x = h then 1 else wiN S h n (if Xi S 919 x.toNat = 0 then -1 else Xi S 920 x.toNat)
def wiR (S : sS) (o h : Int) : Int := wiN S h 25 o
theorem wiN_e {S : sS} {h x i : Int} (q : x = -1 ∨ 25 ≤ i) : wiN S h (25 - i).toNat x = 0 := by
  by_cases w : 25 ≤ i
  · rw [tn_z w]; rfl
  · rw [tn_s (by omega)]; show (if _ then _ else _) = _; rw [if_pos (by omega)]
theorem wiN_f {S : sS} {h x i : Int} (h1 : x ≠ -1) (hi : i < 25) (e : x = h) : wiN S h (25 - i).toNat x = 1 := by
  rw [tn_s hi]; show (if _ then _ else _) = _; rw [if_neg h1, if_pos e]
theorem wiN_s {S : sS} {h x i : Int} (h1 : x ≠ -1) (hi : i < 25) (e : x ≠ h) : wiN S h (25 - i).toNat x = wiN S h (25 - (i + 1)).toNat (if Xi S 919 x.toNat = 0 then -1 else Xi S 920 x.toNat) := by
  rw [tn_s hi]; show (if _ then _ else (if _ then _ else _)) = _; rw [if_neg h1, if_neg e]
/-- an object is placed -/
def PLBR (S S1 : sS) (o t : Int) : Prop :=
  ((blR S (Xi S 918 o.toNat) 0 = 0 ∨ (Xi S 919 o.toNat ≠ 0 ∧ (Xi S 919 o.toNat ≠ Xi S 904 73 ∨ Xi S 920 o.toNat ≠ rnR S (Xi S 904 74) 4))) → NTB (NT3 S1) 5 (Xi S 908 t.toNat)) ∧
  (¬ (blR S (Xi S 918 o.toNat) 0 = 0 ∨ (Xi S 919 o.toNat ≠ 0 ∧ (Xi S 919 o.toNat ≠ Xi S 904 73 ∨ Xi S 920 o.toNat ≠ rnR S (Xi S 904 74) 4))) → wiR S (rnR S (Xi S 904 74) 4) o ≠ 0 → NTB (NT3 S1) 6 (Xi S 908 t.toNat)) ∧
  (¬ (blR S (Xi S 918 o.toNat) 0 = 0 ∨ (Xi S 919 o.toNat ≠ 0 ∧ (Xi S 919 o.toNat ≠ Xi S 904 73 ∨ Xi S 920 o.toNat ≠ rnR S (Xi S 904 74) 4))) → wiR S (rnR S (Xi S 904 74) 4) o = 0 → S1 = uI (uI S 919 o.toNat (Int32.ofInt (Xi S 904 73))) 920 o.toNat (Int32.ofInt (rnR S (Xi S 904 74) 4)))

abbrev Q_mo_isSameText__p (S : sS) (a : Int) (n : Int) (b : Int) (m : Int) : pst := fun r S1 => S = S1 ∧ (∃ z : Int, r = some (iv z) ∧ (0 ≤ z ∧ z ≤ 1) ∧ (z = sameR S a n b m))
set_option maxRecDepth 100000 in
theorem t_mo_isSameText__p {S : sS} (hH : RI S) (a : Int) (n : Int) (b : Int) (m : Int) (ha : -2147483648 ≤ a ∧ a ≤ 2147483647) (hn : -2147483648 ≤ n ∧ n ≤ 2147483647) (hb : -2147483648 ≤ b ∧ b ≤ 2147483647) (hm : -2147483648 ≤ m ∧ m ≤ 2147483647) (d : Nat) : Mp lay0 (d + 1) m_mo_isSameText [.ref 904, iv a, iv n, iv b, iv m] S (Q_mo_isSameText__p S a n b m) := by
  refine Mp_R rfl rfl (fun fu => ?_)
  have C16 : ∀ (n16 : Nat) (_ : n16 ≤ fu) (v5 : Int) (v6 : Int), (0 ≤ v5 ∧ v5 ≤ 1) → (0 ≤ v6 ∧ v6 ≤ 5001) → (0 ≤ v6 ∧ v6 ≤ 5000) → (0 ≤ v5 ∧ v5 ≤ 1) → (v6 = 0 ∨ (0 ≤ a ∧ a + v6 ≤ 5000 ∧ 0 ≤ b ∧ b + v6 ≤ 5000)) → ((v5 = 0 ∧ sameR S a n b m = 0) ∨ (v5 = 1 ∧ sameR S a n b m = smR S 906 a b (n - v6).toNat v6)) → Pl n16 lay0 (d + 0) m_mo_isSameText 16 [(0, .ref 904), (1, iv a), (2, iv n), (3, iv b), (5, iv v5), (6, iv v6)] [] S (Q_mo_isSameText__p S a n b m) := by
    intro n16
    induction n16 with
    | zero => intros; exact Pl_0
    | succ n16 ih16 =>
      intro hm16 v5 v6 w1 w2 w3 w4 w5 h16
      refine ys_iload rfl rfl ?_
      refine y_iload_n rfl rfl ?_
      refine y_icmp_ge rfl rfl (by unfold rg; omega) (by unfold rg; omega) (fun w6 => ?_) (fun w7 => ?_)
      · refine y_iload rfl rfl ?_
        refine y_ireturn rfl (retI_z (by omega)) ?_
        exact ⟨rfl, _, rfl, ⟨by omega, by omega⟩, (by have t := h16; rcases t with ⟨t1, t2⟩ | ⟨t1, t2⟩; (rw [t1, t2]); (rw [t1, t2]; first | exact (smR_e (by omega)).symm | (exfalso; omega)))⟩
      · refine y_iload rfl rfl ?_
        refine y_if_eq rfl rfl (by unfold rg; omega) (fun w8 => ?_) (fun w9 => ?_)
        · refine y_iload rfl rfl ?_
          refine y_ireturn rfl (retI_z (by omega)) ?_
          exact ⟨rfl, _, rfl, ⟨by omega, by omega⟩, (by have t := h16; rcases t with ⟨t1, t2⟩ | ⟨t1, t2⟩; (rw [t1, t2]); (rw [t1, t2]; first | exact (smR_e (by omega)).symm | (exfalso; omega)))⟩
        · refine y_aload_n rfl rfl ?_
          refine y_gfr rfl rfl rfl rfl rfl (hH.r 904 2 906 rfl) ?_
          refine y_iload_n rfl rfl ?_
          refine y_iload rfl rfl ?_
          refine y_iadd rfl ?_
          refine y_baloadP (n := 5000) rfl rfl rfl (by decide) (by unfold rg; omega) (fun w10 w11 => ?_)
          have w12 : -2147483648 ≤ (Xi S 906 (((a + v6)).toNat)) ∧ (Xi S 906 (((a + v6)).toNat)) ≤ 2147483647 := Xi_rgI
          refine y_aload_n rfl rfl ?_
          refine y_gfr rfl rfl rfl rfl rfl (hH.r 904 2 906 rfl) ?_
          refine y_iload_n rfl rfl ?_
          refine y_iload rfl rfl ?_
          refine y_iadd rfl ?_
          refine y_baloadP (n := 5000) rfl rfl rfl (by decide) (by unfold rg; omega) (fun w13 w14 => ?_)
          have w15 : -2147483648 ≤ (Xi S 906 (((b + v6)).toNat)) ∧ (Xi S 906 (((b + v6)).toNat)) ≤ 2147483647 := Xi_rgI
          refine y_icmp_ne rfl rfl (by unfold rg; omega) (by unfold rg; omega) (fun w16 => ?_) (fun w17 => ?_)
          · refine y_iconst rfl ?_
            refine y_istore rfl rfl rfl ?_
            refine y_iinc rfl rfl rfl rfl ?_
            have G55 : ((0 : Int) = 0 ∧ sameR S a n b m = 0) ∨ ((0 : Int) = 1 ∧ sameR S a n b m = smR S 906 a b (n - (v6 + 1)).toNat (v6 + 1)) := by have t := h16; rcases t with ⟨t1, t2⟩ | ⟨t1, t2⟩; (exfalso; omega); first | exact Or.inr ⟨rfl, t2.trans (smR_s (by omega) (by omega))⟩ | exact Or.inl ⟨rfl, t2.trans (smR_f (by omega) (by omega))⟩
            refine y_goto rfl rfl ?_
            exact Pl_weak (ih16 (by omega) (0) ((v6 + 1)) (by omega) (by omega) (by omega) (by omega) (by omega) (by first | exact G55 | (unfold sameR; first | (rw [if_pos (by omega), Int.sub_zero]; exact Or.inr ⟨rfl, rfl⟩) | (rw [if_neg (by omega)]; exact Or.inl ⟨rfl, rfl⟩)))) (by omega) (And.intro rfl (And.intro rfl (And.intro rfl (And.intro rfl (And.intro rfl (And.intro rfl (True.intro)))))))
          · refine y_iconst rfl ?_
            refine y_goto rfl rfl ?_
            refine y_istore rfl rfl rfl ?_
            refine y_iinc rfl rfl rfl rfl ?_
            have G55 : ((1 : Int) = 0 ∧ sameR S a n b m = 0) ∨ ((1 : Int) = 1 ∧ sameR S a n b m = smR S 906 a b (n - (v6 + 1)).toNat (v6 + 1)) := by have t := h16; rcases t with ⟨t1, t2⟩ | ⟨t1, t2⟩; (exfalso; omega); first | exact Or.inr ⟨rfl, t2.trans (smR_s (by omega) (by omega))⟩ | exact Or.inl ⟨rfl, t2.trans (smR_f (by omega) (by omega))⟩
            refine y_goto rfl rfl ?_
            exact Pl_weak (ih16 (by omega) (1) ((v6 + 1)) (by omega) (by omega) (by omega) (by omega) (by omega) (by first | exact G55 | (unfold sameR; first | (rw [if_pos (by omega), Int.sub_zero]; exact Or.inr ⟨rfl, rfl⟩) | (rw [if_neg (by omega)]; exact Or.inl ⟨rfl, rfl⟩)))) (by omega) (And.intro rfl (And.intro rfl (And.intro rfl (And.intro rfl (And.intro rfl (And.intro rfl (True.intro)))))))
  refine y_iload_n rfl rfl ?_
  refine y_iload rfl rfl ?_
  refine y_icmp_ne rfl rfl (by unfold rg; omega) (by unfold rg; omega) (fun w18 => ?_) (fun w19 => ?_)
  · refine y_iconst rfl ?_
    refine y_istore rfl rfl rfl ?_
    refine y_iconst rfl ?_
    refine y_istore rfl rfl rfl ?_
    exact Pl_weak (C16 fu (by omega) (0) (0) (by omega) (by omega) (by omega) (by omega) (by omega) (by first | exact G55 | (unfold sameR; first | (rw [if_pos (by omega), Int.sub_zero]; exact Or.inr ⟨rfl, rfl⟩) | (rw [if_neg (by omega)]; exact Or.inl ⟨rfl, rfl⟩)))) (by omega) (And.intro rfl (And.intro rfl (And.intro rfl (And.intro rfl (And.intro rfl (And.intro rfl (True.intro)))))))
  · refine y_iconst rfl ?_
    refine y_goto rfl rfl ?_
    refine y_istore rfl rfl rfl ?_
    refine y_iconst rfl ?_
    refine y_istore rfl rfl rfl ?_
    exact Pl_weak (C16 fu (by omega) (1) (0) (by omega) (by omega) (by omega) (by omega) (by omega) (by first | exact G55 | (unfold sameR; first | (rw [if_pos (by omega), Int.sub_zero]; exact Or.inr ⟨rfl, rfl⟩) | (rw [if_neg (by omega)]; exact Or.inl ⟨rfl, rfl⟩)))) (by omega) (And.intro rfl (And.intro rfl (And.intro rfl (And.intro rfl (And.intro rfl (And.intro rfl (True.intro)))))))
abbrev Q_mo_tellsOtherwise__p (S : sS) (p : Int) (w : Int) (wl : Int) (v : Int) (l : Int) : pst := fun r S1 => S = S1 ∧ (∃ z : Int, r = some (iv z) ∧ (0 ≤ z ∧ z ≤ 1) ∧ ((z = 1 → otwR S p w wl v l) ∧ (z = 0 → ¬ otwR S p w wl v l)))
set_option maxRecDepth 100000 in
theorem t_mo_tellsOtherwise__p {S : sS} (hH : RI S) (p : Int) (w : Int) (wl : Int) (v : Int) (l : Int) (hp : -2147483648 ≤ p ∧ p ≤ 2147483647) (hw : -2147483648 ≤ w ∧ w ≤ 2147483647) (hwl : -2147483648 ≤ wl ∧ wl ≤ 2147483647) (hv : -2147483648 ≤ v ∧ v ≤ 2147483647) (hl : -2147483648 ≤ l ∧ l ≤ 2147483647) (d : Nat) : Mp lay0 (d + 2) m_mo_tellsOtherwise [.ref 904, iv p, iv w, iv wl, iv v, iv l] S (Q_mo_tellsOtherwise__p S p w wl v l) := by
  refine Mp_R rfl rfl (fun fu => ?_)
  refine y_aload_n rfl rfl ?_
  refine y_gfr rfl rfl rfl rfl rfl (hH.r 904 33 928 rfl) ?_
  refine y_iload_n rfl rfl ?_
  refine y_ialoadP (n := 12) rfl rfl (by unfold rg; omega) (fun w1 w2 => ?_)
  have w3 : -2147483648 ≤ (Xi S 928 ((p).toNat)) ∧ (Xi S 928 ((p).toNat)) ≤ 2147483647 := Xi_rgI
  refine y_iconst rfl ?_
  refine y_icmp_ne rfl rfl (by unfold rg; omega) (by unfold rg; omega) (fun w4 => ?_) (fun w5 => ?_)
  · refine y_iload_n rfl rfl ?_
    refine y_iload rfl rfl ?_
    refine y_icmp_eq rfl rfl (by unfold rg; omega) (by unfold rg; omega) (fun w6 => ?_) (fun w7 => ?_)
    · refine y_iconst rfl ?_
      refine y_ireturn rfl rfl ?_
      exact ⟨rfl, _, rfl, ⟨by omega, by omega⟩, (by first | (have t := f17; exact ⟨fun _ => ⟨fun _ => by omega, fun q => absurd (by omega) q⟩, fun q => by first | (exfalso; omega) | exact fun y => by have u := y.1 (by omega); omega⟩) | exact ⟨fun _ => ⟨fun q => absurd q (by omega), fun _ => by omega⟩, fun q => by first | (exfalso; omega) | exact fun y => by have u := y.2 (by omega); omega⟩)⟩
    · refine y_iconst rfl ?_
      refine y_goto rfl rfl ?_
      refine y_ireturn rfl rfl ?_
      exact ⟨rfl, _, rfl, ⟨by omega, by omega⟩, (by first | (have t := f17; exact ⟨fun _ => ⟨fun _ => by omega, fun q => absurd (by omega) q⟩, fun q => by first | (exfalso; omega) | exact fun y => by have u := y.1 (by omega); omega⟩) | exact ⟨fun _ => ⟨fun q => absurd q (by omega), fun _ => by omega⟩, fun q => by first | (exfalso; omega) | exact fun y => by have u := y.2 (by omega); omega⟩)⟩
  · refine y_aload_n rfl rfl ?_
    refine y_iload_n rfl rfl ?_
    refine y_iload_n rfl rfl ?_
    refine y_iload rfl rfl ?_
    refine y_iload rfl rfl ?_
    refine y_callV rfl rfl rfl (t_mo_isSameText__p hH w wl v l ⟨by omega, by omega⟩ ⟨by omega, by omega⟩ ⟨by omega, by omega⟩ ⟨by omega, by omega⟩ _) ?_
    rintro _ _ ⟨rfl, z8, rfl, w8, f17⟩
    show Pl _ _ _ _ _ _ [iv z8] _ _
    refine y_if_ne rfl rfl (by unfold rg; omega) (fun w9 => ?_) (fun w10 => ?_)
    · refine y_iconst rfl ?_
      refine y_goto rfl rfl ?_
      refine y_ireturn rfl rfl ?_
      exact ⟨rfl, _, rfl, ⟨by omega, by omega⟩, (by first | (have t := f17; exact ⟨fun _ => ⟨fun _ => by omega, fun q => absurd (by omega) q⟩, fun q => by first | (exfalso; omega) | exact fun y => by have u := y.1 (by omega); omega⟩) | exact ⟨fun _ => ⟨fun q => absurd q (by omega), fun _ => by omega⟩, fun q => by first | (exfalso; omega) | exact fun y => by have u := y.2 (by omega); omega⟩)⟩
    · refine y_iconst rfl ?_
      refine y_goto rfl rfl ?_
      refine y_ireturn rfl rfl ?_
      exact ⟨rfl, _, rfl, ⟨by omega, by omega⟩, (by first | (have t := f17; exact ⟨fun _ => ⟨fun _ => by omega, fun q => absurd (by omega) q⟩, fun q => by first | (exfalso; omega) | exact fun y => by have u := y.1 (by omega); omega⟩) | exact ⟨fun _ => ⟨fun q => absurd q (by omega), fun _ => by omega⟩, fun q => by first | (exfalso; omega) | exact fun y => by have u := y.2 (by omega); omega⟩)⟩
def md_mo_tellObject__p : List rec := [(930, 931, 0, 100000), (931, 932, 0, 100000), (932, 933, 0, 100000)]
abbrev Q_mo_tellObject__p (S : sS) (ro : Int) (p : Int) (v : Int) (l : Int) : pst := fun r S1 => RI S1 ∧ FR md_mo_tellObject__p S S1 ∧ (∃ z : Int, r = some (iv z) ∧ (0 ≤ z ∧ z ≤ 1) ∧ (TPR1 S S1 z 930 ro p v l))
set_option maxRecDepth 100000 in
theorem t_mo_tellObject__p {S : sS} (hH : RI S) (ro : Int) (p : Int) (v : Int) (l : Int) (hro : 0 ≤ ro ∧ ro ≤ 200) (hp : 0 ≤ p ∧ p ≤ 100) (hv : -2147483648 ≤ v ∧ v ≤ 2147483647) (hl : -2147483648 ≤ l ∧ l ≤ 2147483647) (d : Nat) : Mp lay0 (d + 3) m_mo_tellObject [.ref 904, iv ro, iv p, iv v, iv l] S (Q_mo_tellObject__p S ro p v l) := by
  refine Mp_R rfl rfl (fun fu => ?_)
  have hF : FR md_mo_tellObject__p S S := FR.rf
  refine y_bipush rfl rfl ?_
  refine y_iload_n rfl rfl ?_
  refine y_imul rfl ?_
  refine y_iload_n rfl rfl ?_
  refine y_iadd rfl ?_
  refine y_istore rfl rfl rfl ?_
  refine y_aload_n rfl rfl ?_
  refine y_gfr rfl rfl rfl rfl rfl (hH.r 904 35 930 rfl) ?_
  refine y_iload rfl rfl ?_
  refine y_baloadP (n := 288) rfl rfl rfl (by decide) (by unfold rg; omega) (fun w1 w2 => ?_)
  have w3 : -2147483648 ≤ (Xi S 930 ((((12 * ro) + p)).toNat)) ∧ (Xi S 930 ((((12 * ro) + p)).toNat)) ≤ 2147483647 := Xi_rgI
  refine y_if_eq rfl rfl (by unfold rg; omega) (fun w4 => ?_) (fun w5 => ?_)
  · refine y_aload_n rfl rfl ?_
    have N45 : Hid (¬ (Xi S 930 (12 * ro + p).toNat ≠ 0 ∧ otwR S p (Xi S 931 (12 * ro + p).toNat) (Xi S 932 (12 * ro + p).toNat) v l)) := fun q => by first | (have t := f37; exact f37.2 (by omega) q.2) | (have u := q.1; omega)
    refine y_gfr rfl rfl rfl rfl rfl (hH.r 904 35 930 rfl) ?_
    refine y_iload rfl rfl ?_
    refine y_iconst rfl ?_
    refine y_bastoreZP (n := 288) rfl rfl (by unfold rg; omega) ⟨by omega, by omega⟩ (fun w6 w7 => ?_)
    obtain ⟨U1, eU1⟩ : ∃ T : sS, T = uI S 930 ((((12 * ro) + p)).toNat) (Int32.ofInt 1) := ⟨_, rfl⟩
    rw [← eU1]
    have hHU1 : RI U1 := by rw [eU1]; exact RI_w hH
    have hFU1 : FR md_mo_tellObject__p S U1 := by rw [eU1]; exact FR.wI hF (mdf_i (r := (930, 931, 0, 100000)) (List.mem_of_getElem? (i := 0) rfl) (inR_i (by omega) (by omega) (by omega) (by omega)))
    have w8 : Xi U1 930 ((((12 * ro) + p)).toNat) = 1 := by rw [eU1]; exact Xi_same (by unfold rg; omega)
    have ee52 := eU1
    refine y_aload_n rfl rfl ?_
    refine y_gfr rfl rfl rfl rfl rfl (hHU1.r 904 36 931 rfl) ?_
    refine y_iload rfl rfl ?_
    refine y_iload_n rfl rfl ?_
    refine y_iastoreP (n := 288) rfl rfl (by unfold rg; omega) (fun w9 w10 => ?_)
    obtain ⟨U2, eU2⟩ : ∃ T : sS, T = uI U1 931 ((((12 * ro) + p)).toNat) (Int32.ofInt v) := ⟨_, rfl⟩
    rw [← eU2]
    have hHU2 : RI U2 := by rw [eU2]; exact RI_w hHU1
    have hFU2 : FR md_mo_tellObject__p S U2 := by rw [eU2]; exact FR.wI hFU1 (mdf_i (r := (931, 932, 0, 100000)) (List.mem_of_getElem? (i := 1) rfl) (inR_i (by omega) (by omega) (by omega) (by omega)))
    have w11 : Xi U2 931 ((((12 * ro) + p)).toNat) = v := by rw [eU2]; exact Xi_same (by unfold rg; omega)
    have ee60 := eU2
    refine y_aload_n rfl rfl ?_
    refine y_gfr rfl rfl rfl rfl rfl (hHU2.r 904 37 932 rfl) ?_
    refine y_iload rfl rfl ?_
    refine y_iload rfl rfl ?_
    refine y_iastoreP (n := 288) rfl rfl (by unfold rg; omega) (fun w12 w13 => ?_)
    obtain ⟨U3, eU3⟩ : ∃ T : sS, T = uI U2 932 ((((12 * ro) + p)).toNat) (Int32.ofInt l) := ⟨_, rfl⟩
    rw [← eU3]
    have hHU3 : RI U3 := by rw [eU3]; exact RI_w hHU2
    have hFU3 : FR md_mo_tellObject__p S U3 := by rw [eU3]; exact FR.wI hFU2 (mdf_i (r := (932, 933, 0, 100000)) (List.mem_of_getElem? (i := 2) rfl) (inR_i (by omega) (by omega) (by omega) (by omega)))
    have w14 : Xi U3 932 ((((12 * ro) + p)).toNat) = l := by rw [eU3]; exact Xi_same (by unfold rg; omega)
    have K69 : True := trivial
    have R69 : U3 = tPR S 930 (12 * ro + p) v l := by rw [eU3, ee60, ee52]; rfl
    refine y_iconst rfl ?_
    refine y_ireturn rfl rfl ?_
    exact ⟨hHU3, hFU3, _, rfl, ⟨by omega, by omega⟩, (by first | (have t := K69; exact ⟨fun q => absurd q N45.o, fun _ => ⟨rfl, R69⟩⟩) | exact ⟨fun _ => ⟨rfl, rfl⟩, fun q => absurd (⟨by omega, f37.1 (by omega)⟩) q⟩)⟩
  · refine y_aload_n rfl rfl ?_
    refine y_iload_n rfl rfl ?_
    refine y_aload_n rfl rfl ?_
    refine y_gfr rfl rfl rfl rfl rfl (hH.r 904 36 931 rfl) ?_
    refine y_iload rfl rfl ?_
    refine y_ialoadP (n := 288) rfl rfl (by unfold rg; omega) (fun w15 w16 => ?_)
    have w17 : -2147483648 ≤ (Xi S 931 ((((12 * ro) + p)).toNat)) ∧ (Xi S 931 ((((12 * ro) + p)).toNat)) ≤ 2147483647 := Xi_rgI
    refine y_aload_n rfl rfl ?_
    refine y_gfr rfl rfl rfl rfl rfl (hH.r 904 37 932 rfl) ?_
    refine y_iload rfl rfl ?_
    refine y_ialoadP (n := 288) rfl rfl (by unfold rg; omega) (fun w18 w19 => ?_)
    have w20 : -2147483648 ≤ (Xi S 932 ((((12 * ro) + p)).toNat)) ∧ (Xi S 932 ((((12 * ro) + p)).toNat)) ≤ 2147483647 := Xi_rgI
    refine y_iload_n rfl rfl ?_
    refine y_iload rfl rfl ?_
    refine y_callV rfl rfl rfl (t_mo_tellsOtherwise__p hH p (Xi S 931 ((((12 * ro) + p)).toNat)) (Xi S 932 ((((12 * ro) + p)).toNat)) v l ⟨by omega, by omega⟩ ⟨by omega, by omega⟩ ⟨by omega, by omega⟩ ⟨by omega, by omega⟩ ⟨by omega, by omega⟩ _) ?_
    rintro _ _ ⟨rfl, z21, rfl, w21, f37⟩
    show Pl _ _ _ _ _ _ [iv z21] _ _
    refine y_if_eq rfl rfl (by unfold rg; omega) (fun w22 => ?_) (fun w23 => ?_)
    · refine y_aload_n rfl rfl ?_
      have N45 : Hid (¬ (Xi S 930 (12 * ro + p).toNat ≠ 0 ∧ otwR S p (Xi S 931 (12 * ro + p).toNat) (Xi S 932 (12 * ro + p).toNat) v l)) := fun q => by first | (have t := f37; exact f37.2 (by omega) q.2) | (have u := q.1; omega)
      refine y_gfr rfl rfl rfl rfl rfl (hH.r 904 35 930 rfl) ?_
      refine y_iload rfl rfl ?_
      refine y_iconst rfl ?_
      refine y_bastoreZP (n := 288) rfl rfl (by unfold rg; omega) ⟨by omega, by omega⟩ (fun w24 w25 => ?_)
      obtain ⟨U4, eU4⟩ : ∃ T : sS, T = uI S 930 ((((12 * ro) + p)).toNat) (Int32.ofInt 1) := ⟨_, rfl⟩
      rw [← eU4]
      have hHU4 : RI U4 := by rw [eU4]; exact RI_w hH
      have hFU4 : FR md_mo_tellObject__p S U4 := by rw [eU4]; exact FR.wI hF (mdf_i (r := (930, 931, 0, 100000)) (List.mem_of_getElem? (i := 0) rfl) (inR_i (by omega) (by omega) (by omega) (by omega)))
      have w26 : Xi U4 930 ((((12 * ro) + p)).toNat) = 1 := by rw [eU4]; exact Xi_same (by unfold rg; omega)
      have ee52 := eU4
      refine y_aload_n rfl rfl ?_
      refine y_gfr rfl rfl rfl rfl rfl (hHU4.r 904 36 931 rfl) ?_
      refine y_iload rfl rfl ?_
      refine y_iload_n rfl rfl ?_
      refine y_iastoreP (n := 288) rfl rfl (by unfold rg; omega) (fun w27 w28 => ?_)
      obtain ⟨U5, eU5⟩ : ∃ T : sS, T = uI U4 931 ((((12 * ro) + p)).toNat) (Int32.ofInt v) := ⟨_, rfl⟩
      rw [← eU5]
      have hHU5 : RI U5 := by rw [eU5]; exact RI_w hHU4
      have hFU5 : FR md_mo_tellObject__p S U5 := by rw [eU5]; exact FR.wI hFU4 (mdf_i (r := (931, 932, 0, 100000)) (List.mem_of_getElem? (i := 1) rfl) (inR_i (by omega) (by omega) (by omega) (by omega)))
      have w29 : Xi U5 931 ((((12 * ro) + p)).toNat) = v := by rw [eU5]; exact Xi_same (by unfold rg; omega)
      have ee60 := eU5
      refine y_aload_n rfl rfl ?_
      refine y_gfr rfl rfl rfl rfl rfl (hHU5.r 904 37 932 rfl) ?_
      refine y_iload rfl rfl ?_
      refine y_iload rfl rfl ?_
      refine y_iastoreP (n := 288) rfl rfl (by unfold rg; omega) (fun w30 w31 => ?_)
      obtain ⟨U6, eU6⟩ : ∃ T : sS, T = uI U5 932 ((((12 * ro) + p)).toNat) (Int32.ofInt l) := ⟨_, rfl⟩
      rw [← eU6]
      have hHU6 : RI U6 := by rw [eU6]; exact RI_w hHU5
      have hFU6 : FR md_mo_tellObject__p S U6 := by rw [eU6]; exact FR.wI hFU5 (mdf_i (r := (932, 933, 0, 100000)) (List.mem_of_getElem? (i := 2) rfl) (inR_i (by omega) (by omega) (by omega) (by omega)))
      have w32 : Xi U6 932 ((((12 * ro) + p)).toNat) = l := by rw [eU6]; exact Xi_same (by unfold rg; omega)
      have K69 : True := trivial
      have R69 : U6 = tPR S 930 (12 * ro + p) v l := by rw [eU6, ee60, ee52]; rfl
      refine y_iconst rfl ?_
      refine y_ireturn rfl rfl ?_
      exact ⟨hHU6, hFU6, _, rfl, ⟨by omega, by omega⟩, (by first | (have t := K69; exact ⟨fun q => absurd q N45.o, fun _ => ⟨rfl, R69⟩⟩) | exact ⟨fun _ => ⟨rfl, rfl⟩, fun q => absurd (⟨by omega, f37.1 (by omega)⟩) q⟩)⟩
    · refine y_iconst rfl ?_
      refine y_ireturn rfl rfl ?_
      exact ⟨hH, hF, _, rfl, ⟨by omega, by omega⟩, (by first | (have t := K69; exact ⟨fun q => absurd q N45.o, fun _ => ⟨rfl, R69⟩⟩) | exact ⟨fun _ => ⟨rfl, rfl⟩, fun q => absurd (⟨by omega, f37.1 (by omega)⟩) q⟩)⟩
def md_mo_tellKind__p : List rec := [(933, 934, 0, 100000), (934, 935, 0, 100000), (935, 936, 0, 100000)]
abbrev Q_mo_tellKind__p (S : sS) (ro : Int) (p : Int) (v : Int) (l : Int) : pst := fun r S1 => RI S1 ∧ FR md_mo_tellKind__p S S1 ∧ (∃ z : Int, r = some (iv z) ∧ (0 ≤ z ∧ z ≤ 1) ∧ (TPR1 S S1 z 933 ro p v l))
set_option maxRecDepth 100000 in
theorem t_mo_tellKind__p {S : sS} (hH : RI S) (ro : Int) (p : Int) (v : Int) (l : Int) (hro : 0 ≤ ro ∧ ro ≤ 200) (hp : 0 ≤ p ∧ p ≤ 100) (hv : -2147483648 ≤ v ∧ v ≤ 2147483647) (hl : -2147483648 ≤ l ∧ l ≤ 2147483647) (d : Nat) : Mp lay0 (d + 3) m_mo_tellKind [.ref 904, iv ro, iv p, iv v, iv l] S (Q_mo_tellKind__p S ro p v l) := by
  refine Mp_R rfl rfl (fun fu => ?_)
  have hF : FR md_mo_tellKind__p S S := FR.rf
  refine y_bipush rfl rfl ?_
  refine y_iload_n rfl rfl ?_
  refine y_imul rfl ?_
  refine y_iload_n rfl rfl ?_
  refine y_iadd rfl ?_
  refine y_istore rfl rfl rfl ?_
  refine y_aload_n rfl rfl ?_
  refine y_gfr rfl rfl rfl rfl rfl (hH.r 904 38 933 rfl) ?_
  refine y_iload rfl rfl ?_
  refine y_baloadP (n := 192) rfl rfl rfl (by decide) (by unfold rg; omega) (fun w1 w2 => ?_)
  have w3 : -2147483648 ≤ (Xi S 933 ((((12 * ro) + p)).toNat)) ∧ (Xi S 933 ((((12 * ro) + p)).toNat)) ≤ 2147483647 := Xi_rgI
  refine y_if_eq rfl rfl (by unfold rg; omega) (fun w4 => ?_) (fun w5 => ?_)
  · refine y_aload_n rfl rfl ?_
    have N45 : Hid (¬ (Xi S 933 (12 * ro + p).toNat ≠ 0 ∧ otwR S p (Xi S 934 (12 * ro + p).toNat) (Xi S 935 (12 * ro + p).toNat) v l)) := fun q => by first | (have t := f37; exact f37.2 (by omega) q.2) | (have u := q.1; omega)
    refine y_gfr rfl rfl rfl rfl rfl (hH.r 904 38 933 rfl) ?_
    refine y_iload rfl rfl ?_
    refine y_iconst rfl ?_
    refine y_bastoreZP (n := 192) rfl rfl (by unfold rg; omega) ⟨by omega, by omega⟩ (fun w6 w7 => ?_)
    obtain ⟨U1, eU1⟩ : ∃ T : sS, T = uI S 933 ((((12 * ro) + p)).toNat) (Int32.ofInt 1) := ⟨_, rfl⟩
    rw [← eU1]
    have hHU1 : RI U1 := by rw [eU1]; exact RI_w hH
    have hFU1 : FR md_mo_tellKind__p S U1 := by rw [eU1]; exact FR.wI hF (mdf_i (r := (933, 934, 0, 100000)) (List.mem_of_getElem? (i := 0) rfl) (inR_i (by omega) (by omega) (by omega) (by omega)))
    have w8 : Xi U1 933 ((((12 * ro) + p)).toNat) = 1 := by rw [eU1]; exact Xi_same (by unfold rg; omega)
    have ee52 := eU1
    refine y_aload_n rfl rfl ?_
    refine y_gfr rfl rfl rfl rfl rfl (hHU1.r 904 39 934 rfl) ?_
    refine y_iload rfl rfl ?_
    refine y_iload_n rfl rfl ?_
    refine y_iastoreP (n := 192) rfl rfl (by unfold rg; omega) (fun w9 w10 => ?_)
    obtain ⟨U2, eU2⟩ : ∃ T : sS, T = uI U1 934 ((((12 * ro) + p)).toNat) (Int32.ofInt v) := ⟨_, rfl⟩
    rw [← eU2]
    have hHU2 : RI U2 := by rw [eU2]; exact RI_w hHU1
    have hFU2 : FR md_mo_tellKind__p S U2 := by rw [eU2]; exact FR.wI hFU1 (mdf_i (r := (934, 935, 0, 100000)) (List.mem_of_getElem? (i := 1) rfl) (inR_i (by omega) (by omega) (by omega) (by omega)))
    have w11 : Xi U2 934 ((((12 * ro) + p)).toNat) = v := by rw [eU2]; exact Xi_same (by unfold rg; omega)
    have ee60 := eU2
    refine y_aload_n rfl rfl ?_
    refine y_gfr rfl rfl rfl rfl rfl (hHU2.r 904 40 935 rfl) ?_
    refine y_iload rfl rfl ?_
    refine y_iload rfl rfl ?_
    refine y_iastoreP (n := 192) rfl rfl (by unfold rg; omega) (fun w12 w13 => ?_)
    obtain ⟨U3, eU3⟩ : ∃ T : sS, T = uI U2 935 ((((12 * ro) + p)).toNat) (Int32.ofInt l) := ⟨_, rfl⟩
    rw [← eU3]
    have hHU3 : RI U3 := by rw [eU3]; exact RI_w hHU2
    have hFU3 : FR md_mo_tellKind__p S U3 := by rw [eU3]; exact FR.wI hFU2 (mdf_i (r := (935, 936, 0, 100000)) (List.mem_of_getElem? (i := 2) rfl) (inR_i (by omega) (by omega) (by omega) (by omega)))
    have w14 : Xi U3 935 ((((12 * ro) + p)).toNat) = l := by rw [eU3]; exact Xi_same (by unfold rg; omega)
    have K69 : True := trivial
    have R69 : U3 = tPR S 933 (12 * ro + p) v l := by rw [eU3, ee60, ee52]; rfl
    refine y_iconst rfl ?_
    refine y_ireturn rfl rfl ?_
    exact ⟨hHU3, hFU3, _, rfl, ⟨by omega, by omega⟩, (by first | (have t := K69; exact ⟨fun q => absurd q N45.o, fun _ => ⟨rfl, R69⟩⟩) | exact ⟨fun _ => ⟨rfl, rfl⟩, fun q => absurd (⟨by omega, f37.1 (by omega)⟩) q⟩)⟩
  · refine y_aload_n rfl rfl ?_
    refine y_iload_n rfl rfl ?_
    refine y_aload_n rfl rfl ?_
    refine y_gfr rfl rfl rfl rfl rfl (hH.r 904 39 934 rfl) ?_
    refine y_iload rfl rfl ?_
    refine y_ialoadP (n := 192) rfl rfl (by unfold rg; omega) (fun w15 w16 => ?_)
    have w17 : -2147483648 ≤ (Xi S 934 ((((12 * ro) + p)).toNat)) ∧ (Xi S 934 ((((12 * ro) + p)).toNat)) ≤ 2147483647 := Xi_rgI
    refine y_aload_n rfl rfl ?_
    refine y_gfr rfl rfl rfl rfl rfl (hH.r 904 40 935 rfl) ?_
    refine y_iload rfl rfl ?_
    refine y_ialoadP (n := 192) rfl rfl (by unfold rg; omega) (fun w18 w19 => ?_)
    have w20 : -2147483648 ≤ (Xi S 935 ((((12 * ro) + p)).toNat)) ∧ (Xi S 935 ((((12 * ro) + p)).toNat)) ≤ 2147483647 := Xi_rgI
    refine y_iload_n rfl rfl ?_
    refine y_iload rfl rfl ?_
    refine y_callV rfl rfl rfl (t_mo_tellsOtherwise__p hH p (Xi S 934 ((((12 * ro) + p)).toNat)) (Xi S 935 ((((12 * ro) + p)).toNat)) v l ⟨by omega, by omega⟩ ⟨by omega, by omega⟩ ⟨by omega, by omega⟩ ⟨by omega, by omega⟩ ⟨by omega, by omega⟩ _) ?_
    rintro _ _ ⟨rfl, z21, rfl, w21, f37⟩
    show Pl _ _ _ _ _ _ [iv z21] _ _
    refine y_if_eq rfl rfl (by unfold rg; omega) (fun w22 => ?_) (fun w23 => ?_)
    · refine y_aload_n rfl rfl ?_
      have N45 : Hid (¬ (Xi S 933 (12 * ro + p).toNat ≠ 0 ∧ otwR S p (Xi S 934 (12 * ro + p).toNat) (Xi S 935 (12 * ro + p).toNat) v l)) := fun q => by first | (have t := f37; exact f37.2 (by omega) q.2) | (have u := q.1; omega)
      refine y_gfr rfl rfl rfl rfl rfl (hH.r 904 38 933 rfl) ?_
      refine y_iload rfl rfl ?_
      refine y_iconst rfl ?_
      refine y_bastoreZP (n := 192) rfl rfl (by unfold rg; omega) ⟨by omega, by omega⟩ (fun w24 w25 => ?_)
      obtain ⟨U4, eU4⟩ : ∃ T : sS, T = uI S 933 ((((12 * ro) + p)).toNat) (Int32.ofInt 1) := ⟨_, rfl⟩
      rw [← eU4]
      have hHU4 : RI U4 := by rw [eU4]; exact RI_w hH
      have hFU4 : FR md_mo_tellKind__p S U4 := by rw [eU4]; exact FR.wI hF (mdf_i (r := (933, 934, 0, 100000)) (List.mem_of_getElem? (i := 0) rfl) (inR_i (by omega) (by omega) (by omega) (by omega)))
      have w26 : Xi U4 933 ((((12 * ro) + p)).toNat) = 1 := by rw [eU4]; exact Xi_same (by unfold rg; omega)
      have ee52 := eU4
      refine y_aload_n rfl rfl ?_
      refine y_gfr rfl rfl rfl rfl rfl (hHU4.r 904 39 934 rfl) ?_
      refine y_iload rfl rfl ?_
      refine y_iload_n rfl rfl ?_
      refine y_iastoreP (n := 192) rfl rfl (by unfold rg; omega) (fun w27 w28 => ?_)
      obtain ⟨U5, eU5⟩ : ∃ T : sS, T = uI U4 934 ((((12 * ro) + p)).toNat) (Int32.ofInt v) := ⟨_, rfl⟩
      rw [← eU5]
      have hHU5 : RI U5 := by rw [eU5]; exact RI_w hHU4
      have hFU5 : FR md_mo_tellKind__p S U5 := by rw [eU5]; exact FR.wI hFU4 (mdf_i (r := (934, 935, 0, 100000)) (List.mem_of_getElem? (i := 1) rfl) (inR_i (by omega) (by omega) (by omega) (by omega)))
      have w29 : Xi U5 934 ((((12 * ro) + p)).toNat) = v := by rw [eU5]; exact Xi_same (by unfold rg; omega)
      have ee60 := eU5
      refine y_aload_n rfl rfl ?_
      refine y_gfr rfl rfl rfl rfl rfl (hHU5.r 904 40 935 rfl) ?_
      refine y_iload rfl rfl ?_
      refine y_iload rfl rfl ?_
      refine y_iastoreP (n := 192) rfl rfl (by unfold rg; omega) (fun w30 w31 => ?_)
      obtain ⟨U6, eU6⟩ : ∃ T : sS, T = uI U5 935 ((((12 * ro) + p)).toNat) (Int32.ofInt l) := ⟨_, rfl⟩
      rw [← eU6]
      have hHU6 : RI U6 := by rw [eU6]; exact RI_w hHU5
      have hFU6 : FR md_mo_tellKind__p S U6 := by rw [eU6]; exact FR.wI hFU5 (mdf_i (r := (935, 936, 0, 100000)) (List.mem_of_getElem? (i := 2) rfl) (inR_i (by omega) (by omega) (by omega) (by omega)))
      have w32 : Xi U6 935 ((((12 * ro) + p)).toNat) = l := by rw [eU6]; exact Xi_same (by unfold rg; omega)
      have K69 : True := trivial
      have R69 : U6 = tPR S 933 (12 * ro + p) v l := by rw [eU6, ee60, ee52]; rfl
      refine y_iconst rfl ?_
      refine y_ireturn rfl rfl ?_
      exact ⟨hHU6, hFU6, _, rfl, ⟨by omega, by omega⟩, (by first | (have t := K69; exact ⟨fun q => absurd q N45.o, fun _ => ⟨rfl, R69⟩⟩) | exact ⟨fun _ => ⟨rfl, rfl⟩, fun q => absurd (⟨by omega, f37.1 (by omega)⟩) q⟩)⟩
    · refine y_iconst rfl ?_
      refine y_ireturn rfl rfl ?_
      exact ⟨hH, hF, _, rfl, ⟨by omega, by omega⟩, (by first | (have t := K69; exact ⟨fun q => absurd q N45.o, fun _ => ⟨rfl, R69⟩⟩) | exact ⟨fun _ => ⟨rfl, rfl⟩, fun q => absurd (⟨by omega, f37.1 (by omega)⟩) q⟩)⟩
def md_mo_tellRead__p : List rec := [(925, 926, 0, 100000), (926, 927, 0, 100000), (930, 931, 0, 100000), (931, 932, 0, 100000), (932, 933, 0, 100000)]
abbrev Q_mo_tellRead__p (S : sS) (o : Int) (a : Int) (iss : Int) : pst := fun r S1 => RI S1 ∧ FR md_mo_tellRead__p S S1 ∧ (∃ z : Int, r = some (iv z) ∧ (0 ≤ z ∧ z ≤ 1) ∧ (TRD S S1 z o a iss))
set_option maxRecDepth 100000 in
theorem t_mo_tellRead__p {S : sS} (hH : RI S) (o : Int) (a : Int) (iss : Int) (ho : 0 ≤ o ∧ o ≤ 23) (ha : 0 ≤ a ∧ a ≤ 7000) (hiss : 0 ≤ iss ∧ iss ≤ 1) (hct : Hid (∀ j : Nat, -1 ≤ Xi S 922 j ∧ Xi S 922 j ≤ 23)) (d : Nat) : Mp lay0 (d + 4) m_mo_tellRead [.ref 904, iv o, iv a, iv iss] S (Q_mo_tellRead__p S o a iss) := by
  refine Mp_R rfl rfl (fun fu => ?_)
  have hF : FR md_mo_tellRead__p S S := FR.rf
  refine y_iload_n rfl rfl ?_
  refine y_bipush rfl rfl ?_
  refine y_icmp_ge rfl rfl (by unfold rg; omega) (by unfold rg; omega) (fun w1 => ?_) (fun w2 => ?_)
  · refine y_aload_n rfl rfl ?_
    refine y_iload_n rfl rfl ?_
    refine y_iload_n rfl rfl ?_
    refine y_bipush rfl rfl ?_
    refine y_iremP rfl (by omega) (by omega) (by unfold rg; omega) (by unfold rg; omega) ?_
    refine y_iload_n rfl rfl ?_
    refine y_bipush rfl rfl ?_
    refine y_idivP rfl (by omega) (by omega) (by unfold rg; omega) (by unfold rg; omega) ?_
    refine y_iconst rfl ?_
    refine y_isub rfl ?_
    refine y_iconst rfl ?_
    refine y_callV rfl rfl rfl (t_mo_tellObject__p hH o (a % 100) ((a / 100) - 1) 0 ⟨by omega, by omega⟩ ⟨by omega, by omega⟩ ⟨by omega, by omega⟩ ⟨by omega, by omega⟩ _) ?_
    rintro _ T1 ⟨hHT1, w6, z5, rfl, w5, o36⟩
    have hFT1 : FR md_mo_tellRead__p S T1 := FR.tr hF w6 rfl
    show Pl _ _ _ _ _ _ [iv z5] _ _
    refine y_ireturn rfl (retI_z (by omega)) ?_
    exact ⟨hHT1, hFT1, _, rfl, ⟨by omega, by omega⟩, (by first | (have t := K17; exact ⟨fun _ => e17, fun q => absurd q (by omega)⟩) | exact ⟨fun q => absurd q (by omega), fun _ => o36⟩)⟩
  · refine y_aload_n rfl rfl ?_
    refine y_aload_n rfl rfl ?_
    refine y_gfr rfl rfl rfl rfl rfl (hH.r 904 28 925 rfl) ?_
    refine y_bipush rfl rfl ?_
    refine y_iload_n rfl rfl ?_
    refine y_imul rfl ?_
    refine y_iload_n rfl rfl ?_
    refine y_iload_n rfl rfl ?_
    refine y_callV rfl rfl rfl (t_mo_tellIs__p hH (24 * o) a iss ⟨by omega, by omega⟩ ⟨by omega, by omega⟩ ⟨by omega, by omega⟩ (by have t := hct.o a.toNat; omega) _) ?_
    rintro _ T2 ⟨hHT2, w8, z7, rfl, w7, e17⟩
    have hFT2 : FR md_mo_tellRead__p S T2 := FR.tr hF w8 rfl
    show Pl _ _ _ _ _ _ [iv z7] _ _
    have K17 : True := trivial
    refine y_goto rfl rfl ?_
    refine y_ireturn rfl (retI_z (by omega)) ?_
    exact ⟨hHT2, hFT2, _, rfl, ⟨by omega, by omega⟩, (by first | (have t := K17; exact ⟨fun _ => e17, fun q => absurd q (by omega)⟩) | exact ⟨fun q => absurd q (by omega), fun _ => o36⟩)⟩
abbrev Q_mo_isWithin__p (S : sS) (o : Int) (h : Int) : pst := fun r S1 => S = S1 ∧ (∃ z : Int, r = some (iv z) ∧ (0 ≤ z ∧ z ≤ 1) ∧ (z = wiR S o h))
set_option maxRecDepth 100000 in
theorem t_mo_isWithin__p {S : sS} (hH : RI S) (o : Int) (h : Int) (ho : -2147483648 ≤ o ∧ o ≤ 2147483647) (hh : -2147483648 ≤ h ∧ h ≤ 2147483647) (d : Nat) : Mp lay0 (d + 1) m_mo_isWithin [.ref 904, iv o, iv h] S (Q_mo_isWithin__p S o h) := by
  refine Mp_R rfl rfl (fun fu => ?_)
  have C5 : ∀ (n5 : Nat) (_ : n5 ≤ fu) (v3 : Int) (v4 : Int), (-2147483648 ≤ v3 ∧ v3 ≤ 2147483647) → (0 ≤ v4 ∧ v4 ≤ 25) → (0 ≤ v4 ∧ v4 ≤ 25) → (wiR S o h = wiN S h (25 - v4).toNat v3) → Pl n5 lay0 (d + 0) m_mo_isWithin 5 [(0, .ref 904), (2, iv h), (3, iv v3), (4, iv v4)] [] S (Q_mo_isWithin__p S o h) := by
    intro n5
    induction n5 with
    | zero => intros; exact Pl_0
    | succ n5 ih5 =>
      intro hm5 v3 v4 w1 w2 w3 h5
      refine ys_iload rfl rfl ?_
      refine y_bipush rfl rfl ?_
      refine y_icmp_gt rfl rfl (by unfold rg; omega) (by unfold rg; omega) (fun w4 => ?_) (fun w5 => ?_)
      · refine y_iconst rfl ?_
        refine y_ireturn rfl rfl ?_
        exact ⟨rfl, _, rfl, ⟨by omega, by omega⟩, (by first | exact (h5.trans (wiN_f (by omega) (by omega) (by omega))).symm | exact (h5.trans (wiN_e (by omega))).symm)⟩
      · refine y_iload_n rfl rfl ?_
        refine y_iconst rfl ?_
        refine y_icmp_eq rfl rfl (by unfold rg; omega) (by unfold rg; omega) (fun w6 => ?_) (fun w7 => ?_)
        · refine y_iconst rfl ?_
          refine y_ireturn rfl rfl ?_
          exact ⟨rfl, _, rfl, ⟨by omega, by omega⟩, (by first | exact (h5.trans (wiN_f (by omega) (by omega) (by omega))).symm | exact (h5.trans (wiN_e (by omega))).symm)⟩
        · refine y_iload_n rfl rfl ?_
          refine y_iload_n rfl rfl ?_
          refine y_icmp_ne rfl rfl (by unfold rg; omega) (by unfold rg; omega) (fun w8 => ?_) (fun w9 => ?_)
          · refine y_aload_n rfl rfl ?_
            refine y_gfr rfl rfl rfl rfl rfl (hH.r 904 21 919 rfl) ?_
            refine y_iload_n rfl rfl ?_
            refine y_ialoadP (n := 24) rfl rfl (by unfold rg; omega) (fun w10 w11 => ?_)
            have w12 : -2147483648 ≤ (Xi S 919 ((v3).toNat)) ∧ (Xi S 919 ((v3).toNat)) ≤ 2147483647 := Xi_rgI
            refine y_if_ne rfl rfl (by unfold rg; omega) (fun w13 => ?_) (fun w14 => ?_)
            · refine y_aload_n rfl rfl ?_
              refine y_gfr rfl rfl rfl rfl rfl (hH.r 904 22 920 rfl) ?_
              refine y_iload_n rfl rfl ?_
              refine y_ialoadP (n := 24) rfl rfl (by unfold rg; omega) (fun w15 w16 => ?_)
              have w17 : -2147483648 ≤ (Xi S 920 ((v3).toNat)) ∧ (Xi S 920 ((v3).toNat)) ≤ 2147483647 := Xi_rgI
              refine y_istore_n rfl rfl rfl ?_
              refine y_iinc rfl rfl rfl rfl ?_
              have J43 : wiR S o h = wiN S h (25 - (v4 + 1)).toNat (Xi S 920 ((v3).toNat)) := by have t := h5.trans (wiN_s (by omega) (by omega) (by omega)); first | (rw [if_pos (by omega)] at t; exact t) | (rw [if_neg (by omega)] at t; exact t)
              refine y_goto rfl rfl ?_
              exact Pl_weak (ih5 (by omega) ((Xi S 920 ((v3).toNat))) ((v4 + 1)) (by omega) (by omega) (by omega) (by first | (have t := J43; exact J43) | rfl)) (by omega) (And.intro rfl (And.intro rfl (And.intro rfl (And.intro rfl (True.intro)))))
            · refine y_iconst rfl ?_
              refine y_goto rfl rfl ?_
              refine y_istore_n rfl rfl rfl ?_
              refine y_iinc rfl rfl rfl rfl ?_
              have J43 : wiR S o h = wiN S h (25 - (v4 + 1)).toNat (-1) := by have t := h5.trans (wiN_s (by omega) (by omega) (by omega)); first | (rw [if_pos (by omega)] at t; exact t) | (rw [if_neg (by omega)] at t; exact t)
              refine y_goto rfl rfl ?_
              exact Pl_weak (ih5 (by omega) ((-1)) ((v4 + 1)) (by omega) (by omega) (by omega) (by first | (have t := J43; exact J43) | rfl)) (by omega) (And.intro rfl (And.intro rfl (And.intro rfl (And.intro rfl (True.intro)))))
          · refine y_iconst rfl ?_
            refine y_ireturn rfl rfl ?_
            exact ⟨rfl, _, rfl, ⟨by omega, by omega⟩, (by first | exact (h5.trans (wiN_f (by omega) (by omega) (by omega))).symm | exact (h5.trans (wiN_e (by omega))).symm)⟩
  refine y_iload_n rfl rfl ?_
  refine y_istore_n rfl rfl rfl ?_
  refine y_iconst rfl ?_
  refine y_istore rfl rfl rfl ?_
  exact Pl_weak (C5 fu (by omega) (o) (0) (by omega) (by omega) (by omega) (by first | (have t := J43; exact J43) | rfl)) (by omega) (And.intro rfl (And.intro rfl (And.intro rfl (And.intro rfl (True.intro)))))
def md_mo_placeObject__p : List rec := [(904, 905, 105, 106), (904, 905, 106, 107), (919, 920, 0, 100000), (920, 921, 0, 100000)]
abbrev Q_mo_placeObject__p (S : sS) (o : Int) (t : Int) : pst := fun r S1 => RI S1 ∧ FR md_mo_placeObject__p S S1 ∧ (r = none ∧ (PLBR S S1 o t))
set_option maxRecDepth 100000 in
theorem t_mo_placeObject__p {S : sS} (hH : RI S) (o : Int) (t : Int) (ho : 0 ≤ o ∧ o ≤ 23) (ht : -2147483648 ≤ t ∧ t ≤ 2147483647) (hLS : LSP S) (h15 : 0 ≤ Xi S 904 15) (hRB : RBD S) (hB : ABV S) (hko : Hid (∀ j : Nat, -1 ≤ Xi S 918 j ∧ Xi S 918 j ≤ 15)) (hLX : LXR S) (hz0 : Xi S 904 106 = 0) (hr74 : -1 ≤ Xi S 904 74 ∧ Xi S 904 74 ≤ 2600) (d : Nat) : Mp lay0 (d + 5) m_mo_placeObject [.ref 904, iv o, iv t] S (Q_mo_placeObject__p S o t) := by
  refine Mp_R rfl rfl (fun fu => ?_)
  have hF : FR md_mo_placeObject__p S S := FR.rf
  have w1 : -2147483648 ≤ Xi S 904 106 ∧ Xi S 904 106 ≤ 2147483647 := Xi_rgI
  have w2 : -2147483648 ≤ Xi S 904 15 ∧ Xi S 904 15 ≤ 2147483647 := Xi_rgI
  have w3 : -2147483648 ≤ Xi S 904 73 ∧ Xi S 904 73 ≤ 2147483647 := Xi_rgI
  have w4 : -2147483648 ≤ Xi S 904 74 ∧ Xi S 904 74 ≤ 2147483647 := Xi_rgI
  refine y_aload_n rfl rfl ?_
  refine y_aload_n rfl rfl ?_
  refine y_gfi rfl rfl rfl rfl rfl ?_
  refine y_iconst rfl ?_
  refine y_callV rfl rfl rfl (t_mo_meansRun__p hH (Xi S 904 74) 4 ⟨by omega, by omega⟩ ⟨by omega, by omega⟩ (by first | assumption | exact (LSP_FR hF rfl rfl (by assumption : LSP S))) (by first | assumption | omega) (by first | assumption | exact (RBD_FR hF rfl (by assumption : RBD S))) _) ?_
  rintro _ _ ⟨rfl, z5, rfl, w5, f6⟩
  show Pl _ _ _ _ _ _ [iv z5] _ _
  refine y_istore_n rfl rfl rfl ?_
  refine y_aload_n rfl rfl ?_
  refine y_aload_n rfl rfl ?_
  refine y_gfr rfl rfl rfl rfl rfl (hH.r 904 20 918 rfl) ?_
  refine y_iload_n rfl rfl ?_
  refine y_ialoadP (n := 24) rfl rfl (by unfold rg; omega) (fun w6 w7 => ?_)
  have w8 : -2147483648 ≤ (Xi S 918 ((o).toNat)) ∧ (Xi S 918 ((o).toNat)) ≤ 2147483647 := Xi_rgI
  have k16 := hko.o (o.toNat)
  refine y_iconst rfl ?_
  refine y_callV rfl rfl rfl (t_mo_isBelow__p hH (Xi S 918 ((o).toNat)) 0 ⟨by omega, by omega⟩ ⟨by omega, by omega⟩ (by first | assumption | exact (ABV_FR hF rfl (by assumption : ABV S))) _) ?_
  rintro _ _ ⟨rfl, z9, rfl, w9, f18⟩
  show Pl _ _ _ _ _ _ [iv z9] _ _
  refine y_if_eq rfl rfl (by unfold rg; omega) (fun w10 => ?_) (fun w11 => ?_)
  · refine y_aload_n rfl rfl ?_
    have Y56 : Hid (blR S (Xi S 918 o.toNat) 0 = 0 ∨ (Xi S 919 o.toNat ≠ 0 ∧ (Xi S 919 o.toNat ≠ Xi S 904 73 ∨ Xi S 920 o.toNat ≠ rnR S (Xi S 904 74) 4))) := by unfold Hid; rw [← f18, ← f6]; omega
    refine y_iconst rfl ?_
    refine y_iload_n rfl rfl ?_
    refine y_callV rfl rfl rfl (t_mo_wrong__p hH 5 t ⟨by omega, by omega⟩ ⟨by omega, by omega⟩ _) ?_
    rintro _ T1 ⟨hHT1, w13, rfl, w59, k59⟩
    have hFT1 : FR md_mo_placeObject__p S T1 := FR.tr hF w13 rfl
    show Pl _ _ _ _ _ _ [] _ _
    have W59 : NTB (NT3 T1) 5 (Xi S 908 t.toNat) := w59 hz0
    refine y_goto rfl rfl ?_
    refine y_return rfl rfl ?_
    exact ⟨hHT1, hFT1, rfl, (by first | (have t := K100; exact ⟨fun q => absurd q N65.o, fun _ q => absurd w68 q, fun _ _ => R100⟩) | (have t := K78; exact ⟨fun q => absurd q N65.o, fun _ _ => W78, fun _ q => absurd q x68⟩) | exact ⟨fun _ => W59, fun q => absurd Y56.o q, fun q => absurd Y56.o q⟩)⟩
  · refine y_aload_n rfl rfl ?_
    refine y_gfr rfl rfl rfl rfl rfl (hH.r 904 21 919 rfl) ?_
    refine y_iload_n rfl rfl ?_
    refine y_ialoadP (n := 24) rfl rfl (by unfold rg; omega) (fun w17 w18 => ?_)
    have w19 : -2147483648 ≤ (Xi S 919 ((o).toNat)) ∧ (Xi S 919 ((o).toNat)) ≤ 2147483647 := Xi_rgI
    refine y_if_eq rfl rfl (by unfold rg; omega) (fun w20 => ?_) (fun w21 => ?_)
    · refine y_aload_n rfl rfl ?_
      have N65 : Hid (¬ (blR S (Xi S 918 o.toNat) 0 = 0 ∨ (Xi S 919 o.toNat ≠ 0 ∧ (Xi S 919 o.toNat ≠ Xi S 904 73 ∨ Xi S 920 o.toNat ≠ rnR S (Xi S 904 74) 4)))) := by unfold Hid; rw [← f18, ← f6]; omega
      refine y_iload_n rfl rfl ?_
      refine y_iload_n rfl rfl ?_
      refine y_callV rfl rfl rfl (t_mo_isWithin__p hH z5 o ⟨by omega, by omega⟩ ⟨by omega, by omega⟩ _) ?_
      rintro _ _ ⟨rfl, z22, rfl, w22, f68⟩
      show Pl _ _ _ _ _ _ [iv z22] _ _
      have g68 : z22 = wiR S (rnR S (Xi S 904 74) 4) o := by have t := f68; rw [f6] at t; exact t
      refine y_if_eq rfl rfl (by unfold rg; omega) (fun w23 => ?_) (fun w24 => ?_)
      · refine y_aload_n rfl rfl ?_
        have w68 : wiR S (rnR S (Xi S 904 74) 4) o = 0 := by omega
        refine y_gfr rfl rfl rfl rfl rfl (hH.r 904 21 919 rfl) ?_
        refine y_iload_n rfl rfl ?_
        refine y_aload_n rfl rfl ?_
        refine y_gfi rfl rfl rfl rfl rfl ?_
        refine y_iastoreP (n := 24) rfl rfl (by unfold rg; omega) (fun w25 w26 => ?_)
        obtain ⟨U2, eU2⟩ : ∃ T : sS, T = uI S 919 ((o).toNat) (Int32.ofInt (Xi S 904 73)) := ⟨_, rfl⟩
        rw [← eU2]
        have hHU2 : RI U2 := by rw [eU2]; exact RI_w hH
        have hFU2 : FR md_mo_placeObject__p S U2 := by rw [eU2]; exact FR.wI hF (mdf_i (r := (919, 920, 0, 100000)) (List.mem_of_getElem? (i := 2) rfl) (inR_i (by omega) (by omega) (by omega) (by omega)))
        have w27 : Xi U2 919 ((o).toNat) = (Xi S 904 73) := by rw [eU2]; exact Xi_same (by unfold rg; omega)
        have ee93 := eU2
        refine y_aload_n rfl rfl ?_
        refine y_gfr rfl rfl rfl rfl rfl (hHU2.r 904 22 920 rfl) ?_
        refine y_iload_n rfl rfl ?_
        refine y_iload_n rfl rfl ?_
        refine y_iastoreP (n := 24) rfl rfl (by unfold rg; omega) (fun w28 w29 => ?_)
        obtain ⟨U3, eU3⟩ : ∃ T : sS, T = uI U2 920 ((o).toNat) (Int32.ofInt z5) := ⟨_, rfl⟩
        rw [← eU3]
        have hHU3 : RI U3 := by rw [eU3]; exact RI_w hHU2
        have hFU3 : FR md_mo_placeObject__p S U3 := by rw [eU3]; exact FR.wI hFU2 (mdf_i (r := (920, 921, 0, 100000)) (List.mem_of_getElem? (i := 3) rfl) (inR_i (by omega) (by omega) (by omega) (by omega)))
        have w30 : Xi U3 920 ((o).toNat) = z5 := by rw [eU3]; exact Xi_same (by unfold rg; omega)
        have K100 : True := trivial
        have R100 : U3 = uI (uI S 919 o.toNat (Int32.ofInt (Xi S 904 73))) 920 o.toNat (Int32.ofInt (rnR S (Xi S 904 74) 4)) := by rw [eU3, ee93, f6]
        refine y_return rfl rfl ?_
        exact ⟨hHU3, hFU3, rfl, (by first | (have t := K100; exact ⟨fun q => absurd q N65.o, fun _ q => absurd w68 q, fun _ _ => R100⟩) | (have t := K78; exact ⟨fun q => absurd q N65.o, fun _ _ => W78, fun _ q => absurd q x68⟩) | exact ⟨fun _ => W59, fun q => absurd Y56.o q, fun q => absurd Y56.o q⟩)⟩
      · refine y_aload_n rfl rfl ?_
        refine y_bipush rfl rfl ?_
        refine y_iload_n rfl rfl ?_
        refine y_callV rfl rfl rfl (t_mo_wrong__p hH 6 t ⟨by omega, by omega⟩ ⟨by omega, by omega⟩ _) ?_
        rintro _ T4 ⟨hHT4, w36, rfl, w78, k78⟩
        have hFT4 : FR md_mo_placeObject__p S T4 := FR.tr hF w36 rfl
        show Pl _ _ _ _ _ _ [] _ _
        have K78 : True := trivial
        have W78 : NTB (NT3 T4) 6 (Xi S 908 t.toNat) := w78 hz0
        have x68 : wiR S (rnR S (Xi S 904 74) 4) o ≠ 0 := by omega
        refine y_goto rfl rfl ?_
        refine y_return rfl rfl ?_
        exact ⟨hHT4, hFT4, rfl, (by first | (have t := K100; exact ⟨fun q => absurd q N65.o, fun _ q => absurd w68 q, fun _ _ => R100⟩) | (have t := K78; exact ⟨fun q => absurd q N65.o, fun _ _ => W78, fun _ q => absurd q x68⟩) | exact ⟨fun _ => W59, fun q => absurd Y56.o q, fun q => absurd Y56.o q⟩)⟩
    · refine y_aload_n rfl rfl ?_
      refine y_gfr rfl rfl rfl rfl rfl (hH.r 904 21 919 rfl) ?_
      refine y_iload_n rfl rfl ?_
      refine y_ialoadP (n := 24) rfl rfl (by unfold rg; omega) (fun w40 w41 => ?_)
      refine y_aload_n rfl rfl ?_
      refine y_gfi rfl rfl rfl rfl rfl ?_
      refine y_icmp_ne rfl rfl (by unfold rg; omega) (by unfold rg; omega) (fun w42 => ?_) (fun w43 => ?_)
      · refine y_aload_n rfl rfl ?_
        have Y56 : Hid (blR S (Xi S 918 o.toNat) 0 = 0 ∨ (Xi S 919 o.toNat ≠ 0 ∧ (Xi S 919 o.toNat ≠ Xi S 904 73 ∨ Xi S 920 o.toNat ≠ rnR S (Xi S 904 74) 4))) := by unfold Hid; rw [← f18, ← f6]; omega
        refine y_iconst rfl ?_
        refine y_iload_n rfl rfl ?_
        refine y_callV rfl rfl rfl (t_mo_wrong__p hH 5 t ⟨by omega, by omega⟩ ⟨by omega, by omega⟩ _) ?_
        rintro _ T5 ⟨hHT5, w45, rfl, w59, k59⟩
        have hFT5 : FR md_mo_placeObject__p S T5 := FR.tr hF w45 rfl
        show Pl _ _ _ _ _ _ [] _ _
        have W59 : NTB (NT3 T5) 5 (Xi S 908 t.toNat) := w59 hz0
        refine y_goto rfl rfl ?_
        refine y_return rfl rfl ?_
        exact ⟨hHT5, hFT5, rfl, (by first | (have t := K100; exact ⟨fun q => absurd q N65.o, fun _ q => absurd w68 q, fun _ _ => R100⟩) | (have t := K78; exact ⟨fun q => absurd q N65.o, fun _ _ => W78, fun _ q => absurd q x68⟩) | exact ⟨fun _ => W59, fun q => absurd Y56.o q, fun q => absurd Y56.o q⟩)⟩
      · refine y_aload_n rfl rfl ?_
        refine y_gfr rfl rfl rfl rfl rfl (hH.r 904 22 920 rfl) ?_
        refine y_iload_n rfl rfl ?_
        refine y_ialoadP (n := 24) rfl rfl (by unfold rg; omega) (fun w49 w50 => ?_)
        have w51 : -2147483648 ≤ (Xi S 920 ((o).toNat)) ∧ (Xi S 920 ((o).toNat)) ≤ 2147483647 := Xi_rgI
        refine y_iload_n rfl rfl ?_
        refine y_icmp_eq rfl rfl (by unfold rg; omega) (by unfold rg; omega) (fun w52 => ?_) (fun w53 => ?_)
        · refine y_aload_n rfl rfl ?_
          have N65 : Hid (¬ (blR S (Xi S 918 o.toNat) 0 = 0 ∨ (Xi S 919 o.toNat ≠ 0 ∧ (Xi S 919 o.toNat ≠ Xi S 904 73 ∨ Xi S 920 o.toNat ≠ rnR S (Xi S 904 74) 4)))) := by unfold Hid; rw [← f18, ← f6]; omega
          refine y_iload_n rfl rfl ?_
          refine y_iload_n rfl rfl ?_
          refine y_callV rfl rfl rfl (t_mo_isWithin__p hH z5 o ⟨by omega, by omega⟩ ⟨by omega, by omega⟩ _) ?_
          rintro _ _ ⟨rfl, z54, rfl, w54, f68⟩
          show Pl _ _ _ _ _ _ [iv z54] _ _
          have g68 : z54 = wiR S (rnR S (Xi S 904 74) 4) o := by have t := f68; rw [f6] at t; exact t
          refine y_if_eq rfl rfl (by unfold rg; omega) (fun w55 => ?_) (fun w56 => ?_)
          · refine y_aload_n rfl rfl ?_
            have w68 : wiR S (rnR S (Xi S 904 74) 4) o = 0 := by omega
            refine y_gfr rfl rfl rfl rfl rfl (hH.r 904 21 919 rfl) ?_
            refine y_iload_n rfl rfl ?_
            refine y_aload_n rfl rfl ?_
            refine y_gfi rfl rfl rfl rfl rfl ?_
            refine y_iastoreP (n := 24) rfl rfl (by unfold rg; omega) (fun w57 w58 => ?_)
            obtain ⟨U6, eU6⟩ : ∃ T : sS, T = uI S 919 ((o).toNat) (Int32.ofInt (Xi S 904 73)) := ⟨_, rfl⟩
            rw [← eU6]
            have hHU6 : RI U6 := by rw [eU6]; exact RI_w hH
            have hFU6 : FR md_mo_placeObject__p S U6 := by rw [eU6]; exact FR.wI hF (mdf_i (r := (919, 920, 0, 100000)) (List.mem_of_getElem? (i := 2) rfl) (inR_i (by omega) (by omega) (by omega) (by omega)))
            have w59 : Xi U6 919 ((o).toNat) = (Xi S 904 73) := by rw [eU6]; exact Xi_same (by unfold rg; omega)
            have ee93 := eU6
            refine y_aload_n rfl rfl ?_
            refine y_gfr rfl rfl rfl rfl rfl (hHU6.r 904 22 920 rfl) ?_
            refine y_iload_n rfl rfl ?_
            refine y_iload_n rfl rfl ?_
            refine y_iastoreP (n := 24) rfl rfl (by unfold rg; omega) (fun w60 w61 => ?_)
            obtain ⟨U7, eU7⟩ : ∃ T : sS, T = uI U6 920 ((o).toNat) (Int32.ofInt z5) := ⟨_, rfl⟩
            rw [← eU7]
            have hHU7 : RI U7 := by rw [eU7]; exact RI_w hHU6
            have hFU7 : FR md_mo_placeObject__p S U7 := by rw [eU7]; exact FR.wI hFU6 (mdf_i (r := (920, 921, 0, 100000)) (List.mem_of_getElem? (i := 3) rfl) (inR_i (by omega) (by omega) (by omega) (by omega)))
            have w62 : Xi U7 920 ((o).toNat) = z5 := by rw [eU7]; exact Xi_same (by unfold rg; omega)
            have K100 : True := trivial
            have R100 : U7 = uI (uI S 919 o.toNat (Int32.ofInt (Xi S 904 73))) 920 o.toNat (Int32.ofInt (rnR S (Xi S 904 74) 4)) := by rw [eU7, ee93, f6]
            refine y_return rfl rfl ?_
            exact ⟨hHU7, hFU7, rfl, (by first | (have t := K100; exact ⟨fun q => absurd q N65.o, fun _ q => absurd w68 q, fun _ _ => R100⟩) | (have t := K78; exact ⟨fun q => absurd q N65.o, fun _ _ => W78, fun _ q => absurd q x68⟩) | exact ⟨fun _ => W59, fun q => absurd Y56.o q, fun q => absurd Y56.o q⟩)⟩
          · refine y_aload_n rfl rfl ?_
            refine y_bipush rfl rfl ?_
            refine y_iload_n rfl rfl ?_
            refine y_callV rfl rfl rfl (t_mo_wrong__p hH 6 t ⟨by omega, by omega⟩ ⟨by omega, by omega⟩ _) ?_
            rintro _ T8 ⟨hHT8, w68, rfl, w78, k78⟩
            have hFT8 : FR md_mo_placeObject__p S T8 := FR.tr hF w68 rfl
            show Pl _ _ _ _ _ _ [] _ _
            have K78 : True := trivial
            have W78 : NTB (NT3 T8) 6 (Xi S 908 t.toNat) := w78 hz0
            have x68 : wiR S (rnR S (Xi S 904 74) 4) o ≠ 0 := by omega
            refine y_goto rfl rfl ?_
            refine y_return rfl rfl ?_
            exact ⟨hHT8, hFT8, rfl, (by first | (have t := K100; exact ⟨fun q => absurd q N65.o, fun _ q => absurd w68 q, fun _ _ => R100⟩) | (have t := K78; exact ⟨fun q => absurd q N65.o, fun _ _ => W78, fun _ q => absurd q x68⟩) | exact ⟨fun _ => W59, fun q => absurd Y56.o q, fun q => absurd Y56.o q⟩)⟩
        · refine y_aload_n rfl rfl ?_
          have Y56 : Hid (blR S (Xi S 918 o.toNat) 0 = 0 ∨ (Xi S 919 o.toNat ≠ 0 ∧ (Xi S 919 o.toNat ≠ Xi S 904 73 ∨ Xi S 920 o.toNat ≠ rnR S (Xi S 904 74) 4))) := by unfold Hid; rw [← f18, ← f6]; omega
          refine y_iconst rfl ?_
          refine y_iload_n rfl rfl ?_
          refine y_callV rfl rfl rfl (t_mo_wrong__p hH 5 t ⟨by omega, by omega⟩ ⟨by omega, by omega⟩ _) ?_
          rintro _ T9 ⟨hHT9, w73, rfl, w59, k59⟩
          have hFT9 : FR md_mo_placeObject__p S T9 := FR.tr hF w73 rfl
          show Pl _ _ _ _ _ _ [] _ _
          have W59 : NTB (NT3 T9) 5 (Xi S 908 t.toNat) := w59 hz0
          refine y_goto rfl rfl ?_
          refine y_return rfl rfl ?_
          exact ⟨hHT9, hFT9, rfl, (by first | (have t := K100; exact ⟨fun q => absurd q N65.o, fun _ q => absurd w68 q, fun _ _ => R100⟩) | (have t := K78; exact ⟨fun q => absurd q N65.o, fun _ _ => W78, fun _ q => absurd q x68⟩) | exact ⟨fun _ => W59, fun q => absurd Y56.o q, fun q => absurd Y56.o q⟩)⟩
end
section
/-! 12, 13: the reference does -/
/-- (no bound is needed any more: a text that is compared lies in the story) -/
def VB3 (_ : sS) : Prop := True
def KB3 (S : sS) : Prop := ∀ j : Nat, -1 ≤ Xi S 918 j ∧ Xi S 918 j ≤ 15
def RK1 (S S1 : sS) (o k : Int) : Prop := (blR S k (Xi S 918 o.toNat) ≠ 0 ∧ S1 = uI S 918 o.toNat (Int32.ofInt k)) ∨ (blR S k (Xi S 918 o.toNat) = 0 ∧ blR S (Xi S 918 o.toNat) k ≠ 0 ∧ S1 = S)
def RK0 (S : sS) (o k : Int) : Prop := blR S k (Xi S 918 o.toNat) = 0 ∧ blR S (Xi S 918 o.toNat) k = 0
def RAC (S C : sS) (o : Int) : Nat → sS → Prop
  | 0, V => V = C
  | n + 1, V => ∃ W : sS, RAC S C o n W ∧ TRD W V 1 o (Xi S 967 n) 1
/-- where the list's first object is kept -/
def sD (A : sS) (n : Nat) (o : Int) : sS := uI A 904 60 (Int32.ofInt (if n = 0 then o else Xi A 904 60))
/-- told, with the kind; told, with the adjectives too -/
def RQA (S W A : sS) (o : Int) (n : Nat) : Prop := ∃ B : sS, OTR W B o (Xi S 904 71 + n) (if Xi S 904 70 = 13 then 0 else Xi S 904 110) ∧ FR lOT W B ∧ A = sD B n o
def RQB (S W B : sS) (o : Int) (n : Nat) : Prop := ∃ A : sS, RQA S W A o n ∧ (Xi S 904 70 = 13 → B = A) ∧ (Xi S 904 70 ≠ 13 → ∃ C : sS, RK1 A C o (Xi S 904 110) ∧ RAC S C o (Xi S 904 112).toNat B)
def PLN (B : sS) (o : Int) : Prop := ¬ (blR B (Xi B 918 o.toNat) 0 = 0 ∨ (Xi B 919 o.toNat ≠ 0 ∧ (Xi B 919 o.toNat ≠ Xi B 904 73 ∨ Xi B 920 o.toNat ≠ rnR B (Xi B 904 74) 4)))
def RO1 (S W V : sS) (o : Int) (n : Nat) : Prop := ∃ B : sS, RQB S W B o n ∧ (Xi S 904 73 ≤ 0 → V = B) ∧ (0 < Xi S 904 73 → PLN B o ∧ wiR B (rnR B (Xi B 904 74) 4) o = 0 ∧ V = uI (uI B 919 o.toNat (Int32.ofInt (Xi B 904 73))) 920 o.toNat (Int32.ofInt (rnR B (Xi B 904 74) 4)))
def ROF (S W : sS) (o : Int) (n : Nat) (c : Int) : Prop :=
  (Xi S 904 70 ≠ 13 ∧ c = 5 ∧ ∃ A : sS, RQA S W A o n ∧ RK0 A o (Xi S 904 110)) ∨
  (Xi S 904 70 ≠ 13 ∧ c = 5 ∧ ∃ (A C D E : sS) (i : Nat), RQA S W A o n ∧ RK1 A C o (Xi S 904 110) ∧ (i : Int) < Xi S 904 112 ∧ RAC S C o i D ∧ TRD D E 0 o (Xi S 967 i) 1) ∨
  (0 < Xi S 904 73 ∧ ∃ B : sS, RQB S W B o n ∧ ((c = 5 ∧ ¬ PLN B o) ∨ (c = 6 ∧ PLN B o ∧ wiR B (rnR B (Xi B 904 74) 4) o ≠ 0)))
def RDC (S : sS) : Nat → sS → Prop
  | 0, V => V = S
  | n + 1, V => ∃ (W : sS) (o : Int), RDC S n W ∧ RO1 S W V o n
def RFB (S S1 : sS) : Prop := ∃ (i : Nat) (W : sS) (o c : Int), i < (Xi S 904 72).toNat ∧ RDC S i W ∧ ROF S W o i c ∧ NTB (NT3 S1) c (pR S (Xi S 904 71 + i))
def RDB (S S1 : sS) : Prop := (Xi S1 904 106 = 0 ∧ RDC S (Xi S 904 72).toNat S1) ∨ (Xi S1 904 106 ≠ 0 ∧ RFB S S1)
/-- words told stay -/
def GRR (S W : sS) : Prop := ∀ r s : Int, rnR S r s ≠ -1 → rnR W r s = rnR S r s
theorem GRR_sm {S W V : sS} (h : GRR S W) (s : SMR W V) : GRR S V := fun r t q => (rnR_sm s).trans (h r t q)
/-- entries of objects are objects -/
def OB4 (W : sS) : Prop := ∀ k : Nat, (k : Int) < Xi W 904 15 → Xi W 914 k = 4 → 0 ≤ Xi W 915 k ∧ Xi W 915 k < Xi W 904 19
theorem rnR_o {W : sS} {r : Int} (h : OB4 W) (h15 : 0 ≤ Xi W 904 15) (q : rnR W r 4 ≠ -1) : 0 ≤ rnR W r 4 ∧ rnR W r 4 < Xi W 904 19 := by
  unfold rnR msR at *
  by_cases y : nmR W (Xi W 950 r.toNat) (Xi W 951 r.toNat) ≠ -1 ∧ Xi W 914 (nmR W (Xi W 950 r.toNat) (Xi W 951 r.toNat)).toNat = 4
  · have g := nmR_rg (S := W) (t := Xi W 950 r.toNat) (n := Xi W 951 r.toNat) h15
    rw [if_pos y]
    exact h _ (by have := y.1; omega) y.2
  · rw [if_neg y] at q; exact absurd rfl q
theorem otr_g {S W A : sS} {z r k : Int} {l : List rec} (g : GRR S W) (o : OTR W A z r k) (F : FR l W A) (h15 : 0 ≤ Xi W 904 15) (e : kdis l [(910, 911), (950, 952)] = true) : GRR S A ∧ 0 ≤ Xi A 904 15 ∧ (rnR W r 4 ≠ -1 → Xi A 904 15 = Xi W 904 15 ∧ Xi A 904 19 = Xi W 904 19) ∧ (rnR W r 4 = -1 → Xi A 904 15 = Xi W 904 15 + 1 ∧ Xi A 904 19 = Xi W 904 19 + 1) := by
  obtain ⟨o1, o2⟩ := o
  have m := F.smk e
  by_cases q : rnR W r 4 = -1
  · obtain ⟨_, t, a⟩ := o2 q
    refine ⟨fun r s w => ?_, by have := t.2.2; omega, fun y => absurd q y, fun _ => ⟨t.2.2, a.1⟩⟩
    exact rnR_w t h15 (fun j => m.xj 910 rfl j) (fun j => m.x 950 rfl j) (fun j => m.x 951 rfl j) w (g r s w)
  · have e2 := (o1 q).2
    subst e2
    exact ⟨g, h15, fun _ => ⟨rfl, rfl⟩, fun y => absurd y q⟩
theorem otr_l {W A : sS} {z r k : Int} (o : OTR W A z r k) (h15 : 0 ≤ Xi W 904 15) (h : LSP W) : LSP A := by
  obtain ⟨o1, o2⟩ := o
  by_cases q : rnR W r 4 = -1
  · exact LSP_tl (o2 q).2.1 h15 (by omega) h
  · rw [(o1 q).2]; exact h
theorem otr_k {W A : sS} {z r k : Int} (o : OTR W A z r k) (h : KB3 W) (hk : -1 ≤ k ∧ k ≤ 15) : KB3 A := fun j => by
  obtain ⟨o1, o2⟩ := o
  by_cases q : rnR W r 4 = -1
  · obtain ⟨_, _, _, b, c, _⟩ := o2 q
    by_cases w : j = (Xi W 904 19).toNat
    · rw [w, b.1]; exact hk
    · rw [(c j w).1]; exact h j
  · rw [(o1 q).2]; exact h j
/-- the objects are enough -/
theorem otr_c {S W : sS} {n : Nat} (q : OKQ S (Xi S 904 71) n) (g : GRR S W) (c : Xi W 904 19 ≤ Xi S 904 19 + nwm S (Xi S 904 71) n) (hw : rnR W (Xi S 904 71 + n) 4 = -1) : Xi W 904 19 ≤ 23 ∧ nwm S (Xi S 904 71) (n + 1) = nwm S (Xi S 904 71) n + 1 := by
  have f : rnR S (Xi S 904 71 + n) 4 = -1 := by
    by_cases y : rnR S (Xi S 904 71 + n) 4 = -1
    · exact y
    · have t := g _ _ y; rw [hw] at t; exact absurd t.symm y
  rcases q with w | ⟨w1, w2⟩
  · exact absurd f w
  · exact ⟨by omega, nwm_y w1.1.2⟩
theorem trd_v {S S1 : sS} {z o a i : Int} (t : TRD S S1 z o a i) (h : VB3 S) (ha : 0 ≤ a ∧ a ≤ 7000) (ho : 0 ≤ o) : VB3 S1 ∧ SMR S S1 := by
  obtain ⟨t1, t2⟩ := t
  by_cases q : a < 100
  · obtain ⟨u1, u2⟩ := t1 q
    by_cases w : Xi S 925 (24 * o + a).toNat = (if i = 0 then 1 else 2)
    · rw [(u1 w).2]; exact ⟨h, SMR.rf⟩
    · rw [(u2 w).2]
      unfold rIs
      split
      · exact ⟨trivial, SMR_w SMR.rf rfl (by omega) (by omega)⟩
      · exact ⟨trivial, SMR_w (SMR_w SMR.rf rfl (by omega) (by omega)) rfl (by omega) (by omega)⟩
  · obtain ⟨u1, u2⟩ := t2 (by omega)
    by_cases w : Xi S 930 (12 * o + a % 100).toNat ≠ 0 ∧ otwR S (a % 100) (Xi S (930 + 1) (12 * o + a % 100).toNat) (Xi S (930 + 2) (12 * o + a % 100).toNat) (a / 100 - 1) 0
    · rw [(u1 w).2]; exact ⟨h, SMR.rf⟩
    · rw [(u2 w).2]
      unfold tPR
      exact ⟨trivial, SMR_w (SMR_w (SMR_w SMR.rf rfl (by omega) (by omega)) rfl (by omega) (by omega)) rfl (by omega) (by omega)⟩

/-- what the list keeps -/
def KPR (S W : sS) (n : Nat) : Prop := GRR S W ∧ LSP W ∧ LXR W ∧ KB3 W ∧ VB3 W ∧ OB4 W ∧ 0 ≤ Xi W 904 15 ∧ (0 ≤ Xi W 904 19 ∧ Xi W 904 19 ≤ 24) ∧ Xi W 904 19 ≤ Xi S 904 19 + nwm S (Xi S 904 71) n
theorem kpr_s {S W V : sS} {n : Nat} (h : KPR S W n) (m : SMR W V) (e : Xi V 904 19 = Xi W 904 19) (k : KB3 V) (v : VB3 V) : KPR S V n := by
  obtain ⟨h1, h2, h3, _, _, h6, h7, h8, h9⟩ := h
  refine ⟨GRR_sm h1 m, fun j hj => ?_, fun j hj => ?_, k, v, fun j hj => ?_, by rw [m.1]; exact h7, by rw [e]; exact h8, by rw [e]; exact h9⟩
  · rw [m.1] at hj; rw [m.2.1 914 j (by omega)]; exact h2 j hj
  · rw [m.1] at hj; rw [m.2.1 914 j (by omega), m.2.1 915 j (by omega)]; exact h3 j hj
  · rw [m.1] at hj; rw [m.2.1 914 j (by omega), m.2.1 915 j (by omega), e]; exact h6 j hj
theorem kpr_o {S W A : sS} {n : Nat} {z k : Int} {l : List rec} (h : KPR S W n) (q : OKQ S (Xi S 904 71) n) (o : OTR W A z (Xi S 904 71 + n) k) (F : FR l W A) (e : kdis l [(910, 911), (950, 952)] = true) (e2 : kdis l [(931, 933)] = true) (hk : -1 ≤ k ∧ k ≤ 15) : KPR S A (n + 1) ∧ 0 ≤ z ∧ z ≤ 23 := by
  obtain ⟨h1, h2, h3, h4, h5, h6, h7, h8, h9⟩ := h
  have g := otr_g h1 o F h7 e
  have m := F.smk e2
  have vb : VB3 A := trivial
  have mm := nwm_m (S := S) (f := Xi S 904 71) (a := n) (b := n + 1) (by omega)
  by_cases y : rnR W (Xi S 904 71 + n) 4 = -1
  · obtain ⟨c1, c2⟩ := otr_c q h1 h9 y
    obtain ⟨z1, t, ab⟩ := o.2 y
    have e15 := t.2.2
    refine ⟨⟨g.1, otr_l o h7 h2, fun j hj => ?_, otr_k o h4 hk, vb, fun j hj => ?_, g.2.1, by have := ab.1; omega, by have := ab.1; omega⟩, by omega, by omega⟩
    · rcases (by omega : (j : Int) < Xi W 904 15 ∨ j = (Xi W 904 15).toNat) with w | w
      · rw [(t.2.1 j (by omega)).1, (t.2.1 j (by omega)).2.1]; exact h3 j w
      · rw [w, t.1.1, t.1.2.1]; omega
    · rcases (by omega : (j : Int) < Xi W 904 15 ∨ j = (Xi W 904 15).toNat) with w | w
      · rw [(t.2.1 j (by omega)).1, (t.2.1 j (by omega)).2.1]
        intro f; have u := h6 j w f; have := ab.1; omega
      · rw [w, t.1.1, t.1.2.1]; have := ab.1; omega
  · obtain ⟨z1, e1⟩ := o.1 y
    have r := rnR_o h6 h7 y
    subst e1
    exact ⟨⟨h1, h2, h3, h4, h5, h6, h7, h8, by omega⟩, by omega, by omega⟩
theorem kpr_0 {S : sS} (h2 : LSP S) (h3 : LXR S) (h4 : KB3 S) (h5 : VB3 S) (h6 : OB4 S) (h7 : 0 ≤ Xi S 904 15) (h8 : 0 ≤ Xi S 904 19 ∧ Xi S 904 19 ≤ 24) : KPR S S 0 := ⟨fun _ _ _ => rfl, h2, h3, h4, h5, h6, h7, h8, by omega⟩
theorem plb_c {P V : sS} {o t : Int} (h : PLBR P V o t) (z : Xi P 904 106 = 0) : (Xi V 904 106 = 0 → PLN P o ∧ wiR P (rnR P (Xi P 904 74) 4) o = 0 ∧ V = uI (uI P 919 o.toNat (Int32.ofInt (Xi P 904 73))) 920 o.toNat (Int32.ofInt (rnR P (Xi P 904 74) 4))) ∧ (Xi V 904 106 ≠ 0 → ∃ c : Int, NTB (NT3 V) c (Xi P 908 t.toNat) ∧ ((c = 5 ∧ ¬ PLN P o) ∨ (c = 6 ∧ PLN P o ∧ wiR P (rnR P (Xi P 904 74) 4) o ≠ 0))) := by
  obtain ⟨h1, h2, h3⟩ := h
  by_cases q : PLN P o
  · by_cases w : wiR P (rnR P (Xi P 904 74) 4) o = 0
    · refine ⟨fun _ => ⟨q, w, h3 q w⟩, fun y => absurd ?_ y⟩
      rw [h3 q w, Xi_ne (by omega), Xi_ne (by omega)]; exact z
    · have n := h2 q w
      refine ⟨fun y => ?_, fun _ => ⟨6, n, Or.inr ⟨rfl, q, w⟩⟩⟩
      have u : Xi V 904 106 = 6 := n.1
      omega
  · have n := h1 (by by_cases k : (blR P (Xi P 918 o.toNat) 0 = 0 ∨ (Xi P 919 o.toNat ≠ 0 ∧ (Xi P 919 o.toNat ≠ Xi P 904 73 ∨ Xi P 920 o.toNat ≠ rnR P (Xi P 904 74) 4))); exact k; exact absurd k q)
    refine ⟨fun y => ?_, fun _ => ⟨5, n, Or.inl ⟨rfl, q⟩⟩⟩
    have u : Xi V 904 106 = 5 := n.1
    omega
theorem kb3_w {S V : sS} {o k : Int} (e : V = uI S 918 o.toNat (Int32.ofInt k)) (h : KB3 S) (hk : -1 ≤ k ∧ k ≤ 15) : KB3 V := fun j => by
  rw [e]
  by_cases q : j = o.toNat
  · rw [q, Xi_same (by unfold rg; omega)]; exact hk
  · rw [Xi_ne (by omega)]; exact h j

def md_mo_doDescribed__p : List rec := [(904, 905, 15, 16), (904, 905, 19, 20), (904, 905, 60, 61), (904, 905, 105, 106), (904, 905, 106, 107), (912, 913, 0, 100000), (913, 914, 0, 100000), (914, 915, 0, 100000), (915, 916, 0, 100000), (916, 917, 0, 100000), (918, 919, 0, 100000), (919, 920, 0, 100000), (920, 921, 0, 100000), (925, 926, 0, 100000), (926, 927, 0, 100000), (930, 931, 0, 100000), (931, 932, 0, 100000), (932, 933, 0, 100000)]
abbrev Q_mo_doDescribed__p (S : sS) : pst := fun r S1 => RI S1 ∧ FR md_mo_doDescribed__p S S1 ∧ (r = none ∧ (RDB S S1))
set_option maxRecDepth 100000 in
theorem t_mo_doDescribed__p {S : sS} (hH : RI S) (hLS : LSP S) (h15 : 0 ≤ Xi S 904 15) (hRB : RBD S) (hLX : LXR S) (hB : ABV S) (hl : 0 ≤ Xi S 904 71 ∧ Xi S 904 71 ≤ 2600 ∧ 0 ≤ Xi S 904 72 ∧ Xi S 904 72 ≤ 2600) (hkb : Hid (KB3 S)) (ho4 : Hid (OB4 S)) (hct : Hid (∀ j : Nat, -1 ≤ Xi S 922 j ∧ Xi S 922 j ≤ 23)) (hz0 : Xi S 904 106 = 0) (ha : 0 ≤ Xi S 904 19 ∧ Xi S 904 19 ≤ 24) (hr74 : -1 ≤ Xi S 904 74 ∧ Xi S 904 74 ≤ 2600) (hlq : Hid (LOQ S (Xi S 904 71) (Xi S 904 72).toNat)) (h110 : -1 ≤ Xi S 904 110 ∧ Xi S 904 110 ≤ 15) (h112 : 0 ≤ Xi S 904 112 ∧ Xi S 904 112 ≤ 6) (hra : Hid (Xi S 904 70 ≠ 13 → ∀ i : Nat, (i : Int) < Xi S 904 112 → 0 ≤ Xi S 967 i ∧ Xi S 967 i ≤ 7000)) (d : Nat) : Mp lay0 (d + 6) m_mo_doDescribed [.ref 904] S (Q_mo_doDescribed__p S) := by
  refine Mp_R rfl rfl (fun fu => ?_)
  have hF : FR md_mo_doDescribed__p S S := FR.rf
  have w1 : -2147483648 ≤ Xi S 904 106 ∧ Xi S 904 106 ≤ 2147483647 := Xi_rgI
  have w2 : -2147483648 ≤ Xi S 904 110 ∧ Xi S 904 110 ≤ 2147483647 := Xi_rgI
  have w3 : -2147483648 ≤ Xi S 904 112 ∧ Xi S 904 112 ≤ 2147483647 := Xi_rgI
  have w4 : -2147483648 ≤ Xi S 904 15 ∧ Xi S 904 15 ≤ 2147483647 := Xi_rgI
  have w5 : -2147483648 ≤ Xi S 904 19 ∧ Xi S 904 19 ≤ 2147483647 := Xi_rgI
  have w6 : -2147483648 ≤ Xi S 904 60 ∧ Xi S 904 60 ≤ 2147483647 := Xi_rgI
  have w7 : -2147483648 ≤ Xi S 904 70 ∧ Xi S 904 70 ≤ 2147483647 := Xi_rgI
  have w8 : -2147483648 ≤ Xi S 904 71 ∧ Xi S 904 71 ≤ 2147483647 := Xi_rgI
  have w9 : -2147483648 ≤ Xi S 904 72 ∧ Xi S 904 72 ≤ 2147483647 := Xi_rgI
  have w10 : -2147483648 ≤ Xi S 904 73 ∧ Xi S 904 73 ≤ 2147483647 := Xi_rgI
  have w11 : -2147483648 ≤ Xi S 904 74 ∧ Xi S 904 74 ≤ 2147483647 := Xi_rgI
  have C2 : ∀ (n2 : Nat) (_ : n2 ≤ fu) (T1 : sS) (_ : RI T1) (_ : FR md_mo_doDescribed__p S T1) (v1 : Int), (0 ≤ v1 ∧ v1 ≤ 2600) → (0 ≤ v1 ∧ v1 ≤ Xi S 904 72) → (Hid (Xi T1 904 106 = 0 → RDC S v1.toNat T1 ∧ KPR S T1 v1.toNat)) → (Hid (Xi T1 904 106 ≠ 0 → RFB S T1)) → (Xi T1 904 70 = Xi S 904 70) → (Xi T1 904 71 = Xi S 904 71) → (Xi T1 904 72 = Xi S 904 72) → (Xi T1 904 73 = Xi S 904 73) → (Xi T1 904 74 = Xi S 904 74) → (Xi T1 904 110 = Xi S 904 110) → (Xi T1 904 112 = Xi S 904 112) → Pl n2 lay0 (d + 5) m_mo_doDescribed 2 [(0, .ref 904), (1, iv v1)] [] T1 (Q_mo_doDescribed__p S) := by
    intro n2
    induction n2 with
    | zero => intros; exact Pl_0
    | succ n2 ih2 =>
      intro hm2 T1 hHT1 hFT1 v1 w12 w13 D2 G2 w14 w15 w16 w17 w18 w19 w20
      have w21 : Xi T1 904 110 = Xi S 904 110 := hFT1.x _ _ rfl
      have w22 : Xi T1 904 112 = Xi S 904 112 := hFT1.x _ _ rfl
      have w23 : Xi T1 904 16 = Xi S 904 16 := hFT1.x _ _ rfl
      have w24 : Xi T1 904 23 = Xi S 904 23 := hFT1.x _ _ rfl
      have w25 : Xi T1 904 32 = Xi S 904 32 := hFT1.x _ _ rfl
      have w26 : Xi T1 904 69 = Xi S 904 69 := hFT1.x _ _ rfl
      have w27 : Xi T1 904 70 = Xi S 904 70 := hFT1.x _ _ rfl
      have w28 : Xi T1 904 71 = Xi S 904 71 := hFT1.x _ _ rfl
      have w29 : Xi T1 904 72 = Xi S 904 72 := hFT1.x _ _ rfl
      have w30 : Xi T1 904 73 = Xi S 904 73 := hFT1.x _ _ rfl
      have w31 : Xi T1 904 74 = Xi S 904 74 := hFT1.x _ _ rfl
      have w32 : -2147483648 ≤ Xi T1 904 106 ∧ Xi T1 904 106 ≤ 2147483647 := Xi_rgI
      have w33 : -2147483648 ≤ Xi T1 904 110 ∧ Xi T1 904 110 ≤ 2147483647 := Xi_rgI
      have w34 : -2147483648 ≤ Xi T1 904 112 ∧ Xi T1 904 112 ≤ 2147483647 := Xi_rgI
      have w35 : -2147483648 ≤ Xi T1 904 15 ∧ Xi T1 904 15 ≤ 2147483647 := Xi_rgI
      have w36 : -2147483648 ≤ Xi T1 904 19 ∧ Xi T1 904 19 ≤ 2147483647 := Xi_rgI
      have w37 : -2147483648 ≤ Xi T1 904 60 ∧ Xi T1 904 60 ≤ 2147483647 := Xi_rgI
      have w38 : -2147483648 ≤ Xi T1 904 70 ∧ Xi T1 904 70 ≤ 2147483647 := Xi_rgI
      have w39 : -2147483648 ≤ Xi T1 904 71 ∧ Xi T1 904 71 ≤ 2147483647 := Xi_rgI
      have w40 : -2147483648 ≤ Xi T1 904 72 ∧ Xi T1 904 72 ≤ 2147483647 := Xi_rgI
      have w41 : -2147483648 ≤ Xi T1 904 73 ∧ Xi T1 904 73 ≤ 2147483647 := Xi_rgI
      have w42 : -2147483648 ≤ Xi T1 904 74 ∧ Xi T1 904 74 ≤ 2147483647 := Xi_rgI
      have C63 : ∀  (T2 : sS) (_ : RI T2) (_ : FR md_mo_doDescribed__p S T2) (v1 : Int) (v2 : Int) (v3 : Int), (0 ≤ v1 ∧ v1 ≤ 2600) → (-2147483648 ≤ v2 ∧ v2 ≤ 2147483647) → (0 ≤ v3 ∧ v3 ≤ 23) → (0 ≤ v1 ∧ v1 < Xi S 904 72) → (v2 = Xi S 904 71 + v1) → (0 ≤ v3 ∧ v3 ≤ 23) → (Xi T2 904 106 = 0) → (Hid (∃ W : sS, RDC S v1.toNat W ∧ RQA S W T2 v3 v1.toNat)) → (Hid (KPR S T2 (v1.toNat + 1))) → (Xi T2 904 70 = Xi S 904 70) → (Xi T2 904 71 = Xi S 904 71) → (Xi T2 904 72 = Xi S 904 72) → (Xi T2 904 73 = Xi S 904 73) → (Xi T2 904 74 = Xi S 904 74) → (Xi T2 904 110 = Xi S 904 110) → (Xi T2 904 112 = Xi S 904 112) → Pl n2 lay0 (d + 5) m_mo_doDescribed 63 [(0, .ref 904), (1, iv v1), (2, iv v2), (3, iv v3)] [] T2 (Q_mo_doDescribed__p S) := by
        intro T2 hHT2 hFT2 v1 v2 v3 w43 w44 w45 w46 w47 w48 w49 A63 K63 w50 w51 w52 w53 w54 w55 w56
        have w57 : Xi T2 904 110 = Xi S 904 110 := hFT2.x _ _ rfl
        have w58 : Xi T2 904 112 = Xi S 904 112 := hFT2.x _ _ rfl
        have w59 : Xi T2 904 16 = Xi S 904 16 := hFT2.x _ _ rfl
        have w60 : Xi T2 904 23 = Xi S 904 23 := hFT2.x _ _ rfl
        have w61 : Xi T2 904 32 = Xi S 904 32 := hFT2.x _ _ rfl
        have w62 : Xi T2 904 69 = Xi S 904 69 := hFT2.x _ _ rfl
        have w63 : Xi T2 904 70 = Xi S 904 70 := hFT2.x _ _ rfl
        have w64 : Xi T2 904 71 = Xi S 904 71 := hFT2.x _ _ rfl
        have w65 : Xi T2 904 72 = Xi S 904 72 := hFT2.x _ _ rfl
        have w66 : Xi T2 904 73 = Xi S 904 73 := hFT2.x _ _ rfl
        have w67 : Xi T2 904 74 = Xi S 904 74 := hFT2.x _ _ rfl
        have w68 : -2147483648 ≤ Xi T2 904 106 ∧ Xi T2 904 106 ≤ 2147483647 := Xi_rgI
        have w69 : -2147483648 ≤ Xi T2 904 110 ∧ Xi T2 904 110 ≤ 2147483647 := Xi_rgI
        have w70 : -2147483648 ≤ Xi T2 904 112 ∧ Xi T2 904 112 ≤ 2147483647 := Xi_rgI
        have w71 : -2147483648 ≤ Xi T2 904 15 ∧ Xi T2 904 15 ≤ 2147483647 := Xi_rgI
        have w72 : -2147483648 ≤ Xi T2 904 19 ∧ Xi T2 904 19 ≤ 2147483647 := Xi_rgI
        have w73 : -2147483648 ≤ Xi T2 904 60 ∧ Xi T2 904 60 ≤ 2147483647 := Xi_rgI
        have w74 : -2147483648 ≤ Xi T2 904 70 ∧ Xi T2 904 70 ≤ 2147483647 := Xi_rgI
        have w75 : -2147483648 ≤ Xi T2 904 71 ∧ Xi T2 904 71 ≤ 2147483647 := Xi_rgI
        have w76 : -2147483648 ≤ Xi T2 904 72 ∧ Xi T2 904 72 ≤ 2147483647 := Xi_rgI
        have w77 : -2147483648 ≤ Xi T2 904 73 ∧ Xi T2 904 73 ≤ 2147483647 := Xi_rgI
        have w78 : -2147483648 ≤ Xi T2 904 74 ∧ Xi T2 904 74 ≤ 2147483647 := Xi_rgI
        have C182 : ∀  (T3 : sS) (_ : RI T3) (_ : FR md_mo_doDescribed__p S T3) (v1 : Int) (v2 : Int) (v3 : Int), (0 ≤ v1 ∧ v1 ≤ 2600) → (-2147483648 ≤ v2 ∧ v2 ≤ 2147483647) → (0 ≤ v3 ∧ v3 ≤ 23) → (0 ≤ v1 ∧ v1 < Xi S 904 72) → (v2 = Xi S 904 71 + v1) → (0 ≤ v3 ∧ v3 ≤ 23) → (Hid (Xi T3 904 106 = 0 → (∃ W : sS, RDC S v1.toNat W ∧ RQB S W T3 v3 v1.toNat) ∧ KPR S T3 (v1.toNat + 1))) → (Hid (Xi T3 904 106 ≠ 0 → RFB S T3)) → (Xi T3 904 70 = Xi S 904 70) → (Xi T3 904 71 = Xi S 904 71) → (Xi T3 904 72 = Xi S 904 72) → (Xi T3 904 73 = Xi S 904 73) → (Xi T3 904 74 = Xi S 904 74) → (Xi T3 904 110 = Xi S 904 110) → (Xi T3 904 112 = Xi S 904 112) → Pl n2 lay0 (d + 5) m_mo_doDescribed 182 [(0, .ref 904), (1, iv v1), (2, iv v2), (3, iv v3)] [] T3 (Q_mo_doDescribed__p S) := by
          intro T3 hHT3 hFT3 v1 v2 v3 w79 w80 w81 w82 w83 w84 E182 G182 w85 w86 w87 w88 w89 w90 w91
          have w92 : Xi T3 904 110 = Xi S 904 110 := hFT3.x _ _ rfl
          have w93 : Xi T3 904 112 = Xi S 904 112 := hFT3.x _ _ rfl
          have w94 : Xi T3 904 16 = Xi S 904 16 := hFT3.x _ _ rfl
          have w95 : Xi T3 904 23 = Xi S 904 23 := hFT3.x _ _ rfl
          have w96 : Xi T3 904 32 = Xi S 904 32 := hFT3.x _ _ rfl
          have w97 : Xi T3 904 69 = Xi S 904 69 := hFT3.x _ _ rfl
          have w98 : Xi T3 904 70 = Xi S 904 70 := hFT3.x _ _ rfl
          have w99 : Xi T3 904 71 = Xi S 904 71 := hFT3.x _ _ rfl
          have w100 : Xi T3 904 72 = Xi S 904 72 := hFT3.x _ _ rfl
          have w101 : Xi T3 904 73 = Xi S 904 73 := hFT3.x _ _ rfl
          have w102 : Xi T3 904 74 = Xi S 904 74 := hFT3.x _ _ rfl
          have w103 : -2147483648 ≤ Xi T3 904 106 ∧ Xi T3 904 106 ≤ 2147483647 := Xi_rgI
          have w104 : -2147483648 ≤ Xi T3 904 110 ∧ Xi T3 904 110 ≤ 2147483647 := Xi_rgI
          have w105 : -2147483648 ≤ Xi T3 904 112 ∧ Xi T3 904 112 ≤ 2147483647 := Xi_rgI
          have w106 : -2147483648 ≤ Xi T3 904 15 ∧ Xi T3 904 15 ≤ 2147483647 := Xi_rgI
          have w107 : -2147483648 ≤ Xi T3 904 19 ∧ Xi T3 904 19 ≤ 2147483647 := Xi_rgI
          have w108 : -2147483648 ≤ Xi T3 904 60 ∧ Xi T3 904 60 ≤ 2147483647 := Xi_rgI
          have w109 : -2147483648 ≤ Xi T3 904 70 ∧ Xi T3 904 70 ≤ 2147483647 := Xi_rgI
          have w110 : -2147483648 ≤ Xi T3 904 71 ∧ Xi T3 904 71 ≤ 2147483647 := Xi_rgI
          have w111 : -2147483648 ≤ Xi T3 904 72 ∧ Xi T3 904 72 ≤ 2147483647 := Xi_rgI
          have w112 : -2147483648 ≤ Xi T3 904 73 ∧ Xi T3 904 73 ≤ 2147483647 := Xi_rgI
          have w113 : -2147483648 ≤ Xi T3 904 74 ∧ Xi T3 904 74 ≤ 2147483647 := Xi_rgI
          have C207 : ∀  (T4 : sS) (_ : RI T4) (_ : FR md_mo_doDescribed__p S T4) (v1 : Int), (0 ≤ v1 ∧ v1 ≤ 2600) → (0 ≤ v1 ∧ v1 < Xi S 904 72) → (Hid (Xi T4 904 106 = 0 → RDC S (v1.toNat + 1) T4 ∧ KPR S T4 (v1.toNat + 1))) → (Hid (Xi T4 904 106 ≠ 0 → RFB S T4)) → (Xi T4 904 70 = Xi S 904 70) → (Xi T4 904 71 = Xi S 904 71) → (Xi T4 904 72 = Xi S 904 72) → (Xi T4 904 73 = Xi S 904 73) → (Xi T4 904 74 = Xi S 904 74) → (Xi T4 904 110 = Xi S 904 110) → (Xi T4 904 112 = Xi S 904 112) → Pl n2 lay0 (d + 5) m_mo_doDescribed 207 [(0, .ref 904), (1, iv v1)] [] T4 (Q_mo_doDescribed__p S) := by
            intro T4 hHT4 hFT4 v1 w114 w115 D207 G207 w116 w117 w118 w119 w120 w121 w122
            have w123 : Xi T4 904 110 = Xi S 904 110 := hFT4.x _ _ rfl
            have w124 : Xi T4 904 112 = Xi S 904 112 := hFT4.x _ _ rfl
            have w125 : Xi T4 904 16 = Xi S 904 16 := hFT4.x _ _ rfl
            have w126 : Xi T4 904 23 = Xi S 904 23 := hFT4.x _ _ rfl
            have w127 : Xi T4 904 32 = Xi S 904 32 := hFT4.x _ _ rfl
            have w128 : Xi T4 904 69 = Xi S 904 69 := hFT4.x _ _ rfl
            have w129 : Xi T4 904 70 = Xi S 904 70 := hFT4.x _ _ rfl
            have w130 : Xi T4 904 71 = Xi S 904 71 := hFT4.x _ _ rfl
            have w131 : Xi T4 904 72 = Xi S 904 72 := hFT4.x _ _ rfl
            have w132 : Xi T4 904 73 = Xi S 904 73 := hFT4.x _ _ rfl
            have w133 : Xi T4 904 74 = Xi S 904 74 := hFT4.x _ _ rfl
            have w134 : -2147483648 ≤ Xi T4 904 106 ∧ Xi T4 904 106 ≤ 2147483647 := Xi_rgI
            have w135 : -2147483648 ≤ Xi T4 904 110 ∧ Xi T4 904 110 ≤ 2147483647 := Xi_rgI
            have w136 : -2147483648 ≤ Xi T4 904 112 ∧ Xi T4 904 112 ≤ 2147483647 := Xi_rgI
            have w137 : -2147483648 ≤ Xi T4 904 15 ∧ Xi T4 904 15 ≤ 2147483647 := Xi_rgI
            have w138 : -2147483648 ≤ Xi T4 904 19 ∧ Xi T4 904 19 ≤ 2147483647 := Xi_rgI
            have w139 : -2147483648 ≤ Xi T4 904 60 ∧ Xi T4 904 60 ≤ 2147483647 := Xi_rgI
            have w140 : -2147483648 ≤ Xi T4 904 70 ∧ Xi T4 904 70 ≤ 2147483647 := Xi_rgI
            have w141 : -2147483648 ≤ Xi T4 904 71 ∧ Xi T4 904 71 ≤ 2147483647 := Xi_rgI
            have w142 : -2147483648 ≤ Xi T4 904 72 ∧ Xi T4 904 72 ≤ 2147483647 := Xi_rgI
            have w143 : -2147483648 ≤ Xi T4 904 73 ∧ Xi T4 904 73 ≤ 2147483647 := Xi_rgI
            have w144 : -2147483648 ≤ Xi T4 904 74 ∧ Xi T4 904 74 ≤ 2147483647 := Xi_rgI
            refine y_iinc rfl rfl rfl rfl ?_
            refine y_goto rfl rfl ?_
            exact Pl_weak (ih2 (by omega) T4 hHT4 hFT4 ((v1 + 1)) (by omega) (by omega) (by first | (rw [show (v1 + 1).toNat = v1.toNat + 1 by omega]; exact D207) | exact fun _ => ⟨rfl, kpr_0 hLS hLX hkb.o trivial ho4.o h15 ha⟩) (by first | exact G207 | exact fun q => absurd hz0 q) (by omega) (by omega) (by omega) (by omega) (by omega) (by omega) (by omega)) (by omega) (And.intro rfl (And.intro rfl (True.intro)))
          refine y_aload_n rfl rfl ?_
          refine y_gfi rfl rfl rfl rfl rfl ?_
          refine y_if_le rfl rfl (by unfold rg; omega) (fun w145 => ?_) (fun w146 => ?_)
          · exact Pl_weak (C207 T3 hHT3 hFT3 (v1) (by omega) (by omega) (by first | (have t := K204; exact fun q => by obtain ⟨c1, c2, c3⟩ := C204.o.1 q; obtain ⟨⟨W, b1, b2⟩, kk⟩ := E182.o (by omega); exact ⟨⟨W, v3, b1, _, b2, fun y => absurd y (by omega), fun _ => ⟨c1, c2, c3⟩⟩, kpr_s kk (SMR_FR F204 rfl rfl) (F204.x 904 19 rfl) (fun j => by rw [(F204.cx 918 rfl j).1]; exact kk.2.2.2.1 j) trivial⟩) | (have t := E182; exact fun q => by obtain ⟨⟨W, b1, b2⟩, kk⟩ := E182.o q; exact ⟨⟨W, v3, b1, _, b2, fun _ => rfl, fun y => absurd y (by omega)⟩, kk⟩)) (by first | (have t := K204; exact fun q => by obtain ⟨c, c1, c2⟩ := C204.o.2 q; rw [P204] at c1; obtain ⟨⟨W, b1, b2⟩, kk⟩ := E182.o (by omega); exact ⟨v1.toNat, W, v3, c, by omega, b1, Or.inr (Or.inr ⟨by omega, _, b2, c2⟩), c1⟩) | exact G182) (by omega) (by omega) (by omega) (by omega) (by omega) (by omega) (by omega)) (by omega) (And.intro rfl (And.intro rfl (True.intro)))
          · refine y_aload_n rfl rfl ?_
            refine y_gfi rfl rfl rfl rfl rfl ?_
            refine y_if_ne rfl rfl (by unfold rg; omega) (fun w147 => ?_) (fun w148 => ?_)
            · exact Pl_weak (C207 T3 hHT3 hFT3 (v1) (by omega) (by omega) (by first | (have t := K204; exact fun q => by obtain ⟨c1, c2, c3⟩ := C204.o.1 q; obtain ⟨⟨W, b1, b2⟩, kk⟩ := E182.o (by omega); exact ⟨⟨W, v3, b1, _, b2, fun y => absurd y (by omega), fun _ => ⟨c1, c2, c3⟩⟩, kpr_s kk (SMR_FR F204 rfl rfl) (F204.x 904 19 rfl) (fun j => by rw [(F204.cx 918 rfl j).1]; exact kk.2.2.2.1 j) trivial⟩) | (have t := E182; exact fun q => by obtain ⟨⟨W, b1, b2⟩, kk⟩ := E182.o q; exact ⟨⟨W, v3, b1, _, b2, fun _ => rfl, fun y => absurd y (by omega)⟩, kk⟩)) (by first | (have t := K204; exact fun q => by obtain ⟨c, c1, c2⟩ := C204.o.2 q; rw [P204] at c1; obtain ⟨⟨W, b1, b2⟩, kk⟩ := E182.o (by omega); exact ⟨v1.toNat, W, v3, c, by omega, b1, Or.inr (Or.inr ⟨by omega, _, b2, c2⟩), c1⟩) | exact G182) (by omega) (by omega) (by omega) (by omega) (by omega) (by omega) (by omega)) (by omega) (And.intro rfl (And.intro rfl (True.intro)))
            · refine y_aload_n rfl rfl ?_
              have E204 := Hid.i (E182.o (by omega))
              refine y_iload_n rfl rfl ?_
              refine y_aload_n rfl rfl ?_
              refine y_gfr rfl rfl rfl rfl rfl (hHT3.r 904 67 950 rfl) ?_
              refine y_iload_n rfl rfl ?_
              refine y_ialoadP (n := 2600) rfl rfl (by unfold rg; omega) (fun w149 w150 => ?_)
              have w151 : -2147483648 ≤ (Xi T3 950 ((v2).toNat)) ∧ (Xi T3 950 ((v2).toNat)) ≤ 2147483647 := Xi_rgI
              refine y_callV rfl rfl rfl (t_mo_placeObject__p hHT3 v3 (Xi T3 950 ((v2).toNat)) ⟨by omega, by omega⟩ ⟨by omega, by omega⟩ (E204.o.2.2.1) (E204.o.2.2.2.2.2.2.2.1) (by first | assumption | exact (RBD_FR hFT3 rfl (by assumption : RBD S))) (by first | assumption | exact (ABV_FR hFT3 rfl (by assumption : ABV S))) (E204.o.2.2.2.2.1) (E204.o.2.2.2.1) (by first | assumption | omega) (by first | assumption | omega) _) ?_
              rintro _ T5 ⟨hHT5, w153, rfl, o204_⟩
              have hFT5 : FR md_mo_doDescribed__p S T5 := FR.tr hFT3 w153 rfl
              show Pl _ _ _ _ _ _ [] _ _
              have K204 : True := trivial
              have C204 := Hid.i (plb_c o204_ (by omega))
              clear o204_
              have F204 := (by assumption : FR md_mo_placeObject__p T3 T5)
              have P204 := (show Xi T3 908 (Xi T3 950 v2.toNat).toNat = pR S (Xi S 904 71 + (v1.toNat : Nat)) by rw [(hFT3.cx 908 rfl _).1, (hFT3.cx 950 rfl _).1, show v2 = Xi S 904 71 + (v1.toNat : Nat) by omega]; rfl)
              have w154 : Xi T5 904 110 = Xi T3 904 110 := (show Xi T5 904 110 = Xi T3 904 110 from w153.x _ _ rfl)
              have w155 : Xi T5 904 112 = Xi T3 904 112 := (show Xi T5 904 112 = Xi T3 904 112 from w153.x _ _ rfl)
              have w156 : Xi T5 904 15 = Xi T3 904 15 := (show Xi T5 904 15 = Xi T3 904 15 from w153.x _ _ rfl)
              have w157 : Xi T5 904 19 = Xi T3 904 19 := (show Xi T5 904 19 = Xi T3 904 19 from w153.x _ _ rfl)
              have w158 : Xi T5 904 60 = Xi T3 904 60 := (show Xi T5 904 60 = Xi T3 904 60 from w153.x _ _ rfl)
              have w159 : Xi T5 904 70 = Xi T3 904 70 := (show Xi T5 904 70 = Xi T3 904 70 from w153.x _ _ rfl)
              have w160 : Xi T5 904 71 = Xi T3 904 71 := (show Xi T5 904 71 = Xi T3 904 71 from w153.x _ _ rfl)
              have w161 : Xi T5 904 72 = Xi T3 904 72 := (show Xi T5 904 72 = Xi T3 904 72 from w153.x _ _ rfl)
              have w162 : Xi T5 904 73 = Xi T3 904 73 := (show Xi T5 904 73 = Xi T3 904 73 from w153.x _ _ rfl)
              have w163 : Xi T5 904 74 = Xi T3 904 74 := (show Xi T5 904 74 = Xi T3 904 74 from w153.x _ _ rfl)
              exact Pl_weak (C207 T5 hHT5 hFT5 (v1) (by omega) (by omega) (by first | (have t := K204; exact fun q => by obtain ⟨c1, c2, c3⟩ := C204.o.1 q; obtain ⟨⟨W, b1, b2⟩, kk⟩ := E182.o (by omega); exact ⟨⟨W, v3, b1, _, b2, fun y => absurd y (by omega), fun _ => ⟨c1, c2, c3⟩⟩, kpr_s kk (SMR_FR F204 rfl rfl) (F204.x 904 19 rfl) (fun j => by rw [(F204.cx 918 rfl j).1]; exact kk.2.2.2.1 j) trivial⟩) | (have t := E182; exact fun q => by obtain ⟨⟨W, b1, b2⟩, kk⟩ := E182.o q; exact ⟨⟨W, v3, b1, _, b2, fun _ => rfl, fun y => absurd y (by omega)⟩, kk⟩)) (by first | (have t := K204; exact fun q => by obtain ⟨c, c1, c2⟩ := C204.o.2 q; rw [P204] at c1; obtain ⟨⟨W, b1, b2⟩, kk⟩ := E182.o (by omega); exact ⟨v1.toNat, W, v3, c, by omega, b1, Or.inr (Or.inr ⟨by omega, _, b2, c2⟩), c1⟩) | exact G182) (by omega) (by omega) (by omega) (by omega) (by omega) (by omega) (by omega)) (by omega) (And.intro rfl (And.intro rfl (True.intro)))
        have C133 : ∀ (n133 : Nat) (_ : n133 ≤ n2) (T6 : sS) (_ : RI T6) (_ : FR md_mo_doDescribed__p S T6) (v1 : Int) (v2 : Int) (v3 : Int) (v4 : Int), (0 ≤ v1 ∧ v1 ≤ 2600) → (-2147483648 ≤ v2 ∧ v2 ≤ 2147483647) → (0 ≤ v3 ∧ v3 ≤ 23) → (0 ≤ v4 ∧ v4 ≤ 6) → (0 ≤ v1 ∧ v1 < Xi S 904 72) → (v2 = Xi S 904 71 + v1) → (0 ≤ v3 ∧ v3 ≤ 23) → (0 ≤ v4 ∧ v4 ≤ Xi S 904 112) → (Xi S 904 70 ≠ 13) → (Hid (Xi T6 904 106 = 0 → (∃ W A C : sS, RDC S v1.toNat W ∧ RQA S W A v3 v1.toNat ∧ RK1 A C v3 (Xi S 904 110) ∧ RAC S C v3 v4.toNat T6) ∧ KPR S T6 (v1.toNat + 1))) → (Hid (Xi T6 904 106 ≠ 0 → RFB S T6)) → (Xi T6 904 70 = Xi S 904 70) → (Xi T6 904 71 = Xi S 904 71) → (Xi T6 904 72 = Xi S 904 72) → (Xi T6 904 73 = Xi S 904 73) → (Xi T6 904 74 = Xi S 904 74) → (Xi T6 904 110 = Xi S 904 110) → (Xi T6 904 112 = Xi S 904 112) → Pl n133 lay0 (d + 5) m_mo_doDescribed 133 [(0, .ref 904), (1, iv v1), (2, iv v2), (3, iv v3), (4, iv v4)] [] T6 (Q_mo_doDescribed__p S) := by
          intro n133
          induction n133 with
          | zero => intros; exact Pl_0
          | succ n133 ih133 =>
            intro hm133 T6 hHT6 hFT6 v1 v2 v3 v4 w164 w165 w166 w167 w168 w169 w170 w171 w172 B133 G133 w173 w174 w175 w176 w177 w178 w179
            have w180 : Xi T6 904 110 = Xi S 904 110 := hFT6.x _ _ rfl
            have w181 : Xi T6 904 112 = Xi S 904 112 := hFT6.x _ _ rfl
            have w182 : Xi T6 904 16 = Xi S 904 16 := hFT6.x _ _ rfl
            have w183 : Xi T6 904 23 = Xi S 904 23 := hFT6.x _ _ rfl
            have w184 : Xi T6 904 32 = Xi S 904 32 := hFT6.x _ _ rfl
            have w185 : Xi T6 904 69 = Xi S 904 69 := hFT6.x _ _ rfl
            have w186 : Xi T6 904 70 = Xi S 904 70 := hFT6.x _ _ rfl
            have w187 : Xi T6 904 71 = Xi S 904 71 := hFT6.x _ _ rfl
            have w188 : Xi T6 904 72 = Xi S 904 72 := hFT6.x _ _ rfl
            have w189 : Xi T6 904 73 = Xi S 904 73 := hFT6.x _ _ rfl
            have w190 : Xi T6 904 74 = Xi S 904 74 := hFT6.x _ _ rfl
            have w191 : -2147483648 ≤ Xi T6 904 106 ∧ Xi T6 904 106 ≤ 2147483647 := Xi_rgI
            have w192 : -2147483648 ≤ Xi T6 904 110 ∧ Xi T6 904 110 ≤ 2147483647 := Xi_rgI
            have w193 : -2147483648 ≤ Xi T6 904 112 ∧ Xi T6 904 112 ≤ 2147483647 := Xi_rgI
            have w194 : -2147483648 ≤ Xi T6 904 15 ∧ Xi T6 904 15 ≤ 2147483647 := Xi_rgI
            have w195 : -2147483648 ≤ Xi T6 904 19 ∧ Xi T6 904 19 ≤ 2147483647 := Xi_rgI
            have w196 : -2147483648 ≤ Xi T6 904 60 ∧ Xi T6 904 60 ≤ 2147483647 := Xi_rgI
            have w197 : -2147483648 ≤ Xi T6 904 70 ∧ Xi T6 904 70 ≤ 2147483647 := Xi_rgI
            have w198 : -2147483648 ≤ Xi T6 904 71 ∧ Xi T6 904 71 ≤ 2147483647 := Xi_rgI
            have w199 : -2147483648 ≤ Xi T6 904 72 ∧ Xi T6 904 72 ≤ 2147483647 := Xi_rgI
            have w200 : -2147483648 ≤ Xi T6 904 73 ∧ Xi T6 904 73 ≤ 2147483647 := Xi_rgI
            have w201 : -2147483648 ≤ Xi T6 904 74 ∧ Xi T6 904 74 ≤ 2147483647 := Xi_rgI
            refine ys_iload rfl rfl ?_
            refine y_aload_n rfl rfl ?_
            refine y_gfi rfl rfl rfl rfl rfl ?_
            refine y_icmp_ge rfl rfl (by unfold rg; omega) (by unfold rg; omega) (fun w202 => ?_) (fun w203 => ?_)
            · exact Pl_weak (C182 T6 hHT6 hFT6 (v1) (v2) (v3) (by omega) (by omega) (by omega) (by omega) (by omega) (by omega) (by first | (have t := B133; exact fun q => by obtain ⟨⟨W, A, C, b1, b2, b3, b4⟩, kk⟩ := B133.o q; exact ⟨⟨W, b1, A, b2, fun y => absurd y (by omega), fun _ => ⟨C, b3, by rw [show Xi S 904 112 = v4 by omega]; exact b4⟩⟩, kk⟩) | (have t := A63; exact fun _ => by obtain ⟨W, b1, b2⟩ := A63.o; exact ⟨⟨W, b1, _, b2, fun _ => rfl, fun y => absurd (by omega) y⟩, K63.o⟩)) (by first | exact G133 | exact fun q => absurd (by omega) q) (by omega) (by omega) (by omega) (by omega) (by omega) (by omega) (by omega)) (by omega) (And.intro rfl (And.intro rfl (And.intro rfl (And.intro rfl (True.intro)))))
            · refine y_aload_n rfl rfl ?_
              refine y_gfi rfl rfl rfl rfl rfl ?_
              refine y_if_ne rfl rfl (by unfold rg; omega) (fun w204 => ?_) (fun w205 => ?_)
              · exact Pl_weak (C182 T6 hHT6 hFT6 (v1) (v2) (v3) (by omega) (by omega) (by omega) (by omega) (by omega) (by omega) (by first | (have t := B133; exact fun q => by obtain ⟨⟨W, A, C, b1, b2, b3, b4⟩, kk⟩ := B133.o q; exact ⟨⟨W, b1, A, b2, fun y => absurd y (by omega), fun _ => ⟨C, b3, by rw [show Xi S 904 112 = v4 by omega]; exact b4⟩⟩, kk⟩) | (have t := A63; exact fun _ => by obtain ⟨W, b1, b2⟩ := A63.o; exact ⟨⟨W, b1, _, b2, fun _ => rfl, fun y => absurd (by omega) y⟩, K63.o⟩)) (by first | exact G133 | exact fun q => absurd (by omega) q) (by omega) (by omega) (by omega) (by omega) (by omega) (by omega) (by omega)) (by omega) (And.intro rfl (And.intro rfl (And.intro rfl (And.intro rfl (True.intro)))))
              · refine y_aload_n rfl rfl ?_
                have B149 := Hid.i (B133.o (by omega))
                have a149 := hra.o (by omega) v4.toNat (by omega)
                have e149 : Xi T6 967 v4.toNat = Xi S 967 v4.toNat := (hFT6.cx 967 rfl _).1
                refine y_iload_n rfl rfl ?_
                refine y_aload_n rfl rfl ?_
                refine y_gfr rfl rfl rfl rfl rfl (hHT6.r 904 111 967 rfl) ?_
                refine y_iload rfl rfl ?_
                refine y_ialoadP (n := 6) rfl rfl (by unfold rg; omega) (fun w206 w207 => ?_)
                have w208 : -2147483648 ≤ (Xi T6 967 ((v4).toNat)) ∧ (Xi T6 967 ((v4).toNat)) ≤ 2147483647 := Xi_rgI
                refine y_iconst rfl ?_
                refine y_callV rfl rfl rfl (t_mo_tellRead__p hHT6 v3 (Xi T6 967 ((v4).toNat)) 1 ⟨by omega, by omega⟩ ⟨by omega, by omega⟩ ⟨by omega, by omega⟩ (fun j => by rw [(hFT6.cx 922 rfl j).1]; exact hct.o j) _) ?_
                rintro _ T7 ⟨hHT7, w210, z209, rfl, w209, o159_⟩
                have hFT7 : FR md_mo_doDescribed__p S T7 := FR.tr hFT6 w210 rfl
                show Pl _ _ _ _ _ _ [iv z209] _ _
                have O159 : Hid (TRD T6 T7 z209 v3 (Xi S 967 v4.toNat) 1) := by have t := o159_; rw [e149] at t; exact t
                clear o159_
                have F159 := (by assumption : FR md_mo_tellRead__p T6 T7)
                have V159 := Hid.i (trd_v O159.o B149.o.2.2.2.2.2.1 a149 (by omega))
                have K159 : Hid (KPR S T7 (v1.toNat + 1)) := kpr_s B149.o.2 V159.o.2 (F159.x 904 19 rfl) (fun j => by rw [(F159.cx 918 rfl j).1]; exact B149.o.2.2.2.2.1 j) V159.o.1
                obtain ⟨zz, hzz⟩ : ∃ w : Int, w = z209 := ⟨_, rfl⟩
                have x159 : Xi T7 904 106 = 0 := (F159.x 904 106 rfl).trans (by omega)
                refine y_if_ne rfl rfl (by unfold rg; omega) (fun w211 => ?_) (fun w212 => ?_)
                · refine y_iinc rfl rfl rfl rfl ?_
                  refine y_goto rfl rfl ?_
                  have w213 : Xi T7 904 106 = Xi T6 904 106 := (show Xi T7 904 106 = Xi T6 904 106 from w210.x _ _ rfl)
                  have w214 : Xi T7 904 110 = Xi T6 904 110 := (show Xi T7 904 110 = Xi T6 904 110 from w210.x _ _ rfl)
                  have w215 : Xi T7 904 112 = Xi T6 904 112 := (show Xi T7 904 112 = Xi T6 904 112 from w210.x _ _ rfl)
                  have w216 : Xi T7 904 15 = Xi T6 904 15 := (show Xi T7 904 15 = Xi T6 904 15 from w210.x _ _ rfl)
                  have w217 : Xi T7 904 19 = Xi T6 904 19 := (show Xi T7 904 19 = Xi T6 904 19 from w210.x _ _ rfl)
                  have w218 : Xi T7 904 60 = Xi T6 904 60 := (show Xi T7 904 60 = Xi T6 904 60 from w210.x _ _ rfl)
                  have w219 : Xi T7 904 70 = Xi T6 904 70 := (show Xi T7 904 70 = Xi T6 904 70 from w210.x _ _ rfl)
                  have w220 : Xi T7 904 71 = Xi T6 904 71 := (show Xi T7 904 71 = Xi T6 904 71 from w210.x _ _ rfl)
                  have w221 : Xi T7 904 72 = Xi T6 904 72 := (show Xi T7 904 72 = Xi T6 904 72 from w210.x _ _ rfl)
                  have w222 : Xi T7 904 73 = Xi T6 904 73 := (show Xi T7 904 73 = Xi T6 904 73 from w210.x _ _ rfl)
                  have w223 : Xi T7 904 74 = Xi T6 904 74 := (show Xi T7 904 74 = Xi T6 904 74 from w210.x _ _ rfl)
                  exact Pl_weak (ih133 (by omega) T7 hHT7 hFT7 (v1) (v2) (v3) ((v4 + 1)) (by omega) (by omega) (by omega) (by omega) (by omega) (by omega) (by omega) (by omega) (by omega) (by first | (have t := K173; exact fun q => by omega) | (have t := K159; exact fun _ => ⟨by obtain ⟨W, A, C, b1, b2, b3, b4⟩ := B149.o.1; rw [show (v4 + 1).toNat = v4.toNat + 1 by omega]; exact ⟨W, A, C, b1, b2, b3, _, b4, by have t := O159.o; rw [← hzz, show zz = 1 by omega] at t; exact t⟩, K159.o⟩) | (have t := K127; exact fun q => by omega) | (have t := K113; exact fun _ => by obtain ⟨W, b1, b2⟩ := A63.o; exact ⟨⟨W, _, _, b1, b2, Or.inr ⟨by rw [← d83]; omega, by rw [← d113]; omega, rfl⟩, rfl⟩, K63.o⟩) | (have t := K98; exact fun _ => by obtain ⟨W, b1, b2⟩ := A63.o; exact ⟨⟨W, _, _, b1, b2, Or.inl ⟨by rw [← d83]; omega, R98⟩, rfl⟩, kpr_s K63.o (SMR_w SMR.rf ee98 (by omega) (by omega)) (by rw [ee98, Xi_ne (by omega)]) (kb3_w R98 K63.o.2.2.2.1 h110) trivial⟩)) (by first | (have t := K173; exact fun _ => by obtain ⟨W, A, C, b1, b2, b3, b4⟩ := B149.o.1; exact ⟨v1.toNat, W, v3, 5, by omega, b1, Or.inr (Or.inl ⟨by omega, rfl, A, C, _, _, v4.toNat, b2, b3, by omega, b4, by have t := O159.o; rw [← hzz, show zz = 0 by omega] at t; exact t⟩), Y173⟩) | (have t := K159; exact fun q => absurd x159 q) | (have t := K127; exact fun _ => by obtain ⟨W, b1, b2⟩ := A63.o; exact ⟨v1.toNat, W, v3, 5, by omega, b1, Or.inl ⟨by omega, rfl, _, b2, by rw [← d83]; omega, by rw [← d113]; omega⟩, Y127⟩) | exact fun q => absurd (by omega) q) (by omega) (by omega) (by omega) (by omega) (by omega) (by omega) (by omega)) (by omega) (And.intro rfl (And.intro rfl (And.intro rfl (And.intro rfl (And.intro rfl (True.intro))))))
                · refine y_aload_n rfl rfl ?_
                  refine y_iconst rfl ?_
                  refine y_aload_n rfl rfl ?_
                  refine y_gfr rfl rfl rfl rfl rfl (hHT7.r 904 67 950 rfl) ?_
                  refine y_iload_n rfl rfl ?_
                  refine y_ialoadP (n := 2600) rfl rfl (by unfold rg; omega) (fun w224 w225 => ?_)
                  have w226 : -2147483648 ≤ (Xi T7 950 ((v2).toNat)) ∧ (Xi T7 950 ((v2).toNat)) ≤ 2147483647 := Xi_rgI
                  have w227 : Xi T7 904 106 = Xi T6 904 106 := (show Xi T7 904 106 = Xi T6 904 106 from w210.x _ _ rfl)
                  have w234 : Xi T7 904 71 = Xi T6 904 71 := (show Xi T7 904 71 = Xi T6 904 71 from w210.x _ _ rfl)
                  refine y_callV rfl rfl rfl (t_mo_wrong__p hHT7 5 (Xi T7 950 ((v2).toNat)) ⟨by omega, by omega⟩ ⟨by omega, by omega⟩ _) ?_
                  rintro _ T8 ⟨hHT8, w240, rfl, w173, w238⟩
                  have hFT8 : FR md_mo_doDescribed__p S T8 := FR.tr hFT7 w240 rfl
                  show Pl _ _ _ _ _ _ [] _ _
                  have K173 : True := trivial
                  have Y173 : NTB (NT3 T8) 5 (pR S (Xi S 904 71 + (v1.toNat : Nat))) := by have t := w173 (by omega); rw [(show Xi T7 908 (Xi T7 950 v2.toNat).toNat = pR S (Xi S 904 71 + (v1.toNat : Nat)) by rw [(hFT7.cx 908 rfl _).1, (hFT7.cx 950 rfl _).1, show v2 = Xi S 904 71 + (v1.toNat : Nat) by omega]; rfl)] at t; exact t
                  have x173 : Xi T8 904 106 = 5 := Y173.1
                  refine y_iinc rfl rfl rfl rfl ?_
                  refine y_goto rfl rfl ?_
                  have w241 : Xi T8 904 110 = Xi T6 904 110 := (show Xi T8 904 110 = Xi T7 904 110 from w240.x _ _ rfl).trans ((show Xi T7 904 110 = Xi T6 904 110 from w210.x _ _ rfl))
                  have w242 : Xi T8 904 112 = Xi T6 904 112 := (show Xi T8 904 112 = Xi T7 904 112 from w240.x _ _ rfl).trans ((show Xi T7 904 112 = Xi T6 904 112 from w210.x _ _ rfl))
                  have w243 : Xi T8 904 15 = Xi T6 904 15 := (show Xi T8 904 15 = Xi T7 904 15 from w240.x _ _ rfl).trans ((show Xi T7 904 15 = Xi T6 904 15 from w210.x _ _ rfl))
                  have w244 : Xi T8 904 19 = Xi T6 904 19 := (show Xi T8 904 19 = Xi T7 904 19 from w240.x _ _ rfl).trans ((show Xi T7 904 19 = Xi T6 904 19 from w210.x _ _ rfl))
                  have w245 : Xi T8 904 60 = Xi T6 904 60 := (show Xi T8 904 60 = Xi T7 904 60 from w240.x _ _ rfl).trans ((show Xi T7 904 60 = Xi T6 904 60 from w210.x _ _ rfl))
                  have w246 : Xi T8 904 70 = Xi T6 904 70 := (show Xi T8 904 70 = Xi T7 904 70 from w240.x _ _ rfl).trans ((show Xi T7 904 70 = Xi T6 904 70 from w210.x _ _ rfl))
                  have w247 : Xi T8 904 71 = Xi T6 904 71 := (show Xi T8 904 71 = Xi T7 904 71 from w240.x _ _ rfl).trans ((show Xi T7 904 71 = Xi T6 904 71 from w210.x _ _ rfl))
                  have w248 : Xi T8 904 72 = Xi T6 904 72 := (show Xi T8 904 72 = Xi T7 904 72 from w240.x _ _ rfl).trans ((show Xi T7 904 72 = Xi T6 904 72 from w210.x _ _ rfl))
                  have w249 : Xi T8 904 73 = Xi T6 904 73 := (show Xi T8 904 73 = Xi T7 904 73 from w240.x _ _ rfl).trans ((show Xi T7 904 73 = Xi T6 904 73 from w210.x _ _ rfl))
                  have w250 : Xi T8 904 74 = Xi T6 904 74 := (show Xi T8 904 74 = Xi T7 904 74 from w240.x _ _ rfl).trans ((show Xi T7 904 74 = Xi T6 904 74 from w210.x _ _ rfl))
                  exact Pl_weak (ih133 (by omega) T8 hHT8 hFT8 (v1) (v2) (v3) ((v4 + 1)) (by omega) (by omega) (by omega) (by omega) (by omega) (by omega) (by omega) (by omega) (by omega) (by first | (have t := K173; exact fun q => by omega) | (have t := K159; exact fun _ => ⟨by obtain ⟨W, A, C, b1, b2, b3, b4⟩ := B149.o.1; rw [show (v4 + 1).toNat = v4.toNat + 1 by omega]; exact ⟨W, A, C, b1, b2, b3, _, b4, by have t := O159.o; rw [← hzz, show zz = 1 by omega] at t; exact t⟩, K159.o⟩) | (have t := K127; exact fun q => by omega) | (have t := K113; exact fun _ => by obtain ⟨W, b1, b2⟩ := A63.o; exact ⟨⟨W, _, _, b1, b2, Or.inr ⟨by rw [← d83]; omega, by rw [← d113]; omega, rfl⟩, rfl⟩, K63.o⟩) | (have t := K98; exact fun _ => by obtain ⟨W, b1, b2⟩ := A63.o; exact ⟨⟨W, _, _, b1, b2, Or.inl ⟨by rw [← d83]; omega, R98⟩, rfl⟩, kpr_s K63.o (SMR_w SMR.rf ee98 (by omega) (by omega)) (by rw [ee98, Xi_ne (by omega)]) (kb3_w R98 K63.o.2.2.2.1 h110) trivial⟩)) (by first | (have t := K173; exact fun _ => by obtain ⟨W, A, C, b1, b2, b3, b4⟩ := B149.o.1; exact ⟨v1.toNat, W, v3, 5, by omega, b1, Or.inr (Or.inl ⟨by omega, rfl, A, C, _, _, v4.toNat, b2, b3, by omega, b4, by have t := O159.o; rw [← hzz, show zz = 0 by omega] at t; exact t⟩), Y173⟩) | (have t := K159; exact fun q => absurd x159 q) | (have t := K127; exact fun _ => by obtain ⟨W, b1, b2⟩ := A63.o; exact ⟨v1.toNat, W, v3, 5, by omega, b1, Or.inl ⟨by omega, rfl, _, b2, by rw [← d83]; omega, by rw [← d113]; omega⟩, Y127⟩) | exact fun q => absurd (by omega) q) (by omega) (by omega) (by omega) (by omega) (by omega) (by omega) (by omega)) (by omega) (And.intro rfl (And.intro rfl (And.intro rfl (And.intro rfl (And.intro rfl (True.intro))))))
        refine y_aload_n rfl rfl ?_
        refine y_gfi rfl rfl rfl rfl rfl ?_
        refine y_bipush rfl rfl ?_
        refine y_icmp_eq rfl rfl (by unfold rg; omega) (by unfold rg; omega) (fun w251 => ?_) (fun w252 => ?_)
        · exact Pl_weak (C182 T2 hHT2 hFT2 (v1) (v2) (v3) (by omega) (by omega) (by omega) (by omega) (by omega) (by omega) (by first | (have t := B133; exact fun q => by obtain ⟨⟨W, A, C, b1, b2, b3, b4⟩, kk⟩ := B133.o q; exact ⟨⟨W, b1, A, b2, fun y => absurd y (by omega), fun _ => ⟨C, b3, by rw [show Xi S 904 112 = v4 by omega]; exact b4⟩⟩, kk⟩) | (have t := A63; exact fun _ => by obtain ⟨W, b1, b2⟩ := A63.o; exact ⟨⟨W, b1, _, b2, fun _ => rfl, fun y => absurd (by omega) y⟩, K63.o⟩)) (by first | exact G133 | exact fun q => absurd (by omega) q) (by omega) (by omega) (by omega) (by omega) (by omega) (by omega) (by omega)) (by omega) (And.intro rfl (And.intro rfl (And.intro rfl (And.intro rfl (True.intro)))))
        · refine y_aload_n rfl rfl ?_
          refine y_aload_n rfl rfl ?_
          refine y_gfi rfl rfl rfl rfl rfl ?_
          refine y_aload_n rfl rfl ?_
          refine y_gfr rfl rfl rfl rfl rfl (hHT2.r 904 20 918 rfl) ?_
          refine y_iload_n rfl rfl ?_
          refine y_ialoadP (n := 24) rfl rfl (by unfold rg; omega) (fun w253 w254 => ?_)
          have w255 : -2147483648 ≤ (Xi T2 918 ((v3).toNat)) ∧ (Xi T2 918 ((v3).toNat)) ≤ 2147483647 := Xi_rgI
          have k82 := K63.o.2.2.2.1 v3.toNat
          refine y_callV rfl rfl rfl (t_mo_isBelow__p hHT2 (Xi T2 904 110) (Xi T2 918 ((v3).toNat)) ⟨by omega, by omega⟩ ⟨by omega, by omega⟩ (by first | assumption | exact (ABV_FR hFT2 rfl (by assumption : ABV S))) _) ?_
          rintro _ _ ⟨rfl, z256, rfl, w256, f83⟩
          show Pl _ _ _ _ _ _ [iv z256] _ _
          have d83 : z256 = blR T2 (Xi S 904 110) (Xi T2 918 v3.toNat) := by have t := f83; rw [show Xi T2 904 110 = Xi S 904 110 by omega] at t; exact t
          refine y_if_eq rfl rfl (by unfold rg; omega) (fun w257 => ?_) (fun w258 => ?_)
          · refine y_aload_n rfl rfl ?_
            refine y_aload_n rfl rfl ?_
            refine y_gfr rfl rfl rfl rfl rfl (hHT2.r 904 20 918 rfl) ?_
            refine y_iload_n rfl rfl ?_
            refine y_ialoadP (n := 24) rfl rfl (by unfold rg; omega) (fun w259 w260 => ?_)
            refine y_aload_n rfl rfl ?_
            refine y_gfi rfl rfl rfl rfl rfl ?_
            refine y_callV rfl rfl rfl (t_mo_isBelow__p hHT2 (Xi T2 918 ((v3).toNat)) (Xi T2 904 110) ⟨by omega, by omega⟩ ⟨by omega, by omega⟩ (by first | assumption | exact (ABV_FR hFT2 rfl (by assumption : ABV S))) _) ?_
            rintro _ _ ⟨rfl, z261, rfl, w261, f113⟩
            show Pl _ _ _ _ _ _ [iv z261] _ _
            have K113 : True := trivial
            have d113 : z261 = blR T2 (Xi T2 918 v3.toNat) (Xi S 904 110) := by have t := f113; rw [show Xi T2 904 110 = Xi S 904 110 by omega] at t; exact t
            refine y_if_ne rfl rfl (by unfold rg; omega) (fun w262 => ?_) (fun w263 => ?_)
            · refine y_iconst rfl ?_
              refine y_istore rfl rfl rfl ?_
              exact Pl_weak (C133 n2 (by omega) T2 hHT2 hFT2 (v1) (v2) (v3) (0) (by omega) (by omega) (by omega) (by omega) (by omega) (by omega) (by omega) (by omega) (by omega) (by first | (have t := K173; exact fun q => by omega) | (have t := K159; exact fun _ => ⟨by obtain ⟨W, A, C, b1, b2, b3, b4⟩ := B149.o.1; rw [show (v4 + 1).toNat = v4.toNat + 1 by omega]; exact ⟨W, A, C, b1, b2, b3, _, b4, by have t := O159.o; rw [← hzz, show zz = 1 by omega] at t; exact t⟩, K159.o⟩) | (have t := K127; exact fun q => by omega) | (have t := K113; exact fun _ => by obtain ⟨W, b1, b2⟩ := A63.o; exact ⟨⟨W, _, _, b1, b2, Or.inr ⟨by rw [← d83]; omega, by rw [← d113]; omega, rfl⟩, rfl⟩, K63.o⟩) | (have t := K98; exact fun _ => by obtain ⟨W, b1, b2⟩ := A63.o; exact ⟨⟨W, _, _, b1, b2, Or.inl ⟨by rw [← d83]; omega, R98⟩, rfl⟩, kpr_s K63.o (SMR_w SMR.rf ee98 (by omega) (by omega)) (by rw [ee98, Xi_ne (by omega)]) (kb3_w R98 K63.o.2.2.2.1 h110) trivial⟩)) (by first | (have t := K173; exact fun _ => by obtain ⟨W, A, C, b1, b2, b3, b4⟩ := B149.o.1; exact ⟨v1.toNat, W, v3, 5, by omega, b1, Or.inr (Or.inl ⟨by omega, rfl, A, C, _, _, v4.toNat, b2, b3, by omega, b4, by have t := O159.o; rw [← hzz, show zz = 0 by omega] at t; exact t⟩), Y173⟩) | (have t := K159; exact fun q => absurd x159 q) | (have t := K127; exact fun _ => by obtain ⟨W, b1, b2⟩ := A63.o; exact ⟨v1.toNat, W, v3, 5, by omega, b1, Or.inl ⟨by omega, rfl, _, b2, by rw [← d83]; omega, by rw [← d113]; omega⟩, Y127⟩) | exact fun q => absurd (by omega) q) (by omega) (by omega) (by omega) (by omega) (by omega) (by omega) (by omega)) (by omega) (And.intro rfl (And.intro rfl (And.intro rfl (And.intro rfl (And.intro rfl (True.intro))))))
            · refine y_aload_n rfl rfl ?_
              refine y_iconst rfl ?_
              refine y_aload_n rfl rfl ?_
              refine y_gfr rfl rfl rfl rfl rfl (hHT2.r 904 67 950 rfl) ?_
              refine y_iload_n rfl rfl ?_
              refine y_ialoadP (n := 2600) rfl rfl (by unfold rg; omega) (fun w264 w265 => ?_)
              have w266 : -2147483648 ≤ (Xi T2 950 ((v2).toNat)) ∧ (Xi T2 950 ((v2).toNat)) ≤ 2147483647 := Xi_rgI
              refine y_callV rfl rfl rfl (t_mo_wrong__p hHT2 5 (Xi T2 950 ((v2).toNat)) ⟨by omega, by omega⟩ ⟨by omega, by omega⟩ _) ?_
              rintro _ T9 ⟨hHT9, w269, rfl, w127, w267⟩
              have hFT9 : FR md_mo_doDescribed__p S T9 := FR.tr hFT2 w269 rfl
              show Pl _ _ _ _ _ _ [] _ _
              have K127 : True := trivial
              have Y127 : NTB (NT3 T9) 5 (pR S (Xi S 904 71 + (v1.toNat : Nat))) := by have t := w127 (by omega); rw [(show Xi T2 908 (Xi T2 950 v2.toNat).toNat = pR S (Xi S 904 71 + (v1.toNat : Nat)) by rw [(hFT2.cx 908 rfl _).1, (hFT2.cx 950 rfl _).1, show v2 = Xi S 904 71 + (v1.toNat : Nat) by omega]; rfl)] at t; exact t
              have x127 : Xi T9 904 106 = 5 := Y127.1
              refine y_iconst rfl ?_
              refine y_istore rfl rfl rfl ?_
              have w270 : Xi T9 904 110 = Xi T2 904 110 := (show Xi T9 904 110 = Xi T2 904 110 from w269.x _ _ rfl)
              have w271 : Xi T9 904 112 = Xi T2 904 112 := (show Xi T9 904 112 = Xi T2 904 112 from w269.x _ _ rfl)
              have w272 : Xi T9 904 15 = Xi T2 904 15 := (show Xi T9 904 15 = Xi T2 904 15 from w269.x _ _ rfl)
              have w273 : Xi T9 904 19 = Xi T2 904 19 := (show Xi T9 904 19 = Xi T2 904 19 from w269.x _ _ rfl)
              have w274 : Xi T9 904 60 = Xi T2 904 60 := (show Xi T9 904 60 = Xi T2 904 60 from w269.x _ _ rfl)
              have w275 : Xi T9 904 70 = Xi T2 904 70 := (show Xi T9 904 70 = Xi T2 904 70 from w269.x _ _ rfl)
              have w276 : Xi T9 904 71 = Xi T2 904 71 := (show Xi T9 904 71 = Xi T2 904 71 from w269.x _ _ rfl)
              have w277 : Xi T9 904 72 = Xi T2 904 72 := (show Xi T9 904 72 = Xi T2 904 72 from w269.x _ _ rfl)
              have w278 : Xi T9 904 73 = Xi T2 904 73 := (show Xi T9 904 73 = Xi T2 904 73 from w269.x _ _ rfl)
              have w279 : Xi T9 904 74 = Xi T2 904 74 := (show Xi T9 904 74 = Xi T2 904 74 from w269.x _ _ rfl)
              exact Pl_weak (C133 n2 (by omega) T9 hHT9 hFT9 (v1) (v2) (v3) (0) (by omega) (by omega) (by omega) (by omega) (by omega) (by omega) (by omega) (by omega) (by omega) (by first | (have t := K173; exact fun q => by omega) | (have t := K159; exact fun _ => ⟨by obtain ⟨W, A, C, b1, b2, b3, b4⟩ := B149.o.1; rw [show (v4 + 1).toNat = v4.toNat + 1 by omega]; exact ⟨W, A, C, b1, b2, b3, _, b4, by have t := O159.o; rw [← hzz, show zz = 1 by omega] at t; exact t⟩, K159.o⟩) | (have t := K127; exact fun q => by omega) | (have t := K113; exact fun _ => by obtain ⟨W, b1, b2⟩ := A63.o; exact ⟨⟨W, _, _, b1, b2, Or.inr ⟨by rw [← d83]; omega, by rw [← d113]; omega, rfl⟩, rfl⟩, K63.o⟩) | (have t := K98; exact fun _ => by obtain ⟨W, b1, b2⟩ := A63.o; exact ⟨⟨W, _, _, b1, b2, Or.inl ⟨by rw [← d83]; omega, R98⟩, rfl⟩, kpr_s K63.o (SMR_w SMR.rf ee98 (by omega) (by omega)) (by rw [ee98, Xi_ne (by omega)]) (kb3_w R98 K63.o.2.2.2.1 h110) trivial⟩)) (by first | (have t := K173; exact fun _ => by obtain ⟨W, A, C, b1, b2, b3, b4⟩ := B149.o.1; exact ⟨v1.toNat, W, v3, 5, by omega, b1, Or.inr (Or.inl ⟨by omega, rfl, A, C, _, _, v4.toNat, b2, b3, by omega, b4, by have t := O159.o; rw [← hzz, show zz = 0 by omega] at t; exact t⟩), Y173⟩) | (have t := K159; exact fun q => absurd x159 q) | (have t := K127; exact fun _ => by obtain ⟨W, b1, b2⟩ := A63.o; exact ⟨v1.toNat, W, v3, 5, by omega, b1, Or.inl ⟨by omega, rfl, _, b2, by rw [← d83]; omega, by rw [← d113]; omega⟩, Y127⟩) | exact fun q => absurd (by omega) q) (by omega) (by omega) (by omega) (by omega) (by omega) (by omega) (by omega)) (by omega) (And.intro rfl (And.intro rfl (And.intro rfl (And.intro rfl (And.intro rfl (True.intro))))))
          · refine y_aload_n rfl rfl ?_
            refine y_gfr rfl rfl rfl rfl rfl (hHT2.r 904 20 918 rfl) ?_
            refine y_iload_n rfl rfl ?_
            refine y_aload_n rfl rfl ?_
            refine y_gfi rfl rfl rfl rfl rfl ?_
            refine y_iastoreP (n := 24) rfl rfl (by unfold rg; omega) (fun w280 w281 => ?_)
            obtain ⟨U10, eU10⟩ : ∃ T : sS, T = uI T2 918 ((v3).toNat) (Int32.ofInt (Xi T2 904 110)) := ⟨_, rfl⟩
            rw [← eU10]
            have hHU10 : RI U10 := by rw [eU10]; exact RI_w hHT2
            have hFU10 : FR md_mo_doDescribed__p S U10 := by rw [eU10]; exact FR.wI hFT2 (mdf_i (r := (918, 919, 0, 100000)) (List.mem_of_getElem? (i := 10) rfl) (inR_i (by omega) (by omega) (by omega) (by omega)))
            have w282 : Xi U10 918 ((v3).toNat) = (Xi T2 904 110) := by rw [eU10]; exact Xi_same (by unfold rg; omega)
            have K98 : True := trivial
            have ee98 := eU10
            have R98 : U10 = uI T2 918 v3.toNat (Int32.ofInt (Xi S 904 110)) := by rw [eU10, show Xi T2 904 110 = Xi S 904 110 by omega]
            refine y_goto rfl rfl ?_
            refine y_iconst rfl ?_
            refine y_istore rfl rfl rfl ?_
            have w283 : Xi U10 904 106 = Xi T2 904 106 := (show Xi U10 904 106 = Xi T2 904 106 from by rw [eU10]; exact Xi_ne (by omega))
            have w284 : Xi U10 904 110 = Xi T2 904 110 := (show Xi U10 904 110 = Xi T2 904 110 from by rw [eU10]; exact Xi_ne (by omega))
            have w285 : Xi U10 904 112 = Xi T2 904 112 := (show Xi U10 904 112 = Xi T2 904 112 from by rw [eU10]; exact Xi_ne (by omega))
            have w286 : Xi U10 904 15 = Xi T2 904 15 := (show Xi U10 904 15 = Xi T2 904 15 from by rw [eU10]; exact Xi_ne (by omega))
            have w287 : Xi U10 904 19 = Xi T2 904 19 := (show Xi U10 904 19 = Xi T2 904 19 from by rw [eU10]; exact Xi_ne (by omega))
            have w288 : Xi U10 904 60 = Xi T2 904 60 := (show Xi U10 904 60 = Xi T2 904 60 from by rw [eU10]; exact Xi_ne (by omega))
            have w289 : Xi U10 904 70 = Xi T2 904 70 := (show Xi U10 904 70 = Xi T2 904 70 from by rw [eU10]; exact Xi_ne (by omega))
            have w290 : Xi U10 904 71 = Xi T2 904 71 := (show Xi U10 904 71 = Xi T2 904 71 from by rw [eU10]; exact Xi_ne (by omega))
            have w291 : Xi U10 904 72 = Xi T2 904 72 := (show Xi U10 904 72 = Xi T2 904 72 from by rw [eU10]; exact Xi_ne (by omega))
            have w292 : Xi U10 904 73 = Xi T2 904 73 := (show Xi U10 904 73 = Xi T2 904 73 from by rw [eU10]; exact Xi_ne (by omega))
            have w293 : Xi U10 904 74 = Xi T2 904 74 := (show Xi U10 904 74 = Xi T2 904 74 from by rw [eU10]; exact Xi_ne (by omega))
            exact Pl_weak (C133 n2 (by omega) U10 hHU10 hFU10 (v1) (v2) (v3) (0) (by omega) (by omega) (by omega) (by omega) (by omega) (by omega) (by omega) (by omega) (by omega) (by first | (have t := K173; exact fun q => by omega) | (have t := K159; exact fun _ => ⟨by obtain ⟨W, A, C, b1, b2, b3, b4⟩ := B149.o.1; rw [show (v4 + 1).toNat = v4.toNat + 1 by omega]; exact ⟨W, A, C, b1, b2, b3, _, b4, by have t := O159.o; rw [← hzz, show zz = 1 by omega] at t; exact t⟩, K159.o⟩) | (have t := K127; exact fun q => by omega) | (have t := K113; exact fun _ => by obtain ⟨W, b1, b2⟩ := A63.o; exact ⟨⟨W, _, _, b1, b2, Or.inr ⟨by rw [← d83]; omega, by rw [← d113]; omega, rfl⟩, rfl⟩, K63.o⟩) | (have t := K98; exact fun _ => by obtain ⟨W, b1, b2⟩ := A63.o; exact ⟨⟨W, _, _, b1, b2, Or.inl ⟨by rw [← d83]; omega, R98⟩, rfl⟩, kpr_s K63.o (SMR_w SMR.rf ee98 (by omega) (by omega)) (by rw [ee98, Xi_ne (by omega)]) (kb3_w R98 K63.o.2.2.2.1 h110) trivial⟩)) (by first | (have t := K173; exact fun _ => by obtain ⟨W, A, C, b1, b2, b3, b4⟩ := B149.o.1; exact ⟨v1.toNat, W, v3, 5, by omega, b1, Or.inr (Or.inl ⟨by omega, rfl, A, C, _, _, v4.toNat, b2, b3, by omega, b4, by have t := O159.o; rw [← hzz, show zz = 0 by omega] at t; exact t⟩), Y173⟩) | (have t := K159; exact fun q => absurd x159 q) | (have t := K127; exact fun _ => by obtain ⟨W, b1, b2⟩ := A63.o; exact ⟨v1.toNat, W, v3, 5, by omega, b1, Or.inl ⟨by omega, rfl, _, b2, by rw [← d83]; omega, by rw [← d113]; omega⟩, Y127⟩) | exact fun q => absurd (by omega) q) (by omega) (by omega) (by omega) (by omega) (by omega) (by omega) (by omega)) (by omega) (And.intro rfl (And.intro rfl (And.intro rfl (And.intro rfl (And.intro rfl (True.intro))))))
      refine ys_iload_n rfl rfl ?_
      refine y_aload_n rfl rfl ?_
      refine y_gfi rfl rfl rfl rfl rfl ?_
      refine y_icmp_ge rfl rfl (by unfold rg; omega) (by unfold rg; omega) (fun w294 => ?_) (fun w295 => ?_)
      · refine y_return rfl rfl ?_
        exact ⟨hHT1, hFT1, rfl, (by by_cases q : Xi T1 904 106 = 0; (have t := (D2.o q).1; rw [show v1 = Xi S 904 72 by omega] at t; exact Or.inl ⟨q, t⟩); exact Or.inr ⟨q, G2.o q⟩)⟩
      · refine y_aload_n rfl rfl ?_
        refine y_gfi rfl rfl rfl rfl rfl ?_
        refine y_if_ne rfl rfl (by unfold rg; omega) (fun w296 => ?_) (fun w297 => ?_)
        · refine y_return rfl rfl ?_
          exact ⟨hHT1, hFT1, rfl, (by by_cases q : Xi T1 904 106 = 0; (have t := (D2.o q).1; rw [show v1 = Xi S 904 72 by omega] at t; exact Or.inl ⟨q, t⟩); exact Or.inr ⟨q, G2.o q⟩)⟩
        · refine y_aload_n rfl rfl ?_
          have D17 := D2.o (by omega)
          have k17 := D17.2.2.2.2.2.2.2.2
          have j17 := D17.2.2.2.2.2.2.2.1
          refine y_gfi rfl rfl rfl rfl rfl ?_
          refine y_iload_n rfl rfl ?_
          refine y_iadd rfl ?_
          refine y_istore_n rfl rfl rfl ?_
          refine y_aload_n rfl rfl ?_
          have e24 : ((Xi T1 904 71) + v1) = Xi S 904 71 + (v1.toNat : Nat) := by omega
          refine y_iload_n rfl rfl ?_
          refine y_aload_n rfl rfl ?_
          refine y_gfi rfl rfl rfl rfl rfl ?_
          refine y_bipush rfl rfl ?_
          refine y_icmp_ne rfl rfl (by unfold rg; omega) (by unfold rg; omega) (fun w298 => ?_) (fun w299 => ?_)
          · refine y_aload_n rfl rfl ?_
            refine y_gfi rfl rfl rfl rfl rfl ?_
            refine y_callV rfl rfl rfl (t_mo_objectTold__p hHT1 ((Xi T1 904 71) + v1) (Xi T1 904 110) ⟨by omega, by omega⟩ ⟨by omega, by omega⟩ (D17.2.2.1) (D17.2.2.2.2.2.2.2.1) (by first | assumption | exact (RBD_FR hFT1 rfl (by assumption : RBD S))) (by first | assumption | omega) (fun y => (otr_c (hlq.o v1.toNat (by omega)) D17.2.1 k17.2 (by rw [← e24]; exact y)).1) _) ?_
            rintro _ T11 ⟨hHT11, w301, z300, rfl, w300, o43_⟩
            have hFT11 : FR md_mo_doDescribed__p S T11 := FR.tr hFT1 w301 rfl
            show Pl _ _ _ _ _ _ [iv z300] _ _
            have O43 : Hid (OTR T1 T11 z300 (Xi S 904 71 + (v1.toNat : Nat)) (if Xi S 904 70 = 13 then 0 else Xi S 904 110)) := by have t := o43_; rw [show (((Xi T1 904 71) + v1) : Int) = Xi S 904 71 + (v1.toNat : Nat) by omega] at t; first | (rw [if_pos (by omega)]; exact t) | (rw [if_neg (by omega)]; rw [show Xi T1 904 110 = Xi S 904 110 by omega] at t; exact t)
            clear o43_
            have F43 := (by assumption : FR md_mo_objectTold__p T1 T11)
            have Q43 := Hid.i (kpr_o D17.2 (hlq.o _ (by omega)) O43.o F43 rfl rfl (by split <;> omega))
            have u43 : 0 ≤ z300 ∧ z300 ≤ 23 := Q43.o.2
            obtain ⟨zz, hzz⟩ : ∃ w : Int, w = z300 := ⟨_, rfl⟩
            refine y_istore_n rfl rfl rfl ?_
            refine y_aload_n rfl rfl ?_
            refine y_iload_n rfl rfl ?_
            refine y_if_ne rfl rfl (by unfold rg; omega) (fun w302 => ?_) (fun w303 => ?_)
            · refine y_aload_n rfl rfl ?_
              refine y_gfi rfl rfl rfl rfl rfl ?_
              have w304 : (Xi T11 904 60) = (Xi T1 904 60) := (show Xi T11 904 60 = Xi T1 904 60 from w301.x _ _ rfl)
              rw [w304]
              refine y_pfi rfl rfl rfl rfl ?_
              obtain ⟨U12, eU12⟩ : ∃ T : sS, T = uI T11 904 60 (Int32.ofInt (Xi T1 904 60)) := ⟨_, rfl⟩
              rw [← eU12]
              have hHU12 : RI U12 := by rw [eU12]; exact RI_w hHT11
              have hFU12 : FR md_mo_doDescribed__p S U12 := by rw [eU12]; exact FR.wI hFT11 (mdf_i (r := (904, 905, 60, 61)) (List.mem_of_getElem? (i := 2) rfl) (inR_i (by omega) (by omega) (by omega) (by omega)))
              have w305 : Xi U12 904 60 = (Xi T1 904 60) := by rw [eU12]; exact Xi_same (by unfold rg; omega)
              have ee60 := eU12
              have K60 : Hid (KPR S U12 (v1.toNat + 1)) := kpr_s Q43.o.1 (SMR_w SMR.rf eU12 (by omega) (by omega)) (by rw [eU12, Xi_ne (by omega)]) (fun j => by rw [eU12, Xi_ne (by omega)]; exact Q43.o.1.2.2.2.1 j) trivial
              have w306 : Xi U12 904 106 = Xi T1 904 106 := (show Xi U12 904 106 = Xi T11 904 106 from by rw [eU12]; exact Xi_ne (by omega)).trans ((show Xi T11 904 106 = Xi T1 904 106 from w301.x _ _ rfl))
              have w307 : Xi U12 904 110 = Xi T1 904 110 := (show Xi U12 904 110 = Xi T11 904 110 from by rw [eU12]; exact Xi_ne (by omega)).trans ((show Xi T11 904 110 = Xi T1 904 110 from w301.x _ _ rfl))
              have w308 : Xi U12 904 112 = Xi T1 904 112 := (show Xi U12 904 112 = Xi T11 904 112 from by rw [eU12]; exact Xi_ne (by omega)).trans ((show Xi T11 904 112 = Xi T1 904 112 from w301.x _ _ rfl))
              have w309 : Xi U12 904 15 = Xi T11 904 15 := (show Xi U12 904 15 = Xi T11 904 15 from by rw [eU12]; exact Xi_ne (by omega))
              have w310 : Xi U12 904 19 = Xi T11 904 19 := (show Xi U12 904 19 = Xi T11 904 19 from by rw [eU12]; exact Xi_ne (by omega))
              have w311 : Xi U12 904 70 = Xi T1 904 70 := (show Xi U12 904 70 = Xi T11 904 70 from by rw [eU12]; exact Xi_ne (by omega)).trans ((show Xi T11 904 70 = Xi T1 904 70 from w301.x _ _ rfl))
              have w312 : Xi U12 904 71 = Xi T1 904 71 := (show Xi U12 904 71 = Xi T11 904 71 from by rw [eU12]; exact Xi_ne (by omega)).trans ((show Xi T11 904 71 = Xi T1 904 71 from w301.x _ _ rfl))
              have w313 : Xi U12 904 72 = Xi T1 904 72 := (show Xi U12 904 72 = Xi T11 904 72 from by rw [eU12]; exact Xi_ne (by omega)).trans ((show Xi T11 904 72 = Xi T1 904 72 from w301.x _ _ rfl))
              have w314 : Xi U12 904 73 = Xi T1 904 73 := (show Xi U12 904 73 = Xi T11 904 73 from by rw [eU12]; exact Xi_ne (by omega)).trans ((show Xi T11 904 73 = Xi T1 904 73 from w301.x _ _ rfl))
              have w315 : Xi U12 904 74 = Xi T1 904 74 := (show Xi U12 904 74 = Xi T11 904 74 from by rw [eU12]; exact Xi_ne (by omega)).trans ((show Xi T11 904 74 = Xi T1 904 74 from w301.x _ _ rfl))
              exact Pl_weak (C63 U12 hHU12 hFU12 (v1) (((Xi T1 904 71) + v1)) (z300) (by omega) (by omega) (by omega) (by omega) (by omega) (by omega) (by omega) (by exact ⟨_, D17.1, _, O43.o, F43, by rw [ee60]; unfold sD; first | (rw [if_pos (by omega)]) | (rw [if_neg (by omega), F43.x 904 60 rfl])⟩) (K60) (by omega) (by omega) (by omega) (by omega) (by omega) (by omega) (by omega)) (by omega) (And.intro rfl (And.intro rfl (And.intro rfl (And.intro rfl (True.intro)))))
            · refine y_iload_n rfl rfl ?_
              refine y_goto rfl rfl ?_
              refine y_pfi rfl rfl rfl rfl ?_
              obtain ⟨U13, eU13⟩ : ∃ T : sS, T = uI T11 904 60 (Int32.ofInt z300) := ⟨_, rfl⟩
              rw [← eU13]
              have hHU13 : RI U13 := by rw [eU13]; exact RI_w hHT11
              have hFU13 : FR md_mo_doDescribed__p S U13 := by rw [eU13]; exact FR.wI hFT11 (mdf_i (r := (904, 905, 60, 61)) (List.mem_of_getElem? (i := 2) rfl) (inR_i (by omega) (by omega) (by omega) (by omega)))
              have w316 : Xi U13 904 60 = z300 := by rw [eU13]; exact Xi_same (by unfold rg; omega)
              have ee60 := eU13
              have K60 : Hid (KPR S U13 (v1.toNat + 1)) := kpr_s Q43.o.1 (SMR_w SMR.rf eU13 (by omega) (by omega)) (by rw [eU13, Xi_ne (by omega)]) (fun j => by rw [eU13, Xi_ne (by omega)]; exact Q43.o.1.2.2.2.1 j) trivial
              have w317 : Xi U13 904 106 = Xi T1 904 106 := (show Xi U13 904 106 = Xi T11 904 106 from by rw [eU13]; exact Xi_ne (by omega)).trans ((show Xi T11 904 106 = Xi T1 904 106 from w301.x _ _ rfl))
              have w318 : Xi U13 904 110 = Xi T1 904 110 := (show Xi U13 904 110 = Xi T11 904 110 from by rw [eU13]; exact Xi_ne (by omega)).trans ((show Xi T11 904 110 = Xi T1 904 110 from w301.x _ _ rfl))
              have w319 : Xi U13 904 112 = Xi T1 904 112 := (show Xi U13 904 112 = Xi T11 904 112 from by rw [eU13]; exact Xi_ne (by omega)).trans ((show Xi T11 904 112 = Xi T1 904 112 from w301.x _ _ rfl))
              have w320 : Xi U13 904 15 = Xi T11 904 15 := (show Xi U13 904 15 = Xi T11 904 15 from by rw [eU13]; exact Xi_ne (by omega))
              have w321 : Xi U13 904 19 = Xi T11 904 19 := (show Xi U13 904 19 = Xi T11 904 19 from by rw [eU13]; exact Xi_ne (by omega))
              have w322 : Xi U13 904 70 = Xi T1 904 70 := (show Xi U13 904 70 = Xi T11 904 70 from by rw [eU13]; exact Xi_ne (by omega)).trans ((show Xi T11 904 70 = Xi T1 904 70 from w301.x _ _ rfl))
              have w323 : Xi U13 904 71 = Xi T1 904 71 := (show Xi U13 904 71 = Xi T11 904 71 from by rw [eU13]; exact Xi_ne (by omega)).trans ((show Xi T11 904 71 = Xi T1 904 71 from w301.x _ _ rfl))
              have w324 : Xi U13 904 72 = Xi T1 904 72 := (show Xi U13 904 72 = Xi T11 904 72 from by rw [eU13]; exact Xi_ne (by omega)).trans ((show Xi T11 904 72 = Xi T1 904 72 from w301.x _ _ rfl))
              have w325 : Xi U13 904 73 = Xi T1 904 73 := (show Xi U13 904 73 = Xi T11 904 73 from by rw [eU13]; exact Xi_ne (by omega)).trans ((show Xi T11 904 73 = Xi T1 904 73 from w301.x _ _ rfl))
              have w326 : Xi U13 904 74 = Xi T1 904 74 := (show Xi U13 904 74 = Xi T11 904 74 from by rw [eU13]; exact Xi_ne (by omega)).trans ((show Xi T11 904 74 = Xi T1 904 74 from w301.x _ _ rfl))
              exact Pl_weak (C63 U13 hHU13 hFU13 (v1) (((Xi T1 904 71) + v1)) (z300) (by omega) (by omega) (by omega) (by omega) (by omega) (by omega) (by omega) (by exact ⟨_, D17.1, _, O43.o, F43, by rw [ee60]; unfold sD; first | (rw [if_pos (by omega)]) | (rw [if_neg (by omega), F43.x 904 60 rfl])⟩) (K60) (by omega) (by omega) (by omega) (by omega) (by omega) (by omega) (by omega)) (by omega) (And.intro rfl (And.intro rfl (And.intro rfl (And.intro rfl (True.intro)))))
          · refine y_iconst rfl ?_
            refine y_goto rfl rfl ?_
            refine y_callV rfl rfl rfl (t_mo_objectTold__p hHT1 ((Xi T1 904 71) + v1) 0 ⟨by omega, by omega⟩ ⟨by omega, by omega⟩ (D17.2.2.1) (D17.2.2.2.2.2.2.2.1) (by first | assumption | exact (RBD_FR hFT1 rfl (by assumption : RBD S))) (by first | assumption | omega) (fun y => (otr_c (hlq.o v1.toNat (by omega)) D17.2.1 k17.2 (by rw [← e24]; exact y)).1) _) ?_
            rintro _ T14 ⟨hHT14, w328, z327, rfl, w327, o43_⟩
            have hFT14 : FR md_mo_doDescribed__p S T14 := FR.tr hFT1 w328 rfl
            show Pl _ _ _ _ _ _ [iv z327] _ _
            have O43 : Hid (OTR T1 T14 z327 (Xi S 904 71 + (v1.toNat : Nat)) (if Xi S 904 70 = 13 then 0 else Xi S 904 110)) := by have t := o43_; rw [show (((Xi T1 904 71) + v1) : Int) = Xi S 904 71 + (v1.toNat : Nat) by omega] at t; first | (rw [if_pos (by omega)]; exact t) | (rw [if_neg (by omega)]; rw [show Xi T1 904 110 = Xi S 904 110 by omega] at t; exact t)
            clear o43_
            have F43 := (by assumption : FR md_mo_objectTold__p T1 T14)
            have Q43 := Hid.i (kpr_o D17.2 (hlq.o _ (by omega)) O43.o F43 rfl rfl (by split <;> omega))
            have u43 : 0 ≤ z327 ∧ z327 ≤ 23 := Q43.o.2
            obtain ⟨zz, hzz⟩ : ∃ w : Int, w = z327 := ⟨_, rfl⟩
            refine y_istore_n rfl rfl rfl ?_
            refine y_aload_n rfl rfl ?_
            refine y_iload_n rfl rfl ?_
            refine y_if_ne rfl rfl (by unfold rg; omega) (fun w329 => ?_) (fun w330 => ?_)
            · refine y_aload_n rfl rfl ?_
              refine y_gfi rfl rfl rfl rfl rfl ?_
              have w331 : (Xi T14 904 60) = (Xi T1 904 60) := (show Xi T14 904 60 = Xi T1 904 60 from w328.x _ _ rfl)
              rw [w331]
              refine y_pfi rfl rfl rfl rfl ?_
              obtain ⟨U15, eU15⟩ : ∃ T : sS, T = uI T14 904 60 (Int32.ofInt (Xi T1 904 60)) := ⟨_, rfl⟩
              rw [← eU15]
              have hHU15 : RI U15 := by rw [eU15]; exact RI_w hHT14
              have hFU15 : FR md_mo_doDescribed__p S U15 := by rw [eU15]; exact FR.wI hFT14 (mdf_i (r := (904, 905, 60, 61)) (List.mem_of_getElem? (i := 2) rfl) (inR_i (by omega) (by omega) (by omega) (by omega)))
              have w332 : Xi U15 904 60 = (Xi T1 904 60) := by rw [eU15]; exact Xi_same (by unfold rg; omega)
              have ee60 := eU15
              have K60 : Hid (KPR S U15 (v1.toNat + 1)) := kpr_s Q43.o.1 (SMR_w SMR.rf eU15 (by omega) (by omega)) (by rw [eU15, Xi_ne (by omega)]) (fun j => by rw [eU15, Xi_ne (by omega)]; exact Q43.o.1.2.2.2.1 j) trivial
              have w333 : Xi U15 904 106 = Xi T1 904 106 := (show Xi U15 904 106 = Xi T14 904 106 from by rw [eU15]; exact Xi_ne (by omega)).trans ((show Xi T14 904 106 = Xi T1 904 106 from w328.x _ _ rfl))
              have w334 : Xi U15 904 110 = Xi T1 904 110 := (show Xi U15 904 110 = Xi T14 904 110 from by rw [eU15]; exact Xi_ne (by omega)).trans ((show Xi T14 904 110 = Xi T1 904 110 from w328.x _ _ rfl))
              have w335 : Xi U15 904 112 = Xi T1 904 112 := (show Xi U15 904 112 = Xi T14 904 112 from by rw [eU15]; exact Xi_ne (by omega)).trans ((show Xi T14 904 112 = Xi T1 904 112 from w328.x _ _ rfl))
              have w336 : Xi U15 904 15 = Xi T14 904 15 := (show Xi U15 904 15 = Xi T14 904 15 from by rw [eU15]; exact Xi_ne (by omega))
              have w337 : Xi U15 904 19 = Xi T14 904 19 := (show Xi U15 904 19 = Xi T14 904 19 from by rw [eU15]; exact Xi_ne (by omega))
              have w338 : Xi U15 904 70 = Xi T1 904 70 := (show Xi U15 904 70 = Xi T14 904 70 from by rw [eU15]; exact Xi_ne (by omega)).trans ((show Xi T14 904 70 = Xi T1 904 70 from w328.x _ _ rfl))
              have w339 : Xi U15 904 71 = Xi T1 904 71 := (show Xi U15 904 71 = Xi T14 904 71 from by rw [eU15]; exact Xi_ne (by omega)).trans ((show Xi T14 904 71 = Xi T1 904 71 from w328.x _ _ rfl))
              have w340 : Xi U15 904 72 = Xi T1 904 72 := (show Xi U15 904 72 = Xi T14 904 72 from by rw [eU15]; exact Xi_ne (by omega)).trans ((show Xi T14 904 72 = Xi T1 904 72 from w328.x _ _ rfl))
              have w341 : Xi U15 904 73 = Xi T1 904 73 := (show Xi U15 904 73 = Xi T14 904 73 from by rw [eU15]; exact Xi_ne (by omega)).trans ((show Xi T14 904 73 = Xi T1 904 73 from w328.x _ _ rfl))
              have w342 : Xi U15 904 74 = Xi T1 904 74 := (show Xi U15 904 74 = Xi T14 904 74 from by rw [eU15]; exact Xi_ne (by omega)).trans ((show Xi T14 904 74 = Xi T1 904 74 from w328.x _ _ rfl))
              exact Pl_weak (C63 U15 hHU15 hFU15 (v1) (((Xi T1 904 71) + v1)) (z327) (by omega) (by omega) (by omega) (by omega) (by omega) (by omega) (by omega) (by exact ⟨_, D17.1, _, O43.o, F43, by rw [ee60]; unfold sD; first | (rw [if_pos (by omega)]) | (rw [if_neg (by omega), F43.x 904 60 rfl])⟩) (K60) (by omega) (by omega) (by omega) (by omega) (by omega) (by omega) (by omega)) (by omega) (And.intro rfl (And.intro rfl (And.intro rfl (And.intro rfl (True.intro)))))
            · refine y_iload_n rfl rfl ?_
              refine y_goto rfl rfl ?_
              refine y_pfi rfl rfl rfl rfl ?_
              obtain ⟨U16, eU16⟩ : ∃ T : sS, T = uI T14 904 60 (Int32.ofInt z327) := ⟨_, rfl⟩
              rw [← eU16]
              have hHU16 : RI U16 := by rw [eU16]; exact RI_w hHT14
              have hFU16 : FR md_mo_doDescribed__p S U16 := by rw [eU16]; exact FR.wI hFT14 (mdf_i (r := (904, 905, 60, 61)) (List.mem_of_getElem? (i := 2) rfl) (inR_i (by omega) (by omega) (by omega) (by omega)))
              have w343 : Xi U16 904 60 = z327 := by rw [eU16]; exact Xi_same (by unfold rg; omega)
              have ee60 := eU16
              have K60 : Hid (KPR S U16 (v1.toNat + 1)) := kpr_s Q43.o.1 (SMR_w SMR.rf eU16 (by omega) (by omega)) (by rw [eU16, Xi_ne (by omega)]) (fun j => by rw [eU16, Xi_ne (by omega)]; exact Q43.o.1.2.2.2.1 j) trivial
              have w344 : Xi U16 904 106 = Xi T1 904 106 := (show Xi U16 904 106 = Xi T14 904 106 from by rw [eU16]; exact Xi_ne (by omega)).trans ((show Xi T14 904 106 = Xi T1 904 106 from w328.x _ _ rfl))
              have w345 : Xi U16 904 110 = Xi T1 904 110 := (show Xi U16 904 110 = Xi T14 904 110 from by rw [eU16]; exact Xi_ne (by omega)).trans ((show Xi T14 904 110 = Xi T1 904 110 from w328.x _ _ rfl))
              have w346 : Xi U16 904 112 = Xi T1 904 112 := (show Xi U16 904 112 = Xi T14 904 112 from by rw [eU16]; exact Xi_ne (by omega)).trans ((show Xi T14 904 112 = Xi T1 904 112 from w328.x _ _ rfl))
              have w347 : Xi U16 904 15 = Xi T14 904 15 := (show Xi U16 904 15 = Xi T14 904 15 from by rw [eU16]; exact Xi_ne (by omega))
              have w348 : Xi U16 904 19 = Xi T14 904 19 := (show Xi U16 904 19 = Xi T14 904 19 from by rw [eU16]; exact Xi_ne (by omega))
              have w349 : Xi U16 904 70 = Xi T1 904 70 := (show Xi U16 904 70 = Xi T14 904 70 from by rw [eU16]; exact Xi_ne (by omega)).trans ((show Xi T14 904 70 = Xi T1 904 70 from w328.x _ _ rfl))
              have w350 : Xi U16 904 71 = Xi T1 904 71 := (show Xi U16 904 71 = Xi T14 904 71 from by rw [eU16]; exact Xi_ne (by omega)).trans ((show Xi T14 904 71 = Xi T1 904 71 from w328.x _ _ rfl))
              have w351 : Xi U16 904 72 = Xi T1 904 72 := (show Xi U16 904 72 = Xi T14 904 72 from by rw [eU16]; exact Xi_ne (by omega)).trans ((show Xi T14 904 72 = Xi T1 904 72 from w328.x _ _ rfl))
              have w352 : Xi U16 904 73 = Xi T1 904 73 := (show Xi U16 904 73 = Xi T14 904 73 from by rw [eU16]; exact Xi_ne (by omega)).trans ((show Xi T14 904 73 = Xi T1 904 73 from w328.x _ _ rfl))
              have w353 : Xi U16 904 74 = Xi T1 904 74 := (show Xi U16 904 74 = Xi T14 904 74 from by rw [eU16]; exact Xi_ne (by omega)).trans ((show Xi T14 904 74 = Xi T1 904 74 from w328.x _ _ rfl))
              exact Pl_weak (C63 U16 hHU16 hFU16 (v1) (((Xi T1 904 71) + v1)) (z327) (by omega) (by omega) (by omega) (by omega) (by omega) (by omega) (by omega) (by exact ⟨_, D17.1, _, O43.o, F43, by rw [ee60]; unfold sD; first | (rw [if_pos (by omega)]) | (rw [if_neg (by omega), F43.x 904 60 rfl])⟩) (K60) (by omega) (by omega) (by omega) (by omega) (by omega) (by omega) (by omega)) (by omega) (And.intro rfl (And.intro rfl (And.intro rfl (And.intro rfl (True.intro)))))
  refine y_iconst rfl ?_
  refine y_istore_n rfl rfl rfl ?_
  exact Pl_weak (C2 fu (by omega) S hH hF (0) (by omega) (by omega) (by first | (rw [show (v1 + 1).toNat = v1.toNat + 1 by omega]; exact D207) | exact fun _ => ⟨rfl, kpr_0 hLS hLX hkb.o trivial ho4.o h15 ha⟩) (by first | exact G207 | exact fun q => absurd hz0 q) (by omega) (by omega) (by omega) (by omega) (by omega) (by omega) (by omega)) (by omega) (And.intro rfl (And.intro rfl (True.intro)))
def md_mo_does__12 : List rec := [(904, 905, 15, 16), (904, 905, 16, 17), (904, 905, 18, 19), (904, 905, 19, 20), (904, 905, 23, 24), (904, 905, 30, 31), (904, 905, 32, 33), (904, 905, 41, 42), (904, 905, 47, 48), (904, 905, 49, 50), (904, 905, 51, 52), (904, 905, 55, 56), (904, 905, 60, 61), (904, 905, 64, 65), (904, 905, 73, 74), (904, 905, 105, 106), (904, 905, 106, 107), (904, 905, 113, 114), (904, 905, 117, 118), (912, 913, 0, 100000), (913, 914, 0, 100000), (914, 915, 0, 100000), (915, 916, 0, 100000), (916, 917, 0, 100000), (917, 918, 0, 100000), (918, 919, 0, 100000), (919, 920, 0, 100000), (920, 921, 0, 100000), (921, 922, 0, 100000), (922, 923, 0, 100000), (923, 924, 0, 100000), (924, 925, 0, 100000), (925, 926, 0, 100000), (926, 927, 0, 100000), (927, 928, 0, 100000), (928, 929, 0, 100000), (929, 930, 0, 100000), (930, 931, 0, 100000), (931, 932, 0, 100000), (932, 933, 0, 100000), (933, 934, 0, 100000), (934, 935, 0, 100000), (935, 936, 0, 100000), (936, 937, 0, 100000), (937, 938, 0, 100000), (938, 939, 0, 100000), (939, 940, 0, 100000), (940, 941, 0, 100000), (941, 942, 0, 100000), (942, 943, 0, 100000), (943, 944, 0, 100000), (944, 945, 0, 100000), (945, 946, 0, 100000), (946, 947, 0, 100000), (947, 948, 0, 100000), (948, 949, 0, 100000), (949, 950, 0, 100000)]
abbrev Q_mo_does__12 (S : sS) (first : Int) : pst := fun r S1 => RI S1 ∧ FR md_mo_does__12 S S1 ∧ (r = none ∧ (RDB S S1))
set_option maxRecDepth 100000 in
theorem t_mo_does__12 {S : sS} (hH : RI S) (first : Int) (hfirst : 0 ≤ first ∧ first ≤ 5001) (hLS : LSP S) (h15 : 0 ≤ Xi S 904 15) (hRB : RBD S) (hLX : LXR S) (hB : ABV S) (hl : 0 ≤ Xi S 904 71 ∧ Xi S 904 71 ≤ 2600 ∧ 0 ≤ Xi S 904 72 ∧ Xi S 904 72 ≤ 2600) (hkb : Hid (KB3 S)) (ho4 : Hid (OB4 S)) (hct : Hid (∀ j : Nat, -1 ≤ Xi S 922 j ∧ Xi S 922 j ≤ 23)) (hz0 : Xi S 904 106 = 0) (ha : 0 ≤ Xi S 904 19 ∧ Xi S 904 19 ≤ 24) (hr74 : -1 ≤ Xi S 904 74 ∧ Xi S 904 74 ≤ 2600) (hlq : Hid (LOQ S (Xi S 904 71) (Xi S 904 72).toNat)) (h110 : -1 ≤ Xi S 904 110 ∧ Xi S 904 110 ≤ 15) (h112 : 0 ≤ Xi S 904 112 ∧ Xi S 904 112 ≤ 6) (hra : Hid (Xi S 904 70 ≠ 13 → ∀ i : Nat, (i : Int) < Xi S 904 112 → 0 ≤ Xi S 967 i ∧ Xi S 967 i ≤ 7000)) (hs : Xi S 904 70 = 12) (d : Nat) : Mp lay0 (d + 8) m_mo_does [.ref 904, iv first] S (Q_mo_does__12 S first) := by
  refine Mp_R rfl rfl (fun fu => ?_)
  have hF : FR md_mo_does__12 S S := FR.rf
  have w1 : -2147483648 ≤ Xi S 904 106 ∧ Xi S 904 106 ≤ 2147483647 := Xi_rgI
  have w2 : -2147483648 ≤ Xi S 904 110 ∧ Xi S 904 110 ≤ 2147483647 := Xi_rgI
  have w3 : -2147483648 ≤ Xi S 904 112 ∧ Xi S 904 112 ≤ 2147483647 := Xi_rgI
  have w4 : -2147483648 ≤ Xi S 904 15 ∧ Xi S 904 15 ≤ 2147483647 := Xi_rgI
  have w5 : -2147483648 ≤ Xi S 904 19 ∧ Xi S 904 19 ≤ 2147483647 := Xi_rgI
  have w6 : -2147483648 ≤ Xi S 904 70 ∧ Xi S 904 70 ≤ 2147483647 := Xi_rgI
  have w7 : -2147483648 ≤ Xi S 904 71 ∧ Xi S 904 71 ≤ 2147483647 := Xi_rgI
  have w8 : -2147483648 ≤ Xi S 904 72 ∧ Xi S 904 72 ≤ 2147483647 := Xi_rgI
  have w9 : -2147483648 ≤ Xi S 904 74 ∧ Xi S 904 74 ≤ 2147483647 := Xi_rgI
  have C300 : ∀ (n300 : Nat) (_ : n300 ≤ fu) (T1 : sS) (_ : RI T1) (_ : FR md_mo_does__12 S T1) (v2 : Int), (-2147483648 ≤ v2 ∧ v2 ≤ 2147483647) → ((1 : Int) = 0) → Pl n300 lay0 (d + 7) m_mo_does 300 [(0, .ref 904), (2, iv v2)] [] T1 (Q_mo_does__12 S first) := by
    intro n300
    induction n300 with
    | zero => intros; exact Pl_0
    | succ n300 ih300 =>
      intro hm300 T1 hHT1 hFT1 v2 w10 w11
      have w12 : Xi T1 904 110 = Xi S 904 110 := hFT1.x _ _ rfl
      have w13 : Xi T1 904 112 = Xi S 904 112 := hFT1.x _ _ rfl
      have w14 : Xi T1 904 142 = Xi S 904 142 := hFT1.x _ _ rfl
      have w15 : Xi T1 904 69 = Xi S 904 69 := hFT1.x _ _ rfl
      have w16 : Xi T1 904 70 = Xi S 904 70 := hFT1.x _ _ rfl
      have w17 : Xi T1 904 71 = Xi S 904 71 := hFT1.x _ _ rfl
      have w18 : Xi T1 904 72 = Xi S 904 72 := hFT1.x _ _ rfl
      have w19 : Xi T1 904 74 = Xi S 904 74 := hFT1.x _ _ rfl
      have w20 : Xi T1 904 78 = Xi S 904 78 := hFT1.x _ _ rfl
      have w21 : Xi T1 904 94 = Xi S 904 94 := hFT1.x _ _ rfl
      have w22 : Xi T1 951 1 = Xi S 951 1 := hFT1.x _ _ rfl
      have w23 : Xi T1 951 2 = Xi S 951 2 := hFT1.x _ _ rfl
      have w24 : Xi T1 967 0 = Xi S 967 0 := hFT1.x _ _ rfl
      have w25 : -2147483648 ≤ Xi T1 904 106 ∧ Xi T1 904 106 ≤ 2147483647 := Xi_rgI
      have w26 : -2147483648 ≤ Xi T1 904 110 ∧ Xi T1 904 110 ≤ 2147483647 := Xi_rgI
      have w27 : -2147483648 ≤ Xi T1 904 112 ∧ Xi T1 904 112 ≤ 2147483647 := Xi_rgI
      have w28 : -2147483648 ≤ Xi T1 904 15 ∧ Xi T1 904 15 ≤ 2147483647 := Xi_rgI
      have w29 : -2147483648 ≤ Xi T1 904 19 ∧ Xi T1 904 19 ≤ 2147483647 := Xi_rgI
      have w30 : -2147483648 ≤ Xi T1 904 70 ∧ Xi T1 904 70 ≤ 2147483647 := Xi_rgI
      have w31 : -2147483648 ≤ Xi T1 904 71 ∧ Xi T1 904 71 ≤ 2147483647 := Xi_rgI
      have w32 : -2147483648 ≤ Xi T1 904 72 ∧ Xi T1 904 72 ≤ 2147483647 := Xi_rgI
      have w33 : -2147483648 ≤ Xi T1 904 74 ∧ Xi T1 904 74 ≤ 2147483647 := Xi_rgI
      exfalso; omega
  refine y_aload_n rfl rfl ?_
  refine y_gfi rfl rfl rfl rfl rfl ?_
  refine y_tsw rfl rfl rfl rfl (by unfold rg; omega) (fun w34 => ?_) (fun ii tt hii w34 => ?_)
  · refine y_return rfl rfl ?_
    exact ⟨hH, hF, rfl, (by first | (have t := K355; exact o355) | (exfalso; omega))⟩
  · match ii, hii with
    | 0, hii =>
      cases hii
      have w35 : (Xi S 904 70) = 0 := by simpa using w34
      exfalso; omega
    | 1, hii =>
      cases hii
      have w36 : (Xi S 904 70) = 1 := by simpa using w34
      exfalso; omega
    | 2, hii =>
      cases hii
      have w37 : (Xi S 904 70) = 2 := by simpa using w34
      exfalso; omega
    | 3, hii =>
      cases hii
      have w38 : (Xi S 904 70) = 3 := by simpa using w34
      refine y_return rfl rfl ?_
      exact ⟨hH, hF, rfl, (by first | (have t := K355; exact o355) | (exfalso; omega))⟩
    | 4, hii =>
      cases hii
      have w39 : (Xi S 904 70) = 4 := by simpa using w34
      refine y_return rfl rfl ?_
      exact ⟨hH, hF, rfl, (by first | (have t := K355; exact o355) | (exfalso; omega))⟩
    | 5, hii =>
      cases hii
      have w40 : (Xi S 904 70) = 5 := by simpa using w34
      refine y_return rfl rfl ?_
      exact ⟨hH, hF, rfl, (by first | (have t := K355; exact o355) | (exfalso; omega))⟩
    | 6, hii =>
      cases hii
      have w41 : (Xi S 904 70) = 6 := by simpa using w34
      refine y_return rfl rfl ?_
      exact ⟨hH, hF, rfl, (by first | (have t := K355; exact o355) | (exfalso; omega))⟩
    | 7, hii =>
      cases hii
      have w42 : (Xi S 904 70) = 7 := by simpa using w34
      exfalso; omega
    | 8, hii =>
      cases hii
      have w43 : (Xi S 904 70) = 8 := by simpa using w34
      exfalso; omega
    | 9, hii =>
      cases hii
      have w44 : (Xi S 904 70) = 9 := by simpa using w34
      exfalso; omega
    | 10, hii =>
      cases hii
      have w45 : (Xi S 904 70) = 10 := by simpa using w34
      exfalso; omega
    | 11, hii =>
      cases hii
      have w46 : (Xi S 904 70) = 11 := by simpa using w34
      exfalso; omega
    | 12, hii =>
      cases hii
      have w47 : (Xi S 904 70) = 12 := by simpa using w34
      refine y_aload_n rfl rfl ?_
      refine y_callV rfl rfl rfl (t_mo_doDescribed__p hH (by first | assumption | exact (by assumption : LSP S)) (by first | assumption | omega) (by first | assumption | exact (RBD_FR hF rfl (by assumption : RBD S))) (by first | assumption | exact (by assumption : LXR S)) (by first | assumption | exact (by assumption : ABV S)) (by first | assumption | omega) (by first | assumption | omega) (by first | assumption | omega) (by first | assumption | omega) (by first | assumption | omega) (by first | assumption | omega) (by first | assumption | omega) (by first | assumption | omega) (by first | assumption | omega) (by first | assumption | omega) (by first | assumption | omega) _) ?_
      rintro _ T2 ⟨hHT2, w49, rfl, o355⟩
      have hFT2 : FR md_mo_does__12 S T2 := FR.tr hF w49 rfl
      show Pl _ _ _ _ _ _ [] _ _
      have K355 : True := trivial
      refine y_goto rfl rfl ?_
      refine y_return rfl rfl ?_
      exact ⟨hHT2, hFT2, rfl, (by first | (have t := K355; exact o355) | (exfalso; omega))⟩
    | 13, hii =>
      cases hii
      have w56 : (Xi S 904 70) = 13 := by simpa using w34
      refine y_aload_n rfl rfl ?_
      refine y_callV rfl rfl rfl (t_mo_doDescribed__p hH (by first | assumption | exact (by assumption : LSP S)) (by first | assumption | omega) (by first | assumption | exact (RBD_FR hF rfl (by assumption : RBD S))) (by first | assumption | exact (by assumption : LXR S)) (by first | assumption | exact (by assumption : ABV S)) (by first | assumption | omega) (by first | assumption | omega) (by first | assumption | omega) (by first | assumption | omega) (by first | assumption | omega) (by first | assumption | omega) (by first | assumption | omega) (by first | assumption | omega) (by first | assumption | omega) (by first | assumption | omega) (by first | assumption | omega) _) ?_
      rintro _ T3 ⟨hHT3, w58, rfl, o355⟩
      have hFT3 : FR md_mo_does__12 S T3 := FR.tr hF w58 rfl
      show Pl _ _ _ _ _ _ [] _ _
      have K355 : True := trivial
      refine y_goto rfl rfl ?_
      refine y_return rfl rfl ?_
      exact ⟨hHT3, hFT3, rfl, (by first | (have t := K355; exact o355) | (exfalso; omega))⟩
    | 14, hii =>
      cases hii
      have w65 : (Xi S 904 70) = 14 := by simpa using w34
      exfalso; omega
    | 15, hii =>
      cases hii
      have w66 : (Xi S 904 70) = 15 := by simpa using w34
      exfalso; omega
    | 16, hii =>
      cases hii
      have w67 : (Xi S 904 70) = 16 := by simpa using w34
      exfalso; omega
    | 17, hii =>
      cases hii
      have w68 : (Xi S 904 70) = 17 := by simpa using w34
      exfalso; omega
    | 18, hii =>
      cases hii
      have w69 : (Xi S 904 70) = 18 := by simpa using w34
      exfalso; omega
    | 19, hii =>
      cases hii
      have w70 : (Xi S 904 70) = 19 := by simpa using w34
      exfalso; omega
    | 20, hii =>
      cases hii
      have w71 : (Xi S 904 70) = 20 := by simpa using w34
      exfalso; omega
    | n + 21, hii => exact absurd hii (by simp)
def md_mo_does__13 : List rec := [(904, 905, 15, 16), (904, 905, 16, 17), (904, 905, 18, 19), (904, 905, 19, 20), (904, 905, 23, 24), (904, 905, 30, 31), (904, 905, 32, 33), (904, 905, 41, 42), (904, 905, 47, 48), (904, 905, 49, 50), (904, 905, 51, 52), (904, 905, 55, 56), (904, 905, 60, 61), (904, 905, 64, 65), (904, 905, 73, 74), (904, 905, 105, 106), (904, 905, 106, 107), (904, 905, 113, 114), (904, 905, 117, 118), (912, 913, 0, 100000), (913, 914, 0, 100000), (914, 915, 0, 100000), (915, 916, 0, 100000), (916, 917, 0, 100000), (917, 918, 0, 100000), (918, 919, 0, 100000), (919, 920, 0, 100000), (920, 921, 0, 100000), (921, 922, 0, 100000), (922, 923, 0, 100000), (923, 924, 0, 100000), (924, 925, 0, 100000), (925, 926, 0, 100000), (926, 927, 0, 100000), (927, 928, 0, 100000), (928, 929, 0, 100000), (929, 930, 0, 100000), (930, 931, 0, 100000), (931, 932, 0, 100000), (932, 933, 0, 100000), (933, 934, 0, 100000), (934, 935, 0, 100000), (935, 936, 0, 100000), (936, 937, 0, 100000), (937, 938, 0, 100000), (938, 939, 0, 100000), (939, 940, 0, 100000), (940, 941, 0, 100000), (941, 942, 0, 100000), (942, 943, 0, 100000), (943, 944, 0, 100000), (944, 945, 0, 100000), (945, 946, 0, 100000), (946, 947, 0, 100000), (947, 948, 0, 100000), (948, 949, 0, 100000), (949, 950, 0, 100000)]
abbrev Q_mo_does__13 (S : sS) (first : Int) : pst := fun r S1 => RI S1 ∧ FR md_mo_does__13 S S1 ∧ (r = none ∧ (RDB S S1))
set_option maxRecDepth 100000 in
theorem t_mo_does__13 {S : sS} (hH : RI S) (first : Int) (hfirst : 0 ≤ first ∧ first ≤ 5001) (hLS : LSP S) (h15 : 0 ≤ Xi S 904 15) (hRB : RBD S) (hLX : LXR S) (hB : ABV S) (hl : 0 ≤ Xi S 904 71 ∧ Xi S 904 71 ≤ 2600 ∧ 0 ≤ Xi S 904 72 ∧ Xi S 904 72 ≤ 2600) (hkb : Hid (KB3 S)) (ho4 : Hid (OB4 S)) (hct : Hid (∀ j : Nat, -1 ≤ Xi S 922 j ∧ Xi S 922 j ≤ 23)) (hz0 : Xi S 904 106 = 0) (ha : 0 ≤ Xi S 904 19 ∧ Xi S 904 19 ≤ 24) (hr74 : -1 ≤ Xi S 904 74 ∧ Xi S 904 74 ≤ 2600) (hlq : Hid (LOQ S (Xi S 904 71) (Xi S 904 72).toNat)) (h110 : -1 ≤ Xi S 904 110 ∧ Xi S 904 110 ≤ 15) (h112 : 0 ≤ Xi S 904 112 ∧ Xi S 904 112 ≤ 6) (hra : Hid (Xi S 904 70 ≠ 13 → ∀ i : Nat, (i : Int) < Xi S 904 112 → 0 ≤ Xi S 967 i ∧ Xi S 967 i ≤ 7000)) (hs : Xi S 904 70 = 13) (d : Nat) : Mp lay0 (d + 8) m_mo_does [.ref 904, iv first] S (Q_mo_does__13 S first) := by
  refine Mp_R rfl rfl (fun fu => ?_)
  have hF : FR md_mo_does__13 S S := FR.rf
  have w1 : -2147483648 ≤ Xi S 904 106 ∧ Xi S 904 106 ≤ 2147483647 := Xi_rgI
  have w2 : -2147483648 ≤ Xi S 904 110 ∧ Xi S 904 110 ≤ 2147483647 := Xi_rgI
  have w3 : -2147483648 ≤ Xi S 904 112 ∧ Xi S 904 112 ≤ 2147483647 := Xi_rgI
  have w4 : -2147483648 ≤ Xi S 904 15 ∧ Xi S 904 15 ≤ 2147483647 := Xi_rgI
  have w5 : -2147483648 ≤ Xi S 904 19 ∧ Xi S 904 19 ≤ 2147483647 := Xi_rgI
  have w6 : -2147483648 ≤ Xi S 904 70 ∧ Xi S 904 70 ≤ 2147483647 := Xi_rgI
  have w7 : -2147483648 ≤ Xi S 904 71 ∧ Xi S 904 71 ≤ 2147483647 := Xi_rgI
  have w8 : -2147483648 ≤ Xi S 904 72 ∧ Xi S 904 72 ≤ 2147483647 := Xi_rgI
  have w9 : -2147483648 ≤ Xi S 904 74 ∧ Xi S 904 74 ≤ 2147483647 := Xi_rgI
  have C300 : ∀ (n300 : Nat) (_ : n300 ≤ fu) (T1 : sS) (_ : RI T1) (_ : FR md_mo_does__13 S T1) (v2 : Int), (-2147483648 ≤ v2 ∧ v2 ≤ 2147483647) → ((1 : Int) = 0) → Pl n300 lay0 (d + 7) m_mo_does 300 [(0, .ref 904), (2, iv v2)] [] T1 (Q_mo_does__13 S first) := by
    intro n300
    induction n300 with
    | zero => intros; exact Pl_0
    | succ n300 ih300 =>
      intro hm300 T1 hHT1 hFT1 v2 w10 w11
      have w12 : Xi T1 904 110 = Xi S 904 110 := hFT1.x _ _ rfl
      have w13 : Xi T1 904 112 = Xi S 904 112 := hFT1.x _ _ rfl
      have w14 : Xi T1 904 142 = Xi S 904 142 := hFT1.x _ _ rfl
      have w15 : Xi T1 904 69 = Xi S 904 69 := hFT1.x _ _ rfl
      have w16 : Xi T1 904 70 = Xi S 904 70 := hFT1.x _ _ rfl
      have w17 : Xi T1 904 71 = Xi S 904 71 := hFT1.x _ _ rfl
      have w18 : Xi T1 904 72 = Xi S 904 72 := hFT1.x _ _ rfl
      have w19 : Xi T1 904 74 = Xi S 904 74 := hFT1.x _ _ rfl
      have w20 : Xi T1 904 78 = Xi S 904 78 := hFT1.x _ _ rfl
      have w21 : Xi T1 904 94 = Xi S 904 94 := hFT1.x _ _ rfl
      have w22 : Xi T1 951 1 = Xi S 951 1 := hFT1.x _ _ rfl
      have w23 : Xi T1 951 2 = Xi S 951 2 := hFT1.x _ _ rfl
      have w24 : Xi T1 967 0 = Xi S 967 0 := hFT1.x _ _ rfl
      have w25 : -2147483648 ≤ Xi T1 904 106 ∧ Xi T1 904 106 ≤ 2147483647 := Xi_rgI
      have w26 : -2147483648 ≤ Xi T1 904 110 ∧ Xi T1 904 110 ≤ 2147483647 := Xi_rgI
      have w27 : -2147483648 ≤ Xi T1 904 112 ∧ Xi T1 904 112 ≤ 2147483647 := Xi_rgI
      have w28 : -2147483648 ≤ Xi T1 904 15 ∧ Xi T1 904 15 ≤ 2147483647 := Xi_rgI
      have w29 : -2147483648 ≤ Xi T1 904 19 ∧ Xi T1 904 19 ≤ 2147483647 := Xi_rgI
      have w30 : -2147483648 ≤ Xi T1 904 70 ∧ Xi T1 904 70 ≤ 2147483647 := Xi_rgI
      have w31 : -2147483648 ≤ Xi T1 904 71 ∧ Xi T1 904 71 ≤ 2147483647 := Xi_rgI
      have w32 : -2147483648 ≤ Xi T1 904 72 ∧ Xi T1 904 72 ≤ 2147483647 := Xi_rgI
      have w33 : -2147483648 ≤ Xi T1 904 74 ∧ Xi T1 904 74 ≤ 2147483647 := Xi_rgI
      exfalso; omega
  refine y_aload_n rfl rfl ?_
  refine y_gfi rfl rfl rfl rfl rfl ?_
  refine y_tsw rfl rfl rfl rfl (by unfold rg; omega) (fun w34 => ?_) (fun ii tt hii w34 => ?_)
  · refine y_return rfl rfl ?_
    exact ⟨hH, hF, rfl, (by first | (have t := K355; exact o355) | (exfalso; omega))⟩
  · match ii, hii with
    | 0, hii =>
      cases hii
      have w35 : (Xi S 904 70) = 0 := by simpa using w34
      exfalso; omega
    | 1, hii =>
      cases hii
      have w36 : (Xi S 904 70) = 1 := by simpa using w34
      exfalso; omega
    | 2, hii =>
      cases hii
      have w37 : (Xi S 904 70) = 2 := by simpa using w34
      exfalso; omega
    | 3, hii =>
      cases hii
      have w38 : (Xi S 904 70) = 3 := by simpa using w34
      refine y_return rfl rfl ?_
      exact ⟨hH, hF, rfl, (by first | (have t := K355; exact o355) | (exfalso; omega))⟩
    | 4, hii =>
      cases hii
      have w39 : (Xi S 904 70) = 4 := by simpa using w34
      refine y_return rfl rfl ?_
      exact ⟨hH, hF, rfl, (by first | (have t := K355; exact o355) | (exfalso; omega))⟩
    | 5, hii =>
      cases hii
      have w40 : (Xi S 904 70) = 5 := by simpa using w34
      refine y_return rfl rfl ?_
      exact ⟨hH, hF, rfl, (by first | (have t := K355; exact o355) | (exfalso; omega))⟩
    | 6, hii =>
      cases hii
      have w41 : (Xi S 904 70) = 6 := by simpa using w34
      refine y_return rfl rfl ?_
      exact ⟨hH, hF, rfl, (by first | (have t := K355; exact o355) | (exfalso; omega))⟩
    | 7, hii =>
      cases hii
      have w42 : (Xi S 904 70) = 7 := by simpa using w34
      exfalso; omega
    | 8, hii =>
      cases hii
      have w43 : (Xi S 904 70) = 8 := by simpa using w34
      exfalso; omega
    | 9, hii =>
      cases hii
      have w44 : (Xi S 904 70) = 9 := by simpa using w34
      exfalso; omega
    | 10, hii =>
      cases hii
      have w45 : (Xi S 904 70) = 10 := by simpa using w34
      exfalso; omega
    | 11, hii =>
      cases hii
      have w46 : (Xi S 904 70) = 11 := by simpa using w34
      exfalso; omega
    | 12, hii =>
      cases hii
      have w47 : (Xi S 904 70) = 12 := by simpa using w34
      refine y_aload_n rfl rfl ?_
      refine y_callV rfl rfl rfl (t_mo_doDescribed__p hH (by first | assumption | exact (by assumption : LSP S)) (by first | assumption | omega) (by first | assumption | exact (RBD_FR hF rfl (by assumption : RBD S))) (by first | assumption | exact (by assumption : LXR S)) (by first | assumption | exact (by assumption : ABV S)) (by first | assumption | omega) (by first | assumption | omega) (by first | assumption | omega) (by first | assumption | omega) (by first | assumption | omega) (by first | assumption | omega) (by first | assumption | omega) (by first | assumption | omega) (by first | assumption | omega) (by first | assumption | omega) (by first | assumption | omega) _) ?_
      rintro _ T2 ⟨hHT2, w49, rfl, o355⟩
      have hFT2 : FR md_mo_does__13 S T2 := FR.tr hF w49 rfl
      show Pl _ _ _ _ _ _ [] _ _
      have K355 : True := trivial
      refine y_goto rfl rfl ?_
      refine y_return rfl rfl ?_
      exact ⟨hHT2, hFT2, rfl, (by first | (have t := K355; exact o355) | (exfalso; omega))⟩
    | 13, hii =>
      cases hii
      have w56 : (Xi S 904 70) = 13 := by simpa using w34
      refine y_aload_n rfl rfl ?_
      refine y_callV rfl rfl rfl (t_mo_doDescribed__p hH (by first | assumption | exact (by assumption : LSP S)) (by first | assumption | omega) (by first | assumption | exact (RBD_FR hF rfl (by assumption : RBD S))) (by first | assumption | exact (by assumption : LXR S)) (by first | assumption | exact (by assumption : ABV S)) (by first | assumption | omega) (by first | assumption | omega) (by first | assumption | omega) (by first | assumption | omega) (by first | assumption | omega) (by first | assumption | omega) (by first | assumption | omega) (by first | assumption | omega) (by first | assumption | omega) (by first | assumption | omega) (by first | assumption | omega) _) ?_
      rintro _ T3 ⟨hHT3, w58, rfl, o355⟩
      have hFT3 : FR md_mo_does__13 S T3 := FR.tr hF w58 rfl
      show Pl _ _ _ _ _ _ [] _ _
      have K355 : True := trivial
      refine y_goto rfl rfl ?_
      refine y_return rfl rfl ?_
      exact ⟨hHT3, hFT3, rfl, (by first | (have t := K355; exact o355) | (exfalso; omega))⟩
    | 14, hii =>
      cases hii
      have w65 : (Xi S 904 70) = 14 := by simpa using w34
      exfalso; omega
    | 15, hii =>
      cases hii
      have w66 : (Xi S 904 70) = 15 := by simpa using w34
      exfalso; omega
    | 16, hii =>
      cases hii
      have w67 : (Xi S 904 70) = 16 := by simpa using w34
      exfalso; omega
    | 17, hii =>
      cases hii
      have w68 : (Xi S 904 70) = 17 := by simpa using w34
      exfalso; omega
    | 18, hii =>
      cases hii
      have w69 : (Xi S 904 70) = 18 := by simpa using w34
      exfalso; omega
    | 19, hii =>
      cases hii
      have w70 : (Xi S 904 70) = 19 := by simpa using w34
      exfalso; omega
    | 20, hii =>
      cases hii
      have w71 : (Xi S 904 70) = 20 := by simpa using w34
      exfalso; omega
    | n + 21, hii => exact absurd hii (by simp)
end
