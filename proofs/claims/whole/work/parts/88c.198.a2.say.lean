section
/-! rules of the class: say -/
def brF (B : Nat → Int) (f : Int) : Nat → Option (Int × List (Int × Int))
  | 0 => some (-1, [])
  | n + 1 => match brF B f n with
    | none => none
    | some (o, L) => if B (f + n).toNat = 91 then (if o = -1 then some (f + n, L) else none) else if B (f + n).toNat = 93 then (if o = -1 then none else some (-1, (o, f + n) :: L)) else some (o, L)
theorem brF_1 {B : Nat → Int} {f o : Int} {n : Nat} {L : List (Int × Int)} (h : brF B f n = some (o, L)) : brF B f (n + 1) = (if B (f + n).toNat = 91 then (if o = -1 then some (f + n, L) else none) else if B (f + n).toNat = 93 then (if o = -1 then none else some (-1, (o, f + n) :: L)) else some (o, L)) := by
  rw [brF, h]
theorem brF_0 {B : Nat → Int} {f : Int} {n : Nat} (h : brF B f n = none) : brF B f (n + 1) = none := by
  rw [brF, h]
theorem br_m {B : Nat → Int} {f : Int} {n : Nat} (h : brF B f n = none) : ∀ d : Nat, brF B f (n + d) = none
  | 0 => h
  | d + 1 => brF_0 (br_m h d)
theorem br_o {B : Nat → Int} {f o p : Int} {L : List (Int × Int)} (h : brF B f (p - f).toNat = some (o, L)) (hp : f ≤ p) (ho : o = -1) (hb : B p.toNat = 91) : brF B f (p + 1 - f).toNat = some (p, L) := by
  have e : f + ((p - f).toNat : Int) = p := by omega
  rw [show (p + 1 - f).toNat = (p - f).toNat + 1 by omega, brF_1 h, e, if_pos hb, if_pos ho]
theorem brk_c {B : Nat → Int} {f o p : Int} {L : List (Int × Int)} (h : brF B f (p - f).toNat = some (o, L)) (hp : f ≤ p) (ho : o ≠ -1) (hb : B p.toNat = 93) : brF B f (p + 1 - f).toNat = some (-1, (o, p) :: L) := by
  have e : f + ((p - f).toNat : Int) = p := by omega
  rw [show (p + 1 - f).toNat = (p - f).toNat + 1 by omega, brF_1 h, e, if_neg (by omega), if_pos hb, if_neg ho]
theorem br_k {B : Nat → Int} {f o p : Int} {L : List (Int × Int)} (h : brF B f (p - f).toNat = some (o, L)) (hp : f ≤ p) (h1 : B p.toNat ≠ 91) (h2 : B p.toNat ≠ 93) : brF B f (p + 1 - f).toNat = some (o, L) := by
  have e : f + ((p - f).toNat : Int) = p := by omega
  rw [show (p + 1 - f).toNat = (p - f).toNat + 1 by omega, brF_1 h, e, if_neg h1, if_neg h2]
theorem br_x {B : Nat → Int} {f o p : Int} {n : Nat} {L : List (Int × Int)} (h : brF B f (p - f).toNat = some (o, L)) (hp : f ≤ p) (hn : p < f + n) (hb : (B p.toNat = 91 ∧ o ≠ -1) ∨ (B p.toNat = 93 ∧ o = -1)) : brF B f n = none := by
  have e : f + ((p - f).toNat : Int) = p := by omega
  have u : brF B f ((p - f).toNat + 1) = none := by
    rw [brF_1 h, e]
    rcases hb with ⟨a, b⟩ | ⟨a, b⟩
    · rw [if_pos a, if_neg b]
    · rw [if_neg (by omega), if_pos a, if_pos b]
  have t := br_m u (n - ((p - f).toNat + 1))
  rw [show (p - f).toNat + 1 + (n - ((p - f).toNat + 1)) = n by omega] at t
  exact t
def ICH (S : sS) (ts : Nat) : List (Int × Int) → sS → Prop
  | [], T => T = S
  | (o, q) :: L, T => ∃ W : sS, ICH S ts L W ∧ FR md_rr_insert__p W T ∧ INO W T ts (o + 1) q 1
def syW (S : sS) (cl : Nat) (row : Int) : sS := uI (uI (uI (uI S (276 + cl) 0 (Int32.ofInt 7)) (276 + cl) 3 (Int32.ofInt (Xi S 246 8))) (276 + cl) 4 (Int32.ofInt (pc7 S row + 1))) (276 + cl) 5 (Int32.ofInt (Xj S 879 row.toNat))
theorem syW_of {S A B C D : sS} {cl : Nat} {row a b c : Int} (e1 : A = uI S (276 + cl) 0 (Int32.ofInt 7)) (e2 : B = uI A (276 + cl) 3 (Int32.ofInt a)) (e3 : C = uI B (276 + cl) 4 (Int32.ofInt b)) (e4 : D = uI C (276 + cl) 5 (Int32.ofInt c)) (ha : a = Xi S 246 8) (hb : b = pc7 S row + 1) (hc : c = Xj S 879 row.toNat) : D = syW S cl row := by
  subst ha hb hc e1 e2 e3
  exact e4
def ROK (S T : sS) : Prop := (Xi T 876 7 = Xi S 876 7 ∧ ∀ r, Xi T 877 r = Xi S 877 r ∧ Xi T 878 r = Xi S 878 r ∧ Xj T 879 r = Xj S 879 r) ∨ RWW S T
def SYL (S T : sS) (ts cl : Nat) (row p o : Int) : Prop := ∃ L : List (Int × Int), brF (Xi S ts) (pc7 S row + 1) (p - (pc7 S row + 1)).toNat = some (o, L) ∧ ICH (syW S cl row) ts L T ∧ KR S T (Xi S 876 6) ∧ PLH S T ∧ KCL S T cl ∧ CLM T cl 7 0 (-1) (Xi S 246 8) (pc7 S row + 1) (Xj S 879 row.toNat) (-1) ∧ ROK S T
theorem syl_0 {S T : sS} {ts cl : Nat} {row p : Int} (e : T = syW S cl row) (hp : p = pc7 S row + 1) (hcl : cl < 600) (c : CLM S cl 11 0 (-1) (-1) 0 0 (-1)) (r1 : rg (Xi S 246 8)) (r2 : rg (pc7 S row + 1)) (r3 : rg (Xj S 879 row.toNat)) : SYL S T ts cl row p (-1) := by
  have k : ∀ a b, a < 276 ∨ 876 ≤ a → Xi T a b = Xi S a b := fun a b q => by rw [e]; unfold syW; rw [Xi_ne (by omega), Xi_ne (by omega), Xi_ne (by omega), Xi_ne (by omega)]
  have j : ∀ b, Xj T 879 b = Xj S 879 b := fun b => by rw [e]; rfl
  refine ⟨[], ?_, e, fun r _ => ⟨k _ _ (by omega), k _ _ (by omega), j _⟩, fun h i => by rw [k _ _ (by omega)]; exact h i, ?_, ?_, Or.inl ⟨k _ _ (by omega), fun r => ⟨k _ _ (by omega), k _ _ (by omega), j _⟩⟩⟩
  · rw [hp, show (pc7 S row + 1 - (pc7 S row + 1)).toNat = 0 by omega]; rfl
  · rw [e]; unfold syW; exact kcl_w rfl (kcl_w rfl (kcl_w rfl (kcl_w rfl KCL.rf)))
  · have g : ∀ b, b ≠ 0 → b ≠ 3 → b ≠ 4 → b ≠ 5 → Xi T (276 + cl) b = Xi S (276 + cl) b := fun b q1 q2 q3 q4 => by rw [e]; unfold syW; rw [Xi_ne (by omega), Xi_ne (by omega), Xi_ne (by omega), Xi_ne (by omega)]
    refine ⟨?_, (g 1 (by decide) (by decide) (by decide) (by decide)).trans c.2.1, (g 2 (by decide) (by decide) (by decide) (by decide)).trans c.2.2.1, ?_, ?_, ?_, (g 6 (by decide) (by decide) (by decide) (by decide)).trans c.2.2.2.2.2.2⟩ <;> rw [e] <;> unfold syW
    · rw [Xi_ne (by omega), Xi_ne (by omega), Xi_ne (by omega)]; exact Xi_same ⟨by decide, by decide⟩
    · rw [Xi_ne (by omega), Xi_ne (by omega)]; exact Xi_same r1
    · rw [Xi_ne (by omega)]; exact Xi_same r2
    · exact Xi_same r3
theorem syl_o {S T : sS} {ts cl : Nat} {row p o : Int} (h : SYL S T ts cl row p o) (hp : pc7 S row + 1 ≤ p) (ho : o = -1) (hb : Xi S ts p.toNat = 91) : SYL S T ts cl row (p + 1) p := by
  obtain ⟨L, a, b⟩ := h
  exact ⟨L, br_o a hp ho hb, b⟩
theorem syl_k {S T : sS} {ts cl : Nat} {row p o : Int} (h : SYL S T ts cl row p o) (hp : pc7 S row + 1 ≤ p) (h1 : Xi S ts p.toNat ≠ 91) (h2 : Xi S ts p.toNat ≠ 93) : SYL S T ts cl row (p + 1) o := by
  obtain ⟨L, a, b⟩ := h
  exact ⟨L, br_k a hp h1 h2, b⟩
theorem syl_c {S W T : sS} {ts cl : Nat} {row p o : Int} (h : SYL S W ts cl row p o) (hp : pc7 S row + 1 ≤ p) (ho : o ≠ -1) (hb : Xi S ts p.toNat = 93) (hcl : cl < 600) (f : FR md_rr_insert__p W T) (i : INO W T ts (o + 1) p 1) (k : KR W T (Xi W 876 6)) (e6 : Xi W 876 6 = Xi S 876 6) (pl : PLH W T) (rw_ : RWW W T) : SYL S T ts cl row (p + 1) (-1) := by
  obtain ⟨L, a, b, c, d, e, g, _⟩ := h
  exact ⟨(o, p) :: L, brk_c a hp ho hb, ⟨W, b, f, i⟩, KR.tr c k (by omega), PLH.tr d pl, kcl_f f rfl e, clm_e (cl_keep f rfl hcl) g, Or.inr (fun r x y => rw_ r (by omega) y)⟩
def SYX (S : sS) (ts cl : Nat) (row : Int) : Prop := brF (Xi S ts) (pc7 S row + 1) (Xj S 879 row.toNat).toNat = none ∨ (∃ (o : Int) (L : List (Int × Int)), brF (Xi S ts) (pc7 S row + 1) (Xj S 879 row.toNat).toNat = some (o, L) ∧ o ≠ -1) ∨
  (∃ (p o : Int) (L : List (Int × Int)) (W W1 : sS), pc7 S row + 1 ≤ p ∧ p < pc7 S row + 1 + Xj S 879 row.toNat ∧ brF (Xi S ts) (pc7 S row + 1) (p - (pc7 S row + 1)).toNat = some (o, L) ∧ o ≠ -1 ∧ Xi S ts p.toNat = 93 ∧ ICH (syW S cl row) ts L W ∧ INO W W1 ts (o + 1) p 0)
def SYT (S S1 : sS) (ts cl : Nat) (row z : Int) : Prop := (z = 1 → Xi S1 876 8 = 0 ∧ SYL S S1 ts cl row (pc7 S row + 1 + Xj S 879 row.toNat) (-1)) ∧ (z = 0 → FTO S S1 8 row ∧ SYX S ts cl row)
theorem syt_y {S T : sS} {ts cl : Nat} {row p o z : Int} (h : SYL S T ts cl row p o) (hp : p = pc7 S row + 1 + Xj S 879 row.toNat) (ho : o = -1) (hz : z = 1) (hf : Xi T 876 8 = 0) : SYT S T ts cl row z := by
  subst hp ho
  exact ⟨fun _ => ⟨hf, h⟩, fun q => absurd hz (by omega)⟩
theorem syt_o {S T U : sS} {ts cl : Nat} {row p o z : Int} (h : SYL S T ts cl row p o) (hp : p = pc7 S row + 1 + Xj S 879 row.toNat) (ho : o ≠ -1) (hz : z = 0) (hf : FTO S U 8 row) : SYT S U ts cl row z := by
  obtain ⟨L, a, _⟩ := h
  rw [hp, show pc7 S row + 1 + Xj S 879 row.toNat - (pc7 S row + 1) = Xj S 879 row.toNat by omega] at a
  exact ⟨fun q => absurd hz (by omega), fun _ => ⟨hf, Or.inr (Or.inl ⟨o, L, a, ho⟩)⟩⟩
theorem syt_x {S T U : sS} {ts cl : Nat} {row p o z : Int} (h : SYL S T ts cl row p o) (hp : pc7 S row + 1 ≤ p) (hq : p < pc7 S row + 1 + Xj S 879 row.toNat) (hb : (Xi S ts p.toNat = 91 ∧ o ≠ -1) ∨ (Xi S ts p.toNat = 93 ∧ o = -1)) (hz : z = 0) (hf : FTO S U 8 row) : SYT S U ts cl row z := by
  obtain ⟨L, a, _⟩ := h
  exact ⟨fun q => absurd hz (by omega), fun _ => ⟨hf, Or.inl (br_x a hp (by omega) hb)⟩⟩
theorem syt_i {S T T1 U : sS} {ts cl : Nat} {row p o z : Int} (h : SYL S T ts cl row p o) (hp : pc7 S row + 1 ≤ p) (hq : p < pc7 S row + 1 + Xj S 879 row.toNat) (ho : o ≠ -1) (hb : Xi S ts p.toNat = 93) (i : INO T T1 ts (o + 1) p 0) (hz : z = 0) (hf : FTO S U 8 row) : SYT S U ts cl row z := by
  obtain ⟨L, a, b, _⟩ := h
  exact ⟨fun q => absurd hz (by omega), fun _ => ⟨hf, Or.inr (Or.inr ⟨p, o, L, T, T1, hp, hq, a, ho, hb, b, i⟩)⟩⟩
theorem pc_kr {S T : sS} {n r : Int} (k : KR S T n) (h0 : 0 ≤ r) (h : r < n) (a : n ≤ Xi S 876 7) (b : n ≤ Xi T 876 7) : pc7 T r = pc7 S r := by
  unfold pc7
  rw [if_pos ⟨h0, by omega⟩, if_pos ⟨h0, by omega⟩]
  exact (k r.toNat (by omega)).2.1

def md_rr_sayText__p : List rec := [(246, 247, 8, 9), (274, 275, 0, 100000), (275, 276, 0, 100000), (276, 876, 0, 1), (276, 876, 3, 4), (276, 876, 4, 5), (276, 876, 5, 6), (876, 877, 7, 8), (876, 877, 8, 9), (876, 877, 9, 10), (877, 878, 0, 100000), (878, 879, 0, 100000), (879, 880, 0, 100000), (895, 896, 5, 6), (895, 896, 6, 7), (895, 896, 7, 8)]
abbrev Q_rr_sayText__p (S : sS) (ts : Nat) (row : Int) (cl : Nat) : pst := fun r S1 => RI S1 ∧ FR md_rr_sayText__p S S1 ∧ (∃ z : Int, r = some (iv z) ∧ (0 ≤ z ∧ z ≤ 1) ∧ (SYT S S1 ts cl row z) ∧ (0 ≤ Xi S1 246 8) ∧ (Xi S 876 6 ≤ Xi S1 876 7 ∧ Xi S1 876 7 ≤ 5130))
set_option maxRecDepth 100000 in
theorem t_rr_sayText__p {S : sS} (hH : RI S) (ts : Nat) (row : Int) (cl : Nat) (hrow : 0 ≤ row ∧ row ≤ 5130) (hcl : cl < 600) (hts : S.2.2 876 4 = some ts) (htp : tp ts) (h13 : 0 ≤ Xi S 1 3 ∧ Xi S 1 3 ≤ 200) (hCE : CEN S) (hf : Xi S 876 8 = 0) (hr : Xi S 876 7 ≤ 5130) (hby : BYT S ts) (hT : TOK S) (hpl : Hid (∀ j : Nat, 0 ≤ Xi S 878 j)) (h5 : Xi S 876 5 ≤ 5000) (hty : ty7 S row = 102) (hc6 : 0 ≤ Xi S 876 6 ∧ Xi S 876 6 ≤ 5005) (hc7 : Xi S 876 6 ≤ Xi S 876 7) (hrc : row < Xi S 876 6) (hi8 : 0 ≤ Xi S 246 8) (hclm : Hid (CLM S cl 11 0 (-1) (-1) 0 0 (-1))) (d : Nat) : Mp lay0 (d + 5) m_rr_sayText [.ref 899, iv row, .ref (276 + cl)] S (Q_rr_sayText__p S ts row cl) := by
  refine Mp_R rfl rfl (fun fu => ?_)
  have hF : FR md_rr_sayText__p S S := FR.rf
  have w1 : -2147483648 ≤ Xi S 1 3 ∧ Xi S 1 3 ≤ 2147483647 := Xi_rgI
  have w2 : -2147483648 ≤ Xi S 246 8 ∧ Xi S 246 8 ≤ 2147483647 := Xi_rgI
  have w3 : -2147483648 ≤ Xi S 876 5 ∧ Xi S 876 5 ≤ 2147483647 := Xi_rgI
  have w4 : -2147483648 ≤ Xi S 876 6 ∧ Xi S 876 6 ≤ 2147483647 := Xi_rgI
  have w5 : -2147483648 ≤ Xi S 876 7 ∧ Xi S 876 7 ≤ 2147483647 := Xi_rgI
  have w6 : -2147483648 ≤ Xi S 876 8 ∧ Xi S 876 8 ≤ 2147483647 := Xi_rgI
  have Y0 : Xi S 877 row.toNat = 102 := (ty7_i (by omega) (by omega)).symm.trans hty
  have T0 := hT row.toNat (by omega) Y0
  have P0 := hpl.o row.toNat
  have G0 : pc7 S row = Xi S 878 row.toNat := if_pos ⟨by omega, by omega⟩
  have C59 : ∀ (n59 : Nat) (_ : n59 ≤ fu) (T1 : sS) (_ : RI T1) (_ : FR md_rr_sayText__p S T1) (v4 : Int) (v5 : Int) (v6 : Int), (0 ≤ v4 ∧ v4 ≤ 5130) → (-1 ≤ v5 ∧ v5 ≤ 5130) → (0 ≤ v6 ∧ v6 ≤ 5130) → (v4 = pc7 S row + 1 + Xj S 879 row.toNat) → (pc7 S row + 1 ≤ v6 ∧ v6 ≤ v4) → (v5 = -1 ∨ (pc7 S row + 1 ≤ v5 ∧ v5 < v6)) → (Xi T1 876 8 = 0) → (0 ≤ Xi T1 246 8) → (Xi S 876 6 ≤ Xi T1 876 7 ∧ Xi T1 876 7 ≤ 5130) → (Hid (SYL S T1 ts cl row v6 v5)) → Pl n59 lay0 (d + 4) m_rr_sayText 59 [(0, .ref 899), (1, iv row), (4, iv v4), (5, iv v5), (6, iv v6)] [] T1 (Q_rr_sayText__p S ts row cl) := by
    intro n59
    induction n59 with
    | zero => intros; exact Pl_0
    | succ n59 ih59 =>
      intro hm59 T1 hHT1 hFT1 v4 v5 v6 w7 w8 w9 w10 w11 w12 w13 w14 w15 L59
      have w16 : Xi T1 1 3 = Xi S 1 3 := hFT1.x _ _ rfl
      have w17 : Xi T1 876 5 = Xi S 876 5 := hFT1.x _ _ rfl
      have w18 : Xi T1 876 6 = Xi S 876 6 := hFT1.x _ _ rfl
      have w19 : Xi T1 895 4 = Xi S 895 4 := hFT1.x _ _ rfl
      have w20 : -2147483648 ≤ Xi T1 246 8 ∧ Xi T1 246 8 ≤ 2147483647 := Xi_rgI
      have w21 : -2147483648 ≤ Xi T1 876 6 ∧ Xi T1 876 6 ≤ 2147483647 := Xi_rgI
      have w22 : -2147483648 ≤ Xi T1 876 7 ∧ Xi T1 876 7 ≤ 2147483647 := Xi_rgI
      have w23 : -2147483648 ≤ Xi T1 876 8 ∧ Xi T1 876 8 ≤ 2147483647 := Xi_rgI
      refine ys_iload rfl rfl ?_
      refine y_iload rfl rfl ?_
      refine y_icmp_ge rfl rfl (by unfold rg; omega) (by unfold rg; omega) (fun w24 => ?_) (fun w25 => ?_)
      · refine y_iload rfl rfl ?_
        refine y_iconst rfl ?_
        refine y_icmp_eq rfl rfl (by unfold rg; omega) (by unfold rg; omega) (fun w26 => ?_) (fun w27 => ?_)
        · refine y_iconst rfl ?_
          refine y_goto rfl rfl ?_
          refine y_ireturn rfl rfl ?_
          exact ⟨hHT1, hFT1, _, rfl, ⟨by omega, by omega⟩, (by first | (have u := Y124; first | (have u := A104; exact syt_i L59.o (by omega) (by omega) (by omega) (by omega) (ino_eq O111 (by omega)) (by omega) Y124) | (have u := A98; exact syt_x L59.o (by omega) (by omega) (Or.inr ⟨by omega, by omega⟩) (by omega) Y124) | exact syt_x L59.o (by omega) (by omega) (Or.inl ⟨by omega, by omega⟩) (by omega) Y124) | (have u := Y176; exact syt_o L59.o (by omega) (by omega) (by omega) Y176) | exact syt_y L59.o (by omega) (by omega) rfl (by omega)), (by first | omega), (by omega)⟩
        · refine y_aload_n rfl rfl ?_
          refine y_gfr rfl rfl rfl rfl rfl (hHT1.r 899 0 876 rfl) ?_
          refine y_bipush rfl rfl ?_
          refine y_iload_n rfl rfl ?_
          refine y_callV rfl rfl rfl (t_to_wrong__p hHT1 8 row ⟨by omega, by omega⟩ ⟨by omega, by omega⟩ _) ?_
          rintro _ T2 ⟨hHT2, w31, z30, rfl, w30, w28, f176, w29⟩
          have hFT2 : FR md_rr_sayText__p S T2 := FR.tr hFT1 w31 rfl
          show Pl _ _ _ _ _ _ [iv z30] _ _
          have F176 := (by assumption : FR md_to_wrong__p T1 T2)
          have Y176 : FTO S T2 8 row := by have u := f176 (by omega); exact ⟨u.1, u.2.trans (pc_kr L59.o.choose_spec.2.2.1 (by omega) (by omega) hc7 (by omega))⟩
          refine y_if_eq rfl rfl (by unfold rg; omega) (fun w32 => ?_) (fun w33 => ?_)
          · refine y_iconst rfl ?_
            refine y_ireturn rfl rfl ?_
            have w34 : Xi T2 246 8 = Xi T1 246 8 := (show Xi T2 246 8 = Xi T1 246 8 from w31.x _ _ rfl)
            have w35 : Xi T2 876 6 = Xi T1 876 6 := (show Xi T2 876 6 = Xi T1 876 6 from w31.x _ _ rfl)
            have w36 : Xi T2 876 7 = Xi T1 876 7 := (show Xi T2 876 7 = Xi T1 876 7 from w31.x _ _ rfl)
            exact ⟨hHT2, hFT2, _, rfl, ⟨by omega, by omega⟩, (by first | (have u := Y124; first | (have u := A104; exact syt_i L59.o (by omega) (by omega) (by omega) (by omega) (ino_eq O111 (by omega)) (by omega) Y124) | (have u := A98; exact syt_x L59.o (by omega) (by omega) (Or.inr ⟨by omega, by omega⟩) (by omega) Y124) | exact syt_x L59.o (by omega) (by omega) (Or.inl ⟨by omega, by omega⟩) (by omega) Y124) | (have u := Y176; exact syt_o L59.o (by omega) (by omega) (by omega) Y176) | exact syt_y L59.o (by omega) (by omega) rfl (by omega)), (by first | omega), (by omega)⟩
          · exfalso; omega
      · refine y_aload_n rfl rfl ?_
        refine y_gfr rfl rfl rfl rfl rfl (hHT1.r 899 0 876 rfl) ?_
        refine y_gfr rfl rfl rfl rfl rfl ((hFT1 876 4 rfl).2.2.trans hts) ?_
        refine y_iload rfl rfl ?_
        refine y_baloadP (n := 5000) rfl (tp_sv (by assumption)) (lay_tp (by assumption)) (by decide) (by unfold rg; omega) (fun w38 w39 => ?_)
        have w40 : -2147483648 ≤ (Xi T1 ts ((v6).toNat)) ∧ (Xi T1 ts ((v6).toNat)) ≤ 2147483647 := Xi_rgI
        have y75 : Xi T1 ts (v6).toNat = Xi S ts (v6).toNat := congrFun (tp_F hFT1 rfl htp) _
        have b75 := hby (v6).toNat
        refine y_istore rfl rfl rfl ?_
        refine y_iload rfl rfl ?_
        refine y_bipush rfl rfl ?_
        refine y_icmp_ne rfl rfl (by unfold rg; omega) (by unfold rg; omega) (fun w41 => ?_) (fun w42 => ?_)
        · refine y_iload rfl rfl ?_
          refine y_bipush rfl rfl ?_
          refine y_icmp_ne rfl rfl (by unfold rg; omega) (by unfold rg; omega) (fun w43 => ?_) (fun w44 => ?_)
          · refine y_iload rfl rfl ?_
            refine y_bipush rfl rfl ?_
            refine y_icmp_eq rfl rfl (by unfold rg; omega) (by unfold rg; omega) (fun w45 => ?_) (fun w46 => ?_)
            · exfalso; omega
            · refine y_iload rfl rfl ?_
              refine y_bipush rfl rfl ?_
              refine y_icmp_ne rfl rfl (by unfold rg; omega) (by unfold rg; omega) (fun w47 => ?_) (fun w48 => ?_)
              · refine y_iinc rfl rfl rfl rfl ?_
                have L157 : Hid (SYL S T1 ts cl row (v6 + 1) v5) := by first | (have u := A104; exact syl_c L59.o (by omega) (by omega) (by omega) hcl F111 (ino_eq O111 (by omega)) k111 (by omega) pp111 (w111 (by omega))) | (have u := A85; exact syl_o L59.o (by omega) (by omega) (by omega)) | exact syl_k L59.o (by omega) (by omega) (by omega)
                refine y_goto rfl rfl ?_
                exact Pl_weak (ih59 (by omega) T1 hHT1 hFT1 (v4) (v5) ((v6 + 1)) (by omega) (by omega) (by omega) (by omega) (by omega) (by omega) (by omega) (by omega) (by omega) (by first | exact L157 | (rw [show (v6 + 1) = pc7 S row + 1 by omega]; exact L53) | exact L53)) (by omega) (And.intro rfl (And.intro rfl (And.intro rfl (And.intro rfl (And.intro rfl (True.intro))))))
              · exfalso; omega
          · refine y_iload rfl rfl ?_
            have A98 : True := trivial
            refine y_iconst rfl ?_
            refine y_icmp_eq rfl rfl (by unfold rg; omega) (by unfold rg; omega) (fun w49 => ?_) (fun w50 => ?_)
            · refine y_aload_n rfl rfl ?_
              refine y_gfr rfl rfl rfl rfl rfl (hHT1.r 899 0 876 rfl) ?_
              refine y_bipush rfl rfl ?_
              refine y_iload_n rfl rfl ?_
              refine y_callV rfl rfl rfl (t_to_wrong__p hHT1 8 row ⟨by omega, by omega⟩ ⟨by omega, by omega⟩ _) ?_
              rintro _ T3 ⟨hHT3, w54, z53, rfl, w53, w51, f124, w52⟩
              have hFT3 : FR md_rr_sayText__p S T3 := FR.tr hFT1 w54 rfl
              show Pl _ _ _ _ _ _ [iv z53] _ _
              have F124 := (by assumption : FR md_to_wrong__p T1 T3)
              have Y124 : FTO S T3 8 row := by have u := f124 (by omega); exact ⟨u.1, u.2.trans (by first | (have t := A104; exact pc_kr (KR.tr L59.o.choose_spec.2.2.1 k111 (by omega)) (by omega) (by omega) hc7 (by omega)) | exact pc_kr L59.o.choose_spec.2.2.1 (by omega) (by omega) hc7 (by omega))⟩
              refine y_ireturn rfl (retI_z (by omega)) ?_
              have w55 : Xi T3 246 8 = Xi T1 246 8 := (show Xi T3 246 8 = Xi T1 246 8 from w54.x _ _ rfl)
              have w56 : Xi T3 876 6 = Xi T1 876 6 := (show Xi T3 876 6 = Xi T1 876 6 from w54.x _ _ rfl)
              have w57 : Xi T3 876 7 = Xi T1 876 7 := (show Xi T3 876 7 = Xi T1 876 7 from w54.x _ _ rfl)
              exact ⟨hHT3, hFT3, _, rfl, ⟨by omega, by omega⟩, (by first | (have u := Y124; first | (have u := A104; exact syt_i L59.o (by omega) (by omega) (by omega) (by omega) (ino_eq O111 (by omega)) (by omega) Y124) | (have u := A98; exact syt_x L59.o (by omega) (by omega) (Or.inr ⟨by omega, by omega⟩) (by omega) Y124) | exact syt_x L59.o (by omega) (by omega) (Or.inl ⟨by omega, by omega⟩) (by omega) Y124) | (have u := Y176; exact syt_o L59.o (by omega) (by omega) (by omega) Y176) | exact syt_y L59.o (by omega) (by omega) rfl (by omega)), (by first | omega), (by omega)⟩
            · refine y_aload_n rfl rfl ?_
              have A104 : True := trivial
              refine y_iload rfl rfl ?_
              refine y_iconst rfl ?_
              refine y_iadd rfl ?_
              refine y_iload rfl rfl ?_
              refine y_callV rfl rfl rfl (t_rr_insert__p hHT1 ts (v5 + 1) v6 ⟨by omega, by omega⟩ ⟨by omega, by omega⟩ ((hFT1 876 4 rfl).2.2.trans hts) htp (by first | assumption | omega) (by first | assumption | exact (CEN_FR hFT1 rfl rfl (by assumption : CEN S))) (BYT_F hFT1 rfl htp hby) (by first | assumption | omega) (by first | assumption | omega) (by first | assumption | omega) _) ?_
              rintro _ T4 ⟨hHT4, w59, z58, rfl, w58, o111, k111, n111, pp111, w111, i111⟩
              have hFT4 : FR md_rr_sayText__p S T4 := FR.tr hFT1 w59 rfl
              show Pl _ _ _ _ _ _ [iv z58] _ _
              have F111 := (by assumption : FR md_rr_insert__p T1 T4)
              have O111 : INO T1 T4 ts (v5 + 1) v6 z58 := o111
              refine y_if_ne rfl rfl (by unfold rg; omega) (fun w60 => ?_) (fun w61 => ?_)
              · refine y_iload rfl rfl ?_
                refine y_bipush rfl rfl ?_
                refine y_icmp_eq rfl rfl (by unfold rg; omega) (by unfold rg; omega) (fun w62 => ?_) (fun w63 => ?_)
                · exfalso; omega
                · refine y_iload rfl rfl ?_
                  refine y_bipush rfl rfl ?_
                  refine y_icmp_ne rfl rfl (by unfold rg; omega) (by unfold rg; omega) (fun w64 => ?_) (fun w65 => ?_)
                  · exfalso; omega
                  · refine y_iload rfl rfl ?_
                    refine y_bipush rfl rfl ?_
                    refine y_icmp_ne rfl rfl (by unfold rg; omega) (by unfold rg; omega) (fun w66 => ?_) (fun w67 => ?_)
                    · refine y_iconst rfl ?_
                      refine y_istore rfl rfl rfl ?_
                      refine y_iinc rfl rfl rfl rfl ?_
                      have L157 : Hid (SYL S T4 ts cl row (v6 + 1) (-1)) := by first | (have u := A104; exact syl_c L59.o (by omega) (by omega) (by omega) hcl F111 (ino_eq O111 (by omega)) k111 (by omega) pp111 (w111 (by omega))) | (have u := A85; exact syl_o L59.o (by omega) (by omega) (by omega)) | exact syl_k L59.o (by omega) (by omega) (by omega)
                      refine y_goto rfl rfl ?_
                      have w68 : Xi T4 876 6 = Xi T1 876 6 := (show Xi T4 876 6 = Xi T1 876 6 from w59.x _ _ rfl)
                      have w69 : Xi T4 876 8 = Xi T1 876 8 := (show Xi T4 876 8 = Xi T1 876 8 from w59.x _ _ rfl)
                      exact Pl_weak (ih59 (by omega) T4 hHT4 hFT4 (v4) ((-1)) ((v6 + 1)) (by omega) (by omega) (by omega) (by omega) (by omega) (by omega) (by omega) (by omega) (by omega) (by first | exact L157 | (rw [show (v6 + 1) = pc7 S row + 1 by omega]; exact L53) | exact L53)) (by omega) (And.intro rfl (And.intro rfl (And.intro rfl (And.intro rfl (And.intro rfl (True.intro))))))
                    · exfalso; omega
              · refine y_aload_n rfl rfl ?_
                refine y_gfr rfl rfl rfl rfl rfl (hHT4.r 899 0 876 rfl) ?_
                refine y_bipush rfl rfl ?_
                refine y_iload_n rfl rfl ?_
                have w70 : Xi T4 876 6 = Xi T1 876 6 := (show Xi T4 876 6 = Xi T1 876 6 from w59.x _ _ rfl)
                have w71 : Xi T4 876 8 = Xi T1 876 8 := (show Xi T4 876 8 = Xi T1 876 8 from w59.x _ _ rfl)
                have w72 : Xi T4 876 9 = Xi T1 876 9 := (show Xi T4 876 9 = Xi T1 876 9 from w59.x _ _ rfl)
                refine y_callV rfl rfl rfl (t_to_wrong__p hHT4 8 row ⟨by omega, by omega⟩ ⟨by omega, by omega⟩ _) ?_
                rintro _ T5 ⟨hHT5, w76, z75, rfl, w75, w73, f124, w74⟩
                have hFT5 : FR md_rr_sayText__p S T5 := FR.tr hFT4 w76 rfl
                show Pl _ _ _ _ _ _ [iv z75] _ _
                have F124 := (by assumption : FR md_to_wrong__p T4 T5)
                have Y124 : FTO S T5 8 row := by have u := f124 (by omega); exact ⟨u.1, u.2.trans (by first | (have t := A104; exact pc_kr (KR.tr L59.o.choose_spec.2.2.1 k111 (by omega)) (by omega) (by omega) hc7 (by omega)) | exact pc_kr L59.o.choose_spec.2.2.1 (by omega) (by omega) hc7 (by omega))⟩
                refine y_ireturn rfl (retI_z (by omega)) ?_
                have w77 : Xi T5 246 8 = Xi T4 246 8 := (show Xi T5 246 8 = Xi T4 246 8 from w76.x _ _ rfl)
                have w78 : Xi T5 876 6 = Xi T1 876 6 := (show Xi T5 876 6 = Xi T4 876 6 from w76.x _ _ rfl).trans ((show Xi T4 876 6 = Xi T1 876 6 from w59.x _ _ rfl))
                have w79 : Xi T5 876 7 = Xi T4 876 7 := (show Xi T5 876 7 = Xi T4 876 7 from w76.x _ _ rfl)
                exact ⟨hHT5, hFT5, _, rfl, ⟨by omega, by omega⟩, (by first | (have u := Y124; first | (have u := A104; exact syt_i L59.o (by omega) (by omega) (by omega) (by omega) (ino_eq O111 (by omega)) (by omega) Y124) | (have u := A98; exact syt_x L59.o (by omega) (by omega) (Or.inr ⟨by omega, by omega⟩) (by omega) Y124) | exact syt_x L59.o (by omega) (by omega) (Or.inl ⟨by omega, by omega⟩) (by omega) Y124) | (have u := Y176; exact syt_o L59.o (by omega) (by omega) (by omega) Y176) | exact syt_y L59.o (by omega) (by omega) rfl (by omega)), (by first | omega), (by omega)⟩
        · refine y_iload rfl rfl ?_
          have A85 : True := trivial
          refine y_iconst rfl ?_
          refine y_icmp_ne rfl rfl (by unfold rg; omega) (by unfold rg; omega) (fun w80 => ?_) (fun w81 => ?_)
          · refine y_aload_n rfl rfl ?_
            refine y_gfr rfl rfl rfl rfl rfl (hHT1.r 899 0 876 rfl) ?_
            refine y_bipush rfl rfl ?_
            refine y_iload_n rfl rfl ?_
            refine y_callV rfl rfl rfl (t_to_wrong__p hHT1 8 row ⟨by omega, by omega⟩ ⟨by omega, by omega⟩ _) ?_
            rintro _ T6 ⟨hHT6, w85, z84, rfl, w84, w82, f124, w83⟩
            have hFT6 : FR md_rr_sayText__p S T6 := FR.tr hFT1 w85 rfl
            show Pl _ _ _ _ _ _ [iv z84] _ _
            have F124 := (by assumption : FR md_to_wrong__p T1 T6)
            have Y124 : FTO S T6 8 row := by have u := f124 (by omega); exact ⟨u.1, u.2.trans (by first | (have t := A104; exact pc_kr (KR.tr L59.o.choose_spec.2.2.1 k111 (by omega)) (by omega) (by omega) hc7 (by omega)) | exact pc_kr L59.o.choose_spec.2.2.1 (by omega) (by omega) hc7 (by omega))⟩
            refine y_ireturn rfl (retI_z (by omega)) ?_
            have w86 : Xi T6 246 8 = Xi T1 246 8 := (show Xi T6 246 8 = Xi T1 246 8 from w85.x _ _ rfl)
            have w87 : Xi T6 876 6 = Xi T1 876 6 := (show Xi T6 876 6 = Xi T1 876 6 from w85.x _ _ rfl)
            have w88 : Xi T6 876 7 = Xi T1 876 7 := (show Xi T6 876 7 = Xi T1 876 7 from w85.x _ _ rfl)
            exact ⟨hHT6, hFT6, _, rfl, ⟨by omega, by omega⟩, (by first | (have u := Y124; first | (have u := A104; exact syt_i L59.o (by omega) (by omega) (by omega) (by omega) (ino_eq O111 (by omega)) (by omega) Y124) | (have u := A98; exact syt_x L59.o (by omega) (by omega) (Or.inr ⟨by omega, by omega⟩) (by omega) Y124) | exact syt_x L59.o (by omega) (by omega) (Or.inl ⟨by omega, by omega⟩) (by omega) Y124) | (have u := Y176; exact syt_o L59.o (by omega) (by omega) (by omega) Y176) | exact syt_y L59.o (by omega) (by omega) rfl (by omega)), (by first | omega), (by omega)⟩
          · refine y_iload rfl rfl ?_
            refine y_bipush rfl rfl ?_
            refine y_icmp_ne rfl rfl (by unfold rg; omega) (by unfold rg; omega) (fun w89 => ?_) (fun w90 => ?_)
            · refine y_iload rfl rfl ?_
              refine y_bipush rfl rfl ?_
              refine y_icmp_eq rfl rfl (by unfold rg; omega) (by unfold rg; omega) (fun w91 => ?_) (fun w92 => ?_)
              · refine y_iload rfl rfl ?_
                refine y_bipush rfl rfl ?_
                refine y_icmp_ne rfl rfl (by unfold rg; omega) (by unfold rg; omega) (fun w93 => ?_) (fun w94 => ?_)
                · exfalso; omega
                · refine y_iload rfl rfl ?_
                  refine y_goto rfl rfl ?_
                  refine y_istore rfl rfl rfl ?_
                  refine y_iinc rfl rfl rfl rfl ?_
                  have L157 : Hid (SYL S T1 ts cl row (v6 + 1) v6) := by first | (have u := A104; exact syl_c L59.o (by omega) (by omega) (by omega) hcl F111 (ino_eq O111 (by omega)) k111 (by omega) pp111 (w111 (by omega))) | (have u := A85; exact syl_o L59.o (by omega) (by omega) (by omega)) | exact syl_k L59.o (by omega) (by omega) (by omega)
                  refine y_goto rfl rfl ?_
                  exact Pl_weak (ih59 (by omega) T1 hHT1 hFT1 (v4) (v6) ((v6 + 1)) (by omega) (by omega) (by omega) (by omega) (by omega) (by omega) (by omega) (by omega) (by omega) (by first | exact L157 | (rw [show (v6 + 1) = pc7 S row + 1 by omega]; exact L53) | exact L53)) (by omega) (And.intro rfl (And.intro rfl (And.intro rfl (And.intro rfl (And.intro rfl (True.intro))))))
              · exfalso; omega
            · exfalso; omega
  refine y_aload_n rfl rfl ?_
  refine y_gfr rfl rfl rfl rfl rfl (hH.r 899 0 876 rfl) ?_
  refine y_iload_n rfl rfl ?_
  refine y_callV rfl rfl rfl (t_to_placeAt__p hH row ⟨by omega, by omega⟩ _) ?_
  rintro _ _ ⟨rfl, z95, rfl, w95, q5⟩
  show Pl _ _ _ _ _ _ [iv z95] _ _
  refine y_iconst rfl ?_
  refine y_iadd rfl ?_
  refine y_istore_n rfl rfl rfl ?_
  refine y_iload_n rfl rfl ?_
  refine y_aload_n rfl rfl ?_
  refine y_gfr rfl rfl rfl rfl rfl (hH.r 899 0 876 rfl) ?_
  refine y_iload_n rfl rfl ?_
  refine y_callV rfl rfl rfl (t_to_valueAt__p hH row ⟨by omega, by omega⟩ _) ?_
  rintro _ _ ⟨rfl, z96, rfl, w96, p17⟩
  show Pl _ _ _ _ _ _ [iv z96, iv (z95 + 1)] _ _
  have v17 : z96 = Xj S 879 row.toNat := p17 (by omega) (by omega) (by omega) (by omega)
  refine y_iadd rfl ?_
  refine y_istore rfl rfl rfl ?_
  refine y_iconst rfl ?_
  refine y_istore rfl rfl rfl ?_
  refine y_aload_n rfl rfl ?_
  refine y_bipush rfl rfl ?_
  refine y_pfi rfl rfl (layClW (by omega) rfl) rfl ?_
  obtain ⟨U7, eU7⟩ : ∃ T : sS, T = uI S (276 + cl) 0 (Int32.ofInt 7) := ⟨_, rfl⟩
  rw [← eU7]
  have hHU7 : RI U7 := by rw [eU7]; exact RI_w hH
  have hFU7 : FR md_rr_sayText__p S U7 := by rw [eU7]; exact FR.wI hF (mdf_i (r := (276, 876, 0, 1)) (List.mem_of_getElem? (i := 3) rfl) (inR_i (by omega) (by omega) (by omega) (by omega)))
  have w97 : Xi U7 (276 + cl) 0 = 7 := by rw [eU7]; exact Xi_same (by unfold rg; omega)
  have e29 := eU7
  refine y_aload_n rfl rfl ?_
  refine y_aload_n rfl rfl ?_
  refine y_gfr rfl rfl rfl rfl rfl (hHU7.r 899 3 246 rfl) ?_
  refine y_gfi rfl rfl rfl rfl rfl ?_
  have w98 : (Xi U7 246 8) = (Xi S 246 8) := (show Xi U7 246 8 = Xi S 246 8 from by rw [eU7]; exact Xi_ne (by omega))
  rw [w98]
  refine y_pfi rfl rfl (layClW (by omega) rfl) rfl ?_
  obtain ⟨U8, eU8⟩ : ∃ T : sS, T = uI U7 (276 + cl) 3 (Int32.ofInt (Xi S 246 8)) := ⟨_, rfl⟩
  rw [← eU8]
  have hHU8 : RI U8 := by rw [eU8]; exact RI_w hHU7
  have hFU8 : FR md_rr_sayText__p S U8 := by rw [eU8]; exact FR.wI hFU7 (mdf_i (r := (276, 876, 3, 4)) (List.mem_of_getElem? (i := 4) rfl) (inR_i (by omega) (by omega) (by omega) (by omega)))
  have w99 : Xi U8 (276 + cl) 3 = (Xi S 246 8) := by rw [eU8]; exact Xi_same (by unfold rg; omega)
  have e40 := eU8
  refine y_aload_n rfl rfl ?_
  refine y_iload_n rfl rfl ?_
  refine y_pfi rfl rfl (layClW (by omega) rfl) rfl ?_
  obtain ⟨U9, eU9⟩ : ∃ T : sS, T = uI U8 (276 + cl) 4 (Int32.ofInt (z95 + 1)) := ⟨_, rfl⟩
  rw [← eU9]
  have hHU9 : RI U9 := by rw [eU9]; exact RI_w hHU8
  have hFU9 : FR md_rr_sayText__p S U9 := by rw [eU9]; exact FR.wI hFU8 (mdf_i (r := (276, 876, 4, 5)) (List.mem_of_getElem? (i := 5) rfl) (inR_i (by omega) (by omega) (by omega) (by omega)))
  have w100 : Xi U9 (276 + cl) 4 = (z95 + 1) := by rw [eU9]; exact Xi_same (by unfold rg; omega)
  have e45 := eU9
  refine y_aload_n rfl rfl ?_
  refine y_iload rfl rfl ?_
  refine y_iload_n rfl rfl ?_
  refine y_isub rfl ?_
  refine y_pfi rfl rfl (layClW (by omega) rfl) rfl ?_
  obtain ⟨U10, eU10⟩ : ∃ T : sS, T = uI U9 (276 + cl) 5 (Int32.ofInt (((z95 + 1) + z96) - (z95 + 1))) := ⟨_, rfl⟩
  rw [← eU10]
  have hHU10 : RI U10 := by rw [eU10]; exact RI_w hHU9
  have hFU10 : FR md_rr_sayText__p S U10 := by rw [eU10]; exact FR.wI hFU9 (mdf_i (r := (276, 876, 5, 6)) (List.mem_of_getElem? (i := 6) rfl) (inR_i (by omega) (by omega) (by omega) (by omega)))
  have w101 : Xi U10 (276 + cl) 5 = (((z95 + 1) + z96) - (z95 + 1)) := by rw [eU10]; exact Xi_same (by unfold rg; omega)
  have e53 := eU10
  have W53 : U10 = syW S cl row := syW_of e29 e40 e45 e53 (by first | rfl | omega) (by omega) (by omega)
  have L53 : Hid (SYL S U10 ts cl row (pc7 S row + 1) (-1)) := syl_0 W53 rfl hcl hclm.o (by unfold rg; omega) (by unfold rg; omega) (by unfold rg; omega)
  refine y_iload_n rfl rfl ?_
  refine y_istore rfl rfl rfl ?_
  have w102 : Xi U10 246 8 = Xi S 246 8 := (show Xi U10 246 8 = Xi U9 246 8 from by rw [eU10]; exact Xi_ne (by omega)).trans ( (show Xi U9 246 8 = Xi U8 246 8 from by rw [eU9]; exact Xi_ne (by omega)).trans ( (show Xi U8 246 8 = Xi U7 246 8 from by rw [eU8]; exact Xi_ne (by omega)).trans ((show Xi U7 246 8 = Xi S 246 8 from by rw [eU7]; exact Xi_ne (by omega)))))
  have w103 : Xi U10 876 6 = Xi S 876 6 := (show Xi U10 876 6 = Xi U9 876 6 from by rw [eU10]; exact Xi_ne (by omega)).trans ( (show Xi U9 876 6 = Xi U8 876 6 from by rw [eU9]; exact Xi_ne (by omega)).trans ( (show Xi U8 876 6 = Xi U7 876 6 from by rw [eU8]; exact Xi_ne (by omega)).trans ((show Xi U7 876 6 = Xi S 876 6 from by rw [eU7]; exact Xi_ne (by omega)))))
  have w104 : Xi U10 876 7 = Xi S 876 7 := (show Xi U10 876 7 = Xi U9 876 7 from by rw [eU10]; exact Xi_ne (by omega)).trans ( (show Xi U9 876 7 = Xi U8 876 7 from by rw [eU9]; exact Xi_ne (by omega)).trans ( (show Xi U8 876 7 = Xi U7 876 7 from by rw [eU8]; exact Xi_ne (by omega)).trans ((show Xi U7 876 7 = Xi S 876 7 from by rw [eU7]; exact Xi_ne (by omega)))))
  have w105 : Xi U10 876 8 = Xi S 876 8 := (show Xi U10 876 8 = Xi U9 876 8 from by rw [eU10]; exact Xi_ne (by omega)).trans ( (show Xi U9 876 8 = Xi U8 876 8 from by rw [eU9]; exact Xi_ne (by omega)).trans ( (show Xi U8 876 8 = Xi U7 876 8 from by rw [eU8]; exact Xi_ne (by omega)).trans ((show Xi U7 876 8 = Xi S 876 8 from by rw [eU7]; exact Xi_ne (by omega)))))
  exact Pl_weak (C59 fu (by omega) U10 hHU10 hFU10 (((z95 + 1) + z96)) ((-1)) ((z95 + 1)) (by omega) (by omega) (by omega) (by omega) (by omega) (by omega) (by omega) (by omega) (by omega) (by first | exact L157 | (rw [show (z95 + 1) = pc7 S row + 1 by omega]; exact L53) | exact L53)) (by omega) (And.intro rfl (And.intro rfl (And.intro rfl (And.intro rfl (And.intro rfl (True.intro))))))
end
section
/-! rules of the class: PHRASES -/
def pP7 (S : sS) (a : Int) : Nat → Int
  | 0 => a
  | k + 1 => te8 (ty7 S) 1 (pP7 S a k) + 1
def eP7 (S : sS) (a : Int) (k : Nat) : Int := te8 (ty7 S) 1 (pP7 S a k)
/-- the sentence's rows stay, what lies behind them may change -/
def AGU (S T : sS) : Prop := KR S T (Xi S 876 6) ∧ (Xi S 876 6 ≤ Xi T 876 7 ∧ Xi T 876 7 ≤ 5130) ∧ TOK T ∧ NVL T ∧ (∀ j : Nat, 0 ≤ Xi T 878 j) ∧ 0 ≤ Xi T 246 8
theorem agu_F {l : List rec} {S T U : sS} (h : FR l T U) (e : kdis l [(877, 880)] = true) (e7 : mdf l 876 7 = false) (e5 : mdf l 876 5 = false) (e8 : mdf l 246 8 = false) (g : AGU S T) : AGU S U := by
  obtain ⟨k, n, t, v, p, i⟩ := g
  have m := h.smk e
  have x7 := h.x 876 7 e7
  refine ⟨kr_F h e k, by omega, fun r a b => ?_, fun r a b => ?_, fun j => by rw [m.x 878 rfl j]; exact p j, by rw [h.x 246 8 e8]; exact i⟩
  · rw [m.x 877 rfl] at b
    rw [SMK_j m 879 rfl, m.x 878 rfl, h.x 876 5 e5]
    exact t r (by omega) b
  · rw [m.x 877 rfl] at b
    rw [SMK_j m 879 rfl]
    exact v r (by omega) b
theorem agu_w {S T U : sS} {x j : Nat} {v : Int} (e : U = uI T x j (Int32.ofInt v)) (hx : x < 876 ∨ 880 ≤ x) (h8 : x ≠ 246 ∨ j ≠ 8) (g : AGU S T) : AGU S U := by
  obtain ⟨k, n, t, w, p, i⟩ := g
  have m : ∀ a b, 876 ≤ a → a < 880 → Xi U a b = Xi T a b := fun a b q r => by rw [e, Xi_ne (by omega)]
  have y : ∀ a b, Xj U a b = Xj T a b := fun a b => by rw [e]; rfl
  refine ⟨fun r a => ?_, by rw [m 876 7 (by omega) (by omega)]; exact n, fun r a b => ?_, fun r a b => ?_, fun j => by rw [m 878 j (by omega) (by omega)]; exact p j, by rw [e, Xi_ne (by omega)]; exact i⟩
  · rw [m _ _ (by omega) (by omega), m _ _ (by omega) (by omega), y]; exact k r a
  · rw [m _ _ (by omega) (by omega)] at a b
    rw [y, m _ _ (by omega) (by omega), m _ _ (by omega) (by omega)]
    exact t r a b
  · rw [m _ _ (by omega) (by omega)] at a b
    rw [y]
    exact w r a b
theorem agu_s {S A B : sS} {ts cl : Nat} {row p o : Int} (h : SYL A B ts cl row p o) (g : AGU S A) (e6 : Xi A 876 6 = Xi S 876 6) (e5 : Xi B 876 5 = Xi A 876 5) (n : Xi A 876 6 ≤ Xi B 876 7 ∧ Xi B 876 7 ≤ 5130) (i : 0 ≤ Xi B 246 8) : AGU S B := by
  obtain ⟨k, m, t, w, p, _⟩ := g
  obtain ⟨L, _, _, kr, pl, _, _, rk⟩ := h
  rcases rk with ⟨x7, x⟩ | x
  · refine ⟨KR.tr k kr (by omega), by omega, fun r a b => ?_, fun r a b => ?_, pl p, i⟩
    · rw [(x r).1] at b
      rw [(x r).2.2, (x r).2.1, e5]
      exact t r (by omega) b
    · rw [(x r).1] at b
      rw [(x r).2.2]
      exact w r (by omega) b
  · refine ⟨KR.tr k kr (by omega), by omega, fun r a b => ?_, fun r a b => ?_, pl p, i⟩
    · by_cases q : (r : Int) < Xi A 876 6
      · obtain ⟨u1, u2, u3⟩ := kr r q
        rw [u1] at b
        rw [u3, u2, e5]
        exact t r (by omega) b
      · exact absurd (x r (by omega) a) (by omega)
    · by_cases q : (r : Int) < Xi A 876 6
      · obtain ⟨u1, u2, u3⟩ := kr r q
        rw [u1] at b
        rw [u3]
        exact w r (by omega) b
      · exact absurd (x r (by omega) a) (by omega)
theorem agu_t {S T : sS} (g : AGU S T) (h : Xi S 876 6 ≤ Xi S 876 7) {i : Int} (h0 : 0 ≤ i) (h1 : i < Xi S 876 6) : ty7 T i = ty7 S i := by
  unfold ty7
  have := g.2.1
  rw [if_pos ⟨h0, by omega⟩, if_pos ⟨h0, by omega⟩]
  exact (g.1 i.toNat (by omega)).1
theorem te8F_ge {T : Int → Int} {now : Int} : ∀ (n : Nat) (p : Int), p ≤ te8F T now n p
  | 0, p => Int.le_refl _
  | n + 1, p => by
    unfold te8F
    by_cases q : et7 now (T p)
    · rw [if_pos q]; exact Int.le_refl _
    · rw [if_neg q]; have := te8F_ge (T := T) (now := now) n (p + 1); omega
theorem te8F_cg {T U : Int → Int} {now : Int} : ∀ (n : Nat) (p : Int), (∀ i, p ≤ i → i ≤ te8F T now n p → U i = T i) → te8F U now n p = te8F T now n p
  | 0, p, _ => rfl
  | n + 1, p, h => by
    have e : U p = T p := h p (Int.le_refl _) (te8F_ge _ _)
    unfold te8F at h ⊢
    rw [e]
    by_cases q : et7 now (T p)
    · rw [if_pos q, if_pos q]
    · rw [if_neg q, if_neg q]
      refine te8F_cg n (p + 1) (fun i a b => h i (by omega) ?_)
      rw [if_neg q]; exact b
theorem agu_e {S T : sS} (g : AGU S T) (h : Xi S 876 6 ≤ Xi S 876 7) {p now : Int} (h0 : 0 ≤ p) (h1 : te8 (ty7 S) now p < Xi S 876 6) : te8 (ty7 T) now p = te8 (ty7 S) now p :=
  te8F_cg _ _ (fun i a b => agu_t g h (by omega) (by unfold te8 at h1; omega))
/-- where phrases lie -/
def PHB (T : sS) (key p e : Int) : Prop := (key = 43 → ty7 T (p + 1) = 102 ∧ p + 1 < Xi T 876 6) ∧ (key = 44 → p + 1 ≤ e ∧ (isP T (p + 1) e = -1 ∨ (0 ≤ isP T (p + 1) e ∧ isP T (p + 1) e ≤ 5110)) ∧ (numT T (isP T (p + 1) e) = 1 → isP T (p + 1) e + 3 < Xi T 876 7 ∧ 0 ≤ Xj T 879 (isP T (p + 1) e + 3).toNat ∧ Xj T 879 (isP T (p + 1) e + 3).toNat ≤ 2147483647)) ∧ (key = 45 → wheC T (p + 1) e ≤ 5139) ∧ (key = 46 ∨ key = 47 → 0 ≤ e - 1 ∧ e - 1 < Xi T 876 7 ∧ 0 ≤ Xj T 879 (e - 1).toNat ∧ Xj T 879 (e - 1).toNat ≤ 2147483647)
def PPQ (S : sS) (a : Int) : Prop := ∀ k : Nat, k ≤ 7 → (∀ j : Nat, j < k → ty7 S (eP7 S a j) = 105) → (0 ≤ pP7 S a k ∧ pP7 S a k ≤ eP7 S a k ∧ eP7 S a k < Xi S 876 6 ∧ eP7 S a k ≤ 5100) ∧ (0 ≤ ty7 S (pP7 S a k) ∧ ty7 S (pP7 S a k) ≤ 108) ∧ ∀ T : sS, AGU S T → Xi T 876 6 = Xi S 876 6 → PHB T (ty7 S (pP7 S a k)) (pP7 S a k) (eP7 S a k)
/-- what a phrase may change -/
def lPX : List rec := [(246, 247, 8, 9), (274, 275, 0, 100000), (275, 276, 0, 100000), (276, 876, 0, 1), (276, 876, 1, 2), (276, 876, 2, 3), (276, 876, 3, 4), (276, 876, 4, 5), (276, 876, 5, 6), (276, 876, 6, 7), (876, 877, 7, 8), (876, 877, 8, 9), (876, 877, 9, 10), (877, 878, 0, 100000), (878, 879, 0, 100000), (879, 880, 0, 100000), (895, 896, 5, 6), (895, 896, 6, 7), (895, 896, 7, 8), (895, 896, 8, 9), (895, 896, 9, 10), (895, 896, 10, 11), (895, 896, 11, 12)]
def PHX (A B : sS) (ts cl : Nat) (key p e z : Int) : Prop := (key = 43 → SYT A B ts cl (p + 1) z) ∧ (key = 44 → TSO A B cl (p + 1) e 1 z) ∧ (key ≠ 43 → key ≠ 44 → OPO A B cl key (p + 1) e z) ∧ FR lPX A B ∧ (key ≠ 43 → KIN A B)
def NXC (W A : sS) : Prop := FR md_bo_nextClause__p W A ∧ Xi A 246 5 = Xi W 246 5 + 1 ∧ KCL W A (Xi W 246 5).toNat ∧ CLM A (Xi W 246 5).toNat 11 0 (-1) (-1) 0 0 (-1)
theorem nxc_of {W A : sS} {z : Nat} (f : FR md_bo_nextClause__p W A) (p : Xi A 246 5 = Xi W 246 5 + 1) (q : (z : Int) = Xi W 246 5) (k : KCL W A z) (c : CLM A z 11 0 (-1) (-1) 0 0 (-1)) : NXC W A := by
  have e : (Xi W 246 5).toNat = z := by omega
  unfold NXC
  rw [e]
  exact ⟨f, p, k, c⟩
def PHC (l : List rec) (S : sS) (ru ts : Nat) : Nat → sS → Prop
  | 0, T => T = S
  | n + 1, T => ∃ W A B : sS, PHC l S ru ts n W ∧ NXC W A ∧ AGU S A ∧ FR l S A ∧ PHX A B ts (Xi W 246 5).toNat (ty7 S (pP7 S (Xi S 899 5 + 1) n)) (pP7 S (Xi S 899 5 + 1) n) (eP7 S (Xi S 899 5 + 1) n) 1 ∧ FR l S B ∧ T = uI B (248 + ru) 6 (Int32.ofInt (n + 1))
def RPO (l : List rec) (S S1 : sS) (ru ts : Nat) (z : Int) : Prop :=
  (z = 1 → ∃ (n : Nat) (T : sS), 0 < n ∧ n ≤ 8 ∧ PHC l S ru ts n T ∧ (∀ j : Nat, j + 1 < n → ty7 S (eP7 S (Xi S 899 5 + 1) j) = 105) ∧ ty7 S (eP7 S (Xi S 899 5 + 1) (n - 1)) ≠ 105 ∧ S1 = uI (uI T (248 + ru) 5 (Int32.ofInt (Xi S 899 6))) 246 2 (Int32.ofInt (Xi S 246 2 + 1)) ∧ Xi S1 876 8 = 0) ∧
  (z = 0 → ∃ (n : Nat) (W : sS), n ≤ 8 ∧ PHC l S ru ts n W ∧ (∀ j : Nat, j < n → ty7 S (eP7 S (Xi S 899 5 + 1) j) = 105) ∧ ((n = 8 ∧ FTO W S1 9 (pP7 S (Xi S 899 5 + 1) 8) ∧ AGU S W) ∨ (n < 8 ∧ ∃ A : sS, NXC W A ∧ AGU S A ∧ FR l S A ∧ PHX A S1 ts (Xi W 246 5).toNat (ty7 S (pP7 S (Xi S 899 5 + 1) n)) (pP7 S (Xi S 899 5 + 1) n) (eP7 S (Xi S 899 5 + 1) n) 0)))
theorem kin_G {l : List rec} {A B : sS} (F : FR l A B) (e1 : mdf l 246 8 = false) (e2 : kdis l [(274, 276)] = true) : KIN A B := ⟨F.x 246 8 e1, fun j => ⟨(F.smk e2).x 274 rfl j, (F.smk e2).x 275 rfl j⟩⟩
theorem phx_s {A B : sS} {ts cl cm : Nat} {key p e z k q : Int} (hk : k = key) (hc : cl = cm) (h : SYT A B ts cl q z) (hp : q = p + 1) (hy : key = 43) (F : FR md_rr_sayText__p A B) : PHX A B ts cm k p e z := by
  subst hk hc hp
  exact ⟨fun _ => h, fun w => absurd w (by omega), fun w => absurd hy w, F.up rfl, fun w => absurd hy w⟩
theorem phx_n {A B : sS} {ts cl cm : Nat} {key p e z k q f : Int} (hk : k = key) (hc : cl = cm) (h : TSO A B cl q f 1 z) (hp : q = p + 1) (he : f = e) (hy : key = 44) (F : FR md_rr_test__p A B) : PHX A B ts cm k p e z := by
  subst hk hc hp he
  exact ⟨fun w => absurd w (by omega), fun _ => h, fun _ w => absurd hy w, F.up rfl, fun _ => kin_G F rfl rfl⟩
theorem phx_o {A B : sS} {ts cl cm : Nat} {key p e z k q f : Int} (hk : k = key) (hc : cl = cm) (h : OPO A B cl key q f z) (hp : q = p + 1) (he : f = e) (h3 : key ≠ 43) (h4 : key ≠ 44) (F : FR md_rr_otherPhrase__p A B) : PHX A B ts cm k p e z := by
  subst hk hc hp he
  exact ⟨fun w => absurd w h3, fun w => absurd w h4, fun _ _ => h, F.up rfl, fun _ => kin_G F rfl rfl⟩
theorem rpo_9 {l : List rec} {S W S1 : sS} {ru ts n : Nat} {z : Int} (hz : z = 0) (hn : n = 8) (c : PHC l S ru ts n W) (m : ∀ j : Nat, j < n → ty7 S (eP7 S (Xi S 899 5 + 1) j) = 105) {q : Int} (hq : q = pP7 S (Xi S 899 5 + 1) n) (f : FTO W S1 9 q) (g : AGU S W) : RPO l S S1 ru ts z := by
  subst hn hq
  exact ⟨fun q => absurd hz (by omega), fun _ => ⟨8, W, Nat.le_refl _, c, m, Or.inl ⟨rfl, f, g⟩⟩⟩
theorem rpo_n {l : List rec} {S W A S1 : sS} {ru ts n : Nat} {z w : Int} (hz : z = 0) (hn : n < 8) (c : PHC l S ru ts n W) (m : ∀ j : Nat, j < n → ty7 S (eP7 S (Xi S 899 5 + 1) j) = 105) (x : NXC W A) (g : AGU S A) (f : FR l S A) (hw : w = 0) (p : PHX A S1 ts (Xi W 246 5).toNat (ty7 S (pP7 S (Xi S 899 5 + 1) n)) (pP7 S (Xi S 899 5 + 1) n) (eP7 S (Xi S 899 5 + 1) n) w) : RPO l S S1 ru ts z := by
  subst hw
  exact ⟨fun q => absurd hz (by omega), fun _ => ⟨n, W, by omega, c, m, Or.inr ⟨hn, A, x, g, f, p⟩⟩⟩
theorem rpo_y {l : List rec} {S T U S1 : sS} {ru ts n : Nat} {z a b : Int} (hz : z = 1) (h0 : 0 < n) (hn : n ≤ 8) (c : PHC l S ru ts n T) (m : ∀ j : Nat, j + 1 < n → ty7 S (eP7 S (Xi S 899 5 + 1) j) = 105) (x : ty7 S (eP7 S (Xi S 899 5 + 1) (n - 1)) ≠ 105) (e1 : U = uI T (248 + ru) 5 (Int32.ofInt a)) (e2 : S1 = uI U 246 2 (Int32.ofInt b)) (ha : a = Xi S 899 6) (hb : b = Xi S 246 2 + 1) (f : Xi S1 876 8 = 0) : RPO l S S1 ru ts z := by
  subst ha hb e1
  exact ⟨fun _ => ⟨n, T, h0, hn, c, m, x, e2, f⟩, fun q => absurd hz (by omega)⟩
theorem phx_8 {A B : sS} {ts cl : Nat} {key p e z : Int} (h : PHX A B ts cl key p e z) (hz : z = 1) (f : Xi A 876 8 = 0) : Xi B 876 8 = 0 := by
  subst hz
  by_cases a : key = 43
  · exact ((h.1 a).1 rfl).1
  · by_cases b : key = 44
    · exact ((h.2.1 b).2.1 rfl).1
    · obtain ⟨m, d, t, r⟩ := h.2.2.1 a b
      by_cases c : key = 45
      · have o := m c
        by_cases q : isK A (whkC A (p + 1) e) 0 = 0
        · exact absurd (o.2.1 q).1 (by decide)
        · by_cases w : whoC A (wheC A (p + 1) e + 1) e = -1
          · exact absurd (o.2.2.1 q w).1 (by decide)
          · exact (o.2.2.2 q w).2.1
      · by_cases c2 : key = 46 ∨ key = 47
        · obtain ⟨U, eU, o, _⟩ := d c2
          have u8 : Xi U 876 8 = 0 := by rw [eU, Xi_ne (by omega), Xi_ne (by omega)]; exact f
          by_cases q : pOK U (p + 1 + 1) (re7 (ty7 A) (p + 1 + 1)) (whkC U (re7 (ty7 A) (p + 1 + 1) + 1) (Xi A 876 7 - 1)) 1
          · by_cases w : whoC U (re7 (ty7 A) (p + 1 + 1) + 1) (Xi A 876 7 - 1) = -1
            · exact absurd (o.2.2.2.2.1 q w).1 (by decide)
            · exact (o.2.2.2.2.2 q w).2.trans u8
          · exact absurd (o.2.2.2.1 q).1 (by decide)
        · by_cases c3 : key = 49
          · obtain ⟨U, eU, o1, o2⟩ := t c3
            by_cases q : re7 (ty7 A) (p + 1) = e
            · have o := o1 q
              by_cases w : (taF U (p + 1) e (e - (p + 1) - 1).toNat).2.2 = 1
              · exact (o.2.2 w).2.1
              · exact absurd (o.2.1 w).1 (by decide)
            · have o := o2 q
              by_cases w : fnd U 8 (p + 1) (re7 (ty7 A) (p + 1)) = -1 ∨ Xi U 19 (fnd U 8 (p + 1) (re7 (ty7 A) (p + 1))).toNat < 0
              · exact absurd (o.2.1 w).1 (by decide)
              · by_cases v : whoC U (re7 (ty7 A) (p + 1)) e = -1
                · exact absurd (o.2.2.1 (fun y => w (Or.inl y)) (by omega) v).1 (by decide)
                · exact (o.2.2.2 (fun y => w (Or.inl y)) (by omega) v).2.1
          · rw [(r c (fun y => c2 (Or.inl y)) (fun y => c2 (Or.inr y)) c3).2]; exact f

def md_rr_rulePhrases__p : List rec := [(246, 247, 2, 3), (246, 247, 5, 6), (246, 247, 8, 9), (248, 272, 0, 100000), (274, 275, 0, 100000), (275, 276, 0, 100000), (276, 876, 0, 1), (276, 876, 1, 2), (276, 876, 2, 3), (276, 876, 3, 4), (276, 876, 4, 5), (276, 876, 5, 6), (276, 876, 6, 7), (876, 877, 7, 8), (876, 877, 8, 9), (876, 877, 9, 10), (877, 878, 0, 100000), (878, 879, 0, 100000), (879, 880, 0, 100000), (895, 896, 5, 6), (895, 896, 6, 7), (895, 896, 7, 8), (895, 896, 8, 9), (895, 896, 9, 10), (895, 896, 10, 11), (895, 896, 11, 12)]
abbrev Q_rr_rulePhrases__p (S : sS) (ru : Nat) (ts : Nat) : pst := fun r S1 => RI S1 ∧ FR md_rr_rulePhrases__p S S1 ∧ (∃ z : Int, r = some (iv z) ∧ (0 ≤ z ∧ z ≤ 1) ∧ (RPO md_rr_rulePhrases__p S S1 ru ts z))
set_option maxRecDepth 100000 in
theorem t_rr_rulePhrases__p {S : sS} (hH : RI S) (ru : Nat) (ts : Nat) (hts : S.2.2 876 4 = some ts) (htp : tp ts) (hru : S.2.2 899 4 = some (248 + ru)) (hrk : ru < 24) (h13 : 0 ≤ Xi S 1 3 ∧ Xi S 1 3 ≤ 200) (hCE : CEN S) (hf : Xi S 876 8 = 0) (hr : Xi S 876 7 ≤ 5130) (hby : BYT S ts) (h7 : 0 ≤ Xi S 876 7) (hT : TOK S) (hS : SRX S) (hnv : Hid (NVL S)) (hpl : Hid (∀ j : Nat, 0 ≤ Xi S 878 j)) (h5 : Xi S 876 5 ≤ 5000) (hc6 : 0 ≤ Xi S 876 6 ∧ Xi S 876 6 ≤ 5005) (hc7 : Xi S 876 6 ≤ Xi S 876 7) (hi8 : 0 ≤ Xi S 246 8) (hcc : 0 ≤ Xi S 246 5 ∧ Xi S 246 5 + 8 ≤ 600) (h2r : 0 ≤ Xi S 246 2 ∧ Xi S 246 2 ≤ 24) (h99 : 0 ≤ Xi S 899 5 ∧ Xi S 899 5 ≤ 5140) (hpq : Hid (PPQ S (Xi S 899 5 + 1))) (d : Nat) : Mp lay0 (d + 6) m_rr_rulePhrases [.ref 899] S (Q_rr_rulePhrases__p S ru ts) := by
  refine Mp_R rfl rfl (fun fu => ?_)
  have hF : FR md_rr_rulePhrases__p S S := FR.rf
  have w1 : -2147483648 ≤ Xi S 1 3 ∧ Xi S 1 3 ≤ 2147483647 := Xi_rgI
  have w2 : -2147483648 ≤ Xi S 246 2 ∧ Xi S 246 2 ≤ 2147483647 := Xi_rgI
  have w3 : -2147483648 ≤ Xi S 246 5 ∧ Xi S 246 5 ≤ 2147483647 := Xi_rgI
  have w4 : -2147483648 ≤ Xi S 246 8 ∧ Xi S 246 8 ≤ 2147483647 := Xi_rgI
  have w5 : -2147483648 ≤ Xi S 876 5 ∧ Xi S 876 5 ≤ 2147483647 := Xi_rgI
  have w6 : -2147483648 ≤ Xi S 876 6 ∧ Xi S 876 6 ≤ 2147483647 := Xi_rgI
  have w7 : -2147483648 ≤ Xi S 876 7 ∧ Xi S 876 7 ≤ 2147483647 := Xi_rgI
  have w8 : -2147483648 ≤ Xi S 876 8 ∧ Xi S 876 8 ≤ 2147483647 := Xi_rgI
  have w9 : -2147483648 ≤ Xi S 899 5 ∧ Xi S 899 5 ≤ 2147483647 := Xi_rgI
  have w10 : -2147483648 ≤ Xi S 899 6 ∧ Xi S 899 6 ≤ 2147483647 := Xi_rgI
  have C11 : ∀ (n11 : Nat) (_ : n11 ≤ fu) (T1 : sS) (_ : RI T1) (_ : FR md_rr_rulePhrases__p S T1) (v1 : Int) (v2 : Int) (v3 : Int), (-2 ≤ v1 ∧ v1 ≤ 5142) → (0 ≤ v2 ∧ v2 ≤ 1) → (0 ≤ v3 ∧ v3 ≤ 8) → (0 ≤ v3 ∧ v3 ≤ 8) → (0 ≤ v2 ∧ v2 ≤ 1) → (Hid (PHC md_rr_rulePhrases__p S ru ts (v3).toNat T1)) → (Hid (v2 ≠ 0 → v1 = pP7 S (Xi S 899 5 + 1) (v3).toNat ∧ ∀ j : Nat, j < (v3).toNat → ty7 S (eP7 S (Xi S 899 5 + 1) j) = 105)) → (Hid (v2 = 0 → 0 < v3 ∧ ty7 S (eP7 S (Xi S 899 5 + 1) ((v3).toNat - 1)) ≠ 105 ∧ ∀ j : Nat, j + 1 < (v3).toNat → ty7 S (eP7 S (Xi S 899 5 + 1) j) = 105)) → (Xi T1 876 8 = 0) → (Xi T1 246 5 = Xi S 246 5 + v3) → (Xi T1 246 2 = Xi S 246 2) → (Xi T1 899 6 = Xi S 899 6) → (Xi T1 876 6 = Xi S 876 6) → (Hid (AGU S T1)) → Pl n11 lay0 (d + 5) m_rr_rulePhrases 11 [(0, .ref 899), (1, iv v1), (2, iv v2), (3, iv v3)] [] T1 (Q_rr_rulePhrases__p S ru ts) := by
    intro n11
    induction n11 with
    | zero => intros; exact Pl_0
    | succ n11 ih11 =>
      intro hm11 T1 hHT1 hFT1 v1 v2 v3 w11 w12 w13 w14 w15 H11 m11 x11 w16 w17 w18 w19 w20 G11
      have w21 : Xi T1 1 3 = Xi S 1 3 := hFT1.x _ _ rfl
      have w22 : Xi T1 876 5 = Xi S 876 5 := hFT1.x _ _ rfl
      have w23 : Xi T1 876 6 = Xi S 876 6 := hFT1.x _ _ rfl
      have w24 : Xi T1 895 4 = Xi S 895 4 := hFT1.x _ _ rfl
      have w25 : Xi T1 899 5 = Xi S 899 5 := hFT1.x _ _ rfl
      have w26 : Xi T1 899 6 = Xi S 899 6 := hFT1.x _ _ rfl
      have w27 : -2147483648 ≤ Xi T1 246 2 ∧ Xi T1 246 2 ≤ 2147483647 := Xi_rgI
      have w28 : -2147483648 ≤ Xi T1 246 5 ∧ Xi T1 246 5 ≤ 2147483647 := Xi_rgI
      have w29 : -2147483648 ≤ Xi T1 246 8 ∧ Xi T1 246 8 ≤ 2147483647 := Xi_rgI
      have w30 : -2147483648 ≤ Xi T1 876 6 ∧ Xi T1 876 6 ≤ 2147483647 := Xi_rgI
      have w31 : -2147483648 ≤ Xi T1 876 7 ∧ Xi T1 876 7 ≤ 2147483647 := Xi_rgI
      have w32 : -2147483648 ≤ Xi T1 876 8 ∧ Xi T1 876 8 ≤ 2147483647 := Xi_rgI
      have w33 : -2147483648 ≤ Xi T1 899 5 ∧ Xi T1 899 5 ≤ 2147483647 := Xi_rgI
      have w34 : -2147483648 ≤ Xi T1 899 6 ∧ Xi T1 899 6 ≤ 2147483647 := Xi_rgI
      refine ys_iload_n rfl rfl ?_
      refine y_if_eq rfl rfl (by unfold rg; omega) (fun w35 => ?_) (fun w36 => ?_)
      · refine y_aload_n rfl rfl ?_
        refine y_gfr rfl rfl rfl rfl rfl ((hFT1 899 4 rfl).2.2.trans hru) ?_
        refine y_iconst rfl ?_
        refine y_aload_n rfl rfl ?_
        refine y_gfi rfl rfl rfl rfl rfl ?_
        refine y_iastoreP (n := 8) rfl (lay_248 (by omega)) (by unfold rg; omega) (fun w38 w39 => ?_)
        obtain ⟨U2, eU2⟩ : ∃ T : sS, T = uI T1 (248 + ru) ((5 : Int).toNat) (Int32.ofInt (Xi T1 899 6)) := ⟨_, rfl⟩
        rw [← eU2]
        have hHU2 : RI U2 := by rw [eU2]; exact RI_w hHT1
        have hFU2 : FR md_rr_rulePhrases__p S U2 := by rw [eU2]; exact FR.wI hFT1 (mdf_i (r := (248, 272, 0, 100000)) (List.mem_of_getElem? (i := 3) rfl) (inR_i (by omega) (by omega) (by omega) (by omega)))
        have w40 : Xi U2 (248 + ru) ((5 : Int).toNat) = (Xi T1 899 6) := by rw [eU2]; exact Xi_same (by unfold rg; omega)
        have e181 := eU2
        refine y_aload_n rfl rfl ?_
        refine y_gfr rfl rfl rfl rfl rfl (hHU2.r 899 3 246 rfl) ?_
        refine y_dup rfl rfl ?_
        refine y_gfi rfl rfl rfl rfl rfl ?_
        have w41 : (Xi U2 246 2) = (Xi T1 246 2) := (show Xi U2 246 2 = Xi T1 246 2 from by rw [eU2]; exact Xi_ne (by omega))
        rw [w41]
        refine y_iconst rfl ?_
        refine y_iadd rfl ?_
        refine y_pfi rfl rfl rfl rfl ?_
        obtain ⟨U3, eU3⟩ : ∃ T : sS, T = uI U2 246 2 (Int32.ofInt ((Xi T1 246 2) + 1)) := ⟨_, rfl⟩
        rw [← eU3]
        have hHU3 : RI U3 := by rw [eU3]; exact RI_w hHU2
        have hFU3 : FR md_rr_rulePhrases__p S U3 := by rw [eU3]; exact FR.wI hFU2 (mdf_i (r := (246, 247, 2, 3)) (List.mem_of_getElem? (i := 0) rfl) (inR_i (by omega) (by omega) (by omega) (by omega)))
        have w42 : Xi U3 246 2 = ((Xi T1 246 2) + 1) := by rw [eU3]; exact Xi_same (by unfold rg; omega)
        have e192 := eU3
        refine y_iconst rfl ?_
        refine y_ireturn rfl rfl ?_
        have w43 : Xi U3 246 5 = Xi T1 246 5 := (show Xi U3 246 5 = Xi U2 246 5 from by rw [eU3]; exact Xi_ne (by omega)).trans ((show Xi U2 246 5 = Xi T1 246 5 from by rw [eU2]; exact Xi_ne (by omega)))
        have w44 : Xi U3 246 8 = Xi T1 246 8 := (show Xi U3 246 8 = Xi U2 246 8 from by rw [eU3]; exact Xi_ne (by omega)).trans ((show Xi U2 246 8 = Xi T1 246 8 from by rw [eU2]; exact Xi_ne (by omega)))
        have w45 : Xi U3 876 6 = Xi T1 876 6 := (show Xi U3 876 6 = Xi U2 876 6 from by rw [eU3]; exact Xi_ne (by omega)).trans ((show Xi U2 876 6 = Xi T1 876 6 from by rw [eU2]; exact Xi_ne (by omega)))
        have w46 : Xi U3 876 7 = Xi T1 876 7 := (show Xi U3 876 7 = Xi U2 876 7 from by rw [eU3]; exact Xi_ne (by omega)).trans ((show Xi U2 876 7 = Xi T1 876 7 from by rw [eU2]; exact Xi_ne (by omega)))
        have w47 : Xi U3 876 8 = Xi T1 876 8 := (show Xi U3 876 8 = Xi U2 876 8 from by rw [eU3]; exact Xi_ne (by omega)).trans ((show Xi U2 876 8 = Xi T1 876 8 from by rw [eU2]; exact Xi_ne (by omega)))
        have w48 : Xi U3 899 5 = Xi T1 899 5 := (show Xi U3 899 5 = Xi U2 899 5 from by rw [eU3]; exact Xi_ne (by omega)).trans ((show Xi U2 899 5 = Xi T1 899 5 from by rw [eU2]; exact Xi_ne (by omega)))
        have w49 : Xi U3 899 6 = Xi T1 899 6 := (show Xi U3 899 6 = Xi U2 899 6 from by rw [eU3]; exact Xi_ne (by omega)).trans ((show Xi U2 899 6 = Xi T1 899 6 from by rw [eU2]; exact Xi_ne (by omega)))
        exact ⟨hHU3, hFU3, _, rfl, ⟨by omega, by omega⟩, (by first | (have u := PX; exact rpo_n rfl (by omega) H11.o M15.2 N59.o G59.o F59S (by omega) PX.o) | exact rpo_y rfl (by have := (x11.o (by omega)).1; omega) (by omega) H11.o (x11.o (by omega)).2.2 (x11.o (by omega)).2.1 e181 e192 (by omega) (by omega) (by rw [e192, Xi_ne (by omega), e181, Xi_ne (by omega)]; omega) | (have u := Y28; exact rpo_9 (by omega) (by omega) H11.o M15.2 M15.1 Y28 G11.o))⟩
      · refine y_iload_n rfl rfl ?_
        have M15 := m11.o (by omega)
        have g15 := G11.o.2.1
        have i15 := G11.o.2.2.2.2.2
        refine y_bipush rfl rfl ?_
        refine y_icmp_ne rfl rfl (by unfold rg; omega) (by unfold rg; omega) (fun w50 => ?_) (fun w51 => ?_)
        · refine y_aload_n rfl rfl ?_
          have Q32 := hpq.o (v3).toNat (by omega) M15.2
          have q32 := Q32.1
          have k32 := Q32.2.1
          have v32 := M15.1
          have t32 : TOK T1 := G11.o.2.2.1
          refine y_gfr rfl rfl rfl rfl rfl (hHT1.r 899 0 876 rfl) ?_
          refine y_iload_n rfl rfl ?_
          refine y_callV rfl rfl rfl (t_to_typeAt__p hHT1 v1 ⟨by omega, by omega⟩ _) ?_
          rintro _ _ ⟨rfl, z53, rfl, w53, q37, w52⟩
          show Pl _ _ _ _ _ _ [iv z53] _ _
          have K37 : z53 = ty7 S (pP7 S (Xi S 899 5 + 1) (v3).toNat) := by rw [← q37, v32]; exact agu_t G11.o hc7 q32.1 (by omega)
          refine y_istore rfl rfl rfl ?_
          refine y_aload_n rfl rfl ?_
          refine y_gfr rfl rfl rfl rfl rfl (hHT1.r 899 0 876 rfl) ?_
          refine y_iload_n rfl rfl ?_
          refine y_iconst rfl ?_
          refine y_callV rfl rfl rfl (t_to_testEnd__p hHT1 v1 1 ⟨by omega, by omega⟩ ⟨by omega, by omega⟩ (by first | assumption | omega) (by first | assumption | omega) _) ?_
          rintro _ _ ⟨rfl, z54, rfl, w54, q48, b48⟩
          show Pl _ _ _ _ _ _ [iv z54] _ _
          have E48 : z54 = eP7 S (Xi S 899 5 + 1) (v3).toNat := by rw [← q48, v32]; exact agu_e G11.o hc7 q32.1 q32.2.2.1
          refine y_istore rfl rfl rfl ?_
          refine y_aload_n rfl rfl ?_
          refine y_gfr rfl rfl rfl rfl rfl (hHT1.r 899 3 246 rfl) ?_
          refine y_bipush rfl rfl ?_
          refine y_callV rfl rfl rfl (t_bo_nextClause__p hHT1 11 ⟨by omega, by omega⟩ (by first | assumption | omega) _) ?_
          rintro _ T4 ⟨hHT4, w56, z55, rfl, w55, p59, q59, k59, c59⟩
          have hFT4 : FR md_rr_rulePhrases__p S T4 := FR.tr hFT1 w56 rfl
          show Pl _ _ _ _ _ _ [.ref (276 + z55)] _ _
          have F59 := (by assumption : FR md_bo_nextClause__p T1 T4)
          have F59S := hFT4
          have G59 : Hid (AGU S T4) := agu_F F59 rfl rfl rfl rfl G11.o
          have t59 : TOK T4 := G59.o.2.2.1
          have x59 : Xi T4 876 6 = Xi S 876 6 := by rw [F59.x 876 6 rfl]; omega
          have B59 := Q32.2.2 T4 G59.o x59
          have N59 : Hid (NXC T1 T4) := nxc_of F59 p59 q59 k59 c59
          refine y_astore rfl rfl rfl ?_
          refine y_iload rfl rfl ?_
          refine y_bipush rfl rfl ?_
          refine y_icmp_ne rfl rfl (by unfold rg; omega) (by unfold rg; omega) (fun w57 => ?_) (fun w58 => ?_)
          · refine y_iload rfl rfl ?_
            refine y_bipush rfl rfl ?_
            refine y_icmp_ne rfl rfl (by unfold rg; omega) (by unfold rg; omega) (fun w59 => ?_) (fun w60 => ?_)
            · refine y_aload_n rfl rfl ?_
              refine y_iload rfl rfl ?_
              refine y_iload_n rfl rfl ?_
              refine y_iconst rfl ?_
              refine y_iadd rfl ?_
              refine y_iload rfl rfl ?_
              refine y_aload rfl rfl ?_
              have w61 : Xi T4 1 3 = Xi T1 1 3 := (show Xi T4 1 3 = Xi T1 1 3 from w56.x _ _ rfl)
              have w62 : Xi T4 246 2 = Xi T1 246 2 := (show Xi T4 246 2 = Xi T1 246 2 from w56.x _ _ rfl)
              have w63 : Xi T4 246 8 = Xi T1 246 8 := (show Xi T4 246 8 = Xi T1 246 8 from w56.x _ _ rfl)
              have w64 : Xi T4 876 6 = Xi T1 876 6 := (show Xi T4 876 6 = Xi T1 876 6 from w56.x _ _ rfl)
              have w65 : Xi T4 876 7 = Xi T1 876 7 := (show Xi T4 876 7 = Xi T1 876 7 from w56.x _ _ rfl)
              have w66 : Xi T4 876 8 = Xi T1 876 8 := (show Xi T4 876 8 = Xi T1 876 8 from w56.x _ _ rfl)
              have w67 : Xi T4 899 5 = Xi T1 899 5 := (show Xi T4 899 5 = Xi T1 899 5 from w56.x _ _ rfl)
              have w68 : Xi T4 899 6 = Xi T1 899 6 := (show Xi T4 899 6 = Xi T1 899 6 from w56.x _ _ rfl)
              refine y_callV rfl rfl rfl (t_rr_otherPhrase__p hHT4 z53 (v1 + 1) z54 z55 ⟨by omega, by omega⟩ ⟨by omega, by omega⟩ ⟨by omega, by omega⟩ (by omega) (by first | assumption | omega) (by first | assumption | exact (CEN_FR hFT4 rfl rfl (by assumption : CEN S))) (by first | assumption | omega) (by first | assumption | omega) (by first | assumption | omega) (fun q => by rw [show v1 + 1 = pP7 S (Xi S 899 5 + 1) (v3).toNat + 1 by omega, E48]; exact B59.2.2.1 (by omega)) (fun q => by rw [E48]; exact B59.2.2.2 (by omega)) (c59) _) ?_
              rintro _ T5 ⟨hHT5, w70, z69, rfl, w69, o119⟩
              have hFT5 : FR md_rr_rulePhrases__p S T5 := FR.tr hFT4 w70 rfl
              show Pl _ _ _ _ _ _ [iv z69] _ _
              have F119 := (by assumption : FR md_rr_otherPhrase__p T4 T5)
              have PX : Hid (PHX T4 T5 ts (Xi T1 246 5).toNat (ty7 S (pP7 S (Xi S 899 5 + 1) (v3).toNat)) (pP7 S (Xi S 899 5 + 1) (v3).toNat) (eP7 S (Xi S 899 5 + 1) (v3).toNat) z69) := phx_o (key := z53) (by omega) (by omega) o119 (by omega) (by omega) (by omega) (by omega) F119
              refine y_istore rfl rfl rfl ?_
              refine y_iload rfl rfl ?_
              refine y_if_ne rfl rfl (by unfold rg; omega) (fun w71 => ?_) (fun w72 => ?_)
              · refine y_aload_n rfl rfl ?_
                refine y_gfr rfl rfl rfl rfl rfl ((hFT5 899 4 rfl).2.2.trans hru) ?_
                have FB := hFT5
                have PX1 : Hid (PHX T4 T5 ts (Xi T1 246 5).toNat (ty7 S (pP7 S (Xi S 899 5 + 1) (v3).toNat)) (pP7 S (Xi S 899 5 + 1) (v3).toNat) (eP7 S (Xi S 899 5 + 1) (v3).toNat) 1) := by have p := PX.o; rw [show (z69 : Int) = 1 by omega] at p; exact p
                have GB : Hid (AGU S T5) := by first | (have u := X77; exact agu_s ((PX1.o.1 (by omega)).1 rfl).2 G59.o (by omega) (F77.x 876 5 rfl) n77 i77) | exact agu_F F101 rfl rfl rfl rfl G59.o | exact agu_F F119 rfl rfl rfl rfl G59.o
                have zB : Xi T5 876 8 = 0 := phx_8 PX1.o rfl (by omega)
                refine y_bipush rfl rfl ?_
                refine y_iload_n rfl rfl ?_
                refine y_iconst rfl ?_
                refine y_iadd rfl ?_
                refine y_iastoreP (n := 8) rfl (lay_248 (by omega)) (by unfold rg; omega) (fun w74 w75 => ?_)
                obtain ⟨U6, eU6⟩ : ∃ T : sS, T = uI T5 (248 + ru) ((6 : Int).toNat) (Int32.ofInt (v3 + 1)) := ⟨_, rfl⟩
                rw [← eU6]
                have hHU6 : RI U6 := by rw [eU6]; exact RI_w hHT5
                have hFU6 : FR md_rr_rulePhrases__p S U6 := by rw [eU6]; exact FR.wI hFT5 (mdf_i (r := (248, 272, 0, 100000)) (List.mem_of_getElem? (i := 3) rfl) (inR_i (by omega) (by omega) (by omega) (by omega)))
                have w76 : Xi U6 (248 + ru) ((6 : Int).toNat) = (v3 + 1) := by rw [eU6]; exact Xi_same (by unfold rg; omega)
                have e140 := eU6
                have G140 : Hid (AGU S U6) := agu_w e140 (by omega) (by omega) GB.o
                have g140 := GB.o.2.1
                have z140 : Xi U6 876 8 = 0 := by rw [e140, Xi_ne (by omega)]; exact zB
                have y140 : Xi U6 246 5 = Xi S 246 5 + (v3 + 1) := by rw [e140, Xi_ne (by omega)]; first | (have u := X77; rw [F77.x 246 5 rfl]; omega) | (rw [F101.x 246 5 rfl]; omega) | (rw [F119.x 246 5 rfl]; omega)
                refine y_aload_n rfl rfl ?_
                refine y_gfr rfl rfl rfl rfl rfl (hHU6.r 899 0 876 rfl) ?_
                refine y_iload rfl rfl ?_
                have w77 : Xi U6 246 2 = Xi T1 246 2 := (show Xi U6 246 2 = Xi T5 246 2 from by rw [eU6]; exact Xi_ne (by omega)).trans ( (show Xi T5 246 2 = Xi T4 246 2 from w70.x _ _ rfl).trans ((show Xi T4 246 2 = Xi T1 246 2 from w56.x _ _ rfl)))
                have w78 : Xi U6 246 5 = Xi T4 246 5 := (show Xi U6 246 5 = Xi T5 246 5 from by rw [eU6]; exact Xi_ne (by omega)).trans ((show Xi T5 246 5 = Xi T4 246 5 from w70.x _ _ rfl))
                have w79 : Xi U6 246 8 = Xi T1 246 8 := (show Xi U6 246 8 = Xi T5 246 8 from by rw [eU6]; exact Xi_ne (by omega)).trans ( (show Xi T5 246 8 = Xi T4 246 8 from w70.x _ _ rfl).trans ((show Xi T4 246 8 = Xi T1 246 8 from w56.x _ _ rfl)))
                have w80 : Xi U6 876 6 = Xi T1 876 6 := (show Xi U6 876 6 = Xi T5 876 6 from by rw [eU6]; exact Xi_ne (by omega)).trans ( (show Xi T5 876 6 = Xi T4 876 6 from w70.x _ _ rfl).trans ((show Xi T4 876 6 = Xi T1 876 6 from w56.x _ _ rfl)))
                have w81 : Xi U6 876 7 = Xi T1 876 7 := (show Xi U6 876 7 = Xi T5 876 7 from by rw [eU6]; exact Xi_ne (by omega)).trans ( (show Xi T5 876 7 = Xi T4 876 7 from w70.x _ _ rfl).trans ((show Xi T4 876 7 = Xi T1 876 7 from w56.x _ _ rfl)))
                have w82 : Xi U6 876 8 = Xi T5 876 8 := (show Xi U6 876 8 = Xi T5 876 8 from by rw [eU6]; exact Xi_ne (by omega))
                have w83 : Xi U6 899 5 = Xi T1 899 5 := (show Xi U6 899 5 = Xi T5 899 5 from by rw [eU6]; exact Xi_ne (by omega)).trans ( (show Xi T5 899 5 = Xi T4 899 5 from w70.x _ _ rfl).trans ((show Xi T4 899 5 = Xi T1 899 5 from w56.x _ _ rfl)))
                have w84 : Xi U6 899 6 = Xi T1 899 6 := (show Xi U6 899 6 = Xi T5 899 6 from by rw [eU6]; exact Xi_ne (by omega)).trans ( (show Xi T5 899 6 = Xi T4 899 6 from w70.x _ _ rfl).trans ((show Xi T4 899 6 = Xi T1 899 6 from w56.x _ _ rfl)))
                refine y_callV rfl rfl rfl (t_to_typeAt__p hHU6 z54 ⟨by omega, by omega⟩ _) ?_
                rintro _ _ ⟨rfl, z86, rfl, w86, q147, w85⟩
                show Pl _ _ _ _ _ _ [iv z86] _ _
                have K147 : z86 = ty7 S (eP7 S (Xi S 899 5 + 1) (v3).toNat) := by rw [← q147, E48]; exact agu_t G140.o hc7 (by omega) (by omega)
                refine y_bipush rfl rfl ?_
                refine y_icmp_ne rfl rfl (by unfold rg; omega) (by unfold rg; omega) (fun w87 => ?_) (fun w88 => ?_)
                · refine y_iconst rfl ?_
                  refine y_istore_n rfl rfl rfl ?_
                  refine y_iload rfl rfl ?_
                  refine y_iconst rfl ?_
                  refine y_iadd rfl ?_
                  refine y_istore_n rfl rfl rfl ?_
                  refine y_iinc rfl rfl rfl rfl ?_
                  have N166 : (v3 + 1).toNat = (v3).toNat + 1 := by omega
                  have H166 : Hid (PHC md_rr_rulePhrases__p S ru ts (v3 + 1).toNat U6) := by rw [N166]; exact ⟨_, _, _, H11.o, N59.o, G59.o, F59S, PX1.o, FB, by rw [show (((v3).toNat : Nat) : Int) + 1 = v3 + 1 by omega]; exact e140⟩
                  have m166 : Hid ((0 : Int) ≠ 0 → (z54 + 1) = pP7 S (Xi S 899 5 + 1) (v3 + 1).toNat ∧ ∀ j : Nat, j < (v3 + 1).toNat → ty7 S (eP7 S (Xi S 899 5 + 1) j) = 105) := fun q => ⟨by rw [N166]; show _ = eP7 S (Xi S 899 5 + 1) (v3).toNat + 1; omega, fun j hj => by by_cases w : j < (v3).toNat; exact M15.2 j w; (rw [show j = (v3).toNat by omega, ← K147]; omega)⟩
                  have x166 : Hid ((0 : Int) = 0 → 0 < v3 + 1 ∧ ty7 S (eP7 S (Xi S 899 5 + 1) ((v3 + 1).toNat - 1)) ≠ 105 ∧ ∀ j : Nat, j + 1 < (v3 + 1).toNat → ty7 S (eP7 S (Xi S 899 5 + 1) j) = 105) := fun q => ⟨by omega, by rw [N166, Nat.add_sub_cancel, ← K147]; omega, fun j hj => M15.2 j (by omega)⟩
                  refine y_goto rfl rfl ?_
                  exact Pl_weak (ih11 (by omega) U6 hHU6 hFU6 ((z54 + 1)) (0) ((v3 + 1)) (by omega) (by omega) (by omega) (by omega) (by omega) (by first | exact H166 | exact Hid.i (show PHC _ _ _ _ 0 _ from rfl)) (by first | exact m166 | exact Hid.i (fun q => ⟨rfl, fun j w => absurd w (Nat.not_lt_zero _)⟩)) (by first | exact x166 | exact Hid.i (fun q => absurd q (by decide))) (by omega) (by omega) (by omega) (by omega) (by omega) (by first | exact G140 | exact Hid.i ⟨KR.rf, ⟨hc7, hr⟩, hT, hnv.o, hpl.o, hi8⟩)) (by omega) (And.intro rfl (And.intro rfl (And.intro rfl (And.intro rfl (True.intro)))))
                · refine y_iconst rfl ?_
                  refine y_goto rfl rfl ?_
                  refine y_istore_n rfl rfl rfl ?_
                  refine y_iload rfl rfl ?_
                  refine y_iconst rfl ?_
                  refine y_iadd rfl ?_
                  refine y_istore_n rfl rfl rfl ?_
                  refine y_iinc rfl rfl rfl rfl ?_
                  have N166 : (v3 + 1).toNat = (v3).toNat + 1 := by omega
                  have H166 : Hid (PHC md_rr_rulePhrases__p S ru ts (v3 + 1).toNat U6) := by rw [N166]; exact ⟨_, _, _, H11.o, N59.o, G59.o, F59S, PX1.o, FB, by rw [show (((v3).toNat : Nat) : Int) + 1 = v3 + 1 by omega]; exact e140⟩
                  have m166 : Hid ((1 : Int) ≠ 0 → (z54 + 1) = pP7 S (Xi S 899 5 + 1) (v3 + 1).toNat ∧ ∀ j : Nat, j < (v3 + 1).toNat → ty7 S (eP7 S (Xi S 899 5 + 1) j) = 105) := fun q => ⟨by rw [N166]; show _ = eP7 S (Xi S 899 5 + 1) (v3).toNat + 1; omega, fun j hj => by by_cases w : j < (v3).toNat; exact M15.2 j w; (rw [show j = (v3).toNat by omega, ← K147]; omega)⟩
                  have x166 : Hid ((1 : Int) = 0 → 0 < v3 + 1 ∧ ty7 S (eP7 S (Xi S 899 5 + 1) ((v3 + 1).toNat - 1)) ≠ 105 ∧ ∀ j : Nat, j + 1 < (v3 + 1).toNat → ty7 S (eP7 S (Xi S 899 5 + 1) j) = 105) := fun q => ⟨by omega, by rw [N166, Nat.add_sub_cancel, ← K147]; omega, fun j hj => M15.2 j (by omega)⟩
                  refine y_goto rfl rfl ?_
                  exact Pl_weak (ih11 (by omega) U6 hHU6 hFU6 ((z54 + 1)) (1) ((v3 + 1)) (by omega) (by omega) (by omega) (by omega) (by omega) (by first | exact H166 | exact Hid.i (show PHC _ _ _ _ 0 _ from rfl)) (by first | exact m166 | exact Hid.i (fun q => ⟨rfl, fun j w => absurd w (Nat.not_lt_zero _)⟩)) (by first | exact x166 | exact Hid.i (fun q => absurd q (by decide))) (by omega) (by omega) (by omega) (by omega) (by omega) (by first | exact G140 | exact Hid.i ⟨KR.rf, ⟨hc7, hr⟩, hT, hnv.o, hpl.o, hi8⟩)) (by omega) (And.intro rfl (And.intro rfl (And.intro rfl (And.intro rfl (True.intro)))))
              · refine y_iconst rfl ?_
                refine y_ireturn rfl rfl ?_
                have w105 : Xi T5 246 2 = Xi T1 246 2 := (show Xi T5 246 2 = Xi T4 246 2 from w70.x _ _ rfl).trans ((show Xi T4 246 2 = Xi T1 246 2 from w56.x _ _ rfl))
                have w106 : Xi T5 246 5 = Xi T4 246 5 := (show Xi T5 246 5 = Xi T4 246 5 from w70.x _ _ rfl)
                have w107 : Xi T5 246 8 = Xi T1 246 8 := (show Xi T5 246 8 = Xi T4 246 8 from w70.x _ _ rfl).trans ((show Xi T4 246 8 = Xi T1 246 8 from w56.x _ _ rfl))
                have w108 : Xi T5 876 6 = Xi T1 876 6 := (show Xi T5 876 6 = Xi T4 876 6 from w70.x _ _ rfl).trans ((show Xi T4 876 6 = Xi T1 876 6 from w56.x _ _ rfl))
                have w109 : Xi T5 876 7 = Xi T1 876 7 := (show Xi T5 876 7 = Xi T4 876 7 from w70.x _ _ rfl).trans ((show Xi T4 876 7 = Xi T1 876 7 from w56.x _ _ rfl))
                have w110 : Xi T5 899 5 = Xi T1 899 5 := (show Xi T5 899 5 = Xi T4 899 5 from w70.x _ _ rfl).trans ((show Xi T4 899 5 = Xi T1 899 5 from w56.x _ _ rfl))
                have w111 : Xi T5 899 6 = Xi T1 899 6 := (show Xi T5 899 6 = Xi T4 899 6 from w70.x _ _ rfl).trans ((show Xi T4 899 6 = Xi T1 899 6 from w56.x _ _ rfl))
                exact ⟨hHT5, hFT5, _, rfl, ⟨by omega, by omega⟩, (by first | (have u := PX; exact rpo_n rfl (by omega) H11.o M15.2 N59.o G59.o F59S (by omega) PX.o) | exact rpo_y rfl (by have := (x11.o (by omega)).1; omega) (by omega) H11.o (x11.o (by omega)).2.2 (x11.o (by omega)).2.1 e181 e192 (by omega) (by omega) (by rw [e192, Xi_ne (by omega), e181, Xi_ne (by omega)]; omega) | (have u := Y28; exact rpo_9 (by omega) (by omega) H11.o M15.2 M15.1 Y28 G11.o))⟩
            · refine y_aload_n rfl rfl ?_
              refine y_iload_n rfl rfl ?_
              refine y_iconst rfl ?_
              refine y_iadd rfl ?_
              refine y_iload rfl rfl ?_
              refine y_aload rfl rfl ?_
              refine y_iconst rfl ?_
              have w112 : Xi T4 1 3 = Xi T1 1 3 := (show Xi T4 1 3 = Xi T1 1 3 from w56.x _ _ rfl)
              have w113 : Xi T4 246 2 = Xi T1 246 2 := (show Xi T4 246 2 = Xi T1 246 2 from w56.x _ _ rfl)
              have w114 : Xi T4 246 8 = Xi T1 246 8 := (show Xi T4 246 8 = Xi T1 246 8 from w56.x _ _ rfl)
              have w115 : Xi T4 876 5 = Xi T1 876 5 := (show Xi T4 876 5 = Xi T1 876 5 from w56.x _ _ rfl)
              have w116 : Xi T4 876 6 = Xi T1 876 6 := (show Xi T4 876 6 = Xi T1 876 6 from w56.x _ _ rfl)
              have w117 : Xi T4 876 7 = Xi T1 876 7 := (show Xi T4 876 7 = Xi T1 876 7 from w56.x _ _ rfl)
              have w118 : Xi T4 876 8 = Xi T1 876 8 := (show Xi T4 876 8 = Xi T1 876 8 from w56.x _ _ rfl)
              have w119 : Xi T4 899 5 = Xi T1 899 5 := (show Xi T4 899 5 = Xi T1 899 5 from w56.x _ _ rfl)
              have w120 : Xi T4 899 6 = Xi T1 899 6 := (show Xi T4 899 6 = Xi T1 899 6 from w56.x _ _ rfl)
              refine y_callV rfl rfl rfl (t_rr_test__p hHT4 (v1 + 1) z54 z55 1 ⟨by omega, by omega⟩ ⟨by omega, by omega⟩ (by omega) ⟨by omega, by omega⟩ (by first | assumption | omega) (by first | assumption | exact (CEN_FR hFT4 rfl rfl (by assumption : CEN S))) (by first | assumption | omega) (by first | assumption | omega) (by first | assumption | omega) (by first | assumption | exact (TOK_FR w56 rfl rfl rfl (by assumption : TOK T1))) (by first | assumption | exact (SRX_FR hFT4 rfl (by assumption : SRX S))) (G59.o.2.2.2.1) (G59.o.2.2.2.2.1) (by first | assumption | omega) (by have := (B59.2.1 (by omega)).1; omega) (by rw [show v1 + 1 = pP7 S (Xi S 899 5 + 1) (v3).toNat + 1 by omega, E48]; exact (B59.2.1 (by omega)).2.1) (by rw [show v1 + 1 = pP7 S (Xi S 899 5 + 1) (v3).toNat + 1 by omega, E48]; exact (B59.2.1 (by omega)).2.2) (⟨11, c59⟩) _) ?_
              rintro _ T7 ⟨hHT7, w122, z121, rfl, w121, o101⟩
              have hFT7 : FR md_rr_rulePhrases__p S T7 := FR.tr hFT4 w122 rfl
              show Pl _ _ _ _ _ _ [iv z121] _ _
              have F101 := (by assumption : FR md_rr_test__p T4 T7)
              have PX : Hid (PHX T4 T7 ts (Xi T1 246 5).toNat (ty7 S (pP7 S (Xi S 899 5 + 1) (v3).toNat)) (pP7 S (Xi S 899 5 + 1) (v3).toNat) (eP7 S (Xi S 899 5 + 1) (v3).toNat) z121) := phx_n (key := z53) (by omega) (by omega) o101 (by omega) (by omega) (by omega) F101
              refine y_istore rfl rfl rfl ?_
              refine y_goto rfl rfl ?_
              refine y_iload rfl rfl ?_
              refine y_if_ne rfl rfl (by unfold rg; omega) (fun w123 => ?_) (fun w124 => ?_)
              · refine y_aload_n rfl rfl ?_
                refine y_gfr rfl rfl rfl rfl rfl ((hFT7 899 4 rfl).2.2.trans hru) ?_
                have FB := hFT7
                have PX1 : Hid (PHX T4 T7 ts (Xi T1 246 5).toNat (ty7 S (pP7 S (Xi S 899 5 + 1) (v3).toNat)) (pP7 S (Xi S 899 5 + 1) (v3).toNat) (eP7 S (Xi S 899 5 + 1) (v3).toNat) 1) := by have p := PX.o; rw [show (z121 : Int) = 1 by omega] at p; exact p
                have GB : Hid (AGU S T7) := by first | (have u := X77; exact agu_s ((PX1.o.1 (by omega)).1 rfl).2 G59.o (by omega) (F77.x 876 5 rfl) n77 i77) | exact agu_F F101 rfl rfl rfl rfl G59.o | exact agu_F F119 rfl rfl rfl rfl G59.o
                have zB : Xi T7 876 8 = 0 := phx_8 PX1.o rfl (by omega)
                refine y_bipush rfl rfl ?_
                refine y_iload_n rfl rfl ?_
                refine y_iconst rfl ?_
                refine y_iadd rfl ?_
                refine y_iastoreP (n := 8) rfl (lay_248 (by omega)) (by unfold rg; omega) (fun w126 w127 => ?_)
                obtain ⟨U8, eU8⟩ : ∃ T : sS, T = uI T7 (248 + ru) ((6 : Int).toNat) (Int32.ofInt (v3 + 1)) := ⟨_, rfl⟩
                rw [← eU8]
                have hHU8 : RI U8 := by rw [eU8]; exact RI_w hHT7
                have hFU8 : FR md_rr_rulePhrases__p S U8 := by rw [eU8]; exact FR.wI hFT7 (mdf_i (r := (248, 272, 0, 100000)) (List.mem_of_getElem? (i := 3) rfl) (inR_i (by omega) (by omega) (by omega) (by omega)))
                have w128 : Xi U8 (248 + ru) ((6 : Int).toNat) = (v3 + 1) := by rw [eU8]; exact Xi_same (by unfold rg; omega)
                have e140 := eU8
                have G140 : Hid (AGU S U8) := agu_w e140 (by omega) (by omega) GB.o
                have g140 := GB.o.2.1
                have z140 : Xi U8 876 8 = 0 := by rw [e140, Xi_ne (by omega)]; exact zB
                have y140 : Xi U8 246 5 = Xi S 246 5 + (v3 + 1) := by rw [e140, Xi_ne (by omega)]; first | (have u := X77; rw [F77.x 246 5 rfl]; omega) | (rw [F101.x 246 5 rfl]; omega) | (rw [F119.x 246 5 rfl]; omega)
                refine y_aload_n rfl rfl ?_
                refine y_gfr rfl rfl rfl rfl rfl (hHU8.r 899 0 876 rfl) ?_
                refine y_iload rfl rfl ?_
                have w129 : Xi U8 246 2 = Xi T1 246 2 := (show Xi U8 246 2 = Xi T7 246 2 from by rw [eU8]; exact Xi_ne (by omega)).trans ( (show Xi T7 246 2 = Xi T4 246 2 from w122.x _ _ rfl).trans ((show Xi T4 246 2 = Xi T1 246 2 from w56.x _ _ rfl)))
                have w130 : Xi U8 246 5 = Xi T4 246 5 := (show Xi U8 246 5 = Xi T7 246 5 from by rw [eU8]; exact Xi_ne (by omega)).trans ((show Xi T7 246 5 = Xi T4 246 5 from w122.x _ _ rfl))
                have w131 : Xi U8 246 8 = Xi T1 246 8 := (show Xi U8 246 8 = Xi T7 246 8 from by rw [eU8]; exact Xi_ne (by omega)).trans ( (show Xi T7 246 8 = Xi T4 246 8 from w122.x _ _ rfl).trans ((show Xi T4 246 8 = Xi T1 246 8 from w56.x _ _ rfl)))
                have w132 : Xi U8 876 6 = Xi T1 876 6 := (show Xi U8 876 6 = Xi T7 876 6 from by rw [eU8]; exact Xi_ne (by omega)).trans ( (show Xi T7 876 6 = Xi T4 876 6 from w122.x _ _ rfl).trans ((show Xi T4 876 6 = Xi T1 876 6 from w56.x _ _ rfl)))
                have w133 : Xi U8 876 7 = Xi T1 876 7 := (show Xi U8 876 7 = Xi T7 876 7 from by rw [eU8]; exact Xi_ne (by omega)).trans ( (show Xi T7 876 7 = Xi T4 876 7 from w122.x _ _ rfl).trans ((show Xi T4 876 7 = Xi T1 876 7 from w56.x _ _ rfl)))
                have w134 : Xi U8 876 8 = Xi T7 876 8 := (show Xi U8 876 8 = Xi T7 876 8 from by rw [eU8]; exact Xi_ne (by omega))
                have w135 : Xi U8 899 5 = Xi T1 899 5 := (show Xi U8 899 5 = Xi T7 899 5 from by rw [eU8]; exact Xi_ne (by omega)).trans ( (show Xi T7 899 5 = Xi T4 899 5 from w122.x _ _ rfl).trans ((show Xi T4 899 5 = Xi T1 899 5 from w56.x _ _ rfl)))
                have w136 : Xi U8 899 6 = Xi T1 899 6 := (show Xi U8 899 6 = Xi T7 899 6 from by rw [eU8]; exact Xi_ne (by omega)).trans ( (show Xi T7 899 6 = Xi T4 899 6 from w122.x _ _ rfl).trans ((show Xi T4 899 6 = Xi T1 899 6 from w56.x _ _ rfl)))
                refine y_callV rfl rfl rfl (t_to_typeAt__p hHU8 z54 ⟨by omega, by omega⟩ _) ?_
                rintro _ _ ⟨rfl, z138, rfl, w138, q147, w137⟩
                show Pl _ _ _ _ _ _ [iv z138] _ _
                have K147 : z138 = ty7 S (eP7 S (Xi S 899 5 + 1) (v3).toNat) := by rw [← q147, E48]; exact agu_t G140.o hc7 (by omega) (by omega)
                refine y_bipush rfl rfl ?_
                refine y_icmp_ne rfl rfl (by unfold rg; omega) (by unfold rg; omega) (fun w139 => ?_) (fun w140 => ?_)
                · refine y_iconst rfl ?_
                  refine y_istore_n rfl rfl rfl ?_
                  refine y_iload rfl rfl ?_
                  refine y_iconst rfl ?_
                  refine y_iadd rfl ?_
                  refine y_istore_n rfl rfl rfl ?_
                  refine y_iinc rfl rfl rfl rfl ?_
                  have N166 : (v3 + 1).toNat = (v3).toNat + 1 := by omega
                  have H166 : Hid (PHC md_rr_rulePhrases__p S ru ts (v3 + 1).toNat U8) := by rw [N166]; exact ⟨_, _, _, H11.o, N59.o, G59.o, F59S, PX1.o, FB, by rw [show (((v3).toNat : Nat) : Int) + 1 = v3 + 1 by omega]; exact e140⟩
                  have m166 : Hid ((0 : Int) ≠ 0 → (z54 + 1) = pP7 S (Xi S 899 5 + 1) (v3 + 1).toNat ∧ ∀ j : Nat, j < (v3 + 1).toNat → ty7 S (eP7 S (Xi S 899 5 + 1) j) = 105) := fun q => ⟨by rw [N166]; show _ = eP7 S (Xi S 899 5 + 1) (v3).toNat + 1; omega, fun j hj => by by_cases w : j < (v3).toNat; exact M15.2 j w; (rw [show j = (v3).toNat by omega, ← K147]; omega)⟩
                  have x166 : Hid ((0 : Int) = 0 → 0 < v3 + 1 ∧ ty7 S (eP7 S (Xi S 899 5 + 1) ((v3 + 1).toNat - 1)) ≠ 105 ∧ ∀ j : Nat, j + 1 < (v3 + 1).toNat → ty7 S (eP7 S (Xi S 899 5 + 1) j) = 105) := fun q => ⟨by omega, by rw [N166, Nat.add_sub_cancel, ← K147]; omega, fun j hj => M15.2 j (by omega)⟩
                  refine y_goto rfl rfl ?_
                  exact Pl_weak (ih11 (by omega) U8 hHU8 hFU8 ((z54 + 1)) (0) ((v3 + 1)) (by omega) (by omega) (by omega) (by omega) (by omega) (by first | exact H166 | exact Hid.i (show PHC _ _ _ _ 0 _ from rfl)) (by first | exact m166 | exact Hid.i (fun q => ⟨rfl, fun j w => absurd w (Nat.not_lt_zero _)⟩)) (by first | exact x166 | exact Hid.i (fun q => absurd q (by decide))) (by omega) (by omega) (by omega) (by omega) (by omega) (by first | exact G140 | exact Hid.i ⟨KR.rf, ⟨hc7, hr⟩, hT, hnv.o, hpl.o, hi8⟩)) (by omega) (And.intro rfl (And.intro rfl (And.intro rfl (And.intro rfl (True.intro)))))
                · refine y_iconst rfl ?_
                  refine y_goto rfl rfl ?_
                  refine y_istore_n rfl rfl rfl ?_
                  refine y_iload rfl rfl ?_
                  refine y_iconst rfl ?_
                  refine y_iadd rfl ?_
                  refine y_istore_n rfl rfl rfl ?_
                  refine y_iinc rfl rfl rfl rfl ?_
                  have N166 : (v3 + 1).toNat = (v3).toNat + 1 := by omega
                  have H166 : Hid (PHC md_rr_rulePhrases__p S ru ts (v3 + 1).toNat U8) := by rw [N166]; exact ⟨_, _, _, H11.o, N59.o, G59.o, F59S, PX1.o, FB, by rw [show (((v3).toNat : Nat) : Int) + 1 = v3 + 1 by omega]; exact e140⟩
                  have m166 : Hid ((1 : Int) ≠ 0 → (z54 + 1) = pP7 S (Xi S 899 5 + 1) (v3 + 1).toNat ∧ ∀ j : Nat, j < (v3 + 1).toNat → ty7 S (eP7 S (Xi S 899 5 + 1) j) = 105) := fun q => ⟨by rw [N166]; show _ = eP7 S (Xi S 899 5 + 1) (v3).toNat + 1; omega, fun j hj => by by_cases w : j < (v3).toNat; exact M15.2 j w; (rw [show j = (v3).toNat by omega, ← K147]; omega)⟩
                  have x166 : Hid ((1 : Int) = 0 → 0 < v3 + 1 ∧ ty7 S (eP7 S (Xi S 899 5 + 1) ((v3 + 1).toNat - 1)) ≠ 105 ∧ ∀ j : Nat, j + 1 < (v3 + 1).toNat → ty7 S (eP7 S (Xi S 899 5 + 1) j) = 105) := fun q => ⟨by omega, by rw [N166, Nat.add_sub_cancel, ← K147]; omega, fun j hj => M15.2 j (by omega)⟩
                  refine y_goto rfl rfl ?_
                  exact Pl_weak (ih11 (by omega) U8 hHU8 hFU8 ((z54 + 1)) (1) ((v3 + 1)) (by omega) (by omega) (by omega) (by omega) (by omega) (by first | exact H166 | exact Hid.i (show PHC _ _ _ _ 0 _ from rfl)) (by first | exact m166 | exact Hid.i (fun q => ⟨rfl, fun j w => absurd w (Nat.not_lt_zero _)⟩)) (by first | exact x166 | exact Hid.i (fun q => absurd q (by decide))) (by omega) (by omega) (by omega) (by omega) (by omega) (by first | exact G140 | exact Hid.i ⟨KR.rf, ⟨hc7, hr⟩, hT, hnv.o, hpl.o, hi8⟩)) (by omega) (And.intro rfl (And.intro rfl (And.intro rfl (And.intro rfl (True.intro)))))
              · refine y_iconst rfl ?_
                refine y_ireturn rfl rfl ?_
                have w157 : Xi T7 246 2 = Xi T1 246 2 := (show Xi T7 246 2 = Xi T4 246 2 from w122.x _ _ rfl).trans ((show Xi T4 246 2 = Xi T1 246 2 from w56.x _ _ rfl))
                have w158 : Xi T7 246 5 = Xi T4 246 5 := (show Xi T7 246 5 = Xi T4 246 5 from w122.x _ _ rfl)
                have w159 : Xi T7 246 8 = Xi T1 246 8 := (show Xi T7 246 8 = Xi T4 246 8 from w122.x _ _ rfl).trans ((show Xi T4 246 8 = Xi T1 246 8 from w56.x _ _ rfl))
                have w160 : Xi T7 876 6 = Xi T1 876 6 := (show Xi T7 876 6 = Xi T4 876 6 from w122.x _ _ rfl).trans ((show Xi T4 876 6 = Xi T1 876 6 from w56.x _ _ rfl))
                have w161 : Xi T7 876 7 = Xi T1 876 7 := (show Xi T7 876 7 = Xi T4 876 7 from w122.x _ _ rfl).trans ((show Xi T4 876 7 = Xi T1 876 7 from w56.x _ _ rfl))
                have w162 : Xi T7 899 5 = Xi T1 899 5 := (show Xi T7 899 5 = Xi T4 899 5 from w122.x _ _ rfl).trans ((show Xi T4 899 5 = Xi T1 899 5 from w56.x _ _ rfl))
                have w163 : Xi T7 899 6 = Xi T1 899 6 := (show Xi T7 899 6 = Xi T4 899 6 from w122.x _ _ rfl).trans ((show Xi T4 899 6 = Xi T1 899 6 from w56.x _ _ rfl))
                exact ⟨hHT7, hFT7, _, rfl, ⟨by omega, by omega⟩, (by first | (have u := PX; exact rpo_n rfl (by omega) H11.o M15.2 N59.o G59.o F59S (by omega) PX.o) | exact rpo_y rfl (by have := (x11.o (by omega)).1; omega) (by omega) H11.o (x11.o (by omega)).2.2 (x11.o (by omega)).2.1 e181 e192 (by omega) (by omega) (by rw [e192, Xi_ne (by omega), e181, Xi_ne (by omega)]; omega) | (have u := Y28; exact rpo_9 (by omega) (by omega) H11.o M15.2 M15.1 Y28 G11.o))⟩
          · refine y_aload_n rfl rfl ?_
            refine y_iload_n rfl rfl ?_
            refine y_iconst rfl ?_
            refine y_iadd rfl ?_
            refine y_aload rfl rfl ?_
            have w164 : Xi T4 1 3 = Xi T1 1 3 := (show Xi T4 1 3 = Xi T1 1 3 from w56.x _ _ rfl)
            have w165 : Xi T4 246 2 = Xi T1 246 2 := (show Xi T4 246 2 = Xi T1 246 2 from w56.x _ _ rfl)
            have w166 : Xi T4 246 8 = Xi T1 246 8 := (show Xi T4 246 8 = Xi T1 246 8 from w56.x _ _ rfl)
            have w167 : Xi T4 876 5 = Xi T1 876 5 := (show Xi T4 876 5 = Xi T1 876 5 from w56.x _ _ rfl)
            have w168 : Xi T4 876 6 = Xi T1 876 6 := (show Xi T4 876 6 = Xi T1 876 6 from w56.x _ _ rfl)
            have w169 : Xi T4 876 7 = Xi T1 876 7 := (show Xi T4 876 7 = Xi T1 876 7 from w56.x _ _ rfl)
            have w170 : Xi T4 876 8 = Xi T1 876 8 := (show Xi T4 876 8 = Xi T1 876 8 from w56.x _ _ rfl)
            have w171 : Xi T4 899 5 = Xi T1 899 5 := (show Xi T4 899 5 = Xi T1 899 5 from w56.x _ _ rfl)
            have w172 : Xi T4 899 6 = Xi T1 899 6 := (show Xi T4 899 6 = Xi T1 899 6 from w56.x _ _ rfl)
            refine y_callV rfl rfl rfl (t_rr_sayText__p hHT4 ts (v1 + 1) z55 ⟨by omega, by omega⟩ (by omega) ((hFT4 876 4 rfl).2.2.trans hts) htp (by first | assumption | omega) (by first | assumption | exact (CEN_FR hFT4 rfl rfl (by assumption : CEN S))) (by first | assumption | omega) (by first | assumption | omega) (BYT_F hFT4 rfl htp hby) (by first | assumption | exact (TOK_FR w56 rfl rfl rfl (by assumption : TOK T1))) (G59.o.2.2.2.2.1) (by first | assumption | omega) (by rw [show v1 + 1 = pP7 S (Xi S 899 5 + 1) (v3).toNat + 1 by omega]; exact (B59.1 (by omega)).1) (by first | assumption | omega) (by first | assumption | omega) (by have := (B59.1 (by omega)).2; omega) (by first | assumption | omega) (c59) _) ?_
            rintro _ T9 ⟨hHT9, w174, z173, rfl, w173, o77, i77, n77⟩
            have hFT9 : FR md_rr_rulePhrases__p S T9 := FR.tr hFT4 w174 rfl
            show Pl _ _ _ _ _ _ [iv z173] _ _
            have F77 := (by assumption : FR md_rr_sayText__p T4 T9)
            have PX : Hid (PHX T4 T9 ts (Xi T1 246 5).toNat (ty7 S (pP7 S (Xi S 899 5 + 1) (v3).toNat)) (pP7 S (Xi S 899 5 + 1) (v3).toNat) (eP7 S (Xi S 899 5 + 1) (v3).toNat) z173) := phx_s (key := z53) (by omega) (by omega) o77 (by omega) (by omega) F77
            have X77 : True := trivial
            refine y_istore rfl rfl rfl ?_
            refine y_goto rfl rfl ?_
            refine y_iload rfl rfl ?_
            refine y_if_ne rfl rfl (by unfold rg; omega) (fun w175 => ?_) (fun w176 => ?_)
            · refine y_aload_n rfl rfl ?_
              refine y_gfr rfl rfl rfl rfl rfl ((hFT9 899 4 rfl).2.2.trans hru) ?_
              have FB := hFT9
              have PX1 : Hid (PHX T4 T9 ts (Xi T1 246 5).toNat (ty7 S (pP7 S (Xi S 899 5 + 1) (v3).toNat)) (pP7 S (Xi S 899 5 + 1) (v3).toNat) (eP7 S (Xi S 899 5 + 1) (v3).toNat) 1) := by have p := PX.o; rw [show (z173 : Int) = 1 by omega] at p; exact p
              have GB : Hid (AGU S T9) := by first | (have u := X77; exact agu_s ((PX1.o.1 (by omega)).1 rfl).2 G59.o (by omega) (F77.x 876 5 rfl) n77 i77) | exact agu_F F101 rfl rfl rfl rfl G59.o | exact agu_F F119 rfl rfl rfl rfl G59.o
              have zB : Xi T9 876 8 = 0 := phx_8 PX1.o rfl (by omega)
              refine y_bipush rfl rfl ?_
              refine y_iload_n rfl rfl ?_
              refine y_iconst rfl ?_
              refine y_iadd rfl ?_
              refine y_iastoreP (n := 8) rfl (lay_248 (by omega)) (by unfold rg; omega) (fun w178 w179 => ?_)
              obtain ⟨U10, eU10⟩ : ∃ T : sS, T = uI T9 (248 + ru) ((6 : Int).toNat) (Int32.ofInt (v3 + 1)) := ⟨_, rfl⟩
              rw [← eU10]
              have hHU10 : RI U10 := by rw [eU10]; exact RI_w hHT9
              have hFU10 : FR md_rr_rulePhrases__p S U10 := by rw [eU10]; exact FR.wI hFT9 (mdf_i (r := (248, 272, 0, 100000)) (List.mem_of_getElem? (i := 3) rfl) (inR_i (by omega) (by omega) (by omega) (by omega)))
              have w180 : Xi U10 (248 + ru) ((6 : Int).toNat) = (v3 + 1) := by rw [eU10]; exact Xi_same (by unfold rg; omega)
              have e140 := eU10
              have G140 : Hid (AGU S U10) := agu_w e140 (by omega) (by omega) GB.o
              have g140 := GB.o.2.1
              have z140 : Xi U10 876 8 = 0 := by rw [e140, Xi_ne (by omega)]; exact zB
              have y140 : Xi U10 246 5 = Xi S 246 5 + (v3 + 1) := by rw [e140, Xi_ne (by omega)]; first | (have u := X77; rw [F77.x 246 5 rfl]; omega) | (rw [F101.x 246 5 rfl]; omega) | (rw [F119.x 246 5 rfl]; omega)
              refine y_aload_n rfl rfl ?_
              refine y_gfr rfl rfl rfl rfl rfl (hHU10.r 899 0 876 rfl) ?_
              refine y_iload rfl rfl ?_
              have w181 : Xi U10 246 2 = Xi T1 246 2 := (show Xi U10 246 2 = Xi T9 246 2 from by rw [eU10]; exact Xi_ne (by omega)).trans ( (show Xi T9 246 2 = Xi T4 246 2 from w174.x _ _ rfl).trans ((show Xi T4 246 2 = Xi T1 246 2 from w56.x _ _ rfl)))
              have w182 : Xi U10 246 5 = Xi T4 246 5 := (show Xi U10 246 5 = Xi T9 246 5 from by rw [eU10]; exact Xi_ne (by omega)).trans ((show Xi T9 246 5 = Xi T4 246 5 from w174.x _ _ rfl))
              have w183 : Xi U10 246 8 = Xi T9 246 8 := (show Xi U10 246 8 = Xi T9 246 8 from by rw [eU10]; exact Xi_ne (by omega))
              have w184 : Xi U10 876 6 = Xi T1 876 6 := (show Xi U10 876 6 = Xi T9 876 6 from by rw [eU10]; exact Xi_ne (by omega)).trans ( (show Xi T9 876 6 = Xi T4 876 6 from w174.x _ _ rfl).trans ((show Xi T4 876 6 = Xi T1 876 6 from w56.x _ _ rfl)))
              have w185 : Xi U10 876 7 = Xi T9 876 7 := (show Xi U10 876 7 = Xi T9 876 7 from by rw [eU10]; exact Xi_ne (by omega))
              have w186 : Xi U10 876 8 = Xi T9 876 8 := (show Xi U10 876 8 = Xi T9 876 8 from by rw [eU10]; exact Xi_ne (by omega))
              have w187 : Xi U10 899 5 = Xi T1 899 5 := (show Xi U10 899 5 = Xi T9 899 5 from by rw [eU10]; exact Xi_ne (by omega)).trans ( (show Xi T9 899 5 = Xi T4 899 5 from w174.x _ _ rfl).trans ((show Xi T4 899 5 = Xi T1 899 5 from w56.x _ _ rfl)))
              have w188 : Xi U10 899 6 = Xi T1 899 6 := (show Xi U10 899 6 = Xi T9 899 6 from by rw [eU10]; exact Xi_ne (by omega)).trans ( (show Xi T9 899 6 = Xi T4 899 6 from w174.x _ _ rfl).trans ((show Xi T4 899 6 = Xi T1 899 6 from w56.x _ _ rfl)))
              refine y_callV rfl rfl rfl (t_to_typeAt__p hHU10 z54 ⟨by omega, by omega⟩ _) ?_
              rintro _ _ ⟨rfl, z190, rfl, w190, q147, w189⟩
              show Pl _ _ _ _ _ _ [iv z190] _ _
              have K147 : z190 = ty7 S (eP7 S (Xi S 899 5 + 1) (v3).toNat) := by rw [← q147, E48]; exact agu_t G140.o hc7 (by omega) (by omega)
              refine y_bipush rfl rfl ?_
              refine y_icmp_ne rfl rfl (by unfold rg; omega) (by unfold rg; omega) (fun w191 => ?_) (fun w192 => ?_)
              · refine y_iconst rfl ?_
                refine y_istore_n rfl rfl rfl ?_
                refine y_iload rfl rfl ?_
                refine y_iconst rfl ?_
                refine y_iadd rfl ?_
                refine y_istore_n rfl rfl rfl ?_
                refine y_iinc rfl rfl rfl rfl ?_
                have N166 : (v3 + 1).toNat = (v3).toNat + 1 := by omega
                have H166 : Hid (PHC md_rr_rulePhrases__p S ru ts (v3 + 1).toNat U10) := by rw [N166]; exact ⟨_, _, _, H11.o, N59.o, G59.o, F59S, PX1.o, FB, by rw [show (((v3).toNat : Nat) : Int) + 1 = v3 + 1 by omega]; exact e140⟩
                have m166 : Hid ((0 : Int) ≠ 0 → (z54 + 1) = pP7 S (Xi S 899 5 + 1) (v3 + 1).toNat ∧ ∀ j : Nat, j < (v3 + 1).toNat → ty7 S (eP7 S (Xi S 899 5 + 1) j) = 105) := fun q => ⟨by rw [N166]; show _ = eP7 S (Xi S 899 5 + 1) (v3).toNat + 1; omega, fun j hj => by by_cases w : j < (v3).toNat; exact M15.2 j w; (rw [show j = (v3).toNat by omega, ← K147]; omega)⟩
                have x166 : Hid ((0 : Int) = 0 → 0 < v3 + 1 ∧ ty7 S (eP7 S (Xi S 899 5 + 1) ((v3 + 1).toNat - 1)) ≠ 105 ∧ ∀ j : Nat, j + 1 < (v3 + 1).toNat → ty7 S (eP7 S (Xi S 899 5 + 1) j) = 105) := fun q => ⟨by omega, by rw [N166, Nat.add_sub_cancel, ← K147]; omega, fun j hj => M15.2 j (by omega)⟩
                refine y_goto rfl rfl ?_
                exact Pl_weak (ih11 (by omega) U10 hHU10 hFU10 ((z54 + 1)) (0) ((v3 + 1)) (by omega) (by omega) (by omega) (by omega) (by omega) (by first | exact H166 | exact Hid.i (show PHC _ _ _ _ 0 _ from rfl)) (by first | exact m166 | exact Hid.i (fun q => ⟨rfl, fun j w => absurd w (Nat.not_lt_zero _)⟩)) (by first | exact x166 | exact Hid.i (fun q => absurd q (by decide))) (by omega) (by omega) (by omega) (by omega) (by omega) (by first | exact G140 | exact Hid.i ⟨KR.rf, ⟨hc7, hr⟩, hT, hnv.o, hpl.o, hi8⟩)) (by omega) (And.intro rfl (And.intro rfl (And.intro rfl (And.intro rfl (True.intro)))))
              · refine y_iconst rfl ?_
                refine y_goto rfl rfl ?_
                refine y_istore_n rfl rfl rfl ?_
                refine y_iload rfl rfl ?_
                refine y_iconst rfl ?_
                refine y_iadd rfl ?_
                refine y_istore_n rfl rfl rfl ?_
                refine y_iinc rfl rfl rfl rfl ?_
                have N166 : (v3 + 1).toNat = (v3).toNat + 1 := by omega
                have H166 : Hid (PHC md_rr_rulePhrases__p S ru ts (v3 + 1).toNat U10) := by rw [N166]; exact ⟨_, _, _, H11.o, N59.o, G59.o, F59S, PX1.o, FB, by rw [show (((v3).toNat : Nat) : Int) + 1 = v3 + 1 by omega]; exact e140⟩
                have m166 : Hid ((1 : Int) ≠ 0 → (z54 + 1) = pP7 S (Xi S 899 5 + 1) (v3 + 1).toNat ∧ ∀ j : Nat, j < (v3 + 1).toNat → ty7 S (eP7 S (Xi S 899 5 + 1) j) = 105) := fun q => ⟨by rw [N166]; show _ = eP7 S (Xi S 899 5 + 1) (v3).toNat + 1; omega, fun j hj => by by_cases w : j < (v3).toNat; exact M15.2 j w; (rw [show j = (v3).toNat by omega, ← K147]; omega)⟩
                have x166 : Hid ((1 : Int) = 0 → 0 < v3 + 1 ∧ ty7 S (eP7 S (Xi S 899 5 + 1) ((v3 + 1).toNat - 1)) ≠ 105 ∧ ∀ j : Nat, j + 1 < (v3 + 1).toNat → ty7 S (eP7 S (Xi S 899 5 + 1) j) = 105) := fun q => ⟨by omega, by rw [N166, Nat.add_sub_cancel, ← K147]; omega, fun j hj => M15.2 j (by omega)⟩
                refine y_goto rfl rfl ?_
                exact Pl_weak (ih11 (by omega) U10 hHU10 hFU10 ((z54 + 1)) (1) ((v3 + 1)) (by omega) (by omega) (by omega) (by omega) (by omega) (by first | exact H166 | exact Hid.i (show PHC _ _ _ _ 0 _ from rfl)) (by first | exact m166 | exact Hid.i (fun q => ⟨rfl, fun j w => absurd w (Nat.not_lt_zero _)⟩)) (by first | exact x166 | exact Hid.i (fun q => absurd q (by decide))) (by omega) (by omega) (by omega) (by omega) (by omega) (by first | exact G140 | exact Hid.i ⟨KR.rf, ⟨hc7, hr⟩, hT, hnv.o, hpl.o, hi8⟩)) (by omega) (And.intro rfl (And.intro rfl (And.intro rfl (And.intro rfl (True.intro)))))
            · refine y_iconst rfl ?_
              refine y_ireturn rfl rfl ?_
              have w209 : Xi T9 246 2 = Xi T1 246 2 := (show Xi T9 246 2 = Xi T4 246 2 from w174.x _ _ rfl).trans ((show Xi T4 246 2 = Xi T1 246 2 from w56.x _ _ rfl))
              have w210 : Xi T9 246 5 = Xi T4 246 5 := (show Xi T9 246 5 = Xi T4 246 5 from w174.x _ _ rfl)
              have w211 : Xi T9 876 6 = Xi T1 876 6 := (show Xi T9 876 6 = Xi T4 876 6 from w174.x _ _ rfl).trans ((show Xi T4 876 6 = Xi T1 876 6 from w56.x _ _ rfl))
              have w212 : Xi T9 899 5 = Xi T1 899 5 := (show Xi T9 899 5 = Xi T4 899 5 from w174.x _ _ rfl).trans ((show Xi T4 899 5 = Xi T1 899 5 from w56.x _ _ rfl))
              have w213 : Xi T9 899 6 = Xi T1 899 6 := (show Xi T9 899 6 = Xi T4 899 6 from w174.x _ _ rfl).trans ((show Xi T4 899 6 = Xi T1 899 6 from w56.x _ _ rfl))
              exact ⟨hHT9, hFT9, _, rfl, ⟨by omega, by omega⟩, (by first | (have u := PX; exact rpo_n rfl (by omega) H11.o M15.2 N59.o G59.o F59S (by omega) PX.o) | exact rpo_y rfl (by have := (x11.o (by omega)).1; omega) (by omega) H11.o (x11.o (by omega)).2.2 (x11.o (by omega)).2.1 e181 e192 (by omega) (by omega) (by rw [e192, Xi_ne (by omega), e181, Xi_ne (by omega)]; omega) | (have u := Y28; exact rpo_9 (by omega) (by omega) H11.o M15.2 M15.1 Y28 G11.o))⟩
        · refine y_aload_n rfl rfl ?_
          refine y_gfr rfl rfl rfl rfl rfl (hHT1.r 899 0 876 rfl) ?_
          refine y_bipush rfl rfl ?_
          refine y_iload_n rfl rfl ?_
          refine y_callV rfl rfl rfl (t_to_wrong__p hHT1 9 v1 ⟨by omega, by omega⟩ ⟨by omega, by omega⟩ _) ?_
          rintro _ T11 ⟨hHT11, w217, z216, rfl, w216, w214, f28, w215⟩
          have hFT11 : FR md_rr_rulePhrases__p S T11 := FR.tr hFT1 w217 rfl
          show Pl _ _ _ _ _ _ [iv z216] _ _
          have Y28 : FTO T1 T11 9 v1 := f28 (by omega)
          refine y_ireturn rfl (retI_z (by omega)) ?_
          have w218 : Xi T11 246 2 = Xi T1 246 2 := (show Xi T11 246 2 = Xi T1 246 2 from w217.x _ _ rfl)
          have w219 : Xi T11 246 5 = Xi T1 246 5 := (show Xi T11 246 5 = Xi T1 246 5 from w217.x _ _ rfl)
          have w220 : Xi T11 246 8 = Xi T1 246 8 := (show Xi T11 246 8 = Xi T1 246 8 from w217.x _ _ rfl)
          have w221 : Xi T11 876 6 = Xi T1 876 6 := (show Xi T11 876 6 = Xi T1 876 6 from w217.x _ _ rfl)
          have w222 : Xi T11 876 7 = Xi T1 876 7 := (show Xi T11 876 7 = Xi T1 876 7 from w217.x _ _ rfl)
          have w223 : Xi T11 899 5 = Xi T1 899 5 := (show Xi T11 899 5 = Xi T1 899 5 from w217.x _ _ rfl)
          have w224 : Xi T11 899 6 = Xi T1 899 6 := (show Xi T11 899 6 = Xi T1 899 6 from w217.x _ _ rfl)
          exact ⟨hHT11, hFT11, _, rfl, ⟨by omega, by omega⟩, (by first | (have u := PX; exact rpo_n rfl (by omega) H11.o M15.2 N59.o G59.o F59S (by omega) PX.o) | exact rpo_y rfl (by have := (x11.o (by omega)).1; omega) (by omega) H11.o (x11.o (by omega)).2.2 (x11.o (by omega)).2.1 e181 e192 (by omega) (by omega) (by rw [e192, Xi_ne (by omega), e181, Xi_ne (by omega)]; omega) | (have u := Y28; exact rpo_9 (by omega) (by omega) H11.o M15.2 M15.1 Y28 G11.o))⟩
  refine y_aload_n rfl rfl ?_
  refine y_gfi rfl rfl rfl rfl rfl ?_
  refine y_iconst rfl ?_
  refine y_iadd rfl ?_
  refine y_istore_n rfl rfl rfl ?_
  refine y_iconst rfl ?_
  refine y_istore_n rfl rfl rfl ?_
  refine y_iconst rfl ?_
  refine y_istore_n rfl rfl rfl ?_
  exact Pl_weak (C11 fu (by omega) S hH hF (((Xi S 899 5) + 1)) (1) (0) (by omega) (by omega) (by omega) (by omega) (by omega) (by first | exact H166 | exact Hid.i (show PHC _ _ _ _ 0 _ from rfl)) (by first | exact m166 | exact Hid.i (fun q => ⟨rfl, fun j w => absurd w (Nat.not_lt_zero _)⟩)) (by first | exact x166 | exact Hid.i (fun q => absurd q (by decide))) (by omega) (by omega) (by omega) (by omega) (by omega) (by first | exact G140 | exact Hid.i ⟨KR.rf, ⟨hc7, hr⟩, hT, hnv.o, hpl.o, hi8⟩)) (by omega) (And.intro rfl (And.intro rfl (And.intro rfl (And.intro rfl (True.intro)))))
end
