section
/-! descriptions: the reference -/
def fpN (S : sS) (k t : Int) : Nat → Int
  | 0 => -1
  | m + 1 => if fpN S k t m ≠ -1 then fpN S k t m else if Xi S 928 m = t ∧ hsR S k m = 1 then (m : Int) else -1
def pyR (S : sS) (k t : Int) : Int := if k < 0 then -1 else fpN S k t (Xi S 904 32).toNat
theorem fpN_s {S : sS} {k t v : Int} (h : 0 ≤ v) : fpN S k t (v + 1).toNat = if fpN S k t v.toNat ≠ -1 then fpN S k t v.toNat else if Xi S 928 v.toNat = t ∧ hsR S k v = 1 then v else -1 := by
  rw [show (v + 1).toNat = v.toNat + 1 by omega]
  show (if fpN S k t v.toNat ≠ -1 then fpN S k t v.toNat else if Xi S 928 v.toNat = t ∧ hsR S k (v.toNat : Int) = 1 then ((v.toNat : Nat) : Int) else -1) = _
  rw [show ((v.toNat : Nat) : Int) = v by omega]
theorem fp_mt {S : sS} {k t : Int} : ∀ m : Nat, (fpN S k t m = -1 ↔ mtN S k t m = 0) ∧ 0 ≤ mtN S k t m ∧ (fpN S k t m ≠ -1 → 0 ≤ fpN S k t m)
  | 0 => ⟨⟨fun _ => rfl, fun _ => rfl⟩, by show (0 : Int) ≤ 0; omega, fun q => absurd rfl q⟩
  | m + 1 => by
    obtain ⟨a, b, c⟩ := fp_mt (S := S) (k := k) (t := t) m
    have e1 : fpN S k t (m + 1) = if fpN S k t m ≠ -1 then fpN S k t m else if Xi S 928 m = t ∧ hsR S k m = 1 then (m : Int) else -1 := rfl
    have e2 : mtN S k t (m + 1) = mtN S k t m + (if Xi S 928 m = t ∧ hsR S k m = 1 then 1 else 0) := rfl
    rw [e1, e2]
    by_cases q : fpN S k t m = -1
    · have z := a.1 q
      rw [if_neg (fun w => w q)]
      by_cases w : Xi S 928 m = t ∧ hsR S k m = 1
      · rw [if_pos w, if_pos w]; exact ⟨⟨fun x => by omega, fun x => by omega⟩, by omega, fun _ => by omega⟩
      · rw [if_neg w, if_neg w]; exact ⟨⟨fun _ => by omega, fun _ => rfl⟩, by omega, fun x => absurd rfl x⟩
    · have z : mtN S k t m ≠ 0 := fun w => q (a.2 w)
      have y := c q
      rw [if_pos q]
      by_cases w : Xi S 928 m = t ∧ hsR S k m = 1
      · rw [if_pos w]; exact ⟨⟨fun x => absurd x q, fun x => by omega⟩, by omega, fun _ => y⟩
      · rw [if_neg w]; exact ⟨⟨fun x => absurd x q, fun x => by omega⟩, by omega, fun _ => y⟩
noncomputable def acR (S : sS) (t m k f v : Int) : Int := if nmR S t m = -1 then -1 else if Xi S 914 (nmR S t m).toNat = 5 ∧ blR S k (Xi S 921 (Xi S 915 (nmR S t m).toNat).toNat) = 1 ∧ (f ≠ 0 ∨ Xi S 924 (Xi S 915 (nmR S t m).toNat).toNat = 0) then Xi S 915 (nmR S t m).toNat else if Xi S 914 (nmR S t m).toNat = 6 ∧ v ≠ 0 then (if pyR S k (Xi S 927 (Xi S 915 (nmR S t m).toNat).toNat) = -1 then -1 else 100 + 100 * Xi S 915 (nmR S t m).toNat + pyR S k (Xi S 927 (Xi S 915 (nmR S t m).toNat).toNat)) else -1
/-- cells that adjectives are read from -/
def AMR (S P : sS) : Prop := SMR S P ∧ Xi P 904 32 = Xi S 904 32 ∧ (∀ k j : Nat, (k = 917 ∨ k = 921 ∨ k = 924 ∨ k = 927 ∨ k = 928 ∨ k = 929) → Xi P k j = Xi S k j)
theorem AMR.rf {S : sS} : AMR S S := ⟨SMR.rf, rfl, fun _ _ _ => rfl⟩
theorem AMR.tr {S U V : sS} (h : AMR S U) (k : AMR U V) : AMR S V := ⟨h.1.tr k.1, k.2.1.trans h.2.1, fun a j q => (k.2.2 a j q).trans (h.2.2 a j q)⟩
theorem AMR_FR {l : List rec} {S T : sS} (h : FR l S T) (e1 : kdis l [(908, 909), (910, 911), (912, 918), (921, 922), (924, 925), (927, 930), (950, 952)] = true) (e2 : mD l [15, 32] = true) : AMR S T :=
  ⟨⟨mD_x h e2 15 (by decide), fun k j hk => by rcases hk with q | q | q | q | q | q | q <;> rw [q] <;> exact (h.smk e1).x _ rfl j, fun j => (h.smk e1).xj 910 rfl j, fun j => (h.smk e1).xj 913 rfl j⟩, mD_x h e2 32 (by decide), fun k j hk => by rcases hk with q | q | q | q | q | q <;> rw [q] <;> exact (h.smk e1).x _ rfl j⟩
theorem AMR_w {S P S1 : sS} {k j : Nat} {v : Int32} (h : AMR S P) (e : S1 = uI P k j v) (hk : (k = 904 ∧ j ≠ 15 ∧ j ≠ 32) ∨ 952 ≤ k) : AMR S S1 :=
  h.tr ⟨SMR_w SMR.rf e (by omega) (by omega), by rw [e, Xi_ne (by omega)], fun a i q => by rw [e, Xi_ne (by omega)]⟩
theorem blR_am {S P : sS} {a b : Int} (h : AMR S P) : blR P a b = blR S a b := blN_k (fun j => h.2.2 917 j (by omega)) 17 a
theorem hsR_am {S P : sS} {a b : Int} (h : AMR S P) : hsR P a b = hsR S a b := hsN_k (fun j => h.2.2 917 j (by omega)) (fun j => h.2.2 929 j (by omega)) 17 a
theorem mtR_am {S P : sS} {a b : Int} (h : AMR S P) : mtR P a b = mtR S a b := mtR_k (fun j => h.2.2 917 j (by omega)) (fun j => h.2.2 929 j (by omega)) (fun j => h.2.2 928 j (by omega)) h.2.1
theorem fpN_am {S P : sS} {a b : Int} (h : AMR S P) : ∀ n : Nat, fpN P a b n = fpN S a b n
  | 0 => rfl
  | n + 1 => by
    show (if fpN P a b n ≠ -1 then fpN P a b n else if Xi P 928 n = b ∧ hsR P a n = 1 then (n : Int) else -1) = (if fpN S a b n ≠ -1 then fpN S a b n else if Xi S 928 n = b ∧ hsR S a n = 1 then (n : Int) else -1)
    rw [fpN_am h n, hsR_am h, h.2.2 928 _ (by omega)]
theorem pyR_am {S P : sS} {a b : Int} (h : AMR S P) : pyR P a b = pyR S a b := by unfold pyR; rw [fpN_am h, h.2.1]
theorem adR_am {S P : sS} {t m k f v : Int} (h : AMR S P) : adR P t m k f v = adR S t m k f v := by
  unfold adR
  rw [nmR_sm h.1, h.1.2.1 914 _ (by omega), h.1.2.1 915 _ (by omega), h.2.2 921 _ (by omega), h.2.2 924 _ (by omega), h.2.2 927 _ (by omega), blR_am h, mtR_am h]
theorem acR_am {S P : sS} {t m k f v : Int} (h : AMR S P) : acR P t m k f v = acR S t m k f v := by
  unfold acR
  rw [nmR_sm h.1, h.1.2.1 914 _ (by omega), h.1.2.1 915 _ (by omega), h.2.2 921 _ (by omega), h.2.2 924 _ (by omega), h.2.2 927 _ (by omega), blR_am h, pyR_am h]
/-- ways of parting, at tokens -/
noncomputable def fRa (S : sS) (k d : Int) : Int → Int → Int := fun a b => adR S a (b - a) k d 1
noncomputable def gRa (S : sS) (k d : Int) : Int → Int → Int := fun a b => acR S a (b - a) k d 1
theorem fRa_am {S P : sS} {k d : Int} (h : AMR S P) : fRa P k d = fRa S k d := by funext a b; exact adR_am h
theorem gRa_am {S P : sS} {k d : Int} (h : AMR S P) : gRa P k d = gRa S k d := by funext a b; exact acR_am h
/-- the first part of the first reading -/
def nxt (f : Int → Int → Int) (to p : Int) : Int := if p + 1 ≤ to ∧ 0 < f p (p + 1) ∧ 0 < cpf f to (to - (p + 1)).toNat then 1 else if p + 2 ≤ to ∧ 0 < f p (p + 2) ∧ 0 < cpf f to (to - (p + 2)).toNat then 2 else 3
def prs (f g : Int → Int → Int) (to : Int) : Nat → Int → List Int
  | 0, _ => []
  | n + 1, p => if to ≤ p then [] else g p (p + nxt f to p) :: prs f g to n (p + nxt f to p)
theorem pyR_rg {S : sS} {k t : Int} : -1 ≤ pyR S k t := by
  unfold pyR
  split
  · omega
  · have h := (fp_mt (S := S) (k := k) (t := t) (Xi S 904 32).toNat).2.2
    by_cases q : fpN S k t (Xi S 904 32).toNat = -1
    · omega
    · have := h q; omega
theorem fpN_lt {S : sS} {k t : Int} : ∀ m : Nat, fpN S k t m < (m : Int) ∨ fpN S k t m = -1
  | 0 => Or.inr rfl
  | m + 1 => by
    show (if fpN S k t m ≠ -1 then fpN S k t m else if Xi S 928 m = t ∧ hsR S k m = 1 then (m : Int) else -1) < ((m + 1 : Nat) : Int) ∨ _
    have i := fpN_lt (S := S) (k := k) (t := t) m
    have e : fpN S k t (m + 1) = if fpN S k t m ≠ -1 then fpN S k t m else if Xi S 928 m = t ∧ hsR S k m = 1 then (m : Int) else -1 := rfl
    rw [e]
    by_cases q : fpN S k t m = -1
    · rw [if_neg (fun w => w q)]
      by_cases w : Xi S 928 m = t ∧ hsR S k m = 1
      · rw [if_pos w]; left; omega
      · rw [if_neg w]; right; rfl
    · rw [if_pos q]; left; omega
theorem pyR_le {S : sS} {k t : Int} (h : 0 ≤ Xi S 904 32 ∧ Xi S 904 32 ≤ 12) : pyR S k t ≤ 12 := by
  unfold pyR
  split
  · omega
  · have := fpN_lt (S := S) (k := k) (t := t) (Xi S 904 32).toNat; omega
theorem mtN_rg {S : sS} {k t : Int} : ∀ m : Nat, 0 ≤ mtN S k t m ∧ mtN S k t m ≤ m
  | 0 => ⟨by show (0 : Int) ≤ 0; omega, by show (0 : Int) ≤ ((0 : Nat) : Int); omega⟩
  | m + 1 => by
    have i := mtN_rg (S := S) (k := k) (t := t) m
    show 0 ≤ mtN S k t m + (if Xi S 928 m = t ∧ hsR S k m = 1 then 1 else 0) ∧ mtN S k t m + (if Xi S 928 m = t ∧ hsR S k m = 1 then 1 else 0) ≤ ((m + 1 : Nat) : Int)
    by_cases w : Xi S 928 m = t ∧ hsR S k m = 1
    · rw [if_pos w]; omega
    · rw [if_neg w]; omega
theorem mtR_rg {S : sS} {k t : Int} (h : 0 ≤ Xi S 904 32 ∧ Xi S 904 32 ≤ 12) : 0 ≤ mtR S k t ∧ mtR S k t ≤ 12 := by
  unfold mtR
  split
  · omega
  · have := mtN_rg (S := S) (k := k) (t := t) (Xi S 904 32).toNat; omega
theorem LXR_FR {l : List rec} {S T : sS} (h : FR l S T) (e1 : kdis l [(914, 916)] = true) (e2 : mdf l 904 15 = false) (hx : LXR S) : LXR T := fun k hk => by
  rw [h.x 904 15 e2] at hk
  rw [(h.smk e1).x 914 rfl, (h.smk e1).x 915 rfl]
  exact hx k hk

def md_mo_propertyOf__p : List rec := [(904, 905, 64, 65)]
abbrev Q_mo_propertyOf__p (S : sS) (kind : Int) (type : Int) : pst := fun r S1 => RI S1 ∧ FR md_mo_propertyOf__p S S1 ∧ (∃ z : Int, r = some (iv z) ∧ (-2147483648 ≤ z ∧ z ≤ 2147483647) ∧ (Xi S1 904 64 = mtR S kind type) ∧ (z = pyR S kind type))
set_option maxRecDepth 100000 in
theorem t_mo_propertyOf__p {S : sS} (hH : RI S) (kind : Int) (type : Int) (hkind : -1 ≤ kind ∧ kind ≤ 15) (htype : -2147483648 ≤ type ∧ type ≤ 2147483647) (hB : ABV S) (hp32 : 0 ≤ Xi S 904 32 ∧ Xi S 904 32 ≤ 12) (d : Nat) : Mp lay0 (d + 2) m_mo_propertyOf [.ref 904, iv kind, iv type] S (Q_mo_propertyOf__p S kind type) := by
  refine Mp_R rfl rfl (fun fu => ?_)
  have hF : FR md_mo_propertyOf__p S S := FR.rf
  have w1 : -2147483648 ≤ Xi S 904 32 ∧ Xi S 904 32 ≤ 2147483647 := Xi_rgI
  have w2 : -2147483648 ≤ Xi S 904 64 ∧ Xi S 904 64 ≤ 2147483647 := Xi_rgI
  have C10 : ∀ (n10 : Nat) (_ : n10 ≤ fu) (T1 : sS) (_ : RI T1) (_ : FR md_mo_propertyOf__p S T1) (v3 : Int) (v4 : Int), (-2147483648 ≤ v3 ∧ v3 ≤ 2147483647) → (0 ≤ v4 ∧ v4 ≤ 12) → (0 ≤ v4 ∧ v4 ≤ Xi S 904 32) → (Xi T1 904 64 = if kind < 0 then 0 else mtN S kind type (v4).toNat) → (v3 = if kind < 0 then -1 else fpN S kind type (v4).toNat) → (0 ≤ Xi T1 904 64 ∧ Xi T1 904 64 ≤ v4) → (Xi T1 904 32 = Xi S 904 32) → Pl n10 lay0 (d + 1) m_mo_propertyOf 10 [(0, .ref 904), (1, iv kind), (2, iv type), (3, iv v3), (4, iv v4)] [] T1 (Q_mo_propertyOf__p S kind type) := by
    intro n10
    induction n10 with
    | zero => intros; exact Pl_0
    | succ n10 ih10 =>
      intro hm10 T1 hHT1 hFT1 v3 v4 w3 w4 w5 f10 y10 w6 w7
      have w8 : Xi T1 904 32 = Xi S 904 32 := hFT1.x _ _ rfl
      have w9 : -2147483648 ≤ Xi T1 904 32 ∧ Xi T1 904 32 ≤ 2147483647 := Xi_rgI
      have w10 : -2147483648 ≤ Xi T1 904 64 ∧ Xi T1 904 64 ≤ 2147483647 := Xi_rgI
      refine ys_iload rfl rfl ?_
      refine y_aload_n rfl rfl ?_
      refine y_gfi rfl rfl rfl rfl rfl ?_
      refine y_icmp_ge rfl rfl (by unfold rg; omega) (by unfold rg; omega) (fun w11 => ?_) (fun w12 => ?_)
      · refine y_iload_n rfl rfl ?_
        refine y_ireturn rfl rfl ?_
        exact ⟨hHT1, hFT1, _, rfl, ⟨by omega, by omega⟩, (by have t := f10; unfold mtR; rcases Int.lt_or_le kind 0 with kk | kk; (rw [if_pos kk] at t ⊢; exact t); (rw [if_neg (by omega)] at t ⊢; rw [show Xi S 904 32 = v4 by omega]; exact t)), (by have t := y10; unfold pyR; rcases Int.lt_or_le kind 0 with kk | kk; (rw [if_pos kk] at t ⊢; exact t); (rw [if_neg (by omega)] at t ⊢; rw [show Xi S 904 32 = v4 by omega]; exact t))⟩
      · refine y_iload_n rfl rfl ?_
        refine y_if_lt rfl rfl (by unfold rg; omega) (fun w13 => ?_) (fun w14 => ?_)
        · refine y_iload_n rfl rfl ?_
          refine y_ireturn rfl rfl ?_
          exact ⟨hHT1, hFT1, _, rfl, ⟨by omega, by omega⟩, (by have t := f10; unfold mtR; rcases Int.lt_or_le kind 0 with kk | kk; (rw [if_pos kk] at t ⊢; exact t); (rw [if_neg (by omega)] at t ⊢; rw [show Xi S 904 32 = v4 by omega]; exact t)), (by have t := y10; unfold pyR; rcases Int.lt_or_le kind 0 with kk | kk; (rw [if_pos kk] at t ⊢; exact t); (rw [if_neg (by omega)] at t ⊢; rw [show Xi S 904 32 = v4 by omega]; exact t))⟩
        · refine y_aload_n rfl rfl ?_
          refine y_gfr rfl rfl rfl rfl rfl (hHT1.r 904 33 928 rfl) ?_
          refine y_iload rfl rfl ?_
          refine y_ialoadP (n := 12) rfl rfl (by unfold rg; omega) (fun w15 w16 => ?_)
          have w17 : -2147483648 ≤ (Xi T1 928 ((v4).toNat)) ∧ (Xi T1 928 ((v4).toNat)) ≤ 2147483647 := Xi_rgI
          have t29 : (Xi T1 928 ((v4).toNat)) = Xi S 928 (v4).toNat := (hFT1.cx 928 rfl _).1
          refine y_iload_n rfl rfl ?_
          refine y_icmp_ne rfl rfl (by unfold rg; omega) (by unfold rg; omega) (fun w18 => ?_) (fun w19 => ?_)
          · refine y_iinc rfl rfl rfl rfl ?_
            have G68 : Hid ((Xi T1 904 64 = if kind < 0 then 0 else mtN S kind type (v4 + 1).toNat) ∧ v3 = if kind < 0 then -1 else fpN S kind type (v4 + 1).toNat) := by have a := f10; have b := y10; have c := fp_mt (S := S) (k := kind) (t := type) v4.toNat; rw [if_neg (by omega)] at a b; rw [if_neg (by omega), if_neg (by omega), mtN_s (by omega), fpN_s (by omega)]; first | (have t := K65; rw [if_pos (show Xi S 928 v4.toNat = type ∧ hsR S kind v4 = 1 from ⟨by omega, by omega⟩), if_pos (show Xi S 928 v4.toNat = type ∧ hsR S kind v4 = 1 from ⟨by omega, by omega⟩)]; exact ⟨by omega, by first | (have t := J51; rw [if_neg (fun w => w (c.1.2 (by omega)))]) | (rw [if_pos (fun w => by have x := c.1.1 w; omega)]; exact b)⟩) | (rw [if_neg (show ¬ (Xi S 928 v4.toNat = type ∧ hsR S kind v4 = 1) from fun q => by omega), if_neg (show ¬ (Xi S 928 v4.toNat = type ∧ hsR S kind v4 = 1) from fun q => by omega)]; exact ⟨by omega, by by_cases w : fpN S kind type v4.toNat = -1; (rw [if_neg (fun x => x w)]; omega); (rw [if_pos w]; exact b)⟩)
            refine y_goto rfl rfl ?_
            exact Pl_weak (ih10 (by omega) T1 hHT1 hFT1 (v3) ((v4 + 1)) (by omega) (by omega) (by omega) (by first | exact G68.o.1 | (rw [show Xi T1 904 64 = 0 by omega]; split <;> rfl)) (by first | exact G68.o.2 | (split <;> rfl)) (by omega) (by omega)) (by omega) (And.intro rfl (And.intro rfl (And.intro rfl (And.intro rfl (And.intro rfl (True.intro))))))
          · refine y_aload_n rfl rfl ?_
            refine y_iload_n rfl rfl ?_
            refine y_iload rfl rfl ?_
            refine y_callV rfl rfl rfl (t_mo_has__p hHT1 kind v4 ⟨by omega, by omega⟩ ⟨by omega, by omega⟩ (by first | assumption | exact (ABV_FR hFT1 rfl (by assumption : ABV S))) _) ?_
            rintro _ _ ⟨rfl, z20, rfl, w20, f38⟩
            show Pl _ _ _ _ _ _ [iv z20] _ _
            have h38 : z20 = hsR S kind v4 := f38.trans (hsN_k (fun j => (hFT1.cx 917 rfl j).1) (fun j => (hFT1.cx 929 rfl j).1) 17 kind)
            clear f38
            refine y_if_eq rfl rfl (by unfold rg; omega) (fun w21 => ?_) (fun w22 => ?_)
            · refine y_iinc rfl rfl rfl rfl ?_
              have G68 : Hid ((Xi T1 904 64 = if kind < 0 then 0 else mtN S kind type (v4 + 1).toNat) ∧ v3 = if kind < 0 then -1 else fpN S kind type (v4 + 1).toNat) := by have a := f10; have b := y10; have c := fp_mt (S := S) (k := kind) (t := type) v4.toNat; rw [if_neg (by omega)] at a b; rw [if_neg (by omega), if_neg (by omega), mtN_s (by omega), fpN_s (by omega)]; first | (have t := K65; rw [if_pos (show Xi S 928 v4.toNat = type ∧ hsR S kind v4 = 1 from ⟨by omega, by omega⟩), if_pos (show Xi S 928 v4.toNat = type ∧ hsR S kind v4 = 1 from ⟨by omega, by omega⟩)]; exact ⟨by omega, by first | (have t := J51; rw [if_neg (fun w => w (c.1.2 (by omega)))]) | (rw [if_pos (fun w => by have x := c.1.1 w; omega)]; exact b)⟩) | (rw [if_neg (show ¬ (Xi S 928 v4.toNat = type ∧ hsR S kind v4 = 1) from fun q => by omega), if_neg (show ¬ (Xi S 928 v4.toNat = type ∧ hsR S kind v4 = 1) from fun q => by omega)]; exact ⟨by omega, by by_cases w : fpN S kind type v4.toNat = -1; (rw [if_neg (fun x => x w)]; omega); (rw [if_pos w]; exact b)⟩)
              refine y_goto rfl rfl ?_
              exact Pl_weak (ih10 (by omega) T1 hHT1 hFT1 (v3) ((v4 + 1)) (by omega) (by omega) (by omega) (by first | exact G68.o.1 | (rw [show Xi T1 904 64 = 0 by omega]; split <;> rfl)) (by first | exact G68.o.2 | (split <;> rfl)) (by omega) (by omega)) (by omega) (And.intro rfl (And.intro rfl (And.intro rfl (And.intro rfl (And.intro rfl (True.intro))))))
            · refine y_aload_n rfl rfl ?_
              refine y_gfi rfl rfl rfl rfl rfl ?_
              refine y_if_ne rfl rfl (by unfold rg; omega) (fun w23 => ?_) (fun w24 => ?_)
              · refine y_iload_n rfl rfl ?_
                refine y_istore_n rfl rfl rfl ?_
                refine y_aload_n rfl rfl ?_
                refine y_dup rfl rfl ?_
                refine y_gfi rfl rfl rfl rfl rfl ?_
                refine y_iconst rfl ?_
                refine y_iadd rfl ?_
                refine y_pfi rfl rfl rfl rfl ?_
                obtain ⟨U2, eU2⟩ : ∃ T : sS, T = uI T1 904 64 (Int32.ofInt ((Xi T1 904 64) + 1)) := ⟨_, rfl⟩
                rw [← eU2]
                have hHU2 : RI U2 := by rw [eU2]; exact RI_w hHT1
                have hFU2 : FR md_mo_propertyOf__p S U2 := by rw [eU2]; exact FR.wI hFT1 (mdf_i (r := (904, 905, 64, 65)) (List.mem_of_getElem? (i := 0) rfl) (inR_i (by omega) (by omega) (by omega) (by omega)))
                have w25 : Xi U2 904 64 = ((Xi T1 904 64) + 1) := by rw [eU2]; exact Xi_same (by unfold rg; omega)
                have K65 : True := trivial
                have k65 : 0 ≤ kind := by omega
                refine y_iinc rfl rfl rfl rfl ?_
                have G68 : Hid ((Xi U2 904 64 = if kind < 0 then 0 else mtN S kind type (v4 + 1).toNat) ∧ v3 = if kind < 0 then -1 else fpN S kind type (v4 + 1).toNat) := by have a := f10; have b := y10; have c := fp_mt (S := S) (k := kind) (t := type) v4.toNat; rw [if_neg (by omega)] at a b; rw [if_neg (by omega), if_neg (by omega), mtN_s (by omega), fpN_s (by omega)]; first | (have t := K65; rw [if_pos (show Xi S 928 v4.toNat = type ∧ hsR S kind v4 = 1 from ⟨by omega, by omega⟩), if_pos (show Xi S 928 v4.toNat = type ∧ hsR S kind v4 = 1 from ⟨by omega, by omega⟩)]; exact ⟨by omega, by first | (have t := J51; rw [if_neg (fun w => w (c.1.2 (by omega)))]) | (rw [if_pos (fun w => by have x := c.1.1 w; omega)]; exact b)⟩) | (rw [if_neg (show ¬ (Xi S 928 v4.toNat = type ∧ hsR S kind v4 = 1) from fun q => by omega), if_neg (show ¬ (Xi S 928 v4.toNat = type ∧ hsR S kind v4 = 1) from fun q => by omega)]; exact ⟨by omega, by by_cases w : fpN S kind type v4.toNat = -1; (rw [if_neg (fun x => x w)]; omega); (rw [if_pos w]; exact b)⟩)
                refine y_goto rfl rfl ?_
                have w26 : Xi U2 904 32 = Xi T1 904 32 := (show Xi U2 904 32 = Xi T1 904 32 from by rw [eU2]; exact Xi_ne (by omega))
                exact Pl_weak (ih10 (by omega) U2 hHU2 hFU2 (v3) ((v4 + 1)) (by omega) (by omega) (by omega) (by first | exact G68.o.1 | (rw [show Xi U2 904 64 = 0 by omega]; split <;> rfl)) (by first | exact G68.o.2 | (split <;> rfl)) (by omega) (by omega)) (by omega) (And.intro rfl (And.intro rfl (And.intro rfl (And.intro rfl (And.intro rfl (True.intro))))))
              · refine y_iload rfl rfl ?_
                have J51 : True := trivial
                refine y_goto rfl rfl ?_
                refine y_istore_n rfl rfl rfl ?_
                refine y_aload_n rfl rfl ?_
                refine y_dup rfl rfl ?_
                refine y_gfi rfl rfl rfl rfl rfl ?_
                refine y_iconst rfl ?_
                refine y_iadd rfl ?_
                refine y_pfi rfl rfl rfl rfl ?_
                obtain ⟨U3, eU3⟩ : ∃ T : sS, T = uI T1 904 64 (Int32.ofInt ((Xi T1 904 64) + 1)) := ⟨_, rfl⟩
                rw [← eU3]
                have hHU3 : RI U3 := by rw [eU3]; exact RI_w hHT1
                have hFU3 : FR md_mo_propertyOf__p S U3 := by rw [eU3]; exact FR.wI hFT1 (mdf_i (r := (904, 905, 64, 65)) (List.mem_of_getElem? (i := 0) rfl) (inR_i (by omega) (by omega) (by omega) (by omega)))
                have w27 : Xi U3 904 64 = ((Xi T1 904 64) + 1) := by rw [eU3]; exact Xi_same (by unfold rg; omega)
                have K65 : True := trivial
                have k65 : 0 ≤ kind := by omega
                refine y_iinc rfl rfl rfl rfl ?_
                have G68 : Hid ((Xi U3 904 64 = if kind < 0 then 0 else mtN S kind type (v4 + 1).toNat) ∧ v4 = if kind < 0 then -1 else fpN S kind type (v4 + 1).toNat) := by have a := f10; have b := y10; have c := fp_mt (S := S) (k := kind) (t := type) v4.toNat; rw [if_neg (by omega)] at a b; rw [if_neg (by omega), if_neg (by omega), mtN_s (by omega), fpN_s (by omega)]; first | (have t := K65; rw [if_pos (show Xi S 928 v4.toNat = type ∧ hsR S kind v4 = 1 from ⟨by omega, by omega⟩), if_pos (show Xi S 928 v4.toNat = type ∧ hsR S kind v4 = 1 from ⟨by omega, by omega⟩)]; exact ⟨by omega, by first | (have t := J51; rw [if_neg (fun w => w (c.1.2 (by omega)))]) | (rw [if_pos (fun w => by have x := c.1.1 w; omega)]; exact b)⟩) | (rw [if_neg (show ¬ (Xi S 928 v4.toNat = type ∧ hsR S kind v4 = 1) from fun q => by omega), if_neg (show ¬ (Xi S 928 v4.toNat = type ∧ hsR S kind v4 = 1) from fun q => by omega)]; exact ⟨by omega, by by_cases w : fpN S kind type v4.toNat = -1; (rw [if_neg (fun x => x w)]; omega); (rw [if_pos w]; exact b)⟩)
                refine y_goto rfl rfl ?_
                have w28 : Xi U3 904 32 = Xi T1 904 32 := (show Xi U3 904 32 = Xi T1 904 32 from by rw [eU3]; exact Xi_ne (by omega))
                exact Pl_weak (ih10 (by omega) U3 hHU3 hFU3 (v4) ((v4 + 1)) (by omega) (by omega) (by omega) (by first | exact G68.o.1 | (rw [show Xi U3 904 64 = 0 by omega]; split <;> rfl)) (by first | exact G68.o.2 | (split <;> rfl)) (by omega) (by omega)) (by omega) (And.intro rfl (And.intro rfl (And.intro rfl (And.intro rfl (And.intro rfl (True.intro))))))
  refine y_iconst rfl ?_
  refine y_istore_n rfl rfl rfl ?_
  refine y_aload_n rfl rfl ?_
  refine y_iconst rfl ?_
  refine y_pfi rfl rfl rfl rfl ?_
  obtain ⟨U4, eU4⟩ : ∃ T : sS, T = uI S 904 64 (Int32.ofInt 0) := ⟨_, rfl⟩
  rw [← eU4]
  have hHU4 : RI U4 := by rw [eU4]; exact RI_w hH
  have hFU4 : FR md_mo_propertyOf__p S U4 := by rw [eU4]; exact FR.wI hF (mdf_i (r := (904, 905, 64, 65)) (List.mem_of_getElem? (i := 0) rfl) (inR_i (by omega) (by omega) (by omega) (by omega)))
  have w29 : Xi U4 904 64 = 0 := by rw [eU4]; exact Xi_same (by unfold rg; omega)
  refine y_iconst rfl ?_
  refine y_istore rfl rfl rfl ?_
  have w30 : Xi U4 904 32 = Xi S 904 32 := (show Xi U4 904 32 = Xi S 904 32 from by rw [eU4]; exact Xi_ne (by omega))
  exact Pl_weak (C10 fu (by omega) U4 hHU4 hFU4 ((-1)) (0) (by omega) (by omega) (by omega) (by first | exact G68.o.1 | (rw [show Xi U4 904 64 = 0 by omega]; split <;> rfl)) (by first | exact G68.o.2 | (split <;> rfl)) (by omega) (by omega)) (by omega) (And.intro rfl (And.intro rfl (And.intro rfl (And.intro rfl (And.intro rfl (True.intro))))))
def md_mo_adjective__p : List rec := [(904, 905, 64, 65), (904, 905, 113, 114)]
abbrev Q_mo_adjective__p (S : sS) (t : Int) (m : Int) (kind : Int) (dfd : Int) (vls : Int) : pst := fun r S1 => RI S1 ∧ FR md_mo_adjective__p S S1 ∧ (∃ z : Int, r = some (iv z) ∧ (-2147483648 ≤ z ∧ z ≤ 2147483647) ∧ (z = adR S t m kind dfd vls) ∧ (Xi S1 904 113 = acR S t m kind dfd vls))
set_option maxRecDepth 100000 in
theorem t_mo_adjective__p {S : sS} (hH : RI S) (t : Int) (m : Int) (kind : Int) (dfd : Int) (vls : Int) (ht : -2147483648 ≤ t ∧ t ≤ 2147483600) (hm : -2147483648 ≤ m ∧ m ≤ 2147483647) (hkind : -1 ≤ kind ∧ kind ≤ 15) (hdfd : 0 ≤ dfd ∧ dfd ≤ 1) (hvls : 0 ≤ vls ∧ vls ≤ 1) (hLS : LSP S) (h15 : 0 ≤ Xi S 904 15) (hLX : LXR S) (hB : ABV S) (hp32 : 0 ≤ Xi S 904 32 ∧ Xi S 904 32 ≤ 12) (d : Nat) : Mp lay0 (d + 3) m_mo_adjective [.ref 904, iv t, iv m, iv kind, iv dfd, iv vls] S (Q_mo_adjective__p S t m kind dfd vls) := by
  refine Mp_R rfl rfl (fun fu => ?_)
  have hF : FR md_mo_adjective__p S S := FR.rf
  have w1 : -2147483648 ≤ Xi S 904 113 ∧ Xi S 904 113 ≤ 2147483647 := Xi_rgI
  have w2 : -2147483648 ≤ Xi S 904 15 ∧ Xi S 904 15 ≤ 2147483647 := Xi_rgI
  have w3 : -2147483648 ≤ Xi S 904 32 ∧ Xi S 904 32 ≤ 2147483647 := Xi_rgI
  refine y_aload_n rfl rfl ?_
  refine y_iload_n rfl rfl ?_
  refine y_iload_n rfl rfl ?_
  refine y_callV rfl rfl rfl (t_mo_mean__p hH t m ⟨by omega, by omega⟩ ⟨by omega, by omega⟩ (by first | assumption | exact (LSP_FR hF rfl rfl (by assumption : LSP S))) (by first | assumption | omega) _) ?_
  rintro _ _ ⟨rfl, z4, rfl, w4, m3⟩
  show Pl _ _ _ _ _ _ [iv z4] _ _
  have r3 := nmR_rg (S := S) (t := t) (n := m) h15
  refine y_istore rfl rfl rfl ?_
  refine y_aload_n rfl rfl ?_
  refine y_iconst rfl ?_
  refine y_pfi rfl rfl rfl rfl ?_
  obtain ⟨U1, eU1⟩ : ∃ T : sS, T = uI S 904 113 (Int32.ofInt (-1)) := ⟨_, rfl⟩
  rw [← eU1]
  have hHU1 : RI U1 := by rw [eU1]; exact RI_w hH
  have hFU1 : FR md_mo_adjective__p S U1 := by rw [eU1]; exact FR.wI hF (mdf_i (r := (904, 905, 113, 114)) (List.mem_of_getElem? (i := 1) rfl) (inR_i (by omega) (by omega) (by omega) (by omega)))
  have w5 : Xi U1 904 113 = (-1) := by rw [eU1]; exact Xi_same (by unfold rg; omega)
  have A10 : Hid (AMR S U1) := AMR_w AMR.rf eU1 (by omega)
  refine y_iload rfl rfl ?_
  refine y_iconst rfl ?_
  refine y_icmp_ne rfl rfl (by unfold rg; omega) (by unfold rg; omega) (fun w6 => ?_) (fun w7 => ?_)
  · refine y_aload_n rfl rfl ?_
    have n21 : nmR S t m ≠ -1 := by omega
    have x21 := hLX (nmR S t m).toNat (by omega)
    have l21 : (nmR S t m).toNat = (z4).toNat := by rw [m3]
    refine y_gfr rfl rfl rfl rfl rfl (hHU1.r 904 13 915 rfl) ?_
    refine y_iload rfl rfl ?_
    refine y_ialoadP (n := 300) rfl rfl (by unfold rg; omega) (fun w8 w9 => ?_)
    have w10 : -2147483648 ≤ (Xi U1 915 ((z4).toNat)) ∧ (Xi U1 915 ((z4).toNat)) ≤ 2147483647 := Xi_rgI
    have e27 : (Xi U1 915 ((z4).toNat)) = Xi S 915 (nmR S t m).toNat := by rw [l21]; exact A10.o.1.2.1 915 _ (by omega)
    refine y_istore rfl rfl rfl ?_
    refine y_aload_n rfl rfl ?_
    refine y_gfr rfl rfl rfl rfl rfl (hHU1.r 904 12 914 rfl) ?_
    refine y_iload rfl rfl ?_
    refine y_ialoadP (n := 300) rfl rfl (by unfold rg; omega) (fun w11 w12 => ?_)
    have w13 : -2147483648 ≤ (Xi U1 914 ((z4).toNat)) ∧ (Xi U1 914 ((z4).toNat)) ≤ 2147483647 := Xi_rgI
    have e36 : (Xi U1 914 ((z4).toNat)) = Xi S 914 (nmR S t m).toNat := by rw [l21]; exact A10.o.1.2.1 914 _ (by omega)
    refine y_iconst rfl ?_
    refine y_icmp_ne rfl rfl (by unfold rg; omega) (by unfold rg; omega) (fun w14 => ?_) (fun w15 => ?_)
    · refine y_aload_n rfl rfl ?_
      have N79 : Hid (¬ (Xi S 914 (nmR S t m).toNat = 5 ∧ blR S kind (Xi S 921 (Xi S 915 (nmR S t m).toNat).toNat) = 1 ∧ (dfd ≠ 0 ∨ Xi S 924 (Xi S 915 (nmR S t m).toNat).toNat = 0))) := fun q => by first | (have t := d67; rcases q.2.2 with w | w <;> omega) | (have t := b50; have u := q.2.1; omega) | (have u := q.1; omega)
      refine y_gfr rfl rfl rfl rfl rfl (hHU1.r 904 12 914 rfl) ?_
      refine y_iload rfl rfl ?_
      refine y_ialoadP (n := 300) rfl rfl (by unfold rg; omega) (fun w16 w17 => ?_)
      have e85 : (Xi U1 914 ((z4).toNat)) = Xi S 914 (nmR S t m).toNat := by rw [l21]; exact A10.o.1.2.1 914 _ (by omega)
      refine y_bipush rfl rfl ?_
      refine y_icmp_ne rfl rfl (by unfold rg; omega) (by unfold rg; omega) (fun w18 => ?_) (fun w19 => ?_)
      · refine y_iconst rfl ?_
        have N140 : Hid (¬ (Xi S 914 (nmR S t m).toNat = 6 ∧ vls ≠ 0)) := fun q => by omega
        have F140 : (0 : Int) = adR S t m kind dfd vls ∧ Xi U1 904 113 = acR S t m kind dfd vls := ⟨by unfold adR; rw [if_neg n21, if_neg N79.o, if_neg N140.o], by unfold acR; rw [if_neg n21, if_neg N79.o, if_neg N140.o]; omega⟩
        refine y_ireturn rfl rfl ?_
        have w20 : Xi U1 904 15 = Xi S 904 15 := (show Xi U1 904 15 = Xi S 904 15 from by rw [eU1]; exact Xi_ne (by omega))
        have w21 : Xi U1 904 32 = Xi S 904 32 := (show Xi U1 904 32 = Xi S 904 32 from by rw [eU1]; exact Xi_ne (by omega))
        exact ⟨hHU1, hFU1, _, rfl, ⟨by omega, by omega⟩, (by first | (have t := K105; exact F139.1) | (have t := K74; exact F74.1) | (have t := K19; unfold adR; rw [← m3, if_pos (by omega)]) | exact F140.1), (by first | (have t := K105; exact F139.2) | (have t := K74; exact F74.2) | (have t := K19; unfold acR; rw [← m3, if_pos (by omega)]; omega) | exact F140.2)⟩
      · refine y_iload rfl rfl ?_
        refine y_if_eq rfl rfl (by unfold rg; omega) (fun w22 => ?_) (fun w23 => ?_)
        · refine y_iconst rfl ?_
          have N140 : Hid (¬ (Xi S 914 (nmR S t m).toNat = 6 ∧ vls ≠ 0)) := fun q => by omega
          have F140 : (0 : Int) = adR S t m kind dfd vls ∧ Xi U1 904 113 = acR S t m kind dfd vls := ⟨by unfold adR; rw [if_neg n21, if_neg N79.o, if_neg N140.o], by unfold acR; rw [if_neg n21, if_neg N79.o, if_neg N140.o]; omega⟩
          refine y_ireturn rfl rfl ?_
          have w24 : Xi U1 904 15 = Xi S 904 15 := (show Xi U1 904 15 = Xi S 904 15 from by rw [eU1]; exact Xi_ne (by omega))
          have w25 : Xi U1 904 32 = Xi S 904 32 := (show Xi U1 904 32 = Xi S 904 32 from by rw [eU1]; exact Xi_ne (by omega))
          exact ⟨hHU1, hFU1, _, rfl, ⟨by omega, by omega⟩, (by first | (have t := K105; exact F139.1) | (have t := K74; exact F74.1) | (have t := K19; unfold adR; rw [← m3, if_pos (by omega)]) | exact F140.1), (by first | (have t := K105; exact F139.2) | (have t := K74; exact F74.2) | (have t := K19; unfold acR; rw [← m3, if_pos (by omega)]; omega) | exact F140.2)⟩
        · refine y_aload_n rfl rfl ?_
          have C96 : Xi S 914 (nmR S t m).toNat = 6 ∧ vls ≠ 0 := ⟨by omega, by omega⟩
          refine y_iload_n rfl rfl ?_
          refine y_aload_n rfl rfl ?_
          refine y_gfr rfl rfl rfl rfl rfl (hHU1.r 904 31 927 rfl) ?_
          refine y_iload rfl rfl ?_
          refine y_ialoadP (n := 64) rfl rfl (by unfold rg; omega) (fun w26 w27 => ?_)
          have w28 : -2147483648 ≤ (Xi U1 927 (((Xi U1 915 ((z4).toNat))).toNat)) ∧ (Xi U1 927 (((Xi U1 915 ((z4).toNat))).toNat)) ≤ 2147483647 := Xi_rgI
          have e104 : (Xi U1 927 (((Xi U1 915 ((z4).toNat))).toNat)) = Xi S 927 (Xi S 915 (nmR S t m).toNat).toNat := by rw [← e27]; exact A10.o.2.2 927 _ (by omega)
          have w29 : Xi U1 904 15 = Xi S 904 15 := (show Xi U1 904 15 = Xi S 904 15 from by rw [eU1]; exact Xi_ne (by omega))
          have w30 : Xi U1 904 32 = Xi S 904 32 := (show Xi U1 904 32 = Xi S 904 32 from by rw [eU1]; exact Xi_ne (by omega))
          refine y_callV rfl rfl rfl (t_mo_propertyOf__p hHU1 kind (Xi U1 927 (((Xi U1 915 ((z4).toNat))).toNat)) ⟨by omega, by omega⟩ ⟨by omega, by omega⟩ (by first | assumption | exact (ABV_FR hFU1 rfl (by assumption : ABV S))) (by first | assumption | omega) _) ?_
          rintro _ T2 ⟨hHT2, w32, z31, rfl, w31, f105, y105⟩
          have hFT2 : FR md_mo_adjective__p S T2 := FR.tr hFU1 w32 rfl
          show Pl _ _ _ _ _ _ [iv z31] _ _
          have K105 : True := trivial
          have c105 : Xi T2 904 64 = mtR S kind (Xi S 927 (Xi S 915 (nmR S t m).toNat).toNat) := by rw [← e104]; exact f105.trans (mtR_am A10.o)
          have y105_ : z31 = pyR S kind (Xi S 927 (Xi S 915 (nmR S t m).toNat).toNat) := by rw [← e104]; exact y105.trans (pyR_am A10.o)
          clear f105 y105
          have p105 := pyR_rg (S := S) (k := kind) (t := Xi S 927 (Xi S 915 (nmR S t m).toNat).toNat)
          have p105b := pyR_le (S := S) (k := kind) (t := Xi S 927 (Xi S 915 (nmR S t m).toNat).toNat) hp32
          have m105 := mtR_rg (S := S) (k := kind) (t := Xi S 927 (Xi S 915 (nmR S t m).toNat).toNat) hp32
          refine y_istore rfl rfl rfl ?_
          refine y_aload_n rfl rfl ?_
          refine y_iload rfl rfl ?_
          refine y_iconst rfl ?_
          refine y_icmp_ne rfl rfl (by unfold rg; omega) (by unfold rg; omega) (fun w33 => ?_) (fun w34 => ?_)
          · refine y_bipush rfl rfl ?_
            refine y_bipush rfl rfl ?_
            refine y_iload rfl rfl ?_
            refine y_imul rfl ?_
            refine y_iadd rfl ?_
            refine y_iload rfl rfl ?_
            refine y_iadd rfl ?_
            refine y_pfi rfl rfl rfl rfl ?_
            obtain ⟨U3, eU3⟩ : ∃ T : sS, T = uI T2 904 113 (Int32.ofInt ((100 + (100 * (Xi U1 915 ((z4).toNat)))) + z31)) := ⟨_, rfl⟩
            rw [← eU3]
            have hHU3 : RI U3 := by rw [eU3]; exact RI_w hHT2
            have hFU3 : FR md_mo_adjective__p S U3 := by rw [eU3]; exact FR.wI hFT2 (mdf_i (r := (904, 905, 113, 114)) (List.mem_of_getElem? (i := 1) rfl) (inR_i (by omega) (by omega) (by omega) (by omega)))
            have w35 : Xi U3 904 113 = ((100 + (100 * (Xi U1 915 ((z4).toNat)))) + z31) := by rw [eU3]; exact Xi_same (by unfold rg; omega)
            have F132 : Xi U3 904 113 = acR S t m kind dfd vls := by unfold acR; rw [if_neg n21, if_neg N79.o, if_pos C96, ← y105_]; first | (rw [if_pos (by omega)]; omega) | (rw [if_neg (by omega), ← e27]; omega)
            have q132 : Xi U3 904 64 = mtR S kind (Xi S 927 (Xi S 915 (nmR S t m).toNat).toNat) := by rw [eU3, Xi_ne (by omega)]; exact c105
            refine y_aload_n rfl rfl ?_
            refine y_gfi rfl rfl rfl rfl rfl ?_
            have w36 : -2147483648 ≤ (Xi U3 904 64) ∧ (Xi U3 904 64) ≤ 2147483647 := Xi_rgI
            have F139 : (Xi U3 904 64) = adR S t m kind dfd vls ∧ Xi U3 904 113 = acR S t m kind dfd vls := ⟨by unfold adR; rw [if_neg n21, if_neg N79.o, if_pos C96]; exact q132, F132⟩
            refine y_ireturn rfl rfl ?_
            have w37 : Xi U3 904 15 = Xi S 904 15 := (show Xi U3 904 15 = Xi T2 904 15 from by rw [eU3]; exact Xi_ne (by omega)).trans ( (show Xi T2 904 15 = Xi U1 904 15 from w32.x _ _ rfl).trans ((show Xi U1 904 15 = Xi S 904 15 from by rw [eU1]; exact Xi_ne (by omega))))
            have w38 : Xi U3 904 32 = Xi S 904 32 := (show Xi U3 904 32 = Xi T2 904 32 from by rw [eU3]; exact Xi_ne (by omega)).trans ( (show Xi T2 904 32 = Xi U1 904 32 from w32.x _ _ rfl).trans ((show Xi U1 904 32 = Xi S 904 32 from by rw [eU1]; exact Xi_ne (by omega))))
            exact ⟨hHU3, hFU3, _, rfl, ⟨by omega, by omega⟩, (by first | (have t := K105; exact F139.1) | (have t := K74; exact F74.1) | (have t := K19; unfold adR; rw [← m3, if_pos (by omega)]) | exact F140.1), (by first | (have t := K105; exact F139.2) | (have t := K74; exact F74.2) | (have t := K19; unfold acR; rw [← m3, if_pos (by omega)]; omega) | exact F140.2)⟩
          · refine y_iconst rfl ?_
            refine y_goto rfl rfl ?_
            refine y_pfi rfl rfl rfl rfl ?_
            obtain ⟨U4, eU4⟩ : ∃ T : sS, T = uI T2 904 113 (Int32.ofInt (-1)) := ⟨_, rfl⟩
            rw [← eU4]
            have hHU4 : RI U4 := by rw [eU4]; exact RI_w hHT2
            have hFU4 : FR md_mo_adjective__p S U4 := by rw [eU4]; exact FR.wI hFT2 (mdf_i (r := (904, 905, 113, 114)) (List.mem_of_getElem? (i := 1) rfl) (inR_i (by omega) (by omega) (by omega) (by omega)))
            have w39 : Xi U4 904 113 = (-1) := by rw [eU4]; exact Xi_same (by unfold rg; omega)
            have F132 : Xi U4 904 113 = acR S t m kind dfd vls := by unfold acR; rw [if_neg n21, if_neg N79.o, if_pos C96, ← y105_]; first | (rw [if_pos (by omega)]; omega) | (rw [if_neg (by omega), ← e27]; omega)
            have q132 : Xi U4 904 64 = mtR S kind (Xi S 927 (Xi S 915 (nmR S t m).toNat).toNat) := by rw [eU4, Xi_ne (by omega)]; exact c105
            refine y_aload_n rfl rfl ?_
            refine y_gfi rfl rfl rfl rfl rfl ?_
            have w40 : -2147483648 ≤ (Xi U4 904 64) ∧ (Xi U4 904 64) ≤ 2147483647 := Xi_rgI
            have F139 : (Xi U4 904 64) = adR S t m kind dfd vls ∧ Xi U4 904 113 = acR S t m kind dfd vls := ⟨by unfold adR; rw [if_neg n21, if_neg N79.o, if_pos C96]; exact q132, F132⟩
            refine y_ireturn rfl rfl ?_
            have w41 : Xi U4 904 15 = Xi S 904 15 := (show Xi U4 904 15 = Xi T2 904 15 from by rw [eU4]; exact Xi_ne (by omega)).trans ( (show Xi T2 904 15 = Xi U1 904 15 from w32.x _ _ rfl).trans ((show Xi U1 904 15 = Xi S 904 15 from by rw [eU1]; exact Xi_ne (by omega))))
            have w42 : Xi U4 904 32 = Xi S 904 32 := (show Xi U4 904 32 = Xi T2 904 32 from by rw [eU4]; exact Xi_ne (by omega)).trans ( (show Xi T2 904 32 = Xi U1 904 32 from w32.x _ _ rfl).trans ((show Xi U1 904 32 = Xi S 904 32 from by rw [eU1]; exact Xi_ne (by omega))))
            exact ⟨hHU4, hFU4, _, rfl, ⟨by omega, by omega⟩, (by first | (have t := K105; exact F139.1) | (have t := K74; exact F74.1) | (have t := K19; unfold adR; rw [← m3, if_pos (by omega)]) | exact F140.1), (by first | (have t := K105; exact F139.2) | (have t := K74; exact F74.2) | (have t := K19; unfold acR; rw [← m3, if_pos (by omega)]; omega) | exact F140.2)⟩
    · refine y_aload_n rfl rfl ?_
      refine y_iload_n rfl rfl ?_
      refine y_aload_n rfl rfl ?_
      refine y_gfr rfl rfl rfl rfl rfl (hHU1.r 904 24 921 rfl) ?_
      refine y_iload rfl rfl ?_
      refine y_ialoadP (n := 24) rfl rfl (by unfold rg; omega) (fun w43 w44 => ?_)
      have w45 : -2147483648 ≤ (Xi U1 921 (((Xi U1 915 ((z4).toNat))).toNat)) ∧ (Xi U1 921 (((Xi U1 915 ((z4).toNat))).toNat)) ≤ 2147483647 := Xi_rgI
      have e49 : (Xi U1 921 (((Xi U1 915 ((z4).toNat))).toNat)) = Xi S 921 (Xi S 915 (nmR S t m).toNat).toNat := by rw [← e27]; exact A10.o.2.2 921 _ (by omega)
      have w46 : Xi U1 904 15 = Xi S 904 15 := (show Xi U1 904 15 = Xi S 904 15 from by rw [eU1]; exact Xi_ne (by omega))
      have w47 : Xi U1 904 32 = Xi S 904 32 := (show Xi U1 904 32 = Xi S 904 32 from by rw [eU1]; exact Xi_ne (by omega))
      refine y_callV rfl rfl rfl (t_mo_isBelow__p hHU1 kind (Xi U1 921 (((Xi U1 915 ((z4).toNat))).toNat)) ⟨by omega, by omega⟩ ⟨by omega, by omega⟩ (by first | assumption | exact (ABV_FR hFU1 rfl (by assumption : ABV S))) _) ?_
      rintro _ _ ⟨rfl, z48, rfl, w48, f50⟩
      show Pl _ _ _ _ _ _ [iv z48] _ _
      have b50 : z48 = blR S kind (Xi S 921 (Xi S 915 (nmR S t m).toNat).toNat) := by rw [← e49]; exact f50.trans (blR_am A10.o)
      clear f50
      refine y_if_eq rfl rfl (by unfold rg; omega) (fun w49 => ?_) (fun w50 => ?_)
      · refine y_aload_n rfl rfl ?_
        have N79 : Hid (¬ (Xi S 914 (nmR S t m).toNat = 5 ∧ blR S kind (Xi S 921 (Xi S 915 (nmR S t m).toNat).toNat) = 1 ∧ (dfd ≠ 0 ∨ Xi S 924 (Xi S 915 (nmR S t m).toNat).toNat = 0))) := fun q => by first | (have t := d67; rcases q.2.2 with w | w <;> omega) | (have t := b50; have u := q.2.1; omega) | (have u := q.1; omega)
        refine y_gfr rfl rfl rfl rfl rfl (hHU1.r 904 12 914 rfl) ?_
        refine y_iload rfl rfl ?_
        refine y_ialoadP (n := 300) rfl rfl (by unfold rg; omega) (fun w51 w52 => ?_)
        have e85 : (Xi U1 914 ((z4).toNat)) = Xi S 914 (nmR S t m).toNat := by rw [l21]; exact A10.o.1.2.1 914 _ (by omega)
        refine y_bipush rfl rfl ?_
        refine y_icmp_ne rfl rfl (by unfold rg; omega) (by unfold rg; omega) (fun w53 => ?_) (fun w54 => ?_)
        · refine y_iconst rfl ?_
          have N140 : Hid (¬ (Xi S 914 (nmR S t m).toNat = 6 ∧ vls ≠ 0)) := fun q => by omega
          have F140 : (0 : Int) = adR S t m kind dfd vls ∧ Xi U1 904 113 = acR S t m kind dfd vls := ⟨by unfold adR; rw [if_neg n21, if_neg N79.o, if_neg N140.o], by unfold acR; rw [if_neg n21, if_neg N79.o, if_neg N140.o]; omega⟩
          refine y_ireturn rfl rfl ?_
          exact ⟨hHU1, hFU1, _, rfl, ⟨by omega, by omega⟩, (by first | (have t := K105; exact F139.1) | (have t := K74; exact F74.1) | (have t := K19; unfold adR; rw [← m3, if_pos (by omega)]) | exact F140.1), (by first | (have t := K105; exact F139.2) | (have t := K74; exact F74.2) | (have t := K19; unfold acR; rw [← m3, if_pos (by omega)]; omega) | exact F140.2)⟩
        · refine y_iload rfl rfl ?_
          refine y_if_eq rfl rfl (by unfold rg; omega) (fun w57 => ?_) (fun w58 => ?_)
          · refine y_iconst rfl ?_
            have N140 : Hid (¬ (Xi S 914 (nmR S t m).toNat = 6 ∧ vls ≠ 0)) := fun q => by omega
            have F140 : (0 : Int) = adR S t m kind dfd vls ∧ Xi U1 904 113 = acR S t m kind dfd vls := ⟨by unfold adR; rw [if_neg n21, if_neg N79.o, if_neg N140.o], by unfold acR; rw [if_neg n21, if_neg N79.o, if_neg N140.o]; omega⟩
            refine y_ireturn rfl rfl ?_
            exact ⟨hHU1, hFU1, _, rfl, ⟨by omega, by omega⟩, (by first | (have t := K105; exact F139.1) | (have t := K74; exact F74.1) | (have t := K19; unfold adR; rw [← m3, if_pos (by omega)]) | exact F140.1), (by first | (have t := K105; exact F139.2) | (have t := K74; exact F74.2) | (have t := K19; unfold acR; rw [← m3, if_pos (by omega)]; omega) | exact F140.2)⟩
          · refine y_aload_n rfl rfl ?_
            have C96 : Xi S 914 (nmR S t m).toNat = 6 ∧ vls ≠ 0 := ⟨by omega, by omega⟩
            refine y_iload_n rfl rfl ?_
            refine y_aload_n rfl rfl ?_
            refine y_gfr rfl rfl rfl rfl rfl (hHU1.r 904 31 927 rfl) ?_
            refine y_iload rfl rfl ?_
            refine y_ialoadP (n := 64) rfl rfl (by unfold rg; omega) (fun w61 w62 => ?_)
            have w63 : -2147483648 ≤ (Xi U1 927 (((Xi U1 915 ((z4).toNat))).toNat)) ∧ (Xi U1 927 (((Xi U1 915 ((z4).toNat))).toNat)) ≤ 2147483647 := Xi_rgI
            have e104 : (Xi U1 927 (((Xi U1 915 ((z4).toNat))).toNat)) = Xi S 927 (Xi S 915 (nmR S t m).toNat).toNat := by rw [← e27]; exact A10.o.2.2 927 _ (by omega)
            refine y_callV rfl rfl rfl (t_mo_propertyOf__p hHU1 kind (Xi U1 927 (((Xi U1 915 ((z4).toNat))).toNat)) ⟨by omega, by omega⟩ ⟨by omega, by omega⟩ (by first | assumption | exact (ABV_FR hFU1 rfl (by assumption : ABV S))) (by first | assumption | omega) _) ?_
            rintro _ T5 ⟨hHT5, w67, z66, rfl, w66, f105, y105⟩
            have hFT5 : FR md_mo_adjective__p S T5 := FR.tr hFU1 w67 rfl
            show Pl _ _ _ _ _ _ [iv z66] _ _
            have K105 : True := trivial
            have c105 : Xi T5 904 64 = mtR S kind (Xi S 927 (Xi S 915 (nmR S t m).toNat).toNat) := by rw [← e104]; exact f105.trans (mtR_am A10.o)
            have y105_ : z66 = pyR S kind (Xi S 927 (Xi S 915 (nmR S t m).toNat).toNat) := by rw [← e104]; exact y105.trans (pyR_am A10.o)
            clear f105 y105
            have p105 := pyR_rg (S := S) (k := kind) (t := Xi S 927 (Xi S 915 (nmR S t m).toNat).toNat)
            have p105b := pyR_le (S := S) (k := kind) (t := Xi S 927 (Xi S 915 (nmR S t m).toNat).toNat) hp32
            have m105 := mtR_rg (S := S) (k := kind) (t := Xi S 927 (Xi S 915 (nmR S t m).toNat).toNat) hp32
            refine y_istore rfl rfl rfl ?_
            refine y_aload_n rfl rfl ?_
            refine y_iload rfl rfl ?_
            refine y_iconst rfl ?_
            refine y_icmp_ne rfl rfl (by unfold rg; omega) (by unfold rg; omega) (fun w68 => ?_) (fun w69 => ?_)
            · refine y_bipush rfl rfl ?_
              refine y_bipush rfl rfl ?_
              refine y_iload rfl rfl ?_
              refine y_imul rfl ?_
              refine y_iadd rfl ?_
              refine y_iload rfl rfl ?_
              refine y_iadd rfl ?_
              refine y_pfi rfl rfl rfl rfl ?_
              obtain ⟨U6, eU6⟩ : ∃ T : sS, T = uI T5 904 113 (Int32.ofInt ((100 + (100 * (Xi U1 915 ((z4).toNat)))) + z66)) := ⟨_, rfl⟩
              rw [← eU6]
              have hHU6 : RI U6 := by rw [eU6]; exact RI_w hHT5
              have hFU6 : FR md_mo_adjective__p S U6 := by rw [eU6]; exact FR.wI hFT5 (mdf_i (r := (904, 905, 113, 114)) (List.mem_of_getElem? (i := 1) rfl) (inR_i (by omega) (by omega) (by omega) (by omega)))
              have w70 : Xi U6 904 113 = ((100 + (100 * (Xi U1 915 ((z4).toNat)))) + z66) := by rw [eU6]; exact Xi_same (by unfold rg; omega)
              have F132 : Xi U6 904 113 = acR S t m kind dfd vls := by unfold acR; rw [if_neg n21, if_neg N79.o, if_pos C96, ← y105_]; first | (rw [if_pos (by omega)]; omega) | (rw [if_neg (by omega), ← e27]; omega)
              have q132 : Xi U6 904 64 = mtR S kind (Xi S 927 (Xi S 915 (nmR S t m).toNat).toNat) := by rw [eU6, Xi_ne (by omega)]; exact c105
              refine y_aload_n rfl rfl ?_
              refine y_gfi rfl rfl rfl rfl rfl ?_
              have w71 : -2147483648 ≤ (Xi U6 904 64) ∧ (Xi U6 904 64) ≤ 2147483647 := Xi_rgI
              have F139 : (Xi U6 904 64) = adR S t m kind dfd vls ∧ Xi U6 904 113 = acR S t m kind dfd vls := ⟨by unfold adR; rw [if_neg n21, if_neg N79.o, if_pos C96]; exact q132, F132⟩
              refine y_ireturn rfl rfl ?_
              have w72 : Xi U6 904 15 = Xi S 904 15 := (show Xi U6 904 15 = Xi T5 904 15 from by rw [eU6]; exact Xi_ne (by omega)).trans ( (show Xi T5 904 15 = Xi U1 904 15 from w67.x _ _ rfl).trans ((show Xi U1 904 15 = Xi S 904 15 from by rw [eU1]; exact Xi_ne (by omega))))
              have w73 : Xi U6 904 32 = Xi S 904 32 := (show Xi U6 904 32 = Xi T5 904 32 from by rw [eU6]; exact Xi_ne (by omega)).trans ( (show Xi T5 904 32 = Xi U1 904 32 from w67.x _ _ rfl).trans ((show Xi U1 904 32 = Xi S 904 32 from by rw [eU1]; exact Xi_ne (by omega))))
              exact ⟨hHU6, hFU6, _, rfl, ⟨by omega, by omega⟩, (by first | (have t := K105; exact F139.1) | (have t := K74; exact F74.1) | (have t := K19; unfold adR; rw [← m3, if_pos (by omega)]) | exact F140.1), (by first | (have t := K105; exact F139.2) | (have t := K74; exact F74.2) | (have t := K19; unfold acR; rw [← m3, if_pos (by omega)]; omega) | exact F140.2)⟩
            · refine y_iconst rfl ?_
              refine y_goto rfl rfl ?_
              refine y_pfi rfl rfl rfl rfl ?_
              obtain ⟨U7, eU7⟩ : ∃ T : sS, T = uI T5 904 113 (Int32.ofInt (-1)) := ⟨_, rfl⟩
              rw [← eU7]
              have hHU7 : RI U7 := by rw [eU7]; exact RI_w hHT5
              have hFU7 : FR md_mo_adjective__p S U7 := by rw [eU7]; exact FR.wI hFT5 (mdf_i (r := (904, 905, 113, 114)) (List.mem_of_getElem? (i := 1) rfl) (inR_i (by omega) (by omega) (by omega) (by omega)))
              have w74 : Xi U7 904 113 = (-1) := by rw [eU7]; exact Xi_same (by unfold rg; omega)
              have F132 : Xi U7 904 113 = acR S t m kind dfd vls := by unfold acR; rw [if_neg n21, if_neg N79.o, if_pos C96, ← y105_]; first | (rw [if_pos (by omega)]; omega) | (rw [if_neg (by omega), ← e27]; omega)
              have q132 : Xi U7 904 64 = mtR S kind (Xi S 927 (Xi S 915 (nmR S t m).toNat).toNat) := by rw [eU7, Xi_ne (by omega)]; exact c105
              refine y_aload_n rfl rfl ?_
              refine y_gfi rfl rfl rfl rfl rfl ?_
              have w75 : -2147483648 ≤ (Xi U7 904 64) ∧ (Xi U7 904 64) ≤ 2147483647 := Xi_rgI
              have F139 : (Xi U7 904 64) = adR S t m kind dfd vls ∧ Xi U7 904 113 = acR S t m kind dfd vls := ⟨by unfold adR; rw [if_neg n21, if_neg N79.o, if_pos C96]; exact q132, F132⟩
              refine y_ireturn rfl rfl ?_
              have w76 : Xi U7 904 15 = Xi S 904 15 := (show Xi U7 904 15 = Xi T5 904 15 from by rw [eU7]; exact Xi_ne (by omega)).trans ( (show Xi T5 904 15 = Xi U1 904 15 from w67.x _ _ rfl).trans ((show Xi U1 904 15 = Xi S 904 15 from by rw [eU1]; exact Xi_ne (by omega))))
              have w77 : Xi U7 904 32 = Xi S 904 32 := (show Xi U7 904 32 = Xi T5 904 32 from by rw [eU7]; exact Xi_ne (by omega)).trans ( (show Xi T5 904 32 = Xi U1 904 32 from w67.x _ _ rfl).trans ((show Xi U1 904 32 = Xi S 904 32 from by rw [eU1]; exact Xi_ne (by omega))))
              exact ⟨hHU7, hFU7, _, rfl, ⟨by omega, by omega⟩, (by first | (have t := K105; exact F139.1) | (have t := K74; exact F74.1) | (have t := K19; unfold adR; rw [← m3, if_pos (by omega)]) | exact F140.1), (by first | (have t := K105; exact F139.2) | (have t := K74; exact F74.2) | (have t := K19; unfold acR; rw [← m3, if_pos (by omega)]; omega) | exact F140.2)⟩
      · refine y_iload rfl rfl ?_
        refine y_if_ne rfl rfl (by unfold rg; omega) (fun w78 => ?_) (fun w79 => ?_)
        · refine y_aload_n rfl rfl ?_
          have C71 : Xi S 914 (nmR S t m).toNat = 5 ∧ blR S kind (Xi S 921 (Xi S 915 (nmR S t m).toNat).toNat) = 1 ∧ (dfd ≠ 0 ∨ Xi S 924 (Xi S 915 (nmR S t m).toNat).toNat = 0) := ⟨by omega, by omega, by first | (have t := d67; exact Or.inr (by omega)) | exact Or.inl (by omega)⟩
          refine y_iload rfl rfl ?_
          refine y_pfi rfl rfl rfl rfl ?_
          obtain ⟨U8, eU8⟩ : ∃ T : sS, T = uI U1 904 113 (Int32.ofInt (Xi U1 915 ((z4).toNat))) := ⟨_, rfl⟩
          rw [← eU8]
          have hHU8 : RI U8 := by rw [eU8]; exact RI_w hHU1
          have hFU8 : FR md_mo_adjective__p S U8 := by rw [eU8]; exact FR.wI hFU1 (mdf_i (r := (904, 905, 113, 114)) (List.mem_of_getElem? (i := 1) rfl) (inR_i (by omega) (by omega) (by omega) (by omega)))
          have w80 : Xi U8 904 113 = (Xi U1 915 ((z4).toNat)) := by rw [eU8]; exact Xi_same (by unfold rg; omega)
          have K74 : True := trivial
          have F74 : (1 : Int) = adR S t m kind dfd vls ∧ Xi U8 904 113 = acR S t m kind dfd vls := ⟨by unfold adR; rw [if_neg n21, if_pos C71], by unfold acR; rw [if_neg n21, if_pos C71, ← e27]; omega⟩
          refine y_iconst rfl ?_
          refine y_ireturn rfl rfl ?_
          have w81 : Xi U8 904 15 = Xi S 904 15 := (show Xi U8 904 15 = Xi U1 904 15 from by rw [eU8]; exact Xi_ne (by omega)).trans ((show Xi U1 904 15 = Xi S 904 15 from by rw [eU1]; exact Xi_ne (by omega)))
          have w82 : Xi U8 904 32 = Xi S 904 32 := (show Xi U8 904 32 = Xi U1 904 32 from by rw [eU8]; exact Xi_ne (by omega)).trans ((show Xi U1 904 32 = Xi S 904 32 from by rw [eU1]; exact Xi_ne (by omega)))
          exact ⟨hHU8, hFU8, _, rfl, ⟨by omega, by omega⟩, (by first | (have t := K105; exact F139.1) | (have t := K74; exact F74.1) | (have t := K19; unfold adR; rw [← m3, if_pos (by omega)]) | exact F140.1), (by first | (have t := K105; exact F139.2) | (have t := K74; exact F74.2) | (have t := K19; unfold acR; rw [← m3, if_pos (by omega)]; omega) | exact F140.2)⟩
        · refine y_aload_n rfl rfl ?_
          refine y_gfr rfl rfl rfl rfl rfl (hHU1.r 904 27 924 rfl) ?_
          refine y_iload rfl rfl ?_
          refine y_ialoadP (n := 24) rfl rfl (by unfold rg; omega) (fun w83 w84 => ?_)
          have w85 : -2147483648 ≤ (Xi U1 924 (((Xi U1 915 ((z4).toNat))).toNat)) ∧ (Xi U1 924 (((Xi U1 915 ((z4).toNat))).toNat)) ≤ 2147483647 := Xi_rgI
          have d67 : (Xi U1 924 (((Xi U1 915 ((z4).toNat))).toNat)) = Xi S 924 (Xi S 915 (nmR S t m).toNat).toNat := by rw [← e27]; exact A10.o.2.2 924 _ (by omega)
          refine y_if_ne rfl rfl (by unfold rg; omega) (fun w86 => ?_) (fun w87 => ?_)
          · refine y_aload_n rfl rfl ?_
            have N79 : Hid (¬ (Xi S 914 (nmR S t m).toNat = 5 ∧ blR S kind (Xi S 921 (Xi S 915 (nmR S t m).toNat).toNat) = 1 ∧ (dfd ≠ 0 ∨ Xi S 924 (Xi S 915 (nmR S t m).toNat).toNat = 0))) := fun q => by first | (have t := d67; rcases q.2.2 with w | w <;> omega) | (have t := b50; have u := q.2.1; omega) | (have u := q.1; omega)
            refine y_gfr rfl rfl rfl rfl rfl (hHU1.r 904 12 914 rfl) ?_
            refine y_iload rfl rfl ?_
            refine y_ialoadP (n := 300) rfl rfl (by unfold rg; omega) (fun w88 w89 => ?_)
            have e85 : (Xi U1 914 ((z4).toNat)) = Xi S 914 (nmR S t m).toNat := by rw [l21]; exact A10.o.1.2.1 914 _ (by omega)
            refine y_bipush rfl rfl ?_
            refine y_icmp_ne rfl rfl (by unfold rg; omega) (by unfold rg; omega) (fun w90 => ?_) (fun w91 => ?_)
            · refine y_iconst rfl ?_
              have N140 : Hid (¬ (Xi S 914 (nmR S t m).toNat = 6 ∧ vls ≠ 0)) := fun q => by omega
              have F140 : (0 : Int) = adR S t m kind dfd vls ∧ Xi U1 904 113 = acR S t m kind dfd vls := ⟨by unfold adR; rw [if_neg n21, if_neg N79.o, if_neg N140.o], by unfold acR; rw [if_neg n21, if_neg N79.o, if_neg N140.o]; omega⟩
              refine y_ireturn rfl rfl ?_
              exact ⟨hHU1, hFU1, _, rfl, ⟨by omega, by omega⟩, (by first | (have t := K105; exact F139.1) | (have t := K74; exact F74.1) | (have t := K19; unfold adR; rw [← m3, if_pos (by omega)]) | exact F140.1), (by first | (have t := K105; exact F139.2) | (have t := K74; exact F74.2) | (have t := K19; unfold acR; rw [← m3, if_pos (by omega)]; omega) | exact F140.2)⟩
            · refine y_iload rfl rfl ?_
              refine y_if_eq rfl rfl (by unfold rg; omega) (fun w94 => ?_) (fun w95 => ?_)
              · refine y_iconst rfl ?_
                have N140 : Hid (¬ (Xi S 914 (nmR S t m).toNat = 6 ∧ vls ≠ 0)) := fun q => by omega
                have F140 : (0 : Int) = adR S t m kind dfd vls ∧ Xi U1 904 113 = acR S t m kind dfd vls := ⟨by unfold adR; rw [if_neg n21, if_neg N79.o, if_neg N140.o], by unfold acR; rw [if_neg n21, if_neg N79.o, if_neg N140.o]; omega⟩
                refine y_ireturn rfl rfl ?_
                exact ⟨hHU1, hFU1, _, rfl, ⟨by omega, by omega⟩, (by first | (have t := K105; exact F139.1) | (have t := K74; exact F74.1) | (have t := K19; unfold adR; rw [← m3, if_pos (by omega)]) | exact F140.1), (by first | (have t := K105; exact F139.2) | (have t := K74; exact F74.2) | (have t := K19; unfold acR; rw [← m3, if_pos (by omega)]; omega) | exact F140.2)⟩
              · refine y_aload_n rfl rfl ?_
                have C96 : Xi S 914 (nmR S t m).toNat = 6 ∧ vls ≠ 0 := ⟨by omega, by omega⟩
                refine y_iload_n rfl rfl ?_
                refine y_aload_n rfl rfl ?_
                refine y_gfr rfl rfl rfl rfl rfl (hHU1.r 904 31 927 rfl) ?_
                refine y_iload rfl rfl ?_
                refine y_ialoadP (n := 64) rfl rfl (by unfold rg; omega) (fun w98 w99 => ?_)
                have w100 : -2147483648 ≤ (Xi U1 927 (((Xi U1 915 ((z4).toNat))).toNat)) ∧ (Xi U1 927 (((Xi U1 915 ((z4).toNat))).toNat)) ≤ 2147483647 := Xi_rgI
                have e104 : (Xi U1 927 (((Xi U1 915 ((z4).toNat))).toNat)) = Xi S 927 (Xi S 915 (nmR S t m).toNat).toNat := by rw [← e27]; exact A10.o.2.2 927 _ (by omega)
                refine y_callV rfl rfl rfl (t_mo_propertyOf__p hHU1 kind (Xi U1 927 (((Xi U1 915 ((z4).toNat))).toNat)) ⟨by omega, by omega⟩ ⟨by omega, by omega⟩ (by first | assumption | exact (ABV_FR hFU1 rfl (by assumption : ABV S))) (by first | assumption | omega) _) ?_
                rintro _ T9 ⟨hHT9, w104, z103, rfl, w103, f105, y105⟩
                have hFT9 : FR md_mo_adjective__p S T9 := FR.tr hFU1 w104 rfl
                show Pl _ _ _ _ _ _ [iv z103] _ _
                have K105 : True := trivial
                have c105 : Xi T9 904 64 = mtR S kind (Xi S 927 (Xi S 915 (nmR S t m).toNat).toNat) := by rw [← e104]; exact f105.trans (mtR_am A10.o)
                have y105_ : z103 = pyR S kind (Xi S 927 (Xi S 915 (nmR S t m).toNat).toNat) := by rw [← e104]; exact y105.trans (pyR_am A10.o)
                clear f105 y105
                have p105 := pyR_rg (S := S) (k := kind) (t := Xi S 927 (Xi S 915 (nmR S t m).toNat).toNat)
                have p105b := pyR_le (S := S) (k := kind) (t := Xi S 927 (Xi S 915 (nmR S t m).toNat).toNat) hp32
                have m105 := mtR_rg (S := S) (k := kind) (t := Xi S 927 (Xi S 915 (nmR S t m).toNat).toNat) hp32
                refine y_istore rfl rfl rfl ?_
                refine y_aload_n rfl rfl ?_
                refine y_iload rfl rfl ?_
                refine y_iconst rfl ?_
                refine y_icmp_ne rfl rfl (by unfold rg; omega) (by unfold rg; omega) (fun w105 => ?_) (fun w106 => ?_)
                · refine y_bipush rfl rfl ?_
                  refine y_bipush rfl rfl ?_
                  refine y_iload rfl rfl ?_
                  refine y_imul rfl ?_
                  refine y_iadd rfl ?_
                  refine y_iload rfl rfl ?_
                  refine y_iadd rfl ?_
                  refine y_pfi rfl rfl rfl rfl ?_
                  obtain ⟨U10, eU10⟩ : ∃ T : sS, T = uI T9 904 113 (Int32.ofInt ((100 + (100 * (Xi U1 915 ((z4).toNat)))) + z103)) := ⟨_, rfl⟩
                  rw [← eU10]
                  have hHU10 : RI U10 := by rw [eU10]; exact RI_w hHT9
                  have hFU10 : FR md_mo_adjective__p S U10 := by rw [eU10]; exact FR.wI hFT9 (mdf_i (r := (904, 905, 113, 114)) (List.mem_of_getElem? (i := 1) rfl) (inR_i (by omega) (by omega) (by omega) (by omega)))
                  have w107 : Xi U10 904 113 = ((100 + (100 * (Xi U1 915 ((z4).toNat)))) + z103) := by rw [eU10]; exact Xi_same (by unfold rg; omega)
                  have F132 : Xi U10 904 113 = acR S t m kind dfd vls := by unfold acR; rw [if_neg n21, if_neg N79.o, if_pos C96, ← y105_]; first | (rw [if_pos (by omega)]; omega) | (rw [if_neg (by omega), ← e27]; omega)
                  have q132 : Xi U10 904 64 = mtR S kind (Xi S 927 (Xi S 915 (nmR S t m).toNat).toNat) := by rw [eU10, Xi_ne (by omega)]; exact c105
                  refine y_aload_n rfl rfl ?_
                  refine y_gfi rfl rfl rfl rfl rfl ?_
                  have w108 : -2147483648 ≤ (Xi U10 904 64) ∧ (Xi U10 904 64) ≤ 2147483647 := Xi_rgI
                  have F139 : (Xi U10 904 64) = adR S t m kind dfd vls ∧ Xi U10 904 113 = acR S t m kind dfd vls := ⟨by unfold adR; rw [if_neg n21, if_neg N79.o, if_pos C96]; exact q132, F132⟩
                  refine y_ireturn rfl rfl ?_
                  have w109 : Xi U10 904 15 = Xi S 904 15 := (show Xi U10 904 15 = Xi T9 904 15 from by rw [eU10]; exact Xi_ne (by omega)).trans ( (show Xi T9 904 15 = Xi U1 904 15 from w104.x _ _ rfl).trans ((show Xi U1 904 15 = Xi S 904 15 from by rw [eU1]; exact Xi_ne (by omega))))
                  have w110 : Xi U10 904 32 = Xi S 904 32 := (show Xi U10 904 32 = Xi T9 904 32 from by rw [eU10]; exact Xi_ne (by omega)).trans ( (show Xi T9 904 32 = Xi U1 904 32 from w104.x _ _ rfl).trans ((show Xi U1 904 32 = Xi S 904 32 from by rw [eU1]; exact Xi_ne (by omega))))
                  exact ⟨hHU10, hFU10, _, rfl, ⟨by omega, by omega⟩, (by first | (have t := K105; exact F139.1) | (have t := K74; exact F74.1) | (have t := K19; unfold adR; rw [← m3, if_pos (by omega)]) | exact F140.1), (by first | (have t := K105; exact F139.2) | (have t := K74; exact F74.2) | (have t := K19; unfold acR; rw [← m3, if_pos (by omega)]; omega) | exact F140.2)⟩
                · refine y_iconst rfl ?_
                  refine y_goto rfl rfl ?_
                  refine y_pfi rfl rfl rfl rfl ?_
                  obtain ⟨U11, eU11⟩ : ∃ T : sS, T = uI T9 904 113 (Int32.ofInt (-1)) := ⟨_, rfl⟩
                  rw [← eU11]
                  have hHU11 : RI U11 := by rw [eU11]; exact RI_w hHT9
                  have hFU11 : FR md_mo_adjective__p S U11 := by rw [eU11]; exact FR.wI hFT9 (mdf_i (r := (904, 905, 113, 114)) (List.mem_of_getElem? (i := 1) rfl) (inR_i (by omega) (by omega) (by omega) (by omega)))
                  have w111 : Xi U11 904 113 = (-1) := by rw [eU11]; exact Xi_same (by unfold rg; omega)
                  have F132 : Xi U11 904 113 = acR S t m kind dfd vls := by unfold acR; rw [if_neg n21, if_neg N79.o, if_pos C96, ← y105_]; first | (rw [if_pos (by omega)]; omega) | (rw [if_neg (by omega), ← e27]; omega)
                  have q132 : Xi U11 904 64 = mtR S kind (Xi S 927 (Xi S 915 (nmR S t m).toNat).toNat) := by rw [eU11, Xi_ne (by omega)]; exact c105
                  refine y_aload_n rfl rfl ?_
                  refine y_gfi rfl rfl rfl rfl rfl ?_
                  have w112 : -2147483648 ≤ (Xi U11 904 64) ∧ (Xi U11 904 64) ≤ 2147483647 := Xi_rgI
                  have F139 : (Xi U11 904 64) = adR S t m kind dfd vls ∧ Xi U11 904 113 = acR S t m kind dfd vls := ⟨by unfold adR; rw [if_neg n21, if_neg N79.o, if_pos C96]; exact q132, F132⟩
                  refine y_ireturn rfl rfl ?_
                  have w113 : Xi U11 904 15 = Xi S 904 15 := (show Xi U11 904 15 = Xi T9 904 15 from by rw [eU11]; exact Xi_ne (by omega)).trans ( (show Xi T9 904 15 = Xi U1 904 15 from w104.x _ _ rfl).trans ((show Xi U1 904 15 = Xi S 904 15 from by rw [eU1]; exact Xi_ne (by omega))))
                  have w114 : Xi U11 904 32 = Xi S 904 32 := (show Xi U11 904 32 = Xi T9 904 32 from by rw [eU11]; exact Xi_ne (by omega)).trans ( (show Xi T9 904 32 = Xi U1 904 32 from w104.x _ _ rfl).trans ((show Xi U1 904 32 = Xi S 904 32 from by rw [eU1]; exact Xi_ne (by omega))))
                  exact ⟨hHU11, hFU11, _, rfl, ⟨by omega, by omega⟩, (by first | (have t := K105; exact F139.1) | (have t := K74; exact F74.1) | (have t := K19; unfold adR; rw [← m3, if_pos (by omega)]) | exact F140.1), (by first | (have t := K105; exact F139.2) | (have t := K74; exact F74.2) | (have t := K19; unfold acR; rw [← m3, if_pos (by omega)]; omega) | exact F140.2)⟩
          · refine y_aload_n rfl rfl ?_
            have C71 : Xi S 914 (nmR S t m).toNat = 5 ∧ blR S kind (Xi S 921 (Xi S 915 (nmR S t m).toNat).toNat) = 1 ∧ (dfd ≠ 0 ∨ Xi S 924 (Xi S 915 (nmR S t m).toNat).toNat = 0) := ⟨by omega, by omega, by first | (have t := d67; exact Or.inr (by omega)) | exact Or.inl (by omega)⟩
            refine y_iload rfl rfl ?_
            refine y_pfi rfl rfl rfl rfl ?_
            obtain ⟨U12, eU12⟩ : ∃ T : sS, T = uI U1 904 113 (Int32.ofInt (Xi U1 915 ((z4).toNat))) := ⟨_, rfl⟩
            rw [← eU12]
            have hHU12 : RI U12 := by rw [eU12]; exact RI_w hHU1
            have hFU12 : FR md_mo_adjective__p S U12 := by rw [eU12]; exact FR.wI hFU1 (mdf_i (r := (904, 905, 113, 114)) (List.mem_of_getElem? (i := 1) rfl) (inR_i (by omega) (by omega) (by omega) (by omega)))
            have w115 : Xi U12 904 113 = (Xi U1 915 ((z4).toNat)) := by rw [eU12]; exact Xi_same (by unfold rg; omega)
            have K74 : True := trivial
            have F74 : (1 : Int) = adR S t m kind dfd vls ∧ Xi U12 904 113 = acR S t m kind dfd vls := ⟨by unfold adR; rw [if_neg n21, if_pos C71], by unfold acR; rw [if_neg n21, if_pos C71, ← e27]; omega⟩
            refine y_iconst rfl ?_
            refine y_ireturn rfl rfl ?_
            have w116 : Xi U12 904 15 = Xi S 904 15 := (show Xi U12 904 15 = Xi U1 904 15 from by rw [eU12]; exact Xi_ne (by omega)).trans ((show Xi U1 904 15 = Xi S 904 15 from by rw [eU1]; exact Xi_ne (by omega)))
            have w117 : Xi U12 904 32 = Xi S 904 32 := (show Xi U12 904 32 = Xi U1 904 32 from by rw [eU12]; exact Xi_ne (by omega)).trans ((show Xi U1 904 32 = Xi S 904 32 from by rw [eU1]; exact Xi_ne (by omega)))
            exact ⟨hHU12, hFU12, _, rfl, ⟨by omega, by omega⟩, (by first | (have t := K105; exact F139.1) | (have t := K74; exact F74.1) | (have t := K19; unfold adR; rw [← m3, if_pos (by omega)]) | exact F140.1), (by first | (have t := K105; exact F139.2) | (have t := K74; exact F74.2) | (have t := K19; unfold acR; rw [← m3, if_pos (by omega)]; omega) | exact F140.2)⟩
  · refine y_iconst rfl ?_
    have K19 : True := trivial
    refine y_ireturn rfl rfl ?_
    have w118 : Xi U1 904 15 = Xi S 904 15 := (show Xi U1 904 15 = Xi S 904 15 from by rw [eU1]; exact Xi_ne (by omega))
    have w119 : Xi U1 904 32 = Xi S 904 32 := (show Xi U1 904 32 = Xi S 904 32 from by rw [eU1]; exact Xi_ne (by omega))
    exact ⟨hHU1, hFU1, _, rfl, ⟨by omega, by omega⟩, (by first | (have t := K105; exact F139.1) | (have t := K74; exact F74.1) | (have t := K19; unfold adR; rw [← m3, if_pos (by omega)]) | exact F140.1), (by first | (have t := K105; exact F139.2) | (have t := K74; exact F74.2) | (have t := K19; unfold acR; rw [← m3, if_pos (by omega)]; omega) | exact F140.2)⟩
/-! one part more -/
theorem cpf_3 {f : Int → Int → Int} {z p : Int} (h : p < z) : cpf f z (z - p).toNat = (if p + 1 ≤ z then cpf f z (z - (p + 1)).toNat * f p (p + 1) else 0) + (if p + 2 ≤ z then cpf f z (z - (p + 2)).toNat * f p (p + 2) else 0) + (if p + 3 ≤ z then cpf f z (z - (p + 3)).toNat * f p (p + 3) else 0) := by
  rw [if_pos (show p + 1 ≤ z by omega)]
  by_cases h2 : p + 2 ≤ z
  · rw [if_pos h2]
    by_cases h3 : p + 3 ≤ z
    · rw [if_pos h3]
      obtain ⟨m, hm⟩ : ∃ m : Nat, (z - p).toNat = m + 3 := ⟨(z - p).toNat - 3, by omega⟩
      rw [hm]
      show cpf f z (m + 2) * f (z - (m + 3)) (z - (m + 2)) + cpf f z (m + 1) * f (z - (m + 3)) (z - (m + 1)) + cpf f z m * f (z - (m + 3)) (z - m) = _
      rw [show (z - (p + 1)).toNat = m + 2 by omega, show (z - (p + 2)).toNat = m + 1 by omega, show (z - (p + 3)).toNat = m by omega, show z - ((m : Int) + 3) = p by omega, show z - ((m : Int) + 2) = p + 1 by omega, show z - ((m : Int) + 1) = p + 2 by omega, show z - (m : Int) = p + 3 by omega]
    · rw [if_neg h3, show (z - p).toNat = 2 by omega]
      show cpf f z 1 * f (z - 2) (z - 1) + cpf f z 0 * f (z - 2) z = _
      rw [show (z - (p + 1)).toNat = 1 by omega, show (z - (p + 2)).toNat = 0 by omega, show z - 2 = p by omega, show z - 1 = p + 1 by omega, show z = p + 2 by omega]
      omega
  · rw [if_neg h2, if_neg (show ¬ p + 3 ≤ z by omega), show (z - p).toNat = 1 by omega]
    show cpf f z 0 * f (z - 1) z = _
    rw [show (z - (p + 1)).toNat = 0 by omega, show z - 1 = p by omega, show z = p + 1 by omega]
    omega
/-- the sum of the first parts of less than v words -/
def csm (f : Int → Int → Int) (z p v : Int) : Int := (if 1 < v ∧ p + 1 ≤ z then cpf f z (z - (p + 1)).toNat * f p (p + 1) else 0) + (if 2 < v ∧ p + 2 ≤ z then cpf f z (z - (p + 2)).toNat * f p (p + 2) else 0) + (if 3 < v ∧ p + 3 ≤ z then cpf f z (z - (p + 3)).toNat * f p (p + 3) else 0)
theorem csm_0 {f : Int → Int → Int} {z p : Int} : csm f z p 1 = 0 := by unfold csm; rw [if_neg (by omega), if_neg (by omega), if_neg (by omega)]; omega
theorem csm_s {f : Int → Int → Int} {z p v : Int} (h1 : 1 ≤ v ∧ v ≤ 3) (h2 : p + v ≤ z) : csm f z p (v + 1) = csm f z p v + cpf f z (z - (p + v)).toNat * f p (p + v) := by
  unfold csm
  rcases (by omega : v = 1 ∨ v = 2 ∨ v = 3) with q | q | q <;> subst q
  · rw [if_pos (show (1 : Int) < 1 + 1 ∧ p + 1 ≤ z by omega), if_neg (show ¬ ((2 : Int) < 1 + 1 ∧ p + 2 ≤ z) by omega), if_neg (show ¬ ((3 : Int) < 1 + 1 ∧ p + 3 ≤ z) by omega), if_neg (show ¬ ((1 : Int) < 1 ∧ p + 1 ≤ z) by omega), if_neg (show ¬ ((2 : Int) < 1 ∧ p + 2 ≤ z) by omega), if_neg (show ¬ ((3 : Int) < 1 ∧ p + 3 ≤ z) by omega)]
    omega
  · rw [if_pos (show (1 : Int) < 2 + 1 ∧ p + 1 ≤ z by omega), if_pos (show (2 : Int) < 2 + 1 ∧ p + 2 ≤ z by omega), if_neg (show ¬ ((3 : Int) < 2 + 1 ∧ p + 3 ≤ z) by omega), if_pos (show (1 : Int) < 2 ∧ p + 1 ≤ z by omega), if_neg (show ¬ ((2 : Int) < 2 ∧ p + 2 ≤ z) by omega), if_neg (show ¬ ((3 : Int) < 2 ∧ p + 3 ≤ z) by omega)]
    omega
  · rw [if_pos (show (1 : Int) < 3 + 1 ∧ p + 1 ≤ z by omega), if_pos (show (2 : Int) < 3 + 1 ∧ p + 2 ≤ z by omega), if_pos (show (3 : Int) < 3 + 1 ∧ p + 3 ≤ z by omega), if_pos (show (1 : Int) < 3 ∧ p + 1 ≤ z by omega), if_pos (show (2 : Int) < 3 ∧ p + 2 ≤ z by omega), if_neg (show ¬ ((3 : Int) < 3 ∧ p + 3 ≤ z) by omega)]
    omega
theorem csm_e {f : Int → Int → Int} {z p v : Int} (h : p < z) (h1 : 1 ≤ v) (hv : 3 < v ∨ z < p + v) : csm f z p v = cpf f z (z - p).toNat := by
  rw [cpf_3 h]
  unfold csm
  have c : ∀ i : Int, 1 ≤ i → i ≤ 3 → ((i < v ∧ p + i ≤ z) ↔ p + i ≤ z) := fun i a b => ⟨fun q => q.2, fun q => ⟨by omega, q⟩⟩
  simp only [c 1 (by omega) (by omega), c 2 (by omega) (by omega), c 3 (by omega) (by omega)]
theorem cpf_nn {f : Int → Int → Int} {z : Int} (h : ∀ a b, 0 ≤ f a b) : ∀ m : Nat, 0 ≤ cpf f z m ∧ 0 ≤ cpf f z (m + 1) ∧ 0 ≤ cpf f z (m + 2)
  | 0 => by
    have c1 : 0 ≤ cpf f z 1 := Int.mul_nonneg (by show (0 : Int) ≤ 1; omega) (h _ _)
    exact ⟨by show (0 : Int) ≤ 1; omega, c1, Int.add_nonneg (Int.mul_nonneg c1 (h _ _)) (Int.mul_nonneg (by show (0 : Int) ≤ 1; omega) (h _ _))⟩
  | m + 1 => by
    obtain ⟨a, b, c⟩ := cpf_nn (z := z) h m
    exact ⟨b, c, Int.add_nonneg (Int.add_nonneg (Int.mul_nonneg c (h _ _)) (Int.mul_nonneg b (h _ _))) (Int.mul_nonneg a (h _ _))⟩
theorem csm_nn {f : Int → Int → Int} {z p v : Int} (h : ∀ a b, 0 ≤ f a b) : 0 ≤ csm f z p v := by
  unfold csm
  have n : ∀ (c : Prop) [Decidable c] (m : Nat) (a b : Int), 0 ≤ (if c then cpf f z m * f a b else 0) := fun c _ m a b => by
    split
    · exact Int.mul_nonneg (cpf_nn h m).1 (h _ _)
    · omega
  exact Int.add_nonneg (Int.add_nonneg (n _ _ _ _) (n _ _ _ _)) (n _ _ _ _)
/-- nothing found with less than v words: the first part has at least v -/
theorem csm_z {f : Int → Int → Int} {z p v i : Int} (h : ∀ a b, 0 ≤ f a b) (e : csm f z p v = 0) (h1 : 1 ≤ i ∧ i ≤ 3) (h2 : i < v) (h3 : p + i ≤ z) : cpf f z (z - (p + i)).toNat * f p (p + i) = 0 := by
  have n : ∀ (c : Prop) [Decidable c] (m : Nat) (a b : Int), 0 ≤ (if c then cpf f z m * f a b else 0) := fun c _ m a b => by
    split
    · exact Int.mul_nonneg (cpf_nn h m).1 (h _ _)
    · omega
  unfold csm at e
  have a1 := n (1 < v ∧ p + 1 ≤ z) (z - (p + 1)).toNat p (p + 1)
  have a2 := n (2 < v ∧ p + 2 ≤ z) (z - (p + 2)).toNat p (p + 2)
  have a3 := n (3 < v ∧ p + 3 ≤ z) (z - (p + 3)).toNat p (p + 3)
  rcases (by omega : i = 1 ∨ i = 2 ∨ i = 3) with q | q | q <;> subst q
  · have t : (if 1 < v ∧ p + 1 ≤ z then cpf f z (z - (p + 1)).toNat * f p (p + 1) else 0) = 0 := by omega
    rw [if_pos ⟨h2, h3⟩] at t; exact t
  · have t : (if 2 < v ∧ p + 2 ≤ z then cpf f z (z - (p + 2)).toNat * f p (p + 2) else 0) = 0 := by omega
    rw [if_pos ⟨h2, h3⟩] at t; exact t
  · have t : (if 3 < v ∧ p + 3 ≤ z then cpf f z (z - (p + 3)).toNat * f p (p + 3) else 0) = 0 := by omega
    rw [if_pos ⟨h2, h3⟩] at t; exact t
theorem mul_pos' {a b : Int} (ha : 0 < a) (hb : 0 < b) : 0 < a * b := Int.mul_pos ha hb
theorem nxt_v {f : Int → Int → Int} {z p v : Int} (h : ∀ a b, 0 ≤ f a b) (h1 : 1 ≤ v ∧ v ≤ 3) (h2 : p + v ≤ z) (e : csm f z p v = 0) (hf : 0 < f p (p + v)) (hc : 0 < cpf f z (z - (p + v)).toNat) : nxt f z p = v := by
  have no : ∀ i : Int, 1 ≤ i → i < v → ¬ (p + i ≤ z ∧ 0 < f p (p + i) ∧ 0 < cpf f z (z - (p + i)).toNat) := fun i a b q => by
    have t := csm_z h e (i := i) (by omega) b q.1
    have u := mul_pos' q.2.2 q.2.1
    omega
  unfold nxt
  rcases (by omega : v = 1 ∨ v = 2 ∨ v = 3) with q | q | q <;> subst q
  · rw [if_pos ⟨h2, hf, hc⟩]
  · rw [if_neg (no 1 (by omega) (by omega)), if_pos ⟨h2, hf, hc⟩]
  · rw [if_neg (no 1 (by omega) (by omega)), if_neg (no 2 (by omega) (by omega))]
theorem RI_cpI {S : sS} {a b s t n : Nat} (h : RI S) : RI (cpI S a b s t n) := h
theorem RI_cpJ {S : sS} {a b s t n : Nat} (h : RI S) : RI (cpJ S a b s t n) := h
section
variable {f : Nat} {lay : Nat → Nat × Nat} {d pc : Nat} {q : mT} {L : List (Nat × Value)} {st : List Value} {S : sS} {Q : pst}
theorem y_acp {ix na : Nat} {md : mT} {a b : Nat} {x y z : Int} {S2 : sS} (hc : lk q.2.2.2.2.2 pc = some (.invokestatic ix)) (hk : kLs q.2.2.2.2.1 ix = some (9, md, na)) (hs : Nat.ble (st.map (fun v => v.category)).sum 8 = true) (he : acp lay S a (Int32.ofInt x) b (Int32.ofInt y) (Int32.ofInt z) = some S2) (h : Pl f lay d q (pc + 3) L st S2 Q) : Pl f lay d q pc L (iv z :: iv y :: .ref b :: iv x :: .ref a :: st) S Q := by
  intro m hlt lv ha G r S3 e
  cases m with
  | zero => unfold run at e; cases e
  | succ m =>
    unfold run at e
    rw [hc] at e
    simp only [hk] at e
    have e2 : (bif Nat.ble (st.map (fun v => v.category)).sum 8 then (match acp lay S a (Int32.ofInt x) b (Int32.ofInt y) (Int32.ofInt z) with
      | some S1 => run lay (fLs q.2.2.2.2.1) (cLs q.2.2.2.2.1) (kLs q.2.2.2.2.1) q.2.2.1 q.2.2.2.1 (evd lay G d) q.2.2.2.2.2 m (pc + 3) lv st S1
      | none => none) else none) = some (r, S3) := e
    rw [hs, he] at e2
    exact h m (by omega) lv ha G r S3 e2
end
/-! parted -/
theorem nxt_rg {f : Int → Int → Int} {z p : Int} : 1 ≤ nxt f z p ∧ nxt f z p ≤ 3 := by
  unfold nxt
  split
  · omega
  · split <;> omega
theorem prs_f {f g : Int → Int → Int} {z : Int} : ∀ (n m : Nat) (p : Int), z - p ≤ n → z - p ≤ m → prs f g z n p = prs f g z m p
  | 0, 0, _, _, _ => rfl
  | 0, m + 1, p, h1, h2 => by
    show [] = (if z ≤ p then [] else _)
    rw [if_pos (by omega)]
  | n + 1, 0, p, h1, h2 => by
    show (if z ≤ p then [] else _) = []
    rw [if_pos (by omega)]
  | n + 1, m + 1, p, h1, h2 => by
    show (if z ≤ p then [] else g p (p + nxt f z p) :: prs f g z n (p + nxt f z p)) = (if z ≤ p then [] else g p (p + nxt f z p) :: prs f g z m (p + nxt f z p))
    have r := nxt_rg (f := f) (z := z) (p := p)
    rw [prs_f n m (p + nxt f z p) (by omega) (by omega)]
theorem prs_c {f g : Int → Int → Int} {z p v : Int} (h : p < z) (h5 : z - p ≤ 6) (hn : nxt f z p = v) : prs f g z 6 p = g p (p + v) :: prs f g z 6 (p + v) := by
  show (if z ≤ p then [] else g p (p + nxt f z p) :: prs f g z 5 (p + nxt f z p)) = _
  have r := nxt_rg (f := f) (z := z) (p := p)
  rw [if_neg (by omega), hn, prs_f 5 6 (p + v) (by omega) (by omega)]
/-- what is kept of readings so far: cc found since S at level m -/
def KPD (S U : sS) (p z k m : Int) (f g : Int → Int → Int) (cc : Int) : Prop :=
  Xi U 904 109 = Xi S 904 109 + cc ∧ (∀ i : Nat, (i : Int) < m → Xi U 968 i = Xi S 968 i) ∧
  ((Xi S 904 109 ≠ 0 ∨ cc = 0) → Xi U 904 110 = Xi S 904 110 ∧ Xi U 904 112 = Xi S 904 112 ∧ ∀ j, Xi U 967 j = Xi S 967 j) ∧
  (Xi S 904 109 = 0 → 0 < cc → Xi U 904 110 = k ∧ Xi U 904 112 = m + (prs f g z 6 p).length ∧ (∀ i : Nat, (i : Int) < m → Xi U 967 i = Xi S 968 i) ∧ ∀ i : Nat, i < (prs f g z 6 p).length → Xi U 967 (m.toNat + i) = (prs f g z 6 p).getD i 0)
theorem kpd_0 {S U : sS} {p z k m : Int} {f g : Int → Int → Int} (a : ∀ j, Xi U 904 j = Xi S 904 j) (b : ∀ j, Xi U 968 j = Xi S 968 j) (c : ∀ j, Xi U 967 j = Xi S 967 j) : KPD S U p z k m f g 0 :=
  ⟨by rw [a]; omega, fun i _ => b i, fun _ => ⟨a _, a _, c⟩, fun _ q => by omega⟩
theorem kpd_k {S U V : sS} {p z k m cc : Int} {f g : Int → Int → Int} (h : KPD S U p z k m f g cc) (a : Xi V 904 109 = Xi U 904 109 ∧ Xi V 904 110 = Xi U 904 110 ∧ Xi V 904 112 = Xi U 904 112) (b : ∀ i : Nat, (i : Int) < m → Xi V 968 i = Xi U 968 i) (c : ∀ j, Xi V 967 j = Xi U 967 j) : KPD S V p z k m f g cc := by
  obtain ⟨h1, h2, h3, h4⟩ := h
  refine ⟨a.1.trans h1, fun i hi => (b i hi).trans (h2 i hi), fun q => ?_, fun q w => ?_⟩
  · obtain ⟨x, y, u⟩ := h3 q
    exact ⟨a.2.1.trans x, a.2.2.trans y, fun j => (c j).trans (u j)⟩
  · obtain ⟨x, y, u, v⟩ := h4 q w
    exact ⟨a.2.1.trans x, a.2.2.trans y, fun i hi => (c i).trans (u i hi), fun i hi => (c _).trans (v i hi)⟩
/-- one recursion more -/
theorem kpd_s {S U W V : sS} {p z k m v cc C A : Int} {f g : Int → Int → Int} (h : KPD S U p z k m f g cc) (e : W = uI U 968 m.toNat (Int32.ofInt A)) (r : KPD W V (p + v) z k (m + 1) f g C) (hA : A = g p (p + v)) (hr : rg A) (hm : 0 ≤ m) (h0 : 0 ≤ Xi S 904 109) (hC : 0 ≤ C) (hc : 0 ≤ cc) (hp : p < z) (h5 : z - p ≤ 6) (hn : cc = 0 → 0 < C → nxt f z p = v) : KPD S V p z k m f g (cc + C) := by
  obtain ⟨h1, h2, h3, h4⟩ := h
  obtain ⟨r1, r2, r3, r4⟩ := r
  have w9 : ∀ j, Xi W 904 j = Xi U 904 j := fun j => by rw [e, Xi_ne (by omega)]
  have w7 : ∀ j, Xi W 967 j = Xi U 967 j := fun j => by rw [e, Xi_ne (by omega)]
  have w8 : ∀ i : Nat, (i : Int) < m → Xi W 968 i = Xi U 968 i := fun i hi => by rw [e, Xi_ne (by omega)]
  have w8m : Xi W 968 m.toNat = A := by rw [e]; exact Xi_same hr
  rw [w9] at r1 r3 r4
  refine ⟨by omega, fun i hi => ((r2 i (by omega)).trans (w8 i hi)).trans (h2 i hi), fun q => ?_, fun q w => ?_⟩
  · have x := r3 (by omega)
    have y := h3 (by omega)
    rw [w9, w9] at x
    exact ⟨x.1.trans y.1, x.2.1.trans y.2.1, fun j => ((x.2.2 j).trans (w7 j)).trans (y.2.2 j)⟩
  · by_cases b : cc = 0
    · have hv := hn b (by omega)
      have pc := prs_c (g := g) hp h5 hv
      obtain ⟨x1, x2, x3, x4⟩ := r4 (by omega) (by omega)
      rw [pc]
      refine ⟨x1, by rw [x2, List.length_cons]; omega, fun i hi => ?_, fun i hi => ?_⟩
      · rw [x3 i (by omega), w8 i hi]; exact h2 i hi
      · cases i with
        | zero =>
          rw [Nat.add_zero, x3 m.toNat (by omega), w8m, hA]
          rfl
        | succ i =>
          have t := x4 i (by rw [List.length_cons] at hi; omega)
          rw [show (m + 1).toNat + i = m.toNat + (i + 1) by omega] at t
          rw [t]
          rfl
    · have x := r3 (by omega)
      obtain ⟨y1, y2, y3, y4⟩ := h4 q (by omega)
      rw [w9, w9] at x
      exact ⟨x.1.trans y1, x.2.1.trans y2, fun i hi => ((x.2.2 i).trans (w7 i)).trans (y3 i hi), fun i hi => ((x.2.2 _).trans (w7 _)).trans (y4 i hi)⟩
theorem adR_nn {S : sS} {k d : Int} (h : 0 ≤ Xi S 904 32 ∧ Xi S 904 32 ≤ 12) (a b : Int) : 0 ≤ fRa S k d a b ∧ fRa S k d a b ≤ 12 := by
  unfold fRa adR
  have m : ∀ t, 0 ≤ mtR S k t ∧ mtR S k t ≤ 12 := fun t => mtR_rg h
  split
  · omega
  · split
    · omega
    · split
      · exact m _
      · omega
theorem adR_b {S : sS} {k d a b : Int} (h : 0 ≤ Xi S 904 32 ∧ Xi S 904 32 ≤ 12) : 0 ≤ fRa S k d a b ∧ fRa S k d a b ≤ 12 := adR_nn h a b
theorem nn117 {S : sS} {k d : Int} (h : 0 ≤ Xi S 904 32 ∧ Xi S 904 32 ≤ 12) (a b : Int) : 0 ≤ fRa S k d a b := (adR_nn h a b).1
theorem c117 {S : sS} {k d z : Int} {m : Nat} (h : 0 ≤ Xi S 904 32 ∧ Xi S 904 32 ≤ 12) : 0 ≤ cpf (fRa S k d) z m := (cpf_nn (nn117 h) m).1
theorem d117 {S : sS} {k d z p w v : Int} {m : Nat} (h : 0 ≤ Xi S 904 32 ∧ Xi S 904 32 ≤ 12) (hv : 0 ≤ v) : 0 ≤ csm (fRa S k d) z p w + v * cpf (fRa S k d) z m := Int.add_nonneg (csm_nn (nn117 h)) (Int.mul_nonneg hv (c117 h))
theorem csm_l {f : Int → Int → Int} {z p v w C : Int} (h : ∀ a b, 0 ≤ f a b) (hw : 0 ≤ w) (hC : 0 ≤ C) (e : csm f z p v + w * C = 0) : csm f z p v = 0 := by
  have a := csm_nn (z := z) (p := p) (v := v) h
  have b := Int.mul_nonneg hw hC
  omega
theorem cp_i {S T : sS} (e : T = cpI S 968 967 (0 : Int).toNat (0 : Int).toNat (6 : Int).toNat) (i : Nat) (hi : (i : Int) < 6) : Xi T 967 i = Xi S 968 i := by
  rw [e]
  unfold cpI Xi
  show (va_up S.1 967 (va_cpy (S.1 968) (S.1 967) 0 0 6) 967 i).toInt = _
  have u : va_up S.1 967 (va_cpy (S.1 968) (S.1 967) 0 0 6) 967 i = va_cpy (S.1 968) (S.1 967) 0 0 6 i := by unfold va_up; simp
  have c : va_cpy (S.1 968) (S.1 967) 0 0 6 i = S.1 968 i := by
    unfold va_cpy
    simp
    omega
  rw [u, c]
theorem kpd_n {S S1 : sS} {p z k m : Int} {f g : Int → Int → Int} (e : S1 = uI S 904 109 (Int32.ofInt (Xi S 904 109 + 1))) (h : Xi S 904 109 ≠ 0) (hb : 0 ≤ Xi S 904 109 ∧ Xi S 904 109 + 1 ≤ 2147483647) : KPD S S1 p z k m f g 1 :=
  ⟨by rw [e]; exact Xi_same (by unfold rg; omega), fun i _ => by rw [e, Xi_ne (by omega)], fun _ => ⟨by rw [e, Xi_ne (by omega)], by rw [e, Xi_ne (by omega)], fun j => by rw [e, Xi_ne (by omega)]⟩, fun q => absurd q h⟩
theorem kpd_b {S A B C S1 : sS} {p z k m w : Int} {f g : Int → Int → Int} (e1 : A = uI S 904 110 (Int32.ofInt k)) (e2 : B = uI A 904 112 (Int32.ofInt m)) (F : FR [(967, 968, 0, 100000)] B C) (c : ∀ i : Nat, (i : Int) < 6 → Xi C 967 i = Xi B 968 i) (e3 : S1 = uI C 904 109 (Int32.ofInt (w + 1))) (hw : w = 0 ∧ Xi S 904 109 = 0) (hk : -1 ≤ k ∧ k ≤ 15) (hm : 0 ≤ m ∧ m ≤ 6) (pp : prs f g z 6 p = []) : KPD S S1 p z k m f g 1 := by
  have s : ∀ i j : Nat, ¬ (i = 904 ∧ j = 109) → Xi S1 i j = Xi C i j := fun i j h => by rw [e3, Xi_ne (by omega)]
  have b : ∀ i j : Nat, i ≠ 904 → Xi B i j = Xi S i j := fun i j h => by rw [e2, Xi_ne (by omega), e1, Xi_ne (by omega)]
  refine ⟨?_, fun i hi => ?_, fun q => by omega, fun _ _ => ⟨?_, ?_, fun i hi => ?_, fun i hi => ?_⟩⟩
  · rw [e3, hw.1, hw.2]; exact Xi_same (by unfold rg; omega)
  · rw [s _ _ (by omega), (F.cx 968 rfl i).1, b _ _ (by omega)]
  · rw [s _ _ (by omega), (F.cx 904 rfl _).1, e2, Xi_ne (by omega), e1]; exact Xi_same (by unfold rg; omega)
  · rw [s _ _ (by omega), (F.cx 904 rfl _).1, e2, pp]
    refine (Xi_same (by unfold rg; omega)).trans ?_
    show m = m + ((0 : Nat) : Int)
    omega
  · rw [s _ _ (by omega), c i (by omega), b _ _ (by omega)]
  · rw [pp] at hi; exact absurd hi (Nat.not_lt_zero _)
theorem csm_le {f : Int → Int → Int} {z p v : Int} (h : ∀ a b, 0 ≤ f a b) (hp : p < z) (h1 : 1 ≤ v) (h4 : v ≤ 4) : csm f z p v ≤ cpf f z (z - p).toNat := by
  have up : ∀ u : Int, 1 ≤ u → u ≤ 3 → p + u ≤ z → csm f z p u ≤ csm f z p (u + 1) := fun u a b c => by
    rw [csm_s ⟨a, b⟩ c]
    have t := Int.mul_nonneg (cpf_nn (z := z) h (z - (p + u)).toNat).1 (h p (p + u))
    omega
  have fin : ∀ u : Int, 1 ≤ u → (3 < u ∨ z < p + u) → csm f z p u ≤ cpf f z (z - p).toNat := fun u a b => by rw [csm_e hp a b]; exact Int.le_refl _
  have st : ∀ u : Int, 1 ≤ u → u ≤ 3 → csm f z p (u + 1) ≤ cpf f z (z - p).toNat → csm f z p u ≤ cpf f z (z - p).toNat := fun u a b c => by
    by_cases q : p + u ≤ z
    · exact Int.le_trans (up u a b q) c
    · exact fin u a (Or.inr (by omega))
  have c4 := fin 4 (by omega) (Or.inl (by omega))
  have c3 := st 3 (by omega) (by omega) c4
  have c2 := st 2 (by omega) (by omega) c3
  have c1 := st 1 (by omega) (by omega) c2
  rcases (by omega : v = 1 ∨ v = 2 ∨ v = 3 ∨ v = 4) with q | q | q | q <;> subst q
  · exact c1
  · exact c2
  · exact c3
  · exact c4
theorem kp_b {S T : sS} {f : Int → Int → Int} {z p v w M : Int} (h : Xi T 904 109 = Xi S 904 109 + (csm f z p v + w * cpf f z (z - (p + v)).toNat)) (hs : 0 ≤ Xi S 904 109 ∧ Xi S 904 109 + cpf f z (z - p).toNat ≤ M) (hw : 0 ≤ w ∧ w < f p (p + v)) (nn : ∀ a b, 0 ≤ f a b) (hv : 1 ≤ v ∧ v ≤ 3) (hz : p + v ≤ z) : 0 ≤ Xi T 904 109 ∧ Xi T 904 109 + cpf f z (z - (p + v)).toNat ≤ M := by
  have l := csm_le (v := v + 1) nn (by omega : p < z) (by omega) (by omega)
  rw [csm_s hv hz] at l
  have C := (cpf_nn (z := z) nn (z - (p + v)).toNat).1
  have a := csm_nn (z := z) (p := p) (v := v) nn
  have b := Int.mul_nonneg hw.1 C
  have m : (w + 1) * cpf f z (z - (p + v)).toNat ≤ f p (p + v) * cpf f z (z - (p + v)).toNat := Int.mul_le_mul_of_nonneg_right (by omega) C
  rw [Int.add_mul, Int.one_mul, Int.mul_comm (f p (p + v))] at m
  omega
end
