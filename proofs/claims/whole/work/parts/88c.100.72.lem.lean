/-! WHAT IS READ, as functions of the bytes: letters, words, blanks, numbers, texts -/
def lt7 (b : Int) : Int := if 97 ≤ b ∧ b ≤ 122 then b - 96 else if 65 ≤ b ∧ b ≤ 90 then b - 64 else 0
theorem lt7_k : ∀ n : Fin 256, (if 0 < (n.val : Int) - 128 ∧ 1 ≤ iorF ((n.val : Int) - 128) 32 - 97 + 1 ∧ iorF ((n.val : Int) - 128) 32 - 97 + 1 ≤ 26 then iorF ((n.val : Int) - 128) 32 - 97 + 1 else 0) = lt7 ((n.val : Int) - 128) := by decide +kernel
theorem lt7_y {b : Int} (h : -128 ≤ b ∧ b ≤ 127) (h0 : 0 < b) (h1 : 1 ≤ iorF b 32 - 97 + 1) (h2 : iorF b 32 - 97 + 1 ≤ 26) : iorF b 32 - 97 + 1 = lt7 b := by
  have t := lt7_k ⟨(b + 128).toNat, by omega⟩
  rw [show (((b + 128).toNat : Nat) : Int) = b + 128 by omega, show b + 128 - 128 = b by omega, if_pos ⟨h0, h1, h2⟩] at t
  exact t
theorem lt7_n {b : Int} (h : -128 ≤ b ∧ b ≤ 127) (hn : 0 < b → 1 ≤ iorF b 32 - 97 + 1 → iorF b 32 - 97 + 1 ≤ 26 → False) : 0 = lt7 b := by
  have t := lt7_k ⟨(b + 128).toNat, by omega⟩
  rw [show (((b + 128).toNat : Nat) : Int) = b + 128 by omega, show b + 128 - 128 = b by omega, if_neg (fun q => hn q.1 q.2.1 q.2.2)] at t
  exact t
theorem lt7_r (b : Int) : 0 ≤ lt7 b ∧ lt7 b ≤ 26 := by
  unfold lt7
  split
  · omega
  · split <;> omega
theorem lt7_l {c : Int} (h : ltr c = 1) : lt7 c = sml c - 96 ∧ 1 ≤ lt7 c := by
  have t := ltr1 h
  unfold sml at t ⊢
  unfold lt7
  split at t
  · rw [if_neg (by omega), if_pos (by omega), if_pos (by omega)]; omega
  · rw [if_pos (by omega), if_neg (by omega)]; omega
theorem lt7_0 {c : Int} (h : ltr c = 0) : lt7 c = 0 := by
  unfold ltr at h
  split at h
  · exact absurd h (by decide)
  · rename_i q
    unfold sml at q
    unfold lt7
    split at q
    · rw [if_neg (by omega), if_neg (by omega)]
    · rw [if_neg (by omega), if_neg (by omega)]
/-- where the letters from p on end -/
def weF (B : Nat → Int) (e : Int) : Nat → Int → Int
  | 0, p => p
  | f + 1, p => if p < e ∧ lt7 (B p.toNat) ≠ 0 then weF B e f (p + 1) else p
def we7 (B : Nat → Int) (e p : Int) : Int := weF B e (e - p).toNat p
theorem we7_s {B : Nat → Int} {e p : Int} (h : p < e) (hl : lt7 (B p.toNat) ≠ 0) : we7 B e p = we7 B e (p + 1) := by
  unfold we7
  rw [show (e - p).toNat = (e - (p + 1)).toNat + 1 by omega]
  show (if p < e ∧ lt7 (B p.toNat) ≠ 0 then weF B e (e - (p + 1)).toNat (p + 1) else p) = _
  rw [if_pos ⟨h, hl⟩]
theorem we7_e {B : Nat → Int} {e p : Int} (h : e ≤ p) : we7 B e p = p := by
  unfold we7
  rw [show (e - p).toNat = 0 by omega]
  rfl
theorem we7_n {B : Nat → Int} {e p : Int} (h : lt7 (B p.toNat) = 0) : we7 B e p = p := by
  unfold we7
  cases (e - p).toNat with
  | zero => rfl
  | succ f =>
    show (if p < e ∧ lt7 (B p.toNat) ≠ 0 then _ else p) = p
    rw [if_neg (fun q => q.2 h)]
theorem weF_le {B : Nat → Int} {e : Int} : ∀ (f : Nat) (p : Int), p ≤ weF B e f p ∧ (p ≤ e → weF B e f p ≤ e)
  | 0, p => ⟨Int.le_refl p, fun h => h⟩
  | f + 1, p => by
    show p ≤ (if p < e ∧ lt7 (B p.toNat) ≠ 0 then weF B e f (p + 1) else p) ∧ (p ≤ e → (if p < e ∧ lt7 (B p.toNat) ≠ 0 then weF B e f (p + 1) else p) ≤ e)
    have t := weF_le (B := B) (e := e) f (p + 1)
    split
    · exact ⟨by omega, fun _ => t.2 (by omega)⟩
    · exact ⟨Int.le_refl p, fun h => h⟩
/-- a word's code: 27 for the class, 32 for the reference -/
def c27 (B : Nat → Int) (f : Nat) : Nat → Int
  | 0 => 0
  | n + 1 => c27 B f n * 27 + lt7 (B (f + n))
def c32 (B : Nat → Int) (f : Nat) : Nat → Int
  | 0 => 0
  | n + 1 => c32 B f n * 32 + lt7 (B (f + n))
theorem c27_s {B : Nat → Int} {f v : Int} (h0 : 0 ≤ f) (h : f ≤ v) : c27 B f.toNat (v + 1 - f).toNat = c27 B f.toNat (v - f).toNat * 27 + lt7 (B v.toNat) := by
  rw [show (v + 1 - f).toNat = (v - f).toNat + 1 by omega]
  show _ * 27 + lt7 (B (f.toNat + (v - f).toNat)) = _
  rw [show f.toNat + (v - f).toNat = v.toNat by omega]
theorem c27_r {B : Nat → Int} {f : Nat} : ∀ n : Nat, 0 ≤ c27 B f n ∧ c27 B f n < 27 ^ n
  | 0 => ⟨Int.le_refl 0, by show (0 : Int) < 27 ^ 0; decide⟩
  | n + 1 => by
    have t := c27_r (B := B) (f := f) n
    have u := lt7_r (B (f + n))
    show 0 ≤ c27 B f n * 27 + lt7 (B (f + n)) ∧ c27 B f n * 27 + lt7 (B (f + n)) < 27 ^ (n + 1)
    rw [Int.pow_succ]
    omega
theorem c32_r {B : Nat → Int} {f : Nat} : ∀ n : Nat, 0 ≤ c32 B f n ∧ c32 B f n < 32 ^ n
  | 0 => ⟨Int.le_refl 0, by show (0 : Int) < 32 ^ 0; decide⟩
  | n + 1 => by
    have t := c32_r (B := B) (f := f) n
    have u := lt7_r (B (f + n))
    show 0 ≤ c32 B f n * 32 + lt7 (B (f + n)) ∧ c32 B f n * 32 + lt7 (B (f + n)) < 32 ^ (n + 1)
    rw [Int.pow_succ]
    omega
theorem pw27 {n : Nat} (h : n ≤ 13) : (27 : Int) ^ n ≤ 4052555153018976267 := by
  rcases (by omega : n = 0 ∨ n = 1 ∨ n = 2 ∨ n = 3 ∨ n = 4 ∨ n = 5 ∨ n = 6 ∨ n = 7 ∨ n = 8 ∨ n = 9 ∨ n = 10 ∨ n = 11 ∨ n = 12 ∨ n = 13) with rfl | rfl | rfl | rfl | rfl | rfl | rfl | rfl | rfl | rfl | rfl | rfl | rfl | rfl <;> decide
theorem pw32 {n : Nat} (h : n ≤ 12) : (32 : Int) ^ n ≤ 1152921504606846976 := by
  rcases (by omega : n = 0 ∨ n = 1 ∨ n = 2 ∨ n = 3 ∨ n = 4 ∨ n = 5 ∨ n = 6 ∨ n = 7 ∨ n = 8 ∨ n = 9 ∨ n = 10 ∨ n = 11 ∨ n = 12) with rfl | rfl | rfl | rfl | rfl | rfl | rfl | rfl | rfl | rfl | rfl | rfl | rfl <;> decide
/-- at most twelve letters of it -/
def m12 (n : Int) : Nat := if n < 12 then n.toNat else 12
theorem c27_0 {B : Nat → Int} {f : Int} : 0 = c27 B f.toNat (m12 (f - f)) := by
  rw [Int.sub_self]
  rfl
theorem c27_m {B : Nat → Int} {f v w z : Int} (hz : z = lt7 (B v.toNat)) (h0 : 0 ≤ f) (h : f ≤ v) (hv : v - f < 12) (e : w = c27 B f.toNat (m12 (v - f))) : w * 27 + z = c27 B f.toNat (m12 (v + 1 - f)) := by
  subst hz
  have a : m12 (v - f) = (v - f).toNat := by unfold m12; rw [if_pos hv]
  have b : m12 (v + 1 - f) = (v + 1 - f).toNat := by
    unfold m12
    split
    · rfl
    · omega
  rw [b, c27_s h0 h, e, a]
theorem c27_l {B : Nat → Int} {f v w : Int} (hv : ¬ v - f < 12) (e : w = c27 B f.toNat (m12 (v - f))) : w = c27 B f.toNat (m12 (v + 1 - f)) := by
  have a : m12 (v - f) = 12 := by unfold m12; rw [if_neg hv]
  have b : m12 (v + 1 - f) = 12 := by unfold m12; rw [if_neg (by omega)]
  rw [b, e, a]
theorem c27_d {B : Nat → Int} {f v w : Int} (hv : v - f ≤ 12) (e : w = c27 B f.toNat (m12 (v - f))) : w = c27 B f.toNat (v - f).toNat := by
  rw [e]
  unfold m12
  split
  · rfl
  · rw [show (v - f).toNat = 12 by omega]
theorem c27_g {B : Nat → Int} {f n : Nat} (h : n ≤ 12) : -9223372036854775808 ≤ c27 B f n ∧ c27 B f n < 9223372036854775808 := by
  have t := c27_r (B := B) (f := f) n
  have u := pw27 (n := n) (by omega)
  omega
theorem m12_le (n : Int) : m12 n ≤ 12 := by
  unfold m12
  split <;> omega
/-- key words: the number of the first that is that word -/
def kyF (K : Nat → Int) (c df : Int) : Nat → Int → Int
  | 0, _ => df
  | f + 1, i => if K i.toNat = c then i else kyF K c df f (i + 1)
def ky7 (K : Nat → Int) (c df : Int) : Int := kyF K c df 55 0
theorem kyF_h {K : Nat → Int} {c df v : Int} (hv : v < 55) (e : K v.toNat = c) : kyF K c df (55 - v).toNat v = v := by
  rw [show (55 - v).toNat = (55 - (v + 1)).toNat + 1 by omega]
  show (if K v.toNat = c then v else _) = v
  rw [if_pos e]
theorem kyF_s {K : Nat → Int} {c df v : Int} (hv : v < 55) (e : K v.toNat ≠ c) : kyF K c df (55 - v).toNat v = kyF K c df (55 - (v + 1)).toNat (v + 1) := by
  rw [show (55 - v).toNat = (55 - (v + 1)).toNat + 1 by omega]
  show (if K v.toNat = c then v else kyF K c df (55 - (v + 1)).toNat (v + 1)) = _
  rw [if_neg e]
theorem kyF_e {K : Nat → Int} {c df v : Int} (hv : 55 ≤ v) : kyF K c df (55 - v).toNat v = df := by
  rw [show (55 - v).toNat = 0 by omega]
  rfl
/-- closing, blanks and remarks -/
def clF (B : Nat → Int) (e : Int) : Nat → Int → Int
  | 0, _ => -1
  | f + 1, p => if B p.toNat = 93 then p else clF B e f (p + 1)
def cl7 (B : Nat → Int) (e p : Int) : Int := clF B e (e - p).toNat p
theorem cl7_s {B : Nat → Int} {e p : Int} (h : p < e) (hl : B p.toNat ≠ 93) : cl7 B e p = cl7 B e (p + 1) := by
  unfold cl7
  rw [show (e - p).toNat = (e - (p + 1)).toNat + 1 by omega]
  show (if B p.toNat = 93 then p else clF B e (e - (p + 1)).toNat (p + 1)) = _
  rw [if_neg hl]
theorem cl7_h {B : Nat → Int} {e p : Int} (h : p < e) (hl : B p.toNat = 93) : cl7 B e p = p := by
  unfold cl7
  rw [show (e - p).toNat = (e - (p + 1)).toNat + 1 by omega]
  show (if B p.toNat = 93 then p else _) = p
  rw [if_pos hl]
theorem cl7_e {B : Nat → Int} {e p : Int} (h : e ≤ p) : cl7 B e p = -1 := by
  unfold cl7
  rw [show (e - p).toNat = 0 by omega]
  rfl
theorem clF_r {B : Nat → Int} {e : Int} : ∀ (f : Nat) (p : Int), p + f ≤ e → 0 ≤ p → clF B e f p = -1 ∨ (p ≤ clF B e f p ∧ clF B e f p < e)
  | 0, _, _, _ => Or.inl rfl
  | f + 1, p, h, h0 => by
    show (if B p.toNat = 93 then p else clF B e f (p + 1)) = -1 ∨ (p ≤ (if B p.toNat = 93 then p else clF B e f (p + 1)) ∧ (if B p.toNat = 93 then p else clF B e f (p + 1)) < e)
    have t := clF_r (B := B) (e := e) f (p + 1) (by omega) (by omega)
    split
    · exact Or.inr ⟨Int.le_refl p, by omega⟩
    · omega
theorem cl7_r {B : Nat → Int} {e p : Int} (h0 : 0 ≤ p) : cl7 B e p = -1 ∨ (p ≤ cl7 B e p ∧ cl7 B e p < e) := by
  rcases Int.lt_or_le p e with h | h
  · exact clF_r _ p (by omega) h0
  · exact Or.inl (cl7_e h)
abbrev bl7 (b : Int) : Prop := b = 9 ∨ b = 10 ∨ b = 13 ∨ b = 32
def skF (B : Nat → Int) (e : Int) : Nat → Int → Int
  | 0, p => p
  | f + 1, p => if e ≤ p then p else if B p.toNat = 91 then (if cl7 B e p = -1 then p else skF B e f (cl7 B e p + 1)) else if bl7 (B p.toNat) then skF B e f (p + 1) else p
theorem skF_st {B : Nat → Int} {e : Int} : ∀ (f g : Nat) (p : Int), 0 ≤ p → e - p < f → e - p < g → skF B e f p = skF B e g p
  | 0, 0, _, _, _, _ => rfl
  | 0, g + 1, p, _, h, _ => by
    show p = if e ≤ p then p else _
    rw [if_pos (by omega)]
  | f + 1, 0, p, _, _, h => by
    show (if e ≤ p then p else _) = p
    rw [if_pos (by omega)]
  | f + 1, g + 1, p, h0, h1, h2 => by
    show (if e ≤ p then p else if B p.toNat = 91 then (if cl7 B e p = -1 then p else skF B e f (cl7 B e p + 1)) else if bl7 (B p.toNat) then skF B e f (p + 1) else p) = (if e ≤ p then p else if B p.toNat = 91 then (if cl7 B e p = -1 then p else skF B e g (cl7 B e p + 1)) else if bl7 (B p.toNat) then skF B e g (p + 1) else p)
    by_cases q : e ≤ p
    · rw [if_pos q, if_pos q]
    · rw [if_neg q, if_neg q]
      have c := cl7_r (B := B) (e := e) h0
      have a := skF_st (B := B) (e := e) f g (p + 1) (by omega) (by omega) (by omega)
      rw [a]
      by_cases k : cl7 B e p = -1
      · rw [if_pos k, if_pos k]
      · rw [if_neg k, if_neg k, skF_st (B := B) (e := e) f g (cl7 B e p + 1) (by omega) (by omega) (by omega)]
/-- the byte behind blanks and remarks -/
def sk7 (B : Nat → Int) (e p : Int) : Int := skF B e (e + 1 - p).toNat p
theorem sk7_u {B : Nat → Int} {e p : Int} (h0 : 0 ≤ p) (h : p < e) : sk7 B e p = if B p.toNat = 91 then (if cl7 B e p = -1 then p else sk7 B e (cl7 B e p + 1)) else if bl7 (B p.toNat) then sk7 B e (p + 1) else p := by
  have c := cl7_r (B := B) (e := e) h0
  unfold sk7
  rw [show (e + 1 - p).toNat = (e - p).toNat + 1 by omega]
  show (if e ≤ p then p else if B p.toNat = 91 then (if cl7 B e p = -1 then p else skF B e (e - p).toNat (cl7 B e p + 1)) else if bl7 (B p.toNat) then skF B e (e - p).toNat (p + 1) else p) = _
  rw [if_neg (by omega), skF_st (e - p).toNat (e + 1 - (p + 1)).toNat (p + 1) (by omega) (by omega) (by omega)]
  by_cases k : cl7 B e p = -1
  · rw [if_pos k, if_pos k]
  · rw [if_neg k, if_neg k, skF_st (e - p).toNat (e + 1 - (cl7 B e p + 1)).toNat (cl7 B e p + 1) (by omega) (by omega) (by omega)]
theorem sk7_e {B : Nat → Int} {e p : Int} (h : e ≤ p) : sk7 B e p = p := by
  unfold sk7
  cases (e + 1 - p).toNat with
  | zero => rfl
  | succ f =>
    show (if e ≤ p then p else _) = p
    rw [if_pos h]
theorem sk7_b {B : Nat → Int} {e p : Int} (h0 : 0 ≤ p) (h : p < e) (hb : bl7 (B p.toNat)) : sk7 B e p = sk7 B e (p + 1) := by
  rw [sk7_u h0 h, if_neg (by omega), if_pos hb]
theorem sk7_c {B : Nat → Int} {e p c : Int} (h0 : 0 ≤ p) (h : p < e) (hb : B p.toNat = 91) (hc : c = cl7 B e p) (hn : c ≠ -1) : sk7 B e p = sk7 B e (c + 1) := by
  subst hc
  rw [sk7_u h0 h, if_pos hb, if_neg hn]
theorem sk7_o {B : Nat → Int} {e p : Int} (h0 : 0 ≤ p) (h : p < e) (hb : B p.toNat = 91) (hc : -1 = cl7 B e p) : sk7 B e p = p := by
  rw [sk7_u h0 h, if_pos hb, if_pos hc.symm]
theorem sk7_n {B : Nat → Int} {e p : Int} (h0 : 0 ≤ p) (h : p < e) (hb : B p.toNat ≠ 91) (hn : ¬ bl7 (B p.toNat)) : sk7 B e p = p := by
  rw [sk7_u h0 h, if_neg hb, if_neg hn]
/-- digits -/
def deF (B : Nat → Int) (e : Int) : Nat → Int → Int
  | 0, p => p
  | f + 1, p => if p < e ∧ 48 ≤ B p.toNat ∧ B p.toNat ≤ 57 then deF B e f (p + 1) else p
def de7 (B : Nat → Int) (e p : Int) : Int := deF B e (e - p).toNat p
theorem de7_s {B : Nat → Int} {e p : Int} (h : p < e) (h1 : 48 ≤ B p.toNat) (h2 : B p.toNat ≤ 57) : de7 B e p = de7 B e (p + 1) := by
  unfold de7
  rw [show (e - p).toNat = (e - (p + 1)).toNat + 1 by omega]
  show (if p < e ∧ 48 ≤ B p.toNat ∧ B p.toNat ≤ 57 then deF B e (e - (p + 1)).toNat (p + 1) else p) = _
  rw [if_pos ⟨h, h1, h2⟩]
theorem de7_n {B : Nat → Int} {e p : Int} (h : p < e → 48 ≤ B p.toNat → B p.toNat ≤ 57 → False) : de7 B e p = p := by
  unfold de7
  cases (e - p).toNat with
  | zero => rfl
  | succ f =>
    show (if p < e ∧ 48 ≤ B p.toNat ∧ B p.toNat ≤ 57 then _ else p) = p
    rw [if_neg (fun q => h q.1 q.2.1 q.2.2)]
def dvF (B : Nat → Int) (f : Nat) : Nat → Int
  | 0 => 0
  | n + 1 => dvF B f n * 10 + (B (f + n) - 48)
def m6 (n : Int) : Nat := if n < 6 then n.toNat else 6
theorem dv_0 {B : Nat → Int} {f : Int} : 0 = dvF B f.toNat (m6 (f - f)) := by
  rw [Int.sub_self]
  rfl
theorem dv_m {B : Nat → Int} {f v w x : Int} (h0 : 0 ≤ f) (h : f ≤ v) (hv : v - f < 6) (e : w = dvF B f.toNat (m6 (v - f))) (hx : x = w * 10 + B v.toNat - 48) : x = dvF B f.toNat (m6 (v + 1 - f)) := by
  have a : m6 (v - f) = (v - f).toNat := by unfold m6; rw [if_pos hv]
  have b : m6 (v + 1 - f) = (v - f).toNat + 1 := by
    unfold m6
    split <;> omega
  rw [b, hx, e, a]
  show _ = dvF B f.toNat (v - f).toNat * 10 + (B (f.toNat + (v - f).toNat) - 48)
  rw [show f.toNat + (v - f).toNat = v.toNat by omega]
  omega
theorem dv_l {B : Nat → Int} {f v w : Int} (hv : ¬ v - f < 6) (e : w = dvF B f.toNat (m6 (v - f))) : w = dvF B f.toNat (m6 (v + 1 - f)) := by
  have a : m6 (v - f) = 6 := by unfold m6; rw [if_neg hv]
  have b : m6 (v + 1 - f) = 6 := by unfold m6; rw [if_neg (by omega)]
  rw [b, e, a]
theorem dv_d {B : Nat → Int} {f v w : Int} (hv : v - f ≤ 6) (e : w = dvF B f.toNat (m6 (v - f))) : w = dvF B f.toNat (v - f).toNat := by
  rw [e]
  unfold m6
  split
  · rfl
  · rw [show (v - f).toNat = 6 by omega]
/-- texts: where the quote is, and whether all before it may stand there -/
def teF (B : Nat → Int) (e : Int) : Nat → Int → Int
  | 0, p => p
  | f + 1, p => if p < e ∧ B p.toNat ≠ 34 then teF B e f (p + 1) else p
def te7 (B : Nat → Int) (e p : Int) : Int := teF B e (e - p).toNat p
theorem te7_s {B : Nat → Int} {e p : Int} (h : p < e) (h1 : B p.toNat ≠ 34) : te7 B e p = te7 B e (p + 1) := by
  unfold te7
  rw [show (e - p).toNat = (e - (p + 1)).toNat + 1 by omega]
  show (if p < e ∧ B p.toNat ≠ 34 then teF B e (e - (p + 1)).toNat (p + 1) else p) = _
  rw [if_pos ⟨h, h1⟩]
theorem te7_n {B : Nat → Int} {e p : Int} (h : p < e → B p.toNat = 34) : te7 B e p = p := by
  unfold te7
  cases (e - p).toNat with
  | zero => rfl
  | succ f =>
    show (if p < e ∧ B p.toNat ≠ 34 then _ else p) = p
    rw [if_neg (fun q => q.2 (h q.1))]
theorem teF_le {B : Nat → Int} {e : Int} : ∀ (f : Nat) (p : Int), p ≤ teF B e f p
  | 0, p => Int.le_refl p
  | f + 1, p => by
    show p ≤ (if p < e ∧ B p.toNat ≠ 34 then teF B e f (p + 1) else p)
    have t := teF_le (B := B) (e := e) f (p + 1)
    split
    · omega
    · exact Int.le_refl p
def gdF (B : Nat → Int) (f : Nat) : Nat → Int
  | 0 => 1
  | n + 1 => if gdF B f n = 1 ∧ 32 ≤ B (f + n) ∧ B (f + n) ≤ 126 then 1 else 0
theorem gd_y {B : Nat → Int} {f v : Int} (h0 : 0 ≤ f) (h : f ≤ v) (g : gdF B f.toNat (v - f).toNat = 1) (h1 : 32 ≤ B v.toNat) (h2 : B v.toNat ≤ 126) : gdF B f.toNat (v + 1 - f).toNat = 1 := by
  rw [show (v + 1 - f).toNat = (v - f).toNat + 1 by omega]
  show (if gdF B f.toNat (v - f).toNat = 1 ∧ 32 ≤ B (f.toNat + (v - f).toNat) ∧ B (f.toNat + (v - f).toNat) ≤ 126 then 1 else 0) = _
  rw [show f.toNat + (v - f).toNat = v.toNat by omega, if_pos ⟨g, h1, h2⟩]
theorem gd_n {B : Nat → Int} {f v : Int} (h0 : 0 ≤ f) (h : f ≤ v) (g : gdF B f.toNat (v - f).toNat = 1 → 32 ≤ B v.toNat → B v.toNat ≤ 126 → False) : gdF B f.toNat (v + 1 - f).toNat = 0 := by
  rw [show (v + 1 - f).toNat = (v - f).toNat + 1 by omega]
  show (if gdF B f.toNat (v - f).toNat = 1 ∧ 32 ≤ B (f.toNat + (v - f).toNat) ∧ B (f.toNat + (v - f).toNat) ≤ 126 then 1 else 0) = _
  rw [show f.toNat + (v - f).toNat = v.toNat by omega, if_neg (fun q => g q.1 q.2.1 q.2.2)]
theorem gd_u {B : Nat → Int} {f n : Nat} (g : gdF B f n = 0) : ∀ m : Nat, gdF B f (n + m) = 0
  | 0 => g
  | m + 1 => by
    have t := gd_u g m
    show (if gdF B f (n + m) = 1 ∧ 32 ≤ B (f + (n + m)) ∧ B (f + (n + m)) ≤ 126 then 1 else 0) = 0
    rw [t, if_neg (fun q => absurd q.1 (by decide))]
/-- is a text there, that begins behind p -/
abbrev tx7 (B : Nat → Int) (e p : Int) : Prop := te7 B e (p + 1) < e ∧ te7 B e (p + 1) - p - 1 ≤ 120 ∧ gdF B (p + 1).toNat (te7 B e (p + 1) - (p + 1)).toNat = 1
/-- the token at p: where it ends (-1: there is none), its value, what it is -/
def q7 (B : Nat → Int) (e p : Int) : Int := if lt7 (B p.toNat) ≠ 0 then (if we7 B e p - p ≤ 12 then we7 B e p else -1) else if 48 ≤ B p.toNat ∧ B p.toNat ≤ 57 then (if de7 B e p - p ≤ 6 then de7 B e p else -1) else if B p.toNat = 34 then (if tx7 B e p then te7 B e (p + 1) + 1 else -1) else if B p.toNat = 46 ∨ B p.toNat = 44 ∨ B p.toNat = 59 ∨ B p.toNat = 58 then p + 1 else -1
def v7 (B : Nat → Int) (e p : Int) : Int := if lt7 (B p.toNat) ≠ 0 then c27 B p.toNat (we7 B e p - p).toNat else if 48 ≤ B p.toNat ∧ B p.toNat ≤ 57 then dvF B p.toNat (de7 B e p - p).toNat else if B p.toNat = 34 then te7 B e (p + 1) - p - 1 else 0
def t7 (K B : Nat → Int) (e p : Int) : Int := if q7 B e p = -1 then 108 else if lt7 (B p.toNat) ≠ 0 then ky7 K (v7 B e p) 100 else if 48 ≤ B p.toNat ∧ B p.toNat ≤ 57 then 101 else if B p.toNat = 34 then 102 else if B p.toNat = 46 then 103 else if B p.toNat = 44 then 104 else if B p.toNat = 59 then 105 else 106
theorem we7_gt {B : Nat → Int} {e p : Int} (h : p < e) (hl : lt7 (B p.toNat) ≠ 0) : p < we7 B e p := by
  have t := (weF_le (B := B) (e := e) (e - (p + 1)).toNat (p + 1)).1
  rw [we7_s h hl]
  unfold we7
  omega
theorem q7_w {B : Nat → Int} {e p z : Int} (h : p < e) (hl : lt7 (B p.toNat) ≠ 0) (hz : z = (if we7 B e p = p ∨ 12 < we7 B e p - p then -1 else we7 B e p)) : z = q7 B e p := by
  have g := we7_gt h hl
  unfold q7
  rw [if_pos hl, hz]
  by_cases q : we7 B e p - p ≤ 12
  · rw [if_neg (by omega), if_pos q]
  · rw [if_pos (by omega), if_neg q]
theorem q7_d {B : Nat → Int} {e p z : Int} (hl : lt7 (B p.toNat) = 0) (h1 : 48 ≤ B p.toNat ∧ B p.toNat ≤ 57) (hz : z = (if de7 B e p - p ≤ 6 then de7 B e p else -1)) : z = q7 B e p := by
  unfold q7
  rw [if_neg (fun q => q hl), if_pos h1, hz]
theorem q7_t {B : Nat → Int} {e p z : Int} (h1 : B p.toNat = 34) (hz : z = (if tx7 B e p then te7 B e (p + 1) + 1 else -1)) : z = q7 B e p := by
  have hl : lt7 (B p.toNat) = 0 := by rw [h1]; rfl
  unfold q7
  rw [if_neg (fun q => q hl), if_neg (by omega), if_pos h1, hz]
theorem q7_p {B : Nat → Int} {e p : Int} (hl : lt7 (B p.toNat) = 0) (h1 : B p.toNat = 46 ∨ B p.toNat = 44 ∨ B p.toNat = 59 ∨ B p.toNat = 58) : p + 1 = q7 B e p := by
  unfold q7
  rw [if_neg (fun q => q hl), if_neg (by omega), if_neg (by omega), if_pos h1]
theorem q7_n {B : Nat → Int} {e p : Int} (hl : lt7 (B p.toNat) = 0) (h0 : ¬ (48 ≤ B p.toNat ∧ B p.toNat ≤ 57)) (h2 : B p.toNat ≠ 34) (h1 : ¬ (B p.toNat = 46 ∨ B p.toNat = 44 ∨ B p.toNat = 59 ∨ B p.toNat = 58)) : -1 = q7 B e p := by
  unfold q7
  rw [if_neg (fun q => q hl), if_neg h0, if_neg h2, if_neg h1]
/-- the row that was noted; the rows before it -/
def NT (S S1 : sS) (ty pl v : Int) : Prop := Xi S1 877 (Xi S 876 7).toNat = ty ∧ Xi S1 878 (Xi S 876 7).toNat = pl ∧ Xj S1 879 (Xi S 876 7).toNat = v
def KR (S T : sS) (n : Int) : Prop := ∀ r : Nat, (r : Int) < n → Xi T 877 r = Xi S 877 r ∧ Xi T 878 r = Xi S 878 r ∧ Xj T 879 r = Xj S 879 r
theorem KR.rf {S : sS} {n : Int} : KR S S n := fun _ _ => ⟨rfl, rfl, rfl⟩
theorem KR.tr {S T U : sS} {n m : Int} (h : KR S T n) (g : KR T U m) (e : n ≤ m) : KR S U n := fun r hr => by
  obtain ⟨a, b, c⟩ := h r hr
  obtain ⟨a2, b2, c2⟩ := g r (by omega)
  exact ⟨a2.trans a, b2.trans b, c2.trans c⟩
theorem KR.f {l : List rec} {S T U : sS} {n : Int} (h : KR S T n) (f : FR l T U) (e : kdis l [(877, 880)] = true) : KR S U n := fun r hr => by
  obtain ⟨a, b, c⟩ := h r hr
  have k := f.smk e
  exact ⟨(k.x 877 rfl r).trans a, (k.x 878 rfl r).trans b, (k.xj 879 rfl r).trans c⟩
theorem nt_of {S U1 U2 U3 U4 : sS} {ty pl v : Int} (h0 : 0 ≤ Xi S 876 7) (h1 : Xi S 876 7 < 5130) (e1 : U1 = uI S 877 (Xi S 876 7).toNat (Int32.ofInt ty)) (e2 : U2 = uI U1 878 (Xi S 876 7).toNat (Int32.ofInt pl)) (e3 : U3 = uJ U2 879 (Xi S 876 7).toNat (Int64.ofInt v)) (e4 : U4 = uI U3 876 7 (Int32.ofInt (Xi S 876 7 + 1)))
    (hty : 0 ≤ ty ∧ ty ≤ 108) (hpl : 0 ≤ pl ∧ pl ≤ 5000) (hv : rgL v) : NT S U4 ty pl v ∧ KR S U4 (Xi S 876 7) := by
  subst e1 e2 e3 e4
  refine ⟨⟨?_, ?_, ?_⟩, fun r hr => ⟨?_, ?_, ?_⟩⟩
  · rw [Xi_ne (by omega), Xi_J, Xi_ne (by omega)]; exact Xi_same ⟨by omega, by omega⟩
  · rw [Xi_ne (by omega), Xi_J]; exact Xi_same ⟨by omega, by omega⟩
  · rw [Xj_I]; exact Xj_same hv
  · rw [Xi_ne (by omega), Xi_J, Xi_ne (by omega), Xi_ne (by omega)]
  · rw [Xi_ne (by omega), Xi_J, Xi_ne (by omega), Xi_ne (by omega)]
  · rw [Xj_I, Xj_ne (by omega), Xj_I, Xj_I]
/-- the byte behind: t7, v7 at a row's place -/
def RW7 (S : sS) (ts : Nat) (r : Nat) : Prop := 0 ≤ Xi S 878 r ∧ Xi S 878 r < Xi S 876 5 ∧ Xi S 877 r = t7 (Xj S 880) (Xi S ts) (Xi S 876 5) (Xi S 878 r) ∧ (q7 (Xi S ts) (Xi S 876 5) (Xi S 878 r) ≠ -1 → Xj S 879 r = v7 (Xi S ts) (Xi S 876 5) (Xi S 878 r))
theorem gd_0 {B : Nat → Int} {f : Int} : gdF B f.toNat (f - f).toNat = 1 := by
  rw [Int.sub_self]
  rfl
theorem tx_b {B : Nat → Int} {e f v : Int} (hc : te7 B e (f + 1) = te7 B e v) (h0 : 0 ≤ f) (hv : f < v) (hve : v < e) (h34 : B v.toNat ≠ 34) (hb : 32 ≤ B v.toNat → B v.toNat ≤ 126 → False) : -1 = if tx7 B e f then te7 B e (f + 1) + 1 else -1 := by
  rw [if_neg]
  intro q
  obtain ⟨_, _, g⟩ := q
  have a := gd_n (B := B) (f := f + 1) (v := v) (by omega) (by omega) (fun _ => hb)
  have l : v + 1 ≤ te7 B e (f + 1) := by
    rw [hc.trans (te7_s hve h34)]
    exact teF_le _ _
  have u := gd_u a (te7 B e (f + 1) - (v + 1)).toNat
  rw [show (v + 1 - (f + 1)).toNat + (te7 B e (f + 1) - (v + 1)).toNat = (te7 B e (f + 1) - (f + 1)).toNat by omega, g] at u
  exact absurd u (by decide)
theorem tx_z {B : Nat → Int} {e f v : Int} (hc : te7 B e (f + 1) = v) (h : e ≤ v ∨ 120 < v - f - 1) : -1 = if tx7 B e f then te7 B e (f + 1) + 1 else -1 := by
  rw [if_neg]
  intro q
  obtain ⟨a, b, _⟩ := q
  omega
theorem tx_y {B : Nat → Int} {e f v : Int} (hc : te7 B e (f + 1) = v) (g : gdF B (f + 1).toNat (v - (f + 1)).toNat = 1) (h1 : v < e) (h2 : v - f - 1 ≤ 120) : v + 1 = if tx7 B e f then te7 B e (f + 1) + 1 else -1 := by
  rw [if_pos, hc]
  refine ⟨by omega, by omega, ?_⟩
  rw [hc]
  exact g
theorem kyF_r {K : Nat → Int} {c df : Int} : ∀ (f : Nat) (i : Int), 0 ≤ i → kyF K c df f i = df ∨ (i ≤ kyF K c df f i ∧ kyF K c df f i < i + f)
  | 0, _, _ => Or.inl rfl
  | f + 1, i, h => by
    show (if K i.toNat = c then i else kyF K c df f (i + 1)) = df ∨ (i ≤ (if K i.toNat = c then i else kyF K c df f (i + 1)) ∧ (if K i.toNat = c then i else kyF K c df f (i + 1)) < i + ((f + 1 : Nat) : Int))
    have t := kyF_r (K := K) (c := c) (df := df) f (i + 1) (by omega)
    split <;> omega
theorem nt_w {S S1 : sS} {K B : Nat → Int} {e p z : Int} (h : p < e) (hl : lt7 (B p.toNat) ≠ 0) (hz : z = (if we7 B e p = p ∨ 12 < we7 B e p - p then -1 else we7 B e p)) (hn : z ≠ -1 → NT S S1 (ky7 K (c27 B p.toNat (z - p).toNat) 100) p (c27 B p.toNat (z - p).toNat)) : z ≠ -1 → NT S S1 (t7 K B e p) p (v7 B e p) := fun q => by
  have a := q7_w h hl hz
  have b : v7 B e p = c27 B p.toNat (we7 B e p - p).toNat := if_pos hl
  have c : t7 K B e p = ky7 K (v7 B e p) 100 := by
    unfold t7
    rw [← a, if_neg q, if_pos hl]
  have d : z = we7 B e p := by
    rw [hz] at q ⊢
    split at q
    · exact absurd rfl q
    · rename_i w
      rw [if_neg w]
  have g := hn q
  rw [d, ← b] at g
  rw [c]
  exact g
theorem nt_d {S S1 : sS} {K B : Nat → Int} {e p z : Int} (hl : lt7 (B p.toNat) = 0) (h1 : 48 ≤ B p.toNat ∧ B p.toNat ≤ 57) (hz : z = (if de7 B e p - p ≤ 6 then de7 B e p else -1)) (hn : z ≠ -1 → NT S S1 101 p (dvF B p.toNat (z - p).toNat)) : z ≠ -1 → NT S S1 (t7 K B e p) p (v7 B e p) := fun q => by
  have a := q7_d hl h1 hz
  have b : v7 B e p = dvF B p.toNat (de7 B e p - p).toNat := by
    unfold v7
    rw [if_neg (fun q => q hl), if_pos h1]
  have c : t7 K B e p = 101 := by
    unfold t7
    rw [← a, if_neg q, if_neg (fun q => q hl), if_pos h1]
  have d : z = de7 B e p := by
    rw [hz] at q ⊢
    split at q
    · rename_i w
      rw [if_pos w]
    · exact absurd rfl q
  have g := hn q
  rw [d, ← b] at g
  rw [c]
  exact g
theorem nt_t {S S1 : sS} {K B : Nat → Int} {e p z : Int} (h1 : B p.toNat = 34) (hz : z = (if tx7 B e p then te7 B e (p + 1) + 1 else -1)) (hn : z ≠ -1 → NT S S1 102 p (z - p - 2)) : z ≠ -1 → NT S S1 (t7 K B e p) p (v7 B e p) := fun q => by
  have hl : lt7 (B p.toNat) = 0 := by rw [h1]; rfl
  have a := q7_t h1 hz
  have b : v7 B e p = te7 B e (p + 1) - p - 1 := by
    unfold v7
    rw [if_neg (fun q => q hl), if_neg (by omega), if_pos h1]
  have c : t7 K B e p = 102 := by
    unfold t7
    rw [← a, if_neg q, if_neg (fun q => q hl), if_neg (by omega), if_pos h1]
  have d : z = te7 B e (p + 1) + 1 := by
    rw [hz] at q ⊢
    split at q
    · rename_i w
      rw [if_pos w]
    · exact absurd rfl q
  have g := hn q
  rw [show z - p - 2 = v7 B e p by omega] at g
  rw [c]
  exact g
theorem nt_p {S S1 : sS} {K B : Nat → Int} {e p ty : Int} (hl : lt7 (B p.toNat) = 0) (hb : (B p.toNat = 46 ∧ ty = 103) ∨ (B p.toNat = 44 ∧ ty = 104) ∨ (B p.toNat = 59 ∧ ty = 105) ∨ (B p.toNat = 58 ∧ ty = 106)) (h0 : 0 ≤ p) (h : NT S S1 ty p 0) : NT S S1 (t7 K B e p) p (v7 B e p) := by
  have a := q7_p (e := e) hl (by omega)
  have b : v7 B e p = 0 := by
    unfold v7
    rw [if_neg (fun q => q hl), if_neg (by omega), if_neg (by omega)]
  have c : t7 K B e p = ty := by
    unfold t7
    rw [← a, if_neg (by omega), if_neg (fun q => q hl), if_neg (by omega), if_neg (by omega)]
    rcases hb with ⟨x, y⟩ | ⟨x, y⟩ | ⟨x, y⟩ | ⟨x, y⟩
    · rw [if_pos x, y]
    · rw [if_neg (by omega), if_pos x, y]
    · rw [if_neg (by omega), if_neg (by omega), if_pos x, y]
    · rw [if_neg (by omega), if_neg (by omega), if_neg (by omega), y]
  rw [b, c]
  exact h
theorem t7_b {K B : Nat → Int} {e p : Int} (h : q7 B e p = -1) : t7 K B e p = 108 := if_pos h
theorem t7_ne {K B : Nat → Int} {e p : Int} (h : q7 B e p ≠ -1) : t7 K B e p ≠ 108 ∧ t7 K B e p ≠ 107 := by
  have r := kyF_r (K := K) (c := v7 B e p) (df := 100) 55 0 (by omega)
  unfold t7 ky7
  rw [if_neg h]
  split
  · omega
  · split
    · omega
    · split
      · omega
      · split
        · omega
        · split
          · omega
          · split <;> omega
/-- does a dot stand behind -/
def DT7 (B : Nat → Int) (e f : Int) : Prop := sk7 B e f < e ∧ B (sk7 B e f).toNat = 46
theorem FRB {l : List rec} {S T : sS} {ts : Nat} (f : FR l S T) (e : kdis l [(902, 904)] = true) (ht : tp ts) : Xi T ts = Xi S ts := funext fun j => (f.smk e).x ts (tp_kC ht) j
theorem FRK {l : List rec} {S T : sS} (f : FR l S T) (e : kdis l [(880, 881)] = true) : Xj T 880 = Xj S 880 := funext fun j => (f.smk e).xj 880 rfl j
/-- rows of a sentence from f on, the first n -/
def SC (S : sS) (ts : Nat) (f n : Int) : Prop := (0 < n → Xi S 878 0 = f) ∧ (∀ r : Nat, (r : Int) < n → RW7 S ts r) ∧ ∀ r : Nat, (r : Int) + 1 < n → Xi S 878 (r + 1) = sk7 (Xi S ts) (Xi S 876 5) (q7 (Xi S ts) (Xi S 876 5) (Xi S 878 r)) ∧ Xi S 877 r ≠ 103 ∧ Xi S 877 r ≠ 108 ∧ (r = 0 → Xi S 877 r ≠ 102)
theorem SC.z {S : sS} {ts : Nat} {f n : Int} (h : n ≤ 0) : SC S ts f n := ⟨fun q => absurd q (by omega), fun r hr => absurd hr (by omega), fun r hr => absurd hr (by omega)⟩
/-- the sentence may go on at p behind its first n rows -/
def OP7 (S : sS) (ts : Nat) (n p : Int) : Prop := p = sk7 (Xi S ts) (Xi S 876 5) (q7 (Xi S ts) (Xi S 876 5) (Xi S 878 (n - 1).toNat)) ∧ Xi S 877 (n - 1).toNat ≠ 103 ∧ Xi S 877 (n - 1).toNat ≠ 108 ∧ (n = 1 → Xi S 877 (n - 1).toNat ≠ 102)
theorem OP7.k {T U : sS} {ts : Nat} {n m p : Int} (h : OP7 T ts n p) (hk : KR T U m) (hn : n ≤ m) (h0 : 0 < n) (hB : Xi U ts = Xi T ts) (he : Xi U 876 5 = Xi T 876 5) : OP7 U ts n p := by
  obtain ⟨a, b, _⟩ := hk (n - 1).toNat (by omega)
  unfold OP7
  rw [a, b, hB, he]
  exact h
theorem rw7_k {T U : sS} {ts r : Nat} {n : Int} (hk : KR T U n) (hB : Xi U ts = Xi T ts) (he : Xi U 876 5 = Xi T 876 5) (hK : Xj U 880 = Xj T 880) (hr : (r : Int) < n) (h : RW7 T ts r) : RW7 U ts r := by
  obtain ⟨a, b, c⟩ := hk r hr
  unfold RW7
  rw [a, b, c, hB, he, hK]
  exact h
theorem SC.k {T U : sS} {ts : Nat} {f n m : Int} (h : SC T ts f n) (hk : KR T U m) (hm : n ≤ m) (hB : Xi U ts = Xi T ts) (he : Xi U 876 5 = Xi T 876 5) (hK : Xj U 880 = Xj T 880) : SC U ts f n := by
  refine ⟨fun q => ?_, fun r hr => rw7_k hk hB he hK (by omega) (h.2.1 r hr), fun r hr => ?_⟩
  · rw [(hk 0 (by omega)).2.1]; exact h.1 q
  · obtain ⟨a, b, c⟩ := hk r (by omega)
    obtain ⟨_, b2, _⟩ := hk (r + 1) (by omega)
    rw [a, b, b2, hB, he]
    exact h.2.2 r hr
theorem SC.add {T U : sS} {ts : Nat} {f n p v : Int} (h : SC T ts f n) (hk : KR T U n) (hB : Xi U ts = Xi T ts) (he : Xi U 876 5 = Xi T 876 5) (hK : Xj U 880 = Xj T 880) (hn : n = Xi T 876 7) (h0 : 0 ≤ n) (hp : 0 ≤ p) (hpe : p < Xi T 876 5) (hN : NT T U (t7 (Xj T 880) (Xi T ts) (Xi T 876 5) p) p v) (hv : q7 (Xi T ts) (Xi T 876 5) p ≠ -1 → v = v7 (Xi T ts) (Xi T 876 5) p) (hf : n = 0 → p = f) (hc : 0 < n → OP7 T ts n p) : SC U ts f (n + 1) := by
  have g := h.k hk (Int.le_refl n) hB he hK
  obtain ⟨n1, n2, n3⟩ := hN
  rw [← hn] at n1 n2 n3
  refine ⟨fun _ => ?_, fun r hr => ?_, fun r hr => ?_⟩
  · by_cases q : n = 0
    · rw [q] at n2; rw [← hf q]; exact n2
    · exact g.1 (by omega)
  · by_cases q : (r : Int) < n
    · exact g.2.1 r q
    · have e : r = n.toNat := by omega
      rw [e]
      unfold RW7
      rw [n1, n2, n3, hB, he, hK]
      exact ⟨hp, hpe, rfl, hv⟩
  · by_cases q : (r : Int) + 1 < n
    · exact g.2.2 r q
    · have e : r = (n - 1).toNat := by omega
      have e2 : r + 1 = n.toNat := by omega
      obtain ⟨o1, o2, o3, o4⟩ := hc (by omega)
      obtain ⟨a, b, _⟩ := hk r (by omega)
      rw [e2, n2, a, b, hB, he, e]
      exact ⟨o1, o2, o3, fun z => o4 (by omega)⟩
/-- the sentence is closed by its last row; z is behind it -/
def CL7 (S : sS) (ts : Nat) (z : Int) : Prop := 1 ≤ Xi S 876 7 ∧ ((Xi S 877 (Xi S 876 7 - 1).toNat = 108 ∧ z = Xi S 876 5) ∨ ((Xi S 877 (Xi S 876 7 - 1).toNat = 103 ∨ (Xi S 876 7 = 1 ∧ Xi S 877 (Xi S 876 7 - 1).toNat = 102)) ∧ z = q7 (Xi S ts) (Xi S 876 5) (Xi S 878 (Xi S 876 7 - 1).toNat) ∧ z ≠ -1))
/-- the rows of a sentence from f on; z is behind it -/
def SEN (S : sS) (ts : Nat) (f z : Int) : Prop := (SC S ts f (Xi S 876 7) ∧ CL7 S ts z ∧ (Xi S 876 7 = 1 → Xi S 877 0 = 102 → ¬ DT7 (Xi S ts) (Xi S 876 5) z)) ∨
  (SC S ts f (Xi S 876 7 - 1) ∧ 2 ≤ Xi S 876 7 ∧ Xi S 877 (Xi S 876 7 - 1).toNat = 107 ∧ Xi S 878 (Xi S 876 7 - 1).toNat = Xi S 876 5 ∧ z = Xi S 876 5 ∧ OP7 S ts (Xi S 876 7 - 1) z) ∨
  (Xi S 876 7 = 2 ∧ SC S ts f 1 ∧ Xi S 877 0 = 102 ∧ Xi S 877 1 = 103 ∧ DT7 (Xi S ts) (Xi S 876 5) (q7 (Xi S ts) (Xi S 876 5) (Xi S 878 0)) ∧ Xi S 878 1 = sk7 (Xi S ts) (Xi S 876 5) (q7 (Xi S ts) (Xi S 876 5) (Xi S 878 0)) ∧ z = Xi S 878 1 + 1)
theorem SEN_w {S U : sS} {ts : Nat} {f z : Int} {v : Int32} (ht : tp ts) (e : U = uI S 876 6 v) (h : SEN S ts f z) : SEN U ts f z := by
  have e7 : Xi U 877 = Xi S 877 := funext fun j => by rw [e, Xi_ne (by omega)]
  have e8 : Xi U 878 = Xi S 878 := funext fun j => by rw [e, Xi_ne (by omega)]
  have e9 : Xj U 879 = Xj S 879 := funext fun j => by rw [e, Xj_I]
  have e0 : Xj U 880 = Xj S 880 := funext fun j => by rw [e, Xj_I]
  have eB : Xi U ts = Xi S ts := funext fun j => by
    rcases ht with rfl | rfl
    · rw [e, Xi_ne (by omega)]
    · rw [e, Xi_ne (by omega)]
  have e5 : Xi U 876 5 = Xi S 876 5 := by rw [e, Xi_ne (by omega)]
  have en : Xi U 876 7 = Xi S 876 7 := by rw [e, Xi_ne (by omega)]
  unfold SEN SC CL7 OP7 RW7
  rw [e7, e8, e9, e0, eB, e5, en]
  exact h
def CQ7 (S : sS) (ts : Nat) (p z : Int) : Prop := (Xi S 877 (Xi S 876 7 - 1).toNat = 108 ∧ z = Xi S 876 5) ∨ (Xi S 877 (Xi S 876 7 - 1).toNat ≠ 108 ∧ z = q7 (Xi S ts) (Xi S 876 5) p ∧ z ≠ -1)
theorem CL7_of {S : sS} {ts : Nat} {p z : Int} (h1 : 1 ≤ Xi S 876 7) (hl : Xi S 878 (Xi S 876 7 - 1).toNat = p) (hq : CQ7 S ts p z) (ht : Xi S 877 (Xi S 876 7 - 1).toNat = 103 ∨ Xi S 877 (Xi S 876 7 - 1).toNat = 108 ∨ (Xi S 876 7 = 1 ∧ Xi S 877 (Xi S 876 7 - 1).toNat = 102)) : CL7 S ts z := by
  refine ⟨h1, ?_⟩
  rw [hl]
  rcases hq with q | ⟨q1, q2, q3⟩
  · exact Or.inl q
  · exact Or.inr ⟨by omega, q2, q3⟩
theorem OP7_of {S : sS} {ts : Nat} {p z w : Int} (hl : Xi S 878 (Xi S 876 7 - 1).toNat = p) (hq : CQ7 S ts p z) (hs : w = sk7 (Xi S ts) (Xi S 876 5) z) (h3 : Xi S 877 (Xi S 876 7 - 1).toNat ≠ 103) (h8 : Xi S 877 (Xi S 876 7 - 1).toNat ≠ 108) (h2 : Xi S 876 7 = 1 → Xi S 877 (Xi S 876 7 - 1).toNat ≠ 102) : OP7 S ts (Xi S 876 7) w := by
  rcases hq with q | ⟨q1, q2, q3⟩
  · exact absurd q.1 h8
  · refine ⟨?_, h3, h8, h2⟩
    rw [hl, ← q2]
    exact hs
theorem SEN_end {T U : sS} {ts : Nat} {f v : Int} (h : SC T ts f (Xi T 876 7)) (ho : OP7 T ts (Xi T 876 7) v) (hk : KR T U (Xi T 876 7)) (hB : Xi U ts = Xi T ts) (he : Xi U 876 5 = Xi T 876 5) (hK : Xj U 880 = Xj T 880) (hN : NT T U 107 (Xi T 876 5) 0) (hr : Xi U 876 7 = Xi T 876 7 + 1) (h1 : 1 ≤ Xi T 876 7) (hv : v = Xi T 876 5) : SEN U ts f v := by
  have e : Xi U 876 7 - 1 = Xi T 876 7 := by omega
  refine Or.inr (Or.inl ⟨?_, by omega, ?_, ?_, ?_, ?_⟩)
  · rw [e]; exact h.k hk (Int.le_refl _) hB he hK
  · rw [e]; exact hN.1
  · rw [e, he]; exact hN.2.1
  · rw [he]; exact hv
  · rw [e]; exact ho.k hk (Int.le_refl _) (by omega) hB he
theorem SEN_dot {T U : sS} {ts : Nat} {f v z : Int} (h : SC T ts f (Xi T 876 7)) (hc : CL7 T ts v) (h1 : Xi T 876 7 = 1) (h2 : Xi T 877 0 = 102) (hk : KR T U (Xi T 876 7)) (hB : Xi U ts = Xi T ts) (he : Xi U 876 5 = Xi T 876 5) (hK : Xj U 880 = Xj T 880)
    (hd : (z = v ∧ Xi U 876 7 = Xi T 876 7 ∧ ¬ DT7 (Xi T ts) (Xi T 876 5) v) ∨ (z = sk7 (Xi T ts) (Xi T 876 5) v + 1 ∧ Xi U 876 7 = Xi T 876 7 + 1 ∧ DT7 (Xi T ts) (Xi T 876 5) v ∧ NT T U 103 (sk7 (Xi T ts) (Xi T 876 5) v) 0)) : SEN U ts f z := by
  have g := h.k hk (Int.le_refl _) hB he hK
  have k0 := hk 0 (by omega)
  have e0 : (Xi T 876 7 - 1).toNat = 0 := by omega
  have e1 : (Xi T 876 7).toNat = 1 := by omega
  have hv : v = q7 (Xi T ts) (Xi T 876 5) (Xi T 878 0) ∧ v ≠ -1 := by
    obtain ⟨_, c⟩ := hc
    rw [e0] at c
    rcases c with ⟨c, _⟩ | ⟨_, c⟩
    · omega
    · exact c
  rcases hd with ⟨d1, d2, d3⟩ | ⟨d1, d2, d3, d4⟩
  · refine Or.inl ⟨by rw [d2]; exact g, ⟨by omega, Or.inr ⟨Or.inr ⟨by omega, ?_⟩, ?_, by omega⟩⟩, fun _ _ => ?_⟩
    · rw [d2, e0, k0.1]; exact h2
    · rw [d2, e0, k0.2.1, hB, he, d1]; exact hv.1
    · rw [hB, he, d1]; exact d3
  · obtain ⟨n1, n2, _⟩ := d4
    rw [e1] at n1 n2
    refine Or.inr (Or.inr ⟨by omega, by rw [h1] at g; exact g, by rw [k0.1]; exact h2, n1, ?_, ?_, ?_⟩)
    · rw [hB, he, k0.2.1, ← hv.1]; exact d3
    · rw [hB, he, k0.2.1, ← hv.1]; exact n2
    · rw [n2]; exact d1

/-! WHAT THE REFERENCE READS, by the same functions -/
theorem kr_h {K : Nat → Int} {w v : Int} (k2 : ky7 K w (-1) = kyF K w (-1) (55 - v).toNat v) (h0 : 0 ≤ v) (hv : v < 55) (e : K v.toNat = w) : 100 + v = (if ky7 K w (-1) = -1 then 3 else 100 + ky7 K w (-1)) := by
  have t := k2.trans (kyF_h hv e)
  rw [t, if_neg (by omega)]
theorem kr_e {K : Nat → Int} {w v : Int} (k2 : ky7 K w (-1) = kyF K w (-1) (55 - v).toNat v) (hv : 55 ≤ v) : 3 = (if ky7 K w (-1) = -1 then 3 else 100 + ky7 K w (-1)) := by
  have t := k2.trans (kyF_e hv)
  rw [t, if_pos rfl]
theorem lw5 {w x : Int} (h0 : 0 ≤ w) (h1 : w < 36028797018963968) (hx : 0 ≤ x) (hx2 : x < 32) : lorF (lshlF w 5) x = w * 32 + x := by
  have e : (Int64.ofInt w <<< ((Int32.ofInt 5).toInt64 &&& 63)) ||| Int64.ofInt x = Int64.ofInt (w * 32 + x) := by
    apply Int64.toBitVec_inj.mp
    apply BitVec.eq_of_toNat_eq
    have s : (Int64.ofInt w <<< ((Int32.ofInt 5).toInt64 &&& 63)).toBitVec = (BitVec.ofInt 64 w) <<< (5 : Nat) := rfl
    rw [Int64.toBitVec_or, s]
    show ((BitVec.ofInt 64 w) <<< (5 : Nat) ||| BitVec.ofInt 64 x).toNat = (BitVec.ofInt 64 (w * 32 + x)).toNat
    rw [BitVec.toNat_or, BitVec.toNat_shiftLeft, BitVec.toNat_ofInt, BitVec.toNat_ofInt, BitVec.toNat_ofInt]
    have a : (w % ((2 ^ 64 : Nat) : Int)).toNat = w.toNat := by omega
    have b : (x % ((2 ^ 64 : Nat) : Int)).toNat = x.toNat := by omega
    have c : ((w * 32 + x) % ((2 ^ 64 : Nat) : Int)).toNat = w.toNat * 32 + x.toNat := by omega
    rw [a, b, c, Nat.shiftLeft_eq, Nat.mod_eq_of_lt (by omega)]
    have d := Nat.shiftLeft_add_eq_or_of_lt (b := x.toNat) (i := 5) (by omega) w.toNat
    rw [Nat.shiftLeft_eq] at d
    rw [← d]
  have r : Int64.ofInt (lshlF w 5) = Int64.ofInt w <<< ((Int32.ofInt 5).toInt64 &&& 63) := by
    unfold lshlF
    exact Int64.ofInt_toInt _
  unfold lorF
  rw [r, e]
  exact toJ ⟨by omega, by omega⟩
theorem c32_g {B : Nat → Int} {f n : Nat} (h : n ≤ 12) : rgL (c32 B f n) := by
  have t := c32_r (B := B) (f := f) n
  have u := pw32 (n := n) (by omega)
  unfold rgL
  omega
theorem w32_s {B : Nat → Int} {f v w z : Int} (hw : w = c32 B f.toNat v.toNat) (hz : z = sml (B (f + v).toNat)) (hl : ltr (B (f + v).toNat) = 1) (h0 : 0 ≤ f) (hv : 0 ≤ v) (h12 : v < 12) : lorF (lshlF w 5) (z - 96) = c32 B f.toNat (v + 1).toNat := by
  have t := c32_r (B := B) (f := f.toNat) v.toNat
  have u : (32 : Int) ^ v.toNat ≤ 36028797018963968 := by
    rcases (by omega : v = 0 ∨ v = 1 ∨ v = 2 ∨ v = 3 ∨ v = 4 ∨ v = 5 ∨ v = 6 ∨ v = 7 ∨ v = 8 ∨ v = 9 ∨ v = 10 ∨ v = 11) with rfl | rfl | rfl | rfl | rfl | rfl | rfl | rfl | rfl | rfl | rfl | rfl <;> decide
  have k := lt7_l hl
  have r := lt7_r (B (f + v).toNat)
  rw [hz, ← k.1, hw, lw5 (by omega) (by omega) (by omega) (by omega), show (v + 1).toNat = v.toNat + 1 by omega]
  show _ = c32 B f.toNat v.toNat * 32 + lt7 (B (f.toNat + v.toNat))
  rw [show f.toNat + v.toNat = (f + v).toNat by omega]
theorem FR6 {l : List rec} {S T : sS} (f : FR l S T) (e : kdis l [(906, 907)] = true) : Xi T 906 = Xi S 906 := funext fun j => (f.smk e).x 906 rfl j
theorem FR1 {l : List rec} {S T : sS} (f : FR l S T) (e : kdis l [(911, 912)] = true) : Xj T 911 = Xj S 911 := funext fun j => (f.smk e).xj 911 rfl j
def m7 (K B : Nat → Int) (e p : Int) : Int := if q7 B e p = -1 then 2 else if lt7 (B p.toNat) ≠ 0 then (if ky7 K (c32 B p.toNat (we7 B e p - p).toNat) (-1) = -1 then 3 else 100 + ky7 K (c32 B p.toNat (we7 B e p - p).toNat) (-1)) else if 48 ≤ B p.toNat ∧ B p.toNat ≤ 57 then 4 else if B p.toNat = 34 then 5 else B p.toNat
/-- what a token of the reference is, by its place -/
def RM7 (B K : Nat → Int) (e : Int) (S : sS) (i : Nat) : Prop := 0 ≤ Xi S 908 i ∧ Xi S 908 i < e ∧ Xi S 907 i = m7 K B e (Xi S 908 i) ∧ (q7 B e (Xi S 908 i) ≠ -1 → (lt7 (B (Xi S 908 i).toNat) ≠ 0 → Xj S 910 i = c32 B (Xi S 908 i).toNat (we7 B e (Xi S 908 i) - Xi S 908 i).toNat) ∧ (lt7 (B (Xi S 908 i).toNat) = 0 → 48 ≤ B (Xi S 908 i).toNat → B (Xi S 908 i).toNat ≤ 57 → Xj S 910 i = dvF B (Xi S 908 i).toNat (de7 B e (Xi S 908 i) - Xi S 908 i).toNat) ∧ (B (Xi S 908 i).toNat = 34 → Xi S 909 i = te7 B e (Xi S 908 i + 1) - Xi S 908 i - 1))
theorem rm_k {B K : Nat → Int} {e : Int} {S U : sS} {i : Nat} (h7 : Xi U 907 i = Xi S 907 i) (h8 : Xi U 908 i = Xi S 908 i) (h9 : Xi U 909 i = Xi S 909 i) (h0 : Xj U 910 i = Xj S 910 i) (h : RM7 B K e S i) : RM7 B K e U i := by
  unfold RM7
  rw [h7, h8, h9, h0]
  exact h
/-- the first n tokens -/
def CU (B K : Nat → Int) (e : Int) (S : sS) (n : Int) : Prop := (0 < n → Xi S 908 0 = sk7 B e 0) ∧ (∀ i : Nat, (i : Int) < n → RM7 B K e S i) ∧ ∀ i : Nat, (i : Int) + 1 < n → Xi S 908 (i + 1) = sk7 B e (q7 B e (Xi S 908 i)) ∧ Xi S 907 i ≠ 2
theorem CU.z {B K : Nat → Int} {e : Int} {S : sS} : CU B K e S 0 := ⟨fun q => absurd q (by omega), fun i hi => absurd hi (by omega), fun i hi => absurd hi (by omega)⟩
theorem CU.k {B K : Nat → Int} {e n : Int} {S U : sS} (h : CU B K e S n) (h7 : ∀ i : Nat, (i : Int) < n → Xi U 907 i = Xi S 907 i) (h8 : ∀ i : Nat, (i : Int) < n → Xi U 908 i = Xi S 908 i) (h9 : ∀ i : Nat, (i : Int) < n → Xi U 909 i = Xi S 909 i) (h0 : ∀ i : Nat, (i : Int) < n → Xj U 910 i = Xj S 910 i) : CU B K e U n := by
  refine ⟨fun q => ?_, fun i hi => rm_k (h7 i hi) (h8 i hi) (h9 i hi) (h0 i hi) (h.2.1 i hi), fun i hi => ?_⟩
  · rw [h8 0 (by omega)]; exact h.1 q
  · rw [h8 (i + 1) (by omega), h8 i (by omega), h7 i (by omega)]; exact h.2.2 i hi
/-- and the place of the next is set -/
def CV (B K : Nat → Int) (e : Int) (S : sS) (n : Int) : Prop := CU B K e S n ∧ (n = 0 → Xi S 908 0 = sk7 B e 0) ∧ (0 < n → Xi S 908 n.toNat = sk7 B e (q7 B e (Xi S 908 (n - 1).toNat)) ∧ Xi S 907 (n - 1).toNat ≠ 2)
theorem CV_pl {B K : Nat → Int} {e v1 v2 : Int} {S U : sS} (h : CU B K e S v1) (h1 : v1 = 0 → v2 = sk7 B e 0) (h2 : 0 < v1 → Xi S 907 (v1 - 1).toNat ≠ 2 → v2 = sk7 B e (q7 B e (Xi S 908 (v1 - 1).toNat))) (hg : 0 < v1 → Xi S 907 (v1 - 1).toNat ≠ 2) (E : U = uI S 908 v1.toNat (Int32.ofInt v2)) (h0 : 0 ≤ v1) (hr : 0 ≤ v2 ∧ v2 ≤ 5001) : CV B K e U v1 := by
  have a : Xi U 908 v1.toNat = v2 := by rw [E]; exact Xi_same ⟨by omega, by omega⟩
  have b : ∀ i : Nat, (i : Int) < v1 → Xi U 908 i = Xi S 908 i := fun i hi => by rw [E, Xi_ne (by omega)]
  have c : ∀ i : Nat, Xi U 907 i = Xi S 907 i := fun i => by rw [E, Xi_ne (by omega)]
  refine ⟨h.k (fun i _ => c i) b (fun i _ => by rw [E, Xi_ne (by omega)]) (fun i _ => by rw [E, Xj_I]), fun q => ?_, fun q => ⟨?_, ?_⟩⟩
  · rw [show (0 : Nat) = v1.toNat by omega, a]; exact h1 q
  · rw [a, b (v1 - 1).toNat (by omega)]; exact h2 q (hg q)
  · rw [c]; exact hg q
theorem CV.j {B K : Nat → Int} {e n : Int} {S U : sS} {j : Nat} {v : Int64} (h : CV B K e S n) (E : U = uJ S 910 j v) (hj : n ≤ j) : CV B K e U n := by
  have c : ∀ k i : Nat, Xi U k i = Xi S k i := fun k i => by rw [E, Xi_J]
  refine ⟨h.1.k (fun i _ => c _ i) (fun i _ => c _ i) (fun i _ => c _ i) (fun i hi => by rw [E, Xj_ne (by omega)]), ?_, ?_⟩
  · rw [c]; exact h.2.1
  · rw [c, c, c]; exact h.2.2
theorem CV.w {B K : Nat → Int} {e n : Int} {S U : sS} {k j : Nat} {v : Int32} (h : CV B K e S n) (E : U = uI S k j v) (hk : k = 907 ∨ k = 909) (hj : n ≤ j) : CV B K e U n := by
  have c : ∀ i : Nat, Xi U 908 i = Xi S 908 i := fun i => by rw [E, Xi_ne (by omega)]
  have d : ∀ i : Nat, (i : Int) < n → Xi U 907 i = Xi S 907 i := fun i hi => by rw [E, Xi_ne (by omega)]
  refine ⟨h.1.k d (fun i _ => c i) (fun i hi => by rw [E, Xi_ne (by omega)]) (fun i hi => by rw [E, Xj_I]), ?_, fun q => ?_⟩
  · rw [c]; exact h.2.1
  · rw [c, c, d (n - 1).toNat (by omega)]; exact h.2.2 q
theorem CV.add {B K : Nat → Int} {e n : Int} {S : sS} (h : CV B K e S n) (h0 : 0 ≤ n) (hr : RM7 B K e S n.toNat) : CU B K e S (n + 1) := by
  refine ⟨fun _ => ?_, fun i hi => ?_, fun i hi => ?_⟩
  · by_cases q : n = 0
    · exact h.2.1 q
    · exact h.1.1 (by omega)
  · by_cases q : (i : Int) < n
    · exact h.1.2.1 i q
    · rw [show i = n.toNat by omega]; exact hr
  · by_cases q : (i : Int) + 1 < n
    · exact h.1.2.2 i q
    · have t := h.2.2 (by omega)
      rw [show i + 1 = n.toNat by omega, show i = (n - 1).toNat by omega]
      exact t
theorem rm_w {B K : Nat → Int} {e p q : Int} {S : sS} {i : Nat} (hW : we7 B e p = q) (hp : Xi S 908 i = p) (h0 : 0 ≤ p) (he : p < e) (hl : lt7 (B p.toNat) ≠ 0) (h12 : q - p ≤ 12) (hw : Xj S 910 i = c32 B p.toNat (q - p).toNat) (ht : Xi S 907 i = if ky7 K (c32 B p.toNat (q - p).toNat) (-1) = -1 then 3 else 100 + ky7 K (c32 B p.toNat (q - p).toNat) (-1)) : RM7 B K e S i := by
  have g := we7_gt he hl
  have a : q7 B e p = q := by
    unfold q7
    rw [if_pos hl, hW, if_pos h12]
  unfold RM7
  rw [hp]
  refine ⟨h0, he, ?_, fun _ => ⟨fun _ => by rw [hW]; exact hw, fun z => absurd z hl, fun z => ?_⟩⟩
  · unfold m7
    rw [a, if_neg (by omega), if_pos hl, hW]
    exact ht
  · exact absurd (by rw [z]; rfl) hl
theorem rm_x {B K : Nat → Int} {e p q : Int} {S : sS} {i : Nat} (hW : we7 B e p = q) (hp : Xi S 908 i = p) (h0 : 0 ≤ p) (he : p < e) (hl : lt7 (B p.toNat) ≠ 0) (h12 : 12 < q - p) (ht : Xi S 907 i = 2) : RM7 B K e S i := by
  have a : q7 B e p = -1 := by
    unfold q7
    rw [if_pos hl, hW, if_neg (by omega)]
  unfold RM7
  rw [hp]
  refine ⟨h0, he, ?_, fun z => absurd a z⟩
  unfold m7
  rw [if_pos a]
  exact ht
theorem rm_d {B K : Nat → Int} {e p q : Int} {S : sS} {i : Nat} (hD : de7 B e p = q) (hp : Xi S 908 i = p) (h0 : 0 ≤ p) (he : p < e) (hl : lt7 (B p.toNat) = 0) (h1 : 48 ≤ B p.toNat ∧ B p.toNat ≤ 57) (h6 : q - p ≤ 6) (hw : Xj S 910 i = dvF B p.toNat (m6 (q - p))) (ht : Xi S 907 i = 4) (hq : p < q) : RM7 B K e S i := by
  have a : q7 B e p = q := by
    unfold q7
    rw [if_neg (fun z => z hl), if_pos h1, hD, if_pos h6]
  unfold RM7
  rw [hp]
  refine ⟨h0, he, ?_, fun _ => ⟨fun z => absurd hl z, fun _ _ _ => by rw [hD]; exact dv_d h6 hw, fun z => ?_⟩⟩
  · unfold m7
    rw [a, if_neg (by omega), if_neg (fun z => z hl), if_pos h1]
    exact ht
  · omega
theorem rm_dx {B K : Nat → Int} {e p q : Int} {S : sS} {i : Nat} (hD : de7 B e p = q) (hp : Xi S 908 i = p) (h0 : 0 ≤ p) (he : p < e) (hl : lt7 (B p.toNat) = 0) (h1 : 48 ≤ B p.toNat ∧ B p.toNat ≤ 57) (h6 : 6 < q - p) (ht : Xi S 907 i = 2) : RM7 B K e S i := by
  have a : q7 B e p = -1 := by
    unfold q7
    rw [if_neg (fun z => z hl), if_pos h1, hD, if_neg (by omega)]
  unfold RM7
  rw [hp]
  refine ⟨h0, he, ?_, fun z => absurd a z⟩
  unfold m7
  rw [if_pos a]
  exact ht
theorem q34 {B : Nat → Int} {e p : Int} (h : B p.toNat = 34) : q7 B e p = if tx7 B e p then te7 B e (p + 1) + 1 else -1 := (q7_t h rfl).symm
theorem rm_t {B K : Nat → Int} {e p q g : Int} {S : sS} {i : Nat} (hT : te7 B e (p + 1) = q) (hG : g = gdF B (p + 1).toNat (q - (p + 1)).toNat) (hp : Xi S 908 i = p) (h0 : 0 ≤ p) (he : p < e) (h34 : B p.toNat = 34) (h1 : g = 1) (h2 : q < e) (h3 : q - p - 1 ≤ 120) (hl : Xi S 909 i = q - p - 1) (ht : Xi S 907 i = 5) (hq : p < q) : RM7 B K e S i := by
  have a : q7 B e p = q + 1 := by
    rw [q34 h34, if_pos, hT]
    refine ⟨by omega, by omega, ?_⟩
    rw [hT, ← hG]
    exact h1
  have l0 : lt7 (B p.toNat) = 0 := by rw [h34]; rfl
  unfold RM7
  rw [hp]
  refine ⟨h0, he, ?_, fun _ => ⟨fun z => absurd l0 z, fun _ _ _ => by omega, fun _ => by rw [hT]; exact hl⟩⟩
  unfold m7
  rw [a, if_neg (by omega), if_neg (fun z => z l0), if_neg (by omega), if_pos h34]
  exact ht
theorem rm_tx {B K : Nat → Int} {e p q g : Int} {S : sS} {i : Nat} (hT : te7 B e (p + 1) = q) (hG : g = gdF B (p + 1).toNat (q - (p + 1)).toNat) (hp : Xi S 908 i = p) (h0 : 0 ≤ p) (he : p < e) (h34 : B p.toNat = 34) (hb : g ≠ 1 ∨ e ≤ q ∨ 120 < q - p - 1) (ht : Xi S 907 i = 2) : RM7 B K e S i := by
  have a : q7 B e p = -1 := by
    rw [q34 h34, if_neg]
    intro z
    obtain ⟨z1, z2, z3⟩ := z
    rw [hT, ← hG] at z3
    omega
  unfold RM7
  rw [hp]
  refine ⟨h0, he, ?_, fun z => absurd a z⟩
  unfold m7
  rw [if_pos a]
  exact ht
theorem rm_p {B K : Nat → Int} {e p : Int} {S : sS} {i : Nat} (hp : Xi S 908 i = p) (h0 : 0 ≤ p) (he : p < e) (hl : lt7 (B p.toNat) = 0) (hb : B p.toNat = 46 ∨ B p.toNat = 44 ∨ B p.toNat = 59 ∨ B p.toNat = 58) (ht : Xi S 907 i = B p.toNat) : RM7 B K e S i := by
  have a := q7_p (e := e) hl hb
  unfold RM7
  rw [hp]
  refine ⟨h0, he, ?_, fun _ => ⟨fun z => absurd hl z, fun _ _ _ => by omega, fun _ => by omega⟩⟩
  unfold m7
  rw [← a, if_neg (by omega), if_neg (fun z => z hl), if_neg (by omega), if_neg (by omega)]
  exact ht
theorem rm_o {B K : Nat → Int} {e p : Int} {S : sS} {i : Nat} (hp : Xi S 908 i = p) (h0 : 0 ≤ p) (he : p < e) (hl : lt7 (B p.toNat) = 0) (h1 : ¬ (48 ≤ B p.toNat ∧ B p.toNat ≤ 57)) (h2 : B p.toNat ≠ 34) (hb : ¬ (B p.toNat = 46 ∨ B p.toNat = 44 ∨ B p.toNat = 59 ∨ B p.toNat = 58)) (ht : Xi S 907 i = 2) : RM7 B K e S i := by
  have a := (q7_n (e := e) hl h1 h2 hb).symm
  unfold RM7
  rw [hp]
  refine ⟨h0, he, ?_, fun z => absurd a z⟩
  unfold m7
  rw [if_pos a]
  exact ht
theorem rm_q {B K : Nat → Int} {e : Int} {S : sS} {i : Nat} (h : RM7 B K e S i) (q : Xi S 907 i ≠ 2) : q7 B e (Xi S 908 i) ≠ -1 := fun z => q (by rw [h.2.2.1]; exact if_pos z)
theorem rm_qw {B K : Nat → Int} {e p v : Int} {S : sS} {i : Nat} (h : RM7 B K e S i) (q : Xi S 907 i ≠ 2) (hl : lt7 (B p.toNat) ≠ 0) (hp : Xi S 908 i = p) (hW : we7 B e p = v) : v = q7 B e (Xi S 908 i) := by
  have a := rm_q h q
  rw [hp] at a ⊢
  unfold q7 at a ⊢
  rw [if_pos hl, hW] at a ⊢
  split at a
  · rename_i w
    rw [if_pos w]
  · exact absurd rfl a
theorem rm_qd {B K : Nat → Int} {e p v : Int} {S : sS} {i : Nat} (h : RM7 B K e S i) (q : Xi S 907 i ≠ 2) (hl : lt7 (B p.toNat) = 0) (h1 : 48 ≤ B p.toNat ∧ B p.toNat ≤ 57) (hp : Xi S 908 i = p) (hD : de7 B e p = v) : v = q7 B e (Xi S 908 i) := by
  have a := rm_q h q
  rw [hp] at a ⊢
  unfold q7 at a ⊢
  rw [if_neg (fun z => z hl), if_pos h1, hD] at a ⊢
  split at a
  · rename_i w
    rw [if_pos w]
  · exact absurd rfl a
theorem rm_qt {B K : Nat → Int} {e p v : Int} {S : sS} {i : Nat} (h : RM7 B K e S i) (q : Xi S 907 i ≠ 2) (h34 : B p.toNat = 34) (hp : Xi S 908 i = p) (hT : te7 B e (p + 1) = v) : v + 1 = q7 B e (Xi S 908 i) := by
  have a := rm_q h q
  rw [hp] at a ⊢
  rw [q34 h34] at a ⊢
  split at a
  · rename_i w
    rw [if_pos w, hT]
  · exact absurd rfl a
theorem rm_qp {B K : Nat → Int} {e p : Int} {S : sS} {i : Nat} (h : RM7 B K e S i) (q : Xi S 907 i ≠ 2) (hp : Xi S 908 i = p) (hl : lt7 (B p.toNat) = 0) (h1 : ¬ (48 ≤ B p.toNat ∧ B p.toNat ≤ 57)) (h2 : B p.toNat ≠ 34) : p + 1 = q7 B e (Xi S 908 i) := by
  have a := rm_q h q
  rw [hp] at a ⊢
  unfold q7 at a ⊢
  rw [if_neg (fun z => z hl), if_neg h1, if_neg h2] at a ⊢
  split at a
  · rename_i w
    rw [if_pos w]
  · exact absurd rfl a
/-- all tokens of the story -/
def CUT (B K : Nat → Int) (e : Int) (S : sS) (n : Nat) : Prop := CU B K e S n ∧ Xi S 907 n = 1 ∧ Xi S 908 n = e ∧ (n = 0 → e ≤ sk7 B e 0) ∧ (0 < n → Xi S 907 (n - 1) = 2 ∨ e ≤ sk7 B e (q7 B e (Xi S 908 (n - 1))))
theorem cut_of {B K : Nat → Int} {e v a b : Int} {S U1 U2 : sS} {j : Nat} (h : CU B K e S v) (hx : 0 < v → Xi S 907 (v - 1).toNat = 2 ∨ e ≤ sk7 B e (q7 B e (Xi S 908 (v - 1).toNat))) (hy : v = 0 → e ≤ sk7 B e 0) (e1 : U1 = uI S 907 j (Int32.ofInt a)) (e2 : U2 = uI U1 908 j (Int32.ofInt b)) (hj : j = v.toNat) (ha : a = 1) (hb : b = e) (h0 : 0 ≤ v) (he : 0 ≤ e ∧ e ≤ 5000) : CUT B K e U2 v.toNat := by
  have c7 : ∀ i : Nat, (i : Int) < v → Xi U2 907 i = Xi S 907 i := fun i hi => by rw [e2, Xi_ne (by omega), e1, Xi_ne (by omega)]
  have c8 : ∀ i : Nat, (i : Int) < v → Xi U2 908 i = Xi S 908 i := fun i hi => by rw [e2, Xi_ne (by omega), e1, Xi_ne (by omega)]
  have c9 : ∀ i : Nat, (i : Int) < v → Xi U2 909 i = Xi S 909 i := fun i hi => by rw [e2, Xi_ne (by omega), e1, Xi_ne (by omega)]
  have c0 : ∀ i : Nat, (i : Int) < v → Xj U2 910 i = Xj S 910 i := fun i hi => by rw [e2, Xj_I, e1, Xj_I]
  refine ⟨?_, ?_, ?_, fun q => hy (by omega), fun q => ?_⟩
  · rw [show ((v.toNat : Nat) : Int) = v by omega]; exact h.k c7 c8 c9 c0
  · rw [e2, Xi_ne (by omega), e1, hj, ha]; exact Xi_same ⟨by omega, by omega⟩
  · rw [e2, hj, hb]; exact Xi_same ⟨by omega, by omega⟩
  · rw [show v.toNat - 1 = (v - 1).toNat by omega, c7 _ (by omega), c8 _ (by omega)]; exact hx (by omega)

/-! WHAT BOTH READ: codes of words, bytes that agree, tokens that agree -/
def cvN : Nat → Int → Int
  | 0, _ => 0
  | n + 1, w => cvN n (w / 27) * 32 + w % 27
def icN : Nat → Int → Int
  | 0, _ => 0
  | n + 1, x => icN n (x / 32) * 27 + x % 32
/-- a word's code of the class as one of the reference -/
def cv (w : Int) : Int := cvN 13 w
theorem cv_c {B : Nat → Int} {f : Nat} : ∀ (m n : Nat), m ≤ n → cvN n (c27 B f m) = c32 B f m
  | 0, 0, _ => rfl
  | 0, n + 1, _ => by
    show cvN n (0 / 27) * 32 + 0 % 27 = 0
    have t := cv_c (B := B) (f := f) 0 n (by omega)
    have u : cvN n 0 = 0 := t
    rw [show (0 : Int) / 27 = 0 by decide, u]
    decide
  | m + 1, 0, h => absurd h (by omega)
  | m + 1, n + 1, h => by
    have r := lt7_r (B (f + m))
    show cvN n ((c27 B f m * 27 + lt7 (B (f + m))) / 27) * 32 + (c27 B f m * 27 + lt7 (B (f + m))) % 27 = c32 B f m * 32 + lt7 (B (f + m))
    rw [show (c27 B f m * 27 + lt7 (B (f + m))) / 27 = c27 B f m by omega, show (c27 B f m * 27 + lt7 (B (f + m))) % 27 = lt7 (B (f + m)) by omega, cv_c m n (by omega)]
theorem cvN_r : ∀ (n : Nat) (w : Int), 0 ≤ w → w < 27 ^ n → 0 ≤ cvN n w ∧ cvN n w < 32 ^ n
  | 0, _, _, _ => ⟨Int.le_refl 0, by show (0 : Int) < 32 ^ 0; decide⟩
  | n + 1, w, h0, h => by
    rw [Int.pow_succ] at h
    have t := cvN_r n (w / 27) (by omega) (by omega)
    show 0 ≤ cvN n (w / 27) * 32 + w % 27 ∧ cvN n (w / 27) * 32 + w % 27 < 32 ^ (n + 1)
    rw [Int.pow_succ]
    omega
theorem ic_cv : ∀ (n : Nat) (w : Int), 0 ≤ w → w < 27 ^ n → icN n (cvN n w) = w
  | 0, w, h0, h => by
    have e : w = 0 := by
      rw [Int.pow_zero] at h
      omega
    rw [e]
    rfl
  | n + 1, w, h0, h => by
    rw [Int.pow_succ] at h
    have t := ic_cv n (w / 27) (by omega) (by omega)
    show icN n ((cvN n (w / 27) * 32 + w % 27) / 32) * 27 + (cvN n (w / 27) * 32 + w % 27) % 32 = w
    rw [show (cvN n (w / 27) * 32 + w % 27) / 32 = cvN n (w / 27) by omega, show (cvN n (w / 27) * 32 + w % 27) % 32 = w % 27 by omega, t]
    omega
/-- a code of at most thirteen letters -/
def cd7 (w : Int) : Prop := 0 ≤ w ∧ w < 27 ^ 13
theorem cv_inj {a b : Int} (ha : cd7 a) (hb : cd7 b) (e : cv a = cv b) : a = b := by
  have t := ic_cv 13 a ha.1 ha.2
  have u := ic_cv 13 b hb.1 hb.2
  unfold cv at e
  rw [e] at t
  exact t.symm.trans u
theorem cd_c {B : Nat → Int} {f n : Nat} (h : n ≤ 13) : cd7 (c27 B f n) := by
  have t := c27_r (B := B) (f := f) n
  have u := pw27 (n := n) h
  refine ⟨t.1, ?_⟩
  rw [show (27 : Int) ^ 13 = 4052555153018976267 by decide]
  omega
/-- the key words of both -/
def KEYR (K M : Nat → Int) : Prop := ∀ i : Nat, i < 55 → M i = cv (K i) ∧ cd7 (K i)
theorem ky_r {K M : Nat → Int} (h : KEYR K M) {c : Int} (hc : cd7 c) : ∀ (f : Nat) (i : Int), 0 ≤ i → i + f ≤ 55 → kyF M (cv c) (-1) f i = if kyF K c 100 f i = 100 then -1 else kyF K c 100 f i
  | 0, _, _, _ => by
    show (-1 : Int) = if (100 : Int) = 100 then -1 else 100
    rw [if_pos rfl]
  | f + 1, i, h0, h1 => by
    obtain ⟨a, b⟩ := h i.toNat (by omega)
    show (if M i.toNat = cv c then i else kyF M (cv c) (-1) f (i + 1)) = if (if K i.toNat = c then i else kyF K c 100 f (i + 1)) = 100 then -1 else (if K i.toNat = c then i else kyF K c 100 f (i + 1))
    by_cases q : K i.toNat = c
    · rw [if_pos q, if_pos (by rw [a, q]), if_neg (by omega)]
    · rw [if_neg q, if_neg (fun z => q (cv_inj b hc (a.symm.trans z))), ky_r h hc f (i + 1) (by omega) (by omega)]
/-- a token's kind of the class as one of the reference -/
def tr7 (t : Int) : Int := if t < 100 then 100 + t else if t = 100 then 3 else if t = 101 then 4 else if t = 102 then 5 else if t = 103 then 46 else if t = 104 then 44 else if t = 105 then 59 else if t = 106 then 58 else if t = 107 then 1 else 2
theorem m7_t {K M B : Nat → Int} {e p : Int} (h : KEYR K M) : m7 M B e p = tr7 (t7 K B e p) := by
  unfold m7 t7
  by_cases q : q7 B e p = -1
  · rw [if_pos q, if_pos q]; rfl
  · rw [if_neg q, if_neg q]
    by_cases l : lt7 (B p.toNat) ≠ 0
    · have w12 : (we7 B e p - p).toNat ≤ 13 := by
        unfold q7 at q
        rw [if_pos l] at q
        split at q
        · omega
        · exact absurd rfl q
      have vv : v7 B e p = c27 B p.toNat (we7 B e p - p).toNat := if_pos l
      have cc := cv_c (B := B) (f := p.toNat) (we7 B e p - p).toNat 13 w12
      have kk := ky_r h (cd_c (B := B) (f := p.toNat) w12) 55 0 (by omega) (by omega)
      have rr := kyF_r (K := K) (c := c27 B p.toNat (we7 B e p - p).toNat) (df := 100) 55 0 (by omega)
      unfold cv at kk
      rw [cc] at kk
      rw [if_pos l, if_pos l, vv]
      unfold ky7
      rw [kk]
      by_cases z : kyF K (c27 B p.toNat (we7 B e p - p).toNat) 100 55 0 = 100
      · rw [if_pos z, if_pos rfl, z]; rfl
      · rw [if_neg z, if_neg (by omega)]
        unfold tr7
        rw [if_pos (by omega)]
    · rw [if_neg l, if_neg l]
      by_cases d : 48 ≤ B p.toNat ∧ B p.toNat ≤ 57
      · rw [if_pos d, if_pos d]; rfl
      · rw [if_neg d, if_neg d]
        by_cases x : B p.toNat = 34
        · rw [if_pos x, if_pos x]; rfl
        · rw [if_neg x, if_neg x]
          have l0 : lt7 (B p.toNat) = 0 := by omega
          have y : B p.toNat = 46 ∨ B p.toNat = 44 ∨ B p.toNat = 59 ∨ B p.toNat = 58 := by
            unfold q7 at q
            rw [if_neg l, if_neg d, if_neg x] at q
            split at q
            · assumption
            · exact absurd rfl q
          rcases y with y | y | y | y
          · rw [if_pos y, y]; rfl
          · rw [if_neg (by omega), if_pos y, y]; rfl
          · rw [if_neg (by omega), if_neg (by omega), if_pos y, y]; rfl
          · rw [if_neg (by omega), if_neg (by omega), if_neg (by omega), y]; rfl
/-- bytes that agree before e -/
def BE (B C : Nat → Int) (e : Int) : Prop := ∀ j : Nat, (j : Int) < e → B j = C j
theorem weF_c {B C : Nat → Int} {e : Int} (h : BE B C e) : ∀ (f : Nat) (p : Int), 0 ≤ p → weF B e f p = weF C e f p
  | 0, _, _ => rfl
  | f + 1, p, h0 => by
    show (if p < e ∧ lt7 (B p.toNat) ≠ 0 then weF B e f (p + 1) else p) = (if p < e ∧ lt7 (C p.toNat) ≠ 0 then weF C e f (p + 1) else p)
    rw [weF_c h f (p + 1) (by omega)]
    by_cases q : p < e
    · rw [h p.toNat (by omega)]
    · rw [if_neg (fun z => q z.1), if_neg (fun z => q z.1)]
theorem deF_c {B C : Nat → Int} {e : Int} (h : BE B C e) : ∀ (f : Nat) (p : Int), 0 ≤ p → deF B e f p = deF C e f p
  | 0, _, _ => rfl
  | f + 1, p, h0 => by
    show (if p < e ∧ 48 ≤ B p.toNat ∧ B p.toNat ≤ 57 then deF B e f (p + 1) else p) = (if p < e ∧ 48 ≤ C p.toNat ∧ C p.toNat ≤ 57 then deF C e f (p + 1) else p)
    rw [deF_c h f (p + 1) (by omega)]
    by_cases q : p < e
    · rw [h p.toNat (by omega)]
    · rw [if_neg (fun z => q z.1), if_neg (fun z => q z.1)]
theorem teF_c {B C : Nat → Int} {e : Int} (h : BE B C e) : ∀ (f : Nat) (p : Int), 0 ≤ p → teF B e f p = teF C e f p
  | 0, _, _ => rfl
  | f + 1, p, h0 => by
    show (if p < e ∧ B p.toNat ≠ 34 then teF B e f (p + 1) else p) = (if p < e ∧ C p.toNat ≠ 34 then teF C e f (p + 1) else p)
    rw [teF_c h f (p + 1) (by omega)]
    by_cases q : p < e
    · rw [h p.toNat (by omega)]
    · rw [if_neg (fun z => q z.1), if_neg (fun z => q z.1)]
theorem clF_c {B C : Nat → Int} {e : Int} (h : BE B C e) : ∀ (f : Nat) (p : Int), 0 ≤ p → p + f ≤ e → clF B e f p = clF C e f p
  | 0, _, _, _ => rfl
  | f + 1, p, h0, h1 => by
    show (if B p.toNat = 93 then p else clF B e f (p + 1)) = (if C p.toNat = 93 then p else clF C e f (p + 1))
    rw [clF_c h f (p + 1) (by omega) (by omega), h p.toNat (by omega)]
theorem cl7_c {B C : Nat → Int} {e p : Int} (h : BE B C e) (h0 : 0 ≤ p) : cl7 B e p = cl7 C e p := by
  rcases Int.lt_or_le p e with q | q
  · exact clF_c h _ p h0 (by omega)
  · rw [cl7_e q, cl7_e q]
theorem skF_c {B C : Nat → Int} {e : Int} (h : BE B C e) : ∀ (f : Nat) (p : Int), 0 ≤ p → skF B e f p = skF C e f p
  | 0, _, _ => rfl
  | f + 1, p, h0 => by
    show (if e ≤ p then p else if B p.toNat = 91 then (if cl7 B e p = -1 then p else skF B e f (cl7 B e p + 1)) else if bl7 (B p.toNat) then skF B e f (p + 1) else p) = (if e ≤ p then p else if C p.toNat = 91 then (if cl7 C e p = -1 then p else skF C e f (cl7 C e p + 1)) else if bl7 (C p.toNat) then skF C e f (p + 1) else p)
    by_cases q : e ≤ p
    · rw [if_pos q, if_pos q]
    · have r := cl7_r (B := C) (e := e) h0
      rw [if_neg q, if_neg q, cl7_c h h0, h p.toNat (by omega), skF_c h f (p + 1) (by omega)]
      by_cases k : cl7 C e p = -1
      · rw [if_pos k, if_pos k]
      · rw [if_neg k, if_neg k, skF_c h f (cl7 C e p + 1) (by omega)]
theorem gdF_c {B C : Nat → Int} {e : Int} {f : Nat} (h : BE B C e) : ∀ n : Nat, ((f + n : Nat) : Int) ≤ e → gdF B f n = gdF C f n
  | 0, _ => rfl
  | n + 1, q => by
    show (if gdF B f n = 1 ∧ 32 ≤ B (f + n) ∧ B (f + n) ≤ 126 then 1 else 0) = (if gdF C f n = 1 ∧ 32 ≤ C (f + n) ∧ C (f + n) ≤ 126 then 1 else 0)
    rw [gdF_c h n (by omega), h (f + n) (by omega)]
theorem c27_c {B C : Nat → Int} {e : Int} {f : Nat} (h : BE B C e) : ∀ n : Nat, ((f + n : Nat) : Int) ≤ e → c27 B f n = c27 C f n
  | 0, _ => rfl
  | n + 1, q => by
    show c27 B f n * 27 + lt7 (B (f + n)) = c27 C f n * 27 + lt7 (C (f + n))
    rw [c27_c h n (by omega), h (f + n) (by omega)]
theorem dvF_c {B C : Nat → Int} {e : Int} {f : Nat} (h : BE B C e) : ∀ n : Nat, ((f + n : Nat) : Int) ≤ e → dvF B f n = dvF C f n
  | 0, _ => rfl
  | n + 1, q => by
    show dvF B f n * 10 + (B (f + n) - 48) = dvF C f n * 10 + (C (f + n) - 48)
    rw [dvF_c h n (by omega), h (f + n) (by omega)]
theorem sk7_c2 {B C : Nat → Int} {e p : Int} (h : BE B C e) (h0 : 0 ≤ p) : sk7 B e p = sk7 C e p := skF_c h _ p h0
theorem we7_c {B C : Nat → Int} {e p : Int} (h : BE B C e) (h0 : 0 ≤ p) : we7 B e p = we7 C e p := weF_c h _ p h0
theorem de7_c {B C : Nat → Int} {e p : Int} (h : BE B C e) (h0 : 0 ≤ p) : de7 B e p = de7 C e p := deF_c h _ p h0
theorem te7_c {B C : Nat → Int} {e p : Int} (h : BE B C e) (h0 : 0 ≤ p) : te7 B e p = te7 C e p := teF_c h _ p h0
theorem tx7_c {B C : Nat → Int} {e p : Int} (h : BE B C e) (h0 : 0 ≤ p) : tx7 B e p ↔ tx7 C e p := by
  unfold tx7
  rw [te7_c h (by omega)]
  by_cases q : te7 C e (p + 1) < e
  · rw [gdF_c (B := B) (C := C) h (te7 C e (p + 1) - (p + 1)).toNat (by have t := teF_le (B := C) (e := e) (e - (p + 1)).toNat (p + 1); have u : te7 C e (p + 1) = teF C e (e - (p + 1)).toNat (p + 1) := rfl; omega)]
  · exact ⟨fun z => absurd z.1 q, fun z => absurd z.1 q⟩
theorem q7_c {B C : Nat → Int} {e p : Int} (h : BE B C e) (h0 : 0 ≤ p) (hp : p < e) : q7 B e p = q7 C e p := by
  have t := tx7_c (p := p) h h0
  have u := te7_c (p := p + 1) h (by omega)
  unfold q7
  rw [we7_c h h0, de7_c h h0, h p.toNat (by omega)]
  by_cases q : tx7 C e p
  · rw [if_pos q, if_pos (t.mpr q), u]
  · rw [if_neg q, if_neg (fun z => q (t.mp z))]
theorem weF_in {B : Nat → Int} {e p : Int} (hp : p ≤ e) : we7 B e p ≤ e := (weF_le _ p).2 hp
theorem deF_in {B : Nat → Int} {e : Int} : ∀ (f : Nat) (p : Int), p ≤ e → p ≤ deF B e f p ∧ deF B e f p ≤ e
  | 0, p, h => ⟨Int.le_refl p, h⟩
  | f + 1, p, h => by
    show p ≤ (if p < e ∧ 48 ≤ B p.toNat ∧ B p.toNat ≤ 57 then deF B e f (p + 1) else p) ∧ (if p < e ∧ 48 ≤ B p.toNat ∧ B p.toNat ≤ 57 then deF B e f (p + 1) else p) ≤ e
    split
    · have t := deF_in (B := B) (e := e) f (p + 1) (by omega)
      omega
    · exact ⟨Int.le_refl p, h⟩
theorem v7_c {B C : Nat → Int} {e p : Int} (h : BE B C e) (h0 : 0 ≤ p) (hp : p < e) : v7 B e p = v7 C e p := by
  have a := weF_in (B := C) (e := e) (p := p) (by omega)
  have a2 := (weF_le (B := C) (e := e) (e - p).toNat p).1
  have a3 : we7 C e p = weF C e (e - p).toNat p := rfl
  have b := deF_in (B := C) (e := e) (e - p).toNat p (by omega)
  have b2 : de7 C e p = deF C e (e - p).toNat p := rfl
  unfold v7
  rw [we7_c h h0, de7_c h h0, te7_c h (by omega), h p.toNat (by omega), c27_c h (we7 C e p - p).toNat (by omega), dvF_c h (de7 C e p - p).toNat (by omega)]
theorem t7_c {K B C : Nat → Int} {e p : Int} (h : BE B C e) (h0 : 0 ≤ p) (hp : p < e) : t7 K B e p = t7 K C e p := by
  unfold t7
  rw [q7_c h h0 hp, v7_c h h0 hp, h p.toNat (by omega)]

/-! GRAMMAR, as functions of the kinds of tokens: (1, a): good, up to a; (0, a): a spoils it -/
def ty7 (S : sS) (i : Int) : Int := if 0 ≤ i ∧ i < Xi S 876 7 then Xi S 877 i.toNat else 107
theorem FRT {l : List rec} {S T : sS} (f : FR l S T) (e1 : kdis l [(877, 878)] = true) (e2 : mdf l 876 7 = false) : ty7 T = ty7 S := funext fun i => by
  unfold ty7
  rw [f.x 876 7 e2, (f.smk e1).x 877 rfl]
theorem ty7_i {S : sS} {i : Int} (h0 : 0 ≤ i) (h1 : i < Xi S 876 7) : ty7 S i = Xi S 877 i.toNat := if_pos ⟨h0, h1⟩
theorem ty7_o {S : sS} {i : Int} (h : i < 0 ∨ Xi S 876 7 ≤ i) : ty7 S i = 107 := if_neg (by omega)
/-- FREE words stand ahead of row 5000 -/
def NFR (S : sS) : Prop := ∀ r : Nat, (r : Int) < Xi S 876 7 → Xi S 877 r = 100 → r < 5000
theorem NFR_FR {l : List rec} {S T : sS} (f : FR l S T) (e1 : kdis l [(877, 878)] = true) (e2 : mdf l 876 7 = false) (h : NFR S) : NFR T := by
  unfold NFR
  rw [f.x 876 7 e2]
  simp only [(f.smk e1).x 877 rfl]
  exact h
def reF (T : Int → Int) : Nat → Int → Int
  | 0, a => a
  | n + 1, a => if T a = 100 then reF T n (a + 1) else a
/-- the row behind the FREE words -/
def re7 (T : Int → Int) (a : Int) : Int := reF T 5131 a
theorem ren_re {S : sS} {lim : Int} (h : ∀ r : Nat, (r : Int) < Xi S 876 7 → Xi S 877 r = 100 → (r : Int) < lim) : ∀ (n : Nat) (r : Int), ren S lim n r = reF (ty7 S) n r
  | 0, _ => rfl
  | n + 1, r => by
    show (if 0 ≤ r ∧ r < lim ∧ r < Xi S 876 7 ∧ Xi S 877 r.toNat = 100 then ren S lim n (r + 1) else r) = if ty7 S r = 100 then reF (ty7 S) n (r + 1) else r
    rw [ren_re h n (r + 1)]
    by_cases q : 0 ≤ r ∧ r < Xi S 876 7
    · rw [ty7_i q.1 q.2]
      by_cases e : Xi S 877 r.toNat = 100
      · have t := h r.toNat (by omega) e
        rw [if_pos e, if_pos ⟨q.1, by omega, q.2, e⟩]
      · rw [if_neg e, if_neg (fun z => e z.2.2.2)]
    · rw [ty7_o (by omega), if_neg (fun z => q ⟨z.1, z.2.2.1⟩), if_neg (by decide)]
theorem ru_re {S : sS} {a lim : Int} (h : ∀ r : Nat, (r : Int) < Xi S 876 7 → Xi S 877 r = 100 → (r : Int) < lim) : ruF S a lim = re7 (ty7 S) a := ren_re h 5131 a
abbrev art7 (t : Int) : Prop := 0 ≤ t ∧ t ≤ 3
def gT (T : Int → Int) (k a : Int) : Int × Int := if T a = k then (1, a + 1) else (0, a)
def gA (T : Int → Int) (a : Int) : Int × Int := if art7 (T a) then (1, a + 1) else (0, a)
def gR (T : Int → Int) (a : Int) : Int × Int := (if T a = 100 then 1 else 0, re7 T a)
def bA (T : Int → Int) (a : Int) : Int := if art7 (T a) then a + 1 else a
def gN (T : Int → Int) (a : Int) : Int × Int := gR T (bA T a)
def gSq (x : Int × Int) (f : Int → Int × Int) : Int × Int := if x.1 = 0 then x else f x.2
def gOr (x : Int × Int) (f : Int → Int × Int) : Int × Int := if x.1 = 0 then f x.2 else x
def gBe (T : Int → Int) (a : Int) : Int × Int := gOr (gT T 4 a) (gT T 5)
def gHow (T : Int → Int) (a : Int) : Int × Int := gOr (gT T 22 a) (gT T 23)
def gBt (T : Int → Int) (a : Int) : Int × Int := if (gT T 104 a).1 = 0 then gT T 16 (gT T 104 a).2 else (1, (gT T 16 (gT T 104 a).2).2)
def gLn (T : Int → Int) : Nat → Int → Int × Int
  | 0, a => (1, a)
  | n + 1, a => if (gBt T a).1 = 0 then (1, (gBt T a).2) else if (gN T (gBt T a).2).1 = 0 then (0, (gN T (gBt T a).2).2) else gLn T n (gN T (gBt T a).2).2
def gLs (T : Int → Int) (a : Int) : Int × Int := if (gN T a).1 = 0 then (0, (gN T a).2) else gLn T 5000 (gN T a).2
abbrev pl7 (t : Int) : Prop := t = 8 ∨ t = 9 ∨ t = 29 ∨ t = 30 ∨ t = 31
def gTh (T : Int → Int) (a : Int) : Int × Int := gOr (gOr (gT T 54 a) (gT T 53)) (fun b => if T b = 2 then gOr (gT T 53 (bA T b)) (gR T) else gN T b)
def gPl (T : Int → Int) (any a : Int) : Int × Int := gSq (if T a = 29 then gT T 7 (a + 1) else if T a = 30 ∨ T a = 31 then gT T 10 (a + 1) else (1, a + 1)) (fun b => if any = 0 then gN T b else gTh T b)
def gWh (T : Int → Int) (a : Int) : Int × Int := gOr (gOr (gT T 101 a) (gT T 102)) (gR T)
def gLoF (T : Int → Int) (x y : Int) : Nat → Int → Int
  | 0, a => a
  | n + 1, a => if T a = 100 ∨ art7 (T a) ∨ T a = x ∨ T a = y then gLoF T x y n (a + 1) else a
def gLo (T : Int → Int) (x y a : Int) : Int × Int := (if gLoF T x y 5000 a = a then 0 else 1, gLoF T x y 5000 a)
/-- where a TEST ends -/
abbrev et7 (now t : Int) : Prop := t = 103 ∨ t = 105 ∨ t = 107 ∨ (now = 0 ∧ (t = 16 ∨ t = 106))
def te8F (T : Int → Int) (now : Int) : Nat → Int → Int
  | 0, a => a
  | n + 1, a => if et7 now (T a) then a else te8F T now n (a + 1)
def te8 (T : Int → Int) (now a : Int) : Int := te8F T now 5141 a
def fo7F (T : Int → Int) (k b : Int) : Nat → Int → Int
  | 0, _ => -1
  | n + 1, a => if T a = k then a else fo7F T k b n (a + 1)
def fo7 (T : Int → Int) (k a b : Int) : Int := fo7F T k b (b - a).toNat a
abbrev bp7 (T : Int → Int) (a : Int) : Prop := T a = 2 ∧ T (a + 1) = 100 ∧ T (re7 T (a + 1)) = 7
def gPt (T : Int → Int) (now a : Int) : Int × Int := gSq (gSq (gTh T (re7 T (a + 1) + 1)) (gT T 4)) (fun b => if now ≠ 0 then gWh T b else if (gOr (gT T 51 b) (gT T 52)).1 = 0 then gWh T (gT T 6 (gOr (gT T 51 b) (gT T 52)).2).2 else gSq (gT T 50 (gOr (gT T 51 b) (gT T 52)).2) (gT T 101))
def gTt (T : Int → Int) (now a : Int) : Int × Int := if fo7 T 4 a (te8 T now a) = -1 then gLo T 54 53 a else if bp7 T a then gPt T now a else gSq (gSq (gTh T a) (gT T 4)) (fun b => if now = 0 ∧ pl7 (T (gT T 6 b).2) then gPl T 1 (gT T 6 b).2 else gR T (gT T 6 b).2)
def gTsn (T : Int → Int) : Nat → Int → Int × Int
  | 0, a => (1, a)
  | n + 1, a => if (gT T 16 a).1 = 0 then (1, (gT T 16 a).2) else if (gTt T 0 (gT T 16 a).2).1 = 0 then (0, (gTt T 0 (gT T 16 a).2).2) else gTsn T n (gTt T 0 (gT T 16 a).2).2
def gTs (T : Int → Int) (a : Int) : Int × Int := if (gTt T 0 a).1 = 0 then (0, (gTt T 0 a).2) else gTsn T 5000 (gTt T 0 a).2
def gAc (T : Int → Int) (a : Int) : Int × Int := gSq (gR T a) (fun b => if (gA T b).1 = 0 then (1, (gA T b).2) else gR T (gA T b).2)
abbrev th7 (t : Int) : Prop := art7 t ∨ t = 54 ∨ t = 53
def gPh (T : Int → Int) (a : Int) : Int × Int := if (gT T 43 a).1 ≠ 0 then gT T 102 (gT T 43 a).2 else if (gT T 45 (gT T 43 a).2).1 ≠ 0 then gSq (gSq (gTh T (gT T 45 (gT T 43 a).2).2) (gT T 11)) (gTh T) else
  if (gOr (gT T 46 (gT T 45 (gT T 43 a).2).2) (gT T 47)).1 ≠ 0 then gSq (gSq (gSq (gSq (gSq (gT T 2 (gOr (gT T 46 (gT T 45 (gT T 43 a).2).2) (gT T 47)).2) (gR T)) (gT T 7)) (gTh T)) (gT T 10)) (gT T 101) else
  if (gT T 49 (gOr (gT T 46 (gT T 45 (gT T 43 a).2).2) (gT T 47)).2).1 ≠ 0 then gSq (gR T (gT T 49 (gOr (gT T 46 (gT T 45 (gT T 43 a).2).2) (gT T 47)).2).2) (fun b => if th7 (T b) then gTh T b else (1, b)) else gT T 48 (gT T 49 (gOr (gT T 46 (gT T 45 (gT T 43 a).2).2) (gT T 47)).2).2
def gP1 (T : Int → Int) (a : Int) : Int × Int := if (gT T 44 a).1 = 0 then gPh T (gT T 44 a).2 else gTt T 1 (gT T 44 a).2
def gPsn (T : Int → Int) : Nat → Int → Int × Int
  | 0, a => (1, a)
  | n + 1, a => if (gT T 105 a).1 = 0 then (1, (gT T 105 a).2) else if (gP1 T (gT T 105 a).2).1 = 0 then (0, (gP1 T (gT T 105 a).2).2) else gPsn T n (gP1 T (gT T 105 a).2).2
def gPs (T : Int → Int) (a : Int) : Int × Int := if (gP1 T a).1 = 0 then (0, (gP1 T a).2) else gPsn T 4999 (gP1 T a).2
theorem pe {a b c d : Int} (h : a = c) (k : b = d) : (a, b) = (c, d) := by rw [h, k]
/-- loops: what is left to take -/
theorem lp_0 {T : Int → Int} {f : Int → Int × Int} {l : Nat → Int → Int × Int} {X : Int × Int} {N : Nat} {a z b : Int} (hX : X = if (f a).1 = 0 then (0, (f a).2) else l N (f a).2) (h : f a = (z, b)) : (z = 1 → X = l N b) ∧ (z = 0 → X = (0, b)) := by
  rw [h] at hX
  refine ⟨fun q => ?_, fun q => ?_⟩
  · rw [hX, if_neg (by show ¬ z = 0; omega)]
  · rw [hX, if_pos (show z = 0 from q)]
theorem lp_s {g f : Int → Int × Int} {l : Nat → Int → Int × Int} (hl : ∀ n a, l (n + 1) a = if (g a).1 = 0 then (1, (g a).2) else if (f (g a).2).1 = 0 then (0, (f (g a).2).2) else l n (f (g a).2).2) {X : Int × Int} {N : Int} {n a y b z c : Int} (h : X = l (N - n).toNat a) (hn : n < N) (hg : g a = (y, b)) (hy : y ≠ 0) (hf : f b = (z, c)) : (z = 1 → X = l (N - (n + 1)).toNat c) ∧ (z = 0 → X = (0, c)) := by
  rw [show (N - n).toNat = (N - (n + 1)).toNat + 1 by omega, hl, hg, if_neg (show ¬ y = 0 from hy), hf] at h
  refine ⟨fun q => ?_, fun q => ?_⟩
  · rw [h, if_neg (by show ¬ z = 0; omega)]
  · rw [h, if_pos (show z = 0 from q)]
theorem lp_n {g f : Int → Int × Int} {l : Nat → Int → Int × Int} (hl : ∀ n a, l (n + 1) a = if (g a).1 = 0 then (1, (g a).2) else if (f (g a).2).1 = 0 then (0, (f (g a).2).2) else l n (f (g a).2).2) {X : Int × Int} {N : Int} {n a y b : Int} (h : X = l (N - n).toNat a) (hn : n < N) (hg : g a = (y, b)) (hy : y = 0) : X = (1, b) := by
  rw [show (N - n).toNat = (N - (n + 1)).toNat + 1 by omega, hl, hg, if_pos (show y = 0 from hy)] at h
  exact h
theorem lp_e {l : Nat → Int → Int × Int} (hl : ∀ a, l 0 a = (1, a)) {X : Int × Int} {N : Int} {n a : Int} (h : X = l (N - n).toNat a) (hn : N ≤ n) : X = (1, a) := by
  rw [show (N - n).toNat = 0 by omega, hl] at h
  exact h
theorem reF_le {T : Int → Int} : ∀ (n : Nat) (a : Int), a ≤ reF T n a
  | 0, a => Int.le_refl a
  | n + 1, a => by
    show a ≤ if T a = 100 then reF T n (a + 1) else a
    have t := reF_le (T := T) n (a + 1)
    split
    · omega
    · exact Int.le_refl a
theorem re7_c {T : Int → Int} {a : Int} : (T a = 100 → a < re7 T a) ∧ (T a ≠ 100 → re7 T a = a) := by
  have e : re7 T a = if T a = 100 then reF T 5130 (a + 1) else a := rfl
  have t := reF_le (T := T) 5130 (a + 1)
  rw [e]
  exact ⟨fun q => by rw [if_pos q]; omega, fun q => by rw [if_neg q]⟩
theorem gR_of {T : Int → Int} {a b : Int} (h : b = re7 T a) : gR T a = (if a < b then 1 else 0, b) := by
  have t := re7_c (T := T) (a := a)
  unfold gR
  rw [← h] at t ⊢
  by_cases q : T a = 100
  · rw [if_pos q, if_pos (t.1 q)]
  · rw [if_neg q, if_neg (by have := t.2 q; omega)]
theorem lo_u {T : Int → Int} {x y : Int} : ∀ (n : Nat) (a : Int), a ≤ gLoF T x y n a
  | 0, a => Int.le_refl a
  | n + 1, a => by
    show a ≤ if T a = 100 ∨ art7 (T a) ∨ T a = x ∨ T a = y then gLoF T x y n (a + 1) else a
    have t := lo_u (T := T) (x := x) (y := y) n (a + 1)
    split
    · omega
    · exact Int.le_refl a
theorem lo_s {T : Int → Int} {x y b v : Int} (h : v < b + 5000) (h0 : b ≤ v) (hc : T v = 100 ∨ art7 (T v) ∨ T v = x ∨ T v = y) : gLoF T x y (5000 - (v - b)).toNat v = gLoF T x y (5000 - (v + 1 - b)).toNat (v + 1) := by
  rw [show (5000 - (v - b)).toNat = (5000 - (v + 1 - b)).toNat + 1 by omega]
  show (if T v = 100 ∨ art7 (T v) ∨ T v = x ∨ T v = y then gLoF T x y (5000 - (v + 1 - b)).toNat (v + 1) else v) = _
  rw [if_pos hc]
theorem lo_n {T : Int → Int} {x y b v : Int} (hc : b + 5000 ≤ v ∨ ¬ (T v = 100 ∨ art7 (T v) ∨ T v = x ∨ T v = y)) : gLoF T x y (5000 - (v - b)).toNat v = v := by
  cases e : (5000 - (v - b)).toNat with
  | zero => rfl
  | succ n =>
    show (if T v = 100 ∨ art7 (T v) ∨ T v = x ∨ T v = y then _ else v) = v
    rw [if_neg (by omega)]
theorem lo_0 {T : Int → Int} {x y b : Int} : gLoF T x y 5000 b = gLoF T x y (5000 - (b - b)).toNat b := by
  rw [Int.sub_self]
  rfl
theorem gLo_of {T : Int → Int} {x y a v : Int} (h : gLoF T x y 5000 a = v) : gLo T x y a = (if a < v then 1 else 0, v) := by
  have t := lo_u (T := T) (x := x) (y := y) 5000 a
  unfold gLo
  rw [h] at t ⊢
  by_cases q : v = a
  · rw [if_pos q, if_neg (by omega)]
  · rw [if_neg q, if_pos (by omega)]
theorem i10 {α : Type} {a b : α} : (if (1 : Int) = 0 then a else b) = b := if_neg (by decide)
theorem i00 {α : Type} {a b : α} : (if (0 : Int) = 0 then a else b) = a := if_pos rfl
theorem n10 {α : Type} {a b : α} : (if (1 : Int) ≠ 0 then a else b) = a := if_pos (by decide)
theorem n00 {α : Type} {a b : α} : (if (0 : Int) ≠ 0 then a else b) = b := if_neg (fun q => q rfl)
theorem fo_s {T : Int → Int} {k b v : Int} (h : v < b) (hc : T v ≠ k) : fo7F T k b (b - v).toNat v = fo7F T k b (b - (v + 1)).toNat (v + 1) := by
  rw [show (b - v).toNat = (b - (v + 1)).toNat + 1 by omega]
  show (if T v = k then v else fo7F T k b (b - (v + 1)).toNat (v + 1)) = _
  rw [if_neg hc]
theorem fo_h {T : Int → Int} {k b v : Int} (h : v < b) (hc : T v = k) : fo7F T k b (b - v).toNat v = v := by
  rw [show (b - v).toNat = (b - (v + 1)).toNat + 1 by omega]
  show (if T v = k then v else _) = v
  rw [if_pos hc]
theorem fo_e {T : Int → Int} {k b v : Int} (h : b ≤ v) : fo7F T k b (b - v).toNat v = -1 := by
  rw [show (b - v).toNat = 0 by omega]
  rfl
theorem te8_s {T : Int → Int} {now a v : Int} (h0 : a ≤ v) (h : v - a < 5141) (hc : ¬ et7 now (T v)) : te8F T now (5141 - (v - a)).toNat v = te8F T now (5141 - (v + 1 - a)).toNat (v + 1) := by
  rw [show (5141 - (v - a)).toNat = (5141 - (v + 1 - a)).toNat + 1 by omega]
  show (if et7 now (T v) then v else te8F T now (5141 - (v + 1 - a)).toNat (v + 1)) = _
  rw [if_neg hc]
theorem te8_h {T : Int → Int} {now a v : Int} (h : v - a < 5141) (hc : et7 now (T v)) : te8F T now (5141 - (v - a)).toNat v = v := by
  cases (5141 - (v - a)).toNat with
  | zero => rfl
  | succ n =>
    show (if et7 now (T v) then v else _) = v
    rw [if_pos hc]
theorem te8_0 {T : Int → Int} {now a : Int} : te8 T now a = te8F T now (5141 - (a - a)).toNat a := by
  rw [Int.sub_self]
  rfl
/-- no dot and no end but the last row -/
def LST (S : sS) : Prop := ∀ r : Nat, (r : Int) + 1 < Xi S 876 7 → Xi S 877 r ≠ 103 ∧ Xi S 877 r ≠ 107
theorem LST_FR {l : List rec} {S T : sS} (f : FR l S T) (e1 : kdis l [(877, 878)] = true) (e2 : mdf l 876 7 = false) (h : LST S) : LST T := by
  unfold LST
  rw [f.x 876 7 e2]
  simp only [(f.smk e1).x 877 rfl]
  exact h
abbrev tl7 (t : Int) : Prop := t = 4 ∨ t = 5 ∨ t = 12 ∨ t = 13 ∨ t = 21
def tkF (T : Int → Int) : Nat → Int → Int
  | 0, _ => -1
  | n + 1, a => if T a = 103 ∨ T a = 107 then -1 else if tl7 (T a) then a else tkF T n (a + 1)
/-- the first is, are, has, can or relates -/
def tk7 (T : Int → Int) : Int := tkF T 5131 0
theorem tk_s {T : Int → Int} {v : Int} (h0 : 0 ≤ v) (h : v < 5131) (h1 : ¬ (T v = 103 ∨ T v = 107)) (h2 : ¬ tl7 (T v)) : tkF T (5131 - v).toNat v = tkF T (5131 - (v + 1)).toNat (v + 1) := by
  rw [show (5131 - v).toNat = (5131 - (v + 1)).toNat + 1 by omega]
  show (if T v = 103 ∨ T v = 107 then -1 else if tl7 (T v) then v else tkF T (5131 - (v + 1)).toNat (v + 1)) = _
  rw [if_neg h1, if_neg h2]
theorem tk_h {T : Int → Int} {v : Int} (h : v < 5131) (h2 : tl7 (T v)) : tkF T (5131 - v).toNat v = v := by
  rw [show (5131 - v).toNat = (5131 - (v + 1)).toNat + 1 by omega]
  show (if T v = 103 ∨ T v = 107 then -1 else if tl7 (T v) then v else _) = v
  rw [if_neg (by unfold tl7 at h2; omega), if_pos h2]
theorem tk_e {T : Int → Int} {v : Int} (h : v < 5131) (h2 : T v = 103 ∨ T v = 107) : tkF T (5131 - v).toNat v = -1 := by
  rw [show (5131 - v).toNat = (5131 - (v + 1)).toNat + 1 by omega]
  show (if T v = 103 ∨ T v = 107 then -1 else _) = -1
  rw [if_pos h2]
/-- whole sentences -/
def gRn (T : Int → Int) : Nat → Int → Int × Int
  | 0, a => (1, a)
  | n + 1, a => if (gBt T a).1 = 0 then (1, (gBt T a).2) else if (gR T (gBt T a).2).1 = 0 then (0, (gR T (gBt T a).2).2) else gRn T n (gR T (gBt T a).2).2
def ckR (T : Int → Int) (alone a : Int) : Int × Int := gSq (gR T a) (fun b => if alone ≠ 0 then gT T 103 b else if (gT T 7 b).1 ≠ 0 then gSq (gN T (gT T 7 b).2) (gT T 103) else gSq (gRn T 5000 (gT T 7 b).2) (gT T 103))
def ckB (T : Int → Int) : Int × Int := if bp7 T 0 then gSq (gSq (gSq (gN T (re7 T 1 + 1)) (gBe T)) (gWh T)) (gT T 103) else gSq (gSq (gLs T 0) (gBe T)) (fun a =>
  if T a = 0 ∧ T (a + 1) = 18 then gSq (if (gT T 7 (a + 2)).1 = 0 then (1, (gT T 7 (a + 2)).2) else gOr (gT T 20 (gT T 7 (a + 2)).2) (gN T)) (gT T 103)
  else if T a = 1 ∧ T (a + 1) = 27 then gSq (if (gT T 28 (a + 2)).1 = 0 then (1, (gT T 28 (a + 2)).2) else gSq (gSq (gT T 11 (gT T 28 (a + 2)).2) (gT T 22)) (gR T)) (gT T 103)
  else if art7 (T a) then gSq (gSq (gR T (a + 1)) (fun b => if pl7 (T b) then gPl T 0 b else (1, b))) (gT T 103)
  else if pl7 (T a) then gSq (gPl T 0 a) (gT T 103)
  else ckR T (gOr (gT T 6 a) (gT T 32)).1 (gOr (gT T 6 a) (gT T 32)).2)
def kt7 (T : Int → Int) : Int := if tk7 T = -1 then 107 else T (tk7 T)
def ckO (T : Int → Int) : Int × Int := if T 0 = 2 ∧ T 1 = 25 then gSq (gSq (gSq (gSq (gSq (gSq (gT T 11 2) (gR T)) (gT T 24)) (gT T 2)) (gR T)) (gT T 26)) (gT T 103)
  else if T 0 = 2 ∧ T 1 = 19 then gSq (gSq (gSq (gSq (gT T 7 2) (gN T)) (gBe T)) (gR T)) (gT T 103)
  else if kt7 T = 4 ∨ kt7 T = 5 then ckB T
  else if kt7 T = 12 then gSq (gSq (gSq (gSq (gSq (gSq (gN T 0) (gT T 12)) (gA T)) (gR T)) (gT T 17)) (gR T)) (gT T 103)
  else if kt7 T = 13 then gSq (gSq (gSq (gSq (gSq (gSq (gN T 0) (gT T 13)) (gT T 14)) (gR T)) (gT T 15)) (gR T)) (gT T 103)
  else if kt7 T = 21 then gSq (gSq (gSq (gSq (gSq (gSq (gSq (gN T 0) (gT T 21)) (gHow T)) (gR T)) (gT T 11)) (gHow T)) (gR T)) (gT T 103)
  else gSq (gLo T 16 104 0) (gT T 103)
def rul7 (T : Int → Int) (x : Int × Int) : Int × Int := gSq (gSq (gSq (gSq x (fun b => if (gT T 37 b).1 = 0 then (1, (gT T 37 b).2) else gTs T (gT T 37 b).2)) (gT T 106)) (gPs T)) (gT T 103)
def chk (T : Int → Int) : Int × Int := if T 0 = 102 then (1, 1) else if T 0 = 33 then gSq (gSq (gSq (gT T 102 1) (gT T 34)) (gR T)) (gT T 103)
  else if T 0 = 35 then gSq (gSq (gSq (gSq (gSq (gSq (gSq (gT T 106 1) (gA T)) (gR T)) (gT T 4)) (gR T)) (gT T 36)) (gTs T)) (gT T 103)
  else if T 0 = 38 ∨ T 0 = 40 then rul7 T (gAc T 1) else if T 0 = 39 then rul7 T (gSq (gT T 7 1) (gAc T)) else if T 0 = 41 then rul7 T (gT T 42 1) else ckO T
theorem tk_x {S : sS} {v : Int} (hls : LST S) (k : tk7 (ty7 S) = tkF (ty7 S) (5131 - v).toNat v) (h0 : 0 ≤ v) (h1 : v < 5131) (h2 : v < Xi S 876 7) (h3 : ¬ tl7 (Xi S 877 v.toNat)) : tk7 (ty7 S) = tkF (ty7 S) (5131 - (v + 1)).toNat (v + 1) := by
  have e : ty7 S v = Xi S 877 v.toNat := ty7_i h0 h2
  by_cases q : ty7 S v = 103 ∨ ty7 S v = 107
  · have l : ¬ v + 1 < Xi S 876 7 := fun z => by
      have t := hls v.toNat (by omega)
      omega
    rw [k, tk_e (by omega) q]
    by_cases w : v + 1 < 5131
    · rw [tk_e w (Or.inr (ty7_o (by omega)))]
    · rw [show (5131 - (v + 1)).toNat = 0 by omega]
      rfl
  · exact k.trans (tk_s h0 h1 q (by rw [e]; exact h3))
theorem p1_of {T : Int → Int} {a y b z c : Int} (h : (y = 0 ∧ gT T 44 a = (y, b) ∧ gPh T b = (z, c)) ∨ (y ≠ 0 ∧ gT T 44 a = (y, b) ∧ gTt T 1 b = (z, c))) : gP1 T a = (z, c) := by
  unfold gP1
  rcases h with ⟨h1, h2, h3⟩ | ⟨h1, h2, h3⟩
  · rw [h2, if_pos (show y = 0 from h1)]; exact h3
  · rw [h2, if_neg (show ¬ y = 0 from h1)]; exact h3
theorem ps_0 {S : sS} {T : Int → Int} {n v a y b z c : Int} (h0 : n = 0 → v = 1 ∧ a = Xi S 890 1) (hn : n = 0) (h : (y = 0 ∧ gT T 44 a = (y, b) ∧ gPh T b = (z, c)) ∨ (y ≠ 0 ∧ gT T 44 a = (y, b) ∧ gTt T 1 b = (z, c))) : (n + 1 = 0 → z = 1 ∧ c = Xi S 890 1) ∧ (0 < n + 1 → z = 1 → gPs T (Xi S 890 1) = gPsn T (5000 - (n + 1)).toNat c) ∧ (z = 0 → gPs T (Xi S 890 1) = (0, c)) := by
  have p := p1_of h
  have e := (h0 hn).2
  rw [e] at p
  have t := lp_0 (T := T) (f := gP1 T) (l := gPsn T) (X := gPs T (Xi S 890 1)) (N := 4999) rfl p
  refine ⟨fun q => absurd q (by omega), fun _ q => ?_, t.2⟩
  rw [show (5000 - (n + 1)).toNat = 4999 by omega]
  exact t.1 q
theorem ps_s {T : Int → Int} {X : Int × Int} {n a x d y b z c w : Int} (h : X = gPsn T (5000 - n).toNat a) (h0 : 0 < n) (hn : n < 5000) (hg : gT T 105 a = (x, d)) (hx : x ≠ 0) (hp : (y = 0 ∧ gT T 44 d = (y, b) ∧ gPh T b = (z, c)) ∨ (y ≠ 0 ∧ gT T 44 d = (y, b) ∧ gTt T 1 b = (z, c))) : (n + 1 = 0 → z = 1 ∧ c = w) ∧ (0 < n + 1 → z = 1 → X = gPsn T (5000 - (n + 1)).toNat c) ∧ (z = 0 → X = (0, c)) := by
  have t := lp_s (g := gT T 105) (f := gP1 T) (l := gPsn T) (fun _ _ => rfl) h hn hg hx (p1_of hp)
  exact ⟨fun q => absurd q (by omega), fun _ => t.1, t.2⟩
theorem ckR_0 {T : Int → Int} {al a b : Int} (h : gR T a = (0, b)) : ckR T al a = (0, b) := by
  unfold ckR gSq
  rw [h, if_pos rfl]
theorem ckR_a {T : Int → Int} {al a b : Int} (h : gR T a = (1, b)) (ha : al ≠ 0) : ckR T al a = gT T 103 b := by
  unfold ckR gSq
  rw [h, if_neg (show ¬ (1 : Int) = 0 by decide)]
  show (if al ≠ 0 then gT T 103 b else _) = _
  rw [if_pos ha]
theorem ckR_b {T : Int → Int} {al a b c : Int} (h : gR T a = (1, b)) (ha : al = 0) (h7 : gT T 7 b = (0, c)) : ckR T al a = gSq (gRn T 5000 c) (gT T 103) := by
  unfold ckR
  rw [show gSq (gR T a) _ = _ from by unfold gSq; rw [h, if_neg (show ¬ (1 : Int) = 0 by decide)]]
  show (if al ≠ 0 then gT T 103 b else if (gT T 7 b).1 ≠ 0 then gSq (gN T (gT T 7 b).2) (gT T 103) else gSq (gRn T 5000 (gT T 7 b).2) (gT T 103)) = _
  rw [if_neg (fun q => q ha), h7, if_neg (fun q => q rfl)]
theorem ckR_c {T : Int → Int} {al a b c : Int} (h : gR T a = (1, b)) (ha : al = 0) (h7 : gT T 7 b = (1, c)) : ckR T al a = gSq (gN T c) (gT T 103) := by
  unfold ckR
  rw [show gSq (gR T a) _ = _ from by unfold gSq; rw [h, if_neg (show ¬ (1 : Int) = 0 by decide)]]
  show (if al ≠ 0 then gT T 103 b else if (gT T 7 b).1 ≠ 0 then gSq (gN T (gT T 7 b).2) (gT T 103) else gSq (gRn T 5000 (gT T 7 b).2) (gT T 103)) = _
  rw [if_neg (fun q => q ha), h7, if_pos (show (1 : Int) ≠ 0 by decide)]
theorem rs_s {T : Int → Int} {X : Int × Int} {n a b z c : Int} (h : X = gSq (gRn T (5000 - n).toNat a) (gT T 103)) (hn : n < 5000) (hb : gBt T a = (1, b)) (hr : gR T b = (z, c)) : (z = 1 → X = gSq (gRn T (5000 - (n + 1)).toNat c) (gT T 103)) ∧ (z = 0 → X = (0, c)) := by
  rw [show (5000 - n).toNat = (5000 - (n + 1)).toNat + 1 by omega] at h
  have e : gRn T ((5000 - (n + 1)).toNat + 1) a = if z = 0 then (0, c) else gRn T (5000 - (n + 1)).toNat c := by
    show (if (gBt T a).1 = 0 then (1, (gBt T a).2) else if (gR T (gBt T a).2).1 = 0 then (0, (gR T (gBt T a).2).2) else gRn T (5000 - (n + 1)).toNat (gR T (gBt T a).2).2) = _
    rw [hb, if_neg (show ¬ (1 : Int) = 0 by decide), hr]
  rw [e] at h
  refine ⟨fun q => ?_, fun q => ?_⟩
  · rw [h, if_neg (by omega)]
  · rw [h, if_pos q]; rfl
theorem rs_n {T : Int → Int} {X : Int × Int} {n a b : Int} (h : X = gSq (gRn T (5000 - n).toNat a) (gT T 103)) (hn : n < 5000) (hb : gBt T a = (0, b)) : X = gT T 103 b := by
  rw [show (5000 - n).toNat = (5000 - (n + 1)).toNat + 1 by omega] at h
  have e : gRn T ((5000 - (n + 1)).toNat + 1) a = (1, b) := by
    show (if (gBt T a).1 = 0 then (1, (gBt T a).2) else _) = _
    rw [hb, if_pos rfl]
  rw [h, e]
  rfl
theorem rs_e {T : Int → Int} {X : Int × Int} {n a : Int} (h : X = gSq (gRn T (5000 - n).toNat a) (gT T 103)) (hn : 5000 ≤ n) : X = gT T 103 a := by
  rw [show (5000 - n).toNat = 0 by omega] at h
  rw [h]
  rfl
theorem kt_of {S : sS} {z t : Int} (h : tk7 (ty7 S) = z) (h2 : ty7 S z = t) : kt7 (ty7 S) = t := by
  unfold kt7
  rw [h]
  by_cases q : z = -1
  · rw [if_pos q, ← h2, ty7_o (by omega)]
  · rw [if_neg q, h2]
theorem ty_lt {S : sS} {i t : Int} (h : ty7 S i = t) : t ≠ 107 → 0 ≤ i ∧ i < Xi S 876 7 := fun q => by
  by_cases z : 0 ≤ i ∧ i < Xi S 876 7
  · exact z
  · unfold ty7 at h; rw [if_neg z] at h; exact absurd h.symm q
def ckB2 (T : Int → Int) (a : Int) : Int × Int :=
  if T a = 0 ∧ T (a + 1) = 18 then gSq (if (gT T 7 (a + 2)).1 = 0 then (1, (gT T 7 (a + 2)).2) else gOr (gT T 20 (gT T 7 (a + 2)).2) (gN T)) (gT T 103)
  else if T a = 1 ∧ T (a + 1) = 27 then gSq (if (gT T 28 (a + 2)).1 = 0 then (1, (gT T 28 (a + 2)).2) else gSq (gSq (gT T 11 (gT T 28 (a + 2)).2) (gT T 22)) (gR T)) (gT T 103)
  else if art7 (T a) then gSq (gSq (gR T (a + 1)) (fun b => if pl7 (T b) then gPl T 0 b else (1, b))) (gT T 103)
  else if pl7 (T a) then gSq (gPl T 0 a) (gT T 103)
  else ckR T (gOr (gT T 6 a) (gT T 32)).1 (gOr (gT T 6 a) (gT T 32)).2
theorem ckB_0 {T : Int → Int} (h : bp7 T 0) : ckB T = gSq (gSq (gSq (gN T (re7 T 1 + 1)) (gBe T)) (gWh T)) (gT T 103) := if_pos h
theorem ckB_1 {T : Int → Int} (h : ¬ bp7 T 0) : ckB T = gSq (gSq (gLs T 0) (gBe T)) (ckB2 T) := if_neg h
theorem ckB2_10 {T : Int → Int} {a : Int} (h : T a = 0 ∧ T (a + 1) = 18) : ckB2 T a = gSq (if (gT T 7 (a + 2)).1 = 0 then (1, (gT T 7 (a + 2)).2) else gOr (gT T 20 (gT T 7 (a + 2)).2) (gN T)) (gT T 103) := if_pos h
theorem ckB2_11 {T : Int → Int} {a : Int} (h : T a = 1 ∧ T (a + 1) = 27) : ckB2 T a = gSq (if (gT T 28 (a + 2)).1 = 0 then (1, (gT T 28 (a + 2)).2) else gSq (gSq (gT T 11 (gT T 28 (a + 2)).2) (gT T 22)) (gR T)) (gT T 103) := by
  unfold ckB2; rw [if_neg (by omega), if_pos h]
theorem ckB2_12 {T : Int → Int} {a : Int} (h0 : ¬ (T a = 0 ∧ T (a + 1) = 18)) (h1 : ¬ (T a = 1 ∧ T (a + 1) = 27)) (h : 0 ≤ T a ∧ T a ≤ 3) : ckB2 T a = gSq (gSq (gR T (a + 1)) (fun b => if pl7 (T b) then gPl T 0 b else (1, b))) (gT T 103) := by
  unfold ckB2; rw [if_neg h0, if_neg h1, if_pos h]
theorem ckB2_13 {T : Int → Int} {a : Int} (h : pl7 (T a)) : ckB2 T a = gSq (gPl T 0 a) (gT T 103) := by
  have q := h
  unfold pl7 at q
  unfold ckB2; rw [if_neg (by omega), if_neg (by omega), if_neg (by unfold art7; omega), if_pos h]
theorem ckB2_15 {T : Int → Int} {a : Int} (h : ¬ (0 ≤ T a ∧ T a ≤ 3)) (hp : ¬ pl7 (T a)) : ckB2 T a = ckR T (gOr (gT T 6 a) (gT T 32)).1 (gOr (gT T 6 a) (gT T 32)).2 := by
  unfold ckB2; rw [if_neg (by omega), if_neg (by omega), if_neg h, if_neg hp]
theorem ckO_7 {T : Int → Int} (h : T 0 = 2 ∧ T 1 = 25) : ckO T = gSq (gSq (gSq (gSq (gSq (gSq (gT T 11 2) (gR T)) (gT T 24)) (gT T 2)) (gR T)) (gT T 26)) (gT T 103) := if_pos h
theorem ckO_8 {T : Int → Int} (h : T 0 = 2 ∧ T 1 = 19) : ckO T = gSq (gSq (gSq (gSq (gT T 7 2) (gN T)) (gBe T)) (gR T)) (gT T 103) := by
  unfold ckO; rw [if_neg (by omega), if_pos h]
theorem ckO_b {T : Int → Int} (h7 : ¬ (T 0 = 2 ∧ T 1 = 25)) (h8 : ¬ (T 0 = 2 ∧ T 1 = 19)) (h : kt7 T = 4 ∨ kt7 T = 5) : ckO T = ckB T := by
  unfold ckO; rw [if_neg h7, if_neg h8, if_pos h]
theorem ckO_17 {T : Int → Int} (h7 : ¬ (T 0 = 2 ∧ T 1 = 25)) (h8 : ¬ (T 0 = 2 ∧ T 1 = 19)) (h : kt7 T = 12) : ckO T = gSq (gSq (gSq (gSq (gSq (gSq (gN T 0) (gT T 12)) (gA T)) (gR T)) (gT T 17)) (gR T)) (gT T 103) := by
  unfold ckO; rw [if_neg h7, if_neg h8, if_neg (by omega), if_pos h]
theorem ckO_18 {T : Int → Int} (h7 : ¬ (T 0 = 2 ∧ T 1 = 25)) (h8 : ¬ (T 0 = 2 ∧ T 1 = 19)) (h : kt7 T = 13) : ckO T = gSq (gSq (gSq (gSq (gSq (gSq (gN T 0) (gT T 13)) (gT T 14)) (gR T)) (gT T 15)) (gR T)) (gT T 103) := by
  unfold ckO; rw [if_neg h7, if_neg h8, if_neg (by omega), if_neg (by omega), if_pos h]
theorem ckO_19 {T : Int → Int} (h7 : ¬ (T 0 = 2 ∧ T 1 = 25)) (h8 : ¬ (T 0 = 2 ∧ T 1 = 19)) (h : kt7 T = 21) : ckO T = gSq (gSq (gSq (gSq (gSq (gSq (gSq (gN T 0) (gT T 21)) (gHow T)) (gR T)) (gT T 11)) (gHow T)) (gR T)) (gT T 103) := by
  unfold ckO; rw [if_neg h7, if_neg h8, if_neg (by omega), if_neg (by omega), if_neg (by omega), if_pos h]
theorem ckO_20 {T : Int → Int} (h7 : ¬ (T 0 = 2 ∧ T 1 = 25)) (h8 : ¬ (T 0 = 2 ∧ T 1 = 19)) (h : kt7 T ≠ 4 ∧ kt7 T ≠ 5 ∧ kt7 T ≠ 12 ∧ kt7 T ≠ 13 ∧ kt7 T ≠ 21) : ckO T = gSq (gLo T 16 104 0) (gT T 103) := by
  unfold ckO; rw [if_neg h7, if_neg h8, if_neg (by omega), if_neg (by omega), if_neg (by omega), if_neg (by omega)]
def rux7 (T : Int → Int) : Int × Int := if T 0 = 38 ∨ T 0 = 40 then gAc T 1 else if T 0 = 39 then gSq (gT T 7 1) (gAc T) else gT T 42 1
theorem chk_0 {T : Int → Int} (h : T 0 = 102) : chk T = (1, 1) := if_pos h
theorem chk_1 {T : Int → Int} (h : T 0 = 33) : chk T = gSq (gSq (gSq (gT T 102 1) (gT T 34)) (gR T)) (gT T 103) := by
  unfold chk; rw [if_neg (by omega), if_pos h]
theorem chk_2 {T : Int → Int} (h : T 0 = 35) : chk T = gSq (gSq (gSq (gSq (gSq (gSq (gSq (gT T 106 1) (gA T)) (gR T)) (gT T 4)) (gR T)) (gT T 36)) (gTs T)) (gT T 103) := by
  unfold chk; rw [if_neg (by omega), if_neg (by omega), if_pos h]
theorem chk_r {T : Int → Int} (h : T 0 = 38 ∨ T 0 = 39 ∨ T 0 = 40 ∨ T 0 = 41) : chk T = rul7 T (rux7 T) := by
  unfold chk rux7
  rw [if_neg (by omega), if_neg (by omega), if_neg (by omega)]
  by_cases q : T 0 = 38 ∨ T 0 = 40
  · rw [if_pos q, if_pos q]
  · rw [if_neg q, if_neg q]
    by_cases r : T 0 = 39
    · rw [if_pos r, if_pos r]
    · rw [if_neg r, if_neg r, if_pos (by omega)]
theorem chk_o {T : Int → Int} (h : T 0 ≠ 102 ∧ T 0 ≠ 33 ∧ T 0 ≠ 35 ∧ T 0 ≠ 38 ∧ T 0 ≠ 39 ∧ T 0 ≠ 40 ∧ T 0 ≠ 41) : chk T = ckO T := by
  unfold chk; rw [if_neg (by omega), if_neg (by omega), if_neg (by omega), if_neg (by omega), if_neg (by omega), if_neg (by omega)]
theorem gS_1 {a : Int} {f : Int → Int × Int} : gSq (1, a) f = f a := if_neg (show ¬ (1 : Int) = 0 by decide)
theorem gS_0 {a : Int} {f : Int → Int × Int} : gSq (0, a) f = (0, a) := if_pos rfl
theorem o_1 {a : Int} {f : Int → Int × Int} : gOr (1, a) f = (1, a) := if_neg (show ¬ (1 : Int) = 0 by decide)
theorem o_0 {a : Int} {f : Int → Int × Int} : gOr (0, a) f = f a := if_pos rfl

/-! GRAMMAR of the reference, by the same functions -/
def un7 (t : Int) : Int := if 100 ≤ t then t - 100 else if t = 3 then 100 else if t = 4 then 101 else if t = 5 then 102 else if t = 46 then 103 else if t = 44 then 104 else if t = 59 then 105 else if t = 58 then 106 else if t = 1 then 107 else 108
theorem un_tr : ∀ t : Fin 109, un7 (tr7 (t.val : Int)) = (t.val : Int) := by decide +kernel
theorem un_t {t : Int} (h : 0 ≤ t ∧ t ≤ 108) : un7 (tr7 t) = t := by
  have e := un_tr ⟨t.toNat, by omega⟩
  rw [show ((t.toNat : Nat) : Int) = t by omega] at e
  exact e
/-- the kinds of tokens from f on, the last is the m-th -/
def tR (S : sS) (f m : Nat) (i : Int) : Int := if 0 ≤ i ∧ i ≤ m then un7 (Xi S 907 (f + i).toNat) else 107
/-- they are such as the class has; the last one is a dot or the end, no other -/
def VLR (S : sS) (f m : Nat) : Prop := (∀ i : Nat, i ≤ m → ∃ t : Int, (0 ≤ t ∧ t ≤ 108) ∧ Xi S 907 (f + i) = tr7 t) ∧ (Xi S 907 (f + m) = 46 ∨ Xi S 907 (f + m) = 1) ∧ (∀ i : Nat, i < m → Xi S 907 (f + i) ≠ 46 ∧ Xi S 907 (f + i) ≠ 1) ∧ f + m ≤ 5000
theorem FRR {l : List rec} {S T : sS} {fs ns : Nat} (f : FR l S T) (e1 : kdis l [(907, 908)] = true) : tR T fs ns = tR S fs ns := funext fun i => by
  unfold tR
  rw [(f.smk e1).x 907 rfl]
theorem VLR_FR {l : List rec} {S T : sS} {fs ns : Nat} (f : FR l S T) (e1 : kdis l [(907, 908)] = true) (h : VLR S fs ns) : VLR T fs ns := by
  unfold VLR
  simp only [(f.smk e1).x 907 rfl]
  exact h
/-- where the reading stands, or what spoils it -/
def cu (S : sS) (f : Nat) : Int × Int := if Xi S 904 65 = 0 then (1, Xi S 904 8 - f) else (0, Xi S 904 66 - f)
theorem cu_ok {S : sS} {f : Nat} (h : Xi S 904 65 = 0) : cu S f = (1, Xi S 904 8 - f) := if_pos h
theorem cu_bad {S : sS} {f : Nat} (h : Xi S 904 65 ≠ 0) : cu S f = (0, Xi S 904 66 - f) := if_neg h
def INR (S : sS) (f m : Nat) : Prop := Xi S 904 65 = 0 → (f : Int) ≤ Xi S 904 8 ∧ Xi S 904 8 ≤ f + m
theorem tR_v {S : sS} {f m : Nat} {i k : Int} (h : VLR S f m) (h0 : 0 ≤ i) (h1 : i ≤ m) (hk : tr7 (un7 k) = k) : (Xi S 907 (f + i).toNat = k → tR S f m i = un7 k) ∧ (Xi S 907 (f + i).toNat ≠ k → tR S f m i ≠ un7 k) := by
  have e : tR S f m i = un7 (Xi S 907 (f + i).toNat) := if_pos ⟨h0, h1⟩
  obtain ⟨t, ht, ex⟩ := h.1 i.toNat (by omega)
  rw [show f + i.toNat = (f + i).toNat by omega] at ex
  rw [e]
  refine ⟨fun q => by rw [q], fun q z => q ?_⟩
  rw [ex, un_t ht] at z
  rw [ex, z]
  exact hk
theorem nx_of {S : sS} {f m : Nat} {k z : Int} (h : VLR S f m) (hI : INR S f m) (hk : tr7 (un7 k) = k) (p : z = 1 → Xi S 904 65 = 0 ∧ Xi S 907 (Xi S 904 8).toNat = k) (n : z = 0 → Xi S 904 65 = 0 → Xi S 907 (Xi S 904 8).toNat ≠ k) : (z = 1 → Xi S 904 65 = 0 ∧ tR S f m (Xi S 904 8 - f) = un7 k) ∧ (z = 0 → Xi S 904 65 = 0 → tR S f m (Xi S 904 8 - f) ≠ un7 k) := by
  refine ⟨fun q => ⟨(p q).1, ?_⟩, fun q b => ?_⟩
  · have i := hI (p q).1
    have t := tR_v (i := Xi S 904 8 - f) h (by omega) (by omega) hk
    rw [show (f : Int) + (Xi S 904 8 - f) = Xi S 904 8 by omega] at t
    exact t.1 (p q).2
  · have i := hI b
    have t := tR_v (i := Xi S 904 8 - f) h (by omega) (by omega) hk
    rw [show (f : Int) + (Xi S 904 8 - f) = Xi S 904 8 by omega] at t
    exact t.2 (n q b)
theorem cu_eq {S T : sS} {f : Nat} (h1 : Xi T 904 65 = Xi S 904 65) (h2 : Xi T 904 8 = Xi S 904 8) (h3 : Xi T 904 66 = Xi S 904 66) : cu T f = cu S f := by
  unfold cu
  rw [h1, h2, h3]
theorem tR_un {S : sS} {f m : Nat} {i : Int} (h0 : 0 ≤ i) (h1 : i ≤ m) : tR S f m i = un7 (Xi S 907 (f + i).toNat) := if_pos ⟨h0, h1⟩
theorem lk_of {S : sS} {f m : Nat} {z : Int} (h : VLR S f m) (hI : INR S f m) (b : Xi S 904 65 = 0) (hz : Xi S 907 (Xi S 904 8).toNat = z) : tR S f m (Xi S 904 8 - f) = un7 z ∧ z = tr7 (un7 z) := by
  have i := hI b
  obtain ⟨t, ht, ex⟩ := h.1 (Xi S 904 8 - f).toNat (by omega)
  rw [show f + (Xi S 904 8 - f).toNat = (Xi S 904 8).toNat by omega, hz] at ex
  refine ⟨?_, ?_⟩
  · rw [tR_un (by omega) (by omega), show (f : Int) + (Xi S 904 8 - f) = Xi S 904 8 by omega, hz]
  · rw [ex, un_t ht]
theorem un_ab (z : Int) : (100 ≤ z → un7 z = z - 100) ∧ (z < 100 → 100 ≤ un7 z) := by
  unfold un7
  refine ⟨fun h => if_pos h, fun h => ?_⟩
  rw [if_neg (by omega)]
  split
  · omega
  · split
    · omega
    · split
      · omega
      · split
        · omega
        · split
          · omega
          · split
            · omega
            · split
              · omega
              · split <;> omega
theorem gT_1 {T : Int → Int} {k a : Int} (h : T a = k) : gT T k a = (1, a + 1) := if_pos h
theorem gT_0 {T : Int → Int} {k a : Int} (h : T a ≠ k) : gT T k a = (0, a) := if_neg h
theorem gA_1 {T : Int → Int} {a : Int} (h : 0 ≤ T a ∧ T a ≤ 3) : gA T a = (1, a + 1) := if_pos h
theorem gA_0 {T : Int → Int} {a : Int} (h : ¬ (0 ≤ T a ∧ T a ≤ 3)) : gA T a = (0, a) := if_neg h
theorem bA_1 {T : Int → Int} {a : Int} (h : 0 ≤ T a ∧ T a ≤ 3) : bA T a = a + 1 := if_pos h
theorem bA_0 {T : Int → Int} {a : Int} (h : ¬ (0 ≤ T a ∧ T a ≤ 3)) : bA T a = a := if_neg h
theorem gBe_1 {T : Int → Int} {a : Int} (h : T a = 4 ∨ T a = 5) : gBe T a = (1, a + 1) := by
  unfold gBe gOr
  by_cases q : T a = 4
  · rw [gT_1 q, if_neg (show ¬ (1 : Int) = 0 by decide)]
  · rw [gT_0 q, if_pos rfl]; exact gT_1 (show T a = 5 by omega)
theorem gBe_0 {T : Int → Int} {a : Int} (h : T a ≠ 4) (h5 : T a ≠ 5) : gBe T a = (0, a) := by
  unfold gBe gOr
  rw [gT_0 h, if_pos rfl, gT_0 h5]
theorem gHow_1 {T : Int → Int} {a : Int} (h : T a = 22 ∨ T a = 23) : gHow T a = (1, a + 1) := by
  unfold gHow gOr
  by_cases q : T a = 22
  · rw [gT_1 q, if_neg (show ¬ (1 : Int) = 0 by decide)]
  · rw [gT_0 q, if_pos rfl]; exact gT_1 (show T a = 23 by omega)
theorem gHow_0 {T : Int → Int} {a : Int} (h : T a ≠ 22) (h5 : T a ≠ 23) : gHow T a = (0, a) := by
  unfold gHow gOr
  rw [gT_0 h, if_pos rfl, gT_0 h5]
theorem cu_od {S U : sS} {f : Nat} {g : Int → Int × Int} (h : cu U f = (0, (cu S f).2)) (hb : Xi S 904 65 = 0 → g (Xi S 904 8 - f) = (0, Xi S 904 8 - f)) : gSq (cu S f) g = cu U f := by
  rw [h]
  rcases (by omega : Xi S 904 65 = 0 ∨ Xi S 904 65 ≠ 0) with b | b
  · rw [cu_ok b, gS_1, hb b]
  · rw [cu_bad b, gS_0]
theorem cu_st {S U : sS} {f : Nat} {g : Int → Int × Int} {x : Int} (b : Xi S 904 65 = 0) (b2 : Xi U 904 65 = 0) (hx : Xi U 904 8 = x) (hg : g (Xi S 904 8 - f) = (1, x - f)) : gSq (cu S f) g = cu U f := by
  rw [cu_ok b, cu_ok b2, gS_1, hg, hx]
theorem reF_s {T : Int → Int} {v b : Int} (h : v - b < 5131) (h0 : b ≤ v) (hc : T v = 100) : reF T (5131 - (v - b)).toNat v = reF T (5131 - (v + 1 - b)).toNat (v + 1) := by
  rw [show (5131 - (v - b)).toNat = (5131 - (v + 1 - b)).toNat + 1 by omega]
  show (if T v = 100 then reF T (5131 - (v + 1 - b)).toNat (v + 1) else v) = _
  rw [if_pos hc]
theorem reF_n {T : Int → Int} {v : Int} {n : Nat} (hc : T v ≠ 100) : reF T n v = v := by
  cases n with
  | zero => rfl
  | succ n =>
    show (if T v = 100 then _ else v) = v
    rw [if_neg hc]
theorem re7_0 {T : Int → Int} {b : Int} : re7 T b = reF T (5131 - (b - b)).toNat b := by
  rw [Int.sub_self]
  rfl
theorem tR_k {S : sS} {f m : Nat} {a k z : Int} (h : VLR S f m) (h0 : (f : Int) ≤ a) (h1 : a ≤ f + m) (hk : tr7 (un7 k) = k) (hz : Xi S 907 a.toNat = z) : (z = k → tR S f m (a - f) = un7 k) ∧ (z ≠ k → tR S f m (a - f) ≠ un7 k) := by
  have t := tR_v (i := a - f) h (by omega) (by omega) hk
  rw [show (f : Int) + (a - f) = a by omega, hz] at t
  exact t
theorem tR_3 {S : sS} {f m : Nat} {a z : Int} (h : VLR S f m) (h0 : (f : Int) ≤ a) (h1 : a ≤ f + m) (hz : Xi S 907 a.toNat = z) : (z = 3 → tR S f m (a - f) = 100) ∧ (z ≠ 3 → tR S f m (a - f) ≠ 100) := tR_k h h0 h1 (k := 3) rfl hz
theorem in_u2 {S : sS} {f m : Nat} {a : Int} (h : VLR S f m) (h0 : (f : Int) ≤ a) (h1 : a ≤ f + m) (h2 : tR S f m (a - f) ≠ 103) (h3 : tR S f m (a - f) ≠ 107) : a + 1 ≤ f + m := by
  rcases (by omega : a + 1 ≤ f + m ∨ a = f + m) with q | q
  · exact q
  · exfalso
    rw [tR_un (by omega) (by omega), show ((f : Int) + (a - f)).toNat = f + m by omega] at h2 h3
    rcases h.2.1 with z | z
    · rw [z] at h2; exact h2 rfl
    · rw [z] at h3; exact h3 rfl
theorem gR_0 {T : Int → Int} {a : Int} (h : T a ≠ 100) : gR T a = (0, a) := by
  unfold gR
  rw [if_neg h, re7_c.2 h]
theorem gR_1 {T : Int → Int} {a b : Int} (h : T a = 100) (hr : re7 T a = b) : gR T a = (1, b) := by
  unfold gR
  rw [if_pos h, hr]
theorem gN_of {S U V : sS} {f m : Nat} (b : Xi S 904 65 = 0 → Xi V 904 65 = 0 ∧ Xi V 904 8 - f = bA (tR S f m) (Xi S 904 8 - f)) (b2 : Xi S 904 65 ≠ 0 → cu V f = cu S f) (h : gSq (cu V f) (gR (tR S f m)) = cu U f) : gSq (cu S f) (gN (tR S f m)) = cu U f := by
  rcases (by omega : Xi S 904 65 = 0 ∨ Xi S 904 65 ≠ 0) with q | q
  · obtain ⟨c1, c2⟩ := b q
    rw [cu_ok c1, gS_1, c2] at h
    rw [cu_ok q, gS_1]
    exact h
  · rw [b2 q] at h
    rw [cu_bad q, gS_0] at h ⊢
    exact h

/-! PARTIAL rows: what holds of a run if it ends (that it does, the safety rows say) -/
def Pl (f : Nat) (lay : Nat → Nat × Nat) (d : Nat) (q : mT) (pc : Nat) (L : List (Nat × Value)) (st : List Value) (S : sS) (Q : pst) : Prop := ∀ m, m < f → ∀ lv, ag lv L → ∀ G r S1, run lay (fLs q.2.2.2.2.1) (cLs q.2.2.2.2.1) (kLs q.2.2.2.2.1) q.2.2.1 q.2.2.2.1 (evd lay G d) q.2.2.2.2.2 m pc lv st S = some (r, S1) → Q r S1
def Mp (lay : Nat → Nat × Nat) (d : Nat) (q : mT) (av : List Value) (S : sS) (Q : pst) : Prop := ∀ G r S1, evd lay G d q av S = some (r, S1) → Q r S1
theorem Mt_p {lay : Nat → Nat × Nat} {d : Nat} {q : mT} {av : List Value} {S : sS} {Q Q1 : pst} (h : Mt lay d q av S Q) (hp : Mp lay d q av S Q1) : Mt lay d q av S (fun r S1 => Q r S1 ∧ Q1 r S1) := by
  obtain ⟨N, r, S1, hr, hq⟩ := h
  exact ⟨N, r, S1, hr, hq, hp N r S1 (hr N (Nat.le_refl N))⟩
theorem RI.r {S : sS} (h : RI S) (k j a : Nat) (e : rT k j = some a) : S.2.2 k j = some a := h.1 k j a e
theorem RI.rw {S : sS} (h : RI S) (k b n i : Nat) (hq : (k, b, n) ∈ rRw) (hi : i < n) : S.2.2 k i = some (b + i) := h.2.1 _ hq i hi
theorem RI_w {S : sS} {k j : Nat} {v : Int32} (h : RI S) : RI (uI S k j v) := h
theorem RI_J {S : sS} {k j : Nat} {v : Int64} (h : RI S) : RI (uJ S k j v) := h
theorem inb_no {x : Int} {n : Nat} (h : ¬ (0 ≤ x ∧ x < n)) (hx : rg x) : inb (Int32.ofInt x) n = false := by
  have e := toI hx
  unfold inb
  refine decide_eq_false (fun z => z ?_)
  by_cases q : x < 0
  · refine Or.inl ?_
    rw [Int32.lt_iff_toInt_lt, e]
    have : (0 : Int32).toInt = 0 := rfl
    omega
  · refine Or.inr ?_
    have e2 : (Int32.ofInt x).toNatClampNeg = x.toNat := by unfold Int32.toNatClampNeg; rw [e]
    rw [e2]
    omega
section PART
variable {f : Nat} {lay : Nat → Nat × Nat} {d pc : Nat} {q : mT} {L : List (Nat × Value)} {st : List Value} {S : sS} {Q : pst}
theorem Pl_0 : Pl 0 lay d q pc L st S Q := fun _ h => absurd h (Nat.not_lt_zero _)
theorem Pl_weak {g : Nat} {L1 : List (Nat × Value)} (h : Pl g lay d q pc L1 st S Q) (hf : f ≤ g) (hi : inL L1 L) : Pl f lay d q pc L st S Q := fun m hm lv ha => h m (Nat.lt_of_lt_of_le hm hf) lv (fun j v hj => ha j v (inL_at hi j v hj))
theorem Pl_sg {g : Nat} {i : Instr} {pc1 : Nat} {L1 : List (Nat × Value)} {st1 : List Value} {S1 : sS} (hf : f ≤ g + 1) (hc : lk q.2.2.2.2.2 pc = some i) (hp : pl i = true)
    (hs : ∀ lv, ag lv L → ∃ lv1, stp lay (fLs q.2.2.2.2.1) (cLs q.2.2.2.2.1) q.2.2.1 i pc lv st S = some (pc1, lv1, st1, S1) ∧ ag lv1 L1)
    (h : Pl g lay d q pc1 L1 st1 S1 Q) : Pl f lay d q pc L st S Q := by
  intro m hm lv ha G r S2 e
  obtain ⟨lv1, h1, h2⟩ := hs lv ha
  cases m with
  | zero => unfold run at e; cases e
  | succ m =>
    refine h m (by omega) lv1 h2 G r S2 ?_
    unfold run at e
    rw [hc] at e
    cases i <;> first | (cases hp; done) | (simp only [h1] at e; exact e)
theorem Pl_s {i : Instr} {pc1 : Nat} {L1 : List (Nat × Value)} {st1 : List Value} {S1 : sS} (hc : lk q.2.2.2.2.2 pc = some i) (hp : pl i = true)
    (hs : ∀ lv, ag lv L → ∃ lv1, stp lay (fLs q.2.2.2.2.1) (cLs q.2.2.2.2.1) q.2.2.1 i pc lv st S = some (pc1, lv1, st1, S1) ∧ ag lv1 L1)
    (h : Pl f lay d q pc1 L1 st1 S1 Q) : Pl f lay d q pc L st S Q := Pl_sg (Nat.le_succ f) hc hp hs h
/-- a step that can't be done -/
theorem Pl_no {i : Instr} (hc : lk q.2.2.2.2.2 pc = some i) (hp : pl i = true) (hs : ∀ lv, stp lay (fLs q.2.2.2.2.1) (cLs q.2.2.2.2.1) q.2.2.1 i pc lv st S = none) : Pl f lay d q pc L st S Q := by
  intro m hm lv ha G r S2 e
  exfalso
  have h1 := hs lv
  cases m with
  | zero => unfold run at e; cases e
  | succ m =>
    unfold run at e
    rw [hc] at e
    cases i <;> first | (cases hp; done) | (simp only [h1] at e; cases e)
theorem Pl_end {r0 : Option Value} (h : ∀ lv F G, run lay (fLs q.2.2.2.2.1) (cLs q.2.2.2.2.1) (kLs q.2.2.2.2.1) q.2.2.1 q.2.2.2.1 (evd lay G d) q.2.2.2.2.2 (F + 1) pc lv st S = some (r0, S)) (hq : Q r0 S) : Pl f lay d q pc L st S Q := by
  intro m hm lv ha G r S2 e
  cases m with
  | zero => unfold run at e; cases e
  | succ m =>
    rw [h] at e
    cases e
    exact hq
theorem y_ireturn {x : Int} (hc : lk q.2.2.2.2.2 pc = some .ireturn) (hr : retI q.2.2.2.1 (Int32.ofInt x) = true) (hq : Q (some (iv x)) S) : Pl f lay d q pc L [iv x] S Q :=
  Pl_end (fun lv F G => by unfold run; rw [hc]; show (bif retI q.2.2.2.1 (Int32.ofInt x) then some (some (Value.int (Int32.ofInt x)), S) else none) = _; rw [hr]; rfl) hq
theorem y_return (hc : lk q.2.2.2.2.2 pc = some .return_) (hr : q.2.2.2.1 = none) (hq : Q none S) : Pl f lay d q pc L [] S Q :=
  Pl_end (fun lv F G => by unfold run; rw [hc]; show (match q.2.2.2.1 with | none => some (none, S) | _ => none) = _; rw [hr]) hq
theorem y_lreturn {x : Int} (hc : lk q.2.2.2.2.2 pc = some .lreturn) (hr : q.2.2.2.1 = some .long) (hq : Q (some (jw x)) S) : Pl f lay d q pc L [jw x] S Q :=
  Pl_end (fun lv F G => by unfold run; rw [hc]; show (match q.2.2.2.1 with | some .long => some (some (Value.long (Int64.ofInt x)), S) | _ => none) = _; rw [hr]; rfl) hq
theorem y_areturn {v : Value} (hc : lk q.2.2.2.2.2 pc = some .areturn) (hr : retA q.2.2.2.1 v = true) (hq : Q (some v) S) : Pl f lay d q pc L [v] S Q :=
  Pl_end (fun lv F G => by unfold run; rw [hc]; show (bif retA q.2.2.2.1 v then some (some v, S) else none) = _; rw [hr]; rfl) hq
theorem y_callV {ix na : Nat} {md : mT} {Q1 : pst} (hc : lk q.2.2.2.2.2 pc = some (.invokevirtual ix)) (hk : kLs q.2.2.2.2.1 ix = some (0, md, na)) (ho : cOk lay md.2.2.2.2.1 na st = true) (hm : Mp lay d md (st.take (na + 1)).reverse S Q1)
    (h : ∀ r S1, Q1 r S1 → Pl f lay d q (pc + 3) L (r.toList ++ st.drop (na + 1)) S1 Q) : Pl f lay d q pc L st S Q := by
  intro m hlt lv ha G r S2 e
  cases m with
  | zero => unfold run at e; cases e
  | succ m =>
    unfold run at e
    rw [hc] at e
    simp only [hk, ho, cond_true] at e
    cases hx : evd lay G d md (st.take (na + 1)).reverse S with
    | none => rw [hx] at e; cases e
    | some x =>
      obtain ⟨r1, S1⟩ := x
      rw [hx] at e
      have h2 := h r1 S1 (hm G r1 S1 hx) m (by omega) lv ha G r S2
      cases r1 with
      | none => exact h2 e
      | some v => exact h2 e
theorem y_callT {ix na : Nat} {md : mT} {Q1 : pst} (hc : lk q.2.2.2.2.2 pc = some (.invokevirtual ix)) (hk : kLs q.2.2.2.2.1 ix = some (4, md, na)) (ho : cOkT na st = true) (hm : Mp lay d md (st.take (na + 1)).reverse S Q1)
    (h : ∀ r S1, Q1 r S1 → Pl f lay d q (pc + 3) L (r.toList ++ st.drop (na + 1)) S1 Q) : Pl f lay d q pc L st S Q := by
  intro m hlt lv ha G r S2 e
  cases m with
  | zero => unfold run at e; cases e
  | succ m =>
    unfold run at e
    rw [hc] at e
    simp only [hk, ho, cond_true] at e
    cases hx : evd lay G d md (st.take (na + 1)).reverse S with
    | none => rw [hx] at e; cases e
    | some x =>
      obtain ⟨r1, S1⟩ := x
      rw [hx] at e
      have h2 := h r1 S1 (hm G r1 S1 hx) m (by omega) lv ha G r S2
      cases r1 with
      | none => exact h2 e
      | some v => exact h2 e
theorem y_callS {ix na kd : Nat} {md : mT} {Q1 : pst} (hc : lk q.2.2.2.2.2 pc = some (.invokestatic ix)) (hk : kLs q.2.2.2.2.1 ix = some (kd, md, na)) (hd : kd = 1 ∨ kd = 3) (ho : cOkS na st = true) (hm : Mp lay d md (st.take na).reverse S Q1)
    (h : ∀ r S1, Q1 r S1 → Pl f lay d q (pc + 3) L (r.toList ++ st.drop na) S1 Q) : Pl f lay d q pc L st S Q := by
  rcases hd with rfl | rfl
  · intro m hlt lv ha G r S2 e
    cases m with
    | zero => unfold run at e; cases e
    | succ m =>
      unfold run at e
      rw [hc] at e
      simp only [hk, ho, cond_true] at e
      cases hx : evd lay G d md (st.take na).reverse S with
      | none => rw [hx] at e; cases e
      | some x =>
        obtain ⟨r1, S1⟩ := x
        rw [hx] at e
        have h2 := h r1 S1 (hm G r1 S1 hx) m (by omega) lv ha G r S2
        cases r1 with
        | none => exact h2 e
        | some v => exact h2 e
  · intro m hlt lv ha G r S2 e
    cases m with
    | zero => unfold run at e; cases e
    | succ m =>
      unfold run at e
      rw [hc] at e
      simp only [hk, ho, cond_true] at e
      cases hx : evd lay G d md (st.take na).reverse S with
      | none => rw [hx] at e; cases e
      | some x =>
        obtain ⟨r1, S1⟩ := x
        rw [hx] at e
        have h2 := h r1 S1 (hm G r1 S1 hx) m (by omega) lv ha G r S2
        cases r1 with
        | none => exact h2 e
        | some v => exact h2 e
theorem Mp_R {av : List Value} (h9 : Nat.beq q.2.2.2.2.1 99 = false) (hw : Nat.ble (wds av) q.2.2.1 = true) (h : ∀ f, Pl f lay d q 0 (lv_args 0 av) [] S Q) : Mp lay (d + 1) q av S Q := by
  intro G r S1 e
  rw [evd, h9, hw] at e
  exact h (G + 1) G (Nat.lt_succ_self G) _ (fun j v hj => hj) G r S1 e
theorem Mp_w {av : List Value} {Q1 : pst} (h : Mp lay d q av S Q1) (hq : ∀ r S1, Q1 r S1 → Q r S1) : Mp lay d q av S Q := fun G r S1 e => hq r S1 (h G r S1 e)

theorem y_iload {k : Nat} {x : Int} (hc : lk q.2.2.2.2.2 pc = some (.iload k)) (hl : lgt L k = some (iv x)) (h : Pl f lay d q (pc + 2) L (iv x :: st) S Q) : Pl f lay d q pc L st S Q :=
  Pl_s hc rfl (fun lv ha => ⟨lv, by show (match lgt lv k with | some (Value.int x) => some (pc + 2, lv, Value.int x :: st, S) | _ => (none : Option cfg)) = _; rw [ha _ _ hl]; rfl, ha⟩) h
theorem ys_iload {k : Nat} {x : Int} (hc : lk q.2.2.2.2.2 pc = some (.iload k)) (hl : lgt L k = some (iv x)) (h : Pl f lay d q (pc + 2) L (iv x :: st) S Q)   : Pl (f + 1) lay d q pc L st S Q :=
  Pl_sg (Nat.le_refl _) hc rfl (fun lv ha => ⟨lv, by show (match lgt lv k with | some (Value.int x) => some (pc + 2, lv, Value.int x :: st, S) | _ => (none : Option cfg)) = _; rw [ha _ _ hl]; rfl, ha⟩) h
theorem y_iload_n {k : _} {x : Int} (hc : lk q.2.2.2.2.2 pc = some (.iload_n k)) (hl : lgt L k = some (iv x)) (h : Pl f lay d q (pc + 1) L (iv x :: st) S Q) : Pl f lay d q pc L st S Q :=
  Pl_s hc rfl (fun lv ha => ⟨lv, by show (match lgt lv k with | some (Value.int x) => some (pc + 1, lv, Value.int x :: st, S) | _ => (none : Option cfg)) = _; rw [ha _ _ hl]; rfl, ha⟩) h
theorem ys_iload_n {k : _} {x : Int} (hc : lk q.2.2.2.2.2 pc = some (.iload_n k)) (hl : lgt L k = some (iv x)) (h : Pl f lay d q (pc + 1) L (iv x :: st) S Q)   : Pl (f + 1) lay d q pc L st S Q :=
  Pl_sg (Nat.le_refl _) hc rfl (fun lv ha => ⟨lv, by show (match lgt lv k with | some (Value.int x) => some (pc + 1, lv, Value.int x :: st, S) | _ => (none : Option cfg)) = _; rw [ha _ _ hl]; rfl, ha⟩) h
theorem y_lload {k : Nat} {x : Int} (hc : lk q.2.2.2.2.2 pc = some (.lload k)) (hl : lgt L k = some (jw x)) (h : Pl f lay d q (pc + 2) L (jw x :: st) S Q) : Pl f lay d q pc L st S Q :=
  Pl_s hc rfl (fun lv ha => ⟨lv, by show (match lgt lv k with | some (Value.long x) => some (pc + 2, lv, Value.long x :: st, S) | _ => (none : Option cfg)) = _; rw [ha _ _ hl]; rfl, ha⟩) h
theorem y_lload_n {k : _} {x : Int} (hc : lk q.2.2.2.2.2 pc = some (.lload_n k)) (hl : lgt L k = some (jw x)) (h : Pl f lay d q (pc + 1) L (jw x :: st) S Q) : Pl f lay d q pc L st S Q :=
  Pl_s hc rfl (fun lv ha => ⟨lv, by show (match lgt lv k with | some (Value.long x) => some (pc + 1, lv, Value.long x :: st, S) | _ => (none : Option cfg)) = _; rw [ha _ _ hl]; rfl, ha⟩) h
theorem y_aload {k : Nat} {x : Nat} (hc : lk q.2.2.2.2.2 pc = some (.aload k)) (hl : lgt L k = some (.ref x)) (h : Pl f lay d q (pc + 2) L (.ref x :: st) S Q) : Pl f lay d q pc L st S Q :=
  Pl_s hc rfl (fun lv ha => ⟨lv, by show (match lgt lv k with | some (Value.ref x) => some (pc + 2, lv, Value.ref x :: st, S) | _ => (none : Option cfg)) = _; rw [ha _ _ hl], ha⟩) h
theorem y_aload_n {k : _} {x : Nat} (hc : lk q.2.2.2.2.2 pc = some (.aload_n k)) (hl : lgt L k = some (.ref x)) (h : Pl f lay d q (pc + 1) L (.ref x :: st) S Q) : Pl f lay d q pc L st S Q :=
  Pl_s hc rfl (fun lv ha => ⟨lv, by show (match lgt lv k with | some (Value.ref x) => some (pc + 1, lv, Value.ref x :: st, S) | _ => (none : Option cfg)) = _; rw [ha _ _ hl], ha⟩) h
theorem ys_aload_n {k : _} {x : Nat} (hc : lk q.2.2.2.2.2 pc = some (.aload_n k)) (hl : lgt L k = some (.ref x)) (h : Pl f lay d q (pc + 1) L (.ref x :: st) S Q)   : Pl (f + 1) lay d q pc L st S Q :=
  Pl_sg (Nat.le_refl _) hc rfl (fun lv ha => ⟨lv, by show (match lgt lv k with | some (Value.ref x) => some (pc + 1, lv, Value.ref x :: st, S) | _ => (none : Option cfg)) = _; rw [ha _ _ hl], ha⟩) h
theorem y_istore {k : Nat} {x : Int} (hc : lk q.2.2.2.2.2 pc = some (.istore k)) (hk : Nat.blt k q.2.2.1 = true) (hn : nw L k = true) (h : Pl f lay d q (pc + 2) (sL L k (iv x)) st S Q) : Pl f lay d q pc L (iv x :: st) S Q :=
  Pl_s hc rfl (fun lv ha => ⟨st1 lv k (iv x), by show (bif Nat.blt k q.2.2.1 then some (pc + 2, st1 lv k (iv x), st, S) else none) = _; rw [hk]; rfl, ag_st1 ha hn⟩) h
theorem y_istore_n {k : _} {x : Int} (hc : lk q.2.2.2.2.2 pc = some (.istore_n k)) (hk : Nat.blt k q.2.2.1 = true) (hn : nw L k = true) (h : Pl f lay d q (pc + 1) (sL L k (iv x)) st S Q) : Pl f lay d q pc L (iv x :: st) S Q :=
  Pl_s hc rfl (fun lv ha => ⟨st1 lv k (iv x), by show (bif Nat.blt k q.2.2.1 then some (pc + 1, st1 lv k (iv x), st, S) else none) = _; rw [hk]; rfl, ag_st1 ha hn⟩) h
theorem y_astore {k : Nat} {x : Nat} (hc : lk q.2.2.2.2.2 pc = some (.astore k)) (hk : Nat.blt k q.2.2.1 = true) (hn : nw L k = true) (h : Pl f lay d q (pc + 2) (sL L k (Value.ref x)) st S Q) : Pl f lay d q pc L (Value.ref x :: st) S Q :=
  Pl_s hc rfl (fun lv ha => ⟨st1 lv k (Value.ref x), by show (bif Nat.blt k q.2.2.1 then some (pc + 2, st1 lv k (Value.ref x), st, S) else none) = _; rw [hk]; rfl, ag_st1 ha hn⟩) h
theorem y_astore_n {k : _} {x : Nat} (hc : lk q.2.2.2.2.2 pc = some (.astore_n k)) (hk : Nat.blt k q.2.2.1 = true) (hn : nw L k = true) (h : Pl f lay d q (pc + 1) (sL L k (Value.ref x)) st S Q) : Pl f lay d q pc L (Value.ref x :: st) S Q :=
  Pl_s hc rfl (fun lv ha => ⟨st1 lv k (Value.ref x), by show (bif Nat.blt k q.2.2.1 then some (pc + 1, st1 lv k (Value.ref x), st, S) else none) = _; rw [hk]; rfl, ag_st1 ha hn⟩) h
theorem y_lstore {k : Nat} {x : Int} (hc : lk q.2.2.2.2.2 pc = some (.lstore k)) (hk : Nat.blt (k + 1) q.2.2.1 = true) (hn : nw L k = true) (h1 : lgt L (k + 1) = none) (h : Pl f lay d q (pc + 2) (sL L k (jw x)) st S Q) : Pl f lay d q pc L (jw x :: st) S Q :=
  Pl_s hc rfl (fun lv ha => ⟨st2 lv k (jw x), by show (bif Nat.blt (k + 1) q.2.2.1 then some (pc + 2, st2 lv k (jw x), st, S) else none) = _; rw [hk]; rfl, ag_st2 ha hn h1⟩) h
theorem y_lstore_n {k : _} {x : Int} (hc : lk q.2.2.2.2.2 pc = some (.lstore_n k)) (hk : Nat.blt ((k : Nat) + 1) q.2.2.1 = true) (hn : nw L k = true) (h1 : lgt L ((k : Nat) + 1) = none) (h : Pl f lay d q (pc + 1) (sL L k (jw x)) st S Q) : Pl f lay d q pc L (jw x :: st) S Q :=
  Pl_s hc rfl (fun lv ha => ⟨st2 lv k (jw x), by show (bif Nat.blt ((k : Nat) + 1) q.2.2.1 then some (pc + 1, st2 lv k (jw x), st, S) else none) = _; rw [hk]; rfl, ag_st2 ha hn h1⟩) h
theorem y_iinc {k : Nat} {n x : Int} (hc : lk q.2.2.2.2.2 pc = some (.iinc k n)) (hl : lgt L k = some (iv x)) (hk : Nat.blt k q.2.2.1 = true) (hn : nw L k = true) (h : Pl f lay d q (pc + 3) (sL L k (iv (x + n))) st S Q) : Pl f lay d q pc L st S Q :=
  Pl_s hc rfl (fun lv ha => ⟨st1 lv k (iv (x + n)), by
    show (match lgt lv k with | some (Value.int x) => bif Nat.blt k q.2.2.1 then some (pc + 3, st1 lv k (Value.int (x + Int32.ofInt n)), st, S) else none | _ => (none : Option cfg)) = _
    rw [ha _ _ hl, hk]
    show some (pc + 3, st1 lv k (Value.int (Int32.ofInt x + Int32.ofInt n)), st, S) = _
    rw [← Int32.ofInt_add]; rfl, ag_st1 ha hn⟩) h
theorem y_iconst {n : Int} (hc : lk q.2.2.2.2.2 pc = some (.iconst n)) (h : Pl f lay d q (pc + 1) L (iv n :: st) S Q) : Pl f lay d q pc L (st) S Q :=
  Pl_s hc rfl (fun lv ha => ⟨lv, by rfl, ha⟩) h
theorem y_lconst {n : _} {z : Int} (hc : lk q.2.2.2.2.2 pc = some (.lconst n)) (hz : ((n : Nat) : Int) = z) (h : Pl f lay d q (pc + 1) L (jw z :: st) S Q) : Pl f lay d q pc L (st) S Q :=
  Pl_s hc rfl (fun lv ha => ⟨lv, by subst hz; show some (pc + 1, lv, Value.long (Int64.ofNat (n : Nat)) :: st, S) = _; rw [← Int64.ofInt_eq_ofNat]; rfl, ha⟩) h
theorem y_bipush {n : Int} (hc : lk q.2.2.2.2.2 pc = some (.bipush n)) (hn : (Int8.ofInt n).toInt32 = Int32.ofInt n) (h : Pl f lay d q (pc + 2) L (iv n :: st) S Q) : Pl f lay d q pc L (st) S Q :=
  Pl_s hc rfl (fun lv ha => ⟨lv, by show some (pc + 2, lv, Value.int (Int8.ofInt n).toInt32 :: st, S) = _; rw [hn]; rfl, ha⟩) h
theorem y_sipush {n : Int} (hc : lk q.2.2.2.2.2 pc = some (.sipush n)) (hn : (Int16.ofInt n).toInt32 = Int32.ofInt n) (h : Pl f lay d q (pc + 3) L (iv n :: st) S Q) : Pl f lay d q pc L (st) S Q :=
  Pl_s hc rfl (fun lv ha => ⟨lv, by show some (pc + 3, lv, Value.int (Int16.ofInt n).toInt32 :: st, S) = _; rw [hn]; rfl, ha⟩) h
theorem y_iadd {x y : Int} (hc : lk q.2.2.2.2.2 pc = some (.iadd)) (h : Pl f lay d q (pc + 1) L (iv (x + y) :: st) S Q) : Pl f lay d q pc L (iv y :: iv x :: st) S Q :=
  Pl_s hc rfl (fun lv ha => ⟨lv, by show some (pc + 1, lv, Value.int (Int32.ofInt x + Int32.ofInt y) :: st, S) = _; rw [← Int32.ofInt_add]; rfl, ha⟩) h
theorem y_isub {x y : Int} (hc : lk q.2.2.2.2.2 pc = some (.isub)) (h : Pl f lay d q (pc + 1) L (iv (x - y) :: st) S Q) : Pl f lay d q pc L (iv y :: iv x :: st) S Q :=
  Pl_s hc rfl (fun lv ha => ⟨lv, by show some (pc + 1, lv, Value.int (Int32.ofInt x - Int32.ofInt y) :: st, S) = _; rw [← Int32.ofInt_sub]; rfl, ha⟩) h
theorem y_imul {x y : Int} (hc : lk q.2.2.2.2.2 pc = some (.imul)) (h : Pl f lay d q (pc + 1) L (iv (x * y) :: st) S Q) : Pl f lay d q pc L (iv y :: iv x :: st) S Q :=
  Pl_s hc rfl (fun lv ha => ⟨lv, by show some (pc + 1, lv, Value.int (Int32.ofInt x * Int32.ofInt y) :: st, S) = _; rw [← Int32.ofInt_mul]; rfl, ha⟩) h
theorem y_ladd {x y : Int} (hc : lk q.2.2.2.2.2 pc = some (.ladd)) (h : Pl f lay d q (pc + 1) L (jw (x + y) :: st) S Q) : Pl f lay d q pc L (jw y :: jw x :: st) S Q :=
  Pl_s hc rfl (fun lv ha => ⟨lv, by show some (pc + 1, lv, Value.long (Int64.ofInt x + Int64.ofInt y) :: st, S) = _; rw [← Int64.ofInt_add]; rfl, ha⟩) h
theorem y_lmul {x y : Int} (hc : lk q.2.2.2.2.2 pc = some (.lmul)) (h : Pl f lay d q (pc + 1) L (jw (x * y) :: st) S Q) : Pl f lay d q pc L (jw y :: jw x :: st) S Q :=
  Pl_s hc rfl (fun lv ha => ⟨lv, by show some (pc + 1, lv, Value.long (Int64.ofInt x * Int64.ofInt y) :: st, S) = _; rw [← Int64.ofInt_mul]; rfl, ha⟩) h
theorem y_icmp_lt {x y off : Int} {t : Nat} (hc : lk q.2.2.2.2.2 pc = some (.if_icmp .lt off)) (ht : jm pc off = some t) (hx : rg x) (hy : rg y) (h1 : x < y → Pl f lay d q t L st S Q) (h2 : y ≤ x → Pl f lay d q (pc + 3) L st S Q) : Pl f lay d q pc L (iv y :: iv x :: st) S Q := by
  by_cases z : x < y
  · exact Pl_s hc rfl (fun lv ha => ⟨lv, by
      show (match jm pc off with | some t => bif cnd .lt (Int32.ofInt x) (Int32.ofInt y) then some (t, lv, st, S) else some (pc + 3, lv, st, S) | none => none) = _
      rw [ht, cn_lt hx hy, decide_eq_true z]; rfl, ha⟩) (h1 z)
  · exact Pl_s hc rfl (fun lv ha => ⟨lv, by
      show (match jm pc off with | some t => bif cnd .lt (Int32.ofInt x) (Int32.ofInt y) then some (t, lv, st, S) else some (pc + 3, lv, st, S) | none => none) = _
      rw [ht, cn_lt hx hy, decide_eq_false z]; rfl, ha⟩) (h2 (Int.not_lt.mp z))
theorem y_if_lt {x off : Int} {t : Nat} (hc : lk q.2.2.2.2.2 pc = some (.ifCond .lt off)) (ht : jm pc off = some t) (hx : rg x) (h1 : x < 0 → Pl f lay d q t L st S Q) (h2 : 0 ≤ x → Pl f lay d q (pc + 3) L st S Q) : Pl f lay d q pc L (iv x :: st) S Q := by
  by_cases z : x < 0
  · exact Pl_s hc rfl (fun lv ha => ⟨lv, by
      show (match jm pc off with | some t => bif cnd .lt (Int32.ofInt x) (Int32.ofInt 0) then some (t, lv, st, S) else some (pc + 3, lv, st, S) | none => none) = _
      rw [ht, cn_lt hx rg0, decide_eq_true z]; rfl, ha⟩) (h1 z)
  · exact Pl_s hc rfl (fun lv ha => ⟨lv, by
      show (match jm pc off with | some t => bif cnd .lt (Int32.ofInt x) (Int32.ofInt 0) then some (t, lv, st, S) else some (pc + 3, lv, st, S) | none => none) = _
      rw [ht, cn_lt hx rg0, decide_eq_false z]; rfl, ha⟩) (h2 (Int.not_lt.mp z))
theorem y_icmp_ge {x y off : Int} {t : Nat} (hc : lk q.2.2.2.2.2 pc = some (.if_icmp .ge off)) (ht : jm pc off = some t) (hx : rg x) (hy : rg y) (h1 : y ≤ x → Pl f lay d q t L st S Q) (h2 : x < y → Pl f lay d q (pc + 3) L st S Q) : Pl f lay d q pc L (iv y :: iv x :: st) S Q := by
  by_cases z : y ≤ x
  · exact Pl_s hc rfl (fun lv ha => ⟨lv, by
      show (match jm pc off with | some t => bif cnd .ge (Int32.ofInt x) (Int32.ofInt y) then some (t, lv, st, S) else some (pc + 3, lv, st, S) | none => none) = _
      rw [ht, cn_ge hx hy, decide_eq_true z]; rfl, ha⟩) (h1 z)
  · exact Pl_s hc rfl (fun lv ha => ⟨lv, by
      show (match jm pc off with | some t => bif cnd .ge (Int32.ofInt x) (Int32.ofInt y) then some (t, lv, st, S) else some (pc + 3, lv, st, S) | none => none) = _
      rw [ht, cn_ge hx hy, decide_eq_false z]; rfl, ha⟩) (h2 (Int.not_le.mp z))
theorem y_if_ge {x off : Int} {t : Nat} (hc : lk q.2.2.2.2.2 pc = some (.ifCond .ge off)) (ht : jm pc off = some t) (hx : rg x) (h1 : 0 ≤ x → Pl f lay d q t L st S Q) (h2 : x < 0 → Pl f lay d q (pc + 3) L st S Q) : Pl f lay d q pc L (iv x :: st) S Q := by
  by_cases z : 0 ≤ x
  · exact Pl_s hc rfl (fun lv ha => ⟨lv, by
      show (match jm pc off with | some t => bif cnd .ge (Int32.ofInt x) (Int32.ofInt 0) then some (t, lv, st, S) else some (pc + 3, lv, st, S) | none => none) = _
      rw [ht, cn_ge hx rg0, decide_eq_true z]; rfl, ha⟩) (h1 z)
  · exact Pl_s hc rfl (fun lv ha => ⟨lv, by
      show (match jm pc off with | some t => bif cnd .ge (Int32.ofInt x) (Int32.ofInt 0) then some (t, lv, st, S) else some (pc + 3, lv, st, S) | none => none) = _
      rw [ht, cn_ge hx rg0, decide_eq_false z]; rfl, ha⟩) (h2 (Int.not_le.mp z))
theorem y_icmp_gt {x y off : Int} {t : Nat} (hc : lk q.2.2.2.2.2 pc = some (.if_icmp .gt off)) (ht : jm pc off = some t) (hx : rg x) (hy : rg y) (h1 : y < x → Pl f lay d q t L st S Q) (h2 : x ≤ y → Pl f lay d q (pc + 3) L st S Q) : Pl f lay d q pc L (iv y :: iv x :: st) S Q := by
  by_cases z : y < x
  · exact Pl_s hc rfl (fun lv ha => ⟨lv, by
      show (match jm pc off with | some t => bif cnd .gt (Int32.ofInt x) (Int32.ofInt y) then some (t, lv, st, S) else some (pc + 3, lv, st, S) | none => none) = _
      rw [ht, cn_gt hx hy, decide_eq_true z]; rfl, ha⟩) (h1 z)
  · exact Pl_s hc rfl (fun lv ha => ⟨lv, by
      show (match jm pc off with | some t => bif cnd .gt (Int32.ofInt x) (Int32.ofInt y) then some (t, lv, st, S) else some (pc + 3, lv, st, S) | none => none) = _
      rw [ht, cn_gt hx hy, decide_eq_false z]; rfl, ha⟩) (h2 (Int.not_lt.mp z))
theorem y_icmp_le {x y off : Int} {t : Nat} (hc : lk q.2.2.2.2.2 pc = some (.if_icmp .le off)) (ht : jm pc off = some t) (hx : rg x) (hy : rg y) (h1 : x ≤ y → Pl f lay d q t L st S Q) (h2 : y < x → Pl f lay d q (pc + 3) L st S Q) : Pl f lay d q pc L (iv y :: iv x :: st) S Q := by
  by_cases z : x ≤ y
  · exact Pl_s hc rfl (fun lv ha => ⟨lv, by
      show (match jm pc off with | some t => bif cnd .le (Int32.ofInt x) (Int32.ofInt y) then some (t, lv, st, S) else some (pc + 3, lv, st, S) | none => none) = _
      rw [ht, cn_le hx hy, decide_eq_true z]; rfl, ha⟩) (h1 z)
  · exact Pl_s hc rfl (fun lv ha => ⟨lv, by
      show (match jm pc off with | some t => bif cnd .le (Int32.ofInt x) (Int32.ofInt y) then some (t, lv, st, S) else some (pc + 3, lv, st, S) | none => none) = _
      rw [ht, cn_le hx hy, decide_eq_false z]; rfl, ha⟩) (h2 (Int.not_le.mp z))
theorem y_if_le {x off : Int} {t : Nat} (hc : lk q.2.2.2.2.2 pc = some (.ifCond .le off)) (ht : jm pc off = some t) (hx : rg x) (h1 : x ≤ 0 → Pl f lay d q t L st S Q) (h2 : 0 < x → Pl f lay d q (pc + 3) L st S Q) : Pl f lay d q pc L (iv x :: st) S Q := by
  by_cases z : x ≤ 0
  · exact Pl_s hc rfl (fun lv ha => ⟨lv, by
      show (match jm pc off with | some t => bif cnd .le (Int32.ofInt x) (Int32.ofInt 0) then some (t, lv, st, S) else some (pc + 3, lv, st, S) | none => none) = _
      rw [ht, cn_le hx rg0, decide_eq_true z]; rfl, ha⟩) (h1 z)
  · exact Pl_s hc rfl (fun lv ha => ⟨lv, by
      show (match jm pc off with | some t => bif cnd .le (Int32.ofInt x) (Int32.ofInt 0) then some (t, lv, st, S) else some (pc + 3, lv, st, S) | none => none) = _
      rw [ht, cn_le hx rg0, decide_eq_false z]; rfl, ha⟩) (h2 (Int.not_le.mp z))
theorem y_icmp_eq {x y off : Int} {t : Nat} (hc : lk q.2.2.2.2.2 pc = some (.if_icmp .eq off)) (ht : jm pc off = some t) (hx : rg x) (hy : rg y) (h1 : x = y → Pl f lay d q t L st S Q) (h2 : x ≠ y → Pl f lay d q (pc + 3) L st S Q) : Pl f lay d q pc L (iv y :: iv x :: st) S Q := by
  by_cases z : x = y
  · exact Pl_s hc rfl (fun lv ha => ⟨lv, by
      show (match jm pc off with | some t => bif cnd .eq (Int32.ofInt x) (Int32.ofInt y) then some (t, lv, st, S) else some (pc + 3, lv, st, S) | none => none) = _
      rw [ht, cn_eq hx hy, decide_eq_true z]; rfl, ha⟩) (h1 z)
  · exact Pl_s hc rfl (fun lv ha => ⟨lv, by
      show (match jm pc off with | some t => bif cnd .eq (Int32.ofInt x) (Int32.ofInt y) then some (t, lv, st, S) else some (pc + 3, lv, st, S) | none => none) = _
      rw [ht, cn_eq hx hy, decide_eq_false z]; rfl, ha⟩) (h2 (z))
theorem y_if_eq {x off : Int} {t : Nat} (hc : lk q.2.2.2.2.2 pc = some (.ifCond .eq off)) (ht : jm pc off = some t) (hx : rg x) (h1 : x = 0 → Pl f lay d q t L st S Q) (h2 : x ≠ 0 → Pl f lay d q (pc + 3) L st S Q) : Pl f lay d q pc L (iv x :: st) S Q := by
  by_cases z : x = 0
  · exact Pl_s hc rfl (fun lv ha => ⟨lv, by
      show (match jm pc off with | some t => bif cnd .eq (Int32.ofInt x) (Int32.ofInt 0) then some (t, lv, st, S) else some (pc + 3, lv, st, S) | none => none) = _
      rw [ht, cn_eq hx rg0, decide_eq_true z]; rfl, ha⟩) (h1 z)
  · exact Pl_s hc rfl (fun lv ha => ⟨lv, by
      show (match jm pc off with | some t => bif cnd .eq (Int32.ofInt x) (Int32.ofInt 0) then some (t, lv, st, S) else some (pc + 3, lv, st, S) | none => none) = _
      rw [ht, cn_eq hx rg0, decide_eq_false z]; rfl, ha⟩) (h2 (z))
theorem y_icmp_ne {x y off : Int} {t : Nat} (hc : lk q.2.2.2.2.2 pc = some (.if_icmp .ne off)) (ht : jm pc off = some t) (hx : rg x) (hy : rg y) (h1 : x ≠ y → Pl f lay d q t L st S Q) (h2 : x = y → Pl f lay d q (pc + 3) L st S Q) : Pl f lay d q pc L (iv y :: iv x :: st) S Q := by
  by_cases z : x ≠ y
  · exact Pl_s hc rfl (fun lv ha => ⟨lv, by
      show (match jm pc off with | some t => bif cnd .ne (Int32.ofInt x) (Int32.ofInt y) then some (t, lv, st, S) else some (pc + 3, lv, st, S) | none => none) = _
      rw [ht, cn_ne hx hy, decide_eq_true z]; rfl, ha⟩) (h1 z)
  · exact Pl_s hc rfl (fun lv ha => ⟨lv, by
      show (match jm pc off with | some t => bif cnd .ne (Int32.ofInt x) (Int32.ofInt y) then some (t, lv, st, S) else some (pc + 3, lv, st, S) | none => none) = _
      rw [ht, cn_ne hx hy, decide_eq_false z]; rfl, ha⟩) (h2 (Decidable.not_not.mp z))
theorem y_if_ne {x off : Int} {t : Nat} (hc : lk q.2.2.2.2.2 pc = some (.ifCond .ne off)) (ht : jm pc off = some t) (hx : rg x) (h1 : x ≠ 0 → Pl f lay d q t L st S Q) (h2 : x = 0 → Pl f lay d q (pc + 3) L st S Q) : Pl f lay d q pc L (iv x :: st) S Q := by
  by_cases z : x ≠ 0
  · exact Pl_s hc rfl (fun lv ha => ⟨lv, by
      show (match jm pc off with | some t => bif cnd .ne (Int32.ofInt x) (Int32.ofInt 0) then some (t, lv, st, S) else some (pc + 3, lv, st, S) | none => none) = _
      rw [ht, cn_ne hx rg0, decide_eq_true z]; rfl, ha⟩) (h1 z)
  · exact Pl_s hc rfl (fun lv ha => ⟨lv, by
      show (match jm pc off with | some t => bif cnd .ne (Int32.ofInt x) (Int32.ofInt 0) then some (t, lv, st, S) else some (pc + 3, lv, st, S) | none => none) = _
      rw [ht, cn_ne hx rg0, decide_eq_false z]; rfl, ha⟩) (h2 (Decidable.not_not.mp z))
theorem y_goto {off : Int} {t : Nat} (hc : lk q.2.2.2.2.2 pc = some (.goto off)) (ht : jm pc off = some t) (h : Pl f lay d q t L st S Q) : Pl f lay d q pc L st S Q :=
  Pl_s hc rfl (fun lv ha => ⟨lv, by show (match jm pc off with | some t => some (t, lv, st, S) | none => none) = _; rw [ht], ha⟩) h
theorem y_gfi {ix ci j k : Nat} {b : Bool} (hc : lk q.2.2.2.2.2 pc = some (.getfield ix)) (hf : fLs q.2.2.2.2.1 ix = some (ci, j, b)) (h9 : Nat.blt ci 90 = true) (hl : layIs lay k 0 ci = true) (ht : isI (fT ci j) = true) (h : Pl f lay d q (pc + 3) L (iv (Xi S k j) :: st) S Q) : Pl f lay d q pc L (.ref k :: st) S Q :=
  Pl_s hc rfl (fun lv ha => ⟨lv, by
    show (match fLs q.2.2.2.2.1 ix with
      | some (ci, j, _) => bif Nat.blt ci 90 then (bif layIs lay k 0 ci then some (pc + 3, lv, sv (fT ci j) (S.1 k j) (S.2.1 k j) (S.2.2 k j) :: st, S) else none) else (bif Nat.beq ci 90 && (Nat.ble SB k && (strT[k - SB]?).isSome) then some (pc + 3, lv, (bif Nat.beq j 0 then Value.ref (SV + (k - SB)) else Value.int 0) :: st, S) else none)
      | none => none) = _
    rw [hf]
    show (bif Nat.blt ci 90 then (bif layIs lay k 0 ci then some (pc + 3, lv, sv (fT ci j) (S.1 k j) (S.2.1 k j) (S.2.2 k j) :: st, S) else none) else _) = _
    rw [h9, hl, sv_I ht, Xi_iv]; rfl, ha⟩) h
theorem y_gfr {ix ci j k a : Nat} {b : Bool} (hc : lk q.2.2.2.2.2 pc = some (.getfield ix)) (hf : fLs q.2.2.2.2.1 ix = some (ci, j, b)) (h9 : Nat.blt ci 90 = true) (hl : layIs lay k 0 ci = true) (ht : isR (fT ci j) = true) (hr : S.2.2 k j = some a) (h : Pl f lay d q (pc + 3) L (.ref a :: st) S Q) : Pl f lay d q pc L (.ref k :: st) S Q :=
  Pl_s hc rfl (fun lv ha => ⟨lv, by
    show (match fLs q.2.2.2.2.1 ix with
      | some (ci, j, _) => bif Nat.blt ci 90 then (bif layIs lay k 0 ci then some (pc + 3, lv, sv (fT ci j) (S.1 k j) (S.2.1 k j) (S.2.2 k j) :: st, S) else none) else (bif Nat.beq ci 90 && (Nat.ble SB k && (strT[k - SB]?).isSome) then some (pc + 3, lv, (bif Nat.beq j 0 then Value.ref (SV + (k - SB)) else Value.int 0) :: st, S) else none)
      | none => none) = _
    rw [hf]
    show (bif Nat.blt ci 90 then (bif layIs lay k 0 ci then some (pc + 3, lv, sv (fT ci j) (S.1 k j) (S.2.1 k j) (S.2.2 k j) :: st, S) else none) else _) = _
    rw [h9, hl, sv_R ht, hr]; rfl, ha⟩) h
theorem yf_go {ix ci j k : Nat} {v : Value} {S1 : sS} (hc : lk q.2.2.2.2.2 pc = some (.putfield ix)) (hf : fLs q.2.2.2.2.1 ix = some (ci, j, false)) (h9 : (Nat.blt ci 90 && (layIs lay k 0 ci && !(gF ci j))) = true) (hp : pF S ci k j v = some S1) (h : Pl f lay d q (pc + 3) L st S1 Q) : Pl f lay d q pc L (v :: .ref k :: st) S Q :=
  Pl_s hc rfl (fun lv ha => ⟨lv, by
    show (match fLs q.2.2.2.2.1 ix with
      | some (ci, j, false) => bif Nat.blt ci 90 && (layIs lay k 0 ci && !(gF ci j)) then (match pF S ci k j v with
        | some S1 => some (pc + 3, lv, st, S1)
        | none => none) else none
      | _ => none) = _
    rw [hf]
    show (bif Nat.blt ci 90 && (layIs lay k 0 ci && !(gF ci j)) then (match pF S ci k j v with
        | some S1 => some (pc + 3, lv, st, S1)
        | none => none) else none) = _
    rw [h9, hp]; rfl, ha⟩) h
theorem y_pfi {ix ci j k : Nat} {x : Int} (hc : lk q.2.2.2.2.2 pc = some (.putfield ix)) (hf : fLs q.2.2.2.2.1 ix = some (ci, j, false)) (h9 : (Nat.blt ci 90 && (layIs lay k 0 ci && !(gF ci j))) = true) (ht : fT ci j = .int) (h : Pl f lay d q (pc + 3) L st (uI S k j (Int32.ofInt x)) Q) : Pl f lay d q pc L (iv x :: .ref k :: st) S Q :=
  yf_go hc hf h9 (by unfold pF; rw [ht]; rfl) h
theorem y_pfz {ix ci j k : Nat} {x : Int} (hc : lk q.2.2.2.2.2 pc = some (.putfield ix)) (hf : fLs q.2.2.2.2.1 ix = some (ci, j, false)) (h9 : (Nat.blt ci 90 && (layIs lay k 0 ci && !(gF ci j))) = true) (ht : fT ci j = .boolean) (hx : x = 0 ∨ x = 1) (h : Pl f lay d q (pc + 3) L st (uI S k j (Int32.ofInt x)) Q) : Pl f lay d q pc L (iv x :: .ref k :: st) S Q :=
  yf_go hc hf h9 (by unfold pF; rw [ht]; rcases hx with rfl | rfl <;> rfl) h
theorem y_pfr {ix ci j k a : Nat} {ty : FieldType} (hc : lk q.2.2.2.2.2 pc = some (.putfield ix)) (hf : fLs q.2.2.2.2.1 ix = some (ci, j, false)) (h9 : (Nat.blt ci 90 && (layIs lay k 0 ci && !(gF ci j))) = true) (ht : fT ci j = .array ty) (h : Pl f lay d q (pc + 3) L st (uR S k j (some a)) Q) : Pl f lay d q pc L (.ref a :: .ref k :: st) S Q :=
  yf_go hc hf h9 (by unfold pF; rw [ht]) h
theorem y_iaload {k n : Nat} {x : Int} (hc : lk q.2.2.2.2.2 pc = some .iaload) (hl : lay k = (1, n)) (h0 : 0 ≤ x) (h1 : x < n) (hx : rg x) (h : Pl f lay d q (pc + 1) L (iv (Xi S k x.toNat) :: st) S Q) : Pl f lay d q pc L (iv x :: .ref k :: st) S Q :=
  Pl_s hc rfl (fun lv ha => ⟨lv, by
    show (bif Nat.beq (lay k).1 1 && inb (Int32.ofInt x) (lay k).2 then some (pc + 1, lv, Value.int (S.1 k (Int32.ofInt x).toNatClampNeg) :: st, S) else none) = _
    rw [hl, inb_i h0 h1 hx, ix_i hx, Xi_iv]; rfl, ha⟩) h
theorem y_laload {k n : Nat} {x : Int} (hc : lk q.2.2.2.2.2 pc = some .laload) (hl : lay k = (2, n)) (h0 : 0 ≤ x) (h1 : x < n) (hx : rg x) (h : Pl f lay d q (pc + 1) L (jw (Xj S k x.toNat) :: st) S Q) : Pl f lay d q pc L (iv x :: .ref k :: st) S Q :=
  Pl_s hc rfl (fun lv ha => ⟨lv, by
    show (bif Nat.beq (lay k).1 2 && inb (Int32.ofInt x) (lay k).2 then some (pc + 1, lv, Value.long (S.2.1 k (Int32.ofInt x).toNatClampNeg) :: st, S) else none) = _
    rw [hl, inb_i h0 h1 hx, ix_i hx, Xj_jw]; rfl, ha⟩) h
theorem y_baload {k n t : Nat} {x : Int} (hc : lk q.2.2.2.2.2 pc = some .baload) (hv : Nat.ble SV k = false) (hl : lay k = (t, n)) (ht : t = 3 ∨ t = 4) (h0 : 0 ≤ x) (h1 : x < n) (hx : rg x) (h : Pl f lay d q (pc + 1) L (iv (Xi S k x.toNat) :: st) S Q) : Pl f lay d q pc L (iv x :: .ref k :: st) S Q :=
  Pl_s hc rfl (fun lv ha => ⟨lv, by
    show (bif Nat.ble SV k then _ else bif (Nat.beq (lay k).1 3 || Nat.beq (lay k).1 4) && inb (Int32.ofInt x) (lay k).2 then some (pc + 1, lv, Value.int (S.1 k (Int32.ofInt x).toNatClampNeg) :: st, S) else none) = _
    rw [hv, hl, inb_i h0 h1 hx, ix_i hx, Xi_iv]; rcases ht with rfl | rfl <;> rfl, ha⟩) h
theorem y_aaload {k n a t : Nat} {x : Int} (hc : lk q.2.2.2.2.2 pc = some .aaload) (hl : lay k = (t, n)) (ht : t = 5 ∨ t = 6) (h0 : 0 ≤ x) (h1 : x < n) (hx : rg x) (hr : S.2.2 k x.toNat = some a) (h : Pl f lay d q (pc + 1) L (.ref a :: st) S Q) : Pl f lay d q pc L (iv x :: .ref k :: st) S Q :=
  Pl_s hc rfl (fun lv ha => ⟨lv, by
    show (bif (Nat.beq (lay k).1 5 || Nat.beq (lay k).1 6) && inb (Int32.ofInt x) (lay k).2 then some (pc + 1, lv, rv (S.2.2 k (Int32.ofInt x).toNatClampNeg) :: st, S) else none) = _
    rw [hl, inb_i h0 h1 hx, ix_i hx, hr]; rcases ht with rfl | rfl <;> rfl, ha⟩) h
theorem y_iastore {k n : Nat} {x v : Int} (hc : lk q.2.2.2.2.2 pc = some .iastore) (hl : lay k = (1, n)) (h0 : 0 ≤ x) (h1 : x < n) (hx : rg x) (h : Pl f lay d q (pc + 1) L st (uI S k x.toNat (Int32.ofInt v)) Q) : Pl f lay d q pc L (iv v :: iv x :: .ref k :: st) S Q :=
  Pl_s hc rfl (fun lv ha => ⟨lv, by
    show (bif Nat.beq (lay k).1 1 && inb (Int32.ofInt x) (lay k).2 then some (pc + 1, lv, st, uI S k (Int32.ofInt x).toNatClampNeg (Int32.ofInt v)) else none) = _
    rw [hl, inb_i h0 h1 hx, ix_i hx]; rfl, ha⟩) h
theorem y_lastore {k n : Nat} {x v : Int} (hc : lk q.2.2.2.2.2 pc = some .lastore) (hl : lay k = (2, n)) (h0 : 0 ≤ x) (h1 : x < n) (hx : rg x) (h : Pl f lay d q (pc + 1) L st (uJ S k x.toNat (Int64.ofInt v)) Q) : Pl f lay d q pc L (jw v :: iv x :: .ref k :: st) S Q :=
  Pl_s hc rfl (fun lv ha => ⟨lv, by
    show (bif Nat.beq (lay k).1 2 && inb (Int32.ofInt x) (lay k).2 then some (pc + 1, lv, st, uJ S k (Int32.ofInt x).toNatClampNeg (Int64.ofInt v)) else none) = _
    rw [hl, inb_i h0 h1 hx, ix_i hx]; rfl, ha⟩) h
theorem y_dup {v : Value} (hc : lk q.2.2.2.2.2 pc = some .dup) (hv : Nat.beq v.category 1 = true) (h : Pl f lay d q (pc + 1) L (v :: v :: st) S Q) : Pl f lay d q pc L (v :: st) S Q :=
  Pl_s hc rfl (fun lv ha => ⟨lv, by show (bif Nat.beq v.category 1 then some (pc + 1, lv, v :: v :: st, S) else none) = _; rw [hv]; rfl, ha⟩) h
theorem y_pop {v : Value} (hc : lk q.2.2.2.2.2 pc = some .pop) (hv : Nat.beq v.category 1 = true) (h : Pl f lay d q (pc + 1) L st S Q) : Pl f lay d q pc L (v :: st) S Q :=
  Pl_s hc rfl (fun lv ha => ⟨lv, by show (bif Nat.beq v.category 1 then some (pc + 1, lv, st, S) else none) = _; rw [hv]; rfl, ha⟩) h
theorem y_dup2 {v u : Value} (hc : lk q.2.2.2.2.2 pc = some .dup2) (hv : (Nat.beq v.category 1 && Nat.beq u.category 1) = true) (h : Pl f lay d q (pc + 1) L (v :: u :: v :: u :: st) S Q) : Pl f lay d q pc L (v :: u :: st) S Q :=
  Pl_s hc rfl (fun lv ha => ⟨lv, by show (bif Nat.beq v.category 1 && Nat.beq u.category 1 then some (pc + 1, lv, v :: u :: v :: u :: st, S) else none) = _; rw [hv]; rfl, ha⟩) h
theorem y_bastoreZ {k n : Nat} {x v : Int} (hc : lk q.2.2.2.2.2 pc = some .bastore) (hl : lay k = (4, n)) (h0 : 0 ≤ x) (h1 : x < n) (hx : rg x) (h : Pl f lay d q (pc + 1) L st (uI S k x.toNat (vp_nar .boolean (Int32.ofInt v))) Q) : Pl f lay d q pc L (iv v :: iv x :: .ref k :: st) S Q :=
  Pl_s hc rfl (fun lv ha => ⟨lv, by
    show (bif inb (Int32.ofInt x) (lay k).2 then (bif Nat.beq (lay k).1 3 then some (pc + 1, lv, st, uI S k (Int32.ofInt x).toNatClampNeg (vp_nar .byte (Int32.ofInt v))) else bif Nat.beq (lay k).1 4 then some (pc + 1, lv, st, uI S k (Int32.ofInt x).toNatClampNeg (vp_nar .boolean (Int32.ofInt v))) else none) else none) = _
    rw [hl, inb_i h0 h1 hx, ix_i hx]; rfl, ha⟩) h
theorem y_bastoreZ1 {k n : Nat} {x v : Int} (hc : lk q.2.2.2.2.2 pc = some .bastore) (hl : lay k = (4, n)) (h0 : 0 ≤ x) (h1 : x < n) (hx : rg x) (hv : 0 ≤ v ∧ v ≤ 1) (h : Pl f lay d q (pc + 1) L st (uI S k x.toNat (Int32.ofInt v)) Q) : Pl f lay d q pc L (iv v :: iv x :: .ref k :: st) S Q :=
  y_bastoreZ hc hl h0 h1 hx (by rw [nar_z hv]; exact h)
theorem y_alen {k n t : Nat} {z : Int} (hc : lk q.2.2.2.2.2 pc = some .arraylength) (hv : Nat.ble SV k = false) (hl : lay k = (t, n)) (ht : (Nat.ble 1 t && Nat.ble t 6) = true) (hz : Int32.ofNat n = Int32.ofInt z) (h : Pl f lay d q (pc + 1) L (iv z :: st) S Q) : Pl f lay d q pc L (.ref k :: st) S Q :=
  Pl_s hc rfl (fun lv ha => ⟨lv, by
    show (bif Nat.ble SV k then _ else bif Nat.ble 1 (lay k).1 && Nat.ble (lay k).1 6 then some (pc + 1, lv, Value.int (Int32.ofNat (lay k).2) :: st, S) else none) = _
    rw [hv, hl]
    show (bif Nat.ble 1 t && Nat.ble t 6 then some (pc + 1, lv, Value.int (Int32.ofNat n) :: st, S) else none) = _
    rw [ht, hz]; rfl, ha⟩) h
theorem y_lcmp {x y : Int} (hc : lk q.2.2.2.2.2 pc = some .lcmp) (hx : rgL x) (hy : rgL y) (h : ∀ c : Int, (-1 ≤ c ∧ c ≤ 1) → (c < 0 → x < y) → (c = 0 → x = y) → (0 < c → y < x) → Pl f lay d q (pc + 1) L (iv c :: st) S Q) : Pl f lay d q pc L (jw y :: jw x :: st) S Q := by
  have go : ∀ c : Int, lg_cmp (Int64.ofInt x) (Int64.ofInt y) = Int32.ofInt c → Pl f lay d q (pc + 1) L (iv c :: st) S Q → Pl f lay d q pc L (jw y :: jw x :: st) S Q := fun c e hh =>
    Pl_s hc rfl (fun lv ha => ⟨lv, by
      show some (pc + 1, lv, Value.int (lg_cmp (Int64.ofInt x) (Int64.ofInt y)) :: st, S) = _
      rw [e]; rfl, ha⟩) hh
  rcases Int.lt_trichotomy x y with h1 | h1 | h1
  · refine go (-1) ?_ (h (-1) (by omega) (by omega) (by omega) (by omega))
    unfold lg_cmp
    have a := (i64_lt hx hy).mpr h1
    have b : ¬ (Int64.ofInt y < Int64.ofInt x) := fun z => by have := (i64_lt hy hx).mp z; omega
    have c : ¬ (Int64.ofInt x = Int64.ofInt y) := fun z => by have := (i64_eq hx hy).mp z; omega
    simp [a, b, c]
    try rfl
  · refine go 0 ?_ (h 0 (by omega) (by omega) (by omega) (by omega))
    subst h1
    unfold lg_cmp
    simp
    try rfl
  · refine go 1 ?_ (h 1 (by omega) (by omega) (by omega) (by omega))
    unfold lg_cmp
    have a := (i64_lt hy hx).mpr h1
    have b : ¬ (Int64.ofInt x < Int64.ofInt y) := fun z => by have := (i64_lt hx hy).mp z; omega
    have c : ¬ (Int64.ofInt x = Int64.ofInt y) := fun z => by have := (i64_eq hx hy).mp z; omega
    simp [a, b, c]
    try rfl
theorem y_i2l {x : Int} (hc : lk q.2.2.2.2.2 pc = some .i2l) (hx : rg x) (h : Pl f lay d q (pc + 1) L (jw x :: st) S Q) : Pl f lay d q pc L (iv x :: st) S Q :=
  Pl_s hc rfl (fun lv ha => ⟨lv, by
    show some (pc + 1, lv, Value.long (Int32.ofInt x).toInt64 :: st, S) = _
    have e : (Int32.ofInt x).toInt64 = Int64.ofInt x := by
      rw [← ofJ_toJ (v := (Int32.ofInt x).toInt64), Int32.toInt_toInt64, toI hx]
    rw [e]; rfl, ha⟩) h
theorem y_l2i {x : Int} (hc : lk q.2.2.2.2.2 pc = some .l2i) (h : ∀ c : Int, rg c → (rg x → rgL x → c = x) → Pl f lay d q (pc + 1) L (iv c :: st) S Q) : Pl f lay d q pc L (jw x :: st) S Q :=
  Pl_s hc rfl (fun lv ha => ⟨lv, by
    show some (pc + 1, lv, Value.int (Int64.ofInt x).toInt32 :: st, S) = _
    rw [← ofI_toI (v := (Int64.ofInt x).toInt32)]; rfl, ha⟩) (h _ rg_toI (fun h1 h2 => by rw [Int64.toInt_toInt32, toJ h2]; exact Int.bmod_eq_of_le (by unfold rg at h1; omega) (by unfold rg at h1; omega)))
theorem y_ldc2 {ix : Nat} {z : Int} (hc : lk q.2.2.2.2.2 pc = some (.ldc2_w ix)) (hz : cLs q.2.2.2.2.1 ix = some (jw z)) (h : Pl f lay d q (pc + 3) L (jw z :: st) S Q) : Pl f lay d q pc L st S Q :=
  Pl_s hc rfl (fun lv ha => ⟨lv, by
    show (match cLs q.2.2.2.2.1 ix with | some (.long v) => some (pc + 3, lv, Value.long v :: st, S) | _ => none) = _
    rw [hz]; rfl, ha⟩) h
theorem y_iorF {x y : Int} (hc : lk q.2.2.2.2.2 pc = some .ior) (h : Pl f lay d q (pc + 1) L (iv (iorF x y) :: st) S Q) : Pl f lay d q pc L (iv y :: iv x :: st) S Q :=
  Pl_s hc rfl (fun lv ha => ⟨lv, by
    show some (pc + 1, lv, Value.int (Int32.ofInt x ||| Int32.ofInt y) :: st, S) = _
    unfold iv iorF; rw [ofI_toI], ha⟩) h
theorem y_iandF {x y : Int} (hc : lk q.2.2.2.2.2 pc = some .iand) (h : Pl f lay d q (pc + 1) L (iv (iandF x y) :: st) S Q) : Pl f lay d q pc L (iv y :: iv x :: st) S Q :=
  Pl_s hc rfl (fun lv ha => ⟨lv, by
    show some (pc + 1, lv, Value.int (Int32.ofInt x &&& Int32.ofInt y) :: st, S) = _
    unfold iv iandF; rw [ofI_toI], ha⟩) h
theorem y_ixorF {x y : Int} (hc : lk q.2.2.2.2.2 pc = some .ixor) (h : Pl f lay d q (pc + 1) L (iv (ixorF x y) :: st) S Q) : Pl f lay d q pc L (iv y :: iv x :: st) S Q :=
  Pl_s hc rfl (fun lv ha => ⟨lv, by
    show some (pc + 1, lv, Value.int (Int32.ofInt x ^^^ Int32.ofInt y) :: st, S) = _
    unfold iv ixorF; rw [ofI_toI], ha⟩) h
theorem y_ishlF {x y : Int} (hc : lk q.2.2.2.2.2 pc = some .ishl) (h : Pl f lay d q (pc + 1) L (iv (ishlF x y) :: st) S Q) : Pl f lay d q pc L (iv y :: iv x :: st) S Q :=
  Pl_s hc rfl (fun lv ha => ⟨lv, by
    show some (pc + 1, lv, Value.int (Int32.ofInt x <<< (Int32.ofInt y &&& 31)) :: st, S) = _
    unfold iv ishlF; rw [ofI_toI], ha⟩) h
theorem y_ishrF {x y : Int} (hc : lk q.2.2.2.2.2 pc = some .ishr) (h : Pl f lay d q (pc + 1) L (iv (ishrF x y) :: st) S Q) : Pl f lay d q pc L (iv y :: iv x :: st) S Q :=
  Pl_s hc rfl (fun lv ha => ⟨lv, by
    show some (pc + 1, lv, Value.int (Int32.ofInt x >>> (Int32.ofInt y &&& 31)) :: st, S) = _
    unfold iv ishrF; rw [ofI_toI], ha⟩) h
theorem y_lorF {x y : Int} (hc : lk q.2.2.2.2.2 pc = some .lor) (h : Pl f lay d q (pc + 1) L (jw (lorF x y) :: st) S Q) : Pl f lay d q pc L (jw y :: jw x :: st) S Q :=
  Pl_s hc rfl (fun lv ha => ⟨lv, by
    show some (pc + 1, lv, Value.long (Int64.ofInt x ||| Int64.ofInt y) :: st, S) = _
    unfold jw lorF; rw [ofJ_toJ], ha⟩) h
theorem y_lshlF {x y : Int} (hc : lk q.2.2.2.2.2 pc = some .lshl) (h : Pl f lay d q (pc + 1) L (jw (lshlF x y) :: st) S Q) : Pl f lay d q pc L (iv y :: jw x :: st) S Q :=
  Pl_s hc rfl (fun lv ha => ⟨lv, by
    show some (pc + 1, lv, Value.long (Int64.ofInt x <<< ((Int32.ofInt y).toInt64 &&& 63)) :: st, S) = _
    unfold jw lshlF; rw [ofJ_toJ], ha⟩) h
theorem y_lshrF {x y : Int} (hc : lk q.2.2.2.2.2 pc = some .lshr) (h : Pl f lay d q (pc + 1) L (jw (lshrF x y) :: st) S Q) : Pl f lay d q pc L (iv y :: jw x :: st) S Q :=
  Pl_s hc rfl (fun lv ha => ⟨lv, by
    show some (pc + 1, lv, Value.long (Int64.ofInt x >>> ((Int32.ofInt y).toInt64 &&& 63)) :: st, S) = _
    unfold jw lshrF; rw [ofJ_toJ], ha⟩) h
theorem y_ishr8 {x : Int} (hc : lk q.2.2.2.2.2 pc = some .ishr) (hx : rg x) (h : Pl f lay d q (pc + 1) L (iv (x / 256) :: st) S Q) : Pl f lay d q pc L (iv 8 :: iv x :: st) S Q :=
  Pl_s hc rfl (fun lv ha => ⟨lv, by
    show some (pc + 1, lv, Value.int (Int32.ofInt x >>> (Int32.ofInt 8 &&& 31)) :: st, S) = _
    rw [shr8 hx]; rfl, ha⟩) h
theorem y_iand255 {x : Int} (hc : lk q.2.2.2.2.2 pc = some .iand) (hx : rg x) (h : Pl f lay d q (pc + 1) L (iv (x % 256) :: st) S Q) : Pl f lay d q pc L (iv 255 :: iv x :: st) S Q :=
  Pl_s hc rfl (fun lv ha => ⟨lv, by
    show some (pc + 1, lv, Value.int (Int32.ofInt x &&& Int32.ofInt 255) :: st, S) = _
    rw [and255 hx]; rfl, ha⟩) h
theorem y_tsw {x df lo hi : Int} {offs : Array Int} {t0 : Nat} {ts : List Nat} (hc : lk q.2.2.2.2.2 pc = some (.tableswitch df lo hi offs)) (h0 : jm pc df = some t0) (ht : tgs pc offs.toList = some ts) (hn : (hi - lo + 1).toNat = offs.toList.length) (hx : rg x) (h1 : (x < lo ∨ hi < x) → Pl f lay d q t0 L st S Q) (h2 : ∀ (i : Nat) (t : Nat), ts[i]? = some t → x = lo + i → Pl f lay d q t L st S Q) : Pl f lay d q pc L (iv x :: st) S Q := by
  have e := toI hx
  by_cases z : x < lo ∨ hi < x
  · refine Pl_s hc rfl (fun lv ha => ⟨lv, ?_, ha⟩) (h1 z)
    show (bif decide ((Int32.ofInt x).toInt < lo ∨ hi < (Int32.ofInt x).toInt) then (match jm pc df with
        | some t => some (t, lv, st, S)
        | none => none) else _) = _
    rw [e, decide_eq_true z, h0]; rfl
  · have hi1 : (x - lo).toNat < offs.toList.length := by omega
    obtain ⟨t, a, b⟩ := tgs_at ht (List.getElem?_eq_getElem hi1)
    refine Pl_s hc rfl (fun lv ha => ⟨lv, ?_, ha⟩) (h2 _ t a (by omega))
    show (bif decide ((Int32.ofInt x).toInt < lo ∨ hi < (Int32.ofInt x).toInt) then _ else (match offs[((Int32.ofInt x).toInt - lo).toNat]? with
        | some o => (match jm pc o with
          | some t => some (t, lv, st, S)
          | none => none)
        | none => none)) = _
    rw [e, decide_eq_false z]
    have e2 : offs[(x - lo).toNat]? = some (offs.toList[(x - lo).toNat]) := by
      rw [← Array.getElem?_toList]; exact List.getElem?_eq_getElem hi1
    show (match offs[(x - lo).toNat]? with
        | some o => (match jm pc o with
          | some t => some (t, lv, st, S)
          | none => none)
        | none => none) = _
    rw [e2]
    show (match jm pc (offs.toList[(x - lo).toNat]) with
          | some t => some (t, lv, st, S)
          | none => none) = _
    rw [b]
theorem y_idivA {x y : Int} (hc : lk q.2.2.2.2.2 pc = some .idiv) (h1 : 0 < y) (hx : rg x) (hy : rg y) (h : ∀ c : Int, (-2147483648 ≤ c ∧ c ≤ 2147483647) → (0 ≤ x → c = x / y) → (x < 0 → x ≤ c ∧ c ≤ 0) → Pl f lay d q (pc + 1) L (iv c :: st) S Q) : Pl f lay d q pc L (iv y :: iv x :: st) S Q :=
  Pl_s hc rfl (fun lv ha => ⟨lv, by
    show (bif decide (¬ Int32.ofInt y = 0) then some (pc + 1, lv, Value.int (Int32.ofInt x / Int32.ofInt y) :: st, S) else none) = _
    rw [nz32 (by omega) hy, ← ofI_toI (v := Int32.ofInt x / Int32.ofInt y), div32 h1 hx hy]; rfl, ha⟩) (by
    have t := tdv (x := x) h1
    unfold rg at hx
    exact h _ (by omega) (fun a => (t.1 a).1) (fun a => t.2 a))
theorem y_idivP {x y : Int} (hc : lk q.2.2.2.2.2 pc = some .idiv) (h0 : 0 ≤ x) (h1 : 0 < y) (hx : rg x) (hy : rg y) (h : Pl f lay d q (pc + 1) L (iv (x / y) :: st) S Q) : Pl f lay d q pc L (iv y :: iv x :: st) S Q :=
  y_idivA hc h1 hx hy (fun c _ e _ => by rw [e h0]; exact h)
theorem y_iremA {x y : Int} (hc : lk q.2.2.2.2.2 pc = some .irem) (h1 : 0 < y) (hx : rg x) (hy : rg y) (h : ∀ c : Int, (-2147483648 ≤ c ∧ c ≤ 2147483647) → (0 ≤ x → c = x % y) → True → Pl f lay d q (pc + 1) L (iv c :: st) S Q) : Pl f lay d q pc L (iv y :: iv x :: st) S Q :=
  Pl_s hc rfl (fun lv ha => ⟨lv, by
    show (bif decide (¬ Int32.ofInt y = 0) then some (pc + 1, lv, Value.int (Int32.ofInt x - Int32.ofInt x / Int32.ofInt y * Int32.ofInt y) :: st, S) else none) = _
    rw [nz32 (by omega) hy, ← ofI_toI (v := Int32.ofInt x - Int32.ofInt x / Int32.ofInt y * Int32.ofInt y)]; rfl, ha⟩) (h _ ⟨rg_toI.1, Int.le_of_lt_add_one rg_toI.2⟩ (fun h0 => by
    have e : Int32.ofInt x - Int32.ofInt x / Int32.ofInt y * Int32.ofInt y = Int32.ofInt (x % y) := by
      rw [← ofI_toI (v := Int32.ofInt x / Int32.ofInt y), div32 h1 hx hy, ← Int32.ofInt_mul, ← Int32.ofInt_sub, rem_e h0 h1]
    have b := Int.emod_lt_of_pos x h1
    have c := Int.emod_nonneg x (by omega : y ≠ 0)
    rw [e, toI ⟨by omega, by unfold rg at hy; omega⟩]) trivial)
theorem y_iremP {x y : Int} (hc : lk q.2.2.2.2.2 pc = some .irem) (h0 : 0 ≤ x) (h1 : 0 < y) (hx : rg x) (hy : rg y) (h : Pl f lay d q (pc + 1) L (iv (x % y) :: st) S Q) : Pl f lay d q pc L (iv y :: iv x :: st) S Q :=
  y_iremA hc h1 hx hy (fun c _ e _ => by rw [e h0]; exact h)
theorem y_lsw {f : Nat} {lay : Nat → Nat × Nat} {d pc : Nat} {q : mT} {L : List (Nat × Value)} {st : List Value} {S : sS} {Q : pst} {x df : Int} {ps : Array (Int × Int)} (hc : lk q.2.2.2.2.2 pc = some (.lookupswitch df ps)) (hs : (ps.toList.zip (ps.toList.drop 1)).all (fun (a, next) => a.1 < next.1) = true) (hx : rg x) (h : lsG pc df x (fun t => Pl f lay d q t L st S Q) ps.toList) : Pl f lay d q pc L (iv x :: st) S Q := by
  obtain ⟨t, h1, h2⟩ := lsG_at h
  refine Pl_s hc rfl (fun lv ha => ⟨lv, ?_, ha⟩) h2
  show (bif (ps.toList.zip (ps.toList.drop 1)).all (fun (a, next) => a.1 < next.1) then (match jm pc (Op.lookupswitch.offset ps.toList df (Int32.ofInt x).toInt) with
        | some t => some (t, lv, st, S)
        | none => none) else none) = _
  rw [hs, toI hx, h1]
  rfl
theorem y_ldcR {f : Nat} {lay : Nat → Nat × Nat} {d pc : Nat} {q : mT} {L : List (Nat × Value)} {st : List Value} {S : sS} {Q : pst} {ix i : Nat} (hc : lk q.2.2.2.2.2 pc = some (.ldc ix)) (hz : cLs q.2.2.2.2.1 ix = some (.ref (SB + i))) (h : Pl f lay d q (pc + 2) L (.ref (SB + i) :: st) S Q) : Pl f lay d q pc L st S Q :=
  Pl_s hc rfl (fun lv ha => ⟨lv, by
    show (match cLs q.2.2.2.2.1 ix with | some (.int v) => some (pc + 2, lv, Value.int v :: st, S) | some (.ref k) => some (pc + 2, lv, Value.ref k :: st, S) | _ => none) = _
    rw [hz], ha⟩) h
theorem y_ldcwR {f : Nat} {lay : Nat → Nat × Nat} {d pc : Nat} {q : mT} {L : List (Nat × Value)} {st : List Value} {S : sS} {Q : pst} {ix i : Nat} (hc : lk q.2.2.2.2.2 pc = some (.ldc_w ix)) (hz : cLs q.2.2.2.2.1 ix = some (.ref (SB + i))) (h : Pl f lay d q (pc + 3) L (.ref (SB + i) :: st) S Q) : Pl f lay d q pc L st S Q :=
  Pl_s hc rfl (fun lv ha => ⟨lv, by
    show (match cLs q.2.2.2.2.1 ix with | some (.int v) => some (pc + 3, lv, Value.int v :: st, S) | some (.ref k) => some (pc + 3, lv, Value.ref k :: st, S) | _ => none) = _
    rw [hz], ha⟩) h
theorem y_max {ix na : Nat} {md : mT} {x y : Int} (hc : lk q.2.2.2.2.2 pc = some (.invokestatic ix)) (hk : kLs q.2.2.2.2.1 ix = some (10, md, na)) (hs : Nat.ble (st.map (fun v => v.category)).sum 8 = true) (hx : rg x) (hy : rg y) (h : Pl f lay d q (pc + 3) L (iv (if x < y then y else x) :: st) S Q) : Pl f lay d q pc L (iv y :: iv x :: st) S Q := by
  intro m hlt lv ha G r S2 e
  cases m with
  | zero => unfold run at e; cases e
  | succ m =>
    unfold run at e
    rw [hc] at e
    simp only [hk] at e
    have e2 : (bif Nat.ble (st.map (fun v => v.category)).sum 8 then run lay (fLs q.2.2.2.2.1) (cLs q.2.2.2.2.1) (kLs q.2.2.2.2.1) q.2.2.1 q.2.2.2.1 (evd lay G d) q.2.2.2.2.2 m (pc + 3) lv (.int (if Int32.ofInt x < Int32.ofInt y then Int32.ofInt y else Int32.ofInt x) :: st) S else none) = some (r, S2) := e
    rw [hs] at e2
    refine h m (by omega) lv ha G r S2 ?_
    by_cases z : x < y
    · rw [if_pos ((i32_lt hx hy).mpr z)] at e2; rw [if_pos z]; exact e2
    · rw [if_neg (fun w => z ((i32_lt hx hy).mp w))] at e2; rw [if_neg z]; exact e2
theorem y_min {ix na : Nat} {md : mT} {x y : Int} (hc : lk q.2.2.2.2.2 pc = some (.invokestatic ix)) (hk : kLs q.2.2.2.2.1 ix = some (11, md, na)) (hs : Nat.ble (st.map (fun v => v.category)).sum 8 = true) (hx : rg x) (hy : rg y) (h : Pl f lay d q (pc + 3) L (iv (if y < x then y else x) :: st) S Q) : Pl f lay d q pc L (iv y :: iv x :: st) S Q := by
  intro m hlt lv ha G r S2 e
  cases m with
  | zero => unfold run at e; cases e
  | succ m =>
    unfold run at e
    rw [hc] at e
    simp only [hk] at e
    have e2 : (bif Nat.ble (st.map (fun v => v.category)).sum 8 then run lay (fLs q.2.2.2.2.1) (cLs q.2.2.2.2.1) (kLs q.2.2.2.2.1) q.2.2.1 q.2.2.2.1 (evd lay G d) q.2.2.2.2.2 m (pc + 3) lv (.int (if Int32.ofInt y < Int32.ofInt x then Int32.ofInt y else Int32.ofInt x) :: st) S else none) = some (r, S2) := e
    rw [hs] at e2
    refine h m (by omega) lv ha G r S2 ?_
    by_cases z : y < x
    · rw [if_pos ((i32_lt hy hx).mpr z)] at e2; rw [if_pos z]; exact e2
    · rw [if_neg (fun w => z ((i32_lt hy hx).mp w))] at e2; rw [if_neg z]; exact e2
/-- rows: that the place is within them is given -/
theorem y_ialoadP {k n : Nat} {x : Int} (hc : lk q.2.2.2.2.2 pc = some .iaload) (hl : lay k = (1, n)) (hx : rg x) (h : 0 ≤ x → x < n → Pl f lay d q (pc + 1) L (iv (Xi S k x.toNat) :: st) S Q) : Pl f lay d q pc L (iv x :: .ref k :: st) S Q := by
  by_cases b : 0 ≤ x ∧ x < n
  · exact y_iaload hc hl b.1 b.2 hx (h b.1 b.2)
  · refine Pl_no hc rfl (fun lv => ?_)
    show (bif Nat.beq (lay k).1 1 && inb (Int32.ofInt x) (lay k).2 then _ else none) = none
    rw [hl, inb_no b hx]; rfl
theorem y_laloadP {k n : Nat} {x : Int} (hc : lk q.2.2.2.2.2 pc = some .laload) (hl : lay k = (2, n)) (hx : rg x) (h : 0 ≤ x → x < n → Pl f lay d q (pc + 1) L (jw (Xj S k x.toNat) :: st) S Q) : Pl f lay d q pc L (iv x :: .ref k :: st) S Q := by
  by_cases b : 0 ≤ x ∧ x < n
  · exact y_laload hc hl b.1 b.2 hx (h b.1 b.2)
  · refine Pl_no hc rfl (fun lv => ?_)
    show (bif Nat.beq (lay k).1 2 && inb (Int32.ofInt x) (lay k).2 then _ else none) = none
    rw [hl, inb_no b hx]; rfl
theorem y_baloadP {k n t : Nat} {x : Int} (hc : lk q.2.2.2.2.2 pc = some .baload) (hv : Nat.ble SV k = false) (hl : lay k = (t, n)) (ht : t = 3 ∨ t = 4) (hx : rg x) (h : 0 ≤ x → x < n → Pl f lay d q (pc + 1) L (iv (Xi S k x.toNat) :: st) S Q) : Pl f lay d q pc L (iv x :: .ref k :: st) S Q := by
  by_cases b : 0 ≤ x ∧ x < n
  · exact y_baload hc hv hl ht b.1 b.2 hx (h b.1 b.2)
  · refine Pl_no hc rfl (fun lv => ?_)
    show (bif Nat.ble SV k then _ else bif (Nat.beq (lay k).1 3 || Nat.beq (lay k).1 4) && inb (Int32.ofInt x) (lay k).2 then _ else none) = none
    rw [hv, hl, inb_no b hx, Bool.and_false]; rfl
theorem y_iastoreP {k n : Nat} {x v : Int} (hc : lk q.2.2.2.2.2 pc = some .iastore) (hl : lay k = (1, n)) (hx : rg x) (h : 0 ≤ x → x < n → Pl f lay d q (pc + 1) L st (uI S k x.toNat (Int32.ofInt v)) Q) : Pl f lay d q pc L (iv v :: iv x :: .ref k :: st) S Q := by
  by_cases b : 0 ≤ x ∧ x < n
  · exact y_iastore hc hl b.1 b.2 hx (h b.1 b.2)
  · refine Pl_no hc rfl (fun lv => ?_)
    show (bif Nat.beq (lay k).1 1 && inb (Int32.ofInt x) (lay k).2 then _ else none) = none
    rw [hl, inb_no b hx]; rfl
theorem y_lastoreP {k n : Nat} {x v : Int} (hc : lk q.2.2.2.2.2 pc = some .lastore) (hl : lay k = (2, n)) (hx : rg x) (h : 0 ≤ x → x < n → Pl f lay d q (pc + 1) L st (uJ S k x.toNat (Int64.ofInt v)) Q) : Pl f lay d q pc L (jw v :: iv x :: .ref k :: st) S Q := by
  by_cases b : 0 ≤ x ∧ x < n
  · exact y_lastore hc hl b.1 b.2 hx (h b.1 b.2)
  · refine Pl_no hc rfl (fun lv => ?_)
    show (bif Nat.beq (lay k).1 2 && inb (Int32.ofInt x) (lay k).2 then _ else none) = none
    rw [hl, inb_no b hx]; rfl
theorem y_bastoreZP {k n : Nat} {x v : Int} (hc : lk q.2.2.2.2.2 pc = some .bastore) (hl : lay k = (4, n)) (hx : rg x) (hv : 0 ≤ v ∧ v ≤ 1) (h : 0 ≤ x → x < n → Pl f lay d q (pc + 1) L st (uI S k x.toNat (Int32.ofInt v)) Q) : Pl f lay d q pc L (iv v :: iv x :: .ref k :: st) S Q := by
  by_cases b : 0 ≤ x ∧ x < n
  · exact y_bastoreZ1 hc hl b.1 b.2 hx hv (h b.1 b.2)
  · refine Pl_no hc rfl (fun lv => ?_)
    show (bif inb (Int32.ofInt x) (lay k).2 then _ else none) = none
    rw [hl, inb_no b hx]; rfl
end PART


/-! RUNS in their order; the reference's reading, partial rows -/
def nfF (T : Int → Int) : Nat → Int → Int
  | 0, _ => -1
  | n + 1, a => if T a = 100 then a else nfF T n (a + 1)
/-- the first FREE word from a on -/
def nf7 (T : Int → Int) (a : Int) : Int := nfF T (5200 - a).toNat a
theorem nf_n {T : Int → Int} {a : Int} (h : T a ≠ 100) : nf7 T (a + 1) = nf7 T a := by
  unfold nf7
  by_cases q : a < 5200
  · rw [show (5200 - a).toNat = (5200 - (a + 1)).toNat + 1 by omega]
    show _ = if T a = 100 then a else nfF T (5200 - (a + 1)).toNat (a + 1)
    rw [if_neg h]
  · rw [show (5200 - a).toNat = 0 by omega, show (5200 - (a + 1)).toNat = 0 by omega]
    rfl
theorem nf_y {T : Int → Int} {a : Int} (h : T a = 100) (h0 : a < 5200) : nf7 T a = a := by
  unfold nf7
  rw [show (5200 - a).toNat = (5200 - (a + 1)).toNat + 1 by omega]
  show (if T a = 100 then a else _) = a
  rw [if_pos h]
/-- where the k-th RUN begins -/
def kr7 (T : Int → Int) : Nat → Int
  | 0 => nf7 T 0
  | k + 1 => nf7 T (re7 T (kr7 T k))
def JR (S : sS) (f m : Nat) : Prop := Xi S 904 65 = 0 → ((f : Int) ≤ Xi S 904 8 ∧ Xi S 904 8 ≤ f + m) ∧ (Xi S 904 93 = 0 → kr7 (tR S f m) (Xi S 904 69).toNat = nf7 (tR S f m) (Xi S 904 8 - f) ∧ ∀ k : Nat, (k : Int) < Xi S 904 69 → Xi S 950 k - f = kr7 (tR S f m) k ∧ Xi S 951 k = re7 (tR S f m) (kr7 (tR S f m) k) - kr7 (tR S f m) k)
theorem JR.i {S : sS} {f m : Nat} (h : JR S f m) : INR S f m := fun b => (h b).1
theorem jr_bad {S : sS} {f m : Nat} (b : Xi S 904 65 ≠ 0) : JR S f m := fun q => absurd q b
theorem jr_tc {S : sS} {f m : Nat} (i : INR S f m) (c : Xi S 904 93 ≠ 0) : JR S f m := fun b => ⟨i b, fun q => absurd q c⟩
theorem jr_eq {S U : sS} {f m : Nat} (h : JR S f m) (x8 : Xi U 904 8 = Xi S 904 8) (x65 : Xi U 904 65 = Xi S 904 65) (x69 : Xi U 904 69 = Xi S 904 69) (x93 : Xi U 904 93 = Xi S 904 93) (hT : tR U f m = tR S f m) (k1 : ∀ j, Xi U 950 j = Xi S 950 j) (k2 : ∀ j, Xi U 951 j = Xi S 951 j) : JR U f m := by
  unfold JR
  rw [x8, x65, x69, x93, hT]
  simp only [k1, k2]
  exact h
theorem JR_FR {l : List rec} {S T : sS} {f m : Nat} (h : FR l S T) (e : mD l [8, 65, 69, 93] = true) (e1 : kdis l [(907, 908)] = true) (e2 : kdis l [(950, 952)] = true) (hJ : JR S f m) : JR T f m :=
  jr_eq hJ (mD_x h e 8 (by decide)) (mD_x h e 65 (by decide)) (mD_x h e 69 (by decide)) (mD_x h e 93 (by decide)) (FRR h e1) (fun j => by rw [(h.smk e2).x 950 rfl]) (fun j => by rw [(h.smk e2).x 951 rfl])
theorem jr_up {S U : sS} {f m : Nat} {v : Int} (h : JR S f m) (hv : VLR S f m) (e : U = uI S 904 8 (Int32.ofInt v)) (hx : v = Xi S 904 8 + 1) (t : Xi S 904 65 = 0 → tR S f m (Xi S 904 8 - f) ≠ 100 ∧ tR S f m (Xi S 904 8 - f) ≠ 103 ∧ tR S f m (Xi S 904 8 - f) ≠ 107) : JR U f m := by
  have F := FR_e e
  have x65 : Xi U 904 65 = Xi S 904 65 := by rw [e, Xi_ne (by omega)]
  have x69 : Xi U 904 69 = Xi S 904 69 := by rw [e, Xi_ne (by omega)]
  have x93 : Xi U 904 93 = Xi S 904 93 := by rw [e, Xi_ne (by omega)]
  have k1 : ∀ j, Xi U 950 j = Xi S 950 j := fun j => by rw [e, Xi_ne (by omega)]
  have k2 : ∀ j, Xi U 951 j = Xi S 951 j := fun j => by rw [e, Xi_ne (by omega)]
  have hT : tR U f m = tR S f m := FRR F rfl
  intro b
  rw [x65] at b
  obtain ⟨i, j⟩ := h b
  obtain ⟨t1, t2, t3⟩ := t b
  have up : Xi S 904 8 + 1 ≤ f + m := in_u2 hv i.1 i.2 t2 t3
  have bd := hv.2.2.2
  have x8 : Xi U 904 8 = Xi S 904 8 + 1 := by rw [e, hx]; exact Xi_same ⟨by omega, by omega⟩
  refine ⟨⟨by omega, by omega⟩, fun c => ?_⟩
  rw [x93] at c
  rw [hT, x69, x8]
  obtain ⟨j1, j2⟩ := j c
  refine ⟨?_, fun k hk => ?_⟩
  · rw [j1, show Xi S 904 8 + 1 - (f : Int) = Xi S 904 8 - f + 1 by omega, nf_n t1]
  · rw [k1, k2]; exact j2 k hk
theorem jr_up2 {S U : sS} {f m : Nat} {v : Int} (h : JR S f m) (hv : VLR S f m) (e : U = uI S 904 8 (Int32.ofInt v)) (hx : v = Xi S 904 8 + 2) (t : Xi S 904 65 = 0 → tR S f m (Xi S 904 8 - f) ≠ 100 ∧ tR S f m (Xi S 904 8 - f) ≠ 103 ∧ tR S f m (Xi S 904 8 - f) ≠ 107) (t2 : Xi S 904 65 = 0 → tR S f m (Xi S 904 8 - f + 1) ≠ 100 ∧ tR S f m (Xi S 904 8 - f + 1) ≠ 103 ∧ tR S f m (Xi S 904 8 - f + 1) ≠ 107) : JR U f m := by
  have F := FR_e e
  have x65 : Xi U 904 65 = Xi S 904 65 := by rw [e, Xi_ne (by omega)]
  have x69 : Xi U 904 69 = Xi S 904 69 := by rw [e, Xi_ne (by omega)]
  have x93 : Xi U 904 93 = Xi S 904 93 := by rw [e, Xi_ne (by omega)]
  have k1 : ∀ j, Xi U 950 j = Xi S 950 j := fun j => by rw [e, Xi_ne (by omega)]
  have k2 : ∀ j, Xi U 951 j = Xi S 951 j := fun j => by rw [e, Xi_ne (by omega)]
  have hT : tR U f m = tR S f m := FRR F rfl
  intro b
  rw [x65] at b
  obtain ⟨i, j⟩ := h b
  obtain ⟨t1, t12, t13⟩ := t b
  obtain ⟨t21, t22, t23⟩ := t2 b
  have up : Xi S 904 8 + 1 ≤ f + m := in_u2 hv i.1 i.2 t12 t13
  have up2 : Xi S 904 8 + 1 + 1 ≤ f + m := in_u2 hv (by omega) up (by rw [show Xi S 904 8 + 1 - (f : Int) = Xi S 904 8 - f + 1 by omega]; exact t22) (by rw [show Xi S 904 8 + 1 - (f : Int) = Xi S 904 8 - f + 1 by omega]; exact t23)
  have bd := hv.2.2.2
  have x8 : Xi U 904 8 = Xi S 904 8 + 2 := by rw [e, hx]; exact Xi_same ⟨by omega, by omega⟩
  refine ⟨⟨by omega, by omega⟩, fun c => ?_⟩
  rw [x93] at c
  rw [hT, x69, x8]
  obtain ⟨j1, j2⟩ := j c
  refine ⟨?_, fun k hk => ?_⟩
  · rw [j1, show Xi S 904 8 + 2 - (f : Int) = Xi S 904 8 - f + 1 + 1 by omega, nf_n t21, nf_n t1]
  · rw [k1, k2]; exact j2 k hk
theorem jr_same {S U : sS} {f m : Nat} {v : Int} (h : JR S f m) (e : U = uI S 904 8 (Int32.ofInt v)) (hx : v = Xi S 904 8) : JR U f m :=
  jr_eq h (by rw [e, hx]; exact Xi_same Xi_rg) (by rw [e, Xi_ne (by omega)]) (by rw [e, Xi_ne (by omega)]) (by rw [e, Xi_ne (by omega)]) (FRR (FR_e e) rfl) (fun j => by rw [e, Xi_ne (by omega)]) (fun j => by rw [e, Xi_ne (by omega)])
theorem jr_run {S U : sS} {f m : Nat} (h : JR S f m) (hv : VLR S f m) (b : Xi S 904 65 = 0) (ht : tR S f m (Xi S 904 8 - f) = 100) (x8 : Xi U 904 8 - f = re7 (tR S f m) (Xi S 904 8 - f)) (l8 : (f : Int) ≤ Xi U 904 8 ∧ Xi U 904 8 ≤ f + m) (h69 : 0 ≤ Xi S 904 69) (x69 : Xi U 904 69 = Xi S 904 69 + 1) (x93 : Xi U 904 93 = Xi S 904 93) (hT : tR U f m = tR S f m) (r1 : Xi U 950 (Xi S 904 69).toNat = Xi S 904 8) (r2 : Xi U 951 (Xi S 904 69).toNat = Xi U 904 8 - Xi S 904 8) (kn : ∀ r : Nat, (r : Int) < Xi S 904 69 → Xi U 950 r = Xi S 950 r ∧ Xi U 951 r = Xi S 951 r) : JR U f m := by
  intro _
  refine ⟨l8, fun c => ?_⟩
  rw [x93] at c
  obtain ⟨i, j⟩ := h b
  obtain ⟨j1, j2⟩ := j c
  have bd := hv.2.2.2
  have ka : kr7 (tR S f m) (Xi S 904 69).toNat = Xi S 904 8 - f := by rw [j1]; exact nf_y ht (by omega)
  rw [hT, x69]
  refine ⟨?_, fun k hk => ?_⟩
  · rw [show (Xi S 904 69 + 1).toNat = (Xi S 904 69).toNat + 1 by omega]
    show nf7 _ (re7 _ (kr7 (tR S f m) (Xi S 904 69).toNat)) = _
    rw [ka, ← x8]
  · by_cases q : (k : Int) < Xi S 904 69
    · rw [(kn k q).1, (kn k q).2]; exact j2 k q
    · rw [show k = (Xi S 904 69).toNat by omega, r1, r2, ka, ← x8]
      exact ⟨rfl, by omega⟩
theorem gBt_c {T : Int → Int} {a b : Int} (h : T a = 104) (hb : b = if T (a + 1) = 16 then a + 2 else a + 1) : gBt T a = (1, b) := by
  unfold gBt
  rw [gT_1 h, if_neg (show ¬ (1 : Int) = 0 by decide), hb]
  by_cases q : T (a + 1) = 16
  · rw [gT_1 q, if_pos q]; exact pe rfl (by show a + 1 + 1 = a + 2; omega)
  · rw [gT_0 q, if_neg q]
theorem gBt_a {T : Int → Int} {a : Int} (h : T a ≠ 104) (h1 : T a = 16) : gBt T a = (1, a + 1) := by
  unfold gBt
  rw [gT_0 h, if_pos rfl, gT_1 h1]
theorem gBt_0 {T : Int → Int} {a : Int} (h : T a ≠ 104) (h1 : T a ≠ 16) : gBt T a = (0, a) := by
  unfold gBt
  rw [gT_0 h, if_pos rfl, gT_0 h1]

/-! the reference's reading as functions of the kinds of tokens -/
theorem two_or {x : Int × Int} (h : x.1 = 0) : x = (0, x.2) := Prod.ext h rfl
theorem gSq_0 {x : Int × Int} {f : Int → Int × Int} (h : x.1 = 0) : gSq x f = x := if_pos h
theorem gSq_1 {x : Int × Int} {f : Int → Int × Int} (h : x.1 ≠ 0) : gSq x f = f x.2 := if_neg h
theorem gSq_c {x : Int × Int} {f g : Int → Int × Int} (h : x.1 ≠ 0 → f x.2 = g x.2) : gSq x f = gSq x g := by
  by_cases q : x.1 = 0
  · rw [gSq_0 q, gSq_0 q]
  · rw [gSq_1 q, gSq_1 q, h q]
theorem gSq_as {x : Int × Int} {f g : Int → Int × Int} : gSq (gSq x f) g = gSq x (fun a => gSq (f a) g) := by
  unfold gSq
  by_cases h : x.1 = 0
  · rw [if_pos h, if_pos h, if_pos h]
  · rw [if_neg h, if_neg h]
theorem cu_cg {S : sS} {f : Nat} {g h : Int → Int × Int} {c : Int × Int} (e : gSq (cu S f) g = c) (k : Xi S 904 65 = 0 → h (Xi S 904 8 - f) = g (Xi S 904 8 - f)) : gSq (cu S f) h = c := by
  rcases (by omega : Xi S 904 65 = 0 ∨ Xi S 904 65 ≠ 0) with b | b
  · rw [cu_ok b, gS_1] at e ⊢; rw [k b]; exact e
  · rw [cu_bad b, gS_0] at e ⊢; exact e
/-- from a state that isn't bad -/
theorem cu_go {S : sS} {f : Nat} {g : Int → Int × Int} {c : Int × Int} {a : Int} (e : gSq (cu S f) g = c) (b : Xi S 904 65 = 0) (ha : Xi S 904 8 - f = a) : g a = c := by
  rw [cu_ok b, gS_1, ha] at e; exact e
theorem cu_og {S : sS} {f : Nat} {g : Int → Int × Int} {c : Int × Int} (b : Xi S 904 65 = 0) (e : g (Xi S 904 8 - f) = c) : gSq (cu S f) g = c := by
  rw [cu_ok b, gS_1]; exact e
def pw7 (t : Int) : Int := if t = 8 then 1 else if t = 9 then 2 else if t = 29 then 3 else if t = 30 then 4 else if t = 31 then 5 else 0
theorem pw_i {z t : Int} (h : (z = 1 ∧ t = 8) ∨ (z = 2 ∧ t = 9) ∨ (z = 3 ∧ t = 29) ∨ (z = 4 ∧ t = 30) ∨ (z = 5 ∧ t = 31)) : z = pw7 t := by
  unfold pw7
  rcases h with ⟨a, b⟩ | ⟨a, b⟩ | ⟨a, b⟩ | ⟨a, b⟩ | ⟨a, b⟩
  · rw [if_pos b]; exact a
  · rw [if_neg (by omega), if_pos b]; exact a
  · rw [if_neg (by omega), if_neg (by omega), if_pos b]; exact a
  · rw [if_neg (by omega), if_neg (by omega), if_neg (by omega), if_pos b]; exact a
  · rw [if_neg (by omega), if_neg (by omega), if_neg (by omega), if_neg (by omega), if_pos b]; exact a
def gPc (T : Int → Int) (a : Int) : Int × Int := if T a = 8 ∨ T a = 9 then (1, a + 1) else if T a = 29 then gT T 7 (a + 1) else if T a = 30 ∨ T a = 31 then gT T 10 (a + 1) else (0, a)
theorem gPc_0 {T : Int → Int} {a : Int} (h : T a ≠ 8 ∧ T a ≠ 9 ∧ T a ≠ 29 ∧ T a ≠ 30 ∧ T a ≠ 31) : gPc T a = (0, a) := by
  unfold gPc
  rw [if_neg (by omega), if_neg (by omega), if_neg (by omega)]
theorem gPc_1 {T : Int → Int} {a : Int} (h : T a = 8 ∨ T a = 9) : gPc T a = (1, a + 1) := by
  unfold gPc
  rw [if_pos h]
theorem gPc_2 {T : Int → Int} {a : Int} (h : T a = 29) : gPc T a = gT T 7 (a + 1) := by
  unfold gPc
  rw [if_neg (by omega), if_pos h]
theorem gPc_3 {T : Int → Int} {a : Int} (h : T a = 30 ∨ T a = 31) : gPc T a = gT T 10 (a + 1) := by
  unfold gPc
  rw [if_neg (by omega), if_neg (by omega), if_pos h]
theorem gWh_1 {T : Int → Int} {a : Int} (h : T a = 101 ∨ T a = 102) : gWh T a = (1, a + 1) := by
  unfold gWh
  by_cases q : T a = 101
  · rw [gT_1 q, o_1, o_1]
  · rw [gT_0 q, o_0, gT_1 (by omega), o_1]
theorem gWh_r {T : Int → Int} {a : Int} (h : T a ≠ 101) (h2 : T a ≠ 102) : gWh T a = gR T a := by
  unfold gWh
  rw [gT_0 h, o_0, gT_0 h2, o_0]
theorem gTh_1 {T : Int → Int} {a : Int} (h : T a = 54 ∨ T a = 53) : gTh T a = (1, a + 1) := by
  unfold gTh
  by_cases q : T a = 54
  · rw [gT_1 q, o_1, o_1]
  · rw [gT_0 q, o_0, gT_1 (by omega), o_1]
theorem gTh_2 {T : Int → Int} {a : Int} (h : T a = 2) (h2 : T (a + 1) = 53) : gTh T a = (1, a + 2) := by
  unfold gTh
  rw [gT_0 (by omega), o_0, gT_0 (by omega), o_0]
  show (if T a = 2 then gOr (gT T 53 (bA T a)) (gR T) else gN T a) = _
  rw [if_pos h, bA_1 (by omega), gT_1 h2, o_1]
  exact pe rfl (by omega)
theorem gTh_n {T : Int → Int} {a : Int} (h : T a ≠ 54) (h2 : T a ≠ 53) (h3 : T a = 2 → T (a + 1) ≠ 53) : gTh T a = gN T a := by
  unfold gTh
  rw [gT_0 h, o_0, gT_0 h2, o_0]
  show (if T a = 2 then gOr (gT T 53 (bA T a)) (gR T) else gN T a) = _
  by_cases q : T a = 2
  · rw [if_pos q, bA_1 (by omega), gT_0 (h3 q), o_0]
    unfold gN
    rw [bA_1 (by omega)]
  · rw [if_neg q]
def gPy (T : Int → Int) (a : Int) : Int × Int := gSq (gSq (gT T 2 a) (gR T)) (gT T 7)
theorem gPy_e {T : Int → Int} {x : Int × Int} : gSq x (gPy T) = gSq (gSq (gSq x (gT T 2)) (gR T)) (gT T 7) := by
  rw [gSq_as, gSq_as]
  unfold gPy
  congr 1
  funext a
  rw [gSq_as]
/-- what stands behind is, in a TEST of a property -/
def gTw (T : Int → Int) (now b : Int) : Int × Int := if now ≠ 0 then gWh T b else if T b = 51 ∨ T b = 52 then gSq (gT T 50 (b + 1)) (gT T 101) else if T b = 6 then gWh T (b + 1) else gWh T b
theorem gTw_e {T : Int → Int} {now b : Int} : (if now ≠ 0 then gWh T b else if (gOr (gT T 51 b) (gT T 52)).1 = 0 then gWh T (gT T 6 (gOr (gT T 51 b) (gT T 52)).2).2 else gSq (gT T 50 (gOr (gT T 51 b) (gT T 52)).2) (gT T 101)) = gTw T now b := by
  unfold gTw
  by_cases n : now ≠ 0
  · rw [if_pos n, if_pos n]
  · rw [if_neg n, if_neg n]
    by_cases h1 : T b = 51
    · rw [gT_1 h1, o_1, if_neg (show ¬ (1 : Int) = 0 by decide), if_pos (Or.inl h1)]
    · rw [gT_0 h1, o_0]
      by_cases h2 : T b = 52
      · rw [gT_1 h2, if_neg (show ¬ (1 : Int) = 0 by decide), if_pos (Or.inr h2)]
      · rw [gT_0 h2, if_pos rfl, if_neg (by omega)]
        by_cases h6 : T b = 6
        · rw [gT_1 h6, if_pos h6]
        · rw [gT_0 h6, if_neg h6]
def gEt (T : Int → Int) (now b : Int) : Int × Int := if et7 now (T b) then (1, b) else (0, b)
/-- a TEST of the other form -/
def gTo (T : Int → Int) (now b : Int) : Int × Int := if T b = 100 then gR T b else if now ≠ 0 then (0, b) else gSq (gPc T b) (gTh T)
def gTn (T : Int → Int) (b : Int) : Int := if T b = 6 then b + 1 else b
def gTm (T : Int → Int) (now a : Int) : Int × Int := if fo7 T 4 a (te8 T now a) = -1 then gLo T 54 53 a else if bp7 T a then gSq (gSq (gSq (gPy T a) (gTh T)) (gT T 4)) (gTw T now) else gSq (gSq (gSq (gTh T a) (gT T 4)) (fun b => (1, gTn T b))) (gTo T now)
def gTtR (T : Int → Int) (now a : Int) : Int × Int := gSq (gTm T now a) (gEt T now)
def gTsn7 (T : Int → Int) : Nat → Int → Int × Int
  | 0, a => (1, a)
  | n + 1, a => if T a = 16 then gSq (gTtR T 0 (a + 1)) (gTsn7 T n) else (1, a)
def gTsR (T : Int → Int) (a : Int) : Int × Int := gSq (gTtR T 0 a) (gTsn7 T 5200)
/-- a PHRASE -/
def gPhR (T : Int → Int) (a : Int) : Int × Int := if T a = 43 then gT T 102 (a + 1) else if T a = 44 then gTtR T 1 (a + 1) else if T a = 45 then gSq (gSq (gTh T (a + 1)) (gT T 11)) (gTh T) else if T a = 46 ∨ T a = 47 then gSq (gSq (gSq (gPy T (a + 1)) (gTh T)) (gT T 10)) (gT T 101) else if T a = 49 then gSq (gR T (a + 1)) (fun b => if th7 (T b) then gTh T b else (1, b)) else if T a = 48 then (1, a + 1) else (0, a)
def gEp (T : Int → Int) (b : Int) : Int × Int := if T b = 105 ∨ T b = 103 then (1, b) else (0, b)
def gP1R (T : Int → Int) (a : Int) : Int × Int := gSq (gPhR T a) (gEp T)
def gPsn7 (T : Int → Int) : Nat → Int → Int × Int
  | 0, a => (1, a)
  | n + 1, a => if T a = 105 then gSq (gP1R T (a + 1)) (gPsn7 T n) else (1, a)
def gPsR (T : Int → Int) (a : Int) : Int × Int := gSq (gP1R T a) (gPsn7 T 5200)
/-- rules, from the keyword on -/
def gAcR (T : Int → Int) (a : Int) : Int × Int := gSq (gR T a) (fun b => if art7 (T b) then gR T (b + 1) else (1, b))
def gWe (T : Int → Int) (b : Int) : Int × Int := if T b = 37 then gTsR T (b + 1) else (1, b)
def gRuR (T : Int → Int) (s : Int) : Int × Int := gSq (gSq (gSq (if s = 6 then gT T 42 1 else if s = 5 then gSq (gT T 7 1) (gAcR T) else gAcR T 1) (gWe T)) (gT T 106)) (gPsR T)
def gO1 (T : Int → Int) : Int × Int := gSq (gSq (gT T 102 1) (gT T 34)) (gR T)
def gO2 (T : Int → Int) : Int × Int := gSq (gSq (gSq (gSq (gSq (gSq (gT T 106 1) (gA T)) (gR T)) (gT T 4)) (gR T)) (gT T 36)) (gTsR T)
def gO7 (T : Int → Int) : Int × Int := gSq (gSq (gSq (gSq (gSq (gT T 11 2) (gR T)) (gT T 24)) (gT T 2)) (gR T)) (gT T 26)
def gO8 (T : Int → Int) : Int × Int := gSq (gSq (gSq (gT T 7 2) (gN T)) (gBe T)) (gR T)
def gO9 (T : Int → Int) : Int × Int := gSq (gSq (gSq (gSq (gR T 1) (gT T 7)) (gN T)) (gBe T)) (gWh T)
def gOo (T : Int → Int) (t : Int) : Int × Int := if t = 12 then gSq (gSq (gSq (gSq (gSq (gN T 0) (gT T 12)) (gA T)) (gR T)) (gT T 17)) (gR T)
  else if t = 13 then gSq (gSq (gSq (gSq (gSq (gN T 0) (gT T 13)) (gT T 14)) (gR T)) (gT T 15)) (gR T)
  else if t = 21 then gSq (gSq (gSq (gSq (gSq (gSq (gN T 0) (gT T 21)) (gHow T)) (gR T)) (gT T 11)) (gHow T)) (gR T)
  else gLo T 16 104 0
def gRe (T : Int → Int) (a : Int) : Int × Int := if T a = 0 ∧ T (a + 1) = 18 then (if T (a + 2) = 7 then (if T (a + 3) = 20 then (1, a + 4) else gN T (a + 3)) else (1, a + 2))
  else if T a = 1 ∧ T (a + 1) = 27 then (if T (a + 2) = 28 then gSq (gSq (gT T 11 (a + 3)) (gT T 22)) (gR T) else (1, a + 2))
  else if art7 (T a) then gSq (gR T (a + 1)) (fun b => if T b = 103 then (1, b) else gSq (gPc T b) (gN T))
  else if T a = 6 ∨ T a = 32 then gR T (a + 1)
  else if T a = 100 then gSq (gR T a) (fun b => if T b = 7 then gN T (b + 1) else if T b = 16 ∨ T b = 104 then gRn T 5200 b else (1, b))
  else gSq (gPc T a) (gN T)
def gLs2 (T : Int → Int) (m : Nat) (a : Int) : Int × Int := if (gN T a).1 = 0 then (0, (gN T a).2) else gLn T m (gN T a).2
def gCo (T : Int → Int) : Int × Int := if kt7 T = 4 ∨ kt7 T = 5 then (if bp7 T 0 then gO9 T else gSq (gSq (gLs2 T 5200 0) (gBe T)) (gRe T)) else gOo T (kt7 T)
def gSe (T : Int → Int) : Int × Int := if T 0 = 33 then gO1 T else if T 0 = 35 then gO2 T else if T 0 = 38 then gRuR T 3 else if T 0 = 40 then gRuR T 4 else if T 0 = 39 then gRuR T 5 else if T 0 = 41 then gRuR T 6 else if T 0 = 2 ∧ T 1 = 25 then gO7 T else if T 0 = 2 ∧ T 1 = 19 then gO8 T else gCo T

/-! loops of the reference's reading -/
theorem gN_lt {T : Int → Int} {a b : Int} (h : gN T a = (1, b)) : a < b := by
  unfold gN gR at h
  have e1 : (if T (bA T a) = 100 then (1 : Int) else 0) = 1 := congrArg Prod.fst h
  have e2 : re7 T (bA T a) = b := congrArg Prod.snd h
  have t := (re7_c (T := T) (a := bA T a)).1
  have l : a ≤ bA T a := by
    unfold bA
    split <;> omega
  by_cases q : T (bA T a) = 100
  · have := t q; omega
  · rw [if_neg q] at e1; omega
theorem gBt_lt {T : Int → Int} {a b : Int} (h : gBt T a = (1, b)) : a < b := by
  by_cases q : T a = 104
  · have e := gBt_c (T := T) (a := a) q rfl
    rw [h] at e
    have e2 : b = if T (a + 1) = 16 then a + 2 else a + 1 := congrArg Prod.snd e
    split at e2 <;> omega
  · by_cases r : T a = 16
    · rw [gBt_a q r] at h
      have e2 : a + 1 = b := congrArg Prod.snd h
      omega
    · rw [gBt_0 q r] at h
      have e2 : (0 : Int) = 1 := congrArg Prod.fst h
      omega
theorem one0 : ¬ (1 : Int) = 0 := by decide
/-- fuel that is left in a LIST -/
def EXM (X : Int × Int) (T : Int → Int) (N a : Int) : Prop := ∃ m : Nat, N - a < m ∧ X = gLs2 T m a
theorem ls_0' {S U : sS} {f : Nat} {N : Int} {T : Int → Int} (x8 : Xi U 904 8 = Xi S 904 8) (x65 : Xi U 904 65 = Xi S 904 65) (x66 : Xi U 904 66 = Xi S 904 66) (h : Xi S 904 65 = 0 → N - (Xi S 904 8 - f) < 5200) : ((1 : Int) ≠ 0 → Xi U 904 65 = 0 → ∃ m : Nat, N - (Xi U 904 8 - f) < m ∧ gSq (cu S f) (gLs2 T 5200) = gLs2 T m (Xi U 904 8 - f)) ∧ (((1 : Int) = 0 ∨ Xi U 904 65 ≠ 0) → gSq (cu S f) (gLs2 T 5200) = cu U f) := by
  rw [x8, x65]
  refine ⟨fun _ b => ⟨5200, h b, ?_⟩, fun q => ?_⟩
  · rw [cu_ok b, gS_1]
  · have b : Xi S 904 65 ≠ 0 := q.elim (fun z => absurd z one0) id
    rw [cu_bad b, gS_0, cu_bad (S := U) (by rw [x65]; exact b), x66]
theorem ls_0 {S U : sS} {f : Nat} {N : Int} {T : Int → Int} (x8 : Xi U 904 8 = Xi S 904 8) (x65 : Xi U 904 65 = Xi S 904 65) (x66 : Xi U 904 66 = Xi S 904 66) (h : Xi S 904 65 = 0 → N - (Xi S 904 8 - f) < 5200) : ((1 : Int) ≠ 0 → Xi U 904 65 = 0 → EXM (gSq (cu S f) (gLs2 T 5200)) T N (Xi U 904 8 - f)) ∧ (((1 : Int) = 0 ∨ Xi U 904 65 ≠ 0) → gSq (cu S f) (gLs2 T 5200) = cu U f) := ls_0' x8 x65 x66 h
theorem ls_s {T : Int → Int} {X : Int × Int} {N a z : Int} {V W : sS} {f : Nat} (h : EXM X T N a) (hN : a ≤ N) (g1 : gN T a = cu V f) (g2 : Xi V 904 65 = 0 → gBt T (Xi V 904 8 - f) = (z, Xi W 904 8 - f)) (kb : Xi W 904 65 = Xi V 904 65) (cb : Xi V 904 65 ≠ 0 → z = 0 ∧ cu W f = cu V f) (hz : z = 0 ∨ z = 1) : (z ≠ 0 → Xi W 904 65 = 0 → EXM X T N (Xi W 904 8 - f)) ∧ ((z = 0 ∨ Xi W 904 65 ≠ 0) → X = cu W f) := by
  obtain ⟨m, h1, h2⟩ := h
  obtain ⟨k, rfl⟩ : ∃ k, m = k + 1 := ⟨m - 1, by omega⟩
  by_cases b : Xi V 904 65 = 0
  · rw [cu_ok b] at g1
    have lt := gN_lt g1
    have e : gLs2 T (k + 1) a = if (gBt T (Xi V 904 8 - f)).1 = 0 then (1, (gBt T (Xi V 904 8 - f)).2) else gLs2 T k (gBt T (Xi V 904 8 - f)).2 := by
      unfold gLs2
      rw [g1, if_neg one0]
      rfl
    have g2 := g2 b
    rw [g2] at e
    rcases hz with rfl | rfl
    · refine ⟨fun q => absurd rfl q, fun _ => ?_⟩
      rw [h2, e, if_pos rfl, cu_ok (S := W) (by omega)]
    · have l2 := gBt_lt g2
      refine ⟨fun _ _ => (show ∃ m : Nat, N - (Xi W 904 8 - f) < m ∧ X = gLs2 T m (Xi W 904 8 - f) from ⟨k, by omega, by rw [h2, e, if_neg one0]⟩), fun q => by exfalso; omega⟩
  · obtain ⟨rfl, c⟩ := cb b
    rw [cu_bad b] at g1
    refine ⟨fun q => absurd rfl q, fun _ => ?_⟩
    rw [h2, c, cu_bad b]
    unfold gLs2
    rw [g1, if_pos rfl]
theorem gRn_s {T : Int → Int} {k : Nat} {a : Int} : gRn T (k + 1) a = if (gBt T a).1 = 0 then (1, (gBt T a).2) else gSq (gR T (gBt T a).2) (gRn T k) := by
  show (if (gBt T a).1 = 0 then (1, (gBt T a).2) else if (gR T (gBt T a).2).1 = 0 then (0, (gR T (gBt T a).2).2) else gRn T k (gR T (gBt T a).2).2) = _
  by_cases q : (gBt T a).1 = 0
  · rw [if_pos q, if_pos q]
  · rw [if_neg q, if_neg q]
    unfold gSq
    by_cases r : (gR T (gBt T a).2).1 = 0
    · rw [if_pos r, if_pos r]
      exact Prod.ext r.symm rfl
    · rw [if_neg r, if_neg r]
/-- fuel that is left -/
def FUL (X : Int × Int) (l : Nat → Int → Int × Int) (N : Int) (S : sS) (f : Nat) : Prop := ∃ m : Nat, (Xi S 904 65 = 0 → N - (Xi S 904 8 - f) < m) ∧ X = gSq (cu S f) (l m)
theorem FU_0 {X : Int × Int} {l : Nat → Int → Int × Int} {N : Int} {S : sS} {f : Nat} (h : X = gSq (cu S f) (l 5200)) (hN : Xi S 904 65 = 0 → N - (Xi S 904 8 - f) < 5200) : FUL X l N S f := ⟨5200, hN, h⟩
theorem FU_b {X : Int × Int} {l : Nat → Int → Int × Int} {N : Int} {S : sS} {f : Nat} (h : FUL X l N S f) (b : Xi S 904 65 ≠ 0) : X = cu S f := by
  obtain ⟨m, _, e⟩ := h
  rw [e, cu_bad b, gS_0]
theorem FU_e {X : Int × Int} {l : Nat → Int → Int × Int} {N : Int} {S : sS} {f : Nat} (h : FUL X l N S f) (hN : Xi S 904 65 = 0 → Xi S 904 8 - f ≤ N) (hl : Xi S 904 65 = 0 → ∀ k, l (k + 1) (Xi S 904 8 - f) = (1, Xi S 904 8 - f)) : X = cu S f := by
  obtain ⟨m, hm, e⟩ := h
  by_cases b : Xi S 904 65 = 0
  · have := hm b
    have := hN b
    obtain ⟨k, rfl⟩ : ∃ k, m = k + 1 := ⟨m - 1, by omega⟩
    rw [e, cu_ok b, gS_1, hl b]
  · rw [e, cu_bad b, gS_0]
theorem FU_s {X : Int × Int} {l : Nat → Int → Int × Int} {N : Int} {S U : sS} {f : Nat} (h : FUL X l N S f) (b : Xi S 904 65 = 0) (hN : Xi S 904 8 - f ≤ N) (hl : ∀ k, l (k + 1) (Xi S 904 8 - f) = gSq (cu U f) (l k)) (hu : Xi U 904 65 = 0 → Xi S 904 8 < Xi U 904 8) : FUL X l N U f := by
  obtain ⟨m, hm, e⟩ := h
  have := hm b
  obtain ⟨k, rfl⟩ : ∃ k, m = k + 1 := ⟨m - 1, by omega⟩
  refine ⟨k, fun c => ?_, ?_⟩
  · have := hu c; omega
  · rw [e, cu_ok b, gS_1, hl]
/-- whether an is stands there -/
theorem fo_no {T : Int → Int} {k b : Int} : ∀ (n : Nat) (a : Int), (∀ j, a ≤ j → j < a + n → T j ≠ k) → fo7F T k b n a = -1
  | 0, _, _ => rfl
  | n + 1, a, h => by
    show (if T a = k then a else fo7F T k b n (a + 1)) = -1
    rw [if_neg (h a (by omega) (by omega))]
    exact fo_no n (a + 1) (fun j h1 h2 => h j (by omega) (by omega))
theorem fo_yes {T : Int → Int} {k b : Int} : ∀ (n : Nat) (a : Int), 0 ≤ a → (∃ j, a ≤ j ∧ j < a + n ∧ T j = k) → fo7F T k b n a ≠ -1
  | 0, _, _, ⟨j, h1, h2, _⟩ => by omega
  | n + 1, a, h0, ⟨j, h1, h2, h3⟩ => by
    show (if T a = k then a else fo7F T k b n (a + 1)) ≠ -1
    by_cases q : T a = k
    · rw [if_pos q]; omega
    · rw [if_neg q]
      exact fo_yes n (a + 1) (by omega) ⟨j, by have : j ≠ a := fun e => q (e ▸ h3); omega, by omega, h3⟩
def nIz (T : Int → Int) (a b : Int) : Prop := ∀ j, a ≤ j → j < b → T j ≠ 4
def yIs (T : Int → Int) (a b : Int) : Prop := ∃ j, a ≤ j ∧ j < b ∧ T j = 4
theorem nIs_0 {T : Int → Int} {a : Int} : nIz T a a := fun j h1 h2 => by omega
theorem nIs_s {T : Int → Int} {a b : Int} (h : nIz T a b) (t : T b ≠ 4) : nIz T a (b + 1) := fun j h1 h2 => (Int.lt_or_le j b).elim (fun q => h j h1 q) (fun q => by rw [show j = b by omega]; exact t)
theorem yIs_s {T : Int → Int} {a b : Int} (h : yIs T a b) : yIs T a (b + 1) := by
  obtain ⟨j, h1, h2, h3⟩ := h
  exact ⟨j, h1, by omega, h3⟩
theorem yIs_n {T : Int → Int} {a b : Int} (h : a ≤ b) (t : T b = 4) : yIs T a (b + 1) := ⟨b, h, by omega, t⟩
theorem nIs_f {T : Int → Int} {a e : Int} (h : nIz T a e) : fo7 T 4 a e = -1 := fo_no _ _ (fun j h1 h2 => h j h1 (by omega))
theorem yIs_f {T : Int → Int} {a e : Int} (h0 : 0 ≤ a) (h : yIs T a e) : fo7 T 4 a e ≠ -1 := by
  obtain ⟨j, h1, h2, h3⟩ := h
  exact fo_yes _ _ h0 ⟨j, h1, by omega, h3⟩
theorem gTsn_1 {T : Int → Int} {k : Nat} {a : Int} (h : T a = 16) : gTsn7 T (k + 1) a = gSq (gTtR T 0 (a + 1)) (gTsn7 T k) := if_pos h
theorem gTsn_0 {T : Int → Int} {k : Nat} {a : Int} (h : T a ≠ 16) : gTsn7 T (k + 1) a = (1, a) := if_neg h
theorem gPsn_1 {T : Int → Int} {k : Nat} {a : Int} (h : T a = 105) : gPsn7 T (k + 1) a = gSq (gP1R T (a + 1)) (gPsn7 T k) := if_pos h
theorem gPsn_0 {T : Int → Int} {k : Nat} {a : Int} (h : T a ≠ 105) : gPsn7 T (k + 1) a = (1, a) := if_neg h
/-- the ends of a test -/
theorem gE_1 {T : Int → Int} {now b : Int} (h : et7 now (T b)) : gEt T now b = (1, b) := if_pos h
theorem gE_0 {T : Int → Int} {now b : Int} (h : ¬ et7 now (T b)) : gEt T now b = (0, b) := if_neg h
theorem et_of {S : sS} {f m : Nat} {a z now : Int} (h : VLR S f m) (h0 : (f : Int) ≤ a) (h1 : a ≤ f + m) (hz : Xi S 907 a.toNat = z) : (et7 now (tR S f m (a - f)) → (z = 46 ∨ z = 59 ∨ z = 1 ∨ (now = 0 ∧ (z = 116 ∨ z = 58)))) ∧ ((z = 46 ∨ z = 59 ∨ z = 1 ∨ (now = 0 ∧ (z = 116 ∨ z = 58))) → et7 now (tR S f m (a - f))) := by
  have a1 : (z = 46 → tR S f m (a - f) = 103) ∧ (z ≠ 46 → tR S f m (a - f) ≠ 103) := tR_k (k := 46) h h0 h1 rfl hz
  have a2 : (z = 59 → tR S f m (a - f) = 105) ∧ (z ≠ 59 → tR S f m (a - f) ≠ 105) := tR_k (k := 59) h h0 h1 rfl hz
  have a3 : (z = 1 → tR S f m (a - f) = 107) ∧ (z ≠ 1 → tR S f m (a - f) ≠ 107) := tR_k (k := 1) h h0 h1 rfl hz
  have a4 : (z = 116 → tR S f m (a - f) = 16) ∧ (z ≠ 116 → tR S f m (a - f) ≠ 16) := tR_k (k := 116) h h0 h1 rfl hz
  have a5 : (z = 58 → tR S f m (a - f) = 106) ∧ (z ≠ 58 → tR S f m (a - f) ≠ 106) := tR_k (k := 58) h h0 h1 rfl hz
  unfold et7
  constructor <;> intro q <;> omega
theorem gSq3 {x : Int × Int} {f g h : Int → Int × Int} : gSq (gSq (gSq x f) g) h = gSq x (fun a => gSq (gSq (f a) g) h) := by
  rw [gSq_as (x := gSq x f), gSq_as]
  congr 1
  funext a
  rw [gSq_as]
theorem gSq4 {x : Int × Int} {f g h k : Int → Int × Int} : gSq (gSq (gSq (gSq x f) g) h) k = gSq x (fun a => gSq (gSq (gSq (f a) g) h) k) := by
  by_cases hx : x.1 = 0
  · rw [show gSq x f = x from gSq_0 hx, show gSq x g = x from gSq_0 hx, show gSq x h = x from gSq_0 hx, show gSq x k = x from gSq_0 hx, gSq_0 hx]
  · rw [show gSq x f = f x.2 from gSq_1 hx, gSq_1 hx]
theorem cu_nt {V U : sS} {f : Nat} {T : Int → Int} (b : Xi U 904 65 = Xi V 904 65) (c : Xi U 904 66 = Xi V 904 66) (h : Xi V 904 65 = 0 → Xi U 904 8 - f = gTn T (Xi V 904 8 - f)) : gSq (cu V f) (fun b => (1, gTn T b)) = cu U f := by
  by_cases q : Xi V 904 65 = 0
  · rw [cu_ok q, gS_1, cu_ok (S := U) (by omega), h q]
  · rw [cu_bad q, gS_0, cu_bad (S := U) (by omega), c]
theorem gTo_r {T : Int → Int} {now b : Int} (h : T b = 100) : gTo T now b = gR T b := if_pos h
theorem gTo_o {T : Int → Int} {now b : Int} (h : T b ≠ 100) (hn : now ≠ 0) : gTo T now b = (0, b) := by
  unfold gTo; rw [if_neg h, if_pos hn]
theorem gTo_p {T : Int → Int} {now b : Int} (h : T b ≠ 100) (hn : now = 0) : gTo T now b = gSq (gPc T b) (gTh T) := by
  unfold gTo; rw [if_neg h, if_neg (fun q => q hn)]
theorem gTm_s {T : Int → Int} {now a : Int} (h : fo7 T 4 a (te8 T now a) = -1) : gTm T now a = gLo T 54 53 a := if_pos h
theorem gTm_p {T : Int → Int} {now a : Int} (h : fo7 T 4 a (te8 T now a) ≠ -1) (hb : bp7 T a) : gTm T now a = gSq (gSq (gSq (gPy T a) (gTh T)) (gT T 4)) (gTw T now) := by
  unfold gTm; rw [if_neg h, if_pos hb]
theorem gTm_o {T : Int → Int} {now a : Int} (h : fo7 T 4 a (te8 T now a) ≠ -1) (hb : ¬ bp7 T a) : gTm T now a = gSq (gSq (gSq (gTh T a) (gT T 4)) (fun b => (1, gTn T b))) (gTo T now) := by
  unfold gTm; rw [if_neg h, if_neg hb]
theorem gTw_n {T : Int → Int} {now b : Int} (h : now ≠ 0) : gTw T now b = gWh T b := if_pos h
theorem gTw_l {T : Int → Int} {now b : Int} (h : now = 0) (hb : T b = 51 ∨ T b = 52) : gTw T now b = gSq (gT T 50 (b + 1)) (gT T 101) := by
  unfold gTw; rw [if_neg (fun q => q h), if_pos hb]
theorem gTw_w {T : Int → Int} {now b : Int} (h : now = 0) (hb : T b ≠ 51) (hc : T b ≠ 52) : gTw T now b = gWh T (gTn T b) := by
  unfold gTw gTn; rw [if_neg (fun q => q h), if_neg (by omega)]
  by_cases q : T b = 6
  · rw [if_pos q, if_pos q]
  · rw [if_neg q, if_neg q]
theorem cu_ch {x y z : Int × Int} {f g : Int → Int × Int} (h1 : gSq x f = y) (h2 : gSq y g = z) : gSq x (fun a => gSq (f a) g) = z := by rw [← gSq_as, h1, h2]
theorem un_a4 (z : Int) : (100 ≤ z → un7 z = z - 100) ∧ (z < 100 → 100 ≤ un7 z) ∧ (z = 3 → un7 z = 100) ∧ (z ≠ 3 → z = tr7 (un7 z) → un7 z ≠ 100) := by
  refine ⟨(un_ab z).1, (un_ab z).2, fun h => by rw [h]; rfl, fun h e q => h ?_⟩
  rw [e, q]; rfl
theorem cu_eqb {S T : sS} {f : Nat} (h1 : Xi T 904 65 = Xi S 904 65) (h2 : Xi S 904 65 = 0 → Xi T 904 8 = Xi S 904 8) (h3 : Xi T 904 66 = Xi S 904 66) : cu T f = cu S f := by
  by_cases b : Xi S 904 65 = 0
  · rw [cu_ok b, cu_ok (S := T) (by omega), h2 b]
  · rw [cu_bad b, cu_bad (S := T) (by omega), h3]
theorem gPh_s {T : Int → Int} {a : Int} (h : T a = 43) : gPhR T a = gT T 102 (a + 1) := if_pos h
theorem gPh_n {T : Int → Int} {a : Int} (h : T a = 44) : gPhR T a = gTtR T 1 (a + 1) := by
  unfold gPhR; rw [if_neg (by omega), if_pos h]
theorem gPh_m {T : Int → Int} {a : Int} (h : T a = 45) : gPhR T a = gSq (gSq (gTh T (a + 1)) (gT T 11)) (gTh T) := by
  unfold gPhR; rw [if_neg (by omega), if_neg (by omega), if_pos h]
theorem gPh_i {T : Int → Int} {a : Int} (h : T a = 46 ∨ T a = 47) : gPhR T a = gSq (gSq (gSq (gPy T (a + 1)) (gTh T)) (gT T 10)) (gT T 101) := by
  unfold gPhR; rw [if_neg (by omega), if_neg (by omega), if_neg (by omega), if_pos h]
theorem gPh_t {T : Int → Int} {a : Int} (h : T a = 49) : gPhR T a = gSq (gR T (a + 1)) (fun b => if th7 (T b) then gTh T b else (1, b)) := by
  unfold gPhR; rw [if_neg (by omega), if_neg (by omega), if_neg (by omega), if_neg (by omega), if_pos h]
theorem gPh_z {T : Int → Int} {a : Int} (h : T a = 48) : gPhR T a = (1, a + 1) := by
  unfold gPhR; rw [if_neg (by omega), if_neg (by omega), if_neg (by omega), if_neg (by omega), if_neg (by omega), if_pos h]
theorem gPh_0 {T : Int → Int} {a : Int} (h : T a ≠ 43 ∧ T a ≠ 44 ∧ T a ≠ 45 ∧ T a ≠ 46 ∧ T a ≠ 47 ∧ T a ≠ 48 ∧ T a ≠ 49) : gPhR T a = (0, a) := by
  unfold gPhR; rw [if_neg (by omega), if_neg (by omega), if_neg (by omega), if_neg (by omega), if_neg (by omega), if_neg (by omega)]
theorem gEp_1 {T : Int → Int} {b : Int} (h : T b = 105 ∨ T b = 103) : gEp T b = (1, b) := if_pos h
theorem gEp_0 {T : Int → Int} {b : Int} (h : ¬ (T b = 105 ∨ T b = 103)) : gEp T b = (0, b) := if_neg h
/-- from V on, whatever V is -/
theorem cu_br {V U : sS} {f : Nat} {g : Int → Int × Int} (h : Xi V 904 65 = 0 → g (Xi V 904 8 - f) = cu U f) (h2 : Xi V 904 65 ≠ 0 → cu U f = cu V f) : gSq (cu V f) g = cu U f := by
  by_cases b : Xi V 904 65 = 0
  · rw [cu_ok b, gS_1]; exact h b
  · rw [h2 b, cu_bad b, gS_0]
theorem cu_1 {U : sS} {f : Nat} {a : Int} (b : Xi U 904 65 = 0) (h : Xi U 904 8 - f = a) : (1, a) = cu U f := by rw [cu_ok b, h]
theorem tkx_s {T : Int → Int} {p : Int} (h0 : 0 ≤ p) (h : p < 5131) (h1 : T p ≠ 103) (h2 : T p ≠ 107) (h3 : ¬ tl7 (T p)) : tkF T (5131 - p).toNat p = tkF T (5131 - (p + 1)).toNat (p + 1) := tk_s h0 h (by omega) h3
theorem kt_1 {T : Int → Int} {p t : Int} (h : tk7 T = p) (hp : p ≠ -1) (ht : T p = t) : kt7 T = t := by
  unfold kt7; rw [h, if_neg hp, ht]
theorem kt_0 {T : Int → Int} (h : tk7 T = -1) : kt7 T = 107 := by
  unfold kt7; rw [if_pos h]
theorem gOo_20 {T : Int → Int} {t : Int} (h : t ≠ 12) (h2 : t ≠ 13) (h3 : t ≠ 21) : gOo T t = gLo T 16 104 0 := by
  unfold gOo; rw [if_neg h, if_neg h2, if_neg h3]
theorem JR_0 {S : sS} {f m : Nat} (h : Xi S 904 8 = f) (h69 : Xi S 904 69 = 0) : JR S f m := by
  intro _
  refine ⟨⟨by omega, by omega⟩, fun _ => ⟨?_, fun k hk => absurd hk (by omega)⟩⟩
  rw [h69, h, Int.sub_self]
  rfl
theorem un_44 (z : Int) : (z = 44 → un7 z = 104) ∧ (z ≠ 44 → z = tr7 (un7 z) → un7 z ≠ 104) := ⟨fun h => by rw [h]; rfl, fun h e q => h (by rw [e, q]; rfl)⟩
/-- what is kept of the part behind is or are -/
def RSR (S : sS) (T : Int → Int) (a r : Int) : Prop :=
  (T a = 0 ∧ T (a + 1) = 18 → Xi S 904 70 = 10 ∧ (T (a + 2) ≠ 7 → Xi S 904 78 = -1) ∧ (T (a + 2) = 7 → T (a + 3) = 20 → Xi S 904 78 = -2) ∧ (T (a + 2) = 7 → T (a + 3) ≠ 20 → Xi S 904 78 = r)) ∧
  (T a = 1 ∧ T (a + 1) = 27 → Xi S 904 70 = 11 ∧ (T (a + 2) ≠ 28 → Xi S 904 78 = -1) ∧ (T (a + 2) = 28 → Xi S 904 78 = r)) ∧
  (art7 (T a) → ¬ (T a = 0 ∧ T (a + 1) = 18) → ¬ (T a = 1 ∧ T (a + 1) = 27) → Xi S 904 70 = 12 ∧ Xi S 904 78 = r ∧ (T (re7 T (a + 1)) = 103 → Xi S 904 73 = 0) ∧ (T (re7 T (a + 1)) ≠ 103 → Xi S 904 73 = pw7 (T (re7 T (a + 1))) ∧ Xi S 904 74 = r + 1)) ∧
  (T a = 6 ∨ T a = 32 → Xi S 904 70 = 15 ∧ Xi S 904 78 = r ∧ (T a = 6 → Xi S 904 75 = 1 ∧ Xi S 904 76 = 0) ∧ (T a = 32 → Xi S 904 75 = 0 ∧ Xi S 904 76 = 1)) ∧
  (T a = 100 → Xi S 904 78 = r ∧ (T (re7 T a) = 7 → Xi S 904 70 = 14 ∧ Xi S 904 74 = r + 1) ∧ (T (re7 T a) = 16 ∨ T (re7 T a) = 104 → Xi S 904 70 = 16) ∧ (T (re7 T a) ≠ 7 → T (re7 T a) ≠ 16 → T (re7 T a) ≠ 104 → Xi S 904 70 = 15)) ∧
  (T a ≠ 100 → T a ≠ 6 → T a ≠ 32 → ¬ art7 (T a) → Xi S 904 70 = 13 ∧ Xi S 904 73 = pw7 (T a) ∧ Xi S 904 74 = r)
theorem gRe_10 {T : Int → Int} {a : Int} (h : T a = 0 ∧ T (a + 1) = 18) : gRe T a = (if T (a + 2) = 7 then (if T (a + 3) = 20 then (1, a + 4) else gN T (a + 3)) else (1, a + 2)) := if_pos h
theorem gRe_11 {T : Int → Int} {a : Int} (h : T a = 1 ∧ T (a + 1) = 27) : gRe T a = (if T (a + 2) = 28 then gSq (gSq (gT T 11 (a + 3)) (gT T 22)) (gR T) else (1, a + 2)) := by
  unfold gRe; rw [if_neg (by omega), if_pos h]
theorem gRe_12 {T : Int → Int} {a : Int} (h1 : ¬ (T a = 0 ∧ T (a + 1) = 18)) (h2 : ¬ (T a = 1 ∧ T (a + 1) = 27)) (h : art7 (T a)) : gRe T a = gSq (gR T (a + 1)) (fun b => if T b = 103 then (1, b) else gSq (gPc T b) (gN T)) := by
  unfold gRe; rw [if_neg h1, if_neg h2, if_pos h]
theorem gRe_15 {T : Int → Int} {a : Int} (h : T a = 6 ∨ T a = 32) : gRe T a = gR T (a + 1) := by
  unfold gRe; rw [if_neg (by omega), if_neg (by omega), if_neg (by unfold art7; omega), if_pos h]
theorem gRe_f {T : Int → Int} {a : Int} (h : T a = 100) : gRe T a = gSq (gR T a) (fun b => if T b = 7 then gN T (b + 1) else if T b = 16 ∨ T b = 104 then gRn T 5200 b else (1, b)) := by
  unfold gRe; rw [if_neg (by omega), if_neg (by omega), if_neg (by unfold art7; omega), if_neg (by omega), if_pos h]
theorem gRe_13 {T : Int → Int} {a : Int} (h1 : T a ≠ 100) (h2 : T a ≠ 6) (h3 : T a ≠ 32) (h4 : ¬ art7 (T a)) : gRe T a = gSq (gPc T a) (gN T) := by
  unfold art7 at h4; unfold gRe; rw [if_neg (by omega), if_neg (by omega), if_neg (by unfold art7; omega), if_neg (by omega), if_neg (by omega)]
theorem gRn_1 {T : Int → Int} {k : Nat} {a b : Int} (h : gBt T a = (1, b)) : gRn T (k + 1) a = gSq (gR T b) (gRn T k) := by
  rw [gRn_s, h, if_neg one0]
theorem gRn_0 {T : Int → Int} {k : Nat} {a b : Int} (h : gBt T a = (0, b)) : gRn T (k + 1) a = (1, b) := by
  rw [gRn_s, h, if_pos rfl]
theorem cu_ch0 {x y z : Int × Int} {g : Int → Int × Int} (h1 : x = y) (h2 : gSq y g = z) : gSq x g = z := by rw [h1, h2]
theorem cu_f16 {V U : sS} {f : Nat} {T : Int → Int} {k : Nat} (x65 : Xi U 904 65 = Xi V 904 65) (x66 : Xi U 904 66 = Xi V 904 66) (x8 : Xi U 904 8 = Xi V 904 8) (h : Xi V 904 65 = 0 → T (Xi V 904 8 - f) ≠ 7) (h2 : Xi V 904 65 = 0 → T (Xi V 904 8 - f) = 16 ∨ T (Xi V 904 8 - f) = 104) : gSq (cu V f) (fun b => if T b = 7 then gN T (b + 1) else if T b = 16 ∨ T b = 104 then gRn T k b else (1, b)) = gSq (cu U f) (gRn T k) := by
  by_cases b : Xi V 904 65 = 0
  · rw [cu_ok b, cu_ok (S := U) (by omega), gS_1, gS_1, x8, if_neg (h b), if_pos (h2 b)]
  · rw [cu_bad b, cu_bad (S := U) (by omega), gS_0, gS_0, x66]
theorem tR_u {S : sS} {f m : Nat} {a z : Int} (h : VLR S f m) (h0 : (f : Int) ≤ a) (h1 : a ≤ f + m) (hz : Xi S 907 a.toNat = z) : tR S f m (a - f) = un7 z ∧ z = tr7 (un7 z) := by
  obtain ⟨t, ht, ex⟩ := h.1 (a - f).toNat (by omega)
  rw [show f + (a - f).toNat = a.toNat by omega, hz] at ex
  refine ⟨?_, ?_⟩
  · rw [tR_un (by omega) (by omega), show (f : Int) + (a - f) = a by omega, hz]
  · rw [ex, un_t ht]
theorem un_5 (z : Int) : (z = 5 → un7 z = 102) ∧ (z ≠ 5 → z = tr7 (un7 z) → un7 z ≠ 102) := ⟨fun h => by rw [h]; rfl, fun h e q => h (by rw [e, q]; rfl)⟩
/-- the RUNS that were kept are those of the sentence, in their order -/
def KRS (S : sS) (f m : Nat) : Prop := ∀ k : Nat, (k : Int) < Xi S 904 69 → Xi S 950 k - f = kr7 (tR S f m) k ∧ Xi S 951 k = re7 (tR S f m) (kr7 (tR S f m) k) - kr7 (tR S f m) k
theorem JR.ks {S : sS} {f m : Nat} (h : JR S f m) (b : Xi S 904 65 = 0) (c : Xi S 904 93 = 0) : KRS S f m := ((h b).2 c).2
theorem KRS_FR {l : List rec} {S T : sS} {f m : Nat} (h : FR l S T) (e : mD l [69] = true) (e1 : kdis l [(907, 908)] = true) (e2 : kdis l [(950, 952)] = true) (hK : KRS S f m) : KRS T f m := by
  unfold KRS
  rw [mD_x h e 69 (by decide), FRR h e1]
  simp only [(h.smk e2).x 950 rfl, (h.smk e2).x 951 rfl]
  exact hK
theorem gSe_1 {T : Int → Int} (h : T 0 = 33) : gSe T = gO1 T := if_pos h
theorem gSe_2 {T : Int → Int} (h : T 0 = 35) : gSe T = gO2 T := by
  unfold gSe; rw [if_neg (by omega), if_pos h]
theorem gSe_r {T : Int → Int} {s : Int} (h : (T 0 = 38 ∧ s = 3) ∨ (T 0 = 40 ∧ s = 4) ∨ (T 0 = 39 ∧ s = 5) ∨ (T 0 = 41 ∧ s = 6)) : gSe T = gRuR T s := by
  unfold gSe
  rcases h with ⟨h, rfl⟩ | ⟨h, rfl⟩ | ⟨h, rfl⟩ | ⟨h, rfl⟩
  · rw [if_neg (by omega), if_neg (by omega), if_pos h]
  · rw [if_neg (by omega), if_neg (by omega), if_neg (by omega), if_pos h]
  · rw [if_neg (by omega), if_neg (by omega), if_neg (by omega), if_neg (by omega), if_pos h]
  · rw [if_neg (by omega), if_neg (by omega), if_neg (by omega), if_neg (by omega), if_neg (by omega), if_pos h]
theorem gSe_7 {T : Int → Int} (h : T 0 = 2) (h1 : T 1 = 25) : gSe T = gO7 T := by
  unfold gSe; rw [if_neg (by omega), if_neg (by omega), if_neg (by omega), if_neg (by omega), if_neg (by omega), if_neg (by omega), if_pos ⟨h, h1⟩]
theorem gSe_8 {T : Int → Int} (h : T 0 = 2) (h1 : T 1 = 19) : gSe T = gO8 T := by
  unfold gSe; rw [if_neg (by omega), if_neg (by omega), if_neg (by omega), if_neg (by omega), if_neg (by omega), if_neg (by omega), if_neg (by omega), if_pos ⟨h, h1⟩]
theorem gSe_c {T : Int → Int} (h : T 0 ≠ 33 ∧ T 0 ≠ 35 ∧ T 0 ≠ 38 ∧ T 0 ≠ 40 ∧ T 0 ≠ 39 ∧ T 0 ≠ 41) (h7 : ¬ (T 0 = 2 ∧ T 1 = 25)) (h8 : ¬ (T 0 = 2 ∧ T 1 = 19)) : gSe T = gCo T := by
  unfold gSe; rw [if_neg (by omega), if_neg (by omega), if_neg (by omega), if_neg (by omega), if_neg (by omega), if_neg (by omega), if_neg h7, if_neg h8]

/-! class and reference read alike: the functions of both -/
/-- a function that doesn't go back -/
def MN (f : Int → Int × Int) : Prop := ∀ a, (f a).1 ≠ 0 → a ≤ (f a).2
theorem MN_sq {f g : Int → Int × Int} (hf : MN f) (hg : MN g) : MN (fun a => gSq (f a) g) := fun a => by
  show (gSq (f a) g).1 ≠ 0 → a ≤ (gSq (f a) g).2
  by_cases q : (f a).1 = 0
  · rw [gSq_0 q]; intro h; exact absurd q h
  · rw [gSq_1 q]; intro h
    have h1 := hf a q
    have h2 := hg _ h
    omega
theorem MN_T {T : Int → Int} {k : Int} : MN (gT T k) := fun a => by
  unfold gT
  split
  · intro _; show a ≤ a + 1; omega
  · intro h; exact absurd rfl h
theorem re7_le {T : Int → Int} {a : Int} : a ≤ re7 T a := reF_le _ _
theorem bA_le {T : Int → Int} {a : Int} : a ≤ bA T a := by
  unfold bA; split <;> omega
theorem MN_R {T : Int → Int} : MN (gR T) := fun _ _ => re7_le
theorem MN_N {T : Int → Int} : MN (gN T) := fun _ _ => Int.le_trans bA_le re7_le
theorem MN_or {f g : Int → Int × Int} (hf : ∀ a, a ≤ (f a).2) (hg : MN g) : MN (fun a => gOr (f a) g) := fun a => by
  show (gOr (f a) g).1 ≠ 0 → a ≤ (gOr (f a) g).2
  unfold gOr
  have := hf a
  split
  · intro h; have := hg _ h; omega
  · intro _; exact hf a
theorem le_T {T : Int → Int} {k a : Int} : a ≤ (gT T k a).2 := by
  unfold gT; split
  · show a ≤ a + 1; omega
  · exact Int.le_refl a
theorem le_or {f g : Int → Int × Int} (hf : ∀ a, a ≤ (f a).2) (hg : ∀ a, a ≤ (g a).2) (a : Int) : a ≤ (gOr (f a) g).2 := by
  unfold gOr
  have h1 := hf a
  have h2 := hg (f a).2
  split <;> omega
theorem MN_Wh {T : Int → Int} : MN (gWh T) := MN_or (f := fun a => gOr (gT T 101 a) (gT T 102)) (le_or (fun _ => le_T) (fun _ => le_T)) MN_R
theorem MN_Th {T : Int → Int} : MN (gTh T) := MN_or (f := fun a => gOr (gT T 54 a) (gT T 53)) (g := fun b => if T b = 2 then gOr (gT T 53 (bA T b)) (gR T) else gN T b) (le_or (fun _ => le_T) (fun _ => le_T)) (fun a => by
  show (if T a = 2 then gOr (gT T 53 (bA T a)) (gR T) else gN T a).1 ≠ 0 → a ≤ (if T a = 2 then gOr (gT T 53 (bA T a)) (gR T) else gN T a).2
  split
  · intro h
    have h1 := MN_or (f := gT T 53) (g := gR T) (fun _ => le_T) MN_R (bA T a) h
    have h2 : a ≤ bA T a := bA_le
    exact Int.le_trans h2 h1
  · exact MN_N a)
theorem MN_Pc {T : Int → Int} : MN (gPc T) := fun a => by
  unfold gPc
  split
  · intro _; show a ≤ a + 1; omega
  · split
    · intro h; have := MN_T (T := T) (k := 7) (a + 1) h; omega
    · split
      · intro h; have := MN_T (T := T) (k := 10) (a + 1) h; omega
      · intro h; exact absurd rfl h
theorem MN_Py {T : Int → Int} : MN (gPy T) := MN_sq (MN_sq MN_T MN_R) MN_T
theorem MN_Tn {T : Int → Int} : MN (fun b => (1, gTn T b)) := fun a _ => by
  show a ≤ gTn T a
  unfold gTn; split <;> omega
theorem MN_Tw {T : Int → Int} {now : Int} : MN (gTw T now) := fun a => by
  unfold gTw
  split
  · exact MN_Wh a
  · split
    · intro h; have := MN_sq (MN_T (T := T) (k := 50)) (MN_T (T := T) (k := 101)) (a + 1) h; exact Int.le_trans (by omega) this
    · split
      · intro h; have := MN_Wh (a + 1) h; omega
      · exact MN_Wh a
theorem MN_To {T : Int → Int} {now : Int} : MN (gTo T now) := fun a => by
  unfold gTo
  split
  · exact MN_R a
  · split
    · intro h; exact absurd rfl h
    · exact MN_sq MN_Pc MN_Th a
theorem MN_Lo {T : Int → Int} {x y : Int} : MN (gLo T x y) := fun _ _ => lo_u _ _
theorem MN_Tm {T : Int → Int} {now : Int} : MN (gTm T now) := fun a => by
  unfold gTm
  split
  · exact MN_Lo a
  · split
    · exact MN_sq (MN_sq (MN_sq MN_Py MN_Th) MN_T) MN_Tw a
    · exact MN_sq (MN_sq (MN_sq MN_Th MN_T) MN_Tn) MN_To a
theorem pl_g {T : Int → Int} {b : Int} {g : Int → Int × Int} (h : pl7 (T b)) : gSq (if T b = 29 then gT T 7 (b + 1) else if T b = 30 ∨ T b = 31 then gT T 10 (b + 1) else (1, b + 1)) g = gSq (gPc T b) g := by
  unfold pl7 at h
  unfold gPc
  by_cases h1 : T b = 29
  · rw [if_pos h1, if_neg (by omega), if_pos h1]
  · rw [if_neg h1]
    by_cases h2 : T b = 30 ∨ T b = 31
    · rw [if_pos h2, if_neg (by omega), if_neg h1, if_pos h2]
    · rw [if_neg h2, if_pos (by omega)]
theorem gPl_0 {T : Int → Int} {b : Int} (h : pl7 (T b)) : gPl T 0 b = gSq (gPc T b) (gN T) := by
  unfold gPl
  rw [pl_g h]
  exact gSq_c (fun _ => if_pos rfl)
theorem gPl_1 {T : Int → Int} {b : Int} (h : pl7 (T b)) : gPl T 1 b = gSq (gPc T b) (gTh T) := by
  unfold gPl
  rw [pl_g h]
  exact gSq_c (fun _ => if_neg one0)
theorem gTn_e {T : Int → Int} {b : Int} : (gT T 6 b).2 = gTn T b := by
  unfold gT gTn
  split <;> rfl
theorem bp_y {T : Int → Int} {a : Int} (h : bp7 T a) : gPy T a = (1, re7 T (a + 1) + 1) := by
  unfold gPy
  rw [gT_1 h.1, gS_1, gR_1 h.2.1 rfl, gS_1, gT_1 h.2.2]
/-- a TEST -/
theorem gTm_e {T : Int → Int} {now a : Int} : gTm T now a = gTt T now a := by
  unfold gTm gTt
  by_cases h : fo7 T 4 a (te8 T now a) = -1
  · rw [if_pos h, if_pos h]
  · rw [if_neg h, if_neg h]
    by_cases b : bp7 T a
    · rw [if_pos b, if_pos b, bp_y b, gS_1]
      unfold gPt
      exact gSq_c (fun _ => gTw_e.symm)
    · rw [if_neg b, if_neg b, gSq_as]
      refine gSq_c (fun _ => ?_)
      show gSq (1, gTn T _) (gTo T now) = _
      rw [gS_1, gTn_e]
      unfold gTo
      by_cases c : T (gTn T (gSq (gTh T a) (gT T 4)).2) = 100
      · rw [if_pos c, if_neg (by unfold pl7; omega)]
      · rw [if_neg c]
        by_cases n : now ≠ 0
        · rw [if_pos n, if_neg (by omega), gR_0 c]
        · rw [if_neg n]
          by_cases p : pl7 (T (gTn T (gSq (gTh T a) (gT T 4)).2))
          · rw [if_pos ⟨by omega, p⟩, gPl_1 p]
          · rw [if_neg (fun z => p z.2), gR_0 c, gPc_0 (by unfold pl7 at p; omega), gS_0]
/-- TESTS, with what must come behind -/
theorem gT_f {T : Int → Int} {k b : Int} (h : T b ≠ k) : gSq (1, b) (gT T k) = (0, b) := by rw [gS_1, gT_0 h]
theorem te_sn {T : Int → Int} {k N : Int} (hk : k = 103 ∨ k = 106) (hT : ∀ i, N < i → T i = 107) : ∀ (m m2 : Nat) (a : Int), N - a < m → N - a < m2 → gSq (gTsn7 T m a) (gT T k) = gSq (gTsn T m2 a) (gT T k)
  | 0, 0, _, _, _ => rfl
  | 0, m2 + 1, a, h1, _ => by
    have e : T a = 107 := hT a (by omega)
    have e2 : gTsn T (m2 + 1) a = (1, a) := by
      show (if (gT T 16 a).1 = 0 then (1, (gT T 16 a).2) else _) = _
      rw [gT_0 (by omega), if_pos rfl]
    rw [e2]
    rfl
  | m + 1, 0, a, _, h2 => by
    have e : T a = 107 := hT a (by omega)
    rw [gTsn_0 (by omega)]
    rfl
  | m + 1, m2 + 1, a, h1, h2 => by
    have e2 : gTsn T (m2 + 1) a = if (gT T 16 a).1 = 0 then (1, (gT T 16 a).2) else if (gTt T 0 (gT T 16 a).2).1 = 0 then (0, (gTt T 0 (gT T 16 a).2).2) else gTsn T m2 (gTt T 0 (gT T 16 a).2).2 := rfl
    rw [e2]
    by_cases q : T a = 16
    · rw [gTsn_1 q, gT_1 q, if_neg one0]
      show gSq (gSq (gTtR T 0 (a + 1)) (gTsn7 T m)) (gT T k) = gSq (if (gTt T 0 (a + 1)).1 = 0 then (0, (gTt T 0 (a + 1)).2) else gTsn T m2 (gTt T 0 (a + 1)).2) (gT T k)
      have mn := MN_Tm (T := T) (now := 0) (a + 1)
      unfold gTtR
      rw [gTm_e] at mn ⊢
      by_cases f : (gTt T 0 (a + 1)).1 = 0
      · rw [if_pos f, gSq_0 f, gSq_0 f, ← two_or f]
      · rw [if_neg f, gSq_1 f]
        have l := mn f
        by_cases et : et7 0 (T (gTt T 0 (a + 1)).2)
        · rw [gE_1 et, gS_1]
          exact te_sn hk hT m m2 _ (by omega) (by omega)
        · rw [gE_0 et, gS_0, gS_0]
          unfold et7 at et
          have e3 : gSq (gTsn T m2 (gTt T 0 (a + 1)).2) (gT T k) = gSq (1, (gTt T 0 (a + 1)).2) (gT T k) := by
            cases m2 with
            | zero => rfl
            | succ n =>
              have e4 : gTsn T (n + 1) (gTt T 0 (a + 1)).2 = (1, (gTt T 0 (a + 1)).2) := by
                show (if (gT T 16 _).1 = 0 then (1, (gT T 16 _).2) else _) = _
                rw [gT_0 (by omega), if_pos rfl]
              rw [e4]
          rw [e3, gT_f (by omega)]
    · rw [gTsn_0 q, gT_0 q, if_pos rfl]
theorem ts_e {T : Int → Int} {k N a : Int} (hk : k = 103 ∨ k = 106) (hT : ∀ i, N < i → T i = 107) (hN : N ≤ 5000) (ha : 1 ≤ a) : gSq (gTsR T a) (gT T k) = gSq (gTs T a) (gT T k) := by
  have mn := MN_Tm (T := T) (now := 0) a
  unfold gTsR gTs gTtR
  rw [gTm_e] at mn ⊢
  by_cases f : (gTt T 0 a).1 = 0
  · rw [if_pos f, gSq_0 f, gSq_0 f, ← two_or f]
  · rw [if_neg f, gSq_1 f]
    have l := mn f
    by_cases et : et7 0 (T (gTt T 0 a).2)
    · rw [gE_1 et, gS_1]
      exact te_sn hk hT _ _ _ (by omega) (by omega)
    · rw [gE_0 et, gS_0, gS_0]
      unfold et7 at et
      have e4 : gTsn T 5000 (gTt T 0 a).2 = (1, (gTt T 0 a).2) := by
        show (if (gT T 16 _).1 = 0 then (1, (gT T 16 _).2) else _) = _
        rw [gT_0 (by omega), if_pos rfl]
      rw [e4, gT_f (by omega)]
/-- PHRASES -/
theorem gPh_e {T : Int → Int} {a : Int} (h : T a ≠ 44) : gPhR T a = gPh T a := by
  by_cases h1 : T a = 43
  · simp [gPh, gPhR, gT, gOr, h1]
  · by_cases h2 : T a = 45
    · simp [gPh, gPhR, gT, gOr, h2]
    · by_cases h3 : T a = 46
      · simp [gPh, gPhR, gT, gOr, gPy, h3]
      · by_cases h4 : T a = 47
        · simp [gPh, gPhR, gT, gOr, gPy, h4]
        · by_cases h5 : T a = 49
          · simp [gPh, gPhR, gT, gOr, h5]
          · simp [gPh, gPhR, gT, gOr, h, h1, h2, h3, h4, h5]
theorem gP1_n {T : Int → Int} {a : Int} (h : T a = 44) : gP1 T a = gTt T 1 (a + 1) := by
  unfold gP1
  rw [gT_1 h, if_neg one0]
theorem gP1_o {T : Int → Int} {a : Int} (h : T a ≠ 44) : gP1 T a = gPhR T a := by
  unfold gP1
  rw [gT_0 h, if_pos rfl, gPh_e h]
theorem gP1R_e {T : Int → Int} {a : Int} : gP1R T a = gSq (gP1 T a) (gEp T) := by
  unfold gP1R
  by_cases h : T a = 44
  · rw [gPh_n h, gP1_n h]
    unfold gTtR
    rw [gTm_e, gSq_as]
    refine gSq_c (fun _ => ?_)
    by_cases et : et7 1 (T (gTt T 1 (a + 1)).2)
    · rw [gE_1 et, gS_1]
    · rw [gE_0 et, gS_0, gEp_0 (by unfold et7 at et; omega)]
  · rw [gP1_o h]
theorem MN_u {f : Int → Int × Int} (h : MN f) (a : Int) (q : (f (a + 1)).1 ≠ 0) : a ≤ (f (a + 1)).2 := by
  have := h _ q; omega
theorem MN_Ph {T : Int → Int} : MN (gPhR T) := fun a => by
  unfold gPhR
  split
  · exact MN_u MN_T a
  · split
    · exact MN_u (f := gTtR T 1) (MN_sq (f := gTm T 1) (g := gEt T 1) MN_Tm (fun b => by
        unfold gEt; split
        · intro _; exact Int.le_refl b
        · intro q; exact absurd rfl q)) a
    · split
      · exact MN_u (f := fun x => gSq (gSq (gTh T x) (gT T 11)) (gTh T)) (MN_sq (MN_sq MN_Th MN_T) MN_Th) a
      · split
        · exact MN_u (f := fun x => gSq (gSq (gSq (gPy T x) (gTh T)) (gT T 10)) (gT T 101)) (MN_sq (MN_sq (MN_sq MN_Py MN_Th) MN_T) MN_T) a
        · split
          · exact MN_u (f := fun x => gSq (gR T x) (fun b => if th7 (T b) then gTh T b else (1, b))) (MN_sq MN_R (fun b => by
              show (if th7 (T b) then gTh T b else (1, b)).1 ≠ 0 → b ≤ (if th7 (T b) then gTh T b else (1, b)).2
              split
              · exact MN_Th b
              · intro _; exact Int.le_refl b)) a
          · split
            · intro _; show a ≤ a + 1; omega
            · intro q; exact absurd rfl q
theorem MN_P1 {T : Int → Int} : MN (gP1 T) := fun a => by
  by_cases h : T a = 44
  · rw [gP1_n h, ← gTm_e]; exact MN_u MN_Tm a
  · rw [gP1_o h]; exact MN_Ph a
theorem ps_sn {T : Int → Int} {N : Int} (hT : ∀ i, N < i → T i = 107) : ∀ (m m2 : Nat) (a : Int), N - a < m → N - a < m2 → gSq (gPsn7 T m a) (gT T 103) = gSq (gPsn T m2 a) (gT T 103)
  | 0, 0, _, _, _ => rfl
  | 0, m2 + 1, a, h1, _ => by
    have e : T a = 107 := hT a (by omega)
    have e2 : gPsn T (m2 + 1) a = (1, a) := by
      show (if (gT T 105 a).1 = 0 then (1, (gT T 105 a).2) else _) = _
      rw [gT_0 (by omega), if_pos rfl]
    rw [e2]
    rfl
  | m + 1, 0, a, _, h2 => by
    have e : T a = 107 := hT a (by omega)
    rw [gPsn_0 (by omega)]
    rfl
  | m + 1, m2 + 1, a, h1, h2 => by
    have e2 : gPsn T (m2 + 1) a = if (gT T 105 a).1 = 0 then (1, (gT T 105 a).2) else if (gP1 T (gT T 105 a).2).1 = 0 then (0, (gP1 T (gT T 105 a).2).2) else gPsn T m2 (gP1 T (gT T 105 a).2).2 := rfl
    rw [e2]
    by_cases q : T a = 105
    · rw [gPsn_1 q, gT_1 q, if_neg one0]
      show gSq (gSq (gP1R T (a + 1)) (gPsn7 T m)) (gT T 103) = gSq (if (gP1 T (a + 1)).1 = 0 then (0, (gP1 T (a + 1)).2) else gPsn T m2 (gP1 T (a + 1)).2) (gT T 103)
      have mn := MN_P1 (T := T) (a + 1)
      rw [gP1R_e]
      by_cases f : (gP1 T (a + 1)).1 = 0
      · rw [if_pos f, gSq_0 f, gSq_0 f, ← two_or f]
      · rw [if_neg f, gSq_1 f]
        have l := mn f
        by_cases et : T (gP1 T (a + 1)).2 = 105 ∨ T (gP1 T (a + 1)).2 = 103
        · rw [gEp_1 et, gS_1]
          exact ps_sn hT m m2 _ (by omega) (by omega)
        · rw [gEp_0 et, gS_0, gS_0]
          have e3 : gSq (gPsn T m2 (gP1 T (a + 1)).2) (gT T 103) = gSq (1, (gP1 T (a + 1)).2) (gT T 103) := by
            cases m2 with
            | zero => rfl
            | succ n =>
              have e4 : gPsn T (n + 1) (gP1 T (a + 1)).2 = (1, (gP1 T (a + 1)).2) := by
                show (if (gT T 105 _).1 = 0 then (1, (gT T 105 _).2) else _) = _
                rw [gT_0 (by omega), if_pos rfl]
              rw [e4]
          rw [e3, gT_f (by omega)]
    · rw [gPsn_0 q, gT_0 q, if_pos rfl]
theorem ps_e {T : Int → Int} {N a : Int} (hT : ∀ i, N < i → T i = 107) (hN : N ≤ 5000) (ha : 2 ≤ a) : gSq (gPsR T a) (gT T 103) = gSq (gPs T a) (gT T 103) := by
  have mn := MN_P1 (T := T) a
  unfold gPsR gPs
  rw [gP1R_e]
  by_cases f : (gP1 T a).1 = 0
  · rw [if_pos f, gSq_0 f, gSq_0 f, ← two_or f]
  · rw [if_neg f, gSq_1 f]
    have l := mn f
    by_cases et : T (gP1 T a).2 = 105 ∨ T (gP1 T a).2 = 103
    · rw [gEp_1 et, gS_1]
      exact ps_sn hT _ _ _ (by omega) (by omega)
    · rw [gEp_0 et, gS_0, gS_0]
      have e4 : gPsn T 4999 (gP1 T a).2 = (1, (gP1 T a).2) := by
        show (if (gT T 105 _).1 = 0 then (1, (gT T 105 _).2) else _) = _
        rw [gT_0 (by omega), if_pos rfl]
      rw [e4, gT_f (by omega)]
theorem gBt_l1 {T : Int → Int} {a : Int} (h : (gBt T a).1 ≠ 0) : a < (gBt T a).2 := by
  by_cases q : T a = 104
  · have e := gBt_c (T := T) (a := a) q rfl
    rw [e]
    show a < if T (a + 1) = 16 then a + 2 else a + 1
    split <;> omega
  · by_cases r : T a = 16
    · rw [gBt_a q r]; show a < a + 1; omega
    · rw [gBt_0 q r] at h; exact absurd rfl h
/-- LISTS: fuel -/
theorem gLn_f {T : Int → Int} {N : Int} (hT : ∀ i, N < i → T i = 107) : ∀ (m m2 : Nat) (a : Int), N - a < m → N - a < m2 → gLn T m a = gLn T m2 a
  | 0, 0, _, _, _ => rfl
  | 0, m2 + 1, a, h1, _ => by
    have e : T a = 107 := hT a (by omega)
    show (1, a) = if (gBt T a).1 = 0 then (1, (gBt T a).2) else _
    rw [gBt_0 (by omega) (by omega), if_pos rfl]
  | m + 1, 0, a, _, h2 => by
    have e : T a = 107 := hT a (by omega)
    show (if (gBt T a).1 = 0 then (1, (gBt T a).2) else _) = (1, a)
    rw [gBt_0 (by omega) (by omega), if_pos rfl]
  | m + 1, m2 + 1, a, h1, h2 => by
    show (if (gBt T a).1 = 0 then (1, (gBt T a).2) else if (gN T (gBt T a).2).1 = 0 then (0, (gN T (gBt T a).2).2) else gLn T m (gN T (gBt T a).2).2) = (if (gBt T a).1 = 0 then (1, (gBt T a).2) else if (gN T (gBt T a).2).1 = 0 then (0, (gN T (gBt T a).2).2) else gLn T m2 (gN T (gBt T a).2).2)
    by_cases q : (gBt T a).1 = 0
    · rw [if_pos q, if_pos q]
    · rw [if_neg q, if_neg q]
      by_cases r : (gN T (gBt T a).2).1 = 0
      · rw [if_pos r, if_pos r]
      · rw [if_neg r, if_neg r]
        have l1 : a < (gBt T a).2 := gBt_l1 q
        have l2 := MN_N _ r
        exact gLn_f hT m m2 _ (by omega) (by omega)
theorem gRn_f {T : Int → Int} {N : Int} (hT : ∀ i, N < i → T i = 107) : ∀ (m m2 : Nat) (a : Int), N - a < m → N - a < m2 → gRn T m a = gRn T m2 a
  | 0, 0, _, _, _ => rfl
  | 0, m2 + 1, a, h1, _ => by
    have e : T a = 107 := hT a (by omega)
    show (1, a) = if (gBt T a).1 = 0 then (1, (gBt T a).2) else _
    rw [gBt_0 (by omega) (by omega), if_pos rfl]
  | m + 1, 0, a, _, h2 => by
    have e : T a = 107 := hT a (by omega)
    show (if (gBt T a).1 = 0 then (1, (gBt T a).2) else _) = (1, a)
    rw [gBt_0 (by omega) (by omega), if_pos rfl]
  | m + 1, m2 + 1, a, h1, h2 => by
    show (if (gBt T a).1 = 0 then (1, (gBt T a).2) else if (gR T (gBt T a).2).1 = 0 then (0, (gR T (gBt T a).2).2) else gRn T m (gR T (gBt T a).2).2) = (if (gBt T a).1 = 0 then (1, (gBt T a).2) else if (gR T (gBt T a).2).1 = 0 then (0, (gR T (gBt T a).2).2) else gRn T m2 (gR T (gBt T a).2).2)
    by_cases q : (gBt T a).1 = 0
    · rw [if_pos q, if_pos q]
    · rw [if_neg q, if_neg q]
      by_cases r : (gR T (gBt T a).2).1 = 0
      · rw [if_pos r, if_pos r]
      · rw [if_neg r, if_neg r]
        have l1 : a < (gBt T a).2 := gBt_l1 q
        have l2 := MN_R _ r
        exact gRn_f hT m m2 _ (by omega) (by omega)
/-- what stands behind is or are -/
theorem gRe_e {T : Int → Int} {N a : Int} (hT : ∀ i, N < i → T i = 107) (hN : N ≤ 5000) (ha : 1 ≤ a) : gSq (gRe T a) (gT T 103) = (if T a = 0 ∧ T (a + 1) = 18 then gSq (if (gT T 7 (a + 2)).1 = 0 then (1, (gT T 7 (a + 2)).2) else gOr (gT T 20 (gT T 7 (a + 2)).2) (gN T)) (gT T 103)
  else if T a = 1 ∧ T (a + 1) = 27 then gSq (if (gT T 28 (a + 2)).1 = 0 then (1, (gT T 28 (a + 2)).2) else gSq (gSq (gT T 11 (gT T 28 (a + 2)).2) (gT T 22)) (gR T)) (gT T 103)
  else if art7 (T a) then gSq (gSq (gR T (a + 1)) (fun b => if pl7 (T b) then gPl T 0 b else (1, b))) (gT T 103)
  else if pl7 (T a) then gSq (gPl T 0 a) (gT T 103)
  else ckR T (gOr (gT T 6 a) (gT T 32)).1 (gOr (gT T 6 a) (gT T 32)).2) := by
  by_cases h10 : T a = 0 ∧ T (a + 1) = 18
  · rw [if_pos h10, gRe_10 h10]
    by_cases h7 : T (a + 2) = 7
    · rw [if_pos h7, gT_1 h7, if_neg one0]
      show gSq (if T (a + 3) = 20 then (1, a + 4) else gN T (a + 3)) (gT T 103) = gSq (gOr (gT T 20 (a + 2 + 1)) (gN T)) (gT T 103)
      rw [show a + 2 + 1 = a + 3 by omega]
      by_cases h20 : T (a + 3) = 20
      · rw [if_pos h20, gT_1 h20, o_1, show a + 3 + 1 = a + 4 by omega]
      · rw [if_neg h20, gT_0 h20, o_0]
    · rw [if_neg h7, gT_0 h7, if_pos rfl]
  · rw [if_neg h10]
    by_cases h11 : T a = 1 ∧ T (a + 1) = 27
    · rw [if_pos h11, gRe_11 h11]
      by_cases h28 : T (a + 2) = 28
      · rw [if_pos h28, gT_1 h28, if_neg one0]
        show gSq (gSq (gSq (gT T 11 (a + 3)) (gT T 22)) (gR T)) (gT T 103) = gSq (gSq (gSq (gT T 11 (a + 2 + 1)) (gT T 22)) (gR T)) (gT T 103)
        rw [show a + 2 + 1 = a + 3 by omega]
      · rw [if_neg h28, gT_0 h28, if_pos rfl]
    · rw [if_neg h11]
      by_cases h12 : art7 (T a)
      · rw [if_pos h12, gRe_12 h10 h11 h12, gSq_as, gSq_as]
        refine gSq_c (fun _ => ?_)
        show gSq (if T _ = 103 then (1, _) else gSq (gPc T _) (gN T)) (gT T 103) = gSq (if pl7 (T _) then gPl T 0 _ else (1, _)) (gT T 103)
        by_cases d : T (gR T (a + 1)).2 = 103
        · rw [if_pos d, if_neg (by unfold pl7; omega)]
        · rw [if_neg d]
          by_cases p : pl7 (T (gR T (a + 1)).2)
          · rw [if_pos p, gPl_0 p]
          · rw [if_neg p, gPc_0 (by unfold pl7 at p; omega), gS_0, gS_0, gT_f d]
      · rw [if_neg h12]
        unfold art7 at h12
        by_cases p : pl7 (T a)
        · rw [if_pos p, gRe_13 (by unfold pl7 at p; omega) (by unfold pl7 at p; omega) (by unfold pl7 at p; omega) (by unfold art7; omega), gPl_0 p]
        · rw [if_neg p]
          unfold pl7 at p
          by_cases h6 : T a = 6
          · rw [gRe_15 (Or.inl h6), gT_1 h6, o_1]
            show _ = gSq (gR T (a + 1)) (fun b => if (1 : Int) ≠ 0 then gT T 103 b else _)
            exact gSq_c (fun _ => (if_pos one0).symm)
          · by_cases h32 : T a = 32
            · rw [gRe_15 (Or.inr h32), gT_0 h6, o_0, gT_1 h32]
              show _ = gSq (gR T (a + 1)) (fun b => if (1 : Int) ≠ 0 then gT T 103 b else _)
              exact gSq_c (fun _ => (if_pos one0).symm)
            · rw [gT_0 h6, o_0, gT_0 h32]
              show _ = gSq (gR T a) (fun b => if (0 : Int) ≠ 0 then gT T 103 b else if (gT T 7 b).1 ≠ 0 then gSq (gN T (gT T 7 b).2) (gT T 103) else gSq (gRn T 5000 (gT T 7 b).2) (gT T 103))
              by_cases f : T a = 100
              · rw [gRe_f f, gSq_as]
                refine gSq_c (fun q => ?_)
                have l := MN_R (T := T) a q
                show gSq (if T (gR T a).2 = 7 then gN T ((gR T a).2 + 1) else if T (gR T a).2 = 16 ∨ T (gR T a).2 = 104 then gRn T 5200 (gR T a).2 else (1, (gR T a).2)) (gT T 103) = (if (0 : Int) ≠ 0 then gT T 103 (gR T a).2 else if (gT T 7 (gR T a).2).1 ≠ 0 then gSq (gN T (gT T 7 (gR T a).2).2) (gT T 103) else gSq (gRn T 5000 (gT T 7 (gR T a).2).2) (gT T 103))
                rw [n00]
                by_cases s : T (gR T a).2 = 7
                · rw [if_pos s, gT_1 s, if_pos one0]
                · rw [if_neg s, gT_0 s]
                  show gSq (if T (gR T a).2 = 16 ∨ T (gR T a).2 = 104 then gRn T 5200 (gR T a).2 else (1, (gR T a).2)) (gT T 103) = (if (0 : Int) ≠ 0 then gSq (gN T (gR T a).2) (gT T 103) else gSq (gRn T 5000 (gR T a).2) (gT T 103))
                  rw [n00]
                  by_cases g : T (gR T a).2 = 16 ∨ T (gR T a).2 = 104
                  · rw [if_pos g, gRn_f hT 5200 5000 _ (by omega) (by omega)]
                  · rw [if_neg g]
                    have e4 : gRn T 5000 (gR T a).2 = (1, (gR T a).2) := by
                      show (if (gBt T (gR T a).2).1 = 0 then (1, (gBt T (gR T a).2).2) else _) = _
                      rw [gBt_0 (by omega) (by omega), if_pos rfl]
                    rw [e4]
              · rw [gRe_13 f h6 h32 (by unfold art7; omega), gPc_0 (by omega), gS_0, gS_0, gR_0 f, gS_0]
theorem gN_l1 {T : Int → Int} {a : Int} (h : (gN T a).1 ≠ 0) : a < (gN T a).2 := by
  have e : gN T a = (1, (gN T a).2) := Prod.ext (by
    show (if T (bA T a) = 100 then (1 : Int) else 0) = 1
    by_cases q : T (bA T a) = 100
    · rw [if_pos q]
    · exact absurd (show (gN T a).1 = 0 from if_neg q) h) rfl
  exact gN_lt e
theorem gLn_l {T : Int → Int} : ∀ (m : Nat) (a : Int), (gLn T m a).1 ≠ 0 → a ≤ (gLn T m a).2
  | 0, a, _ => Int.le_refl a
  | m + 1, a, h => by
    have e : gLn T (m + 1) a = if (gBt T a).1 = 0 then (1, (gBt T a).2) else if (gN T (gBt T a).2).1 = 0 then (0, (gN T (gBt T a).2).2) else gLn T m (gN T (gBt T a).2).2 := rfl
    rw [e] at h ⊢
    by_cases q : (gBt T a).1 = 0
    · rw [if_pos q]
      show a ≤ (gBt T a).2
      by_cases c : T a = 104
      · rw [gBt_c c rfl] at q; exact absurd q one0
      · by_cases r : T a = 16
        · rw [gBt_a c r] at q; exact absurd q one0
        · rw [gBt_0 c r]; exact Int.le_refl a
    · rw [if_neg q] at h ⊢
      by_cases r : (gN T (gBt T a).2).1 = 0
      · rw [if_pos r] at h; exact absurd rfl h
      · rw [if_neg r] at h ⊢
        have l1 := gBt_l1 q
        have l2 := gN_l1 r
        have l3 := gLn_l m _ h
        omega
theorem gLs_e {T : Int → Int} {N : Int} (hT : ∀ i, N < i → T i = 107) (hN : N ≤ 5000) : gLs2 T 5200 0 = gLs T 0 := by
  unfold gLs2 gLs
  by_cases q : (gN T 0).1 = 0
  · rw [if_pos q, if_pos q]
  · rw [if_neg q, if_neg q]
    have l : (0 : Int) < (gN T 0).2 := gN_l1 q
    exact gLn_f hT _ _ _ (by omega) (by omega)
theorem MN_Ls {T : Int → Int} {a : Int} (h : (gLs T a).1 ≠ 0) : a < (gLs T a).2 := by
  unfold gLs at h ⊢
  by_cases q : (gN T a).1 = 0
  · rw [if_pos q] at h; exact absurd rfl h
  · rw [if_neg q] at h ⊢
    have l := gN_l1 q
    have l2 := gLn_l (T := T) 5000 (gN T a).2 h
    omega
theorem MN_Be {T : Int → Int} : MN (gBe T) := MN_or (f := gT T 4) (fun _ => le_T) MN_T
theorem ac_e {T : Int → Int} {a : Int} : gAcR T a = gAc T a := by
  unfold gAcR gAc
  refine gSq_c (fun _ => ?_)
  show (if art7 (T (gR T a).2) then gR T ((gR T a).2 + 1) else (1, (gR T a).2)) = (if (gA T (gR T a).2).1 = 0 then (1, (gA T (gR T a).2).2) else gR T (gA T (gR T a).2).2)
  by_cases h : art7 (T (gR T a).2)
  · rw [if_pos h, gA_1 h, if_neg one0]
  · rw [if_neg h, gA_0 h, if_pos rfl]
theorem MN_Ac {T : Int → Int} : MN (gAc T) := fun a => by
  rw [← ac_e]
  exact MN_sq (f := gR T) (g := fun b => if art7 (T b) then gR T (b + 1) else (1, b)) MN_R (fun b => by
    show (if art7 (T b) then gR T (b + 1) else (1, b)).1 ≠ 0 → b ≤ (if art7 (T b) then gR T (b + 1) else (1, b)).2
    split
    · exact MN_u MN_R b
    · intro _; exact Int.le_refl b) a
theorem gTs_l {T : Int → Int} : ∀ (m : Nat) (a : Int), (gTsn7 T m a).1 ≠ 0 → a ≤ (gTsn7 T m a).2
  | 0, a, _ => Int.le_refl a
  | m + 1, a, h => by
    by_cases q : T a = 16
    · rw [gTsn_1 q] at h ⊢
      by_cases r : (gTtR T 0 (a + 1)).1 = 0
      · rw [gSq_0 r] at h; exact absurd r h
      · have l1 := MN_sq (f := gTm T 0) (g := gEt T 0) MN_Tm (fun b => by
          unfold gEt; split
          · intro _; exact Int.le_refl b
          · intro q; exact absurd rfl q) (a + 1) r
        rw [gSq_1 r] at h ⊢
        have l2 := gTs_l m _ h
        have l3 : a + 1 ≤ (gTtR T 0 (a + 1)).2 := l1
        omega
    · rw [gTsn_0 q]; exact Int.le_refl a
theorem MN_We {T : Int → Int} : MN (gWe T) := fun b => by
  unfold gWe
  split
  · exact MN_u (f := gTsR T) (fun a q => by
      have h1 : (gTtR T 0 a).1 ≠ 0 := fun z => q (by unfold gTsR; rw [gSq_0 z]; exact z)
      have l1 := MN_sq (f := gTm T 0) (g := gEt T 0) MN_Tm (fun b => by
        unfold gEt; split
        · intro _; exact Int.le_refl b
        · intro q; exact absurd rfl q) a h1
      have e : gTsR T a = gTsn7 T 5200 (gTtR T 0 a).2 := gSq_1 h1
      rw [e] at q ⊢
      exact Int.le_trans l1 (gTs_l 5200 _ q)) b
  · intro _; exact Int.le_refl b
theorem ru_l {T : Int → Int} {x : Int × Int} (hx : x.1 ≠ 0 → 1 ≤ x.2) (h : (gSq (gSq x (gWe T)) (gT T 106)).1 ≠ 0) : 2 ≤ (gSq (gSq x (gWe T)) (gT T 106)).2 := by
  by_cases q : x.1 = 0
  · rw [gSq_0 q, gSq_0 q] at h; exact absurd q h
  · have l := hx q
    rw [gSq_1 q] at h ⊢
    by_cases r : (gWe T x.2).1 = 0
    · rw [gSq_0 r] at h; exact absurd r h
    · have l2 := MN_We _ r
      rw [gSq_1 r] at h ⊢
      by_cases t : T (gWe T x.2).2 = 106
      · rw [gT_1 t]; show 2 ≤ (gWe T x.2).2 + 1; omega
      · rw [gT_0 t] at h; exact absurd rfl h
theorem ru_e {T : Int → Int} {N : Int} {x : Int × Int} (hT : ∀ i, N < i → T i = 107) (hN : N ≤ 5000) (hx : x.1 ≠ 0 → 1 ≤ x.2) : gSq (gSq (gSq (gSq x (gWe T)) (gT T 106)) (gPsR T)) (gT T 103) = rul7 T x := by
  unfold rul7
  have e1 : gSq (gSq x (gWe T)) (gT T 106) = gSq (gSq x (fun b => if (gT T 37 b).1 = 0 then (1, (gT T 37 b).2) else gTs T (gT T 37 b).2)) (gT T 106) := by
    rw [gSq_as, gSq_as]
    refine gSq_c (fun q => ?_)
    have l := hx q
    show gSq (gWe T x.2) (gT T 106) = gSq (if (gT T 37 x.2).1 = 0 then (1, (gT T 37 x.2).2) else gTs T (gT T 37 x.2).2) (gT T 106)
    unfold gWe
    by_cases h : T x.2 = 37
    · rw [if_pos h, gT_1 h, if_neg one0]
      exact ts_e (Or.inr rfl) hT hN (by omega)
    · rw [if_neg h, gT_0 h, if_pos rfl]
  rw [e1]
  by_cases q : (gSq (gSq x (fun b => if (gT T 37 b).1 = 0 then (1, (gT T 37 b).2) else gTs T (gT T 37 b).2)) (gT T 106)).1 = 0
  · rw [gSq_0 q, gSq_0 q, gSq_0 q, gSq_0 q]
  · rw [gSq_1 q, gSq_1 q]
    refine ps_e hT hN ?_
    rw [← e1] at q ⊢
    exact ru_l hx q
theorem MN_A {T : Int → Int} : MN (gA T) := fun a => by
  unfold gA
  split
  · intro _; show a ≤ a + 1; omega
  · intro h; exact absurd rfl h
theorem o9_e {T : Int → Int} (b : bp7 T 0) : gO9 T = gSq (gSq (gN T (re7 T 1 + 1)) (gBe T)) (gWh T) := by
  unfold gO9
  rw [gR_1 (show T 1 = 100 from b.2.1) rfl, gS_1, gT_1 (show T (re7 T 1) = 7 from b.2.2), gS_1]
theorem cb_e {T : Int → Int} {N : Int} (hT : ∀ i, N < i → T i = 107) (hN : N ≤ 5000) : gSq (if bp7 T 0 then gO9 T else gSq (gSq (gLs2 T 5200 0) (gBe T)) (gRe T)) (gT T 103) = ckB T := by
  unfold ckB
  by_cases b : bp7 T 0
  · rw [if_pos b, if_pos b, o9_e b]
  · rw [if_neg b, if_neg b, gLs_e hT hN, gSq_as (x := gSq (gLs T 0) (gBe T))]
    refine gSq_c (fun q => gRe_e hT hN ?_)
    by_cases r : (gLs T 0).1 = 0
    · rw [gSq_0 r] at q; exact absurd r q
    · have l := MN_Ls r
      rw [gSq_1 r] at q ⊢
      have l2 := MN_Be _ q
      omega
theorem co_e {T : Int → Int} {N : Int} (hT : ∀ i, N < i → T i = 107) (hN : N ≤ 5000) (h7 : ¬ (T 0 = 2 ∧ T 1 = 25)) (h8 : ¬ (T 0 = 2 ∧ T 1 = 19)) : gSq (gCo T) (gT T 103) = ckO T := by
  unfold ckO gCo
  rw [if_neg h7, if_neg h8]
  by_cases h : kt7 T = 4 ∨ kt7 T = 5
  · rw [if_pos h, if_pos h]
    exact cb_e hT hN
  · rw [if_neg h, if_neg h]
    unfold gOo
    by_cases h12 : kt7 T = 12
    · rw [if_pos h12, if_pos h12]
    · rw [if_neg h12, if_neg h12]
      by_cases h13 : kt7 T = 13
      · rw [if_pos h13, if_pos h13]
      · rw [if_neg h13, if_neg h13]
        by_cases h21 : kt7 T = 21
        · rw [if_pos h21, if_pos h21]
        · rw [if_neg h21, if_neg h21]
theorem chk_e {T : Int → Int} {N : Int} (hT : ∀ i, N < i → T i = 107) (hN : N ≤ 5000) (h0 : T 0 ≠ 102) : gSq (gSe T) (gT T 103) = chk T := by
  unfold chk
  rw [if_neg h0]
  by_cases h1 : T 0 = 33
  · rw [if_pos h1, gSe_1 h1]; rfl
  · rw [if_neg h1]
    by_cases h2 : T 0 = 35
    · rw [if_pos h2, gSe_2 h2]
      show gSq (gSq (gSq (gSq (gSq (gSq (gSq (gT T 106 1) (gA T)) (gR T)) (gT T 4)) (gR T)) (gT T 36)) (gTsR T)) (gT T 103) = gSq (gSq (gSq (gSq (gSq (gSq (gSq (gT T 106 1) (gA T)) (gR T)) (gT T 4)) (gR T)) (gT T 36)) (gTs T)) (gT T 103)
      rw [gSq_as (f := gTsR T), gSq_as (f := gTs T)]
      refine gSq_c (fun q => ts_e (Or.inl rfl) hT hN ?_)
      exact MN_sq (MN_sq (MN_sq (MN_sq (MN_sq (MN_T (T := T) (k := 106)) MN_A) MN_R) MN_T) MN_R) (MN_T (T := T) (k := 36)) 1 q
    · rw [if_neg h2]
      by_cases h3 : T 0 = 38 ∨ T 0 = 40
      · rw [if_pos h3]
        have e : gSe T = gRuR T (if T 0 = 38 then 3 else 4) := by
          by_cases q : T 0 = 38
          · rw [if_pos q]; exact gSe_r (Or.inl ⟨q, rfl⟩)
          · rw [if_neg q]; exact gSe_r (Or.inr (Or.inl ⟨by omega, rfl⟩))
        have e2 : gRuR T (if T 0 = 38 then 3 else 4) = gSq (gSq (gSq (gAcR T 1) (gWe T)) (gT T 106)) (gPsR T) := by
          unfold gRuR
          by_cases q : T 0 = 38
          · rw [if_pos q, if_neg (by decide), if_neg (by decide)]
          · rw [if_neg q, if_neg (by decide), if_neg (by decide)]
        rw [e, e2, ac_e]
        exact ru_e hT hN (fun q => MN_Ac 1 q)
      · rw [if_neg h3]
        by_cases h5 : T 0 = 39
        · rw [if_pos h5, gSe_r (s := 5) (by omega)]
          have e2 : gRuR T 5 = gSq (gSq (gSq (gSq (gT T 7 1) (gAc T)) (gWe T)) (gT T 106)) (gPsR T) := by
            unfold gRuR
            rw [if_neg (by decide), if_pos rfl, show gAcR T = gAc T from funext fun _ => ac_e]
          rw [e2]
          exact ru_e hT hN (fun q => MN_sq MN_T MN_Ac 1 q)
        · rw [if_neg h5]
          by_cases h6 : T 0 = 41
          · rw [if_pos h6, gSe_r (s := 6) (by omega)]
            have e2 : gRuR T 6 = gSq (gSq (gSq (gT T 42 1) (gWe T)) (gT T 106)) (gPsR T) := by
              unfold gRuR
              rw [if_pos rfl]
            rw [e2]
            exact ru_e hT hN (fun q => MN_T 1 q)
          · rw [if_neg h6]
            by_cases h7 : T 0 = 2 ∧ T 1 = 25
            · rw [gSe_7 h7.1 h7.2]
              unfold ckO
              rw [if_pos h7]; rfl
            · by_cases h8 : T 0 = 2 ∧ T 1 = 19
              · rw [gSe_8 h8.1 h8.2]
                unfold ckO
                rw [if_neg h7, if_pos h8]; rfl
              · rw [gSe_c (by omega) h7 h8]
                exact co_e hT hN h7 h8
/-! NOTES of the reference: the least place counts, at one place the least rank -/
def NT3 (S : sS) : Int × Int × Int := (Xi S 904 106, Xi S 904 105, Xi S 904 104)
def rk7 (f : Int) : Int := if f = 9 then 0 else if f = 3 then 1 else if f = 4 then 2 else if f = 7 then 3 else 4
def ntF (x : Int × Int × Int) (f p : Int) : Int × Int × Int := if x.1 = 0 ∨ p < x.2.1 ∨ (p = x.2.1 ∧ rk7 f < x.2.2) then (f, p, rk7 f) else x
theorem nt_y {S U : sS} {f p : Int} (h1 : Xi U 904 106 = f) (h2 : Xi U 904 105 = p) (h3 : Xi U 904 104 = rk7 f) (c : Xi S 904 106 = 0 ∨ p < Xi S 904 105 ∨ (p = Xi S 904 105 ∧ rk7 f < Xi S 904 104)) : NT3 U = ntF (NT3 S) f p := by
  have e : ntF (NT3 S) f p = (f, p, rk7 f) := if_pos c
  rw [e]
  unfold NT3
  rw [h1, h2, h3]
theorem nt_n {S : sS} {f p : Int} (c : ¬ (Xi S 904 106 = 0 ∨ p < Xi S 904 105 ∨ (p = Xi S 904 105 ∧ rk7 f < Xi S 904 104))) : NT3 S = ntF (NT3 S) f p := (if_neg c).symm
theorem NT3_FR {l : List rec} {S T : sS} (h : FR l S T) (e : mD l [104, 105, 106] = true) : NT3 T = NT3 S := by
  unfold NT3
  rw [mD_x h e 104 (by decide), mD_x h e 105 (by decide), mD_x h e 106 (by decide)]
theorem rk_e {f : Int} : (f = 9 → rk7 f = 0) ∧ (f = 3 → rk7 f = 1) ∧ (f = 4 → rk7 f = 2) ∧ (f = 7 → rk7 f = 3) ∧ (f ≠ 9 → f ≠ 3 → f ≠ 4 → f ≠ 7 → rk7 f = 4) := by
  unfold rk7
  refine ⟨fun h => if_pos h, fun h => by rw [if_neg (by omega), if_pos h], fun h => by rw [if_neg (by omega), if_neg (by omega), if_pos h], fun h => by rw [if_neg (by omega), if_neg (by omega), if_neg (by omega), if_pos h], fun a b c d => by rw [if_neg a, if_neg b, if_neg c, if_neg d]⟩

/-! the class's words: what naming changes -/
def NMI (S S1 : sS) (i : Nat) (so wh a b c : Int) : Prop := (Xi S1 3 i = so ∧ Xi S1 4 i = wh ∧ Xj S1 2 (3 * i) = a ∧ Xj S1 2 (3 * i + 1) = b ∧ Xj S1 2 (3 * i + 2) = c) ∧ (∀ j : Nat, j ≠ i → Xi S1 3 j = Xi S 3 j ∧ Xi S1 4 j = Xi S 4 j ∧ ∀ t, t < 3 → Xj S1 2 (3 * j + t) = Xj S 2 (3 * j + t)) ∧ ((Xi S1 1 3 = Xi S 1 3 ∧ (i : Int) < Xi S 1 3 ∧ Xi S 3 i = so ∧ Xi S 4 i = wh) ∨ (Xi S1 1 3 = Xi S 1 3 + 1 ∧ (i : Int) = Xi S 1 3 ∧ ∀ j : Nat, (j : Int) < Xi S 1 3 → Xi S 3 j = so → Xi S 4 j ≠ wh))
/-- an entry of its own at the end -/
def AEN (S S1 : sS) (so wh a b c : Int) : Prop := (Xi S1 3 (Xi S 1 3).toNat = so ∧ Xi S1 4 (Xi S 1 3).toNat = wh ∧ Xj S1 2 (3 * (Xi S 1 3).toNat) = a ∧ Xj S1 2 (3 * (Xi S 1 3).toNat + 1) = b ∧ Xj S1 2 (3 * (Xi S 1 3).toNat + 2) = c) ∧ (∀ j : Nat, j ≠ (Xi S 1 3).toNat → Xi S1 3 j = Xi S 3 j ∧ Xi S1 4 j = Xi S 4 j ∧ ∀ t, t < 3 → Xj S1 2 (3 * j + t) = Xj S 2 (3 * j + t)) ∧ Xi S1 1 3 = Xi S 1 3 + 1
theorem aen_of {S U1 U2 U3 U4 U5 U6 : sS} {s w a b c : Int} (e1 : U1 = uJ S 2 (3 * Xi S 1 3).toNat (Int64.ofInt a)) (e2 : U2 = uJ U1 2 (3 * Xi S 1 3 + 1).toNat (Int64.ofInt b)) (e3 : U3 = uJ U2 2 (3 * Xi S 1 3 + 2).toNat (Int64.ofInt c)) (e4 : U4 = uI U3 3 (Xi S 1 3).toNat (Int32.ofInt s)) (e5 : U5 = uI U4 4 (Xi S 1 3).toNat (Int32.ofInt w)) (e6 : U6 = uI U5 1 3 (Int32.ofInt (Xi S 1 3 + 1))) (h0 : 0 ≤ Xi S 1 3) (h1 : Xi S 1 3 < 200) (ra : rgL a) (rb : rgL b) (rc : rgL c) (rs : rg s) (rw_ : rg w) : AEN S U6 s w a b c := by
  have xj : ∀ k, Xj U6 2 k = Xj U3 2 k := fun k => by rw [e6, Xj_I, e5, Xj_I, e4, Xj_I]
  have x3 : ∀ k, Xi U6 3 k = Xi U4 3 k := fun k => by rw [e6, Xi_ne (by omega), e5, Xi_ne (by omega)]
  have x4 : ∀ k, Xi U6 4 k = Xi U5 4 k := fun k => by rw [e6, Xi_ne (by omega)]
  have y3 : ∀ k, Xi U3 3 k = Xi S 3 k := fun k => by rw [e3, e2, e1]; rfl
  have y4 : ∀ k, Xi U4 4 k = Xi S 4 k := fun k => by rw [e4, Xi_ne (by omega), e3, e2, e1]; rfl
  refine ⟨⟨?_, ?_, ?_, ?_, ?_⟩, fun j hj => ⟨?_, ?_, fun t ht => ?_⟩, ?_⟩
  · rw [x3, e4]; exact Xi_same rs
  · rw [x4, e5]; exact Xi_same rw_
  · rw [xj, e3, Xj_ne (by omega), e2, Xj_ne (by omega), e1, show 3 * (Xi S 1 3).toNat = (3 * Xi S 1 3).toNat by omega]; exact Xj_same ra
  · rw [xj, e3, Xj_ne (by omega), e2, show 3 * (Xi S 1 3).toNat + 1 = (3 * Xi S 1 3 + 1).toNat by omega]; exact Xj_same rb
  · rw [xj, e3, show 3 * (Xi S 1 3).toNat + 2 = (3 * Xi S 1 3 + 2).toNat by omega]; exact Xj_same rc
  · rw [x3, e4, Xi_ne (by omega)]; exact y3 j
  · rw [x4, e5, Xi_ne (by omega)]; exact y4 j
  · rw [xj, e3, Xj_ne (by omega), e2, Xj_ne (by omega), e1, Xj_ne (by omega)]
  · rw [e6]; exact Xi_same (by unfold rg; omega)
def wRw (S : sS) (k : Nat) (f t : Int) (i : Int) : Int := if f + i < t then Xj S k (f + i).toNat else 0
/-- where runs begin and how long they are: no huge numbers -/
def RBD (S : sS) : Prop := ∀ r : Nat, (0 ≤ Xi S 950 r ∧ Xi S 950 r ≤ 100000) ∧ (0 ≤ Xi S 951 r ∧ Xi S 951 r ≤ 100000)
theorem RBD_FR {l : List rec} {S T : sS} (h : FR l S T) (e2 : kdis l [(950, 952)] = true) (hR : RBD S) : RBD T := by
  unfold RBD
  simp only [(h.smk e2).x 950 rfl, (h.smk e2).x 951 rfl]
  exact hR
/-- the reference's words: an entry at the end -/
def TLR (S S1 : sS) (so ix a b c n : Int) : Prop := (Xi S1 914 (Xi S 904 15).toNat = so ∧ Xi S1 915 (Xi S 904 15).toNat = ix ∧ Xi S1 912 (Xi S 904 15).toNat = n ∧ Xi S1 916 (Xi S 904 15).toNat = 0 ∧ Xj S1 913 (3 * (Xi S 904 15).toNat) = a ∧ Xj S1 913 (3 * (Xi S 904 15).toNat + 1) = b ∧ Xj S1 913 (3 * (Xi S 904 15).toNat + 2) = c) ∧ (∀ j : Nat, j ≠ (Xi S 904 15).toNat → Xi S1 914 j = Xi S 914 j ∧ Xi S1 915 j = Xi S 915 j ∧ Xi S1 912 j = Xi S 912 j ∧ Xi S1 916 j = Xi S 916 j ∧ ∀ t, t < 3 → Xj S1 913 (3 * j + t) = Xj S 913 (3 * j + t)) ∧ Xi S1 904 15 = Xi S 904 15 + 1
theorem tlr_of {S U1 U2 U3 U4 U5 U6 U7 U8 : sS} {s w a b c n : Int} (e1 : U1 = uI S 912 (Xi S 904 15).toNat (Int32.ofInt n)) (e2 : U2 = uJ U1 913 (3 * Xi S 904 15).toNat (Int64.ofInt a)) (e3 : U3 = uJ U2 913 (3 * Xi S 904 15 + 1).toNat (Int64.ofInt b)) (e4 : U4 = uJ U3 913 (3 * Xi S 904 15 + 2).toNat (Int64.ofInt c)) (e5 : U5 = uI U4 914 (Xi S 904 15).toNat (Int32.ofInt s)) (e6 : U6 = uI U5 915 (Xi S 904 15).toNat (Int32.ofInt w)) (e7 : U7 = uI U6 916 (Xi S 904 15).toNat (Int32.ofInt 0)) (e8 : U8 = uI U7 904 15 (Int32.ofInt (Xi S 904 15 + 1))) (h0 : 0 ≤ Xi S 904 15) (h1 : Xi S 904 15 < 300) (ra : rgL a) (rb : rgL b) (rc : rgL c) (rs : rg s) (rw_ : rg w) (rn : rg n) : TLR S U8 s w a b c n := by
  have xj : ∀ k, Xj U8 913 k = Xj U4 913 k := fun k => by rw [e8, Xj_I, e7, Xj_I, e6, Xj_I, e5, Xj_I]
  have x4 : ∀ k, Xi U8 914 k = Xi U5 914 k := fun k => by rw [e8, Xi_ne (by omega), e7, Xi_ne (by omega), e6, Xi_ne (by omega)]
  have x5 : ∀ k, Xi U8 915 k = Xi U6 915 k := fun k => by rw [e8, Xi_ne (by omega), e7, Xi_ne (by omega)]
  have x6 : ∀ k, Xi U8 916 k = Xi U7 916 k := fun k => by rw [e8, Xi_ne (by omega)]
  have x2 : ∀ k, Xi U8 912 k = Xi U1 912 k := fun k => by rw [e8, Xi_ne (by omega), e7, Xi_ne (by omega), e6, Xi_ne (by omega), e5, Xi_ne (by omega), e4, e3, e2]; rfl
  have y4 : ∀ k, Xi U4 914 k = Xi S 914 k := fun k => by rw [e4, e3, e2]; show Xi U1 914 k = _; rw [e1, Xi_ne (by omega)]
  have y5 : ∀ k, Xi U5 915 k = Xi S 915 k := fun k => by rw [e5, Xi_ne (by omega), e4, e3, e2]; show Xi U1 915 k = _; rw [e1, Xi_ne (by omega)]
  have y6 : ∀ k, Xi U6 916 k = Xi S 916 k := fun k => by rw [e6, Xi_ne (by omega), e5, Xi_ne (by omega), e4, e3, e2]; show Xi U1 916 k = _; rw [e1, Xi_ne (by omega)]
  refine ⟨⟨?_, ?_, ?_, ?_, ?_, ?_, ?_⟩, fun j hj => ⟨?_, ?_, ?_, ?_, fun t ht => ?_⟩, ?_⟩
  · rw [x4, e5]; exact Xi_same rs
  · rw [x5, e6]; exact Xi_same rw_
  · rw [x2, e1]; exact Xi_same rn
  · rw [x6, e7]; exact Xi_same (by unfold rg; omega)
  · rw [xj, e4, Xj_ne (by omega), e3, Xj_ne (by omega), e2, show 3 * (Xi S 904 15).toNat = (3 * Xi S 904 15).toNat by omega]; exact Xj_same ra
  · rw [xj, e4, Xj_ne (by omega), e3, show 3 * (Xi S 904 15).toNat + 1 = (3 * Xi S 904 15 + 1).toNat by omega]; exact Xj_same rb
  · rw [xj, e4, show 3 * (Xi S 904 15).toNat + 2 = (3 * Xi S 904 15 + 2).toNat by omega]; exact Xj_same rc
  · rw [x4, e5, Xi_ne (by omega)]; exact y4 j
  · rw [x5, e6, Xi_ne (by omega)]; exact y5 j
  · rw [x2, e1, Xi_ne (by omega)]
  · rw [x6, e7, Xi_ne (by omega)]; exact y6 j
  · rw [xj, e4, Xj_ne (by omega), e3, Xj_ne (by omega), e2, Xj_ne (by omega), e1, Xj_I]
  · rw [e8]; exact Xi_same (by unfold rg; omega)
/-- the class: where a fault is told -/
def pc7 (S : sS) (r : Int) : Int := if 0 ≤ r ∧ r < Xi S 876 7 then Xi S 878 r.toNat else Xi S 876 5
theorem NMI_pre {S P S1 : sS} {i : Nat} {so wh a b c : Int} (h : NMI P S1 i so wh a b c) (x3 : ∀ j, Xi P 3 j = Xi S 3 j) (x4 : ∀ j, Xi P 4 j = Xi S 4 j) (x2 : ∀ j, Xj P 2 j = Xj S 2 j) (x1 : Xi P 1 3 = Xi S 1 3) : NMI S S1 i so wh a b c := by
  unfold NMI at h ⊢
  simp only [x3, x4, x2, x1] at h
  exact h


