section
/-! WHAT IS READ, as functions of the bytes: letters, words, blanks, numbers, texts -/
def lt7 (b : Int) : Int := if 97 ≤ b ∧ b ≤ 122 then b - 96 else if 65 ≤ b ∧ b ≤ 90 then b - 64 else 0
theorem lt7_k : ∀ n : Fin 256, (if 0 < (n.val : Int) - 128 ∧ 1 ≤ iorF ((n.val : Int) - 128) 32 - 97 + 1 ∧ iorF ((n.val : Int) - 128) 32 - 97 + 1 ≤ 26 then iorF ((n.val : Int) - 128) 32 - 97 + 1 else 0) = lt7 ((n.val : Int) - 128) := by sorry
theorem lt7_y {b : Int} (h : -128 ≤ b ∧ b ≤ 127) (h0 : 0 < b) (h1 : 1 ≤ iorF b 32 - 97 + 1) (h2 : iorF b 32 - 97 + 1 ≤ 26) : iorF b 32 - 97 + 1 = lt7 b := by sorry
theorem lt7_n {b : Int} (h : -128 ≤ b ∧ b ≤ 127) (hn : 0 < b → 1 ≤ iorF b 32 - 97 + 1 → iorF b 32 - 97 + 1 ≤ 26 → False) : 0 = lt7 b := by sorry
theorem lt7_r (b : Int) : 0 ≤ lt7 b ∧ lt7 b ≤ 26 := by sorry
theorem lt7_l {c : Int} (h : ltr c = 1) : lt7 c = sml c - 96 ∧ 1 ≤ lt7 c := by sorry
theorem lt7_0 {c : Int} (h : ltr c = 0) : lt7 c = 0 := by sorry
/-- where the letters from p on end -/
def weF (B : Nat → Int) (e : Int) : Nat → Int → Int
  | 0, p => p
  | f + 1, p => if p < e ∧ lt7 (B p.toNat) ≠ 0 then weF B e f (p + 1) else p
def we7 (B : Nat → Int) (e p : Int) : Int := weF B e (e - p).toNat p
theorem we7_s {B : Nat → Int} {e p : Int} (h : p < e) (hl : lt7 (B p.toNat) ≠ 0) : we7 B e p = we7 B e (p + 1) := by sorry
theorem we7_e {B : Nat → Int} {e p : Int} (h : e ≤ p) : we7 B e p = p := by sorry
theorem we7_n {B : Nat → Int} {e p : Int} (h : lt7 (B p.toNat) = 0) : we7 B e p = p := by sorry
theorem weF_le {B : Nat → Int} {e : Int} : ∀ (f : Nat) (p : Int), p ≤ weF B e f p ∧ (p ≤ e → weF B e f p ≤ e) := by sorry
/-- a word's code: 27 for the class, 32 for the reference -/
def c27 (B : Nat → Int) (f : Nat) : Nat → Int
  | 0 => 0
  | n + 1 => c27 B f n * 27 + lt7 (B (f + n))
def c32 (B : Nat → Int) (f : Nat) : Nat → Int
  | 0 => 0
  | n + 1 => c32 B f n * 32 + lt7 (B (f + n))
theorem c27_s {B : Nat → Int} {f v : Int} (h0 : 0 ≤ f) (h : f ≤ v) : c27 B f.toNat (v + 1 - f).toNat = c27 B f.toNat (v - f).toNat * 27 + lt7 (B v.toNat) := by sorry
theorem c27_r {B : Nat → Int} {f : Nat} : ∀ n : Nat, 0 ≤ c27 B f n ∧ c27 B f n < 27 ^ n := by sorry
theorem c32_r {B : Nat → Int} {f : Nat} : ∀ n : Nat, 0 ≤ c32 B f n ∧ c32 B f n < 32 ^ n := by sorry
theorem pw27 {n : Nat} (h : n ≤ 13) : (27 : Int) ^ n ≤ 4052555153018976267 := by sorry
theorem pw32 {n : Nat} (h : n ≤ 12) : (32 : Int) ^ n ≤ 1152921504606846976 := by sorry
/-- at most twelve letters of it -/
def m12 (n : Int) : Nat := if n < 12 then n.toNat else 12
theorem c27_0 {B : Nat → Int} {f : Int} : 0 = c27 B f.toNat (m12 (f - f)) := by sorry
theorem c27_m {B : Nat → Int} {f v w z : Int} (hz : z = lt7 (B v.toNat)) (h0 : 0 ≤ f) (h : f ≤ v) (hv : v - f < 12) (e : w = c27 B f.toNat (m12 (v - f))) : w * 27 + z = c27 B f.toNat (m12 (v + 1 - f)) := by sorry
theorem c27_l {B : Nat → Int} {f v w : Int} (hv : ¬ v - f < 12) (e : w = c27 B f.toNat (m12 (v - f))) : w = c27 B f.toNat (m12 (v + 1 - f)) := by sorry
theorem c27_d {B : Nat → Int} {f v w : Int} (hv : v - f ≤ 12) (e : w = c27 B f.toNat (m12 (v - f))) : w = c27 B f.toNat (v - f).toNat := by sorry
theorem c27_g {B : Nat → Int} {f n : Nat} (h : n ≤ 12) : -9223372036854775808 ≤ c27 B f n ∧ c27 B f n < 9223372036854775808 := by sorry
theorem m12_le (n : Int) : m12 n ≤ 12 := by sorry
/-- key words: the number of the first that is that word -/
def kyF (K : Nat → Int) (c df : Int) : Nat → Int → Int
  | 0, _ => df
  | f + 1, i => if K i.toNat = c then i else kyF K c df f (i + 1)
def ky7 (K : Nat → Int) (c df : Int) : Int := kyF K c df 55 0
theorem kyF_h {K : Nat → Int} {c df v : Int} (hv : v < 55) (e : K v.toNat = c) : kyF K c df (55 - v).toNat v = v := by sorry
theorem kyF_s {K : Nat → Int} {c df v : Int} (hv : v < 55) (e : K v.toNat ≠ c) : kyF K c df (55 - v).toNat v = kyF K c df (55 - (v + 1)).toNat (v + 1) := by sorry
theorem kyF_e {K : Nat → Int} {c df v : Int} (hv : 55 ≤ v) : kyF K c df (55 - v).toNat v = df := by sorry
/-- closing, blanks and remarks -/
def clF (B : Nat → Int) (e : Int) : Nat → Int → Int
  | 0, _ => -1
  | f + 1, p => if B p.toNat = 93 then p else clF B e f (p + 1)
def cl7 (B : Nat → Int) (e p : Int) : Int := clF B e (e - p).toNat p
theorem cl7_s {B : Nat → Int} {e p : Int} (h : p < e) (hl : B p.toNat ≠ 93) : cl7 B e p = cl7 B e (p + 1) := by sorry
theorem cl7_h {B : Nat → Int} {e p : Int} (h : p < e) (hl : B p.toNat = 93) : cl7 B e p = p := by sorry
theorem cl7_e {B : Nat → Int} {e p : Int} (h : e ≤ p) : cl7 B e p = -1 := by sorry
theorem clF_r {B : Nat → Int} {e : Int} : ∀ (f : Nat) (p : Int), p + f ≤ e → 0 ≤ p → clF B e f p = -1 ∨ (p ≤ clF B e f p ∧ clF B e f p < e) := by sorry
theorem cl7_r {B : Nat → Int} {e p : Int} (h0 : 0 ≤ p) : cl7 B e p = -1 ∨ (p ≤ cl7 B e p ∧ cl7 B e p < e) := by sorry
abbrev bl7 (b : Int) : Prop := b = 9 ∨ b = 10 ∨ b = 13 ∨ b = 32
def skF (B : Nat → Int) (e : Int) : Nat → Int → Int
  | 0, p => p
  | f + 1, p => if e ≤ p then p else if B p.toNat = 91 then (if cl7 B e p = -1 then p else skF B e f (cl7 B e p + 1)) else if bl7 (B p.toNat) then skF B e f (p + 1) else p
theorem skF_st {B : Nat → Int} {e : Int} : ∀ (f g : Nat) (p : Int), 0 ≤ p → e - p < f → e - p < g → skF B e f p = skF B e g p := by sorry
/-- the byte behind blanks and remarks -/
def sk7 (B : Nat → Int) (e p : Int) : Int := skF B e (e + 1 - p).toNat p
theorem sk7_u {B : Nat → Int} {e p : Int} (h0 : 0 ≤ p) (h : p < e) : sk7 B e p = if B p.toNat = 91 then (if cl7 B e p = -1 then p else sk7 B e (cl7 B e p + 1)) else if bl7 (B p.toNat) then sk7 B e (p + 1) else p := by sorry
theorem sk7_e {B : Nat → Int} {e p : Int} (h : e ≤ p) : sk7 B e p = p := by sorry
theorem sk7_b {B : Nat → Int} {e p : Int} (h0 : 0 ≤ p) (h : p < e) (hb : bl7 (B p.toNat)) : sk7 B e p = sk7 B e (p + 1) := by sorry
theorem sk7_c {B : Nat → Int} {e p c : Int} (h0 : 0 ≤ p) (h : p < e) (hb : B p.toNat = 91) (hc : c = cl7 B e p) (hn : c ≠ -1) : sk7 B e p = sk7 B e (c + 1) := by sorry
theorem sk7_o {B : Nat → Int} {e p : Int} (h0 : 0 ≤ p) (h : p < e) (hb : B p.toNat = 91) (hc : -1 = cl7 B e p) : sk7 B e p = p := by sorry
theorem sk7_n {B : Nat → Int} {e p : Int} (h0 : 0 ≤ p) (h : p < e) (hb : B p.toNat ≠ 91) (hn : ¬ bl7 (B p.toNat)) : sk7 B e p = p := by sorry
/-- digits -/
def deF (B : Nat → Int) (e : Int) : Nat → Int → Int
  | 0, p => p
  | f + 1, p => if p < e ∧ 48 ≤ B p.toNat ∧ B p.toNat ≤ 57 then deF B e f (p + 1) else p
def de7 (B : Nat → Int) (e p : Int) : Int := deF B e (e - p).toNat p
theorem de7_s {B : Nat → Int} {e p : Int} (h : p < e) (h1 : 48 ≤ B p.toNat) (h2 : B p.toNat ≤ 57) : de7 B e p = de7 B e (p + 1) := by sorry
theorem de7_n {B : Nat → Int} {e p : Int} (h : p < e → 48 ≤ B p.toNat → B p.toNat ≤ 57 → False) : de7 B e p = p := by sorry
def dvF (B : Nat → Int) (f : Nat) : Nat → Int
  | 0 => 0
  | n + 1 => dvF B f n * 10 + (B (f + n) - 48)
def m6 (n : Int) : Nat := if n < 6 then n.toNat else 6
theorem dv_0 {B : Nat → Int} {f : Int} : 0 = dvF B f.toNat (m6 (f - f)) := by sorry
theorem dv_m {B : Nat → Int} {f v w x : Int} (h0 : 0 ≤ f) (h : f ≤ v) (hv : v - f < 6) (e : w = dvF B f.toNat (m6 (v - f))) (hx : x = w * 10 + B v.toNat - 48) : x = dvF B f.toNat (m6 (v + 1 - f)) := by sorry
theorem dv_l {B : Nat → Int} {f v w : Int} (hv : ¬ v - f < 6) (e : w = dvF B f.toNat (m6 (v - f))) : w = dvF B f.toNat (m6 (v + 1 - f)) := by sorry
theorem dv_d {B : Nat → Int} {f v w : Int} (hv : v - f ≤ 6) (e : w = dvF B f.toNat (m6 (v - f))) : w = dvF B f.toNat (v - f).toNat := by sorry
/-- texts: where the quote is, and whether all before it may stand there -/
def teF (B : Nat → Int) (e : Int) : Nat → Int → Int
  | 0, p => p
  | f + 1, p => if p < e ∧ B p.toNat ≠ 34 then teF B e f (p + 1) else p
def te7 (B : Nat → Int) (e p : Int) : Int := teF B e (e - p).toNat p
theorem te7_s {B : Nat → Int} {e p : Int} (h : p < e) (h1 : B p.toNat ≠ 34) : te7 B e p = te7 B e (p + 1) := by sorry
theorem te7_n {B : Nat → Int} {e p : Int} (h : p < e → B p.toNat = 34) : te7 B e p = p := by sorry
theorem teF_le {B : Nat → Int} {e : Int} : ∀ (f : Nat) (p : Int), p ≤ teF B e f p := by sorry
def gdF (B : Nat → Int) (f : Nat) : Nat → Int
  | 0 => 1
  | n + 1 => if gdF B f n = 1 ∧ 32 ≤ B (f + n) ∧ B (f + n) ≤ 126 then 1 else 0
theorem gd_y {B : Nat → Int} {f v : Int} (h0 : 0 ≤ f) (h : f ≤ v) (g : gdF B f.toNat (v - f).toNat = 1) (h1 : 32 ≤ B v.toNat) (h2 : B v.toNat ≤ 126) : gdF B f.toNat (v + 1 - f).toNat = 1 := by sorry
theorem gd_n {B : Nat → Int} {f v : Int} (h0 : 0 ≤ f) (h : f ≤ v) (g : gdF B f.toNat (v - f).toNat = 1 → 32 ≤ B v.toNat → B v.toNat ≤ 126 → False) : gdF B f.toNat (v + 1 - f).toNat = 0 := by sorry
theorem gd_u {B : Nat → Int} {f n : Nat} (g : gdF B f n = 0) : ∀ m : Nat, gdF B f (n + m) = 0 := by sorry
/-- is a text there, that begins behind p -/
abbrev tx7 (B : Nat → Int) (e p : Int) : Prop := te7 B e (p + 1) < e ∧ te7 B e (p + 1) - p - 1 ≤ 120 ∧ gdF B (p + 1).toNat (te7 B e (p + 1) - (p + 1)).toNat = 1
/-- the token at p: where it ends (-1: there is none), its value, what it is -/
def q7 (B : Nat → Int) (e p : Int) : Int := if lt7 (B p.toNat) ≠ 0 then (if we7 B e p - p ≤ 12 then we7 B e p else -1) else if 48 ≤ B p.toNat ∧ B p.toNat ≤ 57 then (if de7 B e p - p ≤ 6 then de7 B e p else -1) else if B p.toNat = 34 then (if tx7 B e p then te7 B e (p + 1) + 1 else -1) else if B p.toNat = 46 ∨ B p.toNat = 44 ∨ B p.toNat = 59 ∨ B p.toNat = 58 then p + 1 else -1
def v7 (B : Nat → Int) (e p : Int) : Int := if lt7 (B p.toNat) ≠ 0 then c27 B p.toNat (we7 B e p - p).toNat else if 48 ≤ B p.toNat ∧ B p.toNat ≤ 57 then dvF B p.toNat (de7 B e p - p).toNat else if B p.toNat = 34 then te7 B e (p + 1) - p - 1 else 0
def t7 (K B : Nat → Int) (e p : Int) : Int := if q7 B e p = -1 then 108 else if lt7 (B p.toNat) ≠ 0 then ky7 K (v7 B e p) 100 else if 48 ≤ B p.toNat ∧ B p.toNat ≤ 57 then 101 else if B p.toNat = 34 then 102 else if B p.toNat = 46 then 103 else if B p.toNat = 44 then 104 else if B p.toNat = 59 then 105 else 106
theorem we7_gt {B : Nat → Int} {e p : Int} (h : p < e) (hl : lt7 (B p.toNat) ≠ 0) : p < we7 B e p := by sorry
theorem q7_w {B : Nat → Int} {e p z : Int} (h : p < e) (hl : lt7 (B p.toNat) ≠ 0) (hz : z = (if we7 B e p = p ∨ 12 < we7 B e p - p then -1 else we7 B e p)) : z = q7 B e p := by sorry
theorem q7_d {B : Nat → Int} {e p z : Int} (hl : lt7 (B p.toNat) = 0) (h1 : 48 ≤ B p.toNat ∧ B p.toNat ≤ 57) (hz : z = (if de7 B e p - p ≤ 6 then de7 B e p else -1)) : z = q7 B e p := by sorry
theorem q7_t {B : Nat → Int} {e p z : Int} (h1 : B p.toNat = 34) (hz : z = (if tx7 B e p then te7 B e (p + 1) + 1 else -1)) : z = q7 B e p := by sorry
theorem q7_p {B : Nat → Int} {e p : Int} (hl : lt7 (B p.toNat) = 0) (h1 : B p.toNat = 46 ∨ B p.toNat = 44 ∨ B p.toNat = 59 ∨ B p.toNat = 58) : p + 1 = q7 B e p := by sorry
theorem q7_n {B : Nat → Int} {e p : Int} (hl : lt7 (B p.toNat) = 0) (h0 : ¬ (48 ≤ B p.toNat ∧ B p.toNat ≤ 57)) (h2 : B p.toNat ≠ 34) (h1 : ¬ (B p.toNat = 46 ∨ B p.toNat = 44 ∨ B p.toNat = 59 ∨ B p.toNat = 58)) : -1 = q7 B e p := by sorry
/-- the row that was noted; the rows before it -/
def NT (S S1 : sS) (ty pl v : Int) : Prop := Xi S1 877 (Xi S 876 7).toNat = ty ∧ Xi S1 878 (Xi S 876 7).toNat = pl ∧ Xj S1 879 (Xi S 876 7).toNat = v
def KR (S T : sS) (n : Int) : Prop := ∀ r : Nat, (r : Int) < n → Xi T 877 r = Xi S 877 r ∧ Xi T 878 r = Xi S 878 r ∧ Xj T 879 r = Xj S 879 r
theorem KR.rf {S : sS} {n : Int} : KR S S n := by sorry
theorem KR.tr {S T U : sS} {n m : Int} (h : KR S T n) (g : KR T U m) (e : n ≤ m) : KR S U n := by sorry
theorem KR.f {l : List rec} {S T U : sS} {n : Int} (h : KR S T n) (f : FR l T U) (e : kdis l [(877, 880)] = true) : KR S U n := by sorry
theorem nt_of {S U1 U2 U3 U4 : sS} {ty pl v : Int} (h0 : 0 ≤ Xi S 876 7) (h1 : Xi S 876 7 < 5130) (e1 : U1 = uI S 877 (Xi S 876 7).toNat (Int32.ofInt ty)) (e2 : U2 = uI U1 878 (Xi S 876 7).toNat (Int32.ofInt pl)) (e3 : U3 = uJ U2 879 (Xi S 876 7).toNat (Int64.ofInt v)) (e4 : U4 = uI U3 876 7 (Int32.ofInt (Xi S 876 7 + 1)))
    (hty : 0 ≤ ty ∧ ty ≤ 108) (hpl : 0 ≤ pl ∧ pl ≤ 5000) (hv : rgL v) : NT S U4 ty pl v ∧ KR S U4 (Xi S 876 7) := by sorry
/-- the byte behind: t7, v7 at a row's place -/
def RW7 (S : sS) (ts : Nat) (r : Nat) : Prop := 0 ≤ Xi S 878 r ∧ Xi S 878 r < Xi S 876 5 ∧ Xi S 877 r = t7 (Xj S 880) (Xi S ts) (Xi S 876 5) (Xi S 878 r) ∧ (q7 (Xi S ts) (Xi S 876 5) (Xi S 878 r) ≠ -1 → Xj S 879 r = v7 (Xi S ts) (Xi S 876 5) (Xi S 878 r))
theorem gd_0 {B : Nat → Int} {f : Int} : gdF B f.toNat (f - f).toNat = 1 := by sorry
theorem tx_b {B : Nat → Int} {e f v : Int} (hc : te7 B e (f + 1) = te7 B e v) (h0 : 0 ≤ f) (hv : f < v) (hve : v < e) (h34 : B v.toNat ≠ 34) (hb : 32 ≤ B v.toNat → B v.toNat ≤ 126 → False) : -1 = if tx7 B e f then te7 B e (f + 1) + 1 else -1 := by sorry
theorem tx_z {B : Nat → Int} {e f v : Int} (hc : te7 B e (f + 1) = v) (h : e ≤ v ∨ 120 < v - f - 1) : -1 = if tx7 B e f then te7 B e (f + 1) + 1 else -1 := by sorry
theorem tx_y {B : Nat → Int} {e f v : Int} (hc : te7 B e (f + 1) = v) (g : gdF B (f + 1).toNat (v - (f + 1)).toNat = 1) (h1 : v < e) (h2 : v - f - 1 ≤ 120) : v + 1 = if tx7 B e f then te7 B e (f + 1) + 1 else -1 := by sorry
theorem kyF_r {K : Nat → Int} {c df : Int} : ∀ (f : Nat) (i : Int), 0 ≤ i → kyF K c df f i = df ∨ (i ≤ kyF K c df f i ∧ kyF K c df f i < i + f) := by sorry
theorem nt_w {S S1 : sS} {K B : Nat → Int} {e p z : Int} (h : p < e) (hl : lt7 (B p.toNat) ≠ 0) (hz : z = (if we7 B e p = p ∨ 12 < we7 B e p - p then -1 else we7 B e p)) (hn : z ≠ -1 → NT S S1 (ky7 K (c27 B p.toNat (z - p).toNat) 100) p (c27 B p.toNat (z - p).toNat)) : z ≠ -1 → NT S S1 (t7 K B e p) p (v7 B e p) := by sorry
theorem nt_d {S S1 : sS} {K B : Nat → Int} {e p z : Int} (hl : lt7 (B p.toNat) = 0) (h1 : 48 ≤ B p.toNat ∧ B p.toNat ≤ 57) (hz : z = (if de7 B e p - p ≤ 6 then de7 B e p else -1)) (hn : z ≠ -1 → NT S S1 101 p (dvF B p.toNat (z - p).toNat)) : z ≠ -1 → NT S S1 (t7 K B e p) p (v7 B e p) := by sorry
theorem nt_t {S S1 : sS} {K B : Nat → Int} {e p z : Int} (h1 : B p.toNat = 34) (hz : z = (if tx7 B e p then te7 B e (p + 1) + 1 else -1)) (hn : z ≠ -1 → NT S S1 102 p (z - p - 2)) : z ≠ -1 → NT S S1 (t7 K B e p) p (v7 B e p) := by sorry
theorem nt_p {S S1 : sS} {K B : Nat → Int} {e p ty : Int} (hl : lt7 (B p.toNat) = 0) (hb : (B p.toNat = 46 ∧ ty = 103) ∨ (B p.toNat = 44 ∧ ty = 104) ∨ (B p.toNat = 59 ∧ ty = 105) ∨ (B p.toNat = 58 ∧ ty = 106)) (h0 : 0 ≤ p) (h : NT S S1 ty p 0) : NT S S1 (t7 K B e p) p (v7 B e p) := by sorry
theorem t7_b {K B : Nat → Int} {e p : Int} (h : q7 B e p = -1) : t7 K B e p = 108 := by sorry
theorem t7_ne {K B : Nat → Int} {e p : Int} (h : q7 B e p ≠ -1) : t7 K B e p ≠ 108 ∧ t7 K B e p ≠ 107 := by sorry
/-- does a dot stand behind -/
def DT7 (B : Nat → Int) (e f : Int) : Prop := sk7 B e f < e ∧ B (sk7 B e f).toNat = 46
theorem FRB {l : List rec} {S T : sS} {ts : Nat} (f : FR l S T) (e : kdis l [(902, 904)] = true) (ht : tp ts) : Xi T ts = Xi S ts := by sorry
theorem FRK {l : List rec} {S T : sS} (f : FR l S T) (e : kdis l [(880, 881)] = true) : Xj T 880 = Xj S 880 := by sorry
/-- rows of a sentence from f on, the first n -/
def SC (S : sS) (ts : Nat) (f n : Int) : Prop := (0 < n → Xi S 878 0 = f) ∧ (∀ r : Nat, (r : Int) < n → RW7 S ts r) ∧ ∀ r : Nat, (r : Int) + 1 < n → Xi S 878 (r + 1) = sk7 (Xi S ts) (Xi S 876 5) (q7 (Xi S ts) (Xi S 876 5) (Xi S 878 r)) ∧ Xi S 877 r ≠ 103 ∧ Xi S 877 r ≠ 108 ∧ (r = 0 → Xi S 877 r ≠ 102)
theorem SC.z {S : sS} {ts : Nat} {f n : Int} (h : n ≤ 0) : SC S ts f n := by sorry
/-- the sentence may go on at p behind its first n rows -/
def OP7 (S : sS) (ts : Nat) (n p : Int) : Prop := p = sk7 (Xi S ts) (Xi S 876 5) (q7 (Xi S ts) (Xi S 876 5) (Xi S 878 (n - 1).toNat)) ∧ Xi S 877 (n - 1).toNat ≠ 103 ∧ Xi S 877 (n - 1).toNat ≠ 108 ∧ (n = 1 → Xi S 877 (n - 1).toNat ≠ 102)
theorem OP7.k {T U : sS} {ts : Nat} {n m p : Int} (h : OP7 T ts n p) (hk : KR T U m) (hn : n ≤ m) (h0 : 0 < n) (hB : Xi U ts = Xi T ts) (he : Xi U 876 5 = Xi T 876 5) : OP7 U ts n p := by sorry
theorem rw7_k {T U : sS} {ts r : Nat} {n : Int} (hk : KR T U n) (hB : Xi U ts = Xi T ts) (he : Xi U 876 5 = Xi T 876 5) (hK : Xj U 880 = Xj T 880) (hr : (r : Int) < n) (h : RW7 T ts r) : RW7 U ts r := by sorry
theorem SC.k {T U : sS} {ts : Nat} {f n m : Int} (h : SC T ts f n) (hk : KR T U m) (hm : n ≤ m) (hB : Xi U ts = Xi T ts) (he : Xi U 876 5 = Xi T 876 5) (hK : Xj U 880 = Xj T 880) : SC U ts f n := by sorry
theorem SC.add {T U : sS} {ts : Nat} {f n p v : Int} (h : SC T ts f n) (hk : KR T U n) (hB : Xi U ts = Xi T ts) (he : Xi U 876 5 = Xi T 876 5) (hK : Xj U 880 = Xj T 880) (hn : n = Xi T 876 7) (h0 : 0 ≤ n) (hp : 0 ≤ p) (hpe : p < Xi T 876 5) (hN : NT T U (t7 (Xj T 880) (Xi T ts) (Xi T 876 5) p) p v) (hv : q7 (Xi T ts) (Xi T 876 5) p ≠ -1 → v = v7 (Xi T ts) (Xi T 876 5) p) (hf : n = 0 → p = f) (hc : 0 < n → OP7 T ts n p) : SC U ts f (n + 1) := by sorry
/-- the sentence is closed by its last row; z is behind it -/
def CL7 (S : sS) (ts : Nat) (z : Int) : Prop := 1 ≤ Xi S 876 7 ∧ ((Xi S 877 (Xi S 876 7 - 1).toNat = 108 ∧ z = Xi S 876 5) ∨ ((Xi S 877 (Xi S 876 7 - 1).toNat = 103 ∨ (Xi S 876 7 = 1 ∧ Xi S 877 (Xi S 876 7 - 1).toNat = 102)) ∧ z = q7 (Xi S ts) (Xi S 876 5) (Xi S 878 (Xi S 876 7 - 1).toNat) ∧ z ≠ -1))
/-- the rows of a sentence from f on; z is behind it -/
def SEN (S : sS) (ts : Nat) (f z : Int) : Prop := (SC S ts f (Xi S 876 7) ∧ CL7 S ts z ∧ (Xi S 876 7 = 1 → Xi S 877 0 = 102 → ¬ DT7 (Xi S ts) (Xi S 876 5) z)) ∨
  (SC S ts f (Xi S 876 7 - 1) ∧ 2 ≤ Xi S 876 7 ∧ Xi S 877 (Xi S 876 7 - 1).toNat = 107 ∧ Xi S 878 (Xi S 876 7 - 1).toNat = Xi S 876 5 ∧ z = Xi S 876 5 ∧ OP7 S ts (Xi S 876 7 - 1) z) ∨
  (Xi S 876 7 = 2 ∧ SC S ts f 1 ∧ Xi S 877 0 = 102 ∧ Xi S 877 1 = 103 ∧ DT7 (Xi S ts) (Xi S 876 5) (q7 (Xi S ts) (Xi S 876 5) (Xi S 878 0)) ∧ Xi S 878 1 = sk7 (Xi S ts) (Xi S 876 5) (q7 (Xi S ts) (Xi S 876 5) (Xi S 878 0)) ∧ z = Xi S 878 1 + 1)
theorem SEN_w {S U : sS} {ts : Nat} {f z : Int} {v : Int32} (ht : tp ts) (e : U = uI S 876 6 v) (h : SEN S ts f z) : SEN U ts f z := by sorry
def CQ7 (S : sS) (ts : Nat) (p z : Int) : Prop := (Xi S 877 (Xi S 876 7 - 1).toNat = 108 ∧ z = Xi S 876 5) ∨ (Xi S 877 (Xi S 876 7 - 1).toNat ≠ 108 ∧ z = q7 (Xi S ts) (Xi S 876 5) p ∧ z ≠ -1)
theorem CL7_of {S : sS} {ts : Nat} {p z : Int} (h1 : 1 ≤ Xi S 876 7) (hl : Xi S 878 (Xi S 876 7 - 1).toNat = p) (hq : CQ7 S ts p z) (ht : Xi S 877 (Xi S 876 7 - 1).toNat = 103 ∨ Xi S 877 (Xi S 876 7 - 1).toNat = 108 ∨ (Xi S 876 7 = 1 ∧ Xi S 877 (Xi S 876 7 - 1).toNat = 102)) : CL7 S ts z := by sorry
theorem OP7_of {S : sS} {ts : Nat} {p z w : Int} (hl : Xi S 878 (Xi S 876 7 - 1).toNat = p) (hq : CQ7 S ts p z) (hs : w = sk7 (Xi S ts) (Xi S 876 5) z) (h3 : Xi S 877 (Xi S 876 7 - 1).toNat ≠ 103) (h8 : Xi S 877 (Xi S 876 7 - 1).toNat ≠ 108) (h2 : Xi S 876 7 = 1 → Xi S 877 (Xi S 876 7 - 1).toNat ≠ 102) : OP7 S ts (Xi S 876 7) w := by sorry
theorem SEN_end {T U : sS} {ts : Nat} {f v : Int} (h : SC T ts f (Xi T 876 7)) (ho : OP7 T ts (Xi T 876 7) v) (hk : KR T U (Xi T 876 7)) (hB : Xi U ts = Xi T ts) (he : Xi U 876 5 = Xi T 876 5) (hK : Xj U 880 = Xj T 880) (hN : NT T U 107 (Xi T 876 5) 0) (hr : Xi U 876 7 = Xi T 876 7 + 1) (h1 : 1 ≤ Xi T 876 7) (hv : v = Xi T 876 5) : SEN U ts f v := by sorry
theorem SEN_dot {T U : sS} {ts : Nat} {f v z : Int} (h : SC T ts f (Xi T 876 7)) (hc : CL7 T ts v) (h1 : Xi T 876 7 = 1) (h2 : Xi T 877 0 = 102) (hk : KR T U (Xi T 876 7)) (hB : Xi U ts = Xi T ts) (he : Xi U 876 5 = Xi T 876 5) (hK : Xj U 880 = Xj T 880)
    (hd : (z = v ∧ Xi U 876 7 = Xi T 876 7 ∧ ¬ DT7 (Xi T ts) (Xi T 876 5) v) ∨ (z = sk7 (Xi T ts) (Xi T 876 5) v + 1 ∧ Xi U 876 7 = Xi T 876 7 + 1 ∧ DT7 (Xi T ts) (Xi T 876 5) v ∧ NT T U 103 (sk7 (Xi T ts) (Xi T 876 5) v) 0)) : SEN U ts f z := by sorry
/-! WHAT THE REFERENCE READS, by the same functions -/
theorem kr_h {K : Nat → Int} {w v : Int} (k2 : ky7 K w (-1) = kyF K w (-1) (55 - v).toNat v) (h0 : 0 ≤ v) (hv : v < 55) (e : K v.toNat = w) : 100 + v = (if ky7 K w (-1) = -1 then 3 else 100 + ky7 K w (-1)) := by sorry
theorem kr_e {K : Nat → Int} {w v : Int} (k2 : ky7 K w (-1) = kyF K w (-1) (55 - v).toNat v) (hv : 55 ≤ v) : 3 = (if ky7 K w (-1) = -1 then 3 else 100 + ky7 K w (-1)) := by sorry
theorem lw5 {w x : Int} (h0 : 0 ≤ w) (h1 : w < 36028797018963968) (hx : 0 ≤ x) (hx2 : x < 32) : lorF (lshlF w 5) x = w * 32 + x := by sorry
theorem c32_g {B : Nat → Int} {f n : Nat} (h : n ≤ 12) : rgL (c32 B f n) := by sorry
theorem w32_s {B : Nat → Int} {f v w z : Int} (hw : w = c32 B f.toNat v.toNat) (hz : z = sml (B (f + v).toNat)) (hl : ltr (B (f + v).toNat) = 1) (h0 : 0 ≤ f) (hv : 0 ≤ v) (h12 : v < 12) : lorF (lshlF w 5) (z - 96) = c32 B f.toNat (v + 1).toNat := by sorry
theorem FR6 {l : List rec} {S T : sS} (f : FR l S T) (e : kdis l [(906, 907)] = true) : Xi T 906 = Xi S 906 := by sorry
theorem FR1 {l : List rec} {S T : sS} (f : FR l S T) (e : kdis l [(911, 912)] = true) : Xj T 911 = Xj S 911 := by sorry
def m7 (K B : Nat → Int) (e p : Int) : Int := if q7 B e p = -1 then 2 else if lt7 (B p.toNat) ≠ 0 then (if ky7 K (c32 B p.toNat (we7 B e p - p).toNat) (-1) = -1 then 3 else 100 + ky7 K (c32 B p.toNat (we7 B e p - p).toNat) (-1)) else if 48 ≤ B p.toNat ∧ B p.toNat ≤ 57 then 4 else if B p.toNat = 34 then 5 else B p.toNat
/-- what a token of the reference is, by its place -/
def RM7 (B K : Nat → Int) (e : Int) (S : sS) (i : Nat) : Prop := 0 ≤ Xi S 908 i ∧ Xi S 908 i < e ∧ Xi S 907 i = m7 K B e (Xi S 908 i) ∧ (q7 B e (Xi S 908 i) ≠ -1 → (lt7 (B (Xi S 908 i).toNat) ≠ 0 → Xj S 910 i = c32 B (Xi S 908 i).toNat (we7 B e (Xi S 908 i) - Xi S 908 i).toNat) ∧ (lt7 (B (Xi S 908 i).toNat) = 0 → 48 ≤ B (Xi S 908 i).toNat → B (Xi S 908 i).toNat ≤ 57 → Xj S 910 i = dvF B (Xi S 908 i).toNat (de7 B e (Xi S 908 i) - Xi S 908 i).toNat) ∧ (B (Xi S 908 i).toNat = 34 → Xi S 909 i = te7 B e (Xi S 908 i + 1) - Xi S 908 i - 1))
theorem rm_k {B K : Nat → Int} {e : Int} {S U : sS} {i : Nat} (h7 : Xi U 907 i = Xi S 907 i) (h8 : Xi U 908 i = Xi S 908 i) (h9 : Xi U 909 i = Xi S 909 i) (h0 : Xj U 910 i = Xj S 910 i) (h : RM7 B K e S i) : RM7 B K e U i := by sorry
/-- the first n tokens -/
def CU (B K : Nat → Int) (e : Int) (S : sS) (n : Int) : Prop := (0 < n → Xi S 908 0 = sk7 B e 0) ∧ (∀ i : Nat, (i : Int) < n → RM7 B K e S i) ∧ ∀ i : Nat, (i : Int) + 1 < n → Xi S 908 (i + 1) = sk7 B e (q7 B e (Xi S 908 i)) ∧ Xi S 907 i ≠ 2
theorem CU.z {B K : Nat → Int} {e : Int} {S : sS} : CU B K e S 0 := by sorry
theorem CU.k {B K : Nat → Int} {e n : Int} {S U : sS} (h : CU B K e S n) (h7 : ∀ i : Nat, (i : Int) < n → Xi U 907 i = Xi S 907 i) (h8 : ∀ i : Nat, (i : Int) < n → Xi U 908 i = Xi S 908 i) (h9 : ∀ i : Nat, (i : Int) < n → Xi U 909 i = Xi S 909 i) (h0 : ∀ i : Nat, (i : Int) < n → Xj U 910 i = Xj S 910 i) : CU B K e U n := by sorry
/-- and the place of the next is set -/
def CV (B K : Nat → Int) (e : Int) (S : sS) (n : Int) : Prop := CU B K e S n ∧ (n = 0 → Xi S 908 0 = sk7 B e 0) ∧ (0 < n → Xi S 908 n.toNat = sk7 B e (q7 B e (Xi S 908 (n - 1).toNat)) ∧ Xi S 907 (n - 1).toNat ≠ 2)
theorem CV_pl {B K : Nat → Int} {e v1 v2 : Int} {S U : sS} (h : CU B K e S v1) (h1 : v1 = 0 → v2 = sk7 B e 0) (h2 : 0 < v1 → Xi S 907 (v1 - 1).toNat ≠ 2 → v2 = sk7 B e (q7 B e (Xi S 908 (v1 - 1).toNat))) (hg : 0 < v1 → Xi S 907 (v1 - 1).toNat ≠ 2) (E : U = uI S 908 v1.toNat (Int32.ofInt v2)) (h0 : 0 ≤ v1) (hr : 0 ≤ v2 ∧ v2 ≤ 5001) : CV B K e U v1 := by sorry
theorem CV.j {B K : Nat → Int} {e n : Int} {S U : sS} {j : Nat} {v : Int64} (h : CV B K e S n) (E : U = uJ S 910 j v) (hj : n ≤ j) : CV B K e U n := by sorry
theorem CV.w {B K : Nat → Int} {e n : Int} {S U : sS} {k j : Nat} {v : Int32} (h : CV B K e S n) (E : U = uI S k j v) (hk : k = 907 ∨ k = 909) (hj : n ≤ j) : CV B K e U n := by sorry
theorem CV.add {B K : Nat → Int} {e n : Int} {S : sS} (h : CV B K e S n) (h0 : 0 ≤ n) (hr : RM7 B K e S n.toNat) : CU B K e S (n + 1) := by sorry
theorem rm_w {B K : Nat → Int} {e p q : Int} {S : sS} {i : Nat} (hW : we7 B e p = q) (hp : Xi S 908 i = p) (h0 : 0 ≤ p) (he : p < e) (hl : lt7 (B p.toNat) ≠ 0) (h12 : q - p ≤ 12) (hw : Xj S 910 i = c32 B p.toNat (q - p).toNat) (ht : Xi S 907 i = if ky7 K (c32 B p.toNat (q - p).toNat) (-1) = -1 then 3 else 100 + ky7 K (c32 B p.toNat (q - p).toNat) (-1)) : RM7 B K e S i := by sorry
theorem rm_x {B K : Nat → Int} {e p q : Int} {S : sS} {i : Nat} (hW : we7 B e p = q) (hp : Xi S 908 i = p) (h0 : 0 ≤ p) (he : p < e) (hl : lt7 (B p.toNat) ≠ 0) (h12 : 12 < q - p) (ht : Xi S 907 i = 2) : RM7 B K e S i := by sorry
theorem rm_d {B K : Nat → Int} {e p q : Int} {S : sS} {i : Nat} (hD : de7 B e p = q) (hp : Xi S 908 i = p) (h0 : 0 ≤ p) (he : p < e) (hl : lt7 (B p.toNat) = 0) (h1 : 48 ≤ B p.toNat ∧ B p.toNat ≤ 57) (h6 : q - p ≤ 6) (hw : Xj S 910 i = dvF B p.toNat (m6 (q - p))) (ht : Xi S 907 i = 4) (hq : p < q) : RM7 B K e S i := by sorry
theorem rm_dx {B K : Nat → Int} {e p q : Int} {S : sS} {i : Nat} (hD : de7 B e p = q) (hp : Xi S 908 i = p) (h0 : 0 ≤ p) (he : p < e) (hl : lt7 (B p.toNat) = 0) (h1 : 48 ≤ B p.toNat ∧ B p.toNat ≤ 57) (h6 : 6 < q - p) (ht : Xi S 907 i = 2) : RM7 B K e S i := by sorry
theorem q34 {B : Nat → Int} {e p : Int} (h : B p.toNat = 34) : q7 B e p = if tx7 B e p then te7 B e (p + 1) + 1 else -1 := by sorry
theorem rm_t {B K : Nat → Int} {e p q g : Int} {S : sS} {i : Nat} (hT : te7 B e (p + 1) = q) (hG : g = gdF B (p + 1).toNat (q - (p + 1)).toNat) (hp : Xi S 908 i = p) (h0 : 0 ≤ p) (he : p < e) (h34 : B p.toNat = 34) (h1 : g = 1) (h2 : q < e) (h3 : q - p - 1 ≤ 120) (hl : Xi S 909 i = q - p - 1) (ht : Xi S 907 i = 5) (hq : p < q) : RM7 B K e S i := by sorry
theorem rm_tx {B K : Nat → Int} {e p q g : Int} {S : sS} {i : Nat} (hT : te7 B e (p + 1) = q) (hG : g = gdF B (p + 1).toNat (q - (p + 1)).toNat) (hp : Xi S 908 i = p) (h0 : 0 ≤ p) (he : p < e) (h34 : B p.toNat = 34) (hb : g ≠ 1 ∨ e ≤ q ∨ 120 < q - p - 1) (ht : Xi S 907 i = 2) : RM7 B K e S i := by sorry
theorem rm_p {B K : Nat → Int} {e p : Int} {S : sS} {i : Nat} (hp : Xi S 908 i = p) (h0 : 0 ≤ p) (he : p < e) (hl : lt7 (B p.toNat) = 0) (hb : B p.toNat = 46 ∨ B p.toNat = 44 ∨ B p.toNat = 59 ∨ B p.toNat = 58) (ht : Xi S 907 i = B p.toNat) : RM7 B K e S i := by sorry
theorem rm_o {B K : Nat → Int} {e p : Int} {S : sS} {i : Nat} (hp : Xi S 908 i = p) (h0 : 0 ≤ p) (he : p < e) (hl : lt7 (B p.toNat) = 0) (h1 : ¬ (48 ≤ B p.toNat ∧ B p.toNat ≤ 57)) (h2 : B p.toNat ≠ 34) (hb : ¬ (B p.toNat = 46 ∨ B p.toNat = 44 ∨ B p.toNat = 59 ∨ B p.toNat = 58)) (ht : Xi S 907 i = 2) : RM7 B K e S i := by sorry
theorem rm_q {B K : Nat → Int} {e : Int} {S : sS} {i : Nat} (h : RM7 B K e S i) (q : Xi S 907 i ≠ 2) : q7 B e (Xi S 908 i) ≠ -1 := by sorry
theorem rm_qw {B K : Nat → Int} {e p v : Int} {S : sS} {i : Nat} (h : RM7 B K e S i) (q : Xi S 907 i ≠ 2) (hl : lt7 (B p.toNat) ≠ 0) (hp : Xi S 908 i = p) (hW : we7 B e p = v) : v = q7 B e (Xi S 908 i) := by sorry
theorem rm_qd {B K : Nat → Int} {e p v : Int} {S : sS} {i : Nat} (h : RM7 B K e S i) (q : Xi S 907 i ≠ 2) (hl : lt7 (B p.toNat) = 0) (h1 : 48 ≤ B p.toNat ∧ B p.toNat ≤ 57) (hp : Xi S 908 i = p) (hD : de7 B e p = v) : v = q7 B e (Xi S 908 i) := by sorry
theorem rm_qt {B K : Nat → Int} {e p v : Int} {S : sS} {i : Nat} (h : RM7 B K e S i) (q : Xi S 907 i ≠ 2) (h34 : B p.toNat = 34) (hp : Xi S 908 i = p) (hT : te7 B e (p + 1) = v) : v + 1 = q7 B e (Xi S 908 i) := by sorry
theorem rm_qp {B K : Nat → Int} {e p : Int} {S : sS} {i : Nat} (h : RM7 B K e S i) (q : Xi S 907 i ≠ 2) (hp : Xi S 908 i = p) (hl : lt7 (B p.toNat) = 0) (h1 : ¬ (48 ≤ B p.toNat ∧ B p.toNat ≤ 57)) (h2 : B p.toNat ≠ 34) : p + 1 = q7 B e (Xi S 908 i) := by sorry
/-- all tokens of the story -/
def CUT (B K : Nat → Int) (e : Int) (S : sS) (n : Nat) : Prop := CU B K e S n ∧ Xi S 907 n = 1 ∧ Xi S 908 n = e ∧ (n = 0 → e ≤ sk7 B e 0) ∧ (0 < n → Xi S 907 (n - 1) = 2 ∨ e ≤ sk7 B e (q7 B e (Xi S 908 (n - 1))))
theorem cut_of {B K : Nat → Int} {e v a b : Int} {S U1 U2 : sS} {j : Nat} (h : CU B K e S v) (hx : 0 < v → Xi S 907 (v - 1).toNat = 2 ∨ e ≤ sk7 B e (q7 B e (Xi S 908 (v - 1).toNat))) (hy : v = 0 → e ≤ sk7 B e 0) (e1 : U1 = uI S 907 j (Int32.ofInt a)) (e2 : U2 = uI U1 908 j (Int32.ofInt b)) (hj : j = v.toNat) (ha : a = 1) (hb : b = e) (h0 : 0 ≤ v) (he : 0 ≤ e ∧ e ≤ 5000) : CUT B K e U2 v.toNat := by sorry
/-! WHAT BOTH READ: codes of words, bytes that agree, tokens that agree -/
def cvN : Nat → Int → Int
  | 0, _ => 0
  | n + 1, w => cvN n (w / 27) * 32 + w % 27
def icN : Nat → Int → Int
  | 0, _ => 0
  | n + 1, x => icN n (x / 32) * 27 + x % 32
/-- a word's code of the class as one of the reference -/
def cv (w : Int) : Int := cvN 13 w
theorem cv_c {B : Nat → Int} {f : Nat} : ∀ (m n : Nat), m ≤ n → cvN n (c27 B f m) = c32 B f m := by sorry
theorem cvN_r : ∀ (n : Nat) (w : Int), 0 ≤ w → w < 27 ^ n → 0 ≤ cvN n w ∧ cvN n w < 32 ^ n := by sorry
theorem ic_cv : ∀ (n : Nat) (w : Int), 0 ≤ w → w < 27 ^ n → icN n (cvN n w) = w := by sorry
/-- a code of at most thirteen letters -/
def cd7 (w : Int) : Prop := 0 ≤ w ∧ w < 27 ^ 13
theorem cv_inj {a b : Int} (ha : cd7 a) (hb : cd7 b) (e : cv a = cv b) : a = b := by sorry
theorem cd_c {B : Nat → Int} {f n : Nat} (h : n ≤ 13) : cd7 (c27 B f n) := by sorry
/-- the key words of both -/
def KEYR (K M : Nat → Int) : Prop := ∀ i : Nat, i < 55 → M i = cv (K i) ∧ cd7 (K i)
theorem ky_r {K M : Nat → Int} (h : KEYR K M) {c : Int} (hc : cd7 c) : ∀ (f : Nat) (i : Int), 0 ≤ i → i + f ≤ 55 → kyF M (cv c) (-1) f i = if kyF K c 100 f i = 100 then -1 else kyF K c 100 f i := by sorry
/-- a token's kind of the class as one of the reference -/
def tr7 (t : Int) : Int := if t < 100 then 100 + t else if t = 100 then 3 else if t = 101 then 4 else if t = 102 then 5 else if t = 103 then 46 else if t = 104 then 44 else if t = 105 then 59 else if t = 106 then 58 else if t = 107 then 1 else 2
theorem m7_t {K M B : Nat → Int} {e p : Int} (h : KEYR K M) : m7 M B e p = tr7 (t7 K B e p) := by sorry
/-- bytes that agree before e -/
def BE (B C : Nat → Int) (e : Int) : Prop := ∀ j : Nat, (j : Int) < e → B j = C j
theorem weF_c {B C : Nat → Int} {e : Int} (h : BE B C e) : ∀ (f : Nat) (p : Int), 0 ≤ p → weF B e f p = weF C e f p := by sorry
theorem deF_c {B C : Nat → Int} {e : Int} (h : BE B C e) : ∀ (f : Nat) (p : Int), 0 ≤ p → deF B e f p = deF C e f p := by sorry
theorem teF_c {B C : Nat → Int} {e : Int} (h : BE B C e) : ∀ (f : Nat) (p : Int), 0 ≤ p → teF B e f p = teF C e f p := by sorry
theorem clF_c {B C : Nat → Int} {e : Int} (h : BE B C e) : ∀ (f : Nat) (p : Int), 0 ≤ p → p + f ≤ e → clF B e f p = clF C e f p := by sorry
theorem cl7_c {B C : Nat → Int} {e p : Int} (h : BE B C e) (h0 : 0 ≤ p) : cl7 B e p = cl7 C e p := by sorry
theorem skF_c {B C : Nat → Int} {e : Int} (h : BE B C e) : ∀ (f : Nat) (p : Int), 0 ≤ p → skF B e f p = skF C e f p := by sorry
theorem gdF_c {B C : Nat → Int} {e : Int} {f : Nat} (h : BE B C e) : ∀ n : Nat, ((f + n : Nat) : Int) ≤ e → gdF B f n = gdF C f n := by sorry
theorem c27_c {B C : Nat → Int} {e : Int} {f : Nat} (h : BE B C e) : ∀ n : Nat, ((f + n : Nat) : Int) ≤ e → c27 B f n = c27 C f n := by sorry
theorem dvF_c {B C : Nat → Int} {e : Int} {f : Nat} (h : BE B C e) : ∀ n : Nat, ((f + n : Nat) : Int) ≤ e → dvF B f n = dvF C f n := by sorry
theorem sk7_c2 {B C : Nat → Int} {e p : Int} (h : BE B C e) (h0 : 0 ≤ p) : sk7 B e p = sk7 C e p := by sorry
theorem we7_c {B C : Nat → Int} {e p : Int} (h : BE B C e) (h0 : 0 ≤ p) : we7 B e p = we7 C e p := by sorry
theorem de7_c {B C : Nat → Int} {e p : Int} (h : BE B C e) (h0 : 0 ≤ p) : de7 B e p = de7 C e p := by sorry
theorem te7_c {B C : Nat → Int} {e p : Int} (h : BE B C e) (h0 : 0 ≤ p) : te7 B e p = te7 C e p := by sorry
theorem tx7_c {B C : Nat → Int} {e p : Int} (h : BE B C e) (h0 : 0 ≤ p) : tx7 B e p ↔ tx7 C e p := by sorry
theorem q7_c {B C : Nat → Int} {e p : Int} (h : BE B C e) (h0 : 0 ≤ p) (hp : p < e) : q7 B e p = q7 C e p := by sorry
theorem weF_in {B : Nat → Int} {e p : Int} (hp : p ≤ e) : we7 B e p ≤ e := by sorry
theorem deF_in {B : Nat → Int} {e : Int} : ∀ (f : Nat) (p : Int), p ≤ e → p ≤ deF B e f p ∧ deF B e f p ≤ e := by sorry
theorem v7_c {B C : Nat → Int} {e p : Int} (h : BE B C e) (h0 : 0 ≤ p) (hp : p < e) : v7 B e p = v7 C e p := by sorry
theorem t7_c {K B C : Nat → Int} {e p : Int} (h : BE B C e) (h0 : 0 ≤ p) (hp : p < e) : t7 K B e p = t7 K C e p := by sorry
/-! GRAMMAR, as functions of the kinds of tokens: (1, a): good, up to a; (0, a): a spoils it -/
def ty7 (S : sS) (i : Int) : Int := if 0 ≤ i ∧ i < Xi S 876 7 then Xi S 877 i.toNat else 107
theorem FRT {l : List rec} {S T : sS} (f : FR l S T) (e1 : kdis l [(877, 878)] = true) (e2 : mdf l 876 7 = false) : ty7 T = ty7 S := by sorry
theorem ty7_i {S : sS} {i : Int} (h0 : 0 ≤ i) (h1 : i < Xi S 876 7) : ty7 S i = Xi S 877 i.toNat := by sorry
theorem ty7_o {S : sS} {i : Int} (h : i < 0 ∨ Xi S 876 7 ≤ i) : ty7 S i = 107 := by sorry
/-- FREE words stand ahead of row 5000 -/
def NFR (S : sS) : Prop := ∀ r : Nat, (r : Int) < Xi S 876 7 → Xi S 877 r = 100 → r < 5000
theorem NFR_FR {l : List rec} {S T : sS} (f : FR l S T) (e1 : kdis l [(877, 878)] = true) (e2 : mdf l 876 7 = false) (h : NFR S) : NFR T := by sorry
def reF (T : Int → Int) : Nat → Int → Int
  | 0, a => a
  | n + 1, a => if T a = 100 then reF T n (a + 1) else a
/-- the row behind the FREE words -/
def re7 (T : Int → Int) (a : Int) : Int := reF T 5131 a
theorem ren_re {S : sS} {lim : Int} (h : ∀ r : Nat, (r : Int) < Xi S 876 7 → Xi S 877 r = 100 → (r : Int) < lim) : ∀ (n : Nat) (r : Int), ren S lim n r = reF (ty7 S) n r := by sorry
theorem ru_re {S : sS} {a lim : Int} (h : ∀ r : Nat, (r : Int) < Xi S 876 7 → Xi S 877 r = 100 → (r : Int) < lim) : ruF S a lim = re7 (ty7 S) a := by sorry
abbrev art7 (t : Int) : Prop := 0 ≤ t ∧ t ≤ 3
def gT (T : Int → Int) (k a : Int) : Int × Int := if T a = k then (1, a + 1) else (0, a)
def gA (T : Int → Int) (a : Int) : Int × Int := if art7 (T a) then (1, a + 1) else (0, a)
def gR (T : Int → Int) (a : Int) : Int × Int := (if T a = 100 then 1 else 0, re7 T a)
def bA (T : Int → Int) (a : Int) : Int := if art7 (T a) then a + 1 else a
def gN (T : Int → Int) (a : Int) : Int × Int := gR T (bA T a)
def gSq (x : Int × Int) (f : Int → Int × Int) : Int × Int := if x.1 = 0 then x else f x.2
def gOr (x : Int × Int) (f : Int → Int × Int) : Int × Int := if x.1 = 0 then f x.2 else x
def gBe (T : Int → Int) (a : Int) : Int × Int := gOr (gT T 4 a) (gT T 5)
def gHow (T : Int → Int) (a : Int) : Int × Int := gOr (gT T 22 a) (gT T 23)
def gBt (T : Int → Int) (a : Int) : Int × Int := if (gT T 104 a).1 = 0 then gT T 16 (gT T 104 a).2 else (1, (gT T 16 (gT T 104 a).2).2)
def gLn (T : Int → Int) : Nat → Int → Int × Int
  | 0, a => (1, a)
  | n + 1, a => if (gBt T a).1 = 0 then (1, (gBt T a).2) else if (gN T (gBt T a).2).1 = 0 then (0, (gN T (gBt T a).2).2) else gLn T n (gN T (gBt T a).2).2
def gLs (T : Int → Int) (a : Int) : Int × Int := if (gN T a).1 = 0 then (0, (gN T a).2) else gLn T 5000 (gN T a).2
abbrev pl7 (t : Int) : Prop := t = 8 ∨ t = 9 ∨ t = 29 ∨ t = 30 ∨ t = 31
def gTh (T : Int → Int) (a : Int) : Int × Int := gOr (gOr (gT T 54 a) (gT T 53)) (fun b => if T b = 2 then gOr (gT T 53 (bA T b)) (gR T) else gN T b)
def gPl (T : Int → Int) (any a : Int) : Int × Int := gSq (if T a = 29 then gT T 7 (a + 1) else if T a = 30 ∨ T a = 31 then gT T 10 (a + 1) else (1, a + 1)) (fun b => if any = 0 then gN T b else gTh T b)
def gWh (T : Int → Int) (a : Int) : Int × Int := gOr (gOr (gT T 101 a) (gT T 102)) (gR T)
def gLoF (T : Int → Int) (x y : Int) : Nat → Int → Int
  | 0, a => a
  | n + 1, a => if T a = 100 ∨ art7 (T a) ∨ T a = x ∨ T a = y then gLoF T x y n (a + 1) else a
def gLo (T : Int → Int) (x y a : Int) : Int × Int := (if gLoF T x y 5000 a = a then 0 else 1, gLoF T x y 5000 a)
/-- where a TEST ends -/
abbrev et7 (now t : Int) : Prop := t = 103 ∨ t = 105 ∨ t = 107 ∨ (now = 0 ∧ (t = 16 ∨ t = 106))
def te8F (T : Int → Int) (now : Int) : Nat → Int → Int
  | 0, a => a
  | n + 1, a => if et7 now (T a) then a else te8F T now n (a + 1)
def te8 (T : Int → Int) (now a : Int) : Int := te8F T now 5141 a
def fo7F (T : Int → Int) (k b : Int) : Nat → Int → Int
  | 0, _ => -1
  | n + 1, a => if T a = k then a else fo7F T k b n (a + 1)
def fo7 (T : Int → Int) (k a b : Int) : Int := fo7F T k b (b - a).toNat a
abbrev bp7 (T : Int → Int) (a : Int) : Prop := T a = 2 ∧ T (a + 1) = 100 ∧ T (re7 T (a + 1)) = 7
def gPt (T : Int → Int) (now a : Int) : Int × Int := gSq (gSq (gTh T (re7 T (a + 1) + 1)) (gT T 4)) (fun b => if now ≠ 0 then gWh T b else if (gOr (gT T 51 b) (gT T 52)).1 = 0 then gWh T (gT T 6 (gOr (gT T 51 b) (gT T 52)).2).2 else gSq (gT T 50 (gOr (gT T 51 b) (gT T 52)).2) (gT T 101))
def gTt (T : Int → Int) (now a : Int) : Int × Int := if fo7 T 4 a (te8 T now a) = -1 then gLo T 54 53 a else if bp7 T a then gPt T now a else gSq (gSq (gTh T a) (gT T 4)) (fun b => if now = 0 ∧ pl7 (T (gT T 6 b).2) then gPl T 1 (gT T 6 b).2 else gR T (gT T 6 b).2)
def gTsn (T : Int → Int) : Nat → Int → Int × Int
  | 0, a => (1, a)
  | n + 1, a => if (gT T 16 a).1 = 0 then (1, (gT T 16 a).2) else if (gTt T 0 (gT T 16 a).2).1 = 0 then (0, (gTt T 0 (gT T 16 a).2).2) else gTsn T n (gTt T 0 (gT T 16 a).2).2
def gTs (T : Int → Int) (a : Int) : Int × Int := if (gTt T 0 a).1 = 0 then (0, (gTt T 0 a).2) else gTsn T 5000 (gTt T 0 a).2
def gAc (T : Int → Int) (a : Int) : Int × Int := gSq (gR T a) (fun b => if (gA T b).1 = 0 then (1, (gA T b).2) else gR T (gA T b).2)
abbrev th7 (t : Int) : Prop := art7 t ∨ t = 54 ∨ t = 53
def gPh (T : Int → Int) (a : Int) : Int × Int := if (gT T 43 a).1 ≠ 0 then gT T 102 (gT T 43 a).2 else if (gT T 45 (gT T 43 a).2).1 ≠ 0 then gSq (gSq (gTh T (gT T 45 (gT T 43 a).2).2) (gT T 11)) (gTh T) else
  if (gOr (gT T 46 (gT T 45 (gT T 43 a).2).2) (gT T 47)).1 ≠ 0 then gSq (gSq (gSq (gSq (gSq (gT T 2 (gOr (gT T 46 (gT T 45 (gT T 43 a).2).2) (gT T 47)).2) (gR T)) (gT T 7)) (gTh T)) (gT T 10)) (gT T 101) else
  if (gT T 49 (gOr (gT T 46 (gT T 45 (gT T 43 a).2).2) (gT T 47)).2).1 ≠ 0 then gSq (gR T (gT T 49 (gOr (gT T 46 (gT T 45 (gT T 43 a).2).2) (gT T 47)).2).2) (fun b => if th7 (T b) then gTh T b else (1, b)) else gT T 48 (gT T 49 (gOr (gT T 46 (gT T 45 (gT T 43 a).2).2) (gT T 47)).2).2
def gP1 (T : Int → Int) (a : Int) : Int × Int := if (gT T 44 a).1 = 0 then gPh T (gT T 44 a).2 else gTt T 1 (gT T 44 a).2
def gPsn (T : Int → Int) : Nat → Int → Int × Int
  | 0, a => (1, a)
  | n + 1, a => if (gT T 105 a).1 = 0 then (1, (gT T 105 a).2) else if (gP1 T (gT T 105 a).2).1 = 0 then (0, (gP1 T (gT T 105 a).2).2) else gPsn T n (gP1 T (gT T 105 a).2).2
def gPs (T : Int → Int) (a : Int) : Int × Int := if (gP1 T a).1 = 0 then (0, (gP1 T a).2) else gPsn T 4999 (gP1 T a).2
theorem pe {a b c d : Int} (h : a = c) (k : b = d) : (a, b) = (c, d) := by sorry
/-- loops: what is left to take -/
theorem lp_0 {T : Int → Int} {f : Int → Int × Int} {l : Nat → Int → Int × Int} {X : Int × Int} {N : Nat} {a z b : Int} (hX : X = if (f a).1 = 0 then (0, (f a).2) else l N (f a).2) (h : f a = (z, b)) : (z = 1 → X = l N b) ∧ (z = 0 → X = (0, b)) := by sorry
theorem lp_s {g f : Int → Int × Int} {l : Nat → Int → Int × Int} (hl : ∀ n a, l (n + 1) a = if (g a).1 = 0 then (1, (g a).2) else if (f (g a).2).1 = 0 then (0, (f (g a).2).2) else l n (f (g a).2).2) {X : Int × Int} {N : Int} {n a y b z c : Int} (h : X = l (N - n).toNat a) (hn : n < N) (hg : g a = (y, b)) (hy : y ≠ 0) (hf : f b = (z, c)) : (z = 1 → X = l (N - (n + 1)).toNat c) ∧ (z = 0 → X = (0, c)) := by sorry
theorem lp_n {g f : Int → Int × Int} {l : Nat → Int → Int × Int} (hl : ∀ n a, l (n + 1) a = if (g a).1 = 0 then (1, (g a).2) else if (f (g a).2).1 = 0 then (0, (f (g a).2).2) else l n (f (g a).2).2) {X : Int × Int} {N : Int} {n a y b : Int} (h : X = l (N - n).toNat a) (hn : n < N) (hg : g a = (y, b)) (hy : y = 0) : X = (1, b) := by sorry
theorem lp_e {l : Nat → Int → Int × Int} (hl : ∀ a, l 0 a = (1, a)) {X : Int × Int} {N : Int} {n a : Int} (h : X = l (N - n).toNat a) (hn : N ≤ n) : X = (1, a) := by sorry
theorem reF_le {T : Int → Int} : ∀ (n : Nat) (a : Int), a ≤ reF T n a := by sorry
theorem re7_c {T : Int → Int} {a : Int} : (T a = 100 → a < re7 T a) ∧ (T a ≠ 100 → re7 T a = a) := by sorry
theorem gR_of {T : Int → Int} {a b : Int} (h : b = re7 T a) : gR T a = (if a < b then 1 else 0, b) := by sorry
theorem lo_u {T : Int → Int} {x y : Int} : ∀ (n : Nat) (a : Int), a ≤ gLoF T x y n a := by sorry
theorem lo_s {T : Int → Int} {x y b v : Int} (h : v < b + 5000) (h0 : b ≤ v) (hc : T v = 100 ∨ art7 (T v) ∨ T v = x ∨ T v = y) : gLoF T x y (5000 - (v - b)).toNat v = gLoF T x y (5000 - (v + 1 - b)).toNat (v + 1) := by sorry
theorem lo_n {T : Int → Int} {x y b v : Int} (hc : b + 5000 ≤ v ∨ ¬ (T v = 100 ∨ art7 (T v) ∨ T v = x ∨ T v = y)) : gLoF T x y (5000 - (v - b)).toNat v = v := by sorry
theorem lo_0 {T : Int → Int} {x y b : Int} : gLoF T x y 5000 b = gLoF T x y (5000 - (b - b)).toNat b := by sorry
theorem gLo_of {T : Int → Int} {x y a v : Int} (h : gLoF T x y 5000 a = v) : gLo T x y a = (if a < v then 1 else 0, v) := by sorry
theorem i10 {α : Type} {a b : α} : (if (1 : Int) = 0 then a else b) = b := by sorry
theorem i00 {α : Type} {a b : α} : (if (0 : Int) = 0 then a else b) = a := by sorry
theorem n10 {α : Type} {a b : α} : (if (1 : Int) ≠ 0 then a else b) = a := by sorry
theorem n00 {α : Type} {a b : α} : (if (0 : Int) ≠ 0 then a else b) = b := by sorry
theorem fo_s {T : Int → Int} {k b v : Int} (h : v < b) (hc : T v ≠ k) : fo7F T k b (b - v).toNat v = fo7F T k b (b - (v + 1)).toNat (v + 1) := by sorry
theorem fo_h {T : Int → Int} {k b v : Int} (h : v < b) (hc : T v = k) : fo7F T k b (b - v).toNat v = v := by sorry
theorem fo_e {T : Int → Int} {k b v : Int} (h : b ≤ v) : fo7F T k b (b - v).toNat v = -1 := by sorry
theorem te8_s {T : Int → Int} {now a v : Int} (h0 : a ≤ v) (h : v - a < 5141) (hc : ¬ et7 now (T v)) : te8F T now (5141 - (v - a)).toNat v = te8F T now (5141 - (v + 1 - a)).toNat (v + 1) := by sorry
theorem te8_h {T : Int → Int} {now a v : Int} (h : v - a < 5141) (hc : et7 now (T v)) : te8F T now (5141 - (v - a)).toNat v = v := by sorry
theorem te8_0 {T : Int → Int} {now a : Int} : te8 T now a = te8F T now (5141 - (a - a)).toNat a := by sorry
/-- no dot and no end but the last row -/
def LST (S : sS) : Prop := ∀ r : Nat, (r : Int) + 1 < Xi S 876 7 → Xi S 877 r ≠ 103 ∧ Xi S 877 r ≠ 107
theorem LST_FR {l : List rec} {S T : sS} (f : FR l S T) (e1 : kdis l [(877, 878)] = true) (e2 : mdf l 876 7 = false) (h : LST S) : LST T := by sorry
abbrev tl7 (t : Int) : Prop := t = 4 ∨ t = 5 ∨ t = 12 ∨ t = 13 ∨ t = 21
def tkF (T : Int → Int) : Nat → Int → Int
  | 0, _ => -1
  | n + 1, a => if T a = 103 ∨ T a = 107 then -1 else if tl7 (T a) then a else tkF T n (a + 1)
/-- the first is, are, has, can or relates -/
def tk7 (T : Int → Int) : Int := tkF T 5131 0
theorem tk_s {T : Int → Int} {v : Int} (h0 : 0 ≤ v) (h : v < 5131) (h1 : ¬ (T v = 103 ∨ T v = 107)) (h2 : ¬ tl7 (T v)) : tkF T (5131 - v).toNat v = tkF T (5131 - (v + 1)).toNat (v + 1) := by sorry
theorem tk_h {T : Int → Int} {v : Int} (h : v < 5131) (h2 : tl7 (T v)) : tkF T (5131 - v).toNat v = v := by sorry
theorem tk_e {T : Int → Int} {v : Int} (h : v < 5131) (h2 : T v = 103 ∨ T v = 107) : tkF T (5131 - v).toNat v = -1 := by sorry
/-- whole sentences -/
def gRn (T : Int → Int) : Nat → Int → Int × Int
  | 0, a => (1, a)
  | n + 1, a => if (gBt T a).1 = 0 then (1, (gBt T a).2) else if (gR T (gBt T a).2).1 = 0 then (0, (gR T (gBt T a).2).2) else gRn T n (gR T (gBt T a).2).2
def ckR (T : Int → Int) (alone a : Int) : Int × Int := gSq (gR T a) (fun b => if alone ≠ 0 then gT T 103 b else if (gT T 7 b).1 ≠ 0 then gSq (gN T (gT T 7 b).2) (gT T 103) else gSq (gRn T 5000 (gT T 7 b).2) (gT T 103))
def ckB (T : Int → Int) : Int × Int := if bp7 T 0 then gSq (gSq (gSq (gN T (re7 T 1 + 1)) (gBe T)) (gWh T)) (gT T 103) else gSq (gSq (gLs T 0) (gBe T)) (fun a =>
  if T a = 0 ∧ T (a + 1) = 18 then gSq (if (gT T 7 (a + 2)).1 = 0 then (1, (gT T 7 (a + 2)).2) else gOr (gT T 20 (gT T 7 (a + 2)).2) (gN T)) (gT T 103)
  else if T a = 1 ∧ T (a + 1) = 27 then gSq (if (gT T 28 (a + 2)).1 = 0 then (1, (gT T 28 (a + 2)).2) else gSq (gSq (gT T 11 (gT T 28 (a + 2)).2) (gT T 22)) (gR T)) (gT T 103)
  else if art7 (T a) then gSq (gSq (gR T (a + 1)) (fun b => if pl7 (T b) then gPl T 0 b else (1, b))) (gT T 103)
  else if pl7 (T a) then gSq (gPl T 0 a) (gT T 103)
  else ckR T (gOr (gT T 6 a) (gT T 32)).1 (gOr (gT T 6 a) (gT T 32)).2)
def kt7 (T : Int → Int) : Int := if tk7 T = -1 then 107 else T (tk7 T)
def ckO (T : Int → Int) : Int × Int := if T 0 = 2 ∧ T 1 = 25 then gSq (gSq (gSq (gSq (gSq (gSq (gT T 11 2) (gR T)) (gT T 24)) (gT T 2)) (gR T)) (gT T 26)) (gT T 103)
  else if T 0 = 2 ∧ T 1 = 19 then gSq (gSq (gSq (gSq (gT T 7 2) (gN T)) (gBe T)) (gR T)) (gT T 103)
  else if kt7 T = 4 ∨ kt7 T = 5 then ckB T
  else if kt7 T = 12 then gSq (gSq (gSq (gSq (gSq (gSq (gN T 0) (gT T 12)) (gA T)) (gR T)) (gT T 17)) (gR T)) (gT T 103)
  else if kt7 T = 13 then gSq (gSq (gSq (gSq (gSq (gSq (gN T 0) (gT T 13)) (gT T 14)) (gR T)) (gT T 15)) (gR T)) (gT T 103)
  else if kt7 T = 21 then gSq (gSq (gSq (gSq (gSq (gSq (gSq (gN T 0) (gT T 21)) (gHow T)) (gR T)) (gT T 11)) (gHow T)) (gR T)) (gT T 103)
  else gSq (gLo T 16 104 0) (gT T 103)
def rul7 (T : Int → Int) (x : Int × Int) : Int × Int := gSq (gSq (gSq (gSq x (fun b => if (gT T 37 b).1 = 0 then (1, (gT T 37 b).2) else gTs T (gT T 37 b).2)) (gT T 106)) (gPs T)) (gT T 103)
def chk (T : Int → Int) : Int × Int := if T 0 = 102 then (1, 1) else if T 0 = 33 then gSq (gSq (gSq (gT T 102 1) (gT T 34)) (gR T)) (gT T 103)
  else if T 0 = 35 then gSq (gSq (gSq (gSq (gSq (gSq (gSq (gT T 106 1) (gA T)) (gR T)) (gT T 4)) (gR T)) (gT T 36)) (gTs T)) (gT T 103)
  else if T 0 = 38 ∨ T 0 = 40 then rul7 T (gAc T 1) else if T 0 = 39 then rul7 T (gSq (gT T 7 1) (gAc T)) else if T 0 = 41 then rul7 T (gT T 42 1) else ckO T
theorem tk_x {S : sS} {v : Int} (hls : LST S) (k : tk7 (ty7 S) = tkF (ty7 S) (5131 - v).toNat v) (h0 : 0 ≤ v) (h1 : v < 5131) (h2 : v < Xi S 876 7) (h3 : ¬ tl7 (Xi S 877 v.toNat)) : tk7 (ty7 S) = tkF (ty7 S) (5131 - (v + 1)).toNat (v + 1) := by sorry
theorem p1_of {T : Int → Int} {a y b z c : Int} (h : (y = 0 ∧ gT T 44 a = (y, b) ∧ gPh T b = (z, c)) ∨ (y ≠ 0 ∧ gT T 44 a = (y, b) ∧ gTt T 1 b = (z, c))) : gP1 T a = (z, c) := by sorry
theorem ps_0 {S : sS} {T : Int → Int} {n v a y b z c : Int} (h0 : n = 0 → v = 1 ∧ a = Xi S 890 1) (hn : n = 0) (h : (y = 0 ∧ gT T 44 a = (y, b) ∧ gPh T b = (z, c)) ∨ (y ≠ 0 ∧ gT T 44 a = (y, b) ∧ gTt T 1 b = (z, c))) : (n + 1 = 0 → z = 1 ∧ c = Xi S 890 1) ∧ (0 < n + 1 → z = 1 → gPs T (Xi S 890 1) = gPsn T (5000 - (n + 1)).toNat c) ∧ (z = 0 → gPs T (Xi S 890 1) = (0, c)) := by sorry
theorem ps_s {T : Int → Int} {X : Int × Int} {n a x d y b z c w : Int} (h : X = gPsn T (5000 - n).toNat a) (h0 : 0 < n) (hn : n < 5000) (hg : gT T 105 a = (x, d)) (hx : x ≠ 0) (hp : (y = 0 ∧ gT T 44 d = (y, b) ∧ gPh T b = (z, c)) ∨ (y ≠ 0 ∧ gT T 44 d = (y, b) ∧ gTt T 1 b = (z, c))) : (n + 1 = 0 → z = 1 ∧ c = w) ∧ (0 < n + 1 → z = 1 → X = gPsn T (5000 - (n + 1)).toNat c) ∧ (z = 0 → X = (0, c)) := by sorry
theorem ckR_0 {T : Int → Int} {al a b : Int} (h : gR T a = (0, b)) : ckR T al a = (0, b) := by sorry
theorem ckR_a {T : Int → Int} {al a b : Int} (h : gR T a = (1, b)) (ha : al ≠ 0) : ckR T al a = gT T 103 b := by sorry
theorem ckR_b {T : Int → Int} {al a b c : Int} (h : gR T a = (1, b)) (ha : al = 0) (h7 : gT T 7 b = (0, c)) : ckR T al a = gSq (gRn T 5000 c) (gT T 103) := by sorry
theorem ckR_c {T : Int → Int} {al a b c : Int} (h : gR T a = (1, b)) (ha : al = 0) (h7 : gT T 7 b = (1, c)) : ckR T al a = gSq (gN T c) (gT T 103) := by sorry
theorem rs_s {T : Int → Int} {X : Int × Int} {n a b z c : Int} (h : X = gSq (gRn T (5000 - n).toNat a) (gT T 103)) (hn : n < 5000) (hb : gBt T a = (1, b)) (hr : gR T b = (z, c)) : (z = 1 → X = gSq (gRn T (5000 - (n + 1)).toNat c) (gT T 103)) ∧ (z = 0 → X = (0, c)) := by sorry
theorem rs_n {T : Int → Int} {X : Int × Int} {n a b : Int} (h : X = gSq (gRn T (5000 - n).toNat a) (gT T 103)) (hn : n < 5000) (hb : gBt T a = (0, b)) : X = gT T 103 b := by sorry
theorem rs_e {T : Int → Int} {X : Int × Int} {n a : Int} (h : X = gSq (gRn T (5000 - n).toNat a) (gT T 103)) (hn : 5000 ≤ n) : X = gT T 103 a := by sorry
theorem kt_of {S : sS} {z t : Int} (h : tk7 (ty7 S) = z) (h2 : ty7 S z = t) : kt7 (ty7 S) = t := by sorry
theorem ty_lt {S : sS} {i t : Int} (h : ty7 S i = t) : t ≠ 107 → 0 ≤ i ∧ i < Xi S 876 7 := by sorry
def ckB2 (T : Int → Int) (a : Int) : Int × Int :=
  if T a = 0 ∧ T (a + 1) = 18 then gSq (if (gT T 7 (a + 2)).1 = 0 then (1, (gT T 7 (a + 2)).2) else gOr (gT T 20 (gT T 7 (a + 2)).2) (gN T)) (gT T 103)
  else if T a = 1 ∧ T (a + 1) = 27 then gSq (if (gT T 28 (a + 2)).1 = 0 then (1, (gT T 28 (a + 2)).2) else gSq (gSq (gT T 11 (gT T 28 (a + 2)).2) (gT T 22)) (gR T)) (gT T 103)
  else if art7 (T a) then gSq (gSq (gR T (a + 1)) (fun b => if pl7 (T b) then gPl T 0 b else (1, b))) (gT T 103)
  else if pl7 (T a) then gSq (gPl T 0 a) (gT T 103)
  else ckR T (gOr (gT T 6 a) (gT T 32)).1 (gOr (gT T 6 a) (gT T 32)).2
theorem ckB_0 {T : Int → Int} (h : bp7 T 0) : ckB T = gSq (gSq (gSq (gN T (re7 T 1 + 1)) (gBe T)) (gWh T)) (gT T 103) := by sorry
theorem ckB_1 {T : Int → Int} (h : ¬ bp7 T 0) : ckB T = gSq (gSq (gLs T 0) (gBe T)) (ckB2 T) := by sorry
theorem ckB2_10 {T : Int → Int} {a : Int} (h : T a = 0 ∧ T (a + 1) = 18) : ckB2 T a = gSq (if (gT T 7 (a + 2)).1 = 0 then (1, (gT T 7 (a + 2)).2) else gOr (gT T 20 (gT T 7 (a + 2)).2) (gN T)) (gT T 103) := by sorry
theorem ckB2_11 {T : Int → Int} {a : Int} (h : T a = 1 ∧ T (a + 1) = 27) : ckB2 T a = gSq (if (gT T 28 (a + 2)).1 = 0 then (1, (gT T 28 (a + 2)).2) else gSq (gSq (gT T 11 (gT T 28 (a + 2)).2) (gT T 22)) (gR T)) (gT T 103) := by sorry
theorem ckB2_12 {T : Int → Int} {a : Int} (h0 : ¬ (T a = 0 ∧ T (a + 1) = 18)) (h1 : ¬ (T a = 1 ∧ T (a + 1) = 27)) (h : 0 ≤ T a ∧ T a ≤ 3) : ckB2 T a = gSq (gSq (gR T (a + 1)) (fun b => if pl7 (T b) then gPl T 0 b else (1, b))) (gT T 103) := by sorry
theorem ckB2_13 {T : Int → Int} {a : Int} (h : pl7 (T a)) : ckB2 T a = gSq (gPl T 0 a) (gT T 103) := by sorry
theorem ckB2_15 {T : Int → Int} {a : Int} (h : ¬ (0 ≤ T a ∧ T a ≤ 3)) (hp : ¬ pl7 (T a)) : ckB2 T a = ckR T (gOr (gT T 6 a) (gT T 32)).1 (gOr (gT T 6 a) (gT T 32)).2 := by sorry
theorem ckO_7 {T : Int → Int} (h : T 0 = 2 ∧ T 1 = 25) : ckO T = gSq (gSq (gSq (gSq (gSq (gSq (gT T 11 2) (gR T)) (gT T 24)) (gT T 2)) (gR T)) (gT T 26)) (gT T 103) := by sorry
theorem ckO_8 {T : Int → Int} (h : T 0 = 2 ∧ T 1 = 19) : ckO T = gSq (gSq (gSq (gSq (gT T 7 2) (gN T)) (gBe T)) (gR T)) (gT T 103) := by sorry
theorem ckO_b {T : Int → Int} (h7 : ¬ (T 0 = 2 ∧ T 1 = 25)) (h8 : ¬ (T 0 = 2 ∧ T 1 = 19)) (h : kt7 T = 4 ∨ kt7 T = 5) : ckO T = ckB T := by sorry
theorem ckO_17 {T : Int → Int} (h7 : ¬ (T 0 = 2 ∧ T 1 = 25)) (h8 : ¬ (T 0 = 2 ∧ T 1 = 19)) (h : kt7 T = 12) : ckO T = gSq (gSq (gSq (gSq (gSq (gSq (gN T 0) (gT T 12)) (gA T)) (gR T)) (gT T 17)) (gR T)) (gT T 103) := by sorry
theorem ckO_18 {T : Int → Int} (h7 : ¬ (T 0 = 2 ∧ T 1 = 25)) (h8 : ¬ (T 0 = 2 ∧ T 1 = 19)) (h : kt7 T = 13) : ckO T = gSq (gSq (gSq (gSq (gSq (gSq (gN T 0) (gT T 13)) (gT T 14)) (gR T)) (gT T 15)) (gR T)) (gT T 103) := by sorry
theorem ckO_19 {T : Int → Int} (h7 : ¬ (T 0 = 2 ∧ T 1 = 25)) (h8 : ¬ (T 0 = 2 ∧ T 1 = 19)) (h : kt7 T = 21) : ckO T = gSq (gSq (gSq (gSq (gSq (gSq (gSq (gN T 0) (gT T 21)) (gHow T)) (gR T)) (gT T 11)) (gHow T)) (gR T)) (gT T 103) := by sorry
theorem ckO_20 {T : Int → Int} (h7 : ¬ (T 0 = 2 ∧ T 1 = 25)) (h8 : ¬ (T 0 = 2 ∧ T 1 = 19)) (h : kt7 T ≠ 4 ∧ kt7 T ≠ 5 ∧ kt7 T ≠ 12 ∧ kt7 T ≠ 13 ∧ kt7 T ≠ 21) : ckO T = gSq (gLo T 16 104 0) (gT T 103) := by sorry
def rux7 (T : Int → Int) : Int × Int := if T 0 = 38 ∨ T 0 = 40 then gAc T 1 else if T 0 = 39 then gSq (gT T 7 1) (gAc T) else gT T 42 1
theorem chk_0 {T : Int → Int} (h : T 0 = 102) : chk T = (1, 1) := by sorry
theorem chk_1 {T : Int → Int} (h : T 0 = 33) : chk T = gSq (gSq (gSq (gT T 102 1) (gT T 34)) (gR T)) (gT T 103) := by sorry
theorem chk_2 {T : Int → Int} (h : T 0 = 35) : chk T = gSq (gSq (gSq (gSq (gSq (gSq (gSq (gT T 106 1) (gA T)) (gR T)) (gT T 4)) (gR T)) (gT T 36)) (gTs T)) (gT T 103) := by sorry
theorem chk_r {T : Int → Int} (h : T 0 = 38 ∨ T 0 = 39 ∨ T 0 = 40 ∨ T 0 = 41) : chk T = rul7 T (rux7 T) := by sorry
theorem chk_o {T : Int → Int} (h : T 0 ≠ 102 ∧ T 0 ≠ 33 ∧ T 0 ≠ 35 ∧ T 0 ≠ 38 ∧ T 0 ≠ 39 ∧ T 0 ≠ 40 ∧ T 0 ≠ 41) : chk T = ckO T := by sorry
theorem gS_1 {a : Int} {f : Int → Int × Int} : gSq (1, a) f = f a := by sorry
theorem gS_0 {a : Int} {f : Int → Int × Int} : gSq (0, a) f = (0, a) := by sorry
theorem o_1 {a : Int} {f : Int → Int × Int} : gOr (1, a) f = (1, a) := by sorry
theorem o_0 {a : Int} {f : Int → Int × Int} : gOr (0, a) f = f a := by sorry
/-! GRAMMAR of the reference, by the same functions -/
def un7 (t : Int) : Int := if 100 ≤ t then t - 100 else if t = 3 then 100 else if t = 4 then 101 else if t = 5 then 102 else if t = 46 then 103 else if t = 44 then 104 else if t = 59 then 105 else if t = 58 then 106 else if t = 1 then 107 else 108
theorem un_tr : ∀ t : Fin 109, un7 (tr7 (t.val : Int)) = (t.val : Int) := by sorry
theorem un_t {t : Int} (h : 0 ≤ t ∧ t ≤ 108) : un7 (tr7 t) = t := by sorry
/-- the kinds of tokens from f on, the last is the m-th -/
def tR (S : sS) (f m : Nat) (i : Int) : Int := if 0 ≤ i ∧ i ≤ m then un7 (Xi S 907 (f + i).toNat) else 107
/-- they are such as the class has; the last one is a dot or the end, no other -/
def VLR (S : sS) (f m : Nat) : Prop := (∀ i : Nat, i ≤ m → ∃ t : Int, (0 ≤ t ∧ t ≤ 108) ∧ Xi S 907 (f + i) = tr7 t) ∧ (Xi S 907 (f + m) = 46 ∨ Xi S 907 (f + m) = 1) ∧ (∀ i : Nat, i < m → Xi S 907 (f + i) ≠ 46 ∧ Xi S 907 (f + i) ≠ 1) ∧ f + m ≤ 5000
theorem FRR {l : List rec} {S T : sS} {fs ns : Nat} (f : FR l S T) (e1 : kdis l [(907, 908)] = true) : tR T fs ns = tR S fs ns := by sorry
theorem VLR_FR {l : List rec} {S T : sS} {fs ns : Nat} (f : FR l S T) (e1 : kdis l [(907, 908)] = true) (h : VLR S fs ns) : VLR T fs ns := by sorry
/-- where the reading stands, or what spoils it -/
def cu (S : sS) (f : Nat) : Int × Int := if Xi S 904 65 = 0 then (1, Xi S 904 8 - f) else (0, Xi S 904 66 - f)
theorem cu_ok {S : sS} {f : Nat} (h : Xi S 904 65 = 0) : cu S f = (1, Xi S 904 8 - f) := by sorry
theorem cu_bad {S : sS} {f : Nat} (h : Xi S 904 65 ≠ 0) : cu S f = (0, Xi S 904 66 - f) := by sorry
def INR (S : sS) (f m : Nat) : Prop := Xi S 904 65 = 0 → (f : Int) ≤ Xi S 904 8 ∧ Xi S 904 8 ≤ f + m
theorem tR_v {S : sS} {f m : Nat} {i k : Int} (h : VLR S f m) (h0 : 0 ≤ i) (h1 : i ≤ m) (hk : tr7 (un7 k) = k) : (Xi S 907 (f + i).toNat = k → tR S f m i = un7 k) ∧ (Xi S 907 (f + i).toNat ≠ k → tR S f m i ≠ un7 k) := by sorry
theorem nx_of {S : sS} {f m : Nat} {k z : Int} (h : VLR S f m) (hI : INR S f m) (hk : tr7 (un7 k) = k) (p : z = 1 → Xi S 904 65 = 0 ∧ Xi S 907 (Xi S 904 8).toNat = k) (n : z = 0 → Xi S 904 65 = 0 → Xi S 907 (Xi S 904 8).toNat ≠ k) : (z = 1 → Xi S 904 65 = 0 ∧ tR S f m (Xi S 904 8 - f) = un7 k) ∧ (z = 0 → Xi S 904 65 = 0 → tR S f m (Xi S 904 8 - f) ≠ un7 k) := by sorry
theorem cu_eq {S T : sS} {f : Nat} (h1 : Xi T 904 65 = Xi S 904 65) (h2 : Xi T 904 8 = Xi S 904 8) (h3 : Xi T 904 66 = Xi S 904 66) : cu T f = cu S f := by sorry
theorem tR_un {S : sS} {f m : Nat} {i : Int} (h0 : 0 ≤ i) (h1 : i ≤ m) : tR S f m i = un7 (Xi S 907 (f + i).toNat) := by sorry
theorem lk_of {S : sS} {f m : Nat} {z : Int} (h : VLR S f m) (hI : INR S f m) (b : Xi S 904 65 = 0) (hz : Xi S 907 (Xi S 904 8).toNat = z) : tR S f m (Xi S 904 8 - f) = un7 z ∧ z = tr7 (un7 z) := by sorry
theorem un_ab (z : Int) : (100 ≤ z → un7 z = z - 100) ∧ (z < 100 → 100 ≤ un7 z) := by sorry
theorem gT_1 {T : Int → Int} {k a : Int} (h : T a = k) : gT T k a = (1, a + 1) := by sorry
theorem gT_0 {T : Int → Int} {k a : Int} (h : T a ≠ k) : gT T k a = (0, a) := by sorry
theorem gA_1 {T : Int → Int} {a : Int} (h : 0 ≤ T a ∧ T a ≤ 3) : gA T a = (1, a + 1) := by sorry
theorem gA_0 {T : Int → Int} {a : Int} (h : ¬ (0 ≤ T a ∧ T a ≤ 3)) : gA T a = (0, a) := by sorry
theorem bA_1 {T : Int → Int} {a : Int} (h : 0 ≤ T a ∧ T a ≤ 3) : bA T a = a + 1 := by sorry
theorem bA_0 {T : Int → Int} {a : Int} (h : ¬ (0 ≤ T a ∧ T a ≤ 3)) : bA T a = a := by sorry
theorem gBe_1 {T : Int → Int} {a : Int} (h : T a = 4 ∨ T a = 5) : gBe T a = (1, a + 1) := by sorry
theorem gBe_0 {T : Int → Int} {a : Int} (h : T a ≠ 4) (h5 : T a ≠ 5) : gBe T a = (0, a) := by sorry
theorem gHow_1 {T : Int → Int} {a : Int} (h : T a = 22 ∨ T a = 23) : gHow T a = (1, a + 1) := by sorry
theorem gHow_0 {T : Int → Int} {a : Int} (h : T a ≠ 22) (h5 : T a ≠ 23) : gHow T a = (0, a) := by sorry
theorem cu_od {S U : sS} {f : Nat} {g : Int → Int × Int} (h : cu U f = (0, (cu S f).2)) (hb : Xi S 904 65 = 0 → g (Xi S 904 8 - f) = (0, Xi S 904 8 - f)) : gSq (cu S f) g = cu U f := by sorry
theorem cu_st {S U : sS} {f : Nat} {g : Int → Int × Int} {x : Int} (b : Xi S 904 65 = 0) (b2 : Xi U 904 65 = 0) (hx : Xi U 904 8 = x) (hg : g (Xi S 904 8 - f) = (1, x - f)) : gSq (cu S f) g = cu U f := by sorry
theorem reF_s {T : Int → Int} {v b : Int} (h : v - b < 5131) (h0 : b ≤ v) (hc : T v = 100) : reF T (5131 - (v - b)).toNat v = reF T (5131 - (v + 1 - b)).toNat (v + 1) := by sorry
theorem reF_n {T : Int → Int} {v : Int} {n : Nat} (hc : T v ≠ 100) : reF T n v = v := by sorry
theorem re7_0 {T : Int → Int} {b : Int} : re7 T b = reF T (5131 - (b - b)).toNat b := by sorry
theorem tR_k {S : sS} {f m : Nat} {a k z : Int} (h : VLR S f m) (h0 : (f : Int) ≤ a) (h1 : a ≤ f + m) (hk : tr7 (un7 k) = k) (hz : Xi S 907 a.toNat = z) : (z = k → tR S f m (a - f) = un7 k) ∧ (z ≠ k → tR S f m (a - f) ≠ un7 k) := by sorry
theorem tR_3 {S : sS} {f m : Nat} {a z : Int} (h : VLR S f m) (h0 : (f : Int) ≤ a) (h1 : a ≤ f + m) (hz : Xi S 907 a.toNat = z) : (z = 3 → tR S f m (a - f) = 100) ∧ (z ≠ 3 → tR S f m (a - f) ≠ 100) := by sorry
theorem in_u2 {S : sS} {f m : Nat} {a : Int} (h : VLR S f m) (h0 : (f : Int) ≤ a) (h1 : a ≤ f + m) (h2 : tR S f m (a - f) ≠ 103) (h3 : tR S f m (a - f) ≠ 107) : a + 1 ≤ f + m := by sorry
theorem gR_0 {T : Int → Int} {a : Int} (h : T a ≠ 100) : gR T a = (0, a) := by sorry
theorem gR_1 {T : Int → Int} {a b : Int} (h : T a = 100) (hr : re7 T a = b) : gR T a = (1, b) := by sorry
theorem gN_of {S U V : sS} {f m : Nat} (b : Xi S 904 65 = 0 → Xi V 904 65 = 0 ∧ Xi V 904 8 - f = bA (tR S f m) (Xi S 904 8 - f)) (b2 : Xi S 904 65 ≠ 0 → cu V f = cu S f) (h : gSq (cu V f) (gR (tR S f m)) = cu U f) : gSq (cu S f) (gN (tR S f m)) = cu U f := by sorry
/-! PARTIAL rows: what holds of a run if it ends (that it does, the safety rows say) -/
def Pl (f : Nat) (lay : Nat → Nat × Nat) (d : Nat) (q : mT) (pc : Nat) (L : List (Nat × Value)) (st : List Value) (S : sS) (Q : pst) : Prop := ∀ m, m < f → ∀ lv, ag lv L → ∀ G r S1, run lay (fLs q.2.2.2.2.1) (cLs q.2.2.2.2.1) (kLs q.2.2.2.2.1) q.2.2.1 q.2.2.2.1 (evd lay G d) q.2.2.2.2.2 m pc lv st S = some (r, S1) → Q r S1
def Mp (lay : Nat → Nat × Nat) (d : Nat) (q : mT) (av : List Value) (S : sS) (Q : pst) : Prop := ∀ G r S1, evd lay G d q av S = some (r, S1) → Q r S1
theorem Mt_p {lay : Nat → Nat × Nat} {d : Nat} {q : mT} {av : List Value} {S : sS} {Q Q1 : pst} (h : Mt lay d q av S Q) (hp : Mp lay d q av S Q1) : Mt lay d q av S (fun r S1 => Q r S1 ∧ Q1 r S1) := by sorry
theorem RI.r {S : sS} (h : RI S) (k j a : Nat) (e : rT k j = some a) : S.2.2 k j = some a := by sorry
theorem RI.rw {S : sS} (h : RI S) (k b n i : Nat) (hq : (k, b, n) ∈ rRw) (hi : i < n) : S.2.2 k i = some (b + i) := by sorry
theorem RI_w {S : sS} {k j : Nat} {v : Int32} (h : RI S) : RI (uI S k j v) := by sorry
theorem RI_J {S : sS} {k j : Nat} {v : Int64} (h : RI S) : RI (uJ S k j v) := by sorry
theorem inb_no {x : Int} {n : Nat} (h : ¬ (0 ≤ x ∧ x < n)) (hx : rg x) : inb (Int32.ofInt x) n = false := by sorry
section PART
variable {f : Nat} {lay : Nat → Nat × Nat} {d pc : Nat} {q : mT} {L : List (Nat × Value)} {st : List Value} {S : sS} {Q : pst}
theorem Pl_0 : Pl 0 lay d q pc L st S Q := by sorry
theorem Pl_weak {g : Nat} {L1 : List (Nat × Value)} (h : Pl g lay d q pc L1 st S Q) (hf : f ≤ g) (hi : inL L1 L) : Pl f lay d q pc L st S Q := by sorry
theorem Pl_sg {g : Nat} {i : Instr} {pc1 : Nat} {L1 : List (Nat × Value)} {st1 : List Value} {S1 : sS} (hf : f ≤ g + 1) (hc : lk q.2.2.2.2.2 pc = some i) (hp : pl i = true)
    (hs : ∀ lv, ag lv L → ∃ lv1, stp lay (fLs q.2.2.2.2.1) (cLs q.2.2.2.2.1) q.2.2.1 i pc lv st S = some (pc1, lv1, st1, S1) ∧ ag lv1 L1)
    (h : Pl g lay d q pc1 L1 st1 S1 Q) : Pl f lay d q pc L st S Q := by sorry
theorem Pl_s {i : Instr} {pc1 : Nat} {L1 : List (Nat × Value)} {st1 : List Value} {S1 : sS} (hc : lk q.2.2.2.2.2 pc = some i) (hp : pl i = true)
    (hs : ∀ lv, ag lv L → ∃ lv1, stp lay (fLs q.2.2.2.2.1) (cLs q.2.2.2.2.1) q.2.2.1 i pc lv st S = some (pc1, lv1, st1, S1) ∧ ag lv1 L1)
    (h : Pl f lay d q pc1 L1 st1 S1 Q) : Pl f lay d q pc L st S Q := by sorry
/-- a step that can't be done -/
theorem Pl_no {i : Instr} (hc : lk q.2.2.2.2.2 pc = some i) (hp : pl i = true) (hs : ∀ lv, stp lay (fLs q.2.2.2.2.1) (cLs q.2.2.2.2.1) q.2.2.1 i pc lv st S = none) : Pl f lay d q pc L st S Q := by sorry
theorem Pl_end {r0 : Option Value} (h : ∀ lv F G, run lay (fLs q.2.2.2.2.1) (cLs q.2.2.2.2.1) (kLs q.2.2.2.2.1) q.2.2.1 q.2.2.2.1 (evd lay G d) q.2.2.2.2.2 (F + 1) pc lv st S = some (r0, S)) (hq : Q r0 S) : Pl f lay d q pc L st S Q := by sorry
theorem y_ireturn {x : Int} (hc : lk q.2.2.2.2.2 pc = some .ireturn) (hr : retI q.2.2.2.1 (Int32.ofInt x) = true) (hq : Q (some (iv x)) S) : Pl f lay d q pc L [iv x] S Q := by sorry
theorem y_return (hc : lk q.2.2.2.2.2 pc = some .return_) (hr : q.2.2.2.1 = none) (hq : Q none S) : Pl f lay d q pc L [] S Q := by sorry
theorem y_lreturn {x : Int} (hc : lk q.2.2.2.2.2 pc = some .lreturn) (hr : q.2.2.2.1 = some .long) (hq : Q (some (jw x)) S) : Pl f lay d q pc L [jw x] S Q := by sorry
theorem y_areturn {v : Value} (hc : lk q.2.2.2.2.2 pc = some .areturn) (hr : retA q.2.2.2.1 v = true) (hq : Q (some v) S) : Pl f lay d q pc L [v] S Q := by sorry
theorem y_callV {ix na : Nat} {md : mT} {Q1 : pst} (hc : lk q.2.2.2.2.2 pc = some (.invokevirtual ix)) (hk : kLs q.2.2.2.2.1 ix = some (0, md, na)) (ho : cOk lay md.2.2.2.2.1 na st = true) (hm : Mp lay d md (st.take (na + 1)).reverse S Q1)
    (h : ∀ r S1, Q1 r S1 → Pl f lay d q (pc + 3) L (r.toList ++ st.drop (na + 1)) S1 Q) : Pl f lay d q pc L st S Q := by sorry
theorem y_callT {ix na : Nat} {md : mT} {Q1 : pst} (hc : lk q.2.2.2.2.2 pc = some (.invokevirtual ix)) (hk : kLs q.2.2.2.2.1 ix = some (4, md, na)) (ho : cOkT na st = true) (hm : Mp lay d md (st.take (na + 1)).reverse S Q1)
    (h : ∀ r S1, Q1 r S1 → Pl f lay d q (pc + 3) L (r.toList ++ st.drop (na + 1)) S1 Q) : Pl f lay d q pc L st S Q := by sorry
theorem y_callS {ix na kd : Nat} {md : mT} {Q1 : pst} (hc : lk q.2.2.2.2.2 pc = some (.invokestatic ix)) (hk : kLs q.2.2.2.2.1 ix = some (kd, md, na)) (hd : kd = 1 ∨ kd = 3) (ho : cOkS na st = true) (hm : Mp lay d md (st.take na).reverse S Q1)
    (h : ∀ r S1, Q1 r S1 → Pl f lay d q (pc + 3) L (r.toList ++ st.drop na) S1 Q) : Pl f lay d q pc L st S Q := by sorry
theorem Mp_R {av : List Value} (h9 : Nat.beq q.2.2.2.2.1 99 = false) (hw : Nat.ble (wds av) q.2.2.1 = true) (h : ∀ f, Pl f lay d q 0 (lv_args 0 av) [] S Q) : Mp lay (d + 1) q av S Q := by sorry
theorem Mp_w {av : List Value} {Q1 : pst} (h : Mp lay d q av S Q1) (hq : ∀ r S1, Q1 r S1 → Q r S1) : Mp lay d q av S Q := by sorry
theorem y_iload {k : Nat} {x : Int} (hc : lk q.2.2.2.2.2 pc = some (.iload k)) (hl : lgt L k = some (iv x)) (h : Pl f lay d q (pc + 2) L (iv x :: st) S Q) : Pl f lay d q pc L st S Q := by sorry
theorem ys_iload {k : Nat} {x : Int} (hc : lk q.2.2.2.2.2 pc = some (.iload k)) (hl : lgt L k = some (iv x)) (h : Pl f lay d q (pc + 2) L (iv x :: st) S Q)   : Pl (f + 1) lay d q pc L st S Q := by sorry
theorem y_iload_n {k : _} {x : Int} (hc : lk q.2.2.2.2.2 pc = some (.iload_n k)) (hl : lgt L k = some (iv x)) (h : Pl f lay d q (pc + 1) L (iv x :: st) S Q) : Pl f lay d q pc L st S Q := by sorry
theorem ys_iload_n {k : _} {x : Int} (hc : lk q.2.2.2.2.2 pc = some (.iload_n k)) (hl : lgt L k = some (iv x)) (h : Pl f lay d q (pc + 1) L (iv x :: st) S Q)   : Pl (f + 1) lay d q pc L st S Q := by sorry
theorem y_lload {k : Nat} {x : Int} (hc : lk q.2.2.2.2.2 pc = some (.lload k)) (hl : lgt L k = some (jw x)) (h : Pl f lay d q (pc + 2) L (jw x :: st) S Q) : Pl f lay d q pc L st S Q := by sorry
theorem y_lload_n {k : _} {x : Int} (hc : lk q.2.2.2.2.2 pc = some (.lload_n k)) (hl : lgt L k = some (jw x)) (h : Pl f lay d q (pc + 1) L (jw x :: st) S Q) : Pl f lay d q pc L st S Q := by sorry
theorem y_aload {k : Nat} {x : Nat} (hc : lk q.2.2.2.2.2 pc = some (.aload k)) (hl : lgt L k = some (.ref x)) (h : Pl f lay d q (pc + 2) L (.ref x :: st) S Q) : Pl f lay d q pc L st S Q := by sorry
theorem y_aload_n {k : _} {x : Nat} (hc : lk q.2.2.2.2.2 pc = some (.aload_n k)) (hl : lgt L k = some (.ref x)) (h : Pl f lay d q (pc + 1) L (.ref x :: st) S Q) : Pl f lay d q pc L st S Q := by sorry
theorem ys_aload_n {k : _} {x : Nat} (hc : lk q.2.2.2.2.2 pc = some (.aload_n k)) (hl : lgt L k = some (.ref x)) (h : Pl f lay d q (pc + 1) L (.ref x :: st) S Q)   : Pl (f + 1) lay d q pc L st S Q := by sorry
theorem y_istore {k : Nat} {x : Int} (hc : lk q.2.2.2.2.2 pc = some (.istore k)) (hk : Nat.blt k q.2.2.1 = true) (hn : nw L k = true) (h : Pl f lay d q (pc + 2) (sL L k (iv x)) st S Q) : Pl f lay d q pc L (iv x :: st) S Q := by sorry
theorem y_istore_n {k : _} {x : Int} (hc : lk q.2.2.2.2.2 pc = some (.istore_n k)) (hk : Nat.blt k q.2.2.1 = true) (hn : nw L k = true) (h : Pl f lay d q (pc + 1) (sL L k (iv x)) st S Q) : Pl f lay d q pc L (iv x :: st) S Q := by sorry
theorem y_astore {k : Nat} {x : Nat} (hc : lk q.2.2.2.2.2 pc = some (.astore k)) (hk : Nat.blt k q.2.2.1 = true) (hn : nw L k = true) (h : Pl f lay d q (pc + 2) (sL L k (Value.ref x)) st S Q) : Pl f lay d q pc L (Value.ref x :: st) S Q := by sorry
theorem y_astore_n {k : _} {x : Nat} (hc : lk q.2.2.2.2.2 pc = some (.astore_n k)) (hk : Nat.blt k q.2.2.1 = true) (hn : nw L k = true) (h : Pl f lay d q (pc + 1) (sL L k (Value.ref x)) st S Q) : Pl f lay d q pc L (Value.ref x :: st) S Q := by sorry
theorem y_lstore {k : Nat} {x : Int} (hc : lk q.2.2.2.2.2 pc = some (.lstore k)) (hk : Nat.blt (k + 1) q.2.2.1 = true) (hn : nw L k = true) (h1 : lgt L (k + 1) = none) (h : Pl f lay d q (pc + 2) (sL L k (jw x)) st S Q) : Pl f lay d q pc L (jw x :: st) S Q := by sorry
theorem y_lstore_n {k : _} {x : Int} (hc : lk q.2.2.2.2.2 pc = some (.lstore_n k)) (hk : Nat.blt ((k : Nat) + 1) q.2.2.1 = true) (hn : nw L k = true) (h1 : lgt L ((k : Nat) + 1) = none) (h : Pl f lay d q (pc + 1) (sL L k (jw x)) st S Q) : Pl f lay d q pc L (jw x :: st) S Q := by sorry
theorem y_iinc {k : Nat} {n x : Int} (hc : lk q.2.2.2.2.2 pc = some (.iinc k n)) (hl : lgt L k = some (iv x)) (hk : Nat.blt k q.2.2.1 = true) (hn : nw L k = true) (h : Pl f lay d q (pc + 3) (sL L k (iv (x + n))) st S Q) : Pl f lay d q pc L st S Q := by sorry
theorem y_iconst {n : Int} (hc : lk q.2.2.2.2.2 pc = some (.iconst n)) (h : Pl f lay d q (pc + 1) L (iv n :: st) S Q) : Pl f lay d q pc L (st) S Q := by sorry
theorem y_lconst {n : _} {z : Int} (hc : lk q.2.2.2.2.2 pc = some (.lconst n)) (hz : ((n : Nat) : Int) = z) (h : Pl f lay d q (pc + 1) L (jw z :: st) S Q) : Pl f lay d q pc L (st) S Q := by sorry
theorem y_bipush {n : Int} (hc : lk q.2.2.2.2.2 pc = some (.bipush n)) (hn : (Int8.ofInt n).toInt32 = Int32.ofInt n) (h : Pl f lay d q (pc + 2) L (iv n :: st) S Q) : Pl f lay d q pc L (st) S Q := by sorry
theorem y_sipush {n : Int} (hc : lk q.2.2.2.2.2 pc = some (.sipush n)) (hn : (Int16.ofInt n).toInt32 = Int32.ofInt n) (h : Pl f lay d q (pc + 3) L (iv n :: st) S Q) : Pl f lay d q pc L (st) S Q := by sorry
theorem y_iadd {x y : Int} (hc : lk q.2.2.2.2.2 pc = some (.iadd)) (h : Pl f lay d q (pc + 1) L (iv (x + y) :: st) S Q) : Pl f lay d q pc L (iv y :: iv x :: st) S Q := by sorry
theorem y_isub {x y : Int} (hc : lk q.2.2.2.2.2 pc = some (.isub)) (h : Pl f lay d q (pc + 1) L (iv (x - y) :: st) S Q) : Pl f lay d q pc L (iv y :: iv x :: st) S Q := by sorry
theorem y_imul {x y : Int} (hc : lk q.2.2.2.2.2 pc = some (.imul)) (h : Pl f lay d q (pc + 1) L (iv (x * y) :: st) S Q) : Pl f lay d q pc L (iv y :: iv x :: st) S Q := by sorry
theorem y_ladd {x y : Int} (hc : lk q.2.2.2.2.2 pc = some (.ladd)) (h : Pl f lay d q (pc + 1) L (jw (x + y) :: st) S Q) : Pl f lay d q pc L (jw y :: jw x :: st) S Q := by sorry
theorem y_lmul {x y : Int} (hc : lk q.2.2.2.2.2 pc = some (.lmul)) (h : Pl f lay d q (pc + 1) L (jw (x * y) :: st) S Q) : Pl f lay d q pc L (jw y :: jw x :: st) S Q := by sorry
theorem y_icmp_lt {x y off : Int} {t : Nat} (hc : lk q.2.2.2.2.2 pc = some (.if_icmp .lt off)) (ht : jm pc off = some t) (hx : rg x) (hy : rg y) (h1 : x < y → Pl f lay d q t L st S Q) (h2 : y ≤ x → Pl f lay d q (pc + 3) L st S Q) : Pl f lay d q pc L (iv y :: iv x :: st) S Q := by sorry
theorem y_if_lt {x off : Int} {t : Nat} (hc : lk q.2.2.2.2.2 pc = some (.ifCond .lt off)) (ht : jm pc off = some t) (hx : rg x) (h1 : x < 0 → Pl f lay d q t L st S Q) (h2 : 0 ≤ x → Pl f lay d q (pc + 3) L st S Q) : Pl f lay d q pc L (iv x :: st) S Q := by sorry
theorem y_icmp_ge {x y off : Int} {t : Nat} (hc : lk q.2.2.2.2.2 pc = some (.if_icmp .ge off)) (ht : jm pc off = some t) (hx : rg x) (hy : rg y) (h1 : y ≤ x → Pl f lay d q t L st S Q) (h2 : x < y → Pl f lay d q (pc + 3) L st S Q) : Pl f lay d q pc L (iv y :: iv x :: st) S Q := by sorry
theorem y_if_ge {x off : Int} {t : Nat} (hc : lk q.2.2.2.2.2 pc = some (.ifCond .ge off)) (ht : jm pc off = some t) (hx : rg x) (h1 : 0 ≤ x → Pl f lay d q t L st S Q) (h2 : x < 0 → Pl f lay d q (pc + 3) L st S Q) : Pl f lay d q pc L (iv x :: st) S Q := by sorry
theorem y_icmp_gt {x y off : Int} {t : Nat} (hc : lk q.2.2.2.2.2 pc = some (.if_icmp .gt off)) (ht : jm pc off = some t) (hx : rg x) (hy : rg y) (h1 : y < x → Pl f lay d q t L st S Q) (h2 : x ≤ y → Pl f lay d q (pc + 3) L st S Q) : Pl f lay d q pc L (iv y :: iv x :: st) S Q := by sorry
theorem y_icmp_le {x y off : Int} {t : Nat} (hc : lk q.2.2.2.2.2 pc = some (.if_icmp .le off)) (ht : jm pc off = some t) (hx : rg x) (hy : rg y) (h1 : x ≤ y → Pl f lay d q t L st S Q) (h2 : y < x → Pl f lay d q (pc + 3) L st S Q) : Pl f lay d q pc L (iv y :: iv x :: st) S Q := by sorry
theorem y_if_le {x off : Int} {t : Nat} (hc : lk q.2.2.2.2.2 pc = some (.ifCond .le off)) (ht : jm pc off = some t) (hx : rg x) (h1 : x ≤ 0 → Pl f lay d q t L st S Q) (h2 : 0 < x → Pl f lay d q (pc + 3) L st S Q) : Pl f lay d q pc L (iv x :: st) S Q := by sorry
theorem y_icmp_eq {x y off : Int} {t : Nat} (hc : lk q.2.2.2.2.2 pc = some (.if_icmp .eq off)) (ht : jm pc off = some t) (hx : rg x) (hy : rg y) (h1 : x = y → Pl f lay d q t L st S Q) (h2 : x ≠ y → Pl f lay d q (pc + 3) L st S Q) : Pl f lay d q pc L (iv y :: iv x :: st) S Q := by sorry
theorem y_if_eq {x off : Int} {t : Nat} (hc : lk q.2.2.2.2.2 pc = some (.ifCond .eq off)) (ht : jm pc off = some t) (hx : rg x) (h1 : x = 0 → Pl f lay d q t L st S Q) (h2 : x ≠ 0 → Pl f lay d q (pc + 3) L st S Q) : Pl f lay d q pc L (iv x :: st) S Q := by sorry
theorem y_icmp_ne {x y off : Int} {t : Nat} (hc : lk q.2.2.2.2.2 pc = some (.if_icmp .ne off)) (ht : jm pc off = some t) (hx : rg x) (hy : rg y) (h1 : x ≠ y → Pl f lay d q t L st S Q) (h2 : x = y → Pl f lay d q (pc + 3) L st S Q) : Pl f lay d q pc L (iv y :: iv x :: st) S Q := by sorry
theorem y_if_ne {x off : Int} {t : Nat} (hc : lk q.2.2.2.2.2 pc = some (.ifCond .ne off)) (ht : jm pc off = some t) (hx : rg x) (h1 : x ≠ 0 → Pl f lay d q t L st S Q) (h2 : x = 0 → Pl f lay d q (pc + 3) L st S Q) : Pl f lay d q pc L (iv x :: st) S Q := by sorry
theorem y_goto {off : Int} {t : Nat} (hc : lk q.2.2.2.2.2 pc = some (.goto off)) (ht : jm pc off = some t) (h : Pl f lay d q t L st S Q) : Pl f lay d q pc L st S Q := by sorry
theorem y_gfi {ix ci j k : Nat} {b : Bool} (hc : lk q.2.2.2.2.2 pc = some (.getfield ix)) (hf : fLs q.2.2.2.2.1 ix = some (ci, j, b)) (h9 : Nat.blt ci 90 = true) (hl : layIs lay k 0 ci = true) (ht : isI (fT ci j) = true) (h : Pl f lay d q (pc + 3) L (iv (Xi S k j) :: st) S Q) : Pl f lay d q pc L (.ref k :: st) S Q := by sorry
theorem y_gfr {ix ci j k a : Nat} {b : Bool} (hc : lk q.2.2.2.2.2 pc = some (.getfield ix)) (hf : fLs q.2.2.2.2.1 ix = some (ci, j, b)) (h9 : Nat.blt ci 90 = true) (hl : layIs lay k 0 ci = true) (ht : isR (fT ci j) = true) (hr : S.2.2 k j = some a) (h : Pl f lay d q (pc + 3) L (.ref a :: st) S Q) : Pl f lay d q pc L (.ref k :: st) S Q := by sorry
theorem yf_go {ix ci j k : Nat} {v : Value} {S1 : sS} (hc : lk q.2.2.2.2.2 pc = some (.putfield ix)) (hf : fLs q.2.2.2.2.1 ix = some (ci, j, false)) (h9 : (Nat.blt ci 90 && (layIs lay k 0 ci && !(gF ci j))) = true) (hp : pF S ci k j v = some S1) (h : Pl f lay d q (pc + 3) L st S1 Q) : Pl f lay d q pc L (v :: .ref k :: st) S Q := by sorry
theorem y_pfi {ix ci j k : Nat} {x : Int} (hc : lk q.2.2.2.2.2 pc = some (.putfield ix)) (hf : fLs q.2.2.2.2.1 ix = some (ci, j, false)) (h9 : (Nat.blt ci 90 && (layIs lay k 0 ci && !(gF ci j))) = true) (ht : fT ci j = .int) (h : Pl f lay d q (pc + 3) L st (uI S k j (Int32.ofInt x)) Q) : Pl f lay d q pc L (iv x :: .ref k :: st) S Q := by sorry
theorem y_pfz {ix ci j k : Nat} {x : Int} (hc : lk q.2.2.2.2.2 pc = some (.putfield ix)) (hf : fLs q.2.2.2.2.1 ix = some (ci, j, false)) (h9 : (Nat.blt ci 90 && (layIs lay k 0 ci && !(gF ci j))) = true) (ht : fT ci j = .boolean) (hx : x = 0 ∨ x = 1) (h : Pl f lay d q (pc + 3) L st (uI S k j (Int32.ofInt x)) Q) : Pl f lay d q pc L (iv x :: .ref k :: st) S Q := by sorry
theorem y_pfr {ix ci j k a : Nat} {ty : FieldType} (hc : lk q.2.2.2.2.2 pc = some (.putfield ix)) (hf : fLs q.2.2.2.2.1 ix = some (ci, j, false)) (h9 : (Nat.blt ci 90 && (layIs lay k 0 ci && !(gF ci j))) = true) (ht : fT ci j = .array ty) (h : Pl f lay d q (pc + 3) L st (uR S k j (some a)) Q) : Pl f lay d q pc L (.ref a :: .ref k :: st) S Q := by sorry
theorem y_iaload {k n : Nat} {x : Int} (hc : lk q.2.2.2.2.2 pc = some .iaload) (hl : lay k = (1, n)) (h0 : 0 ≤ x) (h1 : x < n) (hx : rg x) (h : Pl f lay d q (pc + 1) L (iv (Xi S k x.toNat) :: st) S Q) : Pl f lay d q pc L (iv x :: .ref k :: st) S Q := by sorry
theorem y_laload {k n : Nat} {x : Int} (hc : lk q.2.2.2.2.2 pc = some .laload) (hl : lay k = (2, n)) (h0 : 0 ≤ x) (h1 : x < n) (hx : rg x) (h : Pl f lay d q (pc + 1) L (jw (Xj S k x.toNat) :: st) S Q) : Pl f lay d q pc L (iv x :: .ref k :: st) S Q := by sorry
theorem y_baload {k n t : Nat} {x : Int} (hc : lk q.2.2.2.2.2 pc = some .baload) (hv : Nat.ble SV k = false) (hl : lay k = (t, n)) (ht : t = 3 ∨ t = 4) (h0 : 0 ≤ x) (h1 : x < n) (hx : rg x) (h : Pl f lay d q (pc + 1) L (iv (Xi S k x.toNat) :: st) S Q) : Pl f lay d q pc L (iv x :: .ref k :: st) S Q := by sorry
theorem y_aaload {k n a t : Nat} {x : Int} (hc : lk q.2.2.2.2.2 pc = some .aaload) (hl : lay k = (t, n)) (ht : t = 5 ∨ t = 6) (h0 : 0 ≤ x) (h1 : x < n) (hx : rg x) (hr : S.2.2 k x.toNat = some a) (h : Pl f lay d q (pc + 1) L (.ref a :: st) S Q) : Pl f lay d q pc L (iv x :: .ref k :: st) S Q := by sorry
theorem y_iastore {k n : Nat} {x v : Int} (hc : lk q.2.2.2.2.2 pc = some .iastore) (hl : lay k = (1, n)) (h0 : 0 ≤ x) (h1 : x < n) (hx : rg x) (h : Pl f lay d q (pc + 1) L st (uI S k x.toNat (Int32.ofInt v)) Q) : Pl f lay d q pc L (iv v :: iv x :: .ref k :: st) S Q := by sorry
theorem y_lastore {k n : Nat} {x v : Int} (hc : lk q.2.2.2.2.2 pc = some .lastore) (hl : lay k = (2, n)) (h0 : 0 ≤ x) (h1 : x < n) (hx : rg x) (h : Pl f lay d q (pc + 1) L st (uJ S k x.toNat (Int64.ofInt v)) Q) : Pl f lay d q pc L (jw v :: iv x :: .ref k :: st) S Q := by sorry
theorem y_dup {v : Value} (hc : lk q.2.2.2.2.2 pc = some .dup) (hv : Nat.beq v.category 1 = true) (h : Pl f lay d q (pc + 1) L (v :: v :: st) S Q) : Pl f lay d q pc L (v :: st) S Q := by sorry
theorem y_pop {v : Value} (hc : lk q.2.2.2.2.2 pc = some .pop) (hv : Nat.beq v.category 1 = true) (h : Pl f lay d q (pc + 1) L st S Q) : Pl f lay d q pc L (v :: st) S Q := by sorry
theorem y_dup2 {v u : Value} (hc : lk q.2.2.2.2.2 pc = some .dup2) (hv : (Nat.beq v.category 1 && Nat.beq u.category 1) = true) (h : Pl f lay d q (pc + 1) L (v :: u :: v :: u :: st) S Q) : Pl f lay d q pc L (v :: u :: st) S Q := by sorry
theorem y_bastoreZ {k n : Nat} {x v : Int} (hc : lk q.2.2.2.2.2 pc = some .bastore) (hl : lay k = (4, n)) (h0 : 0 ≤ x) (h1 : x < n) (hx : rg x) (h : Pl f lay d q (pc + 1) L st (uI S k x.toNat (vp_nar .boolean (Int32.ofInt v))) Q) : Pl f lay d q pc L (iv v :: iv x :: .ref k :: st) S Q := by sorry
theorem y_bastoreZ1 {k n : Nat} {x v : Int} (hc : lk q.2.2.2.2.2 pc = some .bastore) (hl : lay k = (4, n)) (h0 : 0 ≤ x) (h1 : x < n) (hx : rg x) (hv : 0 ≤ v ∧ v ≤ 1) (h : Pl f lay d q (pc + 1) L st (uI S k x.toNat (Int32.ofInt v)) Q) : Pl f lay d q pc L (iv v :: iv x :: .ref k :: st) S Q := by sorry
theorem y_alen {k n t : Nat} {z : Int} (hc : lk q.2.2.2.2.2 pc = some .arraylength) (hv : Nat.ble SV k = false) (hl : lay k = (t, n)) (ht : (Nat.ble 1 t && Nat.ble t 6) = true) (hz : Int32.ofNat n = Int32.ofInt z) (h : Pl f lay d q (pc + 1) L (iv z :: st) S Q) : Pl f lay d q pc L (.ref k :: st) S Q := by sorry
theorem y_lcmp {x y : Int} (hc : lk q.2.2.2.2.2 pc = some .lcmp) (hx : rgL x) (hy : rgL y) (h : ∀ c : Int, (-1 ≤ c ∧ c ≤ 1) → (c < 0 → x < y) → (c = 0 → x = y) → (0 < c → y < x) → Pl f lay d q (pc + 1) L (iv c :: st) S Q) : Pl f lay d q pc L (jw y :: jw x :: st) S Q := by sorry
theorem y_i2l {x : Int} (hc : lk q.2.2.2.2.2 pc = some .i2l) (hx : rg x) (h : Pl f lay d q (pc + 1) L (jw x :: st) S Q) : Pl f lay d q pc L (iv x :: st) S Q := by sorry
theorem y_l2i {x : Int} (hc : lk q.2.2.2.2.2 pc = some .l2i) (h : ∀ c : Int, rg c → (rg x → rgL x → c = x) → Pl f lay d q (pc + 1) L (iv c :: st) S Q) : Pl f lay d q pc L (jw x :: st) S Q := by sorry
theorem y_ldc2 {ix : Nat} {z : Int} (hc : lk q.2.2.2.2.2 pc = some (.ldc2_w ix)) (hz : cLs q.2.2.2.2.1 ix = some (jw z)) (h : Pl f lay d q (pc + 3) L (jw z :: st) S Q) : Pl f lay d q pc L st S Q := by sorry
theorem y_iorF {x y : Int} (hc : lk q.2.2.2.2.2 pc = some .ior) (h : Pl f lay d q (pc + 1) L (iv (iorF x y) :: st) S Q) : Pl f lay d q pc L (iv y :: iv x :: st) S Q := by sorry
theorem y_iandF {x y : Int} (hc : lk q.2.2.2.2.2 pc = some .iand) (h : Pl f lay d q (pc + 1) L (iv (iandF x y) :: st) S Q) : Pl f lay d q pc L (iv y :: iv x :: st) S Q := by sorry
theorem y_ixorF {x y : Int} (hc : lk q.2.2.2.2.2 pc = some .ixor) (h : Pl f lay d q (pc + 1) L (iv (ixorF x y) :: st) S Q) : Pl f lay d q pc L (iv y :: iv x :: st) S Q := by sorry
theorem y_ishlF {x y : Int} (hc : lk q.2.2.2.2.2 pc = some .ishl) (h : Pl f lay d q (pc + 1) L (iv (ishlF x y) :: st) S Q) : Pl f lay d q pc L (iv y :: iv x :: st) S Q := by sorry
theorem y_ishrF {x y : Int} (hc : lk q.2.2.2.2.2 pc = some .ishr) (h : Pl f lay d q (pc + 1) L (iv (ishrF x y) :: st) S Q) : Pl f lay d q pc L (iv y :: iv x :: st) S Q := by sorry
theorem y_lorF {x y : Int} (hc : lk q.2.2.2.2.2 pc = some .lor) (h : Pl f lay d q (pc + 1) L (jw (lorF x y) :: st) S Q) : Pl f lay d q pc L (jw y :: jw x :: st) S Q := by sorry
theorem y_lshlF {x y : Int} (hc : lk q.2.2.2.2.2 pc = some .lshl) (h : Pl f lay d q (pc + 1) L (jw (lshlF x y) :: st) S Q) : Pl f lay d q pc L (iv y :: jw x :: st) S Q := by sorry
theorem y_lshrF {x y : Int} (hc : lk q.2.2.2.2.2 pc = some .lshr) (h : Pl f lay d q (pc + 1) L (jw (lshrF x y) :: st) S Q) : Pl f lay d q pc L (iv y :: jw x :: st) S Q := by sorry
theorem y_ishr8 {x : Int} (hc : lk q.2.2.2.2.2 pc = some .ishr) (hx : rg x) (h : Pl f lay d q (pc + 1) L (iv (x / 256) :: st) S Q) : Pl f lay d q pc L (iv 8 :: iv x :: st) S Q := by sorry
theorem y_iand255 {x : Int} (hc : lk q.2.2.2.2.2 pc = some .iand) (hx : rg x) (h : Pl f lay d q (pc + 1) L (iv (x % 256) :: st) S Q) : Pl f lay d q pc L (iv 255 :: iv x :: st) S Q := by sorry
theorem y_tsw {x df lo hi : Int} {offs : Array Int} {t0 : Nat} {ts : List Nat} (hc : lk q.2.2.2.2.2 pc = some (.tableswitch df lo hi offs)) (h0 : jm pc df = some t0) (ht : tgs pc offs.toList = some ts) (hn : (hi - lo + 1).toNat = offs.toList.length) (hx : rg x) (h1 : (x < lo ∨ hi < x) → Pl f lay d q t0 L st S Q) (h2 : ∀ (i : Nat) (t : Nat), ts[i]? = some t → x = lo + i → Pl f lay d q t L st S Q) : Pl f lay d q pc L (iv x :: st) S Q := by sorry
theorem y_idivA {x y : Int} (hc : lk q.2.2.2.2.2 pc = some .idiv) (h1 : 0 < y) (hx : rg x) (hy : rg y) (h : ∀ c : Int, (-2147483648 ≤ c ∧ c ≤ 2147483647) → (0 ≤ x → c = x / y) → (x < 0 → x ≤ c ∧ c ≤ 0) → Pl f lay d q (pc + 1) L (iv c :: st) S Q) : Pl f lay d q pc L (iv y :: iv x :: st) S Q := by sorry
theorem y_idivP {x y : Int} (hc : lk q.2.2.2.2.2 pc = some .idiv) (h0 : 0 ≤ x) (h1 : 0 < y) (hx : rg x) (hy : rg y) (h : Pl f lay d q (pc + 1) L (iv (x / y) :: st) S Q) : Pl f lay d q pc L (iv y :: iv x :: st) S Q := by sorry
theorem y_iremA {x y : Int} (hc : lk q.2.2.2.2.2 pc = some .irem) (h1 : 0 < y) (hx : rg x) (hy : rg y) (h : ∀ c : Int, (-2147483648 ≤ c ∧ c ≤ 2147483647) → (0 ≤ x → c = x % y) → True → Pl f lay d q (pc + 1) L (iv c :: st) S Q) : Pl f lay d q pc L (iv y :: iv x :: st) S Q := by sorry
theorem y_iremP {x y : Int} (hc : lk q.2.2.2.2.2 pc = some .irem) (h0 : 0 ≤ x) (h1 : 0 < y) (hx : rg x) (hy : rg y) (h : Pl f lay d q (pc + 1) L (iv (x % y) :: st) S Q) : Pl f lay d q pc L (iv y :: iv x :: st) S Q := by sorry
theorem y_lsw {f : Nat} {lay : Nat → Nat × Nat} {d pc : Nat} {q : mT} {L : List (Nat × Value)} {st : List Value} {S : sS} {Q : pst} {x df : Int} {ps : Array (Int × Int)} (hc : lk q.2.2.2.2.2 pc = some (.lookupswitch df ps)) (hs : (ps.toList.zip (ps.toList.drop 1)).all (fun (a, next) => a.1 < next.1) = true) (hx : rg x) (h : lsG pc df x (fun t => Pl f lay d q t L st S Q) ps.toList) : Pl f lay d q pc L (iv x :: st) S Q := by sorry
theorem y_ldcR {f : Nat} {lay : Nat → Nat × Nat} {d pc : Nat} {q : mT} {L : List (Nat × Value)} {st : List Value} {S : sS} {Q : pst} {ix i : Nat} (hc : lk q.2.2.2.2.2 pc = some (.ldc ix)) (hz : cLs q.2.2.2.2.1 ix = some (.ref (SB + i))) (h : Pl f lay d q (pc + 2) L (.ref (SB + i) :: st) S Q) : Pl f lay d q pc L st S Q := by sorry
theorem y_ldcwR {f : Nat} {lay : Nat → Nat × Nat} {d pc : Nat} {q : mT} {L : List (Nat × Value)} {st : List Value} {S : sS} {Q : pst} {ix i : Nat} (hc : lk q.2.2.2.2.2 pc = some (.ldc_w ix)) (hz : cLs q.2.2.2.2.1 ix = some (.ref (SB + i))) (h : Pl f lay d q (pc + 3) L (.ref (SB + i) :: st) S Q) : Pl f lay d q pc L st S Q := by sorry
theorem y_max {ix na : Nat} {md : mT} {x y : Int} (hc : lk q.2.2.2.2.2 pc = some (.invokestatic ix)) (hk : kLs q.2.2.2.2.1 ix = some (10, md, na)) (hs : Nat.ble (st.map (fun v => v.category)).sum 8 = true) (hx : rg x) (hy : rg y) (h : Pl f lay d q (pc + 3) L (iv (if x < y then y else x) :: st) S Q) : Pl f lay d q pc L (iv y :: iv x :: st) S Q := by sorry
theorem y_min {ix na : Nat} {md : mT} {x y : Int} (hc : lk q.2.2.2.2.2 pc = some (.invokestatic ix)) (hk : kLs q.2.2.2.2.1 ix = some (11, md, na)) (hs : Nat.ble (st.map (fun v => v.category)).sum 8 = true) (hx : rg x) (hy : rg y) (h : Pl f lay d q (pc + 3) L (iv (if y < x then y else x) :: st) S Q) : Pl f lay d q pc L (iv y :: iv x :: st) S Q := by sorry
/-- rows: that the place is within them is given -/
theorem y_ialoadP {k n : Nat} {x : Int} (hc : lk q.2.2.2.2.2 pc = some .iaload) (hl : lay k = (1, n)) (hx : rg x) (h : 0 ≤ x → x < n → Pl f lay d q (pc + 1) L (iv (Xi S k x.toNat) :: st) S Q) : Pl f lay d q pc L (iv x :: .ref k :: st) S Q := by sorry
theorem y_laloadP {k n : Nat} {x : Int} (hc : lk q.2.2.2.2.2 pc = some .laload) (hl : lay k = (2, n)) (hx : rg x) (h : 0 ≤ x → x < n → Pl f lay d q (pc + 1) L (jw (Xj S k x.toNat) :: st) S Q) : Pl f lay d q pc L (iv x :: .ref k :: st) S Q := by sorry
theorem y_baloadP {k n t : Nat} {x : Int} (hc : lk q.2.2.2.2.2 pc = some .baload) (hv : Nat.ble SV k = false) (hl : lay k = (t, n)) (ht : t = 3 ∨ t = 4) (hx : rg x) (h : 0 ≤ x → x < n → Pl f lay d q (pc + 1) L (iv (Xi S k x.toNat) :: st) S Q) : Pl f lay d q pc L (iv x :: .ref k :: st) S Q := by sorry
theorem y_iastoreP {k n : Nat} {x v : Int} (hc : lk q.2.2.2.2.2 pc = some .iastore) (hl : lay k = (1, n)) (hx : rg x) (h : 0 ≤ x → x < n → Pl f lay d q (pc + 1) L st (uI S k x.toNat (Int32.ofInt v)) Q) : Pl f lay d q pc L (iv v :: iv x :: .ref k :: st) S Q := by sorry
theorem y_lastoreP {k n : Nat} {x v : Int} (hc : lk q.2.2.2.2.2 pc = some .lastore) (hl : lay k = (2, n)) (hx : rg x) (h : 0 ≤ x → x < n → Pl f lay d q (pc + 1) L st (uJ S k x.toNat (Int64.ofInt v)) Q) : Pl f lay d q pc L (jw v :: iv x :: .ref k :: st) S Q := by sorry
theorem y_bastoreZP {k n : Nat} {x v : Int} (hc : lk q.2.2.2.2.2 pc = some .bastore) (hl : lay k = (4, n)) (hx : rg x) (hv : 0 ≤ v ∧ v ≤ 1) (h : 0 ≤ x → x < n → Pl f lay d q (pc + 1) L st (uI S k x.toNat (Int32.ofInt v)) Q) : Pl f lay d q pc L (iv v :: iv x :: .ref k :: st) S Q := by sorry
end PART


/-! RUNS in their order; the reference's reading, partial rows -/
def nfF (T : Int → Int) : Nat → Int → Int
  | 0, _ => -1
  | n + 1, a => if T a = 100 then a else nfF T n (a + 1)
/-- the first FREE word from a on -/
def nf7 (T : Int → Int) (a : Int) : Int := nfF T (5200 - a).toNat a
theorem nf_n {T : Int → Int} {a : Int} (h : T a ≠ 100) : nf7 T (a + 1) = nf7 T a := by sorry
theorem nf_y {T : Int → Int} {a : Int} (h : T a = 100) (h0 : a < 5200) : nf7 T a = a := by sorry
/-- where the k-th RUN begins -/
def kr7 (T : Int → Int) : Nat → Int
  | 0 => nf7 T 0
  | k + 1 => nf7 T (re7 T (kr7 T k))
def JR (S : sS) (f m : Nat) : Prop := Xi S 904 65 = 0 → ((f : Int) ≤ Xi S 904 8 ∧ Xi S 904 8 ≤ f + m) ∧ (Xi S 904 93 = 0 → kr7 (tR S f m) (Xi S 904 69).toNat = nf7 (tR S f m) (Xi S 904 8 - f) ∧ ∀ k : Nat, (k : Int) < Xi S 904 69 → Xi S 950 k - f = kr7 (tR S f m) k ∧ Xi S 951 k = re7 (tR S f m) (kr7 (tR S f m) k) - kr7 (tR S f m) k)
theorem JR.i {S : sS} {f m : Nat} (h : JR S f m) : INR S f m := by sorry
theorem jr_bad {S : sS} {f m : Nat} (b : Xi S 904 65 ≠ 0) : JR S f m := by sorry
theorem jr_tc {S : sS} {f m : Nat} (i : INR S f m) (c : Xi S 904 93 ≠ 0) : JR S f m := by sorry
theorem jr_eq {S U : sS} {f m : Nat} (h : JR S f m) (x8 : Xi U 904 8 = Xi S 904 8) (x65 : Xi U 904 65 = Xi S 904 65) (x69 : Xi U 904 69 = Xi S 904 69) (x93 : Xi U 904 93 = Xi S 904 93) (hT : tR U f m = tR S f m) (k1 : ∀ j, Xi U 950 j = Xi S 950 j) (k2 : ∀ j, Xi U 951 j = Xi S 951 j) : JR U f m := by sorry
theorem JR_FR {l : List rec} {S T : sS} {f m : Nat} (h : FR l S T) (e : mD l [8, 65, 69, 93] = true) (e1 : kdis l [(907, 908)] = true) (e2 : kdis l [(950, 952)] = true) (hJ : JR S f m) : JR T f m := by sorry
theorem jr_up {S U : sS} {f m : Nat} {v : Int} (h : JR S f m) (hv : VLR S f m) (e : U = uI S 904 8 (Int32.ofInt v)) (hx : v = Xi S 904 8 + 1) (t : Xi S 904 65 = 0 → tR S f m (Xi S 904 8 - f) ≠ 100 ∧ tR S f m (Xi S 904 8 - f) ≠ 103 ∧ tR S f m (Xi S 904 8 - f) ≠ 107) : JR U f m := by sorry
theorem jr_up2 {S U : sS} {f m : Nat} {v : Int} (h : JR S f m) (hv : VLR S f m) (e : U = uI S 904 8 (Int32.ofInt v)) (hx : v = Xi S 904 8 + 2) (t : Xi S 904 65 = 0 → tR S f m (Xi S 904 8 - f) ≠ 100 ∧ tR S f m (Xi S 904 8 - f) ≠ 103 ∧ tR S f m (Xi S 904 8 - f) ≠ 107) (t2 : Xi S 904 65 = 0 → tR S f m (Xi S 904 8 - f + 1) ≠ 100 ∧ tR S f m (Xi S 904 8 - f + 1) ≠ 103 ∧ tR S f m (Xi S 904 8 - f + 1) ≠ 107) : JR U f m := by sorry
theorem jr_same {S U : sS} {f m : Nat} {v : Int} (h : JR S f m) (e : U = uI S 904 8 (Int32.ofInt v)) (hx : v = Xi S 904 8) : JR U f m := by sorry
theorem jr_run {S U : sS} {f m : Nat} (h : JR S f m) (hv : VLR S f m) (b : Xi S 904 65 = 0) (ht : tR S f m (Xi S 904 8 - f) = 100) (x8 : Xi U 904 8 - f = re7 (tR S f m) (Xi S 904 8 - f)) (l8 : (f : Int) ≤ Xi U 904 8 ∧ Xi U 904 8 ≤ f + m) (h69 : 0 ≤ Xi S 904 69) (x69 : Xi U 904 69 = Xi S 904 69 + 1) (x93 : Xi U 904 93 = Xi S 904 93) (hT : tR U f m = tR S f m) (r1 : Xi U 950 (Xi S 904 69).toNat = Xi S 904 8) (r2 : Xi U 951 (Xi S 904 69).toNat = Xi U 904 8 - Xi S 904 8) (kn : ∀ r : Nat, (r : Int) < Xi S 904 69 → Xi U 950 r = Xi S 950 r ∧ Xi U 951 r = Xi S 951 r) : JR U f m := by sorry
theorem gBt_c {T : Int → Int} {a b : Int} (h : T a = 104) (hb : b = if T (a + 1) = 16 then a + 2 else a + 1) : gBt T a = (1, b) := by sorry
theorem gBt_a {T : Int → Int} {a : Int} (h : T a ≠ 104) (h1 : T a = 16) : gBt T a = (1, a + 1) := by sorry
theorem gBt_0 {T : Int → Int} {a : Int} (h : T a ≠ 104) (h1 : T a ≠ 16) : gBt T a = (0, a) := by sorry
/-! the reference's reading as functions of the kinds of tokens -/
theorem two_or {x : Int × Int} (h : x.1 = 0) : x = (0, x.2) := by sorry
theorem gSq_0 {x : Int × Int} {f : Int → Int × Int} (h : x.1 = 0) : gSq x f = x := by sorry
theorem gSq_1 {x : Int × Int} {f : Int → Int × Int} (h : x.1 ≠ 0) : gSq x f = f x.2 := by sorry
theorem gSq_c {x : Int × Int} {f g : Int → Int × Int} (h : x.1 ≠ 0 → f x.2 = g x.2) : gSq x f = gSq x g := by sorry
theorem gSq_as {x : Int × Int} {f g : Int → Int × Int} : gSq (gSq x f) g = gSq x (fun a => gSq (f a) g) := by sorry
theorem cu_cg {S : sS} {f : Nat} {g h : Int → Int × Int} {c : Int × Int} (e : gSq (cu S f) g = c) (k : Xi S 904 65 = 0 → h (Xi S 904 8 - f) = g (Xi S 904 8 - f)) : gSq (cu S f) h = c := by sorry
/-- from a state that isn't bad -/
theorem cu_go {S : sS} {f : Nat} {g : Int → Int × Int} {c : Int × Int} {a : Int} (e : gSq (cu S f) g = c) (b : Xi S 904 65 = 0) (ha : Xi S 904 8 - f = a) : g a = c := by sorry
theorem cu_og {S : sS} {f : Nat} {g : Int → Int × Int} {c : Int × Int} (b : Xi S 904 65 = 0) (e : g (Xi S 904 8 - f) = c) : gSq (cu S f) g = c := by sorry
def pw7 (t : Int) : Int := if t = 8 then 1 else if t = 9 then 2 else if t = 29 then 3 else if t = 30 then 4 else if t = 31 then 5 else 0
theorem pw_i {z t : Int} (h : (z = 1 ∧ t = 8) ∨ (z = 2 ∧ t = 9) ∨ (z = 3 ∧ t = 29) ∨ (z = 4 ∧ t = 30) ∨ (z = 5 ∧ t = 31)) : z = pw7 t := by sorry
def gPc (T : Int → Int) (a : Int) : Int × Int := if T a = 8 ∨ T a = 9 then (1, a + 1) else if T a = 29 then gT T 7 (a + 1) else if T a = 30 ∨ T a = 31 then gT T 10 (a + 1) else (0, a)
theorem gPc_0 {T : Int → Int} {a : Int} (h : T a ≠ 8 ∧ T a ≠ 9 ∧ T a ≠ 29 ∧ T a ≠ 30 ∧ T a ≠ 31) : gPc T a = (0, a) := by sorry
theorem gPc_1 {T : Int → Int} {a : Int} (h : T a = 8 ∨ T a = 9) : gPc T a = (1, a + 1) := by sorry
theorem gPc_2 {T : Int → Int} {a : Int} (h : T a = 29) : gPc T a = gT T 7 (a + 1) := by sorry
theorem gPc_3 {T : Int → Int} {a : Int} (h : T a = 30 ∨ T a = 31) : gPc T a = gT T 10 (a + 1) := by sorry
theorem gWh_1 {T : Int → Int} {a : Int} (h : T a = 101 ∨ T a = 102) : gWh T a = (1, a + 1) := by sorry
theorem gWh_r {T : Int → Int} {a : Int} (h : T a ≠ 101) (h2 : T a ≠ 102) : gWh T a = gR T a := by sorry
theorem gTh_1 {T : Int → Int} {a : Int} (h : T a = 54 ∨ T a = 53) : gTh T a = (1, a + 1) := by sorry
theorem gTh_2 {T : Int → Int} {a : Int} (h : T a = 2) (h2 : T (a + 1) = 53) : gTh T a = (1, a + 2) := by sorry
theorem gTh_n {T : Int → Int} {a : Int} (h : T a ≠ 54) (h2 : T a ≠ 53) (h3 : T a = 2 → T (a + 1) ≠ 53) : gTh T a = gN T a := by sorry
def gPy (T : Int → Int) (a : Int) : Int × Int := gSq (gSq (gT T 2 a) (gR T)) (gT T 7)
theorem gPy_e {T : Int → Int} {x : Int × Int} : gSq x (gPy T) = gSq (gSq (gSq x (gT T 2)) (gR T)) (gT T 7) := by sorry
/-- what stands behind is, in a TEST of a property -/
def gTw (T : Int → Int) (now b : Int) : Int × Int := if now ≠ 0 then gWh T b else if T b = 51 ∨ T b = 52 then gSq (gT T 50 (b + 1)) (gT T 101) else if T b = 6 then gWh T (b + 1) else gWh T b
theorem gTw_e {T : Int → Int} {now b : Int} : (if now ≠ 0 then gWh T b else if (gOr (gT T 51 b) (gT T 52)).1 = 0 then gWh T (gT T 6 (gOr (gT T 51 b) (gT T 52)).2).2 else gSq (gT T 50 (gOr (gT T 51 b) (gT T 52)).2) (gT T 101)) = gTw T now b := by sorry
def gEt (T : Int → Int) (now b : Int) : Int × Int := if et7 now (T b) then (1, b) else (0, b)
/-- a TEST of the other form -/
def gTo (T : Int → Int) (now b : Int) : Int × Int := if T b = 100 then gR T b else if now ≠ 0 then (0, b) else gSq (gPc T b) (gTh T)
def gTn (T : Int → Int) (b : Int) : Int := if T b = 6 then b + 1 else b
def gTm (T : Int → Int) (now a : Int) : Int × Int := if fo7 T 4 a (te8 T now a) = -1 then gLo T 54 53 a else if bp7 T a then gSq (gSq (gSq (gPy T a) (gTh T)) (gT T 4)) (gTw T now) else gSq (gSq (gSq (gTh T a) (gT T 4)) (fun b => (1, gTn T b))) (gTo T now)
def gTtR (T : Int → Int) (now a : Int) : Int × Int := gSq (gTm T now a) (gEt T now)
def gTsn7 (T : Int → Int) : Nat → Int → Int × Int
  | 0, a => (1, a)
  | n + 1, a => if T a = 16 then gSq (gTtR T 0 (a + 1)) (gTsn7 T n) else (1, a)
def gTsR (T : Int → Int) (a : Int) : Int × Int := gSq (gTtR T 0 a) (gTsn7 T 5200)
/-- a PHRASE -/
def gPhR (T : Int → Int) (a : Int) : Int × Int := if T a = 43 then gT T 102 (a + 1) else if T a = 44 then gTtR T 1 (a + 1) else if T a = 45 then gSq (gSq (gTh T (a + 1)) (gT T 11)) (gTh T) else if T a = 46 ∨ T a = 47 then gSq (gSq (gSq (gPy T (a + 1)) (gTh T)) (gT T 10)) (gT T 101) else if T a = 49 then gSq (gR T (a + 1)) (fun b => if th7 (T b) then gTh T b else (1, b)) else if T a = 48 then (1, a + 1) else (0, a)
def gEp (T : Int → Int) (b : Int) : Int × Int := if T b = 105 ∨ T b = 103 then (1, b) else (0, b)
def gP1R (T : Int → Int) (a : Int) : Int × Int := gSq (gPhR T a) (gEp T)
def gPsn7 (T : Int → Int) : Nat → Int → Int × Int
  | 0, a => (1, a)
  | n + 1, a => if T a = 105 then gSq (gP1R T (a + 1)) (gPsn7 T n) else (1, a)
def gPsR (T : Int → Int) (a : Int) : Int × Int := gSq (gP1R T a) (gPsn7 T 5200)
/-- rules, from the keyword on -/
def gAcR (T : Int → Int) (a : Int) : Int × Int := gSq (gR T a) (fun b => if art7 (T b) then gR T (b + 1) else (1, b))
def gWe (T : Int → Int) (b : Int) : Int × Int := if T b = 37 then gTsR T (b + 1) else (1, b)
def gRuR (T : Int → Int) (s : Int) : Int × Int := gSq (gSq (gSq (if s = 6 then gT T 42 1 else if s = 5 then gSq (gT T 7 1) (gAcR T) else gAcR T 1) (gWe T)) (gT T 106)) (gPsR T)
def gO1 (T : Int → Int) : Int × Int := gSq (gSq (gT T 102 1) (gT T 34)) (gR T)
def gO2 (T : Int → Int) : Int × Int := gSq (gSq (gSq (gSq (gSq (gSq (gT T 106 1) (gA T)) (gR T)) (gT T 4)) (gR T)) (gT T 36)) (gTsR T)
def gO7 (T : Int → Int) : Int × Int := gSq (gSq (gSq (gSq (gSq (gT T 11 2) (gR T)) (gT T 24)) (gT T 2)) (gR T)) (gT T 26)
def gO8 (T : Int → Int) : Int × Int := gSq (gSq (gSq (gT T 7 2) (gN T)) (gBe T)) (gR T)
def gO9 (T : Int → Int) : Int × Int := gSq (gSq (gSq (gSq (gR T 1) (gT T 7)) (gN T)) (gBe T)) (gWh T)
def gOo (T : Int → Int) (t : Int) : Int × Int := if t = 12 then gSq (gSq (gSq (gSq (gSq (gN T 0) (gT T 12)) (gA T)) (gR T)) (gT T 17)) (gR T)
  else if t = 13 then gSq (gSq (gSq (gSq (gSq (gN T 0) (gT T 13)) (gT T 14)) (gR T)) (gT T 15)) (gR T)
  else if t = 21 then gSq (gSq (gSq (gSq (gSq (gSq (gN T 0) (gT T 21)) (gHow T)) (gR T)) (gT T 11)) (gHow T)) (gR T)
  else gLo T 16 104 0
def gRe (T : Int → Int) (a : Int) : Int × Int := if T a = 0 ∧ T (a + 1) = 18 then (if T (a + 2) = 7 then (if T (a + 3) = 20 then (1, a + 4) else gN T (a + 3)) else (1, a + 2))
  else if T a = 1 ∧ T (a + 1) = 27 then (if T (a + 2) = 28 then gSq (gSq (gT T 11 (a + 3)) (gT T 22)) (gR T) else (1, a + 2))
  else if art7 (T a) then gSq (gR T (a + 1)) (fun b => if T b = 103 then (1, b) else gSq (gPc T b) (gN T))
  else if T a = 6 ∨ T a = 32 then gR T (a + 1)
  else if T a = 100 then gSq (gR T a) (fun b => if T b = 7 then gN T (b + 1) else if T b = 16 ∨ T b = 104 then gRn T 5200 b else (1, b))
  else gSq (gPc T a) (gN T)
def gLs2 (T : Int → Int) (m : Nat) (a : Int) : Int × Int := if (gN T a).1 = 0 then (0, (gN T a).2) else gLn T m (gN T a).2
def gCo (T : Int → Int) : Int × Int := if kt7 T = 4 ∨ kt7 T = 5 then (if bp7 T 0 then gO9 T else gSq (gSq (gLs2 T 5200 0) (gBe T)) (gRe T)) else gOo T (kt7 T)
def gSe (T : Int → Int) : Int × Int := if T 0 = 33 then gO1 T else if T 0 = 35 then gO2 T else if T 0 = 38 then gRuR T 3 else if T 0 = 40 then gRuR T 4 else if T 0 = 39 then gRuR T 5 else if T 0 = 41 then gRuR T 6 else if T 0 = 2 ∧ T 1 = 25 then gO7 T else if T 0 = 2 ∧ T 1 = 19 then gO8 T else gCo T

/-! loops of the reference's reading -/
theorem gN_lt {T : Int → Int} {a b : Int} (h : gN T a = (1, b)) : a < b := by sorry
theorem gBt_lt {T : Int → Int} {a b : Int} (h : gBt T a = (1, b)) : a < b := by sorry
theorem one0 : ¬ (1 : Int) = 0 := by sorry
/-- fuel that is left in a LIST -/
def EXM (X : Int × Int) (T : Int → Int) (N a : Int) : Prop := ∃ m : Nat, N - a < m ∧ X = gLs2 T m a
theorem ls_0' {S U : sS} {f : Nat} {N : Int} {T : Int → Int} (x8 : Xi U 904 8 = Xi S 904 8) (x65 : Xi U 904 65 = Xi S 904 65) (x66 : Xi U 904 66 = Xi S 904 66) (h : Xi S 904 65 = 0 → N - (Xi S 904 8 - f) < 5200) : ((1 : Int) ≠ 0 → Xi U 904 65 = 0 → ∃ m : Nat, N - (Xi U 904 8 - f) < m ∧ gSq (cu S f) (gLs2 T 5200) = gLs2 T m (Xi U 904 8 - f)) ∧ (((1 : Int) = 0 ∨ Xi U 904 65 ≠ 0) → gSq (cu S f) (gLs2 T 5200) = cu U f) := by sorry
theorem ls_0 {S U : sS} {f : Nat} {N : Int} {T : Int → Int} (x8 : Xi U 904 8 = Xi S 904 8) (x65 : Xi U 904 65 = Xi S 904 65) (x66 : Xi U 904 66 = Xi S 904 66) (h : Xi S 904 65 = 0 → N - (Xi S 904 8 - f) < 5200) : ((1 : Int) ≠ 0 → Xi U 904 65 = 0 → EXM (gSq (cu S f) (gLs2 T 5200)) T N (Xi U 904 8 - f)) ∧ (((1 : Int) = 0 ∨ Xi U 904 65 ≠ 0) → gSq (cu S f) (gLs2 T 5200) = cu U f) := by sorry
theorem ls_s {T : Int → Int} {X : Int × Int} {N a z : Int} {V W : sS} {f : Nat} (h : EXM X T N a) (hN : a ≤ N) (g1 : gN T a = cu V f) (g2 : Xi V 904 65 = 0 → gBt T (Xi V 904 8 - f) = (z, Xi W 904 8 - f)) (kb : Xi W 904 65 = Xi V 904 65) (cb : Xi V 904 65 ≠ 0 → z = 0 ∧ cu W f = cu V f) (hz : z = 0 ∨ z = 1) : (z ≠ 0 → Xi W 904 65 = 0 → EXM X T N (Xi W 904 8 - f)) ∧ ((z = 0 ∨ Xi W 904 65 ≠ 0) → X = cu W f) := by sorry
theorem gRn_s {T : Int → Int} {k : Nat} {a : Int} : gRn T (k + 1) a = if (gBt T a).1 = 0 then (1, (gBt T a).2) else gSq (gR T (gBt T a).2) (gRn T k) := by sorry
/-- fuel that is left -/
def FUL (X : Int × Int) (l : Nat → Int → Int × Int) (N : Int) (S : sS) (f : Nat) : Prop := ∃ m : Nat, (Xi S 904 65 = 0 → N - (Xi S 904 8 - f) < m) ∧ X = gSq (cu S f) (l m)
theorem FU_0 {X : Int × Int} {l : Nat → Int → Int × Int} {N : Int} {S : sS} {f : Nat} (h : X = gSq (cu S f) (l 5200)) (hN : Xi S 904 65 = 0 → N - (Xi S 904 8 - f) < 5200) : FUL X l N S f := by sorry
theorem FU_b {X : Int × Int} {l : Nat → Int → Int × Int} {N : Int} {S : sS} {f : Nat} (h : FUL X l N S f) (b : Xi S 904 65 ≠ 0) : X = cu S f := by sorry
theorem FU_e {X : Int × Int} {l : Nat → Int → Int × Int} {N : Int} {S : sS} {f : Nat} (h : FUL X l N S f) (hN : Xi S 904 65 = 0 → Xi S 904 8 - f ≤ N) (hl : Xi S 904 65 = 0 → ∀ k, l (k + 1) (Xi S 904 8 - f) = (1, Xi S 904 8 - f)) : X = cu S f := by sorry
theorem FU_s {X : Int × Int} {l : Nat → Int → Int × Int} {N : Int} {S U : sS} {f : Nat} (h : FUL X l N S f) (b : Xi S 904 65 = 0) (hN : Xi S 904 8 - f ≤ N) (hl : ∀ k, l (k + 1) (Xi S 904 8 - f) = gSq (cu U f) (l k)) (hu : Xi U 904 65 = 0 → Xi S 904 8 < Xi U 904 8) : FUL X l N U f := by sorry
/-- whether an is stands there -/
theorem fo_no {T : Int → Int} {k b : Int} : ∀ (n : Nat) (a : Int), (∀ j, a ≤ j → j < a + n → T j ≠ k) → fo7F T k b n a = -1 := by sorry
theorem fo_yes {T : Int → Int} {k b : Int} : ∀ (n : Nat) (a : Int), 0 ≤ a → (∃ j, a ≤ j ∧ j < a + n ∧ T j = k) → fo7F T k b n a ≠ -1 := by sorry
def nIz (T : Int → Int) (a b : Int) : Prop := ∀ j, a ≤ j → j < b → T j ≠ 4
def yIs (T : Int → Int) (a b : Int) : Prop := ∃ j, a ≤ j ∧ j < b ∧ T j = 4
theorem nIs_0 {T : Int → Int} {a : Int} : nIz T a a := by sorry
theorem nIs_s {T : Int → Int} {a b : Int} (h : nIz T a b) (t : T b ≠ 4) : nIz T a (b + 1) := by sorry
theorem yIs_s {T : Int → Int} {a b : Int} (h : yIs T a b) : yIs T a (b + 1) := by sorry
theorem yIs_n {T : Int → Int} {a b : Int} (h : a ≤ b) (t : T b = 4) : yIs T a (b + 1) := by sorry
theorem nIs_f {T : Int → Int} {a e : Int} (h : nIz T a e) : fo7 T 4 a e = -1 := by sorry
theorem yIs_f {T : Int → Int} {a e : Int} (h0 : 0 ≤ a) (h : yIs T a e) : fo7 T 4 a e ≠ -1 := by sorry
theorem gTsn_1 {T : Int → Int} {k : Nat} {a : Int} (h : T a = 16) : gTsn7 T (k + 1) a = gSq (gTtR T 0 (a + 1)) (gTsn7 T k) := by sorry
theorem gTsn_0 {T : Int → Int} {k : Nat} {a : Int} (h : T a ≠ 16) : gTsn7 T (k + 1) a = (1, a) := by sorry
theorem gPsn_1 {T : Int → Int} {k : Nat} {a : Int} (h : T a = 105) : gPsn7 T (k + 1) a = gSq (gP1R T (a + 1)) (gPsn7 T k) := by sorry
theorem gPsn_0 {T : Int → Int} {k : Nat} {a : Int} (h : T a ≠ 105) : gPsn7 T (k + 1) a = (1, a) := by sorry
/-- the ends of a test -/
theorem gE_1 {T : Int → Int} {now b : Int} (h : et7 now (T b)) : gEt T now b = (1, b) := by sorry
theorem gE_0 {T : Int → Int} {now b : Int} (h : ¬ et7 now (T b)) : gEt T now b = (0, b) := by sorry
theorem et_of {S : sS} {f m : Nat} {a z now : Int} (h : VLR S f m) (h0 : (f : Int) ≤ a) (h1 : a ≤ f + m) (hz : Xi S 907 a.toNat = z) : (et7 now (tR S f m (a - f)) → (z = 46 ∨ z = 59 ∨ z = 1 ∨ (now = 0 ∧ (z = 116 ∨ z = 58)))) ∧ ((z = 46 ∨ z = 59 ∨ z = 1 ∨ (now = 0 ∧ (z = 116 ∨ z = 58))) → et7 now (tR S f m (a - f))) := by sorry
theorem gSq3 {x : Int × Int} {f g h : Int → Int × Int} : gSq (gSq (gSq x f) g) h = gSq x (fun a => gSq (gSq (f a) g) h) := by sorry
theorem gSq4 {x : Int × Int} {f g h k : Int → Int × Int} : gSq (gSq (gSq (gSq x f) g) h) k = gSq x (fun a => gSq (gSq (gSq (f a) g) h) k) := by sorry
theorem cu_nt {V U : sS} {f : Nat} {T : Int → Int} (b : Xi U 904 65 = Xi V 904 65) (c : Xi U 904 66 = Xi V 904 66) (h : Xi V 904 65 = 0 → Xi U 904 8 - f = gTn T (Xi V 904 8 - f)) : gSq (cu V f) (fun b => (1, gTn T b)) = cu U f := by sorry
theorem gTo_r {T : Int → Int} {now b : Int} (h : T b = 100) : gTo T now b = gR T b := by sorry
theorem gTo_o {T : Int → Int} {now b : Int} (h : T b ≠ 100) (hn : now ≠ 0) : gTo T now b = (0, b) := by sorry
theorem gTo_p {T : Int → Int} {now b : Int} (h : T b ≠ 100) (hn : now = 0) : gTo T now b = gSq (gPc T b) (gTh T) := by sorry
theorem gTm_s {T : Int → Int} {now a : Int} (h : fo7 T 4 a (te8 T now a) = -1) : gTm T now a = gLo T 54 53 a := by sorry
theorem gTm_p {T : Int → Int} {now a : Int} (h : fo7 T 4 a (te8 T now a) ≠ -1) (hb : bp7 T a) : gTm T now a = gSq (gSq (gSq (gPy T a) (gTh T)) (gT T 4)) (gTw T now) := by sorry
theorem gTm_o {T : Int → Int} {now a : Int} (h : fo7 T 4 a (te8 T now a) ≠ -1) (hb : ¬ bp7 T a) : gTm T now a = gSq (gSq (gSq (gTh T a) (gT T 4)) (fun b => (1, gTn T b))) (gTo T now) := by sorry
theorem gTw_n {T : Int → Int} {now b : Int} (h : now ≠ 0) : gTw T now b = gWh T b := by sorry
theorem gTw_l {T : Int → Int} {now b : Int} (h : now = 0) (hb : T b = 51 ∨ T b = 52) : gTw T now b = gSq (gT T 50 (b + 1)) (gT T 101) := by sorry
theorem gTw_w {T : Int → Int} {now b : Int} (h : now = 0) (hb : T b ≠ 51) (hc : T b ≠ 52) : gTw T now b = gWh T (gTn T b) := by sorry
theorem cu_ch {x y z : Int × Int} {f g : Int → Int × Int} (h1 : gSq x f = y) (h2 : gSq y g = z) : gSq x (fun a => gSq (f a) g) = z := by sorry
theorem un_a4 (z : Int) : (100 ≤ z → un7 z = z - 100) ∧ (z < 100 → 100 ≤ un7 z) ∧ (z = 3 → un7 z = 100) ∧ (z ≠ 3 → z = tr7 (un7 z) → un7 z ≠ 100) := by sorry
theorem cu_eqb {S T : sS} {f : Nat} (h1 : Xi T 904 65 = Xi S 904 65) (h2 : Xi S 904 65 = 0 → Xi T 904 8 = Xi S 904 8) (h3 : Xi T 904 66 = Xi S 904 66) : cu T f = cu S f := by sorry
theorem gPh_s {T : Int → Int} {a : Int} (h : T a = 43) : gPhR T a = gT T 102 (a + 1) := by sorry
theorem gPh_n {T : Int → Int} {a : Int} (h : T a = 44) : gPhR T a = gTtR T 1 (a + 1) := by sorry
theorem gPh_m {T : Int → Int} {a : Int} (h : T a = 45) : gPhR T a = gSq (gSq (gTh T (a + 1)) (gT T 11)) (gTh T) := by sorry
theorem gPh_i {T : Int → Int} {a : Int} (h : T a = 46 ∨ T a = 47) : gPhR T a = gSq (gSq (gSq (gPy T (a + 1)) (gTh T)) (gT T 10)) (gT T 101) := by sorry
theorem gPh_t {T : Int → Int} {a : Int} (h : T a = 49) : gPhR T a = gSq (gR T (a + 1)) (fun b => if th7 (T b) then gTh T b else (1, b)) := by sorry
theorem gPh_z {T : Int → Int} {a : Int} (h : T a = 48) : gPhR T a = (1, a + 1) := by sorry
theorem gPh_0 {T : Int → Int} {a : Int} (h : T a ≠ 43 ∧ T a ≠ 44 ∧ T a ≠ 45 ∧ T a ≠ 46 ∧ T a ≠ 47 ∧ T a ≠ 48 ∧ T a ≠ 49) : gPhR T a = (0, a) := by sorry
theorem gEp_1 {T : Int → Int} {b : Int} (h : T b = 105 ∨ T b = 103) : gEp T b = (1, b) := by sorry
theorem gEp_0 {T : Int → Int} {b : Int} (h : ¬ (T b = 105 ∨ T b = 103)) : gEp T b = (0, b) := by sorry
/-- from V on, whatever V is -/
theorem cu_br {V U : sS} {f : Nat} {g : Int → Int × Int} (h : Xi V 904 65 = 0 → g (Xi V 904 8 - f) = cu U f) (h2 : Xi V 904 65 ≠ 0 → cu U f = cu V f) : gSq (cu V f) g = cu U f := by sorry
theorem cu_1 {U : sS} {f : Nat} {a : Int} (b : Xi U 904 65 = 0) (h : Xi U 904 8 - f = a) : (1, a) = cu U f := by sorry
theorem tkx_s {T : Int → Int} {p : Int} (h0 : 0 ≤ p) (h : p < 5131) (h1 : T p ≠ 103) (h2 : T p ≠ 107) (h3 : ¬ tl7 (T p)) : tkF T (5131 - p).toNat p = tkF T (5131 - (p + 1)).toNat (p + 1) := by sorry
theorem kt_1 {T : Int → Int} {p t : Int} (h : tk7 T = p) (hp : p ≠ -1) (ht : T p = t) : kt7 T = t := by sorry
theorem kt_0 {T : Int → Int} (h : tk7 T = -1) : kt7 T = 107 := by sorry
theorem gOo_20 {T : Int → Int} {t : Int} (h : t ≠ 12) (h2 : t ≠ 13) (h3 : t ≠ 21) : gOo T t = gLo T 16 104 0 := by sorry
theorem JR_0 {S : sS} {f m : Nat} (h : Xi S 904 8 = f) (h69 : Xi S 904 69 = 0) : JR S f m := by sorry
theorem un_44 (z : Int) : (z = 44 → un7 z = 104) ∧ (z ≠ 44 → z = tr7 (un7 z) → un7 z ≠ 104) := by sorry
/-- what is kept of the part behind is or are -/
def RSR (S : sS) (T : Int → Int) (a r : Int) : Prop :=
  (T a = 0 ∧ T (a + 1) = 18 → Xi S 904 70 = 10 ∧ (T (a + 2) ≠ 7 → Xi S 904 78 = -1) ∧ (T (a + 2) = 7 → T (a + 3) = 20 → Xi S 904 78 = -2) ∧ (T (a + 2) = 7 → T (a + 3) ≠ 20 → Xi S 904 78 = r)) ∧
  (T a = 1 ∧ T (a + 1) = 27 → Xi S 904 70 = 11 ∧ (T (a + 2) ≠ 28 → Xi S 904 78 = -1) ∧ (T (a + 2) = 28 → Xi S 904 78 = r)) ∧
  (art7 (T a) → ¬ (T a = 0 ∧ T (a + 1) = 18) → ¬ (T a = 1 ∧ T (a + 1) = 27) → Xi S 904 70 = 12 ∧ Xi S 904 78 = r ∧ (T (re7 T (a + 1)) = 103 → Xi S 904 73 = 0) ∧ (T (re7 T (a + 1)) ≠ 103 → Xi S 904 73 = pw7 (T (re7 T (a + 1))) ∧ Xi S 904 74 = r + 1)) ∧
  (T a = 6 ∨ T a = 32 → Xi S 904 70 = 15 ∧ Xi S 904 78 = r ∧ (T a = 6 → Xi S 904 75 = 1 ∧ Xi S 904 76 = 0) ∧ (T a = 32 → Xi S 904 75 = 0 ∧ Xi S 904 76 = 1)) ∧
  (T a = 100 → Xi S 904 78 = r ∧ (T (re7 T a) = 7 → Xi S 904 70 = 14 ∧ Xi S 904 74 = r + 1) ∧ (T (re7 T a) = 16 ∨ T (re7 T a) = 104 → Xi S 904 70 = 16) ∧ (T (re7 T a) ≠ 7 → T (re7 T a) ≠ 16 → T (re7 T a) ≠ 104 → Xi S 904 70 = 15)) ∧
  (T a ≠ 100 → T a ≠ 6 → T a ≠ 32 → ¬ art7 (T a) → Xi S 904 70 = 13 ∧ Xi S 904 73 = pw7 (T a) ∧ Xi S 904 74 = r)
theorem gRe_10 {T : Int → Int} {a : Int} (h : T a = 0 ∧ T (a + 1) = 18) : gRe T a = (if T (a + 2) = 7 then (if T (a + 3) = 20 then (1, a + 4) else gN T (a + 3)) else (1, a + 2)) := by sorry
theorem gRe_11 {T : Int → Int} {a : Int} (h : T a = 1 ∧ T (a + 1) = 27) : gRe T a = (if T (a + 2) = 28 then gSq (gSq (gT T 11 (a + 3)) (gT T 22)) (gR T) else (1, a + 2)) := by sorry
theorem gRe_12 {T : Int → Int} {a : Int} (h1 : ¬ (T a = 0 ∧ T (a + 1) = 18)) (h2 : ¬ (T a = 1 ∧ T (a + 1) = 27)) (h : art7 (T a)) : gRe T a = gSq (gR T (a + 1)) (fun b => if T b = 103 then (1, b) else gSq (gPc T b) (gN T)) := by sorry
theorem gRe_15 {T : Int → Int} {a : Int} (h : T a = 6 ∨ T a = 32) : gRe T a = gR T (a + 1) := by sorry
theorem gRe_f {T : Int → Int} {a : Int} (h : T a = 100) : gRe T a = gSq (gR T a) (fun b => if T b = 7 then gN T (b + 1) else if T b = 16 ∨ T b = 104 then gRn T 5200 b else (1, b)) := by sorry
theorem gRe_13 {T : Int → Int} {a : Int} (h1 : T a ≠ 100) (h2 : T a ≠ 6) (h3 : T a ≠ 32) (h4 : ¬ art7 (T a)) : gRe T a = gSq (gPc T a) (gN T) := by sorry
theorem gRn_1 {T : Int → Int} {k : Nat} {a b : Int} (h : gBt T a = (1, b)) : gRn T (k + 1) a = gSq (gR T b) (gRn T k) := by sorry
theorem gRn_0 {T : Int → Int} {k : Nat} {a b : Int} (h : gBt T a = (0, b)) : gRn T (k + 1) a = (1, b) := by sorry
theorem cu_ch0 {x y z : Int × Int} {g : Int → Int × Int} (h1 : x = y) (h2 : gSq y g = z) : gSq x g = z := by sorry
theorem cu_f16 {V U : sS} {f : Nat} {T : Int → Int} {k : Nat} (x65 : Xi U 904 65 = Xi V 904 65) (x66 : Xi U 904 66 = Xi V 904 66) (x8 : Xi U 904 8 = Xi V 904 8) (h : Xi V 904 65 = 0 → T (Xi V 904 8 - f) ≠ 7) (h2 : Xi V 904 65 = 0 → T (Xi V 904 8 - f) = 16 ∨ T (Xi V 904 8 - f) = 104) : gSq (cu V f) (fun b => if T b = 7 then gN T (b + 1) else if T b = 16 ∨ T b = 104 then gRn T k b else (1, b)) = gSq (cu U f) (gRn T k) := by sorry
theorem tR_u {S : sS} {f m : Nat} {a z : Int} (h : VLR S f m) (h0 : (f : Int) ≤ a) (h1 : a ≤ f + m) (hz : Xi S 907 a.toNat = z) : tR S f m (a - f) = un7 z ∧ z = tr7 (un7 z) := by sorry
theorem un_5 (z : Int) : (z = 5 → un7 z = 102) ∧ (z ≠ 5 → z = tr7 (un7 z) → un7 z ≠ 102) := by sorry
/-- the RUNS that were kept are those of the sentence, in their order -/
def KRS (S : sS) (f m : Nat) : Prop := ∀ k : Nat, (k : Int) < Xi S 904 69 → Xi S 950 k - f = kr7 (tR S f m) k ∧ Xi S 951 k = re7 (tR S f m) (kr7 (tR S f m) k) - kr7 (tR S f m) k
theorem JR.ks {S : sS} {f m : Nat} (h : JR S f m) (b : Xi S 904 65 = 0) (c : Xi S 904 93 = 0) : KRS S f m := by sorry
theorem KRS_FR {l : List rec} {S T : sS} {f m : Nat} (h : FR l S T) (e : mD l [69] = true) (e1 : kdis l [(907, 908)] = true) (e2 : kdis l [(950, 952)] = true) (hK : KRS S f m) : KRS T f m := by sorry
theorem gSe_1 {T : Int → Int} (h : T 0 = 33) : gSe T = gO1 T := by sorry
theorem gSe_2 {T : Int → Int} (h : T 0 = 35) : gSe T = gO2 T := by sorry
theorem gSe_r {T : Int → Int} {s : Int} (h : (T 0 = 38 ∧ s = 3) ∨ (T 0 = 40 ∧ s = 4) ∨ (T 0 = 39 ∧ s = 5) ∨ (T 0 = 41 ∧ s = 6)) : gSe T = gRuR T s := by sorry
theorem gSe_7 {T : Int → Int} (h : T 0 = 2) (h1 : T 1 = 25) : gSe T = gO7 T := by sorry
theorem gSe_8 {T : Int → Int} (h : T 0 = 2) (h1 : T 1 = 19) : gSe T = gO8 T := by sorry
theorem gSe_c {T : Int → Int} (h : T 0 ≠ 33 ∧ T 0 ≠ 35 ∧ T 0 ≠ 38 ∧ T 0 ≠ 40 ∧ T 0 ≠ 39 ∧ T 0 ≠ 41) (h7 : ¬ (T 0 = 2 ∧ T 1 = 25)) (h8 : ¬ (T 0 = 2 ∧ T 1 = 19)) : gSe T = gCo T := by sorry
/-! class and reference read alike: the functions of both -/
/-- a function that doesn't go back -/
def MN (f : Int → Int × Int) : Prop := ∀ a, (f a).1 ≠ 0 → a ≤ (f a).2
theorem MN_sq {f g : Int → Int × Int} (hf : MN f) (hg : MN g) : MN (fun a => gSq (f a) g) := by sorry
theorem MN_T {T : Int → Int} {k : Int} : MN (gT T k) := by sorry
theorem re7_le {T : Int → Int} {a : Int} : a ≤ re7 T a := by sorry
theorem bA_le {T : Int → Int} {a : Int} : a ≤ bA T a := by sorry
theorem MN_R {T : Int → Int} : MN (gR T) := by sorry
theorem MN_N {T : Int → Int} : MN (gN T) := by sorry
theorem MN_or {f g : Int → Int × Int} (hf : ∀ a, a ≤ (f a).2) (hg : MN g) : MN (fun a => gOr (f a) g) := by sorry
theorem le_T {T : Int → Int} {k a : Int} : a ≤ (gT T k a).2 := by sorry
theorem le_or {f g : Int → Int × Int} (hf : ∀ a, a ≤ (f a).2) (hg : ∀ a, a ≤ (g a).2) (a : Int) : a ≤ (gOr (f a) g).2 := by sorry
theorem MN_Wh {T : Int → Int} : MN (gWh T) := by sorry
theorem MN_Th {T : Int → Int} : MN (gTh T) := by sorry
theorem MN_Pc {T : Int → Int} : MN (gPc T) := by sorry
theorem MN_Py {T : Int → Int} : MN (gPy T) := by sorry
theorem MN_Tn {T : Int → Int} : MN (fun b => (1, gTn T b)) := by sorry
theorem MN_Tw {T : Int → Int} {now : Int} : MN (gTw T now) := by sorry
theorem MN_To {T : Int → Int} {now : Int} : MN (gTo T now) := by sorry
theorem MN_Lo {T : Int → Int} {x y : Int} : MN (gLo T x y) := by sorry
theorem MN_Tm {T : Int → Int} {now : Int} : MN (gTm T now) := by sorry
theorem pl_g {T : Int → Int} {b : Int} {g : Int → Int × Int} (h : pl7 (T b)) : gSq (if T b = 29 then gT T 7 (b + 1) else if T b = 30 ∨ T b = 31 then gT T 10 (b + 1) else (1, b + 1)) g = gSq (gPc T b) g := by sorry
theorem gPl_0 {T : Int → Int} {b : Int} (h : pl7 (T b)) : gPl T 0 b = gSq (gPc T b) (gN T) := by sorry
theorem gPl_1 {T : Int → Int} {b : Int} (h : pl7 (T b)) : gPl T 1 b = gSq (gPc T b) (gTh T) := by sorry
theorem gTn_e {T : Int → Int} {b : Int} : (gT T 6 b).2 = gTn T b := by sorry
theorem bp_y {T : Int → Int} {a : Int} (h : bp7 T a) : gPy T a = (1, re7 T (a + 1) + 1) := by sorry
/-- a TEST -/
theorem gTm_e {T : Int → Int} {now a : Int} : gTm T now a = gTt T now a := by sorry
/-- TESTS, with what must come behind -/
theorem gT_f {T : Int → Int} {k b : Int} (h : T b ≠ k) : gSq (1, b) (gT T k) = (0, b) := by sorry
theorem te_sn {T : Int → Int} {k N : Int} (hk : k = 103 ∨ k = 106) (hT : ∀ i, N < i → T i = 107) : ∀ (m m2 : Nat) (a : Int), N - a < m → N - a < m2 → gSq (gTsn7 T m a) (gT T k) = gSq (gTsn T m2 a) (gT T k) := by sorry
theorem ts_e {T : Int → Int} {k N a : Int} (hk : k = 103 ∨ k = 106) (hT : ∀ i, N < i → T i = 107) (hN : N ≤ 5000) (ha : 1 ≤ a) : gSq (gTsR T a) (gT T k) = gSq (gTs T a) (gT T k) := by sorry
/-- PHRASES -/
theorem gPh_e {T : Int → Int} {a : Int} (h : T a ≠ 44) : gPhR T a = gPh T a := by sorry
theorem gP1_n {T : Int → Int} {a : Int} (h : T a = 44) : gP1 T a = gTt T 1 (a + 1) := by sorry
theorem gP1_o {T : Int → Int} {a : Int} (h : T a ≠ 44) : gP1 T a = gPhR T a := by sorry
theorem gP1R_e {T : Int → Int} {a : Int} : gP1R T a = gSq (gP1 T a) (gEp T) := by sorry
theorem MN_u {f : Int → Int × Int} (h : MN f) (a : Int) (q : (f (a + 1)).1 ≠ 0) : a ≤ (f (a + 1)).2 := by sorry
theorem MN_Ph {T : Int → Int} : MN (gPhR T) := by sorry
theorem MN_P1 {T : Int → Int} : MN (gP1 T) := by sorry
theorem ps_sn {T : Int → Int} {N : Int} (hT : ∀ i, N < i → T i = 107) : ∀ (m m2 : Nat) (a : Int), N - a < m → N - a < m2 → gSq (gPsn7 T m a) (gT T 103) = gSq (gPsn T m2 a) (gT T 103) := by sorry
theorem ps_e {T : Int → Int} {N a : Int} (hT : ∀ i, N < i → T i = 107) (hN : N ≤ 5000) (ha : 2 ≤ a) : gSq (gPsR T a) (gT T 103) = gSq (gPs T a) (gT T 103) := by sorry
theorem gBt_l1 {T : Int → Int} {a : Int} (h : (gBt T a).1 ≠ 0) : a < (gBt T a).2 := by sorry
/-- LISTS: fuel -/
theorem gLn_f {T : Int → Int} {N : Int} (hT : ∀ i, N < i → T i = 107) : ∀ (m m2 : Nat) (a : Int), N - a < m → N - a < m2 → gLn T m a = gLn T m2 a := by sorry
theorem gRn_f {T : Int → Int} {N : Int} (hT : ∀ i, N < i → T i = 107) : ∀ (m m2 : Nat) (a : Int), N - a < m → N - a < m2 → gRn T m a = gRn T m2 a := by sorry
/-- what stands behind is or are -/
theorem gRe_e {T : Int → Int} {N a : Int} (hT : ∀ i, N < i → T i = 107) (hN : N ≤ 5000) (ha : 1 ≤ a) : gSq (gRe T a) (gT T 103) = (if T a = 0 ∧ T (a + 1) = 18 then gSq (if (gT T 7 (a + 2)).1 = 0 then (1, (gT T 7 (a + 2)).2) else gOr (gT T 20 (gT T 7 (a + 2)).2) (gN T)) (gT T 103)
  else if T a = 1 ∧ T (a + 1) = 27 then gSq (if (gT T 28 (a + 2)).1 = 0 then (1, (gT T 28 (a + 2)).2) else gSq (gSq (gT T 11 (gT T 28 (a + 2)).2) (gT T 22)) (gR T)) (gT T 103)
  else if art7 (T a) then gSq (gSq (gR T (a + 1)) (fun b => if pl7 (T b) then gPl T 0 b else (1, b))) (gT T 103)
  else if pl7 (T a) then gSq (gPl T 0 a) (gT T 103)
  else ckR T (gOr (gT T 6 a) (gT T 32)).1 (gOr (gT T 6 a) (gT T 32)).2) := by sorry
theorem gN_l1 {T : Int → Int} {a : Int} (h : (gN T a).1 ≠ 0) : a < (gN T a).2 := by sorry
theorem gLn_l {T : Int → Int} : ∀ (m : Nat) (a : Int), (gLn T m a).1 ≠ 0 → a ≤ (gLn T m a).2 := by sorry
theorem gLs_e {T : Int → Int} {N : Int} (hT : ∀ i, N < i → T i = 107) (hN : N ≤ 5000) : gLs2 T 5200 0 = gLs T 0 := by sorry
theorem MN_Ls {T : Int → Int} {a : Int} (h : (gLs T a).1 ≠ 0) : a < (gLs T a).2 := by sorry
theorem MN_Be {T : Int → Int} : MN (gBe T) := by sorry
theorem ac_e {T : Int → Int} {a : Int} : gAcR T a = gAc T a := by sorry
theorem MN_Ac {T : Int → Int} : MN (gAc T) := by sorry
theorem gTs_l {T : Int → Int} : ∀ (m : Nat) (a : Int), (gTsn7 T m a).1 ≠ 0 → a ≤ (gTsn7 T m a).2 := by sorry
theorem MN_We {T : Int → Int} : MN (gWe T) := by sorry
theorem ru_l {T : Int → Int} {x : Int × Int} (hx : x.1 ≠ 0 → 1 ≤ x.2) (h : (gSq (gSq x (gWe T)) (gT T 106)).1 ≠ 0) : 2 ≤ (gSq (gSq x (gWe T)) (gT T 106)).2 := by sorry
theorem ru_e {T : Int → Int} {N : Int} {x : Int × Int} (hT : ∀ i, N < i → T i = 107) (hN : N ≤ 5000) (hx : x.1 ≠ 0 → 1 ≤ x.2) : gSq (gSq (gSq (gSq x (gWe T)) (gT T 106)) (gPsR T)) (gT T 103) = rul7 T x := by sorry
theorem MN_A {T : Int → Int} : MN (gA T) := by sorry
theorem o9_e {T : Int → Int} (b : bp7 T 0) : gO9 T = gSq (gSq (gN T (re7 T 1 + 1)) (gBe T)) (gWh T) := by sorry
theorem cb_e {T : Int → Int} {N : Int} (hT : ∀ i, N < i → T i = 107) (hN : N ≤ 5000) : gSq (if bp7 T 0 then gO9 T else gSq (gSq (gLs2 T 5200 0) (gBe T)) (gRe T)) (gT T 103) = ckB T := by sorry
theorem co_e {T : Int → Int} {N : Int} (hT : ∀ i, N < i → T i = 107) (hN : N ≤ 5000) (h7 : ¬ (T 0 = 2 ∧ T 1 = 25)) (h8 : ¬ (T 0 = 2 ∧ T 1 = 19)) : gSq (gCo T) (gT T 103) = ckO T := by sorry
theorem chk_e {T : Int → Int} {N : Int} (hT : ∀ i, N < i → T i = 107) (hN : N ≤ 5000) (h0 : T 0 ≠ 102) : gSq (gSe T) (gT T 103) = chk T := by sorry
/-! NOTES of the reference: the least place counts, at one place the least rank -/
def NT3 (S : sS) : Int × Int × Int := (Xi S 904 106, Xi S 904 105, Xi S 904 104)
def rk7 (f : Int) : Int := if f = 9 then 0 else if f = 3 then 1 else if f = 4 then 2 else if f = 7 then 3 else 4
def ntF (x : Int × Int × Int) (f p : Int) : Int × Int × Int := if x.1 = 0 ∨ p < x.2.1 ∨ (p = x.2.1 ∧ rk7 f < x.2.2) then (f, p, rk7 f) else x
theorem nt_y {S U : sS} {f p : Int} (h1 : Xi U 904 106 = f) (h2 : Xi U 904 105 = p) (h3 : Xi U 904 104 = rk7 f) (c : Xi S 904 106 = 0 ∨ p < Xi S 904 105 ∨ (p = Xi S 904 105 ∧ rk7 f < Xi S 904 104)) : NT3 U = ntF (NT3 S) f p := by sorry
theorem nt_n {S : sS} {f p : Int} (c : ¬ (Xi S 904 106 = 0 ∨ p < Xi S 904 105 ∨ (p = Xi S 904 105 ∧ rk7 f < Xi S 904 104))) : NT3 S = ntF (NT3 S) f p := by sorry
theorem NT3_FR {l : List rec} {S T : sS} (h : FR l S T) (e : mD l [104, 105, 106] = true) : NT3 T = NT3 S := by sorry
theorem rk_e {f : Int} : (f = 9 → rk7 f = 0) ∧ (f = 3 → rk7 f = 1) ∧ (f = 4 → rk7 f = 2) ∧ (f = 7 → rk7 f = 3) ∧ (f ≠ 9 → f ≠ 3 → f ≠ 4 → f ≠ 7 → rk7 f = 4) := by sorry
/-! the class's words: what naming changes -/
def NMI (S S1 : sS) (i : Nat) (so wh a b c : Int) : Prop := (Xi S1 3 i = so ∧ Xi S1 4 i = wh ∧ Xj S1 2 (3 * i) = a ∧ Xj S1 2 (3 * i + 1) = b ∧ Xj S1 2 (3 * i + 2) = c) ∧ (∀ j : Nat, j ≠ i → Xi S1 3 j = Xi S 3 j ∧ Xi S1 4 j = Xi S 4 j ∧ ∀ t, t < 3 → Xj S1 2 (3 * j + t) = Xj S 2 (3 * j + t)) ∧ ((Xi S1 1 3 = Xi S 1 3 ∧ (i : Int) < Xi S 1 3 ∧ Xi S 3 i = so ∧ Xi S 4 i = wh) ∨ (Xi S1 1 3 = Xi S 1 3 + 1 ∧ (i : Int) = Xi S 1 3 ∧ ∀ j : Nat, (j : Int) < Xi S 1 3 → Xi S 3 j = so → Xi S 4 j ≠ wh))
/-- an entry of its own at the end -/
def AEN (S S1 : sS) (so wh a b c : Int) : Prop := (Xi S1 3 (Xi S 1 3).toNat = so ∧ Xi S1 4 (Xi S 1 3).toNat = wh ∧ Xj S1 2 (3 * (Xi S 1 3).toNat) = a ∧ Xj S1 2 (3 * (Xi S 1 3).toNat + 1) = b ∧ Xj S1 2 (3 * (Xi S 1 3).toNat + 2) = c) ∧ (∀ j : Nat, j ≠ (Xi S 1 3).toNat → Xi S1 3 j = Xi S 3 j ∧ Xi S1 4 j = Xi S 4 j ∧ ∀ t, t < 3 → Xj S1 2 (3 * j + t) = Xj S 2 (3 * j + t)) ∧ Xi S1 1 3 = Xi S 1 3 + 1
theorem aen_of {S U1 U2 U3 U4 U5 U6 : sS} {s w a b c : Int} (e1 : U1 = uJ S 2 (3 * Xi S 1 3).toNat (Int64.ofInt a)) (e2 : U2 = uJ U1 2 (3 * Xi S 1 3 + 1).toNat (Int64.ofInt b)) (e3 : U3 = uJ U2 2 (3 * Xi S 1 3 + 2).toNat (Int64.ofInt c)) (e4 : U4 = uI U3 3 (Xi S 1 3).toNat (Int32.ofInt s)) (e5 : U5 = uI U4 4 (Xi S 1 3).toNat (Int32.ofInt w)) (e6 : U6 = uI U5 1 3 (Int32.ofInt (Xi S 1 3 + 1))) (h0 : 0 ≤ Xi S 1 3) (h1 : Xi S 1 3 < 200) (ra : rgL a) (rb : rgL b) (rc : rgL c) (rs : rg s) (rw_ : rg w) : AEN S U6 s w a b c := by sorry
def wRw (S : sS) (k : Nat) (f t : Int) (i : Int) : Int := if f + i < t then Xj S k (f + i).toNat else 0
/-- where runs begin and how long they are: no huge numbers -/
def RBD (S : sS) : Prop := ∀ r : Nat, (0 ≤ Xi S 950 r ∧ Xi S 950 r ≤ 100000) ∧ (0 ≤ Xi S 951 r ∧ Xi S 951 r ≤ 100000)
theorem RBD_FR {l : List rec} {S T : sS} (h : FR l S T) (e2 : kdis l [(950, 952)] = true) (hR : RBD S) : RBD T := by sorry
/-- the reference's words: an entry at the end -/
def TLR (S S1 : sS) (so ix a b c n : Int) : Prop := (Xi S1 914 (Xi S 904 15).toNat = so ∧ Xi S1 915 (Xi S 904 15).toNat = ix ∧ Xi S1 912 (Xi S 904 15).toNat = n ∧ Xi S1 916 (Xi S 904 15).toNat = 0 ∧ Xj S1 913 (3 * (Xi S 904 15).toNat) = a ∧ Xj S1 913 (3 * (Xi S 904 15).toNat + 1) = b ∧ Xj S1 913 (3 * (Xi S 904 15).toNat + 2) = c) ∧ (∀ j : Nat, j ≠ (Xi S 904 15).toNat → Xi S1 914 j = Xi S 914 j ∧ Xi S1 915 j = Xi S 915 j ∧ Xi S1 912 j = Xi S 912 j ∧ Xi S1 916 j = Xi S 916 j ∧ ∀ t, t < 3 → Xj S1 913 (3 * j + t) = Xj S 913 (3 * j + t)) ∧ Xi S1 904 15 = Xi S 904 15 + 1
theorem tlr_of {S U1 U2 U3 U4 U5 U6 U7 U8 : sS} {s w a b c n : Int} (e1 : U1 = uI S 912 (Xi S 904 15).toNat (Int32.ofInt n)) (e2 : U2 = uJ U1 913 (3 * Xi S 904 15).toNat (Int64.ofInt a)) (e3 : U3 = uJ U2 913 (3 * Xi S 904 15 + 1).toNat (Int64.ofInt b)) (e4 : U4 = uJ U3 913 (3 * Xi S 904 15 + 2).toNat (Int64.ofInt c)) (e5 : U5 = uI U4 914 (Xi S 904 15).toNat (Int32.ofInt s)) (e6 : U6 = uI U5 915 (Xi S 904 15).toNat (Int32.ofInt w)) (e7 : U7 = uI U6 916 (Xi S 904 15).toNat (Int32.ofInt 0)) (e8 : U8 = uI U7 904 15 (Int32.ofInt (Xi S 904 15 + 1))) (h0 : 0 ≤ Xi S 904 15) (h1 : Xi S 904 15 < 300) (ra : rgL a) (rb : rgL b) (rc : rgL c) (rs : rg s) (rw_ : rg w) (rn : rg n) : TLR S U8 s w a b c n := by sorry
/-- the class: where a fault is told -/
def pc7 (S : sS) (r : Int) : Int := if 0 ≤ r ∧ r < Xi S 876 7 then Xi S 878 r.toNat else Xi S 876 5
theorem NMI_pre {S P S1 : sS} {i : Nat} {so wh a b c : Int} (h : NMI P S1 i so wh a b c) (x3 : ∀ j, Xi P 3 j = Xi S 3 j) (x4 : ∀ j, Xi P 4 j = Xi S 4 j) (x2 : ∀ j, Xj P 2 j = Xj S 2 j) (x1 : Xi P 1 3 = Xi S 1 3) : NMI S S1 i so wh a b c := by sorry
end
section
abbrev Q_mo_isArt__p (S : sS) (k : Int) : pst := fun r S1 => S = S1 ∧ (∃ z : Int, r = some (iv z) ∧ (0 ≤ z ∧ z ≤ 1) ∧ (z = 1 → 100 ≤ k ∧ k ≤ 103) ∧ (z = 0 → k < 100 ∨ 103 < k))
set_option maxRecDepth 100000 in
theorem t_mo_isArt__p {S : sS} (hH : RI S) (k : Int) (hk : -2147483648 ≤ k ∧ k ≤ 2147483647) (d : Nat) : Mp lay0 (d + 1) m_mo_isArt [iv k] S (Q_mo_isArt__p S k) := by sorry
abbrev Q_mo_isNext__p (S : sS) (fs : Nat) (ns : Nat) (k : Int) : pst := fun r S1 => S = S1 ∧ (∃ z : Int, r = some (iv z) ∧ (0 ≤ z ∧ z ≤ 1) ∧ ((z = 1 → Xi S 904 65 = 0 ∧ tR S fs ns (Xi S 904 8 - fs) = un7 k) ∧ (z = 0 → Xi S 904 65 = 0 → tR S fs ns (Xi S 904 8 - fs) ≠ un7 k)))
set_option maxRecDepth 100000 in
theorem t_mo_isNext__p {S : sS} (hH : RI S) (fs : Nat) (ns : Nat) (k : Int) (hk : -2147483648 ≤ k ∧ k ≤ 2147483647) (hvl : VLR S fs ns) (hin : INR S fs ns) (hu : tr7 (un7 k) = k) (d : Nat) : Mp lay0 (d + 1) m_mo_isNext [.ref 904, iv k] S (Q_mo_isNext__p S fs ns k) := by sorry
abbrev Q_mo_look__p (S : sS) (fs : Nat) (ns : Nat) : pst := fun r S1 => S = S1 ∧ (∃ z : Int, r = some (iv z) ∧ (-2147483648 ≤ z ∧ z ≤ 2147483647) ∧ ((Xi S 904 65 = 0 → tR S fs ns (Xi S 904 8 - fs) = un7 z ∧ z = tr7 (un7 z)) ∧ (Xi S 904 65 ≠ 0 → z = 1)))
set_option maxRecDepth 100000 in
theorem t_mo_look__p {S : sS} (hH : RI S) (fs : Nat) (ns : Nat) (hvl : VLR S fs ns) (hin : INR S fs ns) (d : Nat) : Mp lay0 (d + 1) m_mo_look [.ref 904] S (Q_mo_look__p S fs ns) := by sorry
def md_mo_odd__p : List rec := [(904, 905, 65, 66), (904, 905, 66, 67)]
abbrev Q_mo_odd__p (S : sS) (fs : Nat) (ns : Nat) : pst := fun r S1 => RI S1 ∧ FR md_mo_odd__p S S1 ∧ (r = none ∧ (cu S1 fs = (0, (cu S fs).2)) ∧ (Xi S1 904 65 ≠ 0) ∧ (JR S1 fs ns))
set_option maxRecDepth 100000 in
theorem t_mo_odd__p {S : sS} (hH : RI S) (fs : Nat) (ns : Nat) (d : Nat) : Mp lay0 (d + 1) m_mo_odd [.ref 904] S (Q_mo_odd__p S fs ns) := by sorry
def md_mo_take__p : List rec := [(904, 905, 8, 9), (904, 905, 65, 66), (904, 905, 66, 67)]
abbrev Q_mo_take__p (S : sS) (fs : Nat) (ns : Nat) (k : Int) : pst := fun r S1 => RI S1 ∧ FR md_mo_take__p S S1 ∧ (r = none ∧ (gSq (cu S fs) (gT (tR S fs ns) (un7 k)) = cu S1 fs) ∧ (Xi S1 904 65 = 0 → Xi S 904 65 = 0 ∧ Xi S 904 8 ≤ Xi S1 904 8) ∧ (JR S1 fs ns))
set_option maxRecDepth 100000 in
theorem t_mo_take__p {S : sS} (hH : RI S) (fs : Nat) (ns : Nat) (k : Int) (hk : 2 ≤ k ∧ k ≤ 154) (hvl : VLR S fs ns) (hJR : JR S fs ns) (hu : tr7 (un7 k) = k) (hn : un7 k ≠ 100 ∧ un7 k ≠ 103 ∧ un7 k ≠ 107) (d : Nat) : Mp lay0 (d + 2) m_mo_take [.ref 904, iv k] S (Q_mo_take__p S fs ns k) := by sorry
def md_mo_art__p : List rec := [(904, 905, 8, 9), (904, 905, 65, 66), (904, 905, 66, 67)]
abbrev Q_mo_art__p (S : sS) (fs : Nat) (ns : Nat) : pst := fun r S1 => RI S1 ∧ FR md_mo_art__p S S1 ∧ (r = none ∧ (gSq (cu S fs) (gA (tR S fs ns)) = cu S1 fs) ∧ (Xi S1 904 65 = 0 → Xi S 904 65 = 0 ∧ Xi S 904 8 ≤ Xi S1 904 8) ∧ (JR S1 fs ns))
set_option maxRecDepth 100000 in
theorem t_mo_art__p {S : sS} (hH : RI S) (fs : Nat) (ns : Nat) (hvl : VLR S fs ns) (hJR : JR S fs ns) (d : Nat) : Mp lay0 (d + 2) m_mo_art [.ref 904] S (Q_mo_art__p S fs ns) := by sorry
def md_mo_be__p : List rec := [(904, 905, 8, 9), (904, 905, 65, 66), (904, 905, 66, 67), (904, 905, 77, 78)]
abbrev Q_mo_be__p (S : sS) (fs : Nat) (ns : Nat) : pst := fun r S1 => RI S1 ∧ FR md_mo_be__p S S1 ∧ (r = none ∧ (gSq (cu S fs) (gBe (tR S fs ns)) = cu S1 fs) ∧ (Xi S1 904 65 = 0 → (Xi S1 904 77 = 1 ↔ tR S fs ns (Xi S 904 8 - fs) = 5)) ∧ (Xi S1 904 65 = 0 → Xi S 904 65 = 0 ∧ Xi S 904 8 ≤ Xi S1 904 8) ∧ (JR S1 fs ns))
set_option maxRecDepth 100000 in
theorem t_mo_be__p {S : sS} (hH : RI S) (fs : Nat) (ns : Nat) (hvl : VLR S fs ns) (hJR : JR S fs ns) (d : Nat) : Mp lay0 (d + 2) m_mo_be [.ref 904] S (Q_mo_be__p S fs ns) := by sorry
def md_mo_oneOrVarious__p : List rec := [(904, 905, 8, 9), (904, 905, 65, 66), (904, 905, 66, 67)]
abbrev Q_mo_oneOrVarious__p (S : sS) (fs : Nat) (ns : Nat) : pst := fun r S1 => RI S1 ∧ FR md_mo_oneOrVarious__p S S1 ∧ (∃ z : Int, r = some (iv z) ∧ (0 ≤ z ∧ z ≤ 1) ∧ (gSq (cu S fs) (gHow (tR S fs ns)) = cu S1 fs) ∧ (Xi S1 904 65 = 0 → (z = 1 ↔ tR S fs ns (Xi S 904 8 - fs) = 22)) ∧ (Xi S1 904 65 = 0 → Xi S 904 65 = 0 ∧ Xi S 904 8 ≤ Xi S1 904 8) ∧ (JR S1 fs ns))
set_option maxRecDepth 100000 in
theorem t_mo_oneOrVarious__p {S : sS} (hH : RI S) (fs : Nat) (ns : Nat) (hvl : VLR S fs ns) (hJR : JR S fs ns) (d : Nat) : Mp lay0 (d + 2) m_mo_oneOrVarious [.ref 904] S (Q_mo_oneOrVarious__p S fs ns) := by sorry
def md_mo_run__p : List rec := [(904, 905, 8, 9), (904, 905, 65, 66), (904, 905, 66, 67), (904, 905, 69, 70), (950, 951, 0, 100000), (951, 952, 0, 100000)]
abbrev Q_mo_run__p (S : sS) (fs : Nat) (ns : Nat) : pst := fun r S1 => RI S1 ∧ FR md_mo_run__p S S1 ∧ (∃ z : Int, r = some (iv z) ∧ (-2147483648 ≤ z ∧ z ≤ 2147483647) ∧ (gSq (cu S fs) (gR (tR S fs ns)) = cu S1 fs) ∧ (Xi S1 904 65 = 0 → z = Xi S 904 69 ∧ Xi S1 904 69 = Xi S 904 69 + 1 ∧ Xi S1 950 z.toNat - fs = Xi S 904 8 - fs ∧ Xi S1 951 z.toNat = re7 (tR S fs ns) (Xi S 904 8 - fs) - (Xi S 904 8 - fs)) ∧ (Xi S 904 69 ≤ Xi S1 904 69) ∧ (∀ r : Nat, (r : Int) < Xi S 904 69 → Xi S1 950 r = Xi S 950 r ∧ Xi S1 951 r = Xi S 951 r) ∧ (Xi S1 904 65 = 0 → Xi S 904 65 = 0 ∧ Xi S 904 8 ≤ Xi S1 904 8) ∧ (JR S1 fs ns))
set_option maxRecDepth 100000 in
theorem t_mo_run__p {S : sS} (hH : RI S) (fs : Nat) (ns : Nat) (hvl : VLR S fs ns) (hJR : JR S fs ns) (d : Nat) : Mp lay0 (d + 2) m_mo_run [.ref 904] S (Q_mo_run__p S fs ns) := by sorry
def md_mo_name__p : List rec := [(904, 905, 8, 9), (904, 905, 65, 66), (904, 905, 66, 67), (904, 905, 69, 70), (950, 951, 0, 100000), (951, 952, 0, 100000)]
abbrev Q_mo_name__p (S : sS) (fs : Nat) (ns : Nat) : pst := fun r S1 => RI S1 ∧ FR md_mo_name__p S S1 ∧ (∃ z : Int, r = some (iv z) ∧ (-2147483648 ≤ z ∧ z ≤ 2147483647) ∧ (gSq (cu S fs) (gN (tR S fs ns)) = cu S1 fs) ∧ (Xi S1 904 65 = 0 → z = Xi S 904 69 ∧ Xi S1 904 69 = Xi S 904 69 + 1 ∧ Xi S1 950 z.toNat - fs = bA (tR S fs ns) (Xi S 904 8 - fs) ∧ Xi S1 951 z.toNat = re7 (tR S fs ns) (bA (tR S fs ns) (Xi S 904 8 - fs)) - (bA (tR S fs ns) (Xi S 904 8 - fs))) ∧ (Xi S 904 69 ≤ Xi S1 904 69) ∧ (∀ r : Nat, (r : Int) < Xi S 904 69 → Xi S1 950 r = Xi S 950 r ∧ Xi S1 951 r = Xi S 951 r) ∧ (Xi S1 904 65 = 0 → Xi S 904 65 = 0 ∧ Xi S 904 8 ≤ Xi S1 904 8) ∧ (JR S1 fs ns))
set_option maxRecDepth 100000 in
theorem t_mo_name__p {S : sS} (hH : RI S) (fs : Nat) (ns : Nat) (hvl : VLR S fs ns) (hJR : JR S fs ns) (d : Nat) : Mp lay0 (d + 3) m_mo_name [.ref 904] S (Q_mo_name__p S fs ns) := by sorry
def md_mo_isMore__p : List rec := [(904, 905, 8, 9)]
abbrev Q_mo_isMore__p (S : sS) (fs : Nat) (ns : Nat) : pst := fun r S1 => RI S1 ∧ FR md_mo_isMore__p S S1 ∧ (∃ z : Int, r = some (iv z) ∧ (0 ≤ z ∧ z ≤ 1) ∧ (Xi S 904 65 = 0 → gBt (tR S fs ns) (Xi S 904 8 - fs) = (z, Xi S1 904 8 - fs)) ∧ (Xi S1 904 65 = Xi S 904 65) ∧ (z = 1 → Xi S 904 65 = 0) ∧ (Xi S 904 65 ≠ 0 → z = 0 ∧ cu S1 fs = cu S fs) ∧ (Xi S1 904 65 = 0 → Xi S 904 65 = 0 ∧ Xi S 904 8 ≤ Xi S1 904 8) ∧ (JR S1 fs ns))
set_option maxRecDepth 100000 in
theorem t_mo_isMore__p {S : sS} (hH : RI S) (fs : Nat) (ns : Nat) (hvl : VLR S fs ns) (hJR : JR S fs ns) (d : Nat) : Mp lay0 (d + 2) m_mo_isMore [.ref 904] S (Q_mo_isMore__p S fs ns) := by sorry
def md_mo_placing__p : List rec := [(904, 905, 8, 9), (904, 905, 65, 66), (904, 905, 66, 67)]
abbrev Q_mo_placing__p (S : sS) (fs : Nat) (ns : Nat) : pst := fun r S1 => RI S1 ∧ FR md_mo_placing__p S S1 ∧ (∃ z : Int, r = some (iv z) ∧ (-2147483648 ≤ z ∧ z ≤ 2147483647) ∧ (gSq (cu S fs) (gPc (tR S fs ns)) = cu S1 fs) ∧ (Xi S1 904 65 = 0 → z = pw7 (tR S fs ns (Xi S 904 8 - fs))) ∧ (Xi S1 904 65 = 0 → Xi S 904 65 = 0 ∧ Xi S 904 8 ≤ Xi S1 904 8) ∧ (JR S1 fs ns))
set_option maxRecDepth 100000 in
theorem t_mo_placing__p {S : sS} (hH : RI S) (fs : Nat) (ns : Nat) (hvl : VLR S fs ns) (hJR : JR S fs ns) (d : Nat) : Mp lay0 (d + 3) m_mo_placing [.ref 904] S (Q_mo_placing__p S fs ns) := by sorry
def md_mo_list__p : List rec := [(904, 905, 8, 9), (904, 905, 65, 66), (904, 905, 66, 67), (904, 905, 69, 70), (904, 905, 71, 72), (904, 905, 72, 73), (950, 951, 0, 100000), (951, 952, 0, 100000)]
abbrev Q_mo_list__p (S : sS) (fs : Nat) (ns : Nat) (art : Int) : pst := fun r S1 => RI S1 ∧ FR md_mo_list__p S S1 ∧ (r = none ∧ (gSq (cu S fs) (gLs2 (tR S fs ns) 5200) = cu S1 fs) ∧ (Xi S1 904 71 = Xi S 904 69 ∧ Xi S1 904 72 = Xi S1 904 69 - Xi S 904 69) ∧ (Xi S 904 69 ≤ Xi S1 904 69) ∧ (Xi S1 904 65 = 0 → Xi S 904 65 = 0 ∧ Xi S 904 8 ≤ Xi S1 904 8) ∧ (JR S1 fs ns))
set_option maxRecDepth 100000 in
theorem t_mo_list__p {S : sS} (hH : RI S) (fs : Nat) (ns : Nat) (art : Int) (hart : 0 ≤ art ∧ art ≤ 1) (hvl : VLR S fs ns) (hJR : JR S fs ns) (ha : art = 1) (hr0 : 0 ≤ Xi S 904 69) (d : Nat) : Mp lay0 (d + 4) m_mo_list [.ref 904, iv art] S (Q_mo_list__p S fs ns art) := by sorry
abbrev Q_mo_endsTest__p (S : sS) (k : Int) (nw : Int) : pst := fun r S1 => S = S1 ∧ (∃ z : Int, r = some (iv z) ∧ (0 ≤ z ∧ z ≤ 1) ∧ (z = 1 → (k = 46 ∨ k = 59 ∨ k = 1 ∨ (nw = 0 ∧ (k = 116 ∨ k = 58)))) ∧ (z = 0 → ¬ (k = 46 ∨ k = 59 ∨ k = 1 ∨ (nw = 0 ∧ (k = 116 ∨ k = 58)))))
set_option maxRecDepth 100000 in
theorem t_mo_endsTest__p {S : sS} (hH : RI S) (k : Int) (nw : Int) (hk : -2147483648 ≤ k ∧ k ≤ 2147483647) (hnw : 0 ≤ nw ∧ nw ≤ 1) (d : Nat) : Mp lay0 (d + 1) m_mo_endsTest [.ref 904, iv k, iv nw] S (Q_mo_endsTest__p S k nw) := by sorry
theorem un_45 (z : Int) : (z = 4 → un7 z = 101) ∧ (z = 5 → un7 z = 102) ∧ (z ≠ 4 → z = tr7 (un7 z) → un7 z ≠ 101) ∧ (z ≠ 5 → z = tr7 (un7 z) → un7 z ≠ 102) := by sorry
def md_mo_what__p : List rec := [(904, 905, 8, 9), (904, 905, 65, 66), (904, 905, 66, 67), (904, 905, 69, 70), (904, 905, 78, 79), (950, 951, 0, 100000), (951, 952, 0, 100000)]
abbrev Q_mo_what__p (S : sS) (fs : Nat) (ns : Nat) : pst := fun r S1 => RI S1 ∧ FR md_mo_what__p S S1 ∧ (r = none ∧ (gSq (cu S fs) (gWh (tR S fs ns)) = cu S1 fs) ∧ (Xi S1 904 78 = Xi S 904 8) ∧ (Xi S1 904 65 = 0 → tR S fs ns (Xi S 904 8 - fs) ≠ 101 → tR S fs ns (Xi S 904 8 - fs) ≠ 102 → Xi S1 904 69 = Xi S 904 69 + 1 ∧ Xi S1 950 (Xi S 904 69).toNat - fs = Xi S 904 8 - fs ∧ Xi S1 951 (Xi S 904 69).toNat = re7 (tR S fs ns) (Xi S 904 8 - fs) - (Xi S 904 8 - fs)) ∧ (tR S fs ns (Xi S 904 8 - fs) = 101 ∨ tR S fs ns (Xi S 904 8 - fs) = 102 → Xi S 904 65 = 0 → Xi S1 904 69 = Xi S 904 69) ∧ (Xi S 904 69 ≤ Xi S1 904 69) ∧ (∀ r : Nat, (r : Int) < Xi S 904 69 → Xi S1 950 r = Xi S 950 r ∧ Xi S1 951 r = Xi S 951 r) ∧ (Xi S1 904 65 = 0 → Xi S 904 65 = 0 ∧ Xi S 904 8 ≤ Xi S1 904 8) ∧ (JR S1 fs ns))
set_option maxRecDepth 100000 in
theorem t_mo_what__p {S : sS} (hH : RI S) (fs : Nat) (ns : Nat) (hvl : VLR S fs ns) (hJR : JR S fs ns) (d : Nat) : Mp lay0 (d + 3) m_mo_what [.ref 904] S (Q_mo_what__p S fs ns) := by sorry
def md_mo_property__p : List rec := [(904, 905, 8, 9), (904, 905, 65, 66), (904, 905, 66, 67), (904, 905, 69, 70), (950, 951, 0, 100000), (951, 952, 0, 100000), (956, 957, 0, 100000)]
abbrev Q_mo_property__p (S : sS) (fs : Nat) (ns : Nat) : pst := fun r S1 => RI S1 ∧ FR md_mo_property__p S S1 ∧ (r = none ∧ (gSq (cu S fs) (gPy (tR S fs ns)) = cu S1 fs) ∧ (Xi S 904 69 ≤ Xi S1 904 69) ∧ (Xi S1 904 65 = 0 → Xi S 904 65 = 0 ∧ Xi S 904 8 ≤ Xi S1 904 8) ∧ (JR S1 fs ns))
set_option maxRecDepth 100000 in
theorem t_mo_property__p {S : sS} (hH : RI S) (fs : Nat) (ns : Nat) (hvl : VLR S fs ns) (hJR : JR S fs ns) (d : Nat) : Mp lay0 (d + 3) m_mo_property [.ref 904] S (Q_mo_property__p S fs ns) := by sorry
abbrev Q_mo_beginsOf__p (S : sS) (fs : Nat) (ns : Nat) (t : Int) : pst := fun r S1 => S = S1 ∧ (∃ z : Int, r = some (iv z) ∧ (0 ≤ z ∧ z ≤ 1) ∧ ((fs : Int) ≤ t → t ≤ fs + ns → (z = 1 → bp7 (tR S fs ns) (t - fs)) ∧ (z = 0 → ¬ bp7 (tR S fs ns) (t - fs))))
set_option maxRecDepth 100000 in
theorem t_mo_beginsOf__p {S : sS} (hH : RI S) (fs : Nat) (ns : Nat) (t : Int) (ht : -2147483648 ≤ t ∧ t ≤ 2147483647) (hvl : VLR S fs ns) (d : Nat) : Mp lay0 (d + 1) m_mo_beginsOf [.ref 904, iv t] S (Q_mo_beginsOf__p S fs ns t) := by sorry
end
section
theorem cu_cge {S : sS} {f : Nat} {x c : Int × Int} {g h : Int → Int × Int} (hx : x = cu S f) (e : gSq x g = c) (k : Xi S 904 65 = 0 → h (Xi S 904 8 - f) = g (Xi S 904 8 - f)) : gSq (cu S f) h = c := by sorry
theorem en_1 {S B U : sS} {f : Nat} {F E : Int → Int × Int} (G : gSq (cu S f) F = cu B f) (h : cu U f = cu B f) (he : Xi B 904 65 = 0 → E (Xi B 904 8 - f) = (1, Xi B 904 8 - f)) : gSq (cu S f) (fun a => gSq (F a) E) = cu U f := by sorry
theorem en_0 {S B U V W : sS} {f : Nat} {F E : Int → Int × Int} (G : gSq (cu S f) F = cu B f) (b : Xi B 904 65 = 0) (hn : E (Xi B 904 8 - f) = (0, Xi B 904 8 - f)) (g : cu V f = (0, (cu W f).2)) (e1 : cu U f = cu V f) (e2 : cu W f = cu B f) : gSq (cu S f) (fun a => gSq (F a) E) = cu U f := by sorry
def md_mo_thing__p : List rec := [(904, 905, 8, 9), (904, 905, 65, 66), (904, 905, 66, 67), (904, 905, 69, 70), (904, 905, 99, 100), (904, 905, 100, 101), (904, 905, 101, 102), (950, 951, 0, 100000), (951, 952, 0, 100000)]
abbrev Q_mo_thing__p (S : sS) (fs : Nat) (ns : Nat) : pst := fun r S1 => RI S1 ∧ FR md_mo_thing__p S S1 ∧ (r = none ∧ (gSq (cu S fs) (gTh (tR S fs ns)) = cu S1 fs) ∧ (Xi S 904 69 ≤ Xi S1 904 69) ∧ (∀ r : Nat, (r : Int) < Xi S 904 69 → Xi S1 950 r = Xi S 950 r ∧ Xi S1 951 r = Xi S 951 r) ∧ (Xi S1 904 65 = 0 → Xi S 904 65 = 0 ∧ Xi S 904 8 ≤ Xi S1 904 8) ∧ (JR S1 fs ns))
set_option maxRecDepth 100000 in
theorem t_mo_thing__p {S : sS} (hH : RI S) (fs : Nat) (ns : Nat) (hvl : VLR S fs ns) (hJR : JR S fs ns) (d : Nat) : Mp lay0 (d + 4) m_mo_thing [.ref 904] S (Q_mo_thing__p S fs ns) := by sorry
def md_mo_thingOfTest__p : List rec := [(904, 905, 8, 9), (904, 905, 65, 66), (904, 905, 66, 67), (904, 905, 69, 70), (904, 905, 99, 100), (904, 905, 100, 101), (904, 905, 101, 102), (950, 951, 0, 100000), (951, 952, 0, 100000), (954, 955, 0, 100000), (955, 956, 0, 100000)]
abbrev Q_mo_thingOfTest__p (S : sS) (fs : Nat) (ns : Nat) : pst := fun r S1 => RI S1 ∧ FR md_mo_thingOfTest__p S S1 ∧ (r = none ∧ (gSq (cu S fs) (gTh (tR S fs ns)) = cu S1 fs) ∧ (Xi S 904 69 ≤ Xi S1 904 69) ∧ (Xi S1 904 65 = 0 → Xi S 904 65 = 0 ∧ Xi S 904 8 ≤ Xi S1 904 8) ∧ (JR S1 fs ns))
set_option maxRecDepth 100000 in
theorem t_mo_thingOfTest__p {S : sS} (hH : RI S) (fs : Nat) (ns : Nat) (hvl : VLR S fs ns) (hJR : JR S fs ns) (d : Nat) : Mp lay0 (d + 5) m_mo_thingOfTest [.ref 904] S (Q_mo_thingOfTest__p S fs ns) := by sorry
def md_mo_testedWhat__p : List rec := [(904, 905, 8, 9), (904, 905, 65, 66), (904, 905, 66, 67), (904, 905, 69, 70), (904, 905, 78, 79), (950, 951, 0, 100000), (951, 952, 0, 100000), (952, 953, 0, 100000), (953, 954, 0, 100000), (957, 958, 0, 100000), (960, 961, 0, 100000)]
abbrev Q_mo_testedWhat__p (S : sS) (fs : Nat) (ns : Nat) (isNow : Int) : pst := fun r S1 => RI S1 ∧ FR md_mo_testedWhat__p S S1 ∧ (r = none ∧ (gSq (cu S fs) (gTw (tR S fs ns) isNow) = cu S1 fs) ∧ (Xi S 904 69 ≤ Xi S1 904 69) ∧ (Xi S1 904 65 = 0 → Xi S 904 65 = 0 ∧ Xi S 904 8 ≤ Xi S1 904 8) ∧ (JR S1 fs ns))
set_option maxRecDepth 100000 in
theorem t_mo_testedWhat__p {S : sS} (hH : RI S) (fs : Nat) (ns : Nat) (isNow : Int) (hisNow : 0 ≤ isNow ∧ isNow ≤ 1) (hvl : VLR S fs ns) (hJR : JR S fs ns) (d : Nat) : Mp lay0 (d + 4) m_mo_testedWhat [.ref 904, iv isNow] S (Q_mo_testedWhat__p S fs ns isNow) := by sorry
end
section
/-- out of omega's sight -/
def Hid (p : Prop) : Prop := p
theorem Hid.o {p : Prop} (h : Hid p) : p := by sorry
theorem cu_nt1 {V U W : sS} {f : Nat} {T : Int → Int} {x : Int} (e : U = uI V 904 8 (Int32.ofInt (x + 1))) (hx : x = Xi V 904 8) (hc : cu V f = cu W f) (h : Xi V 904 65 = 0 → T (x - f) = 6 ∧ x < 2147483647) : gSq (cu W f) (fun b => (1, gTn T b)) = cu U f := by sorry
theorem cu_nt0 {V U W : sS} {f : Nat} {T : Int → Int} {x : Int} (e : U = uI V 904 8 (Int32.ofInt (x + 0))) (hx : x = Xi V 904 8) (hc : cu V f = cu W f) (h : Xi V 904 65 = 0 → T (x - f) ≠ 6) : gSq (cu W f) (fun b => (1, gTn T b)) = cu U f := by sorry
def md_mo_test__p : List rec := [(904, 905, 8, 9), (904, 905, 65, 66), (904, 905, 66, 67), (904, 905, 69, 70), (904, 905, 78, 79), (904, 905, 93, 94), (904, 905, 99, 100), (904, 905, 100, 101), (904, 905, 101, 102), (950, 951, 0, 100000), (951, 952, 0, 100000), (952, 953, 0, 100000), (953, 954, 0, 100000), (954, 955, 0, 100000), (955, 956, 0, 100000), (956, 957, 0, 100000), (957, 958, 0, 100000), (958, 959, 0, 100000), (959, 960, 0, 100000), (960, 961, 0, 100000), (961, 962, 0, 100000), (962, 963, 0, 100000)]
abbrev Q_mo_test__p (S : sS) (fs : Nat) (ns : Nat) (isNow : Int) : pst := fun r S1 => RI S1 ∧ FR md_mo_test__p S S1 ∧ (r = none ∧ (gSq (cu S fs) (gTtR (tR S fs ns) isNow) = cu S1 fs) ∧ (Xi S 904 69 ≤ Xi S1 904 69) ∧ (Xi S1 904 65 = 0 → Xi S 904 65 = 0 ∧ Xi S 904 8 ≤ Xi S1 904 8) ∧ (Xi S1 904 93 = Xi S 904 93 + 1 ∧ 0 ≤ Xi S 904 93) ∧ (JR S1 fs ns))
set_option maxRecDepth 100000 in
theorem c351_mo_test__p {S : sS} (hH : RI S) (fs : Nat) (ns : Nat) (isNow : Int) (hisNow : 0 ≤ isNow ∧ isNow ≤ 1) (hvl : VLR S fs ns) (hJR : JR S fs ns) (d : Nat) (fu : Nat) : ∀  (T1 : sS) (_ : RI T1) (_ : FR md_mo_test__p S T1), (gSq (cu S fs) (gTm (tR S fs ns) isNow) = cu T1 fs) → (INR T1 fs ns) → (Xi T1 904 65 = 0 → (fs : Int) ≤ Xi T1 904 8 ∧ Xi T1 904 8 ≤ fs + ns) → (Xi T1 904 93 = Xi S 904 93) → (0 ≤ Xi S 904 93) → (Xi T1 904 65 = 0 → Xi S 904 65 = 0 ∧ Xi S 904 8 ≤ Xi T1 904 8) → (Xi S 904 69 ≤ Xi T1 904 69) → Pl fu lay0 (d + 5) m_mo_test 351 [(0, .ref 904), (1, iv isNow)] [] T1 (Q_mo_test__p S fs ns isNow) := by sorry
set_option maxRecDepth 100000 in
theorem c145_mo_test__p {S : sS} (hH : RI S) (fs : Nat) (ns : Nat) (isNow : Int) (hisNow : 0 ≤ isNow ∧ isNow ≤ 1) (hvl : VLR S fs ns) (hJR : JR S fs ns) (d : Nat) (fu : Nat) : ∀  (T7 : sS) (_ : RI T7) (_ : FR md_mo_test__p S T7) (v2 : Int), (-2147483648 ≤ v2 ∧ v2 ≤ 2147483647) → (v2 = Xi S 904 8) → (0 ≤ Xi S 904 93) → (Xi T7 904 65 = Xi S 904 65) → (Xi T7 904 66 = Xi S 904 66) → (Xi T7 904 69 = Xi S 904 69) → (Xi T7 904 93 = Xi S 904 93) → (Xi T7 904 65 = 0 → (fs : Int) ≤ Xi T7 904 8 ∧ Xi T7 904 8 ≤ fs + ns) → (Xi S 904 65 = 0 → Xi S 904 8 ≤ Xi T7 904 8) → (Xi S 904 65 ≠ 0 → Xi T7 904 8 = Xi S 904 8) → (Xi S 904 65 = 0 → fo7 (tR S fs ns) 4 (Xi S 904 8 - fs) (te8 (tR S fs ns) isNow (Xi S 904 8 - fs)) = -1) → (Xi S 904 65 = 0 → gLoF (tR S fs ns) 54 53 5000 (Xi S 904 8 - fs) = Xi T7 904 8 - fs) → Pl fu lay0 (d + 5) m_mo_test 145 [(0, .ref 904), (1, iv isNow), (2, iv v2)] [] T7 (Q_mo_test__p S fs ns isNow) := by sorry
set_option maxRecDepth 100000 in
theorem c96_mo_test__p {S : sS} (hH : RI S) (fs : Nat) (ns : Nat) (isNow : Int) (hisNow : 0 ≤ isNow ∧ isNow ≤ 1) (hvl : VLR S fs ns) (hJR : JR S fs ns) (d : Nat) (fu : Nat) : ∀ (n96 : Nat) (_ : n96 ≤ fu) (T9 : sS) (_ : RI T9) (_ : FR md_mo_test__p S T9) (v2 : Int) (v4 : Int), (-2147483648 ≤ v2 ∧ v2 ≤ 2147483647) → (-2147483648 ≤ v4 ∧ v4 ≤ 2147483647) → (v2 = Xi S 904 8) → (0 ≤ Xi S 904 93) → (Xi T9 904 65 = Xi S 904 65) → (Xi T9 904 66 = Xi S 904 66) → (Xi T9 904 69 = Xi S 904 69) → (Xi T9 904 93 = Xi S 904 93) → (INR T9 fs ns) → (Xi T9 904 65 = 0 → (fs : Int) ≤ Xi T9 904 8 ∧ Xi T9 904 8 ≤ fs + ns) → (Xi S 904 65 = 0 → Xi S 904 8 ≤ Xi T9 904 8) → (Xi S 904 65 ≠ 0 → Xi T9 904 8 = Xi S 904 8) → (Xi S 904 65 = 0 → fo7 (tR S fs ns) 4 (Xi S 904 8 - fs) (te8 (tR S fs ns) isNow (Xi S 904 8 - fs)) = -1) → (Xi S 904 65 = 0 → gLoF (tR S fs ns) 54 53 5000 (Xi S 904 8 - fs) = gLoF (tR S fs ns) 54 53 (5000 - (Xi T9 904 8 - fs - (Xi S 904 8 - fs))).toNat (Xi T9 904 8 - fs)) → ((Xi S 904 65 = 0 → tR S fs ns (Xi T9 904 8 - fs) = un7 v4 ∧ v4 = tr7 (un7 v4)) ∧ (Xi S 904 65 ≠ 0 → v4 = 1)) → ((100 ≤ v4 → un7 v4 = v4 - 100) ∧ (v4 < 100 → 100 ≤ un7 v4) ∧ (v4 = 3 → un7 v4 = 100) ∧ (v4 ≠ 3 → v4 = tr7 (un7 v4) → un7 v4 ≠ 100)) → Pl n96 lay0 (d + 5) m_mo_test 96 [(0, .ref 904), (1, iv isNow), (2, iv v2), (4, iv v4)] [] T9 (Q_mo_test__p S fs ns isNow) := by sorry
set_option maxRecDepth 100000 in
theorem c171_mo_test__p {S : sS} (hH : RI S) (fs : Nat) (ns : Nat) (isNow : Int) (hisNow : 0 ≤ isNow ∧ isNow ≤ 1) (hvl : VLR S fs ns) (hJR : JR S fs ns) (d : Nat) (fu : Nat) : ∀  (T14 : sS) (_ : RI T14) (_ : FR md_mo_test__p S T14), (Xi T14 904 8 = Xi S 904 8) → (Xi T14 904 65 = Xi S 904 65) → (Xi T14 904 66 = Xi S 904 66) → (Xi T14 904 69 = Xi S 904 69) → (Xi T14 904 93 = Xi S 904 93) → (0 ≤ Xi S 904 93) → (JR T14 fs ns) → (Hid (Xi S 904 65 = 0 → fo7 (tR S fs ns) 4 (Xi S 904 8 - fs) (te8 (tR S fs ns) isNow (Xi S 904 8 - fs)) ≠ -1)) → (Hid (Xi S 904 65 = 0 → bp7 (tR S fs ns) (Xi S 904 8 - fs))) → Pl fu lay0 (d + 5) m_mo_test 171 [(0, .ref 904), (1, iv isNow)] [] T14 (Q_mo_test__p S fs ns isNow) := by sorry
set_option maxRecDepth 100000 in
theorem c244_mo_test__p {S : sS} (hH : RI S) (fs : Nat) (ns : Nat) (isNow : Int) (hisNow : 0 ≤ isNow ∧ isNow ≤ 1) (hvl : VLR S fs ns) (hJR : JR S fs ns) (d : Nat) (fu : Nat) : ∀  (T19 : sS) (_ : RI T19) (_ : FR md_mo_test__p S T19), (0 ≤ Xi S 904 93) → (JR T19 fs ns) → (Xi T19 904 65 = 0 → (fs : Int) ≤ Xi T19 904 8 ∧ Xi T19 904 8 ≤ fs + ns) → (Xi T19 904 93 = Xi S 904 93) → (Xi T19 904 65 = 0 → Xi S 904 65 = 0 ∧ Xi S 904 8 ≤ Xi T19 904 8) → (Xi S 904 69 ≤ Xi T19 904 69) → (Hid (Xi S 904 65 = 0 → fo7 (tR S fs ns) 4 (Xi S 904 8 - fs) (te8 (tR S fs ns) isNow (Xi S 904 8 - fs)) ≠ -1)) → (Hid (Xi S 904 65 = 0 → ¬ bp7 (tR S fs ns) (Xi S 904 8 - fs))) → (gSq (cu S fs) (fun a => gSq (gSq (gTh (tR S fs ns) a) (gT (tR S fs ns) 4)) (fun b => (1, gTn (tR S fs ns) b))) = cu T19 fs) → Pl fu lay0 (d + 5) m_mo_test 244 [(0, .ref 904), (1, iv isNow)] [] T19 (Q_mo_test__p S fs ns isNow) := by sorry
set_option maxRecDepth 100000 in
theorem c203_mo_test__p {S : sS} (hH : RI S) (fs : Nat) (ns : Nat) (isNow : Int) (hisNow : 0 ≤ isNow ∧ isNow ≤ 1) (hvl : VLR S fs ns) (hJR : JR S fs ns) (d : Nat) (fu : Nat) : ∀  (T30 : sS) (_ : RI T30) (_ : FR md_mo_test__p S T30), (0 ≤ Xi S 904 93) → (JR T30 fs ns) → (Xi T30 904 65 = 0 → (fs : Int) ≤ Xi T30 904 8 ∧ Xi T30 904 8 ≤ fs + ns) → (Xi T30 904 93 = Xi S 904 93) → (Xi T30 904 65 = 0 → Xi S 904 65 = 0 ∧ Xi S 904 8 ≤ Xi T30 904 8) → (Xi S 904 69 ≤ Xi T30 904 69) → (Hid (Xi S 904 65 = 0 → fo7 (tR S fs ns) 4 (Xi S 904 8 - fs) (te8 (tR S fs ns) isNow (Xi S 904 8 - fs)) ≠ -1)) → (Hid (Xi S 904 65 = 0 → ¬ bp7 (tR S fs ns) (Xi S 904 8 - fs))) → (gSq (gSq (cu S fs) (gTh (tR S fs ns))) (gT (tR S fs ns) 4) = cu T30 fs) → Pl fu lay0 (d + 5) m_mo_test 203 [(0, .ref 904), (1, iv isNow)] [] T30 (Q_mo_test__p S fs ns isNow) := by sorry
set_option maxRecDepth 100000 in
theorem c193_mo_test__p {S : sS} (hH : RI S) (fs : Nat) (ns : Nat) (isNow : Int) (hisNow : 0 ≤ isNow ∧ isNow ≤ 1) (hvl : VLR S fs ns) (hJR : JR S fs ns) (d : Nat) (fu : Nat) : ∀  (T34 : sS) (_ : RI T34) (_ : FR md_mo_test__p S T34), (Xi T34 904 8 = Xi S 904 8) → (Xi T34 904 65 = Xi S 904 65) → (Xi T34 904 66 = Xi S 904 66) → (Xi T34 904 69 = Xi S 904 69) → (Xi T34 904 93 = Xi S 904 93) → (0 ≤ Xi S 904 93) → (JR T34 fs ns) → (Hid (Xi S 904 65 = 0 → fo7 (tR S fs ns) 4 (Xi S 904 8 - fs) (te8 (tR S fs ns) isNow (Xi S 904 8 - fs)) ≠ -1)) → (Hid (Xi S 904 65 = 0 → ¬ bp7 (tR S fs ns) (Xi S 904 8 - fs))) → Pl fu lay0 (d + 5) m_mo_test 193 [(0, .ref 904), (1, iv isNow)] [] T34 (Q_mo_test__p S fs ns isNow) := by sorry
set_option maxRecDepth 100000 in
theorem c56_mo_test__p {S : sS} (hH : RI S) (fs : Nat) (ns : Nat) (isNow : Int) (hisNow : 0 ≤ isNow ∧ isNow ≤ 1) (hvl : VLR S fs ns) (hJR : JR S fs ns) (d : Nat) (fu : Nat) : ∀  (v2 : Int) (v3 : Int), (-2147483648 ≤ v2 ∧ v2 ≤ 2147483647) → (0 ≤ v3 ∧ v3 ≤ 1) → (v2 = Xi S 904 8) → (Xi S 904 65 = 0 → (v3 = 0 → fo7 (tR S fs ns) 4 (Xi S 904 8 - fs) (te8 (tR S fs ns) isNow (Xi S 904 8 - fs)) = -1) ∧ (v3 ≠ 0 → fo7 (tR S fs ns) 4 (Xi S 904 8 - fs) (te8 (tR S fs ns) isNow (Xi S 904 8 - fs)) ≠ -1)) → Pl fu lay0 (d + 5) m_mo_test 56 [(0, .ref 904), (1, iv isNow), (2, iv v2), (3, iv v3)] [] S (Q_mo_test__p S fs ns isNow) := by sorry
set_option maxRecDepth 100000 in
theorem c13_mo_test__p {S : sS} (hH : RI S) (fs : Nat) (ns : Nat) (isNow : Int) (hisNow : 0 ≤ isNow ∧ isNow ≤ 1) (hvl : VLR S fs ns) (hJR : JR S fs ns) (d : Nat) (fu : Nat) : ∀ (n13 : Nat) (_ : n13 ≤ fu) (v2 : Int) (v3 : Int) (v4 : Int), (-2147483648 ≤ v2 ∧ v2 ≤ 2147483647) → (0 ≤ v3 ∧ v3 ≤ 1) → (-2147483648 ≤ v4 ∧ v4 ≤ 2147483647) → (v2 = Xi S 904 8) → (Xi S 904 65 = 0 → Xi S 904 8 ≤ v4 ∧ v4 ≤ fs + ns) → (Xi S 904 65 = 0 → te8 (tR S fs ns) isNow (Xi S 904 8 - fs) = te8F (tR S fs ns) isNow (5141 - (v4 - fs - (Xi S 904 8 - fs))).toNat (v4 - fs)) → (Xi S 904 65 = 0 → (v3 = 0 → nIz (tR S fs ns) (Xi S 904 8 - fs) (v4 - fs)) ∧ (v3 ≠ 0 → yIs (tR S fs ns) (Xi S 904 8 - fs) (v4 - fs))) → Pl n13 lay0 (d + 5) m_mo_test 13 [(0, .ref 904), (1, iv isNow), (2, iv v2), (3, iv v3), (4, iv v4)] [] S (Q_mo_test__p S fs ns isNow) := by sorry
set_option maxRecDepth 100000 in
theorem t_mo_test__p {S : sS} (hH : RI S) (fs : Nat) (ns : Nat) (isNow : Int) (hisNow : 0 ≤ isNow ∧ isNow ≤ 1) (hvl : VLR S fs ns) (hJR : JR S fs ns) (d : Nat) : Mp lay0 (d + 6) m_mo_test [.ref 904, iv isNow] S (Q_mo_test__p S fs ns isNow) := by sorry
def md_mo_tests__p : List rec := [(904, 905, 8, 9), (904, 905, 65, 66), (904, 905, 66, 67), (904, 905, 69, 70), (904, 905, 78, 79), (904, 905, 93, 94), (904, 905, 94, 95), (904, 905, 99, 100), (904, 905, 100, 101), (904, 905, 101, 102), (950, 951, 0, 100000), (951, 952, 0, 100000), (952, 953, 0, 100000), (953, 954, 0, 100000), (954, 955, 0, 100000), (955, 956, 0, 100000), (956, 957, 0, 100000), (957, 958, 0, 100000), (958, 959, 0, 100000), (959, 960, 0, 100000), (960, 961, 0, 100000), (961, 962, 0, 100000), (962, 963, 0, 100000)]
abbrev Q_mo_tests__p (S : sS) (fs : Nat) (ns : Nat) : pst := fun r S1 => RI S1 ∧ FR md_mo_tests__p S S1 ∧ (r = none ∧ (gSq (cu S fs) (gTsR (tR S fs ns)) = cu S1 fs) ∧ (Xi S 904 69 ≤ Xi S1 904 69) ∧ (Xi S1 904 65 = 0 → Xi S 904 65 = 0 ∧ Xi S 904 8 ≤ Xi S1 904 8) ∧ (JR S1 fs ns))
set_option maxRecDepth 100000 in
theorem t_mo_tests__p {S : sS} (hH : RI S) (fs : Nat) (ns : Nat) (hvl : VLR S fs ns) (hJR : JR S fs ns) (d : Nat) : Mp lay0 (d + 7) m_mo_tests [.ref 904] S (Q_mo_tests__p S fs ns) := by sorry
def md_mo_partTwo__p : List rec := [(904, 905, 8, 9), (904, 905, 65, 66), (904, 905, 66, 67), (904, 905, 69, 70), (904, 905, 78, 79), (904, 905, 93, 94), (904, 905, 94, 95), (904, 905, 99, 100), (904, 905, 100, 101), (904, 905, 101, 102), (950, 951, 0, 100000), (951, 952, 0, 100000), (952, 953, 0, 100000), (953, 954, 0, 100000), (954, 955, 0, 100000), (955, 956, 0, 100000), (956, 957, 0, 100000), (957, 958, 0, 100000), (958, 959, 0, 100000), (959, 960, 0, 100000), (960, 961, 0, 100000), (961, 962, 0, 100000), (962, 963, 0, 100000)]
abbrev Q_mo_partTwo__p (S : sS) (fs : Nat) (ns : Nat) : pst := fun r S1 => RI S1 ∧ FR md_mo_partTwo__p S S1 ∧ (r = none ∧ (gO2 (tR S fs ns) = cu S1 fs) ∧ (Xi S 904 69 ≤ Xi S1 904 69) ∧ (Xi S1 904 65 = 0 → Xi S 904 65 = 0 ∧ Xi S 904 8 ≤ Xi S1 904 8) ∧ (JR S1 fs ns))
set_option maxRecDepth 100000 in
theorem t_mo_partTwo__p {S : sS} (hH : RI S) (fs : Nat) (ns : Nat) (hvl : VLR S fs ns) (hJR : JR S fs ns) (hb : Xi S 904 65 = 0) (h0 : Xi S 904 8 = fs) (hk : tR S fs ns 0 ≠ 100 ∧ tR S fs ns 0 ≠ 103 ∧ tR S fs ns 0 ≠ 107) (d : Nat) : Mp lay0 (d + 8) m_mo_partTwo [.ref 904] S (Q_mo_partTwo__p S fs ns) := by sorry
def md_mo_take__q : List rec := [(904, 905, 8, 9), (904, 905, 65, 66), (904, 905, 66, 67)]
abbrev Q_mo_take__q (S : sS) (fs : Nat) (ns : Nat) (k : Int) : pst := fun r S1 => RI S1 ∧ FR md_mo_take__q S S1 ∧ (r = none ∧ (gSq (cu S fs) (gT (tR S fs ns) 103) = cu S1 fs) ∧ (Xi S1 904 65 = 0 → Xi S 904 65 = 0 ∧ Xi S1 904 8 = Xi S 904 8 + 1 ∧ tR S fs ns (Xi S 904 8 - fs) = 103))
set_option maxRecDepth 100000 in
theorem t_mo_take__q {S : sS} (hH : RI S) (fs : Nat) (ns : Nat) (k : Int) (hk : 2 ≤ k ∧ k ≤ 154) (hvl : VLR S fs ns) (hin : INR S fs ns) (hk : k = 46) (d : Nat) : Mp lay0 (d + 2) m_mo_take [.ref 904, iv k] S (Q_mo_take__q S fs ns k) := by sorry
end
section
section
def md_mo_phrase__p : List rec := [(904, 905, 8, 9), (904, 905, 65, 66), (904, 905, 66, 67), (904, 905, 69, 70), (904, 905, 78, 79), (904, 905, 93, 94), (904, 905, 98, 99), (904, 905, 99, 100), (904, 905, 100, 101), (904, 905, 101, 102), (950, 951, 0, 100000), (951, 952, 0, 100000), (952, 953, 0, 100000), (953, 954, 0, 100000), (954, 955, 0, 100000), (955, 956, 0, 100000), (956, 957, 0, 100000), (957, 958, 0, 100000), (958, 959, 0, 100000), (959, 960, 0, 100000), (960, 961, 0, 100000), (961, 962, 0, 100000), (962, 963, 0, 100000), (963, 964, 0, 100000), (964, 965, 0, 100000), (965, 966, 0, 100000)]
abbrev Q_mo_phrase__p (S : sS) (fs : Nat) (ns : Nat) : pst := fun r S1 => RI S1 ∧ FR md_mo_phrase__p S S1 ∧ (r = none ∧ (gSq (cu S fs) (gP1R (tR S fs ns)) = cu S1 fs) ∧ (Xi S 904 69 ≤ Xi S1 904 69) ∧ (Xi S1 904 65 = 0 → Xi S 904 65 = 0 ∧ Xi S 904 8 ≤ Xi S1 904 8) ∧ (JR S1 fs ns))
set_option maxRecDepth 100000 in
theorem c409_mo_phrase__p {S : sS} (hH : RI S) (fs : Nat) (ns : Nat) (hvl : VLR S fs ns) (hJR : JR S fs ns) (d : Nat) (fu : Nat) : ∀  (T1 : sS) (_ : RI T1) (_ : FR md_mo_phrase__p S T1), (gSq (cu S fs) (gPhR (tR S fs ns)) = cu T1 fs) → (INR T1 fs ns) → (Xi T1 904 65 = 0 → Xi S 904 65 = 0 ∧ Xi S 904 8 ≤ Xi T1 904 8) → (Xi S 904 69 ≤ Xi T1 904 69) → (Xi T1 904 65 = 0 → Xi T1 904 93 ≠ 0) → Pl fu lay0 (d + 6) m_mo_phrase 409 [(0, .ref 904)] [] T1 (Q_mo_phrase__p S fs ns) := by sorry
set_option maxRecDepth 100000 in
theorem c395_mo_phrase__p {S : sS} (hH : RI S) (fs : Nat) (ns : Nat) (hvl : VLR S fs ns) (hJR : JR S fs ns) (d : Nat) (fu : Nat) : ∀  (T4 : sS) (_ : RI T4) (_ : FR md_mo_phrase__p S T4), (Xi T4 904 65 = Xi S 904 65) → (Xi T4 904 66 = Xi S 904 66) → (Xi T4 904 69 = Xi S 904 69) → (Xi S 904 65 = 0 → Xi T4 904 8 = Xi S 904 8 + 1) → (Hid (Xi S 904 65 = 0 → tR S fs ns (Xi S 904 8 - fs) ≠ 43 ∧ tR S fs ns (Xi S 904 8 - fs) ≠ 44 ∧ tR S fs ns (Xi S 904 8 - fs) ≠ 45 ∧ tR S fs ns (Xi S 904 8 - fs) ≠ 46 ∧ tR S fs ns (Xi S 904 8 - fs) ≠ 47 ∧ tR S fs ns (Xi S 904 8 - fs) ≠ 48 ∧ tR S fs ns (Xi S 904 8 - fs) ≠ 49)) → Pl fu lay0 (d + 6) m_mo_phrase 395 [(0, .ref 904)] [] T4 (Q_mo_phrase__p S fs ns) := by sorry
set_option maxRecDepth 100000 in
theorem c96_mo_phrase__p {S : sS} (hH : RI S) (fs : Nat) (ns : Nat) (hvl : VLR S fs ns) (hJR : JR S fs ns) (d : Nat) (fu : Nat) : ∀  (T7 : sS) (_ : RI T7) (_ : FR md_mo_phrase__p S T7) (v1 : Int), (-2147483648 ≤ v1 ∧ v1 ≤ 2147483647) → (Xi T7 904 65 = 0) → (Xi S 904 65 = 0) → (Xi T7 904 8 = Xi S 904 8 + 1) → (Xi T7 904 69 = Xi S 904 69) → (Xi T7 904 93 = Xi S 904 93) → (0 ≤ Xi S 904 93 ∧ Xi S 904 93 ≤ 1699) → ((fs : Int) ≤ Xi S 904 8 ∧ Xi S 904 8 + 1 ≤ fs + ns) → (JR T7 fs ns) → (tR S fs ns (Xi S 904 8 - fs) = 43) → Pl fu lay0 (d + 6) m_mo_phrase 96 [(0, .ref 904), (1, iv v1)] [] T7 (Q_mo_phrase__p S fs ns) := by sorry
set_option maxRecDepth 100000 in
theorem c134_mo_phrase__p {S : sS} (hH : RI S) (fs : Nat) (ns : Nat) (hvl : VLR S fs ns) (hJR : JR S fs ns) (d : Nat) (fu : Nat) : ∀  (T12 : sS) (_ : RI T12) (_ : FR md_mo_phrase__p S T12) (v1 : Int), (-2147483648 ≤ v1 ∧ v1 ≤ 2147483647) → (Xi T12 904 65 = 0) → (Xi S 904 65 = 0) → (Xi T12 904 8 = Xi S 904 8 + 1) → (Xi T12 904 69 = Xi S 904 69) → (Xi T12 904 93 = Xi S 904 93) → (0 ≤ Xi S 904 93 ∧ Xi S 904 93 ≤ 1699) → ((fs : Int) ≤ Xi S 904 8 ∧ Xi S 904 8 + 1 ≤ fs + ns) → (JR T12 fs ns) → (tR S fs ns (Xi S 904 8 - fs) = 44) → Pl fu lay0 (d + 6) m_mo_phrase 134 [(0, .ref 904), (1, iv v1)] [] T12 (Q_mo_phrase__p S fs ns) := by sorry
set_option maxRecDepth 100000 in
theorem c149_mo_phrase__p {S : sS} (hH : RI S) (fs : Nat) (ns : Nat) (hvl : VLR S fs ns) (hJR : JR S fs ns) (d : Nat) (fu : Nat) : ∀  (T15 : sS) (_ : RI T15) (_ : FR md_mo_phrase__p S T15) (v1 : Int), (-2147483648 ≤ v1 ∧ v1 ≤ 2147483647) → (Xi T15 904 65 = 0) → (Xi S 904 65 = 0) → (Xi T15 904 8 = Xi S 904 8 + 1) → (Xi T15 904 69 = Xi S 904 69) → (Xi T15 904 93 = Xi S 904 93) → (0 ≤ Xi S 904 93 ∧ Xi S 904 93 ≤ 1699) → ((fs : Int) ≤ Xi S 904 8 ∧ Xi S 904 8 + 1 ≤ fs + ns) → (JR T15 fs ns) → (tR S fs ns (Xi S 904 8 - fs) = 45) → Pl fu lay0 (d + 6) m_mo_phrase 149 [(0, .ref 904), (1, iv v1)] [] T15 (Q_mo_phrase__p S fs ns) := by sorry
set_option maxRecDepth 100000 in
theorem c236_mo_phrase__p {S : sS} (hH : RI S) (fs : Nat) (ns : Nat) (hvl : VLR S fs ns) (hJR : JR S fs ns) (d : Nat) (fu : Nat) : ∀  (T23 : sS) (_ : RI T23) (_ : FR md_mo_phrase__p S T23), (Xi T23 904 65 = 0) → (Xi S 904 65 = 0) → (Xi T23 904 8 = Xi S 904 8 + 1) → (Xi T23 904 69 = Xi S 904 69) → (Xi T23 904 93 = Xi S 904 93) → (0 ≤ Xi S 904 93 ∧ Xi S 904 93 ≤ 1699) → ((fs : Int) ≤ Xi S 904 8 ∧ Xi S 904 8 + 1 ≤ fs + ns) → (JR T23 fs ns) → (tR S fs ns (Xi S 904 8 - fs) = 46 ∨ tR S fs ns (Xi S 904 8 - fs) = 47) → Pl fu lay0 (d + 6) m_mo_phrase 236 [(0, .ref 904)] [] T23 (Q_mo_phrase__p S fs ns) := by sorry
set_option maxRecDepth 100000 in
theorem c218_mo_phrase__p {S : sS} (hH : RI S) (fs : Nat) (ns : Nat) (hvl : VLR S fs ns) (hJR : JR S fs ns) (d : Nat) (fu : Nat) : ∀  (T30 : sS) (_ : RI T30) (_ : FR md_mo_phrase__p S T30) (v1 : Int) (v2 : Int), (-2147483648 ≤ v1 ∧ v1 ≤ 2147483647) → (-2147483648 ≤ v2 ∧ v2 ≤ 2147483647) → (Xi T30 904 65 = 0) → (Xi S 904 65 = 0) → (Xi T30 904 8 = Xi S 904 8 + 1) → (Xi T30 904 69 = Xi S 904 69) → (Xi T30 904 93 = Xi S 904 93) → (0 ≤ Xi S 904 93 ∧ Xi S 904 93 ≤ 1699) → ((fs : Int) ≤ Xi S 904 8 ∧ Xi S 904 8 + 1 ≤ fs + ns) → (JR T30 fs ns) → ((tR S fs ns (Xi S 904 8 - fs) = 46 ∧ v2 = 146) ∨ (tR S fs ns (Xi S 904 8 - fs) = 47 ∧ v2 = 147)) → Pl fu lay0 (d + 6) m_mo_phrase 218 [(0, .ref 904), (1, iv v1), (2, iv v2)] [] T30 (Q_mo_phrase__p S fs ns) := by sorry
set_option maxRecDepth 100000 in
theorem c374_mo_phrase__p {S : sS} (hH : RI S) (fs : Nat) (ns : Nat) (hvl : VLR S fs ns) (hJR : JR S fs ns) (d : Nat) (fu : Nat) : ∀  (T33 : sS) (_ : RI T33) (_ : FR md_mo_phrase__p S T33) (v1 : Int), (-2147483648 ≤ v1 ∧ v1 ≤ 2147483647) → (Xi T33 904 65 = 0) → (Xi S 904 65 = 0) → (Xi T33 904 8 = Xi S 904 8 + 1) → (Xi T33 904 69 = Xi S 904 69) → (Xi T33 904 93 = Xi S 904 93) → (0 ≤ Xi S 904 93 ∧ Xi S 904 93 ≤ 1699) → ((fs : Int) ≤ Xi S 904 8 ∧ Xi S 904 8 + 1 ≤ fs + ns) → (JR T33 fs ns) → (tR S fs ns (Xi S 904 8 - fs) = 48) → Pl fu lay0 (d + 6) m_mo_phrase 374 [(0, .ref 904), (1, iv v1)] [] T33 (Q_mo_phrase__p S fs ns) := by sorry
set_option maxRecDepth 100000 in
theorem c345_mo_phrase__p {S : sS} (hH : RI S) (fs : Nat) (ns : Nat) (hvl : VLR S fs ns) (hJR : JR S fs ns) (d : Nat) (fu : Nat) : ∀  (T36 : sS) (_ : RI T36) (_ : FR md_mo_phrase__p S T36), (Xi S 904 65 = 0) → (Xi T36 904 65 = 0 → Xi S 904 8 ≤ Xi T36 904 8) → (Xi S 904 69 ≤ Xi T36 904 69) → (Xi T36 904 93 = Xi S 904 93) → (0 ≤ Xi S 904 93 ∧ Xi S 904 93 ≤ 1699) → (JR T36 fs ns) → (gR (tR S fs ns) (Xi S 904 8 - fs + 1) = cu T36 fs) → (Hid ((Xi T36 953 (Xi S 904 93).toNat ≠ 0 → Xi T36 904 65 = 0 ∧ th7 (tR S fs ns (Xi T36 904 8 - fs))) ∧ (Xi T36 953 (Xi S 904 93).toNat = 0 → Xi T36 904 65 = 0 → ¬ th7 (tR S fs ns (Xi T36 904 8 - fs))))) → (tR S fs ns (Xi S 904 8 - fs) = 49) → Pl fu lay0 (d + 6) m_mo_phrase 345 [(0, .ref 904)] [] T36 (Q_mo_phrase__p S fs ns) := by sorry
set_option maxRecDepth 100000 in
theorem c281_mo_phrase__p {S : sS} (hH : RI S) (fs : Nat) (ns : Nat) (hvl : VLR S fs ns) (hJR : JR S fs ns) (d : Nat) (fu : Nat) : ∀  (T40 : sS) (_ : RI T40) (_ : FR md_mo_phrase__p S T40) (v1 : Int), (-2147483648 ≤ v1 ∧ v1 ≤ 2147483647) → (Xi T40 904 65 = 0) → (Xi S 904 65 = 0) → (Xi T40 904 8 = Xi S 904 8 + 1) → (Xi T40 904 69 = Xi S 904 69) → (Xi T40 904 93 = Xi S 904 93) → (0 ≤ Xi S 904 93 ∧ Xi S 904 93 ≤ 1699) → ((fs : Int) ≤ Xi S 904 8 ∧ Xi S 904 8 + 1 ≤ fs + ns) → (JR T40 fs ns) → (tR S fs ns (Xi S 904 8 - fs) = 49) → Pl fu lay0 (d + 6) m_mo_phrase 281 [(0, .ref 904), (1, iv v1)] [] T40 (Q_mo_phrase__p S fs ns) := by sorry
set_option maxRecDepth 100000 in
theorem t_mo_phrase__p {S : sS} (hH : RI S) (fs : Nat) (ns : Nat) (hvl : VLR S fs ns) (hJR : JR S fs ns) (d : Nat) : Mp lay0 (d + 7) m_mo_phrase [.ref 904] S (Q_mo_phrase__p S fs ns) := by sorry
def md_mo_phrases__p : List rec := [(904, 905, 8, 9), (904, 905, 65, 66), (904, 905, 66, 67), (904, 905, 69, 70), (904, 905, 78, 79), (904, 905, 93, 94), (904, 905, 98, 99), (904, 905, 99, 100), (904, 905, 100, 101), (904, 905, 101, 102), (950, 951, 0, 100000), (951, 952, 0, 100000), (952, 953, 0, 100000), (953, 954, 0, 100000), (954, 955, 0, 100000), (955, 956, 0, 100000), (956, 957, 0, 100000), (957, 958, 0, 100000), (958, 959, 0, 100000), (959, 960, 0, 100000), (960, 961, 0, 100000), (961, 962, 0, 100000), (962, 963, 0, 100000), (963, 964, 0, 100000), (964, 965, 0, 100000), (965, 966, 0, 100000)]
abbrev Q_mo_phrases__p (S : sS) (fs : Nat) (ns : Nat) : pst := fun r S1 => RI S1 ∧ FR md_mo_phrases__p S S1 ∧ (r = none ∧ (gSq (cu S fs) (gPsR (tR S fs ns)) = cu S1 fs) ∧ (Xi S 904 69 ≤ Xi S1 904 69) ∧ (Xi S1 904 65 = 0 → Xi S 904 65 = 0 ∧ Xi S 904 8 ≤ Xi S1 904 8) ∧ (JR S1 fs ns))
set_option maxRecDepth 100000 in
theorem t_mo_phrases__p {S : sS} (hH : RI S) (fs : Nat) (ns : Nat) (hvl : VLR S fs ns) (hJR : JR S fs ns) (d : Nat) : Mp lay0 (d + 8) m_mo_phrases [.ref 904] S (Q_mo_phrases__p S fs ns) := by sorry
end
end
section
section
/-- 19: which of both is one -/
def ONR (S : sS) (T : Int → Int) : Prop := ∃ a b : Int, gSq (gN T 0) (gT T 21) = (1, a) ∧ gSq (gSq (gSq (gSq (gN T 0) (gT T 21)) (gHow T)) (gR T)) (gT T 11) = (1, b) ∧ (Xi S 904 79 ≠ 0 ↔ T a = 22) ∧ (Xi S 904 80 ≠ 0 ↔ T b = 22)
theorem onr_e {S U : sS} {T : Int → Int} (h : ONR S T) (a : Xi U 904 79 = Xi S 904 79) (b : Xi U 904 80 = Xi S 904 80) : ONR U T := by sorry
def md_mo_others__p : List rec := [(904, 905, 8, 9), (904, 905, 65, 66), (904, 905, 66, 67), (904, 905, 69, 70), (904, 905, 70, 71), (904, 905, 79, 80), (904, 905, 80, 81), (950, 951, 0, 100000), (951, 952, 0, 100000)]
abbrev Q_mo_others__p (S : sS) (fs : Nat) (ns : Nat) (tells : Int) : pst := fun r S1 => RI S1 ∧ FR md_mo_others__p S S1 ∧ (r = none ∧ (gOo (tR S fs ns) (tells - 100) = cu S1 fs) ∧ (Xi S 904 69 ≤ Xi S1 904 69) ∧ (tells = 112 ∨ tells = 113 ∨ tells = 121 → JR S1 fs ns) ∧ ((tells = 112 → Xi S1 904 70 = 17) ∧ (tells = 113 → Xi S1 904 70 = 18) ∧ (tells = 121 → Xi S1 904 70 = 19) ∧ (tells ≠ 112 → tells ≠ 113 → tells ≠ 121 → Xi S1 904 70 = 20)) ∧ (Xi S1 904 65 = 0 → tells = 121 → ONR S1 (tR S fs ns)) ∧ (Xi S1 904 65 = 0 → Xi S 904 65 = 0 ∧ Xi S 904 8 ≤ Xi S1 904 8) ∧ (INR S1 fs ns))
set_option maxRecDepth 100000 in
theorem c168_mo_others__p {S : sS} (hH : RI S) (fs : Nat) (ns : Nat) (tells : Int) (htells : 0 ≤ tells ∧ tells ≤ 154) (hvl : VLR S fs ns) (hJR : JR S fs ns) (hb : Xi S 904 65 = 0) (h0 : Xi S 904 8 = fs) (d : Nat) (fu : Nat) : ∀ (n168 : Nat) (_ : n168 ≤ fu) (T1 : sS) (_ : RI T1) (_ : FR md_mo_others__p S T1) (v2 : Int) (v3 : Int), (-2147483648 ≤ v2 ∧ v2 ≤ 2147483647) → (-2147483648 ≤ v3 ∧ v3 ≤ 2147483647) → (v2 = Xi S 904 8) → (Xi T1 904 65 = 0) → (Xi T1 904 70 = 20) → (Xi T1 904 69 = Xi S 904 69) → (INR T1 fs ns) → ((fs : Int) ≤ Xi T1 904 8 ∧ Xi T1 904 8 ≤ fs + ns) → (tells ≠ 112) → (tells ≠ 113) → (tells ≠ 121) → (gLoF (tR S fs ns) 16 104 5000 0 = gLoF (tR S fs ns) 16 104 (5000 - (Xi T1 904 8 - fs - 0)).toNat (Xi T1 904 8 - fs)) → (tR S fs ns (Xi T1 904 8 - fs) = un7 v3 ∧ v3 = tr7 (un7 v3)) → ((100 ≤ v3 → un7 v3 = v3 - 100) ∧ (v3 < 100 → 100 ≤ un7 v3) ∧ (v3 = 3 → un7 v3 = 100) ∧ (v3 ≠ 3 → v3 = tr7 (un7 v3) → un7 v3 ≠ 100)) → ((v3 = 44 → un7 v3 = 104) ∧ (v3 ≠ 44 → v3 = tr7 (un7 v3) → un7 v3 ≠ 104)) → Pl n168 lay0 (d + 3) m_mo_others 168 [(0, .ref 904), (2, iv v2), (3, iv v3)] [] T1 (Q_mo_others__p S fs ns tells) := by sorry
set_option maxRecDepth 100000 in
theorem t_mo_others__p {S : sS} (hH : RI S) (fs : Nat) (ns : Nat) (tells : Int) (htells : 0 ≤ tells ∧ tells ≤ 154) (hvl : VLR S fs ns) (hJR : JR S fs ns) (hb : Xi S 904 65 = 0) (h0 : Xi S 904 8 = fs) (d : Nat) : Mp lay0 (d + 4) m_mo_others [.ref 904, iv tells] S (Q_mo_others__p S fs ns tells) := by sorry
end
end
section
section
/-! what rest keeps -/
theorem rsr_10 {S : sS} {T : Int → Int} {a r : Int} (h : T a = 0 ∧ T (a + 1) = 18) (s : Xi S 904 70 = 10) (w : (T (a + 2) ≠ 7 ∧ Xi S 904 78 = -1) ∨ (T (a + 2) = 7 ∧ T (a + 3) = 20 ∧ Xi S 904 78 = -2) ∨ (T (a + 2) = 7 ∧ T (a + 3) ≠ 20 ∧ Xi S 904 78 = r)) : RSR S T a r := by sorry
theorem rsr_11 {S : sS} {T : Int → Int} {a r : Int} (h : T a = 1 ∧ T (a + 1) = 27) (s : Xi S 904 70 = 11) (w : (T (a + 2) ≠ 28 ∧ Xi S 904 78 = -1) ∨ (T (a + 2) = 28 ∧ Xi S 904 78 = r)) : RSR S T a r := by sorry
theorem rsr_12 {S : sS} {T : Int → Int} {a r : Int} (h : art7 (T a)) (n1 : ¬ (T a = 0 ∧ T (a + 1) = 18)) (n2 : ¬ (T a = 1 ∧ T (a + 1) = 27)) (s : Xi S 904 70 = 12) (w : Xi S 904 78 = r) (p : (T (re7 T (a + 1)) = 103 ∧ Xi S 904 73 = 0) ∨ (T (re7 T (a + 1)) ≠ 103 ∧ Xi S 904 73 = pw7 (T (re7 T (a + 1))) ∧ Xi S 904 74 = r + 1)) : RSR S T a r := by sorry
theorem rsr_15 {S : sS} {T : Int → Int} {a r : Int} (s : Xi S 904 70 = 15) (w : Xi S 904 78 = r) (p : (T a = 6 ∧ Xi S 904 75 = 1 ∧ Xi S 904 76 = 0) ∨ (T a = 32 ∧ Xi S 904 75 = 0 ∧ Xi S 904 76 = 1)) : RSR S T a r := by sorry
theorem rsr_f {S : sS} {T : Int → Int} {a r : Int} (h : T a = 100) (w : Xi S 904 78 = r) (p : (T (re7 T a) = 7 ∧ Xi S 904 70 = 14 ∧ Xi S 904 74 = r + 1) ∨ ((T (re7 T a) = 16 ∨ T (re7 T a) = 104) ∧ Xi S 904 70 = 16) ∨ (T (re7 T a) ≠ 7 ∧ T (re7 T a) ≠ 16 ∧ T (re7 T a) ≠ 104 ∧ Xi S 904 70 = 15)) : RSR S T a r := by sorry
theorem rsr_13 {S : sS} {T : Int → Int} {a r : Int} (h1 : T a ≠ 100) (h2 : T a ≠ 6) (h3 : T a ≠ 32) (h4 : ¬ art7 (T a)) (s : Xi S 904 70 = 13) (w : Xi S 904 73 = pw7 (T a)) (p : Xi S 904 74 = r) : RSR S T a r := by sorry
theorem gR_at {W : sS} {f : Nat} {T : Int → Int} {a : Int} (e : gR T a = cu W f) (b : Xi W 904 65 = 0) : Xi W 904 8 - f = re7 T a := by sorry
theorem gBt_cs (T : Int → Int) (a : Int) : gBt T a = (0, a) ∨ ∃ b, a < b ∧ gBt T a = (1, b) := by sorry
theorem gBt_z8 {T : Int → Int} {x y z : Int} {f : Nat} (h : gBt T (x - f) = (z, y - f)) (hz : z = 0) : y = x := by sorry
theorem gBt_zz {T : Int → Int} {a b z : Int} (h : gBt T a = (z, b)) (hz : z = 0) : gBt T a = (0, a) := by sorry
theorem gBt_11 {T : Int → Int} {a b z : Int} (h : gBt T a = (z, b)) (hz : z = 1) : gBt T a = (1, b) := by sorry
theorem gBt_up {T : Int → Int} {x y z : Int} {f : Nat} (h : gBt T (x - f) = (z, y - f)) (hz : z = 1) : x < y := by sorry
def md_mo_rest__p : List rec := [(904, 905, 8, 9), (904, 905, 65, 66), (904, 905, 66, 67), (904, 905, 69, 70), (904, 905, 70, 71), (904, 905, 73, 74), (904, 905, 74, 75), (904, 905, 75, 76), (904, 905, 76, 77), (904, 905, 78, 79), (950, 951, 0, 100000), (951, 952, 0, 100000)]
abbrev Q_mo_rest__p (S : sS) (fs : Nat) (ns : Nat) : pst := fun r S1 => RI S1 ∧ FR md_mo_rest__p S S1 ∧ (r = none ∧ (gRe (tR S fs ns) (Xi S 904 8 - fs) = cu S1 fs) ∧ (Xi S 904 69 ≤ Xi S1 904 69) ∧ (10 ≤ Xi S1 904 70 ∧ Xi S1 904 70 ≤ 16) ∧ (Xi S1 904 65 = 0 → RSR S1 (tR S fs ns) (Xi S 904 8 - fs) (Xi S 904 69)) ∧ ((Xi S1 904 70 = 15 ∨ Xi S1 904 70 = 16) → tR S fs ns (Xi S 904 8 - fs) = 100 → Xi S1 904 75 = Xi S 904 75 ∧ Xi S1 904 76 = Xi S 904 76) ∧ (Xi S1 904 65 = 0 → Xi S 904 65 = 0 ∧ Xi S 904 8 ≤ Xi S1 904 8) ∧ (JR S1 fs ns))
set_option maxRecDepth 100000 in
theorem c32_mo_rest__p {S : sS} (hH : RI S) (fs : Nat) (ns : Nat) (hvl : VLR S fs ns) (hJR : JR S fs ns) (hb : Xi S 904 65 = 0) (d : Nat) (fu : Nat) : ∀  (T1 : sS) (_ : RI T1) (_ : FR md_mo_rest__p S T1), (Xi T1 904 8 = Xi S 904 8) → (Xi T1 904 65 = 0) → (Xi T1 904 69 = Xi S 904 69) → (Xi T1 904 73 = 0) → (Xi T1 904 75 = Xi S 904 75) → (Xi T1 904 76 = Xi S 904 76) → (JR T1 fs ns) → (tR S fs ns (Xi S 904 8 - fs) = 0 ∧ tR S fs ns (Xi S 904 8 - fs + 1) = 18) → Pl fu lay0 (d + 3) m_mo_rest 32 [(0, .ref 904)] [] T1 (Q_mo_rest__p S fs ns) := by sorry
set_option maxRecDepth 100000 in
theorem c133_mo_rest__p {S : sS} (hH : RI S) (fs : Nat) (ns : Nat) (hvl : VLR S fs ns) (hJR : JR S fs ns) (hb : Xi S 904 65 = 0) (d : Nat) (fu : Nat) : ∀  (T10 : sS) (_ : RI T10) (_ : FR md_mo_rest__p S T10), (Xi T10 904 8 = Xi S 904 8) → (Xi T10 904 65 = 0) → (Xi T10 904 69 = Xi S 904 69) → (Xi T10 904 73 = 0) → (Xi T10 904 75 = Xi S 904 75) → (Xi T10 904 76 = Xi S 904 76) → (JR T10 fs ns) → (tR S fs ns (Xi S 904 8 - fs) = 1 ∧ tR S fs ns (Xi S 904 8 - fs + 1) = 27) → Pl fu lay0 (d + 3) m_mo_rest 133 [(0, .ref 904)] [] T10 (Q_mo_rest__p S fs ns) := by sorry
set_option maxRecDepth 100000 in
theorem c204_mo_rest__p {S : sS} (hH : RI S) (fs : Nat) (ns : Nat) (hvl : VLR S fs ns) (hJR : JR S fs ns) (hb : Xi S 904 65 = 0) (d : Nat) (fu : Nat) : ∀  (T19 : sS) (_ : RI T19) (_ : FR md_mo_rest__p S T19), (Xi T19 904 8 = Xi S 904 8) → (Xi T19 904 65 = 0) → (Xi T19 904 69 = Xi S 904 69) → (Xi T19 904 73 = 0) → (Xi T19 904 75 = Xi S 904 75) → (Xi T19 904 76 = Xi S 904 76) → (JR T19 fs ns) → (art7 (tR S fs ns (Xi S 904 8 - fs))) → (¬ (tR S fs ns (Xi S 904 8 - fs) = 0 ∧ tR S fs ns (Xi S 904 8 - fs + 1) = 18)) → (¬ (tR S fs ns (Xi S 904 8 - fs) = 1 ∧ tR S fs ns (Xi S 904 8 - fs + 1) = 27)) → Pl fu lay0 (d + 3) m_mo_rest 204 [(0, .ref 904)] [] T19 (Q_mo_rest__p S fs ns) := by sorry
set_option maxRecDepth 100000 in
theorem c313_mo_rest__p {S : sS} (hH : RI S) (fs : Nat) (ns : Nat) (hvl : VLR S fs ns) (hJR : JR S fs ns) (hb : Xi S 904 65 = 0) (d : Nat) (fu : Nat) : ∀  (T28 : sS) (_ : RI T28) (_ : FR md_mo_rest__p S T28), (Xi T28 904 8 = Xi S 904 8) → (Xi T28 904 65 = 0) → (Xi T28 904 69 = Xi S 904 69) → (Xi T28 904 73 = 0) → (Xi T28 904 70 = 15) → (JR T28 fs ns) → ((tR S fs ns (Xi S 904 8 - fs) = 6 ∧ Xi T28 904 75 = 1 ∧ Xi T28 904 76 = 0) ∨ (tR S fs ns (Xi S 904 8 - fs) = 32 ∧ Xi T28 904 75 = 0 ∧ Xi T28 904 76 = 1)) → Pl fu lay0 (d + 3) m_mo_rest 313 [(0, .ref 904)] [] T28 (Q_mo_rest__p S fs ns) := by sorry
set_option maxRecDepth 100000 in
theorem c276_mo_rest__p {S : sS} (hH : RI S) (fs : Nat) (ns : Nat) (hvl : VLR S fs ns) (hJR : JR S fs ns) (hb : Xi S 904 65 = 0) (d : Nat) (fu : Nat) : ∀  (T32 : sS) (_ : RI T32) (_ : FR md_mo_rest__p S T32) (v1 : Int), (-2147483648 ≤ v1 ∧ v1 ≤ 2147483647) → (Xi T32 904 8 = Xi S 904 8) → (Xi T32 904 65 = 0) → (Xi T32 904 69 = Xi S 904 69) → (Xi T32 904 73 = 0) → (Xi T32 904 75 = Xi S 904 75) → (Xi T32 904 76 = Xi S 904 76) → (JR T32 fs ns) → ((tR S fs ns (Xi S 904 8 - fs) = 6 ∧ v1 = 106) ∨ (tR S fs ns (Xi S 904 8 - fs) = 32 ∧ v1 = 132)) → Pl fu lay0 (d + 3) m_mo_rest 276 [(0, .ref 904), (1, iv v1)] [] T32 (Q_mo_rest__p S fs ns) := by sorry
set_option maxRecDepth 100000 in
theorem c413_mo_rest__p {S : sS} (hH : RI S) (fs : Nat) (ns : Nat) (hvl : VLR S fs ns) (hJR : JR S fs ns) (hb : Xi S 904 65 = 0) (d : Nat) (fu : Nat) : ∀ (n413 : Nat) (_ : n413 ≤ fu) (T40 : sS) (_ : RI T40) (_ : FR md_mo_rest__p S T40), (Xi T40 904 75 = Xi S 904 75) → (Xi T40 904 76 = Xi S 904 76) → (Xi T40 904 65 = 0 → Xi S 904 8 ≤ Xi T40 904 8) → (Xi S 904 69 ≤ Xi T40 904 69) → (Xi T40 904 70 = 16) → (Xi T40 904 78 = Xi S 904 69) → (JR T40 fs ns) → (Xi T40 904 65 = 0 → (fs : Int) ≤ Xi T40 904 8 ∧ Xi T40 904 8 ≤ fs + ns) → (tR S fs ns (Xi S 904 8 - fs) = 100) → (Hid ((tR S fs ns) (re7 (tR S fs ns) (Xi S 904 8 - fs)) = 16 ∨ (tR S fs ns) (re7 (tR S fs ns) (Xi S 904 8 - fs)) = 104)) → (FUL (gRe (tR S fs ns) (Xi S 904 8 - fs)) (gRn (tR S fs ns)) ns T40 fs) → Pl n413 lay0 (d + 3) m_mo_rest 413 [(0, .ref 904)] [] T40 (Q_mo_rest__p S fs ns) := by sorry
set_option maxRecDepth 100000 in
theorem c407_mo_rest__p {S : sS} (hH : RI S) (fs : Nat) (ns : Nat) (hvl : VLR S fs ns) (hJR : JR S fs ns) (hb : Xi S 904 65 = 0) (d : Nat) (fu : Nat) : ∀  (T43 : sS) (_ : RI T43) (_ : FR md_mo_rest__p S T43), (Xi T43 904 75 = Xi S 904 75) → (Xi T43 904 76 = Xi S 904 76) → (Xi T43 904 65 = 0) → (Xi S 904 8 ≤ Xi T43 904 8) → (Xi S 904 69 ≤ Xi T43 904 69) → (Xi T43 904 78 = Xi S 904 69) → (JR T43 fs ns) → ((fs : Int) ≤ Xi T43 904 8 ∧ Xi T43 904 8 ≤ fs + ns) → (gR (tR S fs ns) (Xi S 904 8 - fs) = cu T43 fs) → (tR S fs ns (Xi S 904 8 - fs) = 100) → ((tR S fs ns (Xi T43 904 8 - fs) = 16 ∨ tR S fs ns (Xi T43 904 8 - fs) = 104) ∧ tR S fs ns (Xi T43 904 8 - fs) ≠ 7) → (Hid ((tR S fs ns) (re7 (tR S fs ns) (Xi S 904 8 - fs)) = 16 ∨ (tR S fs ns) (re7 (tR S fs ns) (Xi S 904 8 - fs)) = 104)) → Pl fu lay0 (d + 3) m_mo_rest 407 [(0, .ref 904)] [] T43 (Q_mo_rest__p S fs ns) := by sorry
set_option maxRecDepth 100000 in
theorem c339_mo_rest__p {S : sS} (hH : RI S) (fs : Nat) (ns : Nat) (hvl : VLR S fs ns) (hJR : JR S fs ns) (hb : Xi S 904 65 = 0) (d : Nat) (fu : Nat) : ∀  (T45 : sS) (_ : RI T45) (_ : FR md_mo_rest__p S T45), (Xi T45 904 8 = Xi S 904 8) → (Xi T45 904 65 = 0) → (Xi T45 904 69 = Xi S 904 69) → (Xi T45 904 73 = 0) → (Xi T45 904 75 = Xi S 904 75) → (Xi T45 904 76 = Xi S 904 76) → (JR T45 fs ns) → (tR S fs ns (Xi S 904 8 - fs) = 100) → Pl fu lay0 (d + 3) m_mo_rest 339 [(0, .ref 904)] [] T45 (Q_mo_rest__p S fs ns) := by sorry
set_option maxRecDepth 100000 in
theorem c435_mo_rest__p {S : sS} (hH : RI S) (fs : Nat) (ns : Nat) (hvl : VLR S fs ns) (hJR : JR S fs ns) (hb : Xi S 904 65 = 0) (d : Nat) (fu : Nat) : ∀  (T53 : sS) (_ : RI T53) (_ : FR md_mo_rest__p S T53), (Xi T53 904 8 = Xi S 904 8) → (Xi T53 904 65 = 0) → (Xi T53 904 69 = Xi S 904 69) → (Xi T53 904 73 = 0) → (Xi T53 904 75 = Xi S 904 75) → (Xi T53 904 76 = Xi S 904 76) → (JR T53 fs ns) → (tR S fs ns (Xi S 904 8 - fs) ≠ 100) → (tR S fs ns (Xi S 904 8 - fs) ≠ 6) → (tR S fs ns (Xi S 904 8 - fs) ≠ 32) → (¬ art7 (tR S fs ns (Xi S 904 8 - fs))) → Pl fu lay0 (d + 3) m_mo_rest 435 [(0, .ref 904)] [] T53 (Q_mo_rest__p S fs ns) := by sorry
set_option maxRecDepth 100000 in
theorem c197_mo_rest__p {S : sS} (hH : RI S) (fs : Nat) (ns : Nat) (hvl : VLR S fs ns) (hJR : JR S fs ns) (hb : Xi S 904 65 = 0) (d : Nat) (fu : Nat) : ∀  (T59 : sS) (_ : RI T59) (_ : FR md_mo_rest__p S T59) (v1 : Int), (-2147483648 ≤ v1 ∧ v1 ≤ 2147483647) → (Xi T59 904 8 = Xi S 904 8) → (Xi T59 904 65 = 0) → (Xi T59 904 69 = Xi S 904 69) → (Xi T59 904 73 = 0) → (Xi T59 904 75 = Xi S 904 75) → (Xi T59 904 76 = Xi S 904 76) → (JR T59 fs ns) → (¬ (tR S fs ns (Xi S 904 8 - fs) = 0 ∧ tR S fs ns (Xi S 904 8 - fs + 1) = 18)) → (¬ (tR S fs ns (Xi S 904 8 - fs) = 1 ∧ tR S fs ns (Xi S 904 8 - fs + 1) = 27)) → (tR S fs ns (Xi S 904 8 - fs) = un7 v1 ∧ v1 = tr7 (un7 v1)) → ((100 ≤ v1 → un7 v1 = v1 - 100) ∧ (v1 < 100 → 100 ≤ un7 v1) ∧ (v1 = 3 → un7 v1 = 100) ∧ (v1 ≠ 3 → v1 = tr7 (un7 v1) → un7 v1 ≠ 100)) → Pl fu lay0 (d + 3) m_mo_rest 197 [(0, .ref 904), (1, iv v1)] [] T59 (Q_mo_rest__p S fs ns) := by sorry
set_option maxRecDepth 100000 in
theorem c111_mo_rest__p {S : sS} (hH : RI S) (fs : Nat) (ns : Nat) (hvl : VLR S fs ns) (hJR : JR S fs ns) (hb : Xi S 904 65 = 0) (d : Nat) (fu : Nat) : ∀  (T60 : sS) (_ : RI T60) (_ : FR md_mo_rest__p S T60) (v1 : Int), (-2147483648 ≤ v1 ∧ v1 ≤ 2147483647) → (Xi T60 904 8 = Xi S 904 8) → (Xi T60 904 65 = 0) → (Xi T60 904 69 = Xi S 904 69) → (Xi T60 904 73 = 0) → (Xi T60 904 75 = Xi S 904 75) → (Xi T60 904 76 = Xi S 904 76) → (JR T60 fs ns) → (¬ (tR S fs ns (Xi S 904 8 - fs) = 0 ∧ tR S fs ns (Xi S 904 8 - fs + 1) = 18)) → (tR S fs ns (Xi S 904 8 - fs) = un7 v1 ∧ v1 = tr7 (un7 v1)) → ((100 ≤ v1 → un7 v1 = v1 - 100) ∧ (v1 < 100 → 100 ≤ un7 v1) ∧ (v1 = 3 → un7 v1 = 100) ∧ (v1 ≠ 3 → v1 = tr7 (un7 v1) → un7 v1 ≠ 100)) → Pl fu lay0 (d + 3) m_mo_rest 111 [(0, .ref 904), (1, iv v1)] [] T60 (Q_mo_rest__p S fs ns) := by sorry
set_option maxRecDepth 100000 in
theorem t_mo_rest__p {S : sS} (hH : RI S) (fs : Nat) (ns : Nat) (hvl : VLR S fs ns) (hJR : JR S fs ns) (hb : Xi S 904 65 = 0) (d : Nat) : Mp lay0 (d + 4) m_mo_rest [.ref 904] S (Q_mo_rest__p S fs ns) := by sorry
end
end
section
section
/-- what common keeps behind a list and is or are -/
def CRS (S : sS) (T : Int → Int) : Prop := Xi S 904 71 = 0 ∧ ∃ a, gSq (gLs2 T 5200 0) (gBe T) = (1, a) ∧ RSR S T a (Xi S 904 72) ∧ (Xi S 904 77 = 1 ↔ T (a - 1) = 5) ∧ ((Xi S 904 70 = 15 ∨ Xi S 904 70 = 16) → T a = 100 → Xi S 904 75 = 0 ∧ Xi S 904 76 = 0) ∧ kr7 T (Xi S 904 72).toNat = nf7 T (a - 1)
/-- .. of a property -/
def C9S (S : sS) (T : Int → Int) (f : Nat) : Prop := Xi S 904 70 = 9 ∧ ∃ a, gSq (gSq (gSq (gR T 1) (gT T 7)) (gN T)) (gBe T) = (1, a) ∧ Xi S 904 78 = f + a
theorem gBe_cs (T : Int → Int) (a : Int) : (gBe T a = (1, a + 1) ∧ (T a = 4 ∨ T a = 5)) ∨ gBe T a = (0, a) := by sorry
theorem gBe_up {V W : sS} {f : Nat} {T : Int → Int} (e : gSq (cu V f) (gBe T) = cu W f) (b : Xi W 904 65 = 0) : Xi W 904 8 = Xi V 904 8 + 1 ∧ Xi V 904 65 = 0 := by sorry
theorem oo_e {T : Int → Int} {t u : Int} (h : t = u ∨ ((t ≠ 12 ∧ t ≠ 13 ∧ t ≠ 21) ∧ u ≠ 12 ∧ u ≠ 13 ∧ u ≠ 21)) : gOo T t = gOo T u := by sorry
def md_mo_common__p : List rec := [(904, 905, 8, 9), (904, 905, 65, 66), (904, 905, 66, 67), (904, 905, 69, 70), (904, 905, 70, 71), (904, 905, 71, 72), (904, 905, 72, 73), (904, 905, 73, 74), (904, 905, 74, 75), (904, 905, 75, 76), (904, 905, 76, 77), (904, 905, 77, 78), (904, 905, 78, 79), (904, 905, 79, 80), (904, 905, 80, 81), (950, 951, 0, 100000), (951, 952, 0, 100000)]
abbrev Q_mo_common__p (S : sS) (fs : Nat) (ns : Nat) : pst := fun r S1 => RI S1 ∧ FR md_mo_common__p S S1 ∧ (r = none ∧ (gCo (tR S fs ns) = cu S1 fs) ∧ (Xi S 904 69 ≤ Xi S1 904 69) ∧ (Xi S1 904 65 = 0 → 9 ≤ Xi S1 904 70 ∧ Xi S1 904 70 ≤ 20) ∧ (Xi S1 904 65 = 0 → Xi S1 904 70 ≠ 20 → JR S1 fs ns) ∧ (Xi S1 904 65 = 0 → (kt7 (tR S fs ns) = 4 ∨ kt7 (tR S fs ns) = 5) → ¬ bp7 (tR S fs ns) 0 → CRS S1 (tR S fs ns)) ∧ (Xi S1 904 65 = 0 → (kt7 (tR S fs ns) = 4 ∨ kt7 (tR S fs ns) = 5) → bp7 (tR S fs ns) 0 → C9S S1 (tR S fs ns) fs) ∧ (¬ (kt7 (tR S fs ns) = 4 ∨ kt7 (tR S fs ns) = 5) → (kt7 (tR S fs ns) = 12 → Xi S1 904 70 = 17) ∧ (kt7 (tR S fs ns) = 13 → Xi S1 904 70 = 18) ∧ (kt7 (tR S fs ns) = 21 → Xi S1 904 70 = 19) ∧ (kt7 (tR S fs ns) ≠ 12 → kt7 (tR S fs ns) ≠ 13 → kt7 (tR S fs ns) ≠ 21 → Xi S1 904 70 = 20)) ∧ (Xi S1 904 65 = 0 → kt7 (tR S fs ns) = 21 → ONR S1 (tR S fs ns)) ∧ (Xi S1 904 65 = 0 → Xi S 904 65 = 0 ∧ Xi S 904 8 ≤ Xi S1 904 8) ∧ (INR S1 fs ns))
set_option maxRecDepth 100000 in
theorem c107_mo_common__p {S : sS} (hH : RI S) (fs : Nat) (ns : Nat) (hvl : VLR S fs ns) (hJR : JR S fs ns) (hb : Xi S 904 65 = 0) (h0 : Xi S 904 8 = fs) (hr0 : Xi S 904 69 = 0) (h75 : Xi S 904 75 = 0 ∧ Xi S 904 76 = 0) (h93 : Xi S 904 93 = 0) (d : Nat) (fu : Nat) : ∀  (v1 : Int), (-2147483648 ≤ v1 ∧ v1 ≤ 2147483647) → ((v1 = 0 → kt7 (tR S fs ns) = 107) ∧ (v1 ≠ 0 → kt7 (tR S fs ns) = v1 - 100) ∧ (v1 = 0 ∨ v1 = 104 ∨ v1 = 105 ∨ v1 = 112 ∨ v1 = 113 ∨ v1 = 121)) → (Hid (¬ (kt7 (tR S fs ns) = 4 ∨ kt7 (tR S fs ns) = 5))) → Pl fu lay0 (d + 4) m_mo_common 107 [(0, .ref 904), (1, iv v1)] [] S (Q_mo_common__p S fs ns) := by sorry
set_option maxRecDepth 100000 in
theorem c126_mo_common__p {S : sS} (hH : RI S) (fs : Nat) (ns : Nat) (hvl : VLR S fs ns) (hJR : JR S fs ns) (hb : Xi S 904 65 = 0) (h0 : Xi S 904 8 = fs) (hr0 : Xi S 904 69 = 0) (h75 : Xi S 904 75 = 0 ∧ Xi S 904 76 = 0) (h93 : Xi S 904 93 = 0) (d : Nat) (fu : Nat) : (Hid (kt7 (tR S fs ns) = 4 ∨ kt7 (tR S fs ns) = 5)) → (Hid (bp7 (tR S fs ns) 0)) → Pl fu lay0 (d + 4) m_mo_common 126 [(0, .ref 904)] [] S (Q_mo_common__p S fs ns) := by sorry
set_option maxRecDepth 100000 in
theorem c169_mo_common__p {S : sS} (hH : RI S) (fs : Nat) (ns : Nat) (hvl : VLR S fs ns) (hJR : JR S fs ns) (hb : Xi S 904 65 = 0) (h0 : Xi S 904 8 = fs) (hr0 : Xi S 904 69 = 0) (h75 : Xi S 904 75 = 0 ∧ Xi S 904 76 = 0) (h93 : Xi S 904 93 = 0) (d : Nat) (fu : Nat) : (Hid (kt7 (tR S fs ns) = 4 ∨ kt7 (tR S fs ns) = 5)) → (Hid (¬ bp7 (tR S fs ns) 0)) → Pl fu lay0 (d + 4) m_mo_common 169 [(0, .ref 904)] [] S (Q_mo_common__p S fs ns) := by sorry
set_option maxRecDepth 100000 in
theorem c115_mo_common__p {S : sS} (hH : RI S) (fs : Nat) (ns : Nat) (hvl : VLR S fs ns) (hJR : JR S fs ns) (hb : Xi S 904 65 = 0) (h0 : Xi S 904 8 = fs) (hr0 : Xi S 904 69 = 0) (h75 : Xi S 904 75 = 0 ∧ Xi S 904 76 = 0) (h93 : Xi S 904 93 = 0) (d : Nat) (fu : Nat) : (Hid (kt7 (tR S fs ns) = 4 ∨ kt7 (tR S fs ns) = 5)) → Pl fu lay0 (d + 4) m_mo_common 115 [(0, .ref 904)] [] S (Q_mo_common__p S fs ns) := by sorry
set_option maxRecDepth 100000 in
theorem c95_mo_common__p {S : sS} (hH : RI S) (fs : Nat) (ns : Nat) (hvl : VLR S fs ns) (hJR : JR S fs ns) (hb : Xi S 904 65 = 0) (h0 : Xi S 904 8 = fs) (hr0 : Xi S 904 69 = 0) (h75 : Xi S 904 75 = 0 ∧ Xi S 904 76 = 0) (h93 : Xi S 904 93 = 0) (d : Nat) (fu : Nat) : ∀  (v1 : Int), (-2147483648 ≤ v1 ∧ v1 ≤ 2147483647) → ((v1 = 0 → kt7 (tR S fs ns) = 107) ∧ (v1 ≠ 0 → kt7 (tR S fs ns) = v1 - 100) ∧ (v1 = 0 ∨ v1 = 104 ∨ v1 = 105 ∨ v1 = 112 ∨ v1 = 113 ∨ v1 = 121)) → Pl fu lay0 (d + 4) m_mo_common 95 [(0, .ref 904), (1, iv v1)] [] S (Q_mo_common__p S fs ns) := by sorry
set_option maxRecDepth 100000 in
theorem c12_mo_common__p {S : sS} (hH : RI S) (fs : Nat) (ns : Nat) (hvl : VLR S fs ns) (hJR : JR S fs ns) (hb : Xi S 904 65 = 0) (h0 : Xi S 904 8 = fs) (hr0 : Xi S 904 69 = 0) (h75 : Xi S 904 75 = 0 ∧ Xi S 904 76 = 0) (h93 : Xi S 904 93 = 0) (d : Nat) (fu : Nat) : ∀ (n12 : Nat) (_ : n12 ≤ fu) (v1 : Int) (v3 : Int), (-2147483648 ≤ v1 ∧ v1 ≤ 2147483647) → (0 ≤ v3 ∧ v3 ≤ 5001) → (Xi S 904 8 ≤ v3) → (v3 ≤ fs + ns) → ((v1 = 0 → tk7 (tR S fs ns) = tkF (tR S fs ns) (5131 - (v3 - fs)).toNat (v3 - fs)) ∧ (v1 ≠ 0 → kt7 (tR S fs ns) = v1 - 100) ∧ (v1 = 0 ∨ v1 = 104 ∨ v1 = 105 ∨ v1 = 112 ∨ v1 = 113 ∨ v1 = 121)) → Pl n12 lay0 (d + 4) m_mo_common 12 [(0, .ref 904), (1, iv v1), (3, iv v3)] [] S (Q_mo_common__p S fs ns) := by sorry
set_option maxRecDepth 100000 in
theorem t_mo_common__p {S : sS} (hH : RI S) (fs : Nat) (ns : Nat) (hvl : VLR S fs ns) (hJR : JR S fs ns) (hb : Xi S 904 65 = 0) (h0 : Xi S 904 8 = fs) (hr0 : Xi S 904 69 = 0) (h75 : Xi S 904 75 = 0 ∧ Xi S 904 76 = 0) (h93 : Xi S 904 93 = 0) (d : Nat) : Mp lay0 (d + 5) m_mo_common [.ref 904] S (Q_mo_common__p S fs ns) := by sorry
end
end
section
section
theorem gT_at {W : sS} {f : Nat} {T : Int → Int} {k a : Int} (e : gT T k a = cu W f) (b : Xi W 904 65 = 0) : Xi W 904 8 - f = a + 1 ∧ T a = k := by sorry
/-- the sort by how a sentence begins -/
def SOR (S : sS) (T : Int → Int) : Prop := (T 0 = 33 → Xi S 904 70 = 1) ∧ (T 0 = 35 → Xi S 904 70 = 2) ∧ (T 0 = 38 → Xi S 904 70 = 3) ∧ (T 0 = 40 → Xi S 904 70 = 4) ∧ (T 0 = 39 → Xi S 904 70 = 5) ∧ (T 0 = 41 → Xi S 904 70 = 6) ∧ (T 0 = 2 → T 1 = 25 → Xi S 904 70 = 7) ∧ (T 0 = 2 → T 1 = 19 → Xi S 904 70 = 8)
def CMN (T : Int → Int) : Prop := (T 0 ≠ 33 ∧ T 0 ≠ 35 ∧ T 0 ≠ 38 ∧ T 0 ≠ 40 ∧ T 0 ≠ 39 ∧ T 0 ≠ 41) ∧ ¬ (T 0 = 2 ∧ T 1 = 25) ∧ ¬ (T 0 = 2 ∧ T 1 = 19)
/-- what is kept of a sentence that is told by its is, are, has, can, relates -/
def CMR (S : sS) (T : Int → Int) (f : Nat) : Prop := ((kt7 T = 4 ∨ kt7 T = 5) → ¬ bp7 T 0 → CRS S T) ∧ ((kt7 T = 4 ∨ kt7 T = 5) → bp7 T 0 → C9S S T f) ∧ (¬ (kt7 T = 4 ∨ kt7 T = 5) → (kt7 T = 12 → Xi S 904 70 = 17) ∧ (kt7 T = 13 → Xi S 904 70 = 18) ∧ (kt7 T = 21 → Xi S 904 70 = 19) ∧ (kt7 T ≠ 12 → kt7 T ≠ 13 → kt7 T ≠ 21 → Xi S 904 70 = 20))
theorem RSR_eq {S U : sS} {T : Int → Int} {a r : Int} (h : ∀ j, 70 ≤ j → j ≤ 78 → Xi U 904 j = Xi S 904 j) (q : RSR S T a r) : RSR U T a r := by sorry
theorem CMR_eq {S U : sS} {T : Int → Int} {f : Nat} (h : ∀ j, 70 ≤ j → j ≤ 78 → Xi U 904 j = Xi S 904 j) (q : CMR S T f) : CMR U T f := by sorry
theorem SOR_eq {S U : sS} {T : Int → Int} (h : Xi U 904 70 = Xi S 904 70) (q : SOR S T) : SOR U T := by sorry
theorem sor_c {S : sS} {T : Int → Int} (h : T 0 ≠ 33 ∧ T 0 ≠ 35 ∧ T 0 ≠ 38 ∧ T 0 ≠ 40 ∧ T 0 ≠ 39 ∧ T 0 ≠ 41) (h7 : ¬ (T 0 = 2 ∧ T 1 = 25)) (h8 : ¬ (T 0 = 2 ∧ T 1 = 19)) : SOR S T := by sorry
def md_mo_partOne__q : List rec := [(904, 905, 8, 9), (904, 905, 65, 66), (904, 905, 66, 67), (904, 905, 69, 70), (904, 905, 81, 82), (950, 951, 0, 100000), (951, 952, 0, 100000)]
abbrev Q_mo_partOne__q (S : sS) (fs : Nat) (ns : Nat) : pst := fun r S1 => RI S1 ∧ FR md_mo_partOne__q S S1 ∧ (r = none ∧ (gO1 (tR S fs ns) = cu S1 fs) ∧ (Xi S 904 69 ≤ Xi S1 904 69) ∧ (Xi S1 904 65 = 0 → Xi S1 904 81 = fs + 1) ∧ (Xi S1 904 65 = 0 → Xi S 904 65 = 0 ∧ Xi S 904 8 ≤ Xi S1 904 8) ∧ (JR S1 fs ns))
set_option maxRecDepth 100000 in
theorem t_mo_partOne__q {S : sS} (hH : RI S) (fs : Nat) (ns : Nat) (hvl : VLR S fs ns) (hJR : JR S fs ns) (hb : Xi S 904 65 = 0) (h0 : Xi S 904 8 = fs) (hk : tR S fs ns 0 ≠ 100 ∧ tR S fs ns 0 ≠ 103 ∧ tR S fs ns 0 ≠ 107) (d : Nat) : Mp lay0 (d + 3) m_mo_partOne [.ref 904] S (Q_mo_partOne__q S fs ns) := by sorry
def md_mo_rule__q : List rec := [(904, 905, 8, 9), (904, 905, 65, 66), (904, 905, 66, 67), (904, 905, 69, 70), (904, 905, 70, 71), (904, 905, 78, 79), (904, 905, 93, 94), (904, 905, 94, 95), (904, 905, 98, 99), (904, 905, 99, 100), (904, 905, 100, 101), (904, 905, 101, 102), (904, 905, 102, 103), (904, 905, 103, 104), (950, 951, 0, 100000), (951, 952, 0, 100000), (952, 953, 0, 100000), (953, 954, 0, 100000), (954, 955, 0, 100000), (955, 956, 0, 100000), (956, 957, 0, 100000), (957, 958, 0, 100000), (958, 959, 0, 100000), (959, 960, 0, 100000), (960, 961, 0, 100000), (961, 962, 0, 100000), (962, 963, 0, 100000), (963, 964, 0, 100000), (964, 965, 0, 100000), (965, 966, 0, 100000)]
abbrev Q_mo_rule__q (S : sS) (fs : Nat) (ns : Nat) (s : Int) : pst := fun r S1 => RI S1 ∧ FR md_mo_rule__q S S1 ∧ (r = none ∧ (gRuR (tR S fs ns) s = cu S1 fs) ∧ (Xi S 904 69 ≤ Xi S1 904 69) ∧ (Xi S1 904 65 = 0 → Xi S 904 65 = 0 ∧ Xi S 904 8 ≤ Xi S1 904 8) ∧ (JR S1 fs ns) ∧ (Xi S1 904 70 = s))
set_option maxRecDepth 100000 in
theorem c107_mo_rule__q {S : sS} (hH : RI S) (fs : Nat) (ns : Nat) (s : Int) (hs : 3 ≤ s ∧ s ≤ 6) (hvl : VLR S fs ns) (hJR : JR S fs ns) (hb : Xi S 904 65 = 0) (h0 : Xi S 904 8 = fs) (hk : tR S fs ns 0 ≠ 100 ∧ tR S fs ns 0 ≠ 103 ∧ tR S fs ns 0 ≠ 107) (d : Nat) (fu : Nat) : ∀  (T1 : sS) (_ : RI T1) (_ : FR md_mo_rule__q S T1), (JR T1 fs ns) → (Xi T1 904 65 = 0 → (fs : Int) ≤ Xi T1 904 8 ∧ Xi T1 904 8 ≤ fs + ns) → (Xi T1 904 65 = 0 → Xi S 904 8 ≤ Xi T1 904 8) → (Xi S 904 69 ≤ Xi T1 904 69) → (gSq (if s = 6 then gT (tR S fs ns) 42 1 else if s = 5 then gSq (gT (tR S fs ns) 7 1) (gAcR (tR S fs ns)) else gAcR (tR S fs ns) 1) (gWe (tR S fs ns)) = cu T1 fs) → (Xi T1 904 70 = s) → Pl fu lay0 (d + 8) m_mo_rule 107 [(0, .ref 904)] [] T1 (Q_mo_rule__q S fs ns s) := by sorry
set_option maxRecDepth 100000 in
theorem c83_mo_rule__q {S : sS} (hH : RI S) (fs : Nat) (ns : Nat) (s : Int) (hs : 3 ≤ s ∧ s ≤ 6) (hvl : VLR S fs ns) (hJR : JR S fs ns) (hb : Xi S 904 65 = 0) (h0 : Xi S 904 8 = fs) (hk : tR S fs ns 0 ≠ 100 ∧ tR S fs ns 0 ≠ 103 ∧ tR S fs ns 0 ≠ 107) (d : Nat) (fu : Nat) : ∀  (T4 : sS) (_ : RI T4) (_ : FR md_mo_rule__q S T4), (JR T4 fs ns) → (Xi T4 904 65 = 0 → (fs : Int) ≤ Xi T4 904 8 ∧ Xi T4 904 8 ≤ fs + ns) → (Xi T4 904 65 = 0 → Xi S 904 8 ≤ Xi T4 904 8) → (Xi S 904 69 ≤ Xi T4 904 69) → ((if s = 6 then gT (tR S fs ns) 42 1 else if s = 5 then gSq (gT (tR S fs ns) 7 1) (gAcR (tR S fs ns)) else gAcR (tR S fs ns) 1) = cu T4 fs) → (Xi T4 904 70 = s) → Pl fu lay0 (d + 8) m_mo_rule 83 [(0, .ref 904)] [] T4 (Q_mo_rule__q S fs ns s) := by sorry
set_option maxRecDepth 100000 in
theorem t_mo_rule__q {S : sS} (hH : RI S) (fs : Nat) (ns : Nat) (s : Int) (hs : 3 ≤ s ∧ s ≤ 6) (hvl : VLR S fs ns) (hJR : JR S fs ns) (hb : Xi S 904 65 = 0) (h0 : Xi S 904 8 = fs) (hk : tR S fs ns 0 ≠ 100 ∧ tR S fs ns 0 ≠ 103 ∧ tR S fs ns 0 ≠ 107) (d : Nat) : Mp lay0 (d + 9) m_mo_rule [.ref 904, iv s] S (Q_mo_rule__q S fs ns s) := by sorry
def md_mo_sentence__p : List rec := [(904, 905, 8, 9), (904, 905, 65, 66), (904, 905, 66, 67), (904, 905, 69, 70), (904, 905, 70, 71), (904, 905, 71, 72), (904, 905, 72, 73), (904, 905, 73, 74), (904, 905, 74, 75), (904, 905, 75, 76), (904, 905, 76, 77), (904, 905, 77, 78), (904, 905, 78, 79), (904, 905, 79, 80), (904, 905, 80, 81), (904, 905, 81, 82), (904, 905, 93, 94), (904, 905, 94, 95), (904, 905, 98, 99), (904, 905, 99, 100), (904, 905, 100, 101), (904, 905, 101, 102), (904, 905, 102, 103), (904, 905, 103, 104), (950, 951, 0, 100000), (951, 952, 0, 100000), (952, 953, 0, 100000), (953, 954, 0, 100000), (954, 955, 0, 100000), (955, 956, 0, 100000), (956, 957, 0, 100000), (957, 958, 0, 100000), (958, 959, 0, 100000), (959, 960, 0, 100000), (960, 961, 0, 100000), (961, 962, 0, 100000), (962, 963, 0, 100000), (963, 964, 0, 100000), (964, 965, 0, 100000), (965, 966, 0, 100000)]
abbrev Q_mo_sentence__p (S : sS) (fs : Nat) (ns : Nat) : pst := fun r S1 => RI S1 ∧ FR md_mo_sentence__p S S1 ∧ (r = none ∧ (tR S fs ns 0 ≠ 102 → gSq (gSe (tR S fs ns)) (gT (tR S fs ns) 103) = cu S1 fs) ∧ (tR S fs ns 0 = 102 → Xi S1 904 65 = 0 ∧ Xi S1 904 70 = 0 ∧ Xi S1 904 81 = fs ∧ (tR S fs ns 1 = 103 → Xi S1 904 8 = fs + 2) ∧ (tR S fs ns 1 ≠ 103 → Xi S1 904 8 = fs + 1)) ∧ (tR S fs ns 0 ≠ 102 → SOR S1 (tR S fs ns)) ∧ (tR S fs ns 0 ≠ 102 → Xi S1 904 65 = 0 → Xi S1 904 70 ≠ 20 → Xi S1 904 93 = 0 → KRS S1 fs ns) ∧ (tR S fs ns 0 ≠ 102 → Xi S1 904 65 = 0 → CMN (tR S fs ns) → CMR S1 (tR S fs ns) fs) ∧ (tR S fs ns 0 = 33 → Xi S1 904 65 = 0 → Xi S1 904 81 = fs + 1) ∧ (tR S fs ns 0 ≠ 102 → Xi S1 904 65 = 0 → CMN (tR S fs ns) → kt7 (tR S fs ns) = 21 → ONR S1 (tR S fs ns)) ∧ (tR S fs ns 0 ≠ 102 → tR S fs ns 0 ≠ 35 → tR S fs ns 0 ≠ 38 → tR S fs ns 0 ≠ 39 → tR S fs ns 0 ≠ 40 → tR S fs ns 0 ≠ 41 → Xi S1 904 93 = 0) ∧ (tR S fs ns 0 ≠ 102 → Xi S1 904 65 = 0 → Xi S1 904 70 ≠ 20 → Xi S1 904 93 = 0 → kr7 (tR S fs ns) (Xi S1 904 69).toNat = nf7 (tR S fs ns) (Xi S1 904 8 - 1 - fs)))
set_option maxRecDepth 100000 in
theorem c50_mo_sentence__p {S : sS} (hH : RI S) (fs : Nat) (ns : Nat) (hvl : VLR S fs ns) (h0 : Xi S 904 8 = fs) (d : Nat) (fu : Nat) : ∀  (T1 : sS) (_ : RI T1) (_ : FR md_mo_sentence__p S T1), (Xi T1 904 8 = Xi S 904 8) → (Xi T1 904 65 = 0) → (Xi T1 904 69 = 0) → (Xi T1 904 93 = 0) → (Xi T1 904 75 = 0) → (Xi T1 904 76 = 0) → (JR T1 fs ns) → (tR S fs ns 0 = 102) → Pl fu lay0 (d + 9) m_mo_sentence 50 [(0, .ref 904)] [] T1 (Q_mo_sentence__p S fs ns) := by sorry
set_option maxRecDepth 100000 in
theorem c350_mo_sentence__p {S : sS} (hH : RI S) (fs : Nat) (ns : Nat) (hvl : VLR S fs ns) (h0 : Xi S 904 8 = fs) (d : Nat) (fu : Nat) : ∀  (T7 : sS) (_ : RI T7) (_ : FR md_mo_sentence__p S T7), (gSe (tR S fs ns) = cu T7 fs) → (INR T7 fs ns) → (Xi T7 904 65 = 0 → (fs : Int) ≤ Xi T7 904 8 ∧ Xi T7 904 8 ≤ fs + ns) → (Hid (tR S fs ns 0 ≠ 102)) → (SOR T7 (tR S fs ns)) → (Hid (Xi T7 904 65 = 0 → Xi T7 904 70 ≠ 20 → Xi T7 904 93 = 0 → KRS T7 fs ns)) → (Hid (Xi T7 904 65 = 0 → CMN (tR S fs ns) → CMR T7 (tR S fs ns) fs)) → (Hid (tR S fs ns 0 = 33 → Xi T7 904 65 = 0 → Xi T7 904 81 = fs + 1)) → (Hid (Xi T7 904 65 = 0 → CMN (tR S fs ns) → kt7 (tR S fs ns) = 21 → ONR T7 (tR S fs ns))) → (Hid (tR S fs ns 0 ≠ 35 → tR S fs ns 0 ≠ 38 → tR S fs ns 0 ≠ 39 → tR S fs ns 0 ≠ 40 → tR S fs ns 0 ≠ 41 → Xi T7 904 93 = 0)) → (Hid (Xi T7 904 65 = 0 → Xi T7 904 70 ≠ 20 → Xi T7 904 93 = 0 → kr7 (tR S fs ns) (Xi T7 904 69).toNat = nf7 (tR S fs ns) (Xi T7 904 8 - fs))) → Pl fu lay0 (d + 9) m_mo_sentence 350 [(0, .ref 904)] [] T7 (Q_mo_sentence__p S fs ns) := by sorry
set_option maxRecDepth 100000 in
theorem c109_mo_sentence__p {S : sS} (hH : RI S) (fs : Nat) (ns : Nat) (hvl : VLR S fs ns) (h0 : Xi S 904 8 = fs) (d : Nat) (fu : Nat) : ∀  (T9 : sS) (_ : RI T9) (_ : FR md_mo_sentence__p S T9), (Xi T9 904 8 = Xi S 904 8) → (Xi T9 904 65 = 0) → (Xi T9 904 69 = 0) → (Xi T9 904 93 = 0) → (Xi T9 904 75 = 0) → (Xi T9 904 76 = 0) → (JR T9 fs ns) → (tR S fs ns 0 = 33) → Pl fu lay0 (d + 9) m_mo_sentence 109 [(0, .ref 904)] [] T9 (Q_mo_sentence__p S fs ns) := by sorry
set_option maxRecDepth 100000 in
theorem c128_mo_sentence__p {S : sS} (hH : RI S) (fs : Nat) (ns : Nat) (hvl : VLR S fs ns) (h0 : Xi S 904 8 = fs) (d : Nat) (fu : Nat) : ∀  (T12 : sS) (_ : RI T12) (_ : FR md_mo_sentence__p S T12), (Xi T12 904 8 = Xi S 904 8) → (Xi T12 904 65 = 0) → (Xi T12 904 69 = 0) → (Xi T12 904 93 = 0) → (Xi T12 904 75 = 0) → (Xi T12 904 76 = 0) → (JR T12 fs ns) → (tR S fs ns 0 = 35) → Pl fu lay0 (d + 9) m_mo_sentence 128 [(0, .ref 904)] [] T12 (Q_mo_sentence__p S fs ns) := by sorry
set_option maxRecDepth 100000 in
theorem c168_mo_sentence__p {S : sS} (hH : RI S) (fs : Nat) (ns : Nat) (hvl : VLR S fs ns) (h0 : Xi S 904 8 = fs) (d : Nat) (fu : Nat) : ∀  (T15 : sS) (_ : RI T15) (_ : FR md_mo_sentence__p S T15) (v1 : Int), (-2147483648 ≤ v1 ∧ v1 ≤ 2147483647) → (Xi T15 904 8 = Xi S 904 8) → (Xi T15 904 65 = 0) → (Xi T15 904 69 = 0) → (Xi T15 904 93 = 0) → (Xi T15 904 75 = 0) → (Xi T15 904 76 = 0) → (JR T15 fs ns) → ((v1 = 138 ∧ tR S fs ns 0 = 38) ∨ (v1 = 140 ∧ tR S fs ns 0 = 40) ∨ (v1 = 139 ∧ tR S fs ns 0 = 39) ∨ (v1 = 141 ∧ tR S fs ns 0 = 41)) → Pl fu lay0 (d + 9) m_mo_sentence 168 [(0, .ref 904), (1, iv v1)] [] T15 (Q_mo_sentence__p S fs ns) := by sorry
set_option maxRecDepth 100000 in
theorem c232_mo_sentence__p {S : sS} (hH : RI S) (fs : Nat) (ns : Nat) (hvl : VLR S fs ns) (h0 : Xi S 904 8 = fs) (d : Nat) (fu : Nat) : ∀  (T20 : sS) (_ : RI T20) (_ : FR md_mo_sentence__p S T20), (Xi T20 904 8 = Xi S 904 8) → (Xi T20 904 65 = 0) → (Xi T20 904 69 = 0) → (Xi T20 904 93 = 0) → (Xi T20 904 75 = 0) → (Xi T20 904 76 = 0) → (JR T20 fs ns) → (tR S fs ns 0 = 2 ∧ tR S fs ns 1 = 25) → Pl fu lay0 (d + 9) m_mo_sentence 232 [(0, .ref 904)] [] T20 (Q_mo_sentence__p S fs ns) := by sorry
set_option maxRecDepth 100000 in
theorem c307_mo_sentence__p {S : sS} (hH : RI S) (fs : Nat) (ns : Nat) (hvl : VLR S fs ns) (h0 : Xi S 904 8 = fs) (d : Nat) (fu : Nat) : ∀  (T29 : sS) (_ : RI T29) (_ : FR md_mo_sentence__p S T29), (Xi T29 904 8 = Xi S 904 8) → (Xi T29 904 65 = 0) → (Xi T29 904 69 = 0) → (Xi T29 904 93 = 0) → (Xi T29 904 75 = 0) → (Xi T29 904 76 = 0) → (JR T29 fs ns) → (tR S fs ns 0 = 2 ∧ tR S fs ns 1 = 19) → Pl fu lay0 (d + 9) m_mo_sentence 307 [(0, .ref 904)] [] T29 (Q_mo_sentence__p S fs ns) := by sorry
set_option maxRecDepth 100000 in
theorem c346_mo_sentence__p {S : sS} (hH : RI S) (fs : Nat) (ns : Nat) (hvl : VLR S fs ns) (h0 : Xi S 904 8 = fs) (d : Nat) (fu : Nat) : ∀  (T36 : sS) (_ : RI T36) (_ : FR md_mo_sentence__p S T36), (Xi T36 904 8 = Xi S 904 8) → (Xi T36 904 65 = 0) → (Xi T36 904 69 = 0) → (Xi T36 904 93 = 0) → (Xi T36 904 75 = 0) → (Xi T36 904 76 = 0) → (JR T36 fs ns) → (Hid (tR S fs ns 0 ≠ 33 ∧ tR S fs ns 0 ≠ 35 ∧ tR S fs ns 0 ≠ 38 ∧ tR S fs ns 0 ≠ 40 ∧ tR S fs ns 0 ≠ 39 ∧ tR S fs ns 0 ≠ 41)) → (Hid (¬ (tR S fs ns 0 = 2 ∧ tR S fs ns 1 = 25))) → (Hid (¬ (tR S fs ns 0 = 2 ∧ tR S fs ns 1 = 19))) → (tR S fs ns 0 ≠ 102) → Pl fu lay0 (d + 9) m_mo_sentence 346 [(0, .ref 904)] [] T36 (Q_mo_sentence__p S fs ns) := by sorry
set_option maxRecDepth 100000 in
theorem c285_mo_sentence__p {S : sS} (hH : RI S) (fs : Nat) (ns : Nat) (hvl : VLR S fs ns) (h0 : Xi S 904 8 = fs) (d : Nat) (fu : Nat) : ∀  (T38 : sS) (_ : RI T38) (_ : FR md_mo_sentence__p S T38) (v1 : Int), (-2147483648 ≤ v1 ∧ v1 ≤ 2147483647) → (Xi T38 904 8 = Xi S 904 8) → (Xi T38 904 65 = 0) → (Xi T38 904 69 = 0) → (Xi T38 904 93 = 0) → (Xi T38 904 75 = 0) → (Xi T38 904 76 = 0) → (JR T38 fs ns) → (tR S fs ns 0 = un7 v1 ∧ v1 = tr7 (un7 v1)) → ((100 ≤ v1 → un7 v1 = v1 - 100) ∧ (v1 < 100 → 100 ≤ un7 v1)) → (v1 ≠ 5 ∧ tR S fs ns 0 ≠ 102) → (tR S fs ns 0 ≠ 33 ∧ tR S fs ns 0 ≠ 35 ∧ tR S fs ns 0 ≠ 38 ∧ tR S fs ns 0 ≠ 40 ∧ tR S fs ns 0 ≠ 39 ∧ tR S fs ns 0 ≠ 41) → (¬ (tR S fs ns 0 = 2 ∧ tR S fs ns 1 = 25)) → Pl fu lay0 (d + 9) m_mo_sentence 285 [(0, .ref 904), (1, iv v1)] [] T38 (Q_mo_sentence__p S fs ns) := by sorry
set_option maxRecDepth 100000 in
theorem c102_mo_sentence__p {S : sS} (hH : RI S) (fs : Nat) (ns : Nat) (hvl : VLR S fs ns) (h0 : Xi S 904 8 = fs) (d : Nat) (fu : Nat) : ∀  (T39 : sS) (_ : RI T39) (_ : FR md_mo_sentence__p S T39) (v1 : Int), (-2147483648 ≤ v1 ∧ v1 ≤ 2147483647) → (Xi T39 904 8 = Xi S 904 8) → (Xi T39 904 65 = 0) → (Xi T39 904 69 = 0) → (Xi T39 904 93 = 0) → (Xi T39 904 75 = 0) → (Xi T39 904 76 = 0) → (JR T39 fs ns) → (tR S fs ns 0 = un7 v1 ∧ v1 = tr7 (un7 v1)) → ((100 ≤ v1 → un7 v1 = v1 - 100) ∧ (v1 < 100 → 100 ≤ un7 v1)) → (v1 ≠ 5 ∧ tR S fs ns 0 ≠ 102) → Pl fu lay0 (d + 9) m_mo_sentence 102 [(0, .ref 904), (1, iv v1)] [] T39 (Q_mo_sentence__p S fs ns) := by sorry
set_option maxRecDepth 100000 in
theorem c35_mo_sentence__p {S : sS} (hH : RI S) (fs : Nat) (ns : Nat) (hvl : VLR S fs ns) (h0 : Xi S 904 8 = fs) (d : Nat) (fu : Nat) : ∀  (T40 : sS) (_ : RI T40) (_ : FR md_mo_sentence__p S T40), (Xi T40 904 8 = Xi S 904 8) → (Xi T40 904 65 = 0) → (Xi T40 904 69 = 0) → (Xi T40 904 93 = 0) → (Xi T40 904 75 = 0) → (Xi T40 904 76 = 0) → (JR T40 fs ns) → Pl fu lay0 (d + 9) m_mo_sentence 35 [(0, .ref 904)] [] T40 (Q_mo_sentence__p S fs ns) := by sorry
set_option maxRecDepth 100000 in
theorem t_mo_sentence__p {S : sS} (hH : RI S) (fs : Nat) (ns : Nat) (hvl : VLR S fs ns) (h0 : Xi S 904 8 = fs) (d : Nat) : Mp lay0 (d + 10) m_mo_sentence [.ref 904] S (Q_mo_sentence__p S fs ns) := by sorry
end
end
section
section
abbrev Q_rs_isArt__p (S : sS) (type : Int) : pst := fun r S1 => S = S1 ∧ (∃ z : Int, r = some (iv z) ∧ (0 ≤ z ∧ z ≤ 1) ∧ (z = 1 → 0 ≤ type ∧ type ≤ 3) ∧ (z = 0 → type < 0 ∨ 3 < type))
set_option maxRecDepth 100000 in
theorem t_rs_isArt__p {S : sS} (hH : RI S) (type : Int) (htype : -2147483648 ≤ type ∧ type ≤ 2147483647) (d : Nat) : Mp lay0 (d + 1) m_rs_isArt [iv type] S (Q_rs_isArt__p S type) := by sorry
abbrev Q_to_typeAt__p (S : sS) (row : Int) : pst := fun r S1 => S = S1 ∧ (∃ z : Int, r = some (iv z) ∧ (-2147483648 ≤ z ∧ z ≤ 2147483647) ∧ (ty7 S row = z) ∧ (z ≠ 107 → 0 ≤ row ∧ row < Xi S 876 7))
set_option maxRecDepth 100000 in
theorem t_to_typeAt__p {S : sS} (hH : RI S) (row : Int) (hrow : -2147483648 ≤ row ∧ row ≤ 2147483647) (d : Nat) : Mp lay0 (d + 1) m_to_typeAt [.ref 876, iv row] S (Q_to_typeAt__p S row) := by sorry
abbrev Q_to_runEndUpTo__p (S : sS) (from_ : Int) (limit : Int) : pst := fun r S1 => S = S1 ∧ (∃ z : Int, r = some (iv z) ∧ (-2147483648 ≤ z ∧ z ≤ 2147483647) ∧ (z = ruF S from_ limit) ∧ (from_ ≤ z ∧ (z = from_ ∨ z ≤ Xi S 876 7)))
set_option maxRecDepth 100000 in
theorem t_to_runEndUpTo__p {S : sS} (hH : RI S) (from_ : Int) (limit : Int) (hfrom_ : -2147483648 ≤ from_ ∧ from_ ≤ 2147483647) (hlimit : -2147483648 ≤ limit ∧ limit ≤ 2147483647) (d : Nat) : Mp lay0 (d + 1) m_to_runEndUpTo [.ref 876, iv from_, iv limit] S (Q_to_runEndUpTo__p S from_ limit) := by sorry
abbrev Q_to_runEnd__p (S : sS) (from_ : Int) : pst := fun r S1 => S = S1 ∧ (∃ z : Int, r = some (iv z) ∧ (-2147483648 ≤ z ∧ z ≤ 2147483647) ∧ (re7 (ty7 S) from_ = z) ∧ (from_ ≤ z ∧ (z = from_ ∨ z ≤ Xi S 876 7)))
set_option maxRecDepth 100000 in
theorem t_to_runEnd__p {S : sS} (hH : RI S) (from_ : Int) (hfrom_ : -2147483648 ≤ from_ ∧ from_ ≤ 2147483647) (d : Nat) : Mp lay0 (d + 2) m_to_runEnd [.ref 876, iv from_] S (Q_to_runEnd__p S from_) := by sorry
abbrev Q_to_behindArt__p (S : sS) (row : Int) : pst := fun r S1 => S = S1 ∧ (∃ z : Int, r = some (iv z) ∧ (-2147483648 ≤ z ∧ z ≤ 2147483647) ∧ (bA (ty7 S) row = z) ∧ (row ≤ z ∧ z ≤ row + 1 ∧ (z = row ∨ (0 ≤ row ∧ row < Xi S 876 7))))
set_option maxRecDepth 100000 in
theorem t_to_behindArt__p {S : sS} (hH : RI S) (row : Int) (hrow : -2147483648 ≤ row ∧ row ≤ 2147483647) (d : Nat) : Mp lay0 (d + 2) m_to_behindArt [.ref 876, iv row] S (Q_to_behindArt__p S row) := by sorry
abbrev Q_to_beginsProperty__p (S : sS) (row : Int) : pst := fun r S1 => S = S1 ∧ (∃ z : Int, r = some (iv z) ∧ (0 ≤ z ∧ z ≤ 1) ∧ ((z = 1 → ty7 S row = 2 ∧ ty7 S (row + 1) = 100 ∧ ty7 S (re7 (ty7 S) (row + 1)) = 7) ∧ (z = 0 → ¬ (ty7 S row = 2 ∧ ty7 S (row + 1) = 100 ∧ ty7 S (re7 (ty7 S) (row + 1)) = 7))) ∧ (z = 1 → 0 ≤ row ∧ row + 1 < Xi S 876 7))
set_option maxRecDepth 100000 in
theorem t_to_beginsProperty__p {S : sS} (hH : RI S) (row : Int) (hrow : -2147483648 ≤ row ∧ row ≤ 2147483646) (d : Nat) : Mp lay0 (d + 2) m_to_beginsProperty [.ref 876, iv row] S (Q_to_beginsProperty__p S row) := by sorry
abbrev Q_to_firstOf__p (S : sS) (type : Int) (from_ : Int) (to : Int) : pst := fun r S1 => S = S1 ∧ (∃ z : Int, r = some (iv z) ∧ (-2147483648 ≤ z ∧ z ≤ 2147483647) ∧ (fo7 (ty7 S) type from_ to = z))
set_option maxRecDepth 100000 in
theorem t_to_firstOf__p {S : sS} (hH : RI S) (type : Int) (from_ : Int) (to : Int) (htype : -2147483648 ≤ type ∧ type ≤ 2147483647) (hfrom_ : -2147483648 ≤ from_ ∧ from_ ≤ 2147483647) (hto : -2147483648 ≤ to ∧ to ≤ 2147483647) (d : Nat) : Mp lay0 (d + 2) m_to_firstOf [.ref 876, iv type, iv from_, iv to] S (Q_to_firstOf__p S type from_ to) := by sorry
abbrev Q_to_testEnd__p (S : sS) (from_ : Int) (now : Int) : pst := fun r S1 => S = S1 ∧ (∃ z : Int, r = some (iv z) ∧ (-2147483648 ≤ z ∧ z ≤ 2147483647) ∧ (te8 (ty7 S) now from_ = z) ∧ (from_ ≤ z ∧ z ≤ 5131))
set_option maxRecDepth 100000 in
theorem t_to_testEnd__p {S : sS} (hH : RI S) (from_ : Int) (now : Int) (hfrom_ : -2147483648 ≤ from_ ∧ from_ ≤ 2147483647) (hnow : 0 ≤ now ∧ now ≤ 1) (hf : 0 ≤ from_ ∧ from_ ≤ Xi S 876 7) (hr : Xi S 876 7 ≤ 5130) (d : Nat) : Mp lay0 (d + 1) m_to_testEnd [.ref 876, iv from_, iv now] S (Q_to_testEnd__p S from_ now) := by sorry
abbrev Q_to_tellingKey__p (S : sS) : pst := fun r S1 => S = S1 ∧ (∃ z : Int, r = some (iv z) ∧ (-2147483648 ≤ z ∧ z ≤ 2147483647) ∧ (tk7 (ty7 S) = z))
set_option maxRecDepth 100000 in
theorem t_to_tellingKey__p {S : sS} (hH : RI S) (hls : LST S) (hr : Xi S 876 7 ≤ 5130) (d : Nat) : Mp lay0 (d + 1) m_to_tellingKey [.ref 876] S (Q_to_tellingKey__p S) := by sorry
def md_gr_take__p : List rec := [(890, 891, 1, 2)]
abbrev Q_gr_take__p (S : sS) (ty : Int) : pst := fun r S1 => RI S1 ∧ FR md_gr_take__p S S1 ∧ (∃ z : Int, r = some (iv z) ∧ (0 ≤ z ∧ z ≤ 1) ∧ (gT (ty7 S) ty (Xi S 890 1) = (z, Xi S1 890 1)) ∧ (Xi S 890 1 ≤ Xi S1 890 1 ∧ Xi S1 890 1 ≤ Xi S 876 7))
set_option maxRecDepth 100000 in
theorem t_gr_take__p {S : sS} (hH : RI S) (ty : Int) (hty : 0 ≤ ty ∧ ty ≤ 106) (hfr : NFR S) (hr : Xi S 876 7 ≤ 5130) (ha : 0 ≤ Xi S 890 1 ∧ Xi S 890 1 ≤ Xi S 876 7) (d : Nat) : Mp lay0 (d + 2) m_gr_take [.ref 890, iv ty] S (Q_gr_take__p S ty) := by sorry
def md_gr_takeArt__p : List rec := [(890, 891, 1, 2)]
abbrev Q_gr_takeArt__p (S : sS) : pst := fun r S1 => RI S1 ∧ FR md_gr_takeArt__p S S1 ∧ (∃ z : Int, r = some (iv z) ∧ (0 ≤ z ∧ z ≤ 1) ∧ (gA (ty7 S) (Xi S 890 1) = (z, Xi S1 890 1)) ∧ (Xi S 890 1 ≤ Xi S1 890 1 ∧ Xi S1 890 1 ≤ Xi S 876 7))
set_option maxRecDepth 100000 in
theorem t_gr_takeArt__p {S : sS} (hH : RI S) (hfr : NFR S) (hr : Xi S 876 7 ≤ 5130) (ha : 0 ≤ Xi S 890 1 ∧ Xi S 890 1 ≤ Xi S 876 7) (d : Nat) : Mp lay0 (d + 2) m_gr_takeArt [.ref 890] S (Q_gr_takeArt__p S) := by sorry
def md_gr_takeRun__p : List rec := [(890, 891, 1, 2)]
abbrev Q_gr_takeRun__p (S : sS) : pst := fun r S1 => RI S1 ∧ FR md_gr_takeRun__p S S1 ∧ (∃ z : Int, r = some (iv z) ∧ (0 ≤ z ∧ z ≤ 1) ∧ (gR (ty7 S) (Xi S 890 1) = (z, Xi S1 890 1)) ∧ (Xi S 890 1 ≤ Xi S1 890 1 ∧ Xi S1 890 1 ≤ Xi S 876 7))
set_option maxRecDepth 100000 in
theorem t_gr_takeRun__p {S : sS} (hH : RI S) (hfr : NFR S) (hr : Xi S 876 7 ≤ 5130) (ha : 0 ≤ Xi S 890 1 ∧ Xi S 890 1 ≤ Xi S 876 7) (d : Nat) : Mp lay0 (d + 2) m_gr_takeRun [.ref 890] S (Q_gr_takeRun__p S) := by sorry
def md_gr_takeBe__p : List rec := [(890, 891, 1, 2)]
abbrev Q_gr_takeBe__p (S : sS) : pst := fun r S1 => RI S1 ∧ FR md_gr_takeBe__p S S1 ∧ (∃ z : Int, r = some (iv z) ∧ (0 ≤ z ∧ z ≤ 1) ∧ (gBe (ty7 S) (Xi S 890 1) = (z, Xi S1 890 1)) ∧ (Xi S 890 1 ≤ Xi S1 890 1 ∧ Xi S1 890 1 ≤ Xi S 876 7))
set_option maxRecDepth 100000 in
theorem t_gr_takeBe__p {S : sS} (hH : RI S) (hfr : NFR S) (hr : Xi S 876 7 ≤ 5130) (ha : 0 ≤ Xi S 890 1 ∧ Xi S 890 1 ≤ Xi S 876 7) (d : Nat) : Mp lay0 (d + 3) m_gr_takeBe [.ref 890] S (Q_gr_takeBe__p S) := by sorry
def md_gr_takeHowMany__p : List rec := [(890, 891, 1, 2)]
abbrev Q_gr_takeHowMany__p (S : sS) : pst := fun r S1 => RI S1 ∧ FR md_gr_takeHowMany__p S S1 ∧ (∃ z : Int, r = some (iv z) ∧ (0 ≤ z ∧ z ≤ 1) ∧ (gHow (ty7 S) (Xi S 890 1) = (z, Xi S1 890 1)) ∧ (Xi S 890 1 ≤ Xi S1 890 1 ∧ Xi S1 890 1 ≤ Xi S 876 7))
set_option maxRecDepth 100000 in
theorem t_gr_takeHowMany__p {S : sS} (hH : RI S) (hfr : NFR S) (hr : Xi S 876 7 ≤ 5130) (ha : 0 ≤ Xi S 890 1 ∧ Xi S 890 1 ≤ Xi S 876 7) (d : Nat) : Mp lay0 (d + 3) m_gr_takeHowMany [.ref 890] S (Q_gr_takeHowMany__p S) := by sorry
def md_gr_takeName__p : List rec := [(890, 891, 1, 2)]
abbrev Q_gr_takeName__p (S : sS) : pst := fun r S1 => RI S1 ∧ FR md_gr_takeName__p S S1 ∧ (∃ z : Int, r = some (iv z) ∧ (0 ≤ z ∧ z ≤ 1) ∧ (gN (ty7 S) (Xi S 890 1) = (z, Xi S1 890 1)) ∧ (Xi S 890 1 ≤ Xi S1 890 1 ∧ Xi S1 890 1 ≤ Xi S 876 7))
set_option maxRecDepth 100000 in
theorem t_gr_takeName__p {S : sS} (hH : RI S) (hfr : NFR S) (hr : Xi S 876 7 ≤ 5130) (ha : 0 ≤ Xi S 890 1 ∧ Xi S 890 1 ≤ Xi S 876 7) (d : Nat) : Mp lay0 (d + 3) m_gr_takeName [.ref 890] S (Q_gr_takeName__p S) := by sorry
def md_gr_takeBetween__p : List rec := [(890, 891, 1, 2)]
abbrev Q_gr_takeBetween__p (S : sS) : pst := fun r S1 => RI S1 ∧ FR md_gr_takeBetween__p S S1 ∧ (∃ z : Int, r = some (iv z) ∧ (0 ≤ z ∧ z ≤ 1) ∧ (gBt (ty7 S) (Xi S 890 1) = (z, Xi S1 890 1)) ∧ (Xi S 890 1 ≤ Xi S1 890 1 ∧ Xi S1 890 1 ≤ Xi S 876 7))
set_option maxRecDepth 100000 in
theorem t_gr_takeBetween__p {S : sS} (hH : RI S) (hfr : NFR S) (hr : Xi S 876 7 ≤ 5130) (ha : 0 ≤ Xi S 890 1 ∧ Xi S 890 1 ≤ Xi S 876 7) (d : Nat) : Mp lay0 (d + 3) m_gr_takeBetween [.ref 890] S (Q_gr_takeBetween__p S) := by sorry
abbrev Q_gr_atPlace__p (S : sS) : pst := fun r S1 => S = S1 ∧ (∃ z : Int, r = some (iv z) ∧ (0 ≤ z ∧ z ≤ 1) ∧ ((z = 1 → ty7 S (Xi S 890 1) = 8 ∨ ty7 S (Xi S 890 1) = 9 ∨ ty7 S (Xi S 890 1) = 29 ∨ ty7 S (Xi S 890 1) = 30 ∨ ty7 S (Xi S 890 1) = 31) ∧ (z = 0 → ¬ (ty7 S (Xi S 890 1) = 8 ∨ ty7 S (Xi S 890 1) = 9 ∨ ty7 S (Xi S 890 1) = 29 ∨ ty7 S (Xi S 890 1) = 30 ∨ ty7 S (Xi S 890 1) = 31))))
set_option maxRecDepth 100000 in
theorem t_gr_atPlace__p {S : sS} (hH : RI S) (d : Nat) : Mp lay0 (d + 2) m_gr_atPlace [.ref 890] S (Q_gr_atPlace__p S) := by sorry
end
end
section
section
theorem lp_o {l : Nat → Int → Int × Int} (hl : ∀ a, l 0 a = (1, a)) {X : Int × Int} {N : Int} {n a g : Int} (h : (g = 1 → X = l (N - n).toNat a) ∧ (g = 0 → X = (0, a))) (hg : g = 0 ∨ g = 1) (hn : N ≤ n) : X = (g, a) := by sorry
def md_gr_takeList__p : List rec := [(890, 891, 1, 2)]
abbrev Q_gr_takeList__p (S : sS) : pst := fun r S1 => RI S1 ∧ FR md_gr_takeList__p S S1 ∧ (∃ z : Int, r = some (iv z) ∧ (0 ≤ z ∧ z ≤ 1) ∧ (gLs (ty7 S) (Xi S 890 1) = (z, Xi S1 890 1)) ∧ (Xi S 890 1 ≤ Xi S1 890 1 ∧ Xi S1 890 1 ≤ Xi S 876 7))
set_option maxRecDepth 100000 in
theorem t_gr_takeList__p {S : sS} (hH : RI S) (hfr : NFR S) (hr : Xi S 876 7 ≤ 5130) (ha : 0 ≤ Xi S 890 1 ∧ Xi S 890 1 ≤ Xi S 876 7) (d : Nat) : Mp lay0 (d + 4) m_gr_takeList [.ref 890] S (Q_gr_takeList__p S) := by sorry
def md_gr_takeThing__p : List rec := [(890, 891, 1, 2)]
abbrev Q_gr_takeThing__p (S : sS) : pst := fun r S1 => RI S1 ∧ FR md_gr_takeThing__p S S1 ∧ (∃ z : Int, r = some (iv z) ∧ (0 ≤ z ∧ z ≤ 1) ∧ (gTh (ty7 S) (Xi S 890 1) = (z, Xi S1 890 1)) ∧ (Xi S 890 1 ≤ Xi S1 890 1 ∧ Xi S1 890 1 ≤ Xi S 876 7))
set_option maxRecDepth 100000 in
theorem t_gr_takeThing__p {S : sS} (hH : RI S) (hfr : NFR S) (hr : Xi S 876 7 ≤ 5130) (ha : 0 ≤ Xi S 890 1 ∧ Xi S 890 1 ≤ Xi S 876 7) (d : Nat) : Mp lay0 (d + 3) m_gr_takeThing [.ref 890] S (Q_gr_takeThing__p S) := by sorry
def md_gr_takePlace__p : List rec := [(890, 891, 1, 2)]
abbrev Q_gr_takePlace__p (S : sS) (any : Int) : pst := fun r S1 => RI S1 ∧ FR md_gr_takePlace__p S S1 ∧ (∃ z : Int, r = some (iv z) ∧ (0 ≤ z ∧ z ≤ 1) ∧ (gPl (ty7 S) any (Xi S 890 1) = (z, Xi S1 890 1)) ∧ (Xi S 890 1 ≤ Xi S1 890 1 ∧ Xi S1 890 1 ≤ Xi S 876 7))
set_option maxRecDepth 100000 in
theorem t_gr_takePlace__p {S : sS} (hH : RI S) (any : Int) (hany : 0 ≤ any ∧ any ≤ 1) (hfr : NFR S) (hr : Xi S 876 7 ≤ 5130) (ha : 0 ≤ Xi S 890 1 ∧ Xi S 890 1 ≤ Xi S 876 7) (hp : ty7 S (Xi S 890 1) ≠ 107) (d : Nat) : Mp lay0 (d + 4) m_gr_takePlace [.ref 890, iv any] S (Q_gr_takePlace__p S any) := by sorry
def md_gr_takeWhat__p : List rec := [(890, 891, 1, 2)]
abbrev Q_gr_takeWhat__p (S : sS) : pst := fun r S1 => RI S1 ∧ FR md_gr_takeWhat__p S S1 ∧ (∃ z : Int, r = some (iv z) ∧ (0 ≤ z ∧ z ≤ 1) ∧ (gWh (ty7 S) (Xi S 890 1) = (z, Xi S1 890 1)) ∧ (Xi S 890 1 ≤ Xi S1 890 1 ∧ Xi S1 890 1 ≤ Xi S 876 7))
set_option maxRecDepth 100000 in
theorem t_gr_takeWhat__p {S : sS} (hH : RI S) (hfr : NFR S) (hr : Xi S 876 7 ≤ 5130) (ha : 0 ≤ Xi S 890 1 ∧ Xi S 890 1 ≤ Xi S 876 7) (d : Nat) : Mp lay0 (d + 3) m_gr_takeWhat [.ref 890] S (Q_gr_takeWhat__p S) := by sorry
def md_gr_takeLoose__p : List rec := [(890, 891, 1, 2)]
abbrev Q_gr_takeLoose__p (S : sS) (one : Int) (other : Int) : pst := fun r S1 => RI S1 ∧ FR md_gr_takeLoose__p S S1 ∧ (∃ z : Int, r = some (iv z) ∧ (0 ≤ z ∧ z ≤ 1) ∧ (gLo (ty7 S) one other (Xi S 890 1) = (z, Xi S1 890 1)) ∧ (Xi S 890 1 ≤ Xi S1 890 1 ∧ Xi S1 890 1 ≤ Xi S 876 7))
set_option maxRecDepth 100000 in
theorem t_gr_takeLoose__p {S : sS} (hH : RI S) (one : Int) (other : Int) (hone : -2147483648 ≤ one ∧ one ≤ 2147483647) (hother : -2147483648 ≤ other ∧ other ≤ 2147483647) (hfr : NFR S) (hr : Xi S 876 7 ≤ 5130) (ha : 0 ≤ Xi S 890 1 ∧ Xi S 890 1 ≤ Xi S 876 7) (h12 : one ≠ 107 ∧ other ≠ 107) (d : Nat) : Mp lay0 (d + 2) m_gr_takeLoose [.ref 890, iv one, iv other] S (Q_gr_takeLoose__p S one other) := by sorry
def md_gr_takePropertyTest__p : List rec := [(890, 891, 1, 2)]
abbrev Q_gr_takePropertyTest__p (S : sS) (now : Int) : pst := fun r S1 => RI S1 ∧ FR md_gr_takePropertyTest__p S S1 ∧ (∃ z : Int, r = some (iv z) ∧ (0 ≤ z ∧ z ≤ 1) ∧ (gPt (ty7 S) now (Xi S 890 1) = (z, Xi S1 890 1)) ∧ (Xi S 890 1 ≤ Xi S1 890 1 ∧ Xi S1 890 1 ≤ Xi S 876 7))
set_option maxRecDepth 100000 in
theorem t_gr_takePropertyTest__p {S : sS} (hH : RI S) (now : Int) (hnow : 0 ≤ now ∧ now ≤ 1) (hfr : NFR S) (hr : Xi S 876 7 ≤ 5130) (ha : 0 ≤ Xi S 890 1 ∧ Xi S 890 1 ≤ Xi S 876 7) (hp : bp7 (ty7 S) (Xi S 890 1)) (d : Nat) : Mp lay0 (d + 4) m_gr_takePropertyTest [.ref 890, iv now] S (Q_gr_takePropertyTest__p S now) := by sorry
def md_gr_takeTest__p : List rec := [(890, 891, 1, 2)]
abbrev Q_gr_takeTest__p (S : sS) (now : Int) : pst := fun r S1 => RI S1 ∧ FR md_gr_takeTest__p S S1 ∧ (∃ z : Int, r = some (iv z) ∧ (0 ≤ z ∧ z ≤ 1) ∧ (gTt (ty7 S) now (Xi S 890 1) = (z, Xi S1 890 1)) ∧ (Xi S 890 1 ≤ Xi S1 890 1 ∧ Xi S1 890 1 ≤ Xi S 876 7))
set_option maxRecDepth 100000 in
theorem t_gr_takeTest__p {S : sS} (hH : RI S) (now : Int) (hnow : 0 ≤ now ∧ now ≤ 1) (hfr : NFR S) (hr : Xi S 876 7 ≤ 5130) (ha : 0 ≤ Xi S 890 1 ∧ Xi S 890 1 ≤ Xi S 876 7) (d : Nat) : Mp lay0 (d + 5) m_gr_takeTest [.ref 890, iv now] S (Q_gr_takeTest__p S now) := by sorry
def md_gr_takeTests__p : List rec := [(890, 891, 1, 2)]
abbrev Q_gr_takeTests__p (S : sS) : pst := fun r S1 => RI S1 ∧ FR md_gr_takeTests__p S S1 ∧ (∃ z : Int, r = some (iv z) ∧ (0 ≤ z ∧ z ≤ 1) ∧ (gTs (ty7 S) (Xi S 890 1) = (z, Xi S1 890 1)) ∧ (Xi S 890 1 ≤ Xi S1 890 1 ∧ Xi S1 890 1 ≤ Xi S 876 7))
set_option maxRecDepth 100000 in
theorem t_gr_takeTests__p {S : sS} (hH : RI S) (hfr : NFR S) (hr : Xi S 876 7 ≤ 5130) (ha : 0 ≤ Xi S 890 1 ∧ Xi S 890 1 ≤ Xi S 876 7) (d : Nat) : Mp lay0 (d + 6) m_gr_takeTests [.ref 890] S (Q_gr_takeTests__p S) := by sorry
def md_gr_takeActing__p : List rec := [(890, 891, 1, 2)]
abbrev Q_gr_takeActing__p (S : sS) : pst := fun r S1 => RI S1 ∧ FR md_gr_takeActing__p S S1 ∧ (∃ z : Int, r = some (iv z) ∧ (0 ≤ z ∧ z ≤ 1) ∧ (gAc (ty7 S) (Xi S 890 1) = (z, Xi S1 890 1)) ∧ (Xi S 890 1 ≤ Xi S1 890 1 ∧ Xi S1 890 1 ≤ Xi S 876 7))
set_option maxRecDepth 100000 in
theorem t_gr_takeActing__p {S : sS} (hH : RI S) (hfr : NFR S) (hr : Xi S 876 7 ≤ 5130) (ha : 0 ≤ Xi S 890 1 ∧ Xi S 890 1 ≤ Xi S 876 7) (d : Nat) : Mp lay0 (d + 3) m_gr_takeActing [.ref 890] S (Q_gr_takeActing__p S) := by sorry
def md_gr_takePhrase__p : List rec := [(890, 891, 1, 2)]
abbrev Q_gr_takePhrase__p (S : sS) : pst := fun r S1 => RI S1 ∧ FR md_gr_takePhrase__p S S1 ∧ (∃ z : Int, r = some (iv z) ∧ (0 ≤ z ∧ z ≤ 1) ∧ (gPh (ty7 S) (Xi S 890 1) = (z, Xi S1 890 1)) ∧ (Xi S 890 1 ≤ Xi S1 890 1 ∧ Xi S1 890 1 ≤ Xi S 876 7))
set_option maxRecDepth 100000 in
theorem t_gr_takePhrase__p {S : sS} (hH : RI S) (hfr : NFR S) (hr : Xi S 876 7 ≤ 5130) (ha : 0 ≤ Xi S 890 1 ∧ Xi S 890 1 ≤ Xi S 876 7) (d : Nat) : Mp lay0 (d + 4) m_gr_takePhrase [.ref 890] S (Q_gr_takePhrase__p S) := by sorry
end
end
section
section
theorem gT_i {T : Int → Int} {k a z c : Int} (h : gT T k a = (z, c)) : (z = 1 → T a = k ∧ c = a + 1) ∧ (z = 0 → T a ≠ k ∧ c = a) := by sorry
theorem gBt_i {T : Int → Int} {a z c : Int} (h : gBt T a = (z, c)) : (z = 1 → T a = 16 ∨ T a = 104) ∧ (z = 0 → T a ≠ 16 ∧ T a ≠ 104) := by sorry
/-- the sort of a sentence that ends in RUNS -/
def crs (T : Int → Int) (al a : Int) : Int := if al ≠ 0 then 15 else if T (re7 T a) = 7 then 14 else if T (re7 T a) = 16 ∨ T (re7 T a) = 104 then 16 else 15
theorem crs_i {T : Int → Int} {al a s : Int} (h : (al ≠ 0 ∧ s = 15) ∨ (al = 0 ∧ T (re7 T a) = 7 ∧ s = 14) ∨ (al = 0 ∧ T (re7 T a) ≠ 7 ∧ (T (re7 T a) = 16 ∨ T (re7 T a) = 104) ∧ s = 16) ∨ (al = 0 ∧ T (re7 T a) ≠ 7 ∧ T (re7 T a) ≠ 16 ∧ T (re7 T a) ≠ 104 ∧ s = 15)) : s = crs T al a := by sorry
theorem rs_x {T : Int → Int} {X : Int × Int} {al n a : Int} (h : (al ≠ 0 → X = gT T 103 a) ∧ (al = 0 → X = gSq (gRn T (5000 - n).toNat a) (gT T 103))) (hn : 5000 ≤ n) : X = gT T 103 a := by sorry
def md_gr_takePhrases__p : List rec := [(890, 891, 1, 2)]
abbrev Q_gr_takePhrases__p (S : sS) : pst := fun r S1 => RI S1 ∧ FR md_gr_takePhrases__p S S1 ∧ (∃ z : Int, r = some (iv z) ∧ (0 ≤ z ∧ z ≤ 1) ∧ (gPs (ty7 S) (Xi S 890 1) = (z, Xi S1 890 1)) ∧ (Xi S 890 1 ≤ Xi S1 890 1 ∧ Xi S1 890 1 ≤ Xi S 876 7))
set_option maxRecDepth 100000 in
theorem t_gr_takePhrases__p {S : sS} (hH : RI S) (hfr : NFR S) (hr : Xi S 876 7 ≤ 5130) (ha : 0 ≤ Xi S 890 1 ∧ Xi S 890 1 ≤ Xi S 876 7) (d : Nat) : Mp lay0 (d + 6) m_gr_takePhrases [.ref 890] S (Q_gr_takePhrases__p S) := by sorry
def md_gr_checkRuns__p : List rec := [(890, 891, 1, 2), (890, 891, 2, 3)]
abbrev Q_gr_checkRuns__p (S : sS) (alone : Int) : pst := fun r S1 => RI S1 ∧ FR md_gr_checkRuns__p S S1 ∧ (∃ z : Int, r = some (iv z) ∧ (0 ≤ z ∧ z ≤ 1) ∧ (ckR (ty7 S) alone (Xi S 890 1) = (z, Xi S1 890 1)) ∧ (Xi S 890 1 ≤ Xi S1 890 1 ∧ Xi S1 890 1 ≤ Xi S 876 7) ∧ (z = 1 → Xi S1 890 2 = crs (ty7 S) alone (Xi S 890 1)))
set_option maxRecDepth 100000 in
theorem c97_gr_checkRuns__p {S : sS} (hH : RI S) (alone : Int) (halone : 0 ≤ alone ∧ alone ≤ 1) (hfr : NFR S) (hr : Xi S 876 7 ≤ 5130) (ha : 0 ≤ Xi S 890 1 ∧ Xi S 890 1 ≤ Xi S 876 7) (d : Nat) (fu : Nat) : ∀  (T1 : sS) (_ : RI T1) (_ : FR md_gr_checkRuns__p S T1), (ckR (ty7 S) alone (Xi S 890 1) = gT (ty7 S) 103 (Xi T1 890 1)) → (Xi S 890 1 ≤ Xi T1 890 1 ∧ Xi T1 890 1 ≤ Xi S 876 7) → (Xi T1 890 2 = crs (ty7 S) alone (Xi S 890 1)) → Pl fu lay0 (d + 3) m_gr_checkRuns 97 [(0, .ref 890)] [] T1 (Q_gr_checkRuns__p S alone) := by sorry
set_option maxRecDepth 100000 in
theorem c58_gr_checkRuns__p {S : sS} (hH : RI S) (alone : Int) (halone : 0 ≤ alone ∧ alone ≤ 1) (hfr : NFR S) (hr : Xi S 876 7 ≤ 5130) (ha : 0 ≤ Xi S 890 1 ∧ Xi S 890 1 ≤ Xi S 876 7) (d : Nat) (fu : Nat) : ∀ (n58 : Nat) (_ : n58 ≤ fu) (T3 : sS) (_ : RI T3) (_ : FR md_gr_checkRuns__p S T3) (v2 : Int), (-2147483648 ≤ v2 ∧ v2 ≤ 2147483647) → ((alone ≠ 0 → ckR (ty7 S) alone (Xi S 890 1) = gT (ty7 S) 103 (Xi T3 890 1)) ∧ (alone = 0 → ckR (ty7 S) alone (Xi S 890 1) = gSq (gRn (ty7 S) (5000 - v2).toNat (Xi T3 890 1)) (gT (ty7 S) 103))) → (0 ≤ v2 ∧ v2 ≤ 5000) → (Xi S 890 1 ≤ Xi T3 890 1 ∧ Xi T3 890 1 ≤ Xi S 876 7) → (Hid ((v2 = 0 → Xi T3 890 2 = 15 ∧ (alone = 0 → Xi T3 890 1 = re7 (ty7 S) (Xi S 890 1) ∧ ty7 S (re7 (ty7 S) (Xi S 890 1)) ≠ 7)) ∧ (0 < v2 → alone = 0 ∧ Xi T3 890 2 = 16 ∧ (ty7 S (re7 (ty7 S) (Xi S 890 1)) = 16 ∨ ty7 S (re7 (ty7 S) (Xi S 890 1)) = 104) ∧ ty7 S (re7 (ty7 S) (Xi S 890 1)) ≠ 7))) → Pl n58 lay0 (d + 3) m_gr_checkRuns 58 [(0, .ref 890), (1, iv alone), (2, iv v2)] [] T3 (Q_gr_checkRuns__p S alone) := by sorry
set_option maxRecDepth 100000 in
theorem c56_gr_checkRuns__p {S : sS} (hH : RI S) (alone : Int) (halone : 0 ≤ alone ∧ alone ≤ 1) (hfr : NFR S) (hr : Xi S 876 7 ≤ 5130) (ha : 0 ≤ Xi S 890 1 ∧ Xi S 890 1 ≤ Xi S 876 7) (d : Nat) (fu : Nat) : ∀  (T7 : sS) (_ : RI T7) (_ : FR md_gr_checkRuns__p S T7), ((alone ≠ 0 → ckR (ty7 S) alone (Xi S 890 1) = gT (ty7 S) 103 (Xi T7 890 1)) ∧ (alone = 0 → ckR (ty7 S) alone (Xi S 890 1) = gSq (gRn (ty7 S) 5000 (Xi T7 890 1)) (gT (ty7 S) 103))) → (Xi S 890 1 ≤ Xi T7 890 1 ∧ Xi T7 890 1 ≤ Xi S 876 7) → (Xi T7 890 2 = 15) → (Hid (alone = 0 → Xi T7 890 1 = re7 (ty7 S) (Xi S 890 1) ∧ ty7 S (re7 (ty7 S) (Xi S 890 1)) ≠ 7)) → Pl fu lay0 (d + 3) m_gr_checkRuns 56 [(0, .ref 890), (1, iv alone)] [] T7 (Q_gr_checkRuns__p S alone) := by sorry
set_option maxRecDepth 100000 in
theorem t_gr_checkRuns__p {S : sS} (hH : RI S) (alone : Int) (halone : 0 ≤ alone ∧ alone ≤ 1) (hfr : NFR S) (hr : Xi S 876 7 ≤ 5130) (ha : 0 ≤ Xi S 890 1 ∧ Xi S 890 1 ≤ Xi S 876 7) (d : Nat) : Mp lay0 (d + 4) m_gr_checkRuns [.ref 890, iv alone] S (Q_gr_checkRuns__p S alone) := by sorry
end
end
section
section
/-- the sort of a sentence by what stands behind is or are -/
def bes (T : Int → Int) (a : Int) : Int := if T a = 0 ∧ T (a + 1) = 18 then 10 else if T a = 1 ∧ T (a + 1) = 27 then 11 else if art7 (T a) then 12 else if pl7 (T a) then 13 else if T a = 6 ∨ T a = 32 then 15 else crs T 0 a
theorem bes_10 {T : Int → Int} {a s : Int} (h : T a = 0 ∧ T (a + 1) = 18) (e : s = 10) : s = bes T a := by sorry
theorem bes_11 {T : Int → Int} {a s : Int} (h : T a = 1 ∧ T (a + 1) = 27) (e : s = 11) : s = bes T a := by sorry
theorem bes_12 {T : Int → Int} {a s : Int} (n : ¬ (T a = 0 ∧ T (a + 1) = 18)) (m : ¬ (T a = 1 ∧ T (a + 1) = 27)) (h : art7 (T a)) (e : s = 12) : s = bes T a := by sorry
theorem bes_13 {T : Int → Int} {a s : Int} (h : pl7 (T a)) (e : s = 13) : s = bes T a := by sorry
theorem bes_r {T : Int → Int} {a s : Int} (h1 : ¬ art7 (T a)) (h2 : ¬ pl7 (T a)) (h : ((T a = 6 ∨ T a = 32) ∧ s = 15) ∨ (T a ≠ 6 ∧ T a ≠ 32 ∧ s = crs T 0 a)) : s = bes T a := by sorry
theorem crs_1 {T : Int → Int} {al a : Int} (h : al ≠ 0) : crs T al a = 15 := by sorry
def BES (S : sS) (T : Int → Int) : Prop := (bp7 T 0 → Xi S 890 2 = 9) ∧ (¬ bp7 T 0 → ∃ a, gSq (gLs T 0) (gBe T) = (1, a) ∧ Xi S 890 2 = bes T a)
def OTS (S : sS) (T : Int → Int) : Prop := (T 0 = 2 ∧ T 1 = 25 → Xi S 890 2 = 7) ∧ (T 0 = 2 ∧ T 1 = 19 → Xi S 890 2 = 8) ∧ (¬ (T 0 = 2 ∧ T 1 = 25) → ¬ (T 0 = 2 ∧ T 1 = 19) → Xi S 890 3 = tk7 T ∧ ((kt7 T = 4 ∨ kt7 T = 5) → BES S T) ∧ (kt7 T = 12 → Xi S 890 2 = 17) ∧ (kt7 T = 13 → Xi S 890 2 = 18) ∧ (kt7 T = 21 → Xi S 890 2 = 19) ∧ (¬ (kt7 T = 4 ∨ kt7 T = 5) → kt7 T ≠ 12 → kt7 T ≠ 13 → kt7 T ≠ 21 → Xi S 890 2 = 20))
def CKS (S : sS) (T : Int → Int) : Prop := (T 0 = 102 → Xi S 890 2 = 0) ∧ (T 0 = 33 → Xi S 890 2 = 1) ∧ (T 0 = 35 → Xi S 890 2 = 2) ∧ (T 0 = 38 → Xi S 890 2 = 3) ∧ (T 0 = 40 → Xi S 890 2 = 4) ∧ (T 0 = 39 → Xi S 890 2 = 5) ∧ (T 0 = 41 → Xi S 890 2 = 6) ∧ (T 0 ≠ 102 → T 0 ≠ 33 → T 0 ≠ 35 → T 0 ≠ 38 → T 0 ≠ 40 → T 0 ≠ 39 → T 0 ≠ 41 → OTS S T)

def md_gr_checkBe__p : List rec := [(890, 891, 1, 2), (890, 891, 2, 3)]
abbrev Q_gr_checkBe__p (S : sS) : pst := fun r S1 => RI S1 ∧ FR md_gr_checkBe__p S S1 ∧ (∃ z : Int, r = some (iv z) ∧ (0 ≤ z ∧ z ≤ 1) ∧ (ckB (ty7 S)  = (z, Xi S1 890 1)) ∧ (Xi S 890 1 ≤ Xi S1 890 1 ∧ Xi S1 890 1 ≤ Xi S 876 7) ∧ (z = 1 → BES S1 (ty7 S)))
set_option maxRecDepth 100000 in
theorem c11_gr_checkBe__p {S : sS} (hH : RI S) (hfr : NFR S) (hr : Xi S 876 7 ≤ 5130) (ha : 0 ≤ Xi S 890 1 ∧ Xi S 890 1 ≤ Xi S 876 7) (hls : LST S) (h0 : Xi S 890 1 = 0) (d : Nat) (fu : Nat) : (Hid (bp7 (ty7 S) 0)) → Pl fu lay0 (d + 4) m_gr_checkBe 11 [(0, .ref 890)] [] S (Q_gr_checkBe__p S) := by sorry
set_option maxRecDepth 100000 in
theorem c119_gr_checkBe__p {S : sS} (hH : RI S) (hfr : NFR S) (hr : Xi S 876 7 ≤ 5130) (ha : 0 ≤ Xi S 890 1 ∧ Xi S 890 1 ≤ Xi S 876 7) (hls : LST S) (h0 : Xi S 890 1 = 0) (d : Nat) (fu : Nat) : ∀  (T7 : sS) (_ : RI T7) (_ : FR md_gr_checkBe__p S T7), (gSq (gLs (ty7 S) 0) (gBe (ty7 S)) = (1, Xi T7 890 1)) → (Hid (¬ bp7 (ty7 S) 0)) → (0 ≤ Xi T7 890 1 ∧ Xi T7 890 1 ≤ Xi S 876 7) → (ty7 S (Xi T7 890 1) = 0 ∧ ty7 S (Xi T7 890 1 + 1) = 18) → Pl fu lay0 (d + 4) m_gr_checkBe 119 [(0, .ref 890)] [] T7 (Q_gr_checkBe__p S) := by sorry
set_option maxRecDepth 100000 in
theorem c186_gr_checkBe__p {S : sS} (hH : RI S) (hfr : NFR S) (hr : Xi S 876 7 ≤ 5130) (ha : 0 ≤ Xi S 890 1 ∧ Xi S 890 1 ≤ Xi S 876 7) (hls : LST S) (h0 : Xi S 890 1 = 0) (d : Nat) (fu : Nat) : ∀  (T16 : sS) (_ : RI T16) (_ : FR md_gr_checkBe__p S T16), (gSq (gLs (ty7 S) 0) (gBe (ty7 S)) = (1, Xi T16 890 1)) → (Hid (¬ bp7 (ty7 S) 0)) → (0 ≤ Xi T16 890 1 ∧ Xi T16 890 1 ≤ Xi S 876 7) → (ty7 S (Xi T16 890 1) = 1 ∧ ty7 S (Xi T16 890 1 + 1) = 27) → Pl fu lay0 (d + 4) m_gr_checkBe 186 [(0, .ref 890)] [] T16 (Q_gr_checkBe__p S) := by sorry
set_option maxRecDepth 100000 in
theorem c258_gr_checkBe__p {S : sS} (hH : RI S) (hfr : NFR S) (hr : Xi S 876 7 ≤ 5130) (ha : 0 ≤ Xi S 890 1 ∧ Xi S 890 1 ≤ Xi S 876 7) (hls : LST S) (h0 : Xi S 890 1 = 0) (d : Nat) (fu : Nat) : ∀  (T25 : sS) (_ : RI T25) (_ : FR md_gr_checkBe__p S T25), (gSq (gLs (ty7 S) 0) (gBe (ty7 S)) = (1, Xi T25 890 1)) → (Hid (¬ bp7 (ty7 S) 0)) → (0 ≤ Xi T25 890 1 ∧ Xi T25 890 1 ≤ Xi S 876 7) → (Hid (art7 (ty7 S (Xi T25 890 1)))) → (Hid (¬ (ty7 S (Xi T25 890 1) = 0 ∧ ty7 S (Xi T25 890 1 + 1) = 18))) → (Hid (¬ (ty7 S (Xi T25 890 1) = 1 ∧ ty7 S (Xi T25 890 1 + 1) = 27))) → Pl fu lay0 (d + 4) m_gr_checkBe 258 [(0, .ref 890)] [] T25 (Q_gr_checkBe__p S) := by sorry
set_option maxRecDepth 100000 in
theorem c318_gr_checkBe__p {S : sS} (hH : RI S) (hfr : NFR S) (hr : Xi S 876 7 ≤ 5130) (ha : 0 ≤ Xi S 890 1 ∧ Xi S 890 1 ≤ Xi S 876 7) (hls : LST S) (h0 : Xi S 890 1 = 0) (d : Nat) (fu : Nat) : ∀  (T32 : sS) (_ : RI T32) (_ : FR md_gr_checkBe__p S T32), (gSq (gLs (ty7 S) 0) (gBe (ty7 S)) = (1, Xi T32 890 1)) → (Hid (¬ bp7 (ty7 S) 0)) → (0 ≤ Xi T32 890 1 ∧ Xi T32 890 1 ≤ Xi S 876 7) → (Hid (pl7 (ty7 S (Xi T32 890 1)))) → Pl fu lay0 (d + 4) m_gr_checkBe 318 [(0, .ref 890)] [] T32 (Q_gr_checkBe__p S) := by sorry
set_option maxRecDepth 100000 in
theorem c347_gr_checkBe__p {S : sS} (hH : RI S) (hfr : NFR S) (hr : Xi S 876 7 ≤ 5130) (ha : 0 ≤ Xi S 890 1 ∧ Xi S 890 1 ≤ Xi S 876 7) (hls : LST S) (h0 : Xi S 890 1 = 0) (d : Nat) (fu : Nat) : ∀  (T36 : sS) (_ : RI T36) (_ : FR md_gr_checkBe__p S T36), (gSq (gLs (ty7 S) 0) (gBe (ty7 S)) = (1, Xi T36 890 1)) → (Hid (¬ bp7 (ty7 S) 0)) → (0 ≤ Xi T36 890 1 ∧ Xi T36 890 1 ≤ Xi S 876 7) → (Hid (¬ art7 (ty7 S (Xi T36 890 1)))) → (Hid (¬ pl7 (ty7 S (Xi T36 890 1)))) → Pl fu lay0 (d + 4) m_gr_checkBe 347 [(0, .ref 890)] [] T36 (Q_gr_checkBe__p S) := by sorry
set_option maxRecDepth 100000 in
theorem c311_gr_checkBe__p {S : sS} (hH : RI S) (hfr : NFR S) (hr : Xi S 876 7 ≤ 5130) (ha : 0 ≤ Xi S 890 1 ∧ Xi S 890 1 ≤ Xi S 876 7) (hls : LST S) (h0 : Xi S 890 1 = 0) (d : Nat) (fu : Nat) : ∀  (T42 : sS) (_ : RI T42) (_ : FR md_gr_checkBe__p S T42), (gSq (gLs (ty7 S) 0) (gBe (ty7 S)) = (1, Xi T42 890 1)) → (Hid (¬ bp7 (ty7 S) 0)) → (0 ≤ Xi T42 890 1 ∧ Xi T42 890 1 ≤ Xi S 876 7) → (Hid (¬ art7 (ty7 S (Xi T42 890 1)))) → Pl fu lay0 (d + 4) m_gr_checkBe 311 [(0, .ref 890)] [] T42 (Q_gr_checkBe__p S) := by sorry
set_option maxRecDepth 100000 in
theorem c251_gr_checkBe__p {S : sS} (hH : RI S) (hfr : NFR S) (hr : Xi S 876 7 ≤ 5130) (ha : 0 ≤ Xi S 890 1 ∧ Xi S 890 1 ≤ Xi S 876 7) (hls : LST S) (h0 : Xi S 890 1 = 0) (d : Nat) (fu : Nat) : ∀  (T43 : sS) (_ : RI T43) (_ : FR md_gr_checkBe__p S T43) (v1 : Int), (-2147483648 ≤ v1 ∧ v1 ≤ 2147483647) → (gSq (gLs (ty7 S) 0) (gBe (ty7 S)) = (1, Xi T43 890 1)) → (Hid (¬ bp7 (ty7 S) 0)) → (0 ≤ Xi T43 890 1 ∧ Xi T43 890 1 ≤ Xi S 876 7) → (ty7 S (Xi T43 890 1) = v1) → (Hid (¬ (ty7 S (Xi T43 890 1) = 0 ∧ ty7 S (Xi T43 890 1 + 1) = 18))) → (Hid (¬ (ty7 S (Xi T43 890 1) = 1 ∧ ty7 S (Xi T43 890 1 + 1) = 27))) → Pl fu lay0 (d + 4) m_gr_checkBe 251 [(0, .ref 890), (1, iv v1)] [] T43 (Q_gr_checkBe__p S) := by sorry
set_option maxRecDepth 100000 in
theorem c175_gr_checkBe__p {S : sS} (hH : RI S) (hfr : NFR S) (hr : Xi S 876 7 ≤ 5130) (ha : 0 ≤ Xi S 890 1 ∧ Xi S 890 1 ≤ Xi S 876 7) (hls : LST S) (h0 : Xi S 890 1 = 0) (d : Nat) (fu : Nat) : ∀  (T44 : sS) (_ : RI T44) (_ : FR md_gr_checkBe__p S T44) (v1 : Int) (v2 : Int), (-2147483648 ≤ v1 ∧ v1 ≤ 2147483647) → (-2147483648 ≤ v2 ∧ v2 ≤ 2147483647) → (gSq (gLs (ty7 S) 0) (gBe (ty7 S)) = (1, Xi T44 890 1)) → (Hid (¬ bp7 (ty7 S) 0)) → (0 ≤ Xi T44 890 1 ∧ Xi T44 890 1 ≤ Xi S 876 7) → (ty7 S (Xi T44 890 1) = v1 ∧ ty7 S (Xi T44 890 1 + 1) = v2) → (Hid (¬ (ty7 S (Xi T44 890 1) = 0 ∧ ty7 S (Xi T44 890 1 + 1) = 18))) → Pl fu lay0 (d + 4) m_gr_checkBe 175 [(0, .ref 890), (1, iv v1), (2, iv v2)] [] T44 (Q_gr_checkBe__p S) := by sorry
set_option maxRecDepth 100000 in
theorem c83_gr_checkBe__p {S : sS} (hH : RI S) (hfr : NFR S) (hr : Xi S 876 7 ≤ 5130) (ha : 0 ≤ Xi S 890 1 ∧ Xi S 890 1 ≤ Xi S 876 7) (hls : LST S) (h0 : Xi S 890 1 = 0) (d : Nat) (fu : Nat) : ∀  (T45 : sS) (_ : RI T45) (_ : FR md_gr_checkBe__p S T45), (gSq (gLs (ty7 S) 0) (gBe (ty7 S)) = (1, Xi T45 890 1)) → (Hid (¬ bp7 (ty7 S) 0)) → (0 ≤ Xi T45 890 1 ∧ Xi T45 890 1 ≤ Xi S 876 7) → Pl fu lay0 (d + 4) m_gr_checkBe 83 [(0, .ref 890)] [] T45 (Q_gr_checkBe__p S) := by sorry
set_option maxRecDepth 100000 in
theorem c67_gr_checkBe__p {S : sS} (hH : RI S) (hfr : NFR S) (hr : Xi S 876 7 ≤ 5130) (ha : 0 ≤ Xi S 890 1 ∧ Xi S 890 1 ≤ Xi S 876 7) (hls : LST S) (h0 : Xi S 890 1 = 0) (d : Nat) (fu : Nat) : (Hid (¬ bp7 (ty7 S) 0)) → Pl fu lay0 (d + 4) m_gr_checkBe 67 [(0, .ref 890)] [] S (Q_gr_checkBe__p S) := by sorry
set_option maxRecDepth 100000 in
theorem t_gr_checkBe__p {S : sS} (hH : RI S) (hfr : NFR S) (hr : Xi S 876 7 ≤ 5130) (ha : 0 ≤ Xi S 890 1 ∧ Xi S 890 1 ≤ Xi S 876 7) (hls : LST S) (h0 : Xi S 890 1 = 0) (d : Nat) : Mp lay0 (d + 5) m_gr_checkBe [.ref 890] S (Q_gr_checkBe__p S) := by sorry
end
end
section
section
theorem ots_7 {S : sS} {T : Int → Int} (h : T 0 = 2 ∧ T 1 = 25) (s : Xi S 890 2 = 7) : OTS S T := by sorry
theorem ots_8 {S : sS} {T : Int → Int} (h : T 0 = 2 ∧ T 1 = 19) (s : Xi S 890 2 = 8) : OTS S T := by sorry
theorem ots_b {S : sS} {T : Int → Int} (n : ¬ (T 0 = 2 ∧ T 1 = 25)) (m : ¬ (T 0 = 2 ∧ T 1 = 19)) (k : Xi S 890 3 = tk7 T) (h : kt7 T = 4 ∨ kt7 T = 5) (b : BES S T) : OTS S T := by sorry
theorem ots_s {S : sS} {T : Int → Int} (n : ¬ (T 0 = 2 ∧ T 1 = 25)) (m : ¬ (T 0 = 2 ∧ T 1 = 19)) (k : Xi S 890 3 = tk7 T) (h : (kt7 T = 12 ∧ Xi S 890 2 = 17) ∨ (kt7 T = 13 ∧ Xi S 890 2 = 18) ∨ (kt7 T = 21 ∧ Xi S 890 2 = 19)) : OTS S T := by sorry
theorem ots_20 {S : sS} {T : Int → Int} (n : ¬ (T 0 = 2 ∧ T 1 = 25)) (m : ¬ (T 0 = 2 ∧ T 1 = 19)) (k : Xi S 890 3 = tk7 T) (h : kt7 T ≠ 4 ∧ kt7 T ≠ 5 ∧ kt7 T ≠ 12 ∧ kt7 T ≠ 13 ∧ kt7 T ≠ 21) (s : Xi S 890 2 = 20) : OTS S T := by sorry
theorem cks_i {S : sS} {T : Int → Int} (h : (T 0 = 102 ∧ Xi S 890 2 = 0) ∨ (T 0 = 33 ∧ Xi S 890 2 = 1) ∨ (T 0 = 35 ∧ Xi S 890 2 = 2) ∨ (T 0 = 38 ∧ Xi S 890 2 = 3) ∨ (T 0 = 40 ∧ Xi S 890 2 = 4) ∨ (T 0 = 39 ∧ Xi S 890 2 = 5) ∨ (T 0 = 41 ∧ Xi S 890 2 = 6)) : CKS S T := by sorry
theorem cks_o {S : sS} {T : Int → Int} (h : T 0 ≠ 102 ∧ T 0 ≠ 33 ∧ T 0 ≠ 35 ∧ T 0 ≠ 38 ∧ T 0 ≠ 39 ∧ T 0 ≠ 40 ∧ T 0 ≠ 41) (o : OTS S T) : CKS S T := by sorry
def md_gr_checkOthers__p : List rec := [(890, 891, 1, 2), (890, 891, 2, 3), (890, 891, 3, 4)]
abbrev Q_gr_checkOthers__p (S : sS) : pst := fun r S1 => RI S1 ∧ FR md_gr_checkOthers__p S S1 ∧ (∃ z : Int, r = some (iv z) ∧ (0 ≤ z ∧ z ≤ 1) ∧ (ckO (ty7 S)  = (z, Xi S1 890 1)) ∧ (0 ≤ Xi S1 890 1 ∧ Xi S1 890 1 ≤ Xi S 876 7) ∧ (z = 1 → OTS S1 (ty7 S)))
set_option maxRecDepth 100000 in
theorem c25_gr_checkOthers__p {S : sS} (hH : RI S) (hfr : NFR S) (hr : Xi S 876 7 ≤ 5130) (hls : LST S) (h1 : 1 ≤ Xi S 876 7) (d : Nat) (fu : Nat) : (ty7 S 0 = 2 ∧ ty7 S 1 = 25) → Pl fu lay0 (d + 5) m_gr_checkOthers 25 [(0, .ref 890)] [] S (Q_gr_checkOthers__p S) := by sorry
set_option maxRecDepth 100000 in
theorem c125_gr_checkOthers__p {S : sS} (hH : RI S) (hfr : NFR S) (hr : Xi S 876 7 ≤ 5130) (hls : LST S) (h1 : 1 ≤ Xi S 876 7) (d : Nat) (fu : Nat) : (ty7 S 0 = 2 ∧ ty7 S 1 = 19) → Pl fu lay0 (d + 5) m_gr_checkOthers 125 [(0, .ref 890)] [] S (Q_gr_checkOthers__p S) := by sorry
set_option maxRecDepth 100000 in
theorem c475_gr_checkOthers__p {S : sS} (hH : RI S) (hfr : NFR S) (hr : Xi S 876 7 ≤ 5130) (hls : LST S) (h1 : 1 ≤ Xi S 876 7) (d : Nat) (fu : Nat) : ∀  (T17 : sS) (_ : RI T17) (_ : FR md_gr_checkOthers__p S T17), (Hid (¬ (ty7 S 0 = 2 ∧ ty7 S 1 = 25))) → (Hid (¬ (ty7 S 0 = 2 ∧ ty7 S 1 = 19))) → (Xi T17 890 1 = 0) → (Xi T17 890 3 = tk7 (ty7 S)) → (Hid (kt7 (ty7 S) ≠ 4 ∧ kt7 (ty7 S) ≠ 5 ∧ kt7 (ty7 S) ≠ 12 ∧ kt7 (ty7 S) ≠ 13 ∧ kt7 (ty7 S) ≠ 21)) → Pl fu lay0 (d + 5) m_gr_checkOthers 475 [(0, .ref 890)] [] T17 (Q_gr_checkOthers__p S) := by sorry
set_option maxRecDepth 100000 in
theorem c260_gr_checkOthers__p {S : sS} (hH : RI S) (hfr : NFR S) (hr : Xi S 876 7 ≤ 5130) (hls : LST S) (h1 : 1 ≤ Xi S 876 7) (d : Nat) (fu : Nat) : ∀  (T21 : sS) (_ : RI T21) (_ : FR md_gr_checkOthers__p S T21), (Hid (¬ (ty7 S 0 = 2 ∧ ty7 S 1 = 25))) → (Hid (¬ (ty7 S 0 = 2 ∧ ty7 S 1 = 19))) → (Xi T21 890 1 = 0) → (Xi T21 890 3 = tk7 (ty7 S)) → (kt7 (ty7 S) = 4 ∨ kt7 (ty7 S) = 5) → Pl fu lay0 (d + 5) m_gr_checkOthers 260 [(0, .ref 890)] [] T21 (Q_gr_checkOthers__p S) := by sorry
set_option maxRecDepth 100000 in
theorem c265_gr_checkOthers__p {S : sS} (hH : RI S) (hfr : NFR S) (hr : Xi S 876 7 ≤ 5130) (hls : LST S) (h1 : 1 ≤ Xi S 876 7) (d : Nat) (fu : Nat) : ∀  (T23 : sS) (_ : RI T23) (_ : FR md_gr_checkOthers__p S T23), (Hid (¬ (ty7 S 0 = 2 ∧ ty7 S 1 = 25))) → (Hid (¬ (ty7 S 0 = 2 ∧ ty7 S 1 = 19))) → (Xi T23 890 1 = 0) → (Xi T23 890 3 = tk7 (ty7 S)) → (kt7 (ty7 S) = 12) → Pl fu lay0 (d + 5) m_gr_checkOthers 265 [(0, .ref 890)] [] T23 (Q_gr_checkOthers__p S) := by sorry
set_option maxRecDepth 100000 in
theorem c332_gr_checkOthers__p {S : sS} (hH : RI S) (hfr : NFR S) (hr : Xi S 876 7 ≤ 5130) (hls : LST S) (h1 : 1 ≤ Xi S 876 7) (d : Nat) (fu : Nat) : ∀  (T32 : sS) (_ : RI T32) (_ : FR md_gr_checkOthers__p S T32), (Hid (¬ (ty7 S 0 = 2 ∧ ty7 S 1 = 25))) → (Hid (¬ (ty7 S 0 = 2 ∧ ty7 S 1 = 19))) → (Xi T32 890 1 = 0) → (Xi T32 890 3 = tk7 (ty7 S)) → (kt7 (ty7 S) = 13) → Pl fu lay0 (d + 5) m_gr_checkOthers 332 [(0, .ref 890)] [] T32 (Q_gr_checkOthers__p S) := by sorry
set_option maxRecDepth 100000 in
theorem c401_gr_checkOthers__p {S : sS} (hH : RI S) (hfr : NFR S) (hr : Xi S 876 7 ≤ 5130) (hls : LST S) (h1 : 1 ≤ Xi S 876 7) (d : Nat) (fu : Nat) : ∀  (T41 : sS) (_ : RI T41) (_ : FR md_gr_checkOthers__p S T41), (Hid (¬ (ty7 S 0 = 2 ∧ ty7 S 1 = 25))) → (Hid (¬ (ty7 S 0 = 2 ∧ ty7 S 1 = 19))) → (Xi T41 890 1 = 0) → (Xi T41 890 3 = tk7 (ty7 S)) → (kt7 (ty7 S) = 21) → Pl fu lay0 (d + 5) m_gr_checkOthers 401 [(0, .ref 890)] [] T41 (Q_gr_checkOthers__p S) := by sorry
set_option maxRecDepth 100000 in
theorem c181_gr_checkOthers__p {S : sS} (hH : RI S) (hfr : NFR S) (hr : Xi S 876 7 ≤ 5130) (hls : LST S) (h1 : 1 ≤ Xi S 876 7) (d : Nat) (fu : Nat) : (Hid (¬ (ty7 S 0 = 2 ∧ ty7 S 1 = 25))) → (Hid (¬ (ty7 S 0 = 2 ∧ ty7 S 1 = 19))) → Pl fu lay0 (d + 5) m_gr_checkOthers 181 [(0, .ref 890)] [] S (Q_gr_checkOthers__p S) := by sorry
set_option maxRecDepth 100000 in
theorem c100_gr_checkOthers__p {S : sS} (hH : RI S) (hfr : NFR S) (hr : Xi S 876 7 ≤ 5130) (hls : LST S) (h1 : 1 ≤ Xi S 876 7) (d : Nat) (fu : Nat) : (Hid (¬ (ty7 S 0 = 2 ∧ ty7 S 1 = 25))) → Pl fu lay0 (d + 5) m_gr_checkOthers 100 [(0, .ref 890)] [] S (Q_gr_checkOthers__p S) := by sorry
set_option maxRecDepth 100000 in
theorem t_gr_checkOthers__p {S : sS} (hH : RI S) (hfr : NFR S) (hr : Xi S 876 7 ≤ 5130) (hls : LST S) (h1 : 1 ≤ Xi S 876 7) (d : Nat) : Mp lay0 (d + 6) m_gr_checkOthers [.ref 890] S (Q_gr_checkOthers__p S) := by sorry
end
end
section
section
theorem cks_r {S : sS} {T : Int → Int} {s : Int} (e : Xi S 890 2 = s) (h : (T 0 = 38 ∧ s = 3) ∨ (T 0 = 40 ∧ s = 4) ∨ (T 0 = 39 ∧ s = 5) ∨ (T 0 = 41 ∧ s = 6)) : CKS S T := by sorry
def md_gr_check__p : List rec := [(890, 891, 1, 2), (890, 891, 2, 3), (890, 891, 3, 4)]
abbrev Q_gr_check__p (S : sS) : pst := fun r S1 => RI S1 ∧ FR md_gr_check__p S S1 ∧ (∃ z : Int, r = some (iv z) ∧ (0 ≤ z ∧ z ≤ 1) ∧ (chk (ty7 S)  = (z, Xi S1 890 1)) ∧ (0 ≤ Xi S1 890 1 ∧ Xi S1 890 1 ≤ Xi S 876 7) ∧ (z = 1 → CKS S1 (ty7 S)))
set_option maxRecDepth 100000 in
theorem c278_gr_check__p {S : sS} (hH : RI S) (hfr : NFR S) (hr : Xi S 876 7 ≤ 5130) (hls : LST S) (h1 : 1 ≤ Xi S 876 7) (d : Nat) (fu : Nat) : ∀  (T1 : sS) (_ : RI T1) (_ : FR md_gr_check__p S T1), (Xi T1 890 1 = 1) → (Hid (ty7 S 0 ≠ 102 ∧ ty7 S 0 ≠ 33 ∧ ty7 S 0 ≠ 35 ∧ ty7 S 0 ≠ 38 ∧ ty7 S 0 ≠ 39 ∧ ty7 S 0 ≠ 40 ∧ ty7 S 0 ≠ 41)) → Pl fu lay0 (d + 6) m_gr_check 278 [(0, .ref 890)] [] T1 (Q_gr_check__p S) := by sorry
set_option maxRecDepth 100000 in
theorem c87_gr_check__p {S : sS} (hH : RI S) (hfr : NFR S) (hr : Xi S 876 7 ≤ 5130) (hls : LST S) (h1 : 1 ≤ Xi S 876 7) (d : Nat) (fu : Nat) : ∀  (T3 : sS) (_ : RI T3) (_ : FR md_gr_check__p S T3), (Xi T3 890 1 = 1) → (ty7 S 0 = 33) → Pl fu lay0 (d + 6) m_gr_check 87 [(0, .ref 890)] [] T3 (Q_gr_check__p S) := by sorry
set_option maxRecDepth 100000 in
theorem c132_gr_check__p {S : sS} (hH : RI S) (hfr : NFR S) (hr : Xi S 876 7 ≤ 5130) (hls : LST S) (h1 : 1 ≤ Xi S 876 7) (d : Nat) (fu : Nat) : ∀  (T9 : sS) (_ : RI T9) (_ : FR md_gr_check__p S T9), (Xi T9 890 1 = 1) → (ty7 S 0 = 35) → Pl fu lay0 (d + 6) m_gr_check 132 [(0, .ref 890)] [] T9 (Q_gr_check__p S) := by sorry
set_option maxRecDepth 100000 in
theorem c283_gr_check__p {S : sS} (hH : RI S) (hfr : NFR S) (hr : Xi S 876 7 ≤ 5130) (hls : LST S) (h1 : 1 ≤ Xi S 876 7) (d : Nat) (fu : Nat) : ∀  (T19 : sS) (_ : RI T19) (_ : FR md_gr_check__p S T19) (v1 : Int), (0 ≤ v1 ∧ v1 ≤ 1) → (Hid (ty7 S 0 = 38 ∨ ty7 S 0 = 39 ∨ ty7 S 0 = 40 ∨ ty7 S 0 = 41)) → (0 ≤ Xi T19 890 1 ∧ Xi T19 890 1 ≤ Xi S 876 7) → (rux7 (ty7 S) = (v1, Xi T19 890 1)) → (Hid ((ty7 S 0 = 38 ∧ Xi T19 890 2 = 3) ∨ (ty7 S 0 = 40 ∧ Xi T19 890 2 = 4) ∨ (ty7 S 0 = 39 ∧ Xi T19 890 2 = 5) ∨ (ty7 S 0 = 41 ∧ Xi T19 890 2 = 6))) → Pl fu lay0 (d + 6) m_gr_check 283 [(0, .ref 890), (1, iv v1)] [] T19 (Q_gr_check__p S) := by sorry
set_option maxRecDepth 100000 in
theorem c206_gr_check__p {S : sS} (hH : RI S) (hfr : NFR S) (hr : Xi S 876 7 ≤ 5130) (hls : LST S) (h1 : 1 ≤ Xi S 876 7) (d : Nat) (fu : Nat) : ∀  (T28 : sS) (_ : RI T28) (_ : FR md_gr_check__p S T28), (Xi T28 890 1 = 1) → (ty7 S 0 = 38) → Pl fu lay0 (d + 6) m_gr_check 206 [(0, .ref 890)] [] T28 (Q_gr_check__p S) := by sorry
set_option maxRecDepth 100000 in
theorem c232_gr_check__p {S : sS} (hH : RI S) (hfr : NFR S) (hr : Xi S 876 7 ≤ 5130) (hls : LST S) (h1 : 1 ≤ Xi S 876 7) (d : Nat) (fu : Nat) : ∀  (T31 : sS) (_ : RI T31) (_ : FR md_gr_check__p S T31), (Xi T31 890 1 = 1) → (ty7 S 0 = 39) → Pl fu lay0 (d + 6) m_gr_check 232 [(0, .ref 890)] [] T31 (Q_gr_check__p S) := by sorry
set_option maxRecDepth 100000 in
theorem c219_gr_check__p {S : sS} (hH : RI S) (hfr : NFR S) (hr : Xi S 876 7 ≤ 5130) (hls : LST S) (h1 : 1 ≤ Xi S 876 7) (d : Nat) (fu : Nat) : ∀  (T35 : sS) (_ : RI T35) (_ : FR md_gr_check__p S T35), (Xi T35 890 1 = 1) → (ty7 S 0 = 40) → Pl fu lay0 (d + 6) m_gr_check 219 [(0, .ref 890)] [] T35 (Q_gr_check__p S) := by sorry
set_option maxRecDepth 100000 in
theorem c262_gr_check__p {S : sS} (hH : RI S) (hfr : NFR S) (hr : Xi S 876 7 ≤ 5130) (hls : LST S) (h1 : 1 ≤ Xi S 876 7) (d : Nat) (fu : Nat) : ∀  (T38 : sS) (_ : RI T38) (_ : FR md_gr_check__p S T38), (Xi T38 890 1 = 1) → (ty7 S 0 = 41) → Pl fu lay0 (d + 6) m_gr_check 262 [(0, .ref 890)] [] T38 (Q_gr_check__p S) := by sorry
set_option maxRecDepth 100000 in
theorem c80_gr_check__p {S : sS} (hH : RI S) (hfr : NFR S) (hr : Xi S 876 7 ≤ 5130) (hls : LST S) (h1 : 1 ≤ Xi S 876 7) (d : Nat) (fu : Nat) : ∀  (T41 : sS) (_ : RI T41) (_ : FR md_gr_check__p S T41), (Xi T41 890 1 = 1) → (ty7 S 0 = 102) → Pl fu lay0 (d + 6) m_gr_check 80 [(0, .ref 890)] [] T41 (Q_gr_check__p S) := by sorry
set_option maxRecDepth 100000 in
theorem t_gr_check__p {S : sS} (hH : RI S) (hfr : NFR S) (hr : Xi S 876 7 ≤ 5130) (hls : LST S) (h1 : 1 ≤ Xi S 876 7) (d : Nat) : Mp lay0 (d + 7) m_gr_check [.ref 890] S (Q_gr_check__p S) := by sorry
end
end
section
section
/-- every entry of the reference's words has a sort -/
def LSP (S : sS) : Prop := ∀ k : Nat, (k : Int) < Xi S 904 15 → 0 ≤ Xi S 914 k
theorem LSP_FR {l : List rec} {S T : sS} (h : FR l S T) (e : mD l [15] = true) (e1 : kdis l [(914, 915)] = true) (q : LSP S) : LSP T := by sorry
abbrev Q_mo_find__p (S : sS) (a : Int) (b : Int) (c : Int) (n : Int) : pst := fun r S1 => S = S1 ∧ (∃ z : Int, r = some (iv z) ∧ (-2147483648 ≤ z ∧ z ≤ 2147483647) ∧ (z = fdR S a b c n (Xi S 904 15).toNat))
set_option maxRecDepth 100000 in
theorem t_mo_find__p {S : sS} (hH : RI S) (a : Int) (b : Int) (c : Int) (n : Int) (hn : -2147483648 ≤ n ∧ n ≤ 2147483647) (ra : rgL a) (rb : rgL b) (rc : rgL c) (h15 : 0 ≤ Xi S 904 15) (hLS : LSP S) (d : Nat) : Mp lay0 (d + 1) m_mo_find [.ref 904, jw a, jw b, jw c, iv n] S (Q_mo_find__p S a b c n) := by sorry
abbrev Q_mo_mean__p (S : sS) (t : Int) (m : Int) : pst := fun r S1 => S = S1 ∧ (∃ z : Int, r = some (iv z) ∧ (-2147483648 ≤ z ∧ z ≤ 2147483647) ∧ (z = nmR S t m))
set_option maxRecDepth 100000 in
theorem t_mo_mean__p {S : sS} (hH : RI S) (t : Int) (m : Int) (ht : -2147483648 ≤ t ∧ t ≤ 2147483600) (hm : -2147483648 ≤ m ∧ m ≤ 2147483647) (hLS : LSP S) (h15 : 0 ≤ Xi S 904 15) (d : Nat) : Mp lay0 (d + 2) m_mo_mean [.ref 904, iv t, iv m] S (Q_mo_mean__p S t m) := by sorry
abbrev Q_mo_means__p (S : sS) (t : Int) (m : Int) (so : Int) : pst := fun r S1 => S = S1 ∧ (∃ z : Int, r = some (iv z) ∧ (-2147483648 ≤ z ∧ z ≤ 2147483647) ∧ (z = msR S t m so))
set_option maxRecDepth 100000 in
theorem t_mo_means__p {S : sS} (hH : RI S) (t : Int) (m : Int) (so : Int) (ht : -2147483648 ≤ t ∧ t ≤ 2147483600) (hm : -2147483648 ≤ m ∧ m ≤ 2147483647) (hso : -2147483648 ≤ so ∧ so ≤ 2147483647) (hLS : LSP S) (h15 : 0 ≤ Xi S 904 15) (d : Nat) : Mp lay0 (d + 3) m_mo_means [.ref 904, iv t, iv m, iv so] S (Q_mo_means__p S t m so) := by sorry
abbrev Q_mo_meansRun__p (S : sS) (rn : Int) (so : Int) : pst := fun r S1 => S = S1 ∧ (∃ z : Int, r = some (iv z) ∧ (-2147483648 ≤ z ∧ z ≤ 2147483647) ∧ (z = rnR S rn so))
set_option maxRecDepth 100000 in
theorem t_mo_meansRun__p {S : sS} (hH : RI S) (rn : Int) (so : Int) (hrn : -2147483648 ≤ rn ∧ rn ≤ 2147483647) (hso : -2147483648 ≤ so ∧ so ≤ 2147483647) (hLS : LSP S) (h15 : 0 ≤ Xi S 904 15) (hRB : RBD S) (d : Nat) : Mp lay0 (d + 4) m_mo_meansRun [.ref 904, iv rn, iv so] S (Q_mo_meansRun__p S rn so) := by sorry
abbrev Q_mo_meansNothing__p (S : sS) (rn : Int) : pst := fun r S1 => S = S1 ∧ (∃ z : Int, r = some (iv z) ∧ (0 ≤ z ∧ z ≤ 1) ∧ ((z = 1 → rmR S rn = -1) ∧ (z = 0 → rmR S rn ≠ -1)))
set_option maxRecDepth 100000 in
theorem t_mo_meansNothing__p {S : sS} (hH : RI S) (rn : Int) (hrn : -2147483648 ≤ rn ∧ rn ≤ 2147483647) (hLS : LSP S) (h15 : 0 ≤ Xi S 904 15) (hRB : RBD S) (d : Nat) : Mp lay0 (d + 3) m_mo_meansNothing [.ref 904, iv rn] S (Q_mo_meansNothing__p S rn) := by sorry
abbrev Q_mo_kindOrPlural__p (S : sS) (rn : Int) : pst := fun r S1 => S = S1 ∧ (∃ z : Int, r = some (iv z) ∧ (-2147483648 ≤ z ∧ z ≤ 2147483647) ∧ (z = r2R S rn 0 1))
set_option maxRecDepth 100000 in
theorem t_mo_kindOrPlural__p {S : sS} (hH : RI S) (rn : Int) (hrn : -2147483648 ≤ rn ∧ rn ≤ 2147483647) (hLS : LSP S) (h15 : 0 ≤ Xi S 904 15) (hRB : RBD S) (d : Nat) : Mp lay0 (d + 5) m_mo_kindOrPlural [.ref 904, iv rn] S (Q_mo_kindOrPlural__p S rn) := by sorry
abbrev Q_mo_typeOrPlural__p (S : sS) (rn : Int) : pst := fun r S1 => S = S1 ∧ (∃ z : Int, r = some (iv z) ∧ (-2147483648 ≤ z ∧ z ≤ 2147483647) ∧ (z = r2R S rn 2 3))
set_option maxRecDepth 100000 in
theorem t_mo_typeOrPlural__p {S : sS} (hH : RI S) (rn : Int) (hrn : -2147483648 ≤ rn ∧ rn ≤ 2147483647) (hLS : LSP S) (h15 : 0 ≤ Xi S 904 15) (hRB : RBD S) (d : Nat) : Mp lay0 (d + 5) m_mo_typeOrPlural [.ref 904, iv rn] S (Q_mo_typeOrPlural__p S rn) := by sorry
abbrev Q_mo_rank__p (S : sS) (f : Int) : pst := fun r S1 => S = S1 ∧ (∃ z : Int, r = some (iv z) ∧ (-2147483648 ≤ z ∧ z ≤ 2147483647) ∧ (z = rk7 f))
set_option maxRecDepth 100000 in
theorem t_mo_rank__p {S : sS} (hH : RI S) (f : Int) (hf : -2147483648 ≤ f ∧ f ≤ 2147483647) (d : Nat) : Mp lay0 (d + 1) m_mo_rank [iv f] S (Q_mo_rank__p S f) := by sorry
def md_mo_note__p : List rec := [(904, 905, 104, 105), (904, 905, 105, 106), (904, 905, 106, 107)]
abbrev Q_mo_note__p (S : sS) (f : Int) (t : Int) : pst := fun r S1 => RI S1 ∧ FR md_mo_note__p S S1 ∧ (r = none ∧ (NT3 S1 = ntF (NT3 S) f (Xi S 908 t.toNat)))
set_option maxRecDepth 100000 in
theorem t_mo_note__p {S : sS} (hH : RI S) (f : Int) (t : Int) (hf : -2147483648 ≤ f ∧ f ≤ 2147483647) (ht : -2147483648 ≤ t ∧ t ≤ 2147483647) (d : Nat) : Mp lay0 (d + 2) m_mo_note [.ref 904, iv f, iv t] S (Q_mo_note__p S f t) := by sorry
def md_mo_need__p : List rec := [(904, 905, 104, 105), (904, 905, 105, 106), (904, 905, 106, 107)]
abbrev Q_mo_need__p (S : sS) (g : Int) (f : Int) (t : Int) : pst := fun r S1 => RI S1 ∧ FR md_mo_need__p S S1 ∧ (r = none ∧ (NT3 S1 = if g = 0 then ntF (NT3 S) f (Xi S 908 t.toNat) else NT3 S))
set_option maxRecDepth 100000 in
theorem t_mo_need__p {S : sS} (hH : RI S) (g : Int) (f : Int) (t : Int) (hg : 0 ≤ g ∧ g ≤ 1) (hf : -2147483648 ≤ f ∧ f ≤ 2147483647) (ht : -2147483648 ≤ t ∧ t ≤ 2147483647) (d : Nat) : Mp lay0 (d + 3) m_mo_need [.ref 904, iv g, iv f, iv t] S (Q_mo_need__p S g f t) := by sorry
abbrev Q_mo_isAlike__p (S : sS) (r1 : Int) (s1 : Int) : pst := fun r S1 => S = S1 ∧ (∃ z : Int, r = some (iv z) ∧ (0 ≤ z ∧ z ≤ 1) ∧ ((z = 1 → alR S r1 s1) ∧ (z = 0 → ¬ alR S r1 s1)))
set_option maxRecDepth 100000 in
theorem t_mo_isAlike__p {S : sS} (hH : RI S) (r1 : Int) (s1 : Int) (hr1 : -2147483648 ≤ r1 ∧ r1 ≤ 2147483647) (hs1 : -2147483648 ≤ s1 ∧ s1 ≤ 2147483647) (hRB : RBD S) (d : Nat) : Mp lay0 (d + 1) m_mo_isAlike [.ref 904, iv r1, iv s1] S (Q_mo_isAlike__p S r1 s1) := by sorry
abbrev Q_mo_isBelow__p (S : sS) (kind : Int) (of_ : Int) : pst := fun r S1 => S = S1 ∧ (∃ z : Int, r = some (iv z) ∧ (0 ≤ z ∧ z ≤ 1) ∧ (z = blR S kind of_))
set_option maxRecDepth 100000 in
theorem t_mo_isBelow__p {S : sS} (hH : RI S) (kind : Int) (of_ : Int) (hkind : -1 ≤ kind ∧ kind ≤ 15) (hof_ : -2147483648 ≤ of_ ∧ of_ ≤ 2147483647) (hB : ABV S) (d : Nat) : Mp lay0 (d + 1) m_mo_isBelow [.ref 904, iv kind, iv of_] S (Q_mo_isBelow__p S kind of_) := by sorry
abbrev Q_mo_has__p (S : sS) (kind : Int) (p : Int) : pst := fun r S1 => S = S1 ∧ (∃ z : Int, r = some (iv z) ∧ (0 ≤ z ∧ z ≤ 1) ∧ (z = hsR S kind p))
set_option maxRecDepth 100000 in
theorem t_mo_has__p {S : sS} (hH : RI S) (kind : Int) (p : Int) (hkind : -1 ≤ kind ∧ kind ≤ 15) (hp : 0 ≤ p ∧ p ≤ 11) (hB : ABV S) (d : Nat) : Mp lay0 (d + 1) m_mo_has [.ref 904, iv kind, iv p] S (Q_mo_has__p S kind p) := by sorry
abbrev Q_mo_isNew__p (S : sS) (rn : Int) : pst := fun r S1 => S = S1 ∧ (∃ z : Int, r = some (iv z) ∧ (0 ≤ z ∧ z ≤ 1) ∧ ((z = 1 → nwR S rn) ∧ (z = 0 → ¬ nwR S rn)))
set_option maxRecDepth 100000 in
theorem t_mo_isNew__p {S : sS} (hH : RI S) (rn : Int) (hrn : -2147483648 ≤ rn ∧ rn ≤ 2147483647) (hLS : LSP S) (h15 : 0 ≤ Xi S 904 15) (hRB : RBD S) (hn0 : 0 ≤ Xi S 904 108) (d : Nat) : Mp lay0 (d + 3) m_mo_isNew [.ref 904, iv rn] S (Q_mo_isNew__p S rn) := by sorry
def md_mo_mustBeNew__p : List rec := [(904, 905, 104, 105), (904, 905, 105, 106), (904, 905, 106, 107), (904, 905, 108, 109), (966, 967, 0, 100000)]
abbrev Q_mo_mustBeNew__p (S : sS) (rn : Int) (there : Int) (most : Int) : pst := fun r S1 => RI S1 ∧ FR md_mo_mustBeNew__p S S1 ∧ (r = none ∧ (nwR S rn → NT3 S1 = (if there < most then NT3 S else ntF (NT3 S) 9 (Xi S 908 (Xi S 950 rn.toNat).toNat)) ∧ Xi S1 904 108 = Xi S 904 108 + 1 ∧ Xi S1 966 (Xi S 904 108).toNat = rn ∧ ∀ k : Nat, (k : Int) < Xi S 904 108 → Xi S1 966 k = Xi S 966 k) ∧ (¬ nwR S rn → NT3 S1 = ntF (NT3 S) 3 (Xi S 908 (Xi S 950 rn.toNat).toNat) ∧ Xi S1 904 108 = Xi S 904 108 ∧ ∀ k : Nat, Xi S1 966 k = Xi S 966 k))
set_option maxRecDepth 100000 in
theorem t_mo_mustBeNew__p {S : sS} (hH : RI S) (rn : Int) (there : Int) (most : Int) (hrn : -2147483648 ≤ rn ∧ rn ≤ 2147483647) (hthere : -2147483648 ≤ there ∧ there ≤ 2147483647) (hmost : -2147483648 ≤ most ∧ most ≤ 2147483647) (hLS : LSP S) (h15 : 0 ≤ Xi S 904 15) (hRB : RBD S) (hn0 : 0 ≤ Xi S 904 108) (d : Nat) : Mp lay0 (d + 4) m_mo_mustBeNew [.ref 904, iv rn, iv there, iv most] S (Q_mo_mustBeNew__p S rn there most) := by sorry
def md_mo_kindOfRun__p : List rec := [(904, 905, 104, 105), (904, 905, 105, 106), (904, 905, 106, 107)]
abbrev Q_mo_kindOfRun__p (S : sS) (rn : Int) : pst := fun r S1 => RI S1 ∧ FR md_mo_kindOfRun__p S S1 ∧ (∃ z : Int, r = some (iv z) ∧ (-2147483648 ≤ z ∧ z ≤ 2147483647) ∧ (z = rnR S rn 0) ∧ (NT3 S1 = if rnR S rn 0 = -1 then ntF (NT3 S) 4 (Xi S 908 (Xi S 950 rn.toNat).toNat) else NT3 S))
set_option maxRecDepth 100000 in
theorem t_mo_kindOfRun__p {S : sS} (hH : RI S) (rn : Int) (hrn : -2147483648 ≤ rn ∧ rn ≤ 2147483647) (hLS : LSP S) (h15 : 0 ≤ Xi S 904 15) (hRB : RBD S) (d : Nat) : Mp lay0 (d + 5) m_mo_kindOfRun [.ref 904, iv rn] S (Q_mo_kindOfRun__p S rn) := by sorry
def md_mo_tell__p : List rec := [(904, 905, 15, 16), (912, 913, 0, 100000), (913, 914, 0, 100000), (914, 915, 0, 100000), (915, 916, 0, 100000), (916, 917, 0, 100000)]
abbrev Q_mo_tell__p (S : sS) (so : Int) (ix : Int) (a : Int) (b : Int) (c : Int) (m : Int) : pst := fun r S1 => RI S1 ∧ FR md_mo_tell__p S S1 ∧ (r = none ∧ (TLR S S1 so ix a b c m))
set_option maxRecDepth 100000 in
theorem t_mo_tell__p {S : sS} (hH : RI S) (so : Int) (ix : Int) (a : Int) (b : Int) (c : Int) (m : Int) (hso : -2147483648 ≤ so ∧ so ≤ 2147483647) (hix : -2147483648 ≤ ix ∧ ix ≤ 2147483647) (hm : -2147483648 ≤ m ∧ m ≤ 2147483647) (ra : rgL a) (rb : rgL b) (rc : rgL c) (d : Nat) : Mp lay0 (d + 1) m_mo_tell [.ref 904, iv so, iv ix, jw a, jw b, jw c, iv m] S (Q_mo_tell__p S so ix a b c m) := by sorry
def md_mo_tellTokens__p : List rec := [(904, 905, 15, 16), (912, 913, 0, 100000), (913, 914, 0, 100000), (914, 915, 0, 100000), (915, 916, 0, 100000), (916, 917, 0, 100000)]
abbrev Q_mo_tellTokens__p (S : sS) (so : Int) (ix : Int) (t : Int) (m : Int) : pst := fun r S1 => RI S1 ∧ FR md_mo_tellTokens__p S S1 ∧ (r = none ∧ (TLR S S1 so ix (Xj S 910 (t).toNat) (if 1 < m then Xj S 910 (t + 1).toNat else 0) (if 2 < m then Xj S 910 (t + 2).toNat else 0) (m)))
set_option maxRecDepth 100000 in
theorem t_mo_tellTokens__p {S : sS} (hH : RI S) (so : Int) (ix : Int) (t : Int) (m : Int) (hso : -2147483648 ≤ so ∧ so ≤ 2147483647) (hix : -2147483648 ≤ ix ∧ ix ≤ 2147483647) (ht : -2147483648 ≤ t ∧ t ≤ 2147483600) (hm : -2147483648 ≤ m ∧ m ≤ 2147483647) (d : Nat) : Mp lay0 (d + 2) m_mo_tellTokens [.ref 904, iv so, iv ix, iv t, iv m] S (Q_mo_tellTokens__p S so ix t m) := by sorry
def md_mo_tellRun__p : List rec := [(904, 905, 15, 16), (912, 913, 0, 100000), (913, 914, 0, 100000), (914, 915, 0, 100000), (915, 916, 0, 100000), (916, 917, 0, 100000)]
abbrev Q_mo_tellRun__p (S : sS) (so : Int) (ix : Int) (rn : Int) : pst := fun r S1 => RI S1 ∧ FR md_mo_tellRun__p S S1 ∧ (r = none ∧ (TLR S S1 so ix (Xj S 910 (Xi S 950 rn.toNat).toNat) (if 1 < Xi S 951 rn.toNat then Xj S 910 (Xi S 950 rn.toNat + 1).toNat else 0) (if 2 < Xi S 951 rn.toNat then Xj S 910 (Xi S 950 rn.toNat + 2).toNat else 0) (Xi S 951 rn.toNat)))
set_option maxRecDepth 100000 in
theorem t_mo_tellRun__p {S : sS} (hH : RI S) (so : Int) (ix : Int) (rn : Int) (hso : -2147483648 ≤ so ∧ so ≤ 2147483647) (hix : -2147483648 ≤ ix ∧ ix ≤ 2147483647) (hrn : -2147483648 ≤ rn ∧ rn ≤ 2147483647) (hRB : RBD S) (d : Nat) : Mp lay0 (d + 3) m_mo_tellRun [.ref 904, iv so, iv ix, iv rn] S (Q_mo_tellRun__p S so ix rn) := by sorry
end
section
/-- the class's entries: sorts and numbers -/
def CEN (S : sS) : Prop := ∀ i : Nat, (i : Int) < Xi S 1 3 → (0 ≤ Xi S 3 i ∧ Xi S 3 i ≤ 14) ∧ 0 ≤ Xi S 4 i ∧ Xi S 4 i ≤ 63
theorem CEN_FR {l : List rec} {S T : sS} (h : FR l S T) (e1 : kdis l [(3, 5)] = true) (e : mdf l 1 3 = false) (q : CEN S) : CEN T := by sorry
abbrev Q_vo_meaning__p (S : sS) (k n : Nat) (from_ : Int) (to : Int) : pst := fun r S1 => S = S1 ∧ (∃ z : Int, r = some (iv z) ∧ (-2147483648 ≤ z ∧ z ≤ 2147483647) ∧ (1 ≤ to - from_ → to - from_ ≤ 3 → 0 ≤ from_ → to ≤ n → z = mnR S k from_.toNat (to - from_).toNat) ∧ (to - from_ < 1 ∨ 3 < to - from_ ∨ from_ < 0 ∨ (n : Int) < to → z = -1))
set_option maxRecDepth 100000 in
theorem t_vo_meaning__p {S : sS} (hH : RI S) (k n : Nat) (from_ : Int) (to : Int) (hlk : lay0 k = (2, n)) (hkk : k < 2000 ∧ n ≤ 5130) (hfrom_ : -1 ≤ from_ ∧ from_ ≤ 6000) (hto : -1 ≤ to ∧ to ≤ 6000) (h13 : 0 ≤ Xi S 1 3 ∧ Xi S 1 3 ≤ 200) (hCE : CEN S) (d : Nat) : Mp lay0 (d + 1) m_vo_meaning [.ref 1, .ref k, iv from_, iv to] S (Q_vo_meaning__p S k n from_ to) := by sorry
abbrev Q_me_find__p (S : sS) (sort : Int) (from_ : Int) (to : Int) : pst := fun r S1 => S = S1 ∧ (∃ z : Int, r = some (iv z) ∧ (-2147483648 ≤ z ∧ z ≤ 2147483647) ∧ (z = fnd S sort from_ to))
set_option maxRecDepth 100000 in
theorem t_me_find__p {S : sS} (hH : RI S) (sort : Int) (from_ : Int) (to : Int) (hsort : 0 ≤ sort ∧ sort ≤ 14) (hfrom_ : -1 ≤ from_ ∧ from_ ≤ 6000) (hto : -1 ≤ to ∧ to ≤ 6000) (h13 : 0 ≤ Xi S 1 3 ∧ Xi S 1 3 ≤ 200) (hCE : CEN S) (d : Nat) : Mp lay0 (d + 2) m_me_find [.ref 895, iv sort, iv from_, iv to] S (Q_me_find__p S sort from_ to) := by sorry
abbrev Q_vo_entryOf__p (S : sS) (sort : Int) (which : Int) : pst := fun r S1 => S = S1 ∧ (∃ z : Int, r = some (iv z) ∧ (-2147483648 ≤ z ∧ z ≤ 2147483647) ∧ (z = -1 ∨ (0 ≤ z ∧ z < Xi S 1 3)) ∧ (z ≠ -1 → Xi S 3 z.toNat = sort ∧ Xi S 4 z.toNat = which) ∧ (z = -1 → ∀ i : Nat, (i : Int) < Xi S 1 3 → Xi S 3 i = sort → Xi S 4 i ≠ which))
set_option maxRecDepth 100000 in
theorem t_vo_entryOf__p {S : sS} (hH : RI S) (sort : Int) (which : Int) (hsort : -2147483648 ≤ sort ∧ sort ≤ 2147483647) (hwhich : -2147483648 ≤ which ∧ which ≤ 2147483647) (d : Nat) : Mp lay0 (d + 1) m_vo_entryOf [.ref 1, iv sort, iv which] S (Q_vo_entryOf__p S sort which) := by sorry
def md_vo_addEntry__p : List rec := [(1, 2, 3, 4), (2, 3, 0, 100000), (3, 4, 0, 100000), (4, 5, 0, 100000)]
abbrev Q_vo_addEntry__p (S : sS) (sort : Int) (which : Int) (word : Int) : pst := fun r S1 => RI S1 ∧ FR md_vo_addEntry__p S S1 ∧ (r = none ∧ (AEN S S1 sort which word 0 0))
set_option maxRecDepth 100000 in
theorem t_vo_addEntry__p {S : sS} (hH : RI S) (sort : Int) (which : Int) (word : Int) (hsort : 0 ≤ sort ∧ sort ≤ 14) (hwhich : 0 ≤ which ∧ which ≤ 63) (h13 : 0 ≤ Xi S 1 3 ∧ Xi S 1 3 ≤ 200) (h2 : Xi S 1 3 < 200) (rw : rgL word) (d : Nat) : Mp lay0 (d + 1) m_vo_addEntry [.ref 1, iv sort, iv which, jw word] S (Q_vo_addEntry__p S sort which word) := by sorry
def md_vo_nameIt__p : List rec := [(1, 2, 3, 4), (2, 3, 0, 100000), (3, 4, 0, 100000), (4, 5, 0, 100000)]
abbrev Q_vo_nameIt__p (S : sS) (sort : Int) (which : Int) (k n : Nat) (from_ : Int) (to : Int) : pst := fun r S1 => RI S1 ∧ FR md_vo_nameIt__p S S1 ∧ (r = none ∧ (∃ i : Nat, NMI S S1 i sort which (wRw S k from_ to 0) (wRw S k from_ to 1) (wRw S k from_ to 2)))
set_option maxRecDepth 100000 in
theorem t_vo_nameIt__p {S : sS} (hH : RI S) (sort : Int) (which : Int) (k n : Nat) (from_ : Int) (to : Int) (hsort : 0 ≤ sort ∧ sort ≤ 14) (hwhich : 0 ≤ which ∧ which ≤ 63) (hlk : lay0 k = (2, n)) (hkk : k < 2000 ∧ n ≤ 5130) (hfrom_ : 0 ≤ from_ ∧ from_ ≤ 6000) (hto : 0 ≤ to ∧ to ≤ 6000) (h13 : 0 ≤ Xi S 1 3 ∧ Xi S 1 3 ≤ 200) (h2 : Xi S 1 3 < 200) (hk : k = 879 ∨ k = 894) (d : Nat) : Mp lay0 (d + 2) m_vo_nameIt [.ref 1, iv sort, iv which, .ref k, iv from_, iv to] S (Q_vo_nameIt__p S sort which k n from_ to) := by sorry
abbrev Q_to_placeAt__p (S : sS) (row : Int) : pst := fun r S1 => S = S1 ∧ (∃ z : Int, r = some (iv z) ∧ (-2147483648 ≤ z ∧ z ≤ 2147483647) ∧ (z = pc7 S row))
set_option maxRecDepth 100000 in
theorem t_to_placeAt__p {S : sS} (hH : RI S) (row : Int) (hrow : -2147483648 ≤ row ∧ row ≤ 2147483647) (d : Nat) : Mp lay0 (d + 1) m_to_placeAt [.ref 876, iv row] S (Q_to_placeAt__p S row) := by sorry
def md_to_wrong__p : List rec := [(876, 877, 8, 9), (876, 877, 9, 10)]
abbrev Q_to_wrong__p (S : sS) (code : Int) (row : Int) : pst := fun r S1 => RI S1 ∧ FR md_to_wrong__p S S1 ∧ (∃ z : Int, r = some (iv z) ∧ (0 ≤ z ∧ z ≤ 1) ∧ (z = 0) ∧ (Xi S 876 8 = 0 → Xi S1 876 8 = code ∧ Xi S1 876 9 = pc7 S row) ∧ (Xi S 876 8 ≠ 0 → Xi S1 876 8 = Xi S 876 8 ∧ Xi S1 876 9 = Xi S 876 9))
set_option maxRecDepth 100000 in
theorem t_to_wrong__p {S : sS} (hH : RI S) (code : Int) (row : Int) (hcode : -2147483648 ≤ code ∧ code ≤ 2147483647) (hrow : -2147483648 ≤ row ∧ row ≤ 2147483647) (d : Nat) : Mp lay0 (d + 1) m_to_wrong [.ref 876, iv code, iv row] S (Q_to_wrong__p S code row) := by sorry
abbrev Q_vo_countOf__p (S : sS) (s : Int) : pst := fun r S1 => S = S1 ∧ (∃ z : Int, r = some (iv z) ∧ (-2147483648 ≤ z ∧ z ≤ 2147483647) ∧ (0 ≤ s → s ≤ 8 → z = Xi S 5 s.toNat))
set_option maxRecDepth 100000 in
theorem t_vo_countOf__p {S : sS} (hH : RI S) (s : Int) (hs : -2147483648 ≤ s ∧ s ≤ 2147483647) (d : Nat) : Mp lay0 (d + 1) m_vo_countOf [.ref 1, iv s] S (Q_vo_countOf__p S s) := by sorry
abbrev Q_vo_isKind__p (S : sS) (kind : Int) (other : Int) : pst := fun r S1 => S = S1 ∧ (∃ z : Int, r = some (iv z) ∧ (0 ≤ z ∧ z ≤ 1) ∧ (z = isK S kind other))
set_option maxRecDepth 100000 in
theorem t_vo_isKind__p {S : sS} (hH : RI S) (kind : Int) (other : Int) (hkind : -2147483648 ≤ kind ∧ kind ≤ 2147483647) (hother : -2147483648 ≤ other ∧ other ≤ 2147483647) (d : Nat) : Mp lay0 (d + 1) m_vo_isKind [.ref 1, iv kind, iv other] S (Q_vo_isKind__p S kind other) := by sorry
abbrev Q_vo_propertiesOf__p (S : sS) (kind : Int) : pst := fun r S1 => S = S1 ∧ (∃ z : Int, r = some (iv z) ∧ (-2147483648 ≤ z ∧ z ≤ 2147483647) ∧ (z = pps S kind))
set_option maxRecDepth 100000 in
theorem t_vo_propertiesOf__p {S : sS} (hH : RI S) (kind : Int) (hkind : -2147483648 ≤ kind ∧ kind ≤ 2147483647) (d : Nat) : Mp lay0 (d + 1) m_vo_propertiesOf [.ref 1, iv kind] S (Q_vo_propertiesOf__p S kind) := by sorry
def md_vo_tellNew__p : List rec := [(1, 2, 3, 4), (2, 3, 0, 100000), (3, 4, 0, 100000), (4, 5, 0, 100000), (5, 6, 0, 100000)]
abbrev Q_vo_tellNew__p (S : sS) (sort : Int) (k n : Nat) (from_ : Int) (to : Int) : pst := fun r S1 => RI S1 ∧ FR md_vo_tellNew__p S S1 ∧ (∃ z : Int, r = some (iv z) ∧ (-2147483648 ≤ z ∧ z ≤ 2147483647) ∧ (z = Xi S 5 sort.toNat) ∧ (Xi S1 5 sort.toNat = Xi S 5 sort.toNat + 1) ∧ (∀ j, j ≠ sort.toNat → Xi S1 5 j = Xi S 5 j) ∧ (∃ i : Nat, NMI S S1 i sort z (wRw S k from_ to 0) (wRw S k from_ to 1) (wRw S k from_ to 2)))
set_option maxRecDepth 100000 in
theorem t_vo_tellNew__p {S : sS} (hH : RI S) (sort : Int) (k n : Nat) (from_ : Int) (to : Int) (hsort : 0 ≤ sort ∧ sort ≤ 8) (hlk : lay0 k = (2, n)) (hkk : k < 2000 ∧ n ≤ 5130) (hfrom_ : 0 ≤ from_ ∧ from_ ≤ 6000) (hto : 0 ≤ to ∧ to ≤ 6000) (h13 : 0 ≤ Xi S 1 3 ∧ Xi S 1 3 ≤ 200) (h2 : Xi S 1 3 < 200) (hk : k = 879 ∨ k = 894) (hc : 0 ≤ Xi S 5 sort.toNat ∧ Xi S 5 sort.toNat ≤ 62) (d : Nat) : Mp lay0 (d + 3) m_vo_tellNew [.ref 1, iv sort, .ref k, iv from_, iv to] S (Q_vo_tellNew__p S sort k n from_ to) := by sorry
end
end
section
section
/-! the class: what is NEW in a sentence -/
def alC (S : sS) (a b c d : Int) : Prop := b - a = d - c ∧ ∀ k : Nat, (k : Int) < d - c → Xj S 879 (a + k).toNat = Xj S 879 (c + k).toNat
def ALP (S : sS) (i v a b : Int) : Prop := (v = -1 → ¬ alC S (Xi S 892 i.toNat) (Xi S 893 i.toNat) a b) ∧ (v ≠ -1 → 0 ≤ v ∧ Xi S 893 i.toNat - Xi S 892 i.toNat = b - a ∧ ∀ k : Nat, (k : Int) < v → Xj S 879 (Xi S 892 i.toNat + k).toNat = Xj S 879 (a + k).toNat)
theorem alp_0 {S : sS} {i a b : Int} (h : Xi S 893 i.toNat - Xi S 892 i.toNat = b - a) : ALP S i 0 a b := by sorry
theorem alp_n {S : sS} {i a b : Int} (h : Xi S 893 i.toNat - Xi S 892 i.toNat ≠ b - a) : ALP S i (-1) a b := by sorry
theorem alp_s {S : sS} {i v a b : Int} (h : ALP S i v a b) (hv : 0 ≤ v) (e : Xj S 879 (Xi S 892 i.toNat + v).toNat = Xj S 879 (a + v).toNat) : ALP S i (v + 1) a b := by sorry
theorem alp_f {S : sS} {i v a b : Int} (hv : 0 ≤ v) (hl : v < b - a) (e : Xj S 879 (Xi S 892 i.toNat + v).toNat ≠ Xj S 879 (a + v).toNat) : ALP S i (-1) a b := by sorry
theorem alp_y {S : sS} {i v a b : Int} (h : ALP S i v a b) (hv : v ≠ -1) (hl : b - a ≤ v) : alC S (Xi S 892 i.toNat) (Xi S 893 i.toNat) a b := by sorry
def NRB (S : sS) : Prop := ∀ i : Nat, (i : Int) < Xi S 891 9 → 0 ≤ Xi S 892 i ∧ Xi S 892 i ≤ 6000 ∧ 0 ≤ Xi S 893 i ∧ Xi S 893 i ≤ 6000
/-- told as NEW before, in this sentence -/
def WNC (S : sS) (a b : Int) : Prop := ∃ i : Nat, (i : Int) < Xi S 891 9 ∧ alC S (Xi S 892 i) (Xi S 893 i) a b
def nwC (S : sS) (a b : Int) : Prop := mnV S a b = -1 ∧ b - a ≤ 3 ∧ ¬ WNC S a b
theorem wn_st {S : sS} {a b v : Int} (h0 : 0 ≤ v) (h : ∀ i : Nat, (i : Int) < v → ¬ alC S (Xi S 892 i) (Xi S 893 i) a b) (hn : ¬ alC S (Xi S 892 v.toNat) (Xi S 893 v.toNat) a b) : ∀ i : Nat, (i : Int) < v + 1 → ¬ alC S (Xi S 892 i) (Xi S 893 i) a b := by sorry
/-- a fault is told -/
def FTO (S S1 : sS) (c r : Int) : Prop := Xi S1 876 8 = c ∧ Xi S1 876 9 = pc7 S r
theorem NRB_FR {l : List rec} {S T : sS} (h : FR l S T) (e1 : kdis l [(892, 894)] = true) (e : mdf l 891 9 = false) (q : NRB S) : NRB T := by sorry
theorem nrb_s {S S1 : sS} {a b : Int} (h : NRB S) (h0 : 0 ≤ Xi S 891 9) (x : Xi S1 891 9 = Xi S 891 9 + 1) (ea : Xi S1 892 (Xi S 891 9).toNat = a) (eb : Xi S1 893 (Xi S 891 9).toNat = b) (k : ∀ j : Nat, (j : Int) < Xi S 891 9 → Xi S1 892 j = Xi S 892 j ∧ Xi S1 893 j = Xi S 893 j) (ha : 0 ≤ a ∧ a ≤ 6000) (hb : 0 ≤ b ∧ b ≤ 6000) : NRB S1 := by sorry
abbrev Q_re_wasNew__p (S : sS) (from_ : Int) (to : Int) : pst := fun r S1 => S = S1 ∧ (∃ z : Int, r = some (iv z) ∧ (0 ≤ z ∧ z ≤ 1) ∧ (z = 1 → WNC S from_ to) ∧ (z = 0 → ¬ WNC S from_ to))
set_option maxRecDepth 100000 in
theorem t_re_wasNew__p {S : sS} (hH : RI S) (from_ : Int) (to : Int) (hfrom_ : 0 ≤ from_ ∧ from_ ≤ 6000) (hto : 0 ≤ to ∧ to ≤ 6000) (hNB : NRB S) (d : Nat) : Mp lay0 (d + 1) m_re_wasNew [.ref 891, iv from_, iv to] S (Q_re_wasNew__p S from_ to) := by sorry
def md_re_takeNew__p : List rec := [(876, 877, 8, 9), (876, 877, 9, 10), (891, 892, 9, 10), (892, 893, 0, 100000), (893, 894, 0, 100000)]
abbrev Q_re_takeNew__p (S : sS) (from_ : Int) (to : Int) (already : Int) (most : Int) : pst := fun r S1 => RI S1 ∧ FR md_re_takeNew__p S S1 ∧ (∃ z : Int, r = some (iv z) ∧ (0 ≤ z ∧ z ≤ 1) ∧ (¬ nwC S from_ to → z = 0 ∧ FTO S S1 3 (from_)) ∧ (nwC S from_ to → most ≤ already + Xi S 891 9 → z = 0 ∧ FTO S S1 9 (from_)) ∧ (nwC S from_ to → already + Xi S 891 9 < most → z = 1 ∧ Xi S1 876 8 = 0 ∧ Xi S1 891 9 = Xi S 891 9 + 1 ∧ Xi S1 892 (Xi S 891 9).toNat = from_ ∧ Xi S1 893 (Xi S 891 9).toNat = to ∧ ∀ j : Nat, (j : Int) < Xi S 891 9 → Xi S1 892 j = Xi S 892 j ∧ Xi S1 893 j = Xi S 893 j) ∧ (z = 1 → NRB S1))
set_option maxRecDepth 100000 in
theorem t_re_takeNew__p {S : sS} (hH : RI S) (from_ : Int) (to : Int) (already : Int) (most : Int) (hfrom_ : 0 ≤ from_ ∧ from_ ≤ 6000) (hto : 0 ≤ to ∧ to ≤ 6000) (halready : 0 ≤ already ∧ already ≤ 1000) (hmost : 0 ≤ most ∧ most ≤ 1000) (h13 : 0 ≤ Xi S 1 3 ∧ Xi S 1 3 ≤ 200) (hCE : CEN S) (hNB : NRB S) (hf : Xi S 876 8 = 0) (hm : most ≤ 24 ∨ Xi S 891 9 = 0) (hn0 : 0 ≤ Xi S 891 9 ∧ Xi S 891 9 ≤ 24) (hto : to ≤ 5130) (d : Nat) : Mp lay0 (d + 2) m_re_takeNew [.ref 891, iv from_, iv to, iv already, iv most] S (Q_re_takeNew__p S from_ to already most) := by sorry
/-- a pair of contrary adjectives -/
def MCN (S S1 : sS) (f k : Int) : Prop := (Xi S1 10 f.toNat = k ∧ Xi S1 10 (f + 1).toNat = k ∧ Xi S1 11 f.toNat = f + 1 ∧ Xi S1 11 (f + 1).toNat = f) ∧ ∀ j : Nat, j ≠ f.toNat → j ≠ (f + 1).toNat → Xi S1 10 j = Xi S 10 j ∧ Xi S1 11 j = Xi S 11 j
theorem mcn_of {S U1 U2 U3 U4 : sS} {f k : Int} (e1 : U1 = uI S 10 f.toNat (Int32.ofInt k)) (e2 : U2 = uI U1 10 (f + 1).toNat (Int32.ofInt k)) (e3 : U3 = uI U2 11 f.toNat (Int32.ofInt (f + 1))) (e4 : U4 = uI U3 11 (f + 1).toNat (Int32.ofInt f)) (hf : 0 ≤ f ∧ f ≤ 22) (hk : rg k) : MCN S U4 f k := by sorry
/-- cells that meanings are read from -/
def SMV (S U : sS) : Prop := Xi U 1 3 = Xi S 1 3 ∧ (∀ j, Xj U 2 j = Xj S 2 j) ∧ (∀ j, Xi U 3 j = Xi S 3 j) ∧ (∀ j, Xi U 4 j = Xi S 4 j) ∧ ∀ j, Xj U 879 j = Xj S 879 j
theorem msc_eq {S U : sS} {a b c : Int} (h : SMV S U) : ∀ (m i : Nat), msc U a b c m i = msc S a b c m i := by sorry
theorem mnV_eq {S U : sS} {a b : Int} (h : SMV S U) : mnV U a b = mnV S a b := by sorry
theorem alC_eq {S U : sS} {a b c d : Int} (h : SMV S U) : alC U a b c d ↔ alC S a b c d := by sorry
/-- new beside one that was new -/
def nw1 (S : sS) (c d a b : Int) : Prop := mnV S a b = -1 ∧ b - a ≤ 3 ∧ ¬ alC S c d a b
theorem nw1_of {S U : sS} {c d a b : Int} (h : SMV S U) (x : Xi U 891 9 = 1) (e1 : Xi U 892 0 = c) (e2 : Xi U 893 0 = d) : nwC U a b ↔ nw1 S c d a b := by sorry
theorem NMI_post {S V S1 : sS} {i : Nat} {so wh a b c : Int} (h : NMI S V i so wh a b c) (x3 : ∀ j, Xi S1 3 j = Xi V 3 j) (x4 : ∀ j, Xi S1 4 j = Xi V 4 j) (x2 : ∀ j, Xj S1 2 j = Xj V 2 j) (x1 : Xi S1 1 3 = Xi V 1 3) : NMI S S1 i so wh a b c := by sorry
/-- two names were told, one after the other -/
def TN2 (S S1 : sS) (so w1 w2 a1 b1 a2 b2 : Int) : Prop := ∃ (V : sS) (i j : Nat), NMI S V i so w1 (wRw S 879 a1 b1 0) (wRw S 879 a1 b1 1) (wRw S 879 a1 b1 2) ∧ NMI V S1 j so w2 (wRw S 879 a2 b2 0) (wRw S 879 a2 b2 1) (wRw S 879 a2 b2 2)

def md_vo_makeContrary__p : List rec := [(10, 11, 0, 100000), (11, 12, 0, 100000)]
abbrev Q_vo_makeContrary__p (S : sS) (first : Int) (kind : Int) : pst := fun r S1 => RI S1 ∧ FR md_vo_makeContrary__p S S1 ∧ (r = none ∧ (MCN S S1 first kind))
set_option maxRecDepth 100000 in
theorem t_vo_makeContrary__p {S : sS} (hH : RI S) (first : Int) (kind : Int) (hfirst : 0 ≤ first ∧ first ≤ 22) (hkind : -2147483648 ≤ kind ∧ kind ≤ 2147483647) (d : Nat) : Mp lay0 (d + 1) m_vo_makeContrary [.ref 1, iv first, iv kind] S (Q_vo_makeContrary__p S first kind) := by sorry
end
section
theorem tn2_of {S P V W S1 : sS} {so w1 w2 a1 b1 a2 b2 : Int} (hs : SMV S P) (e1 : ∃ i : Nat, NMI P V i so w1 (wRw P 879 a1 b1 0) (wRw P 879 a1 b1 1) (wRw P 879 a1 b1 2)) (hv : ∀ j, Xj V 879 j = Xj P 879 j) (e2 : ∃ j : Nat, NMI V W j so w2 (wRw V 879 a2 b2 0) (wRw V 879 a2 b2 1) (wRw V 879 a2 b2 2)) (x3 : ∀ j, Xi S1 3 j = Xi W 3 j) (x4 : ∀ j, Xi S1 4 j = Xi W 4 j) (x2 : ∀ j, Xj S1 2 j = Xj W 2 j) (x1 : Xi S1 1 3 = Xi W 1 3) : TN2 S S1 so w1 w2 a1 b1 a2 b2 := by sorry
theorem pc7_FR {l : List rec} {S T : sS} (h : FR l S T) (e1 : kdis l [(878, 879)] = true) (e2 : mdf l 876 7 = false) (e3 : mdf l 876 5 = false) (r : Int) : pc7 T r = pc7 S r := by sorry
theorem SMV_FR {l : List rec} {S T : sS} (h : FR l S T) (e1 : kdis l [(2, 5), (879, 880)] = true) (e2 : mdf l 1 3 = false) : SMV S T := by sorry
theorem SMV.tr {S U V : sS} (h : SMV S U) (k : SMV U V) : SMV S V := by sorry
/-- 18: what the class does -/
def TCAN (S S1 : sS) (z nm e a o t : Int) : Prop :=
  (fnd S 0 nm e = -1 → z = 0 ∧ FTO S S1 4 nm) ∧
  (fnd S 0 nm e ≠ -1 → ¬ nwC S a o → z = 0 ∧ FTO S S1 3 a) ∧
  (fnd S 0 nm e ≠ -1 → nwC S a o → 24 ≤ Xi S 5 3 → z = 0 ∧ FTO S S1 9 a) ∧
  (fnd S 0 nm e ≠ -1 → nwC S a o → Xi S 5 3 < 24 → ¬ nw1 S a o (o + 1) t → z = 0 ∧ FTO S S1 3 (o + 1)) ∧
  (fnd S 0 nm e ≠ -1 → nwC S a o → nw1 S a o (o + 1) t → Xi S 5 3 = 23 → z = 0 ∧ FTO S S1 9 (o + 1)) ∧
  (fnd S 0 nm e ≠ -1 → nwC S a o → nw1 S a o (o + 1) t → Xi S 5 3 < 23 → z = 1 ∧ Xi S1 876 8 = 0 ∧ TN2 S S1 3 (Xi S 5 3) (Xi S 5 3 + 1) a o (o + 1) t ∧ Xi S1 5 3 = Xi S 5 3 + 2 ∧ (∀ j, j ≠ 3 → Xi S1 5 j = Xi S 5 j) ∧ MCN S S1 (Xi S 5 3) (fnd S 0 nm e))
theorem tcan_1 {S S1 : sS} {z nm e a o t : Int} (h : fnd S 0 nm e = -1) (hz : z = 0) (f : FTO S S1 4 nm) : TCAN S S1 z nm e a o t := by sorry
theorem tcan_2 {S S1 : sS} {nm e a o t z : Int} {X : Prop} (h : fnd S 0 nm e ≠ -1) (n3 : ¬ nwC S a o → z = 0 ∧ FTO S S1 3 a) (n9 : nwC S a o → 24 ≤ Xi S 5 3 + Xi S 891 9 → z = 0 ∧ FTO S S1 9 a) (ok : nwC S a o → Xi S 5 3 + Xi S 891 9 < 24 → z = 1 ∧ X) (hz : z = 0) (hn : Xi S 891 9 = 0) : TCAN S S1 0 nm e a o t := by sorry
theorem tcan_3 {S U S1 : sS} {nm e a o t z : Int} {X : Prop} (h : fnd S 0 nm e ≠ -1) (hA : nwC S a o ∧ Xi S 5 3 < 24) (hw : nwC U (o + 1) t ↔ nw1 S a o (o + 1) t) (hp : ∀ r, pc7 U r = pc7 S r) (n3 : ¬ nwC U (o + 1) t → z = 0 ∧ FTO U S1 3 (o + 1)) (n9 : nwC U (o + 1) t → 24 ≤ Xi S 5 3 + Xi U 891 9 → z = 0 ∧ FTO U S1 9 (o + 1)) (ok : nwC U (o + 1) t → Xi S 5 3 + Xi U 891 9 < 24 → z = 1 ∧ X) (hz : z = 0) (hn : Xi U 891 9 = 1) : TCAN S S1 0 nm e a o t := by sorry
theorem tcan_4 {S S1 : sS} {nm e a o t : Int} (h : fnd S 0 nm e ≠ -1) (hA : nwC S a o) (hB : nw1 S a o (o + 1) t ∧ Xi S 5 3 < 23) (r : Xi S1 876 8 = 0 ∧ TN2 S S1 3 (Xi S 5 3) (Xi S 5 3 + 1) a o (o + 1) t ∧ Xi S1 5 3 = Xi S 5 3 + 2 ∧ (∀ j, j ≠ 3 → Xi S1 5 j = Xi S 5 j) ∧ MCN S S1 (Xi S 5 3) (fnd S 0 nm e)) : TCAN S S1 1 nm e a o t := by sorry
theorem MCN_pre {S P S1 : sS} {f k : Int} (h : MCN P S1 f k) (x : ∀ j, Xi P 10 j = Xi S 10 j) (y : ∀ j, Xi P 11 j = Xi S 11 j) : MCN S S1 f k := by sorry
theorem nk_1 {S U : sS} {a o z : Int} (n3 : ¬ nwC S a o → z = 0 ∧ FTO S U 3 a) (n9 : nwC S a o → 24 ≤ Xi S 5 3 + Xi S 891 9 → z = 0 ∧ FTO S U 9 a) (hz : z ≠ 0) (hn : Xi S 891 9 = 0) : nwC S a o ∧ Xi S 5 3 < 24 := by sorry
theorem nk_2 {S U V : sS} {a t z : Int} (n3 : ¬ nwC U a t → z = 0 ∧ FTO U V 3 a) (n9 : nwC U a t → 24 ≤ Xi S 5 3 + Xi U 891 9 → z = 0 ∧ FTO U V 9 a) (hz : z ≠ 0) (hn : Xi U 891 9 = 1) : nwC U a t ∧ Xi S 5 3 < 23 := by sorry
theorem nmi_c {P V : sS} {so w a b c : Int} (h : ∃ i : Nat, NMI P V i so w a b c) : Xi P 1 3 ≤ Xi V 1 3 ∧ Xi V 1 3 ≤ Xi P 1 3 + 1 := by sorry
def md_re_tellCan__p : List rec := [(1, 2, 3, 4), (2, 3, 0, 100000), (3, 4, 0, 100000), (4, 5, 0, 100000), (5, 6, 0, 100000), (10, 11, 0, 100000), (11, 12, 0, 100000), (876, 877, 8, 9), (876, 877, 9, 10), (891, 892, 9, 10), (892, 893, 0, 100000), (893, 894, 0, 100000)]
abbrev Q_re_tellCan__p (S : sS) : pst := fun r S1 => RI S1 ∧ FR md_re_tellCan__p S S1 ∧ (∃ z : Int, r = some (iv z) ∧ (0 ≤ z ∧ z ≤ 1) ∧ (TCAN S S1 z (bA (ty7 S) 0) (re7 (ty7 S) (bA (ty7 S) 0)) (Xi S 890 3 + 2) (re7 (ty7 S) (Xi S 890 3 + 2)) (re7 (ty7 S) ((re7 (ty7 S) (Xi S 890 3 + 2)) + 1))))
set_option maxRecDepth 100000 in
theorem t_re_tellCan__p {S : sS} (hH : RI S) (h13 : 0 ≤ Xi S 1 3 ∧ Xi S 1 3 ≤ 200) (hCE : CEN S) (hNB : NRB S) (hf : Xi S 876 8 = 0) (hr : Xi S 876 7 ≤ 5130) (ht : 0 ≤ Xi S 890 3 ∧ Xi S 890 3 ≤ 5125) (hn0 : Xi S 891 9 = 0) (h2 : Xi S 1 3 < 199) (hor : (re7 (ty7 S) (Xi S 890 3 + 2)) < Xi S 876 7) (hc : 0 ≤ Xi S 5 3 ∧ Xi S 5 3 ≤ 24) (d : Nat) : Mp lay0 (d + 4) m_re_tellCan [.ref 891] S (Q_re_tellCan__p S) := by sorry
end
section
/-- a kind by its name or its plural -/
def kmC (S : sS) (a b : Int) : Int := if mnV S a b / 256 = 0 ∨ mnV S a b / 256 = 11 then mnV S a b % 256 else -1
theorem km_y {S : sS} {a b m : Int} (hm : mnV S a b = m) (h : m / 256 = 0 ∨ m / 256 = 11) : m % 256 = kmC S a b := by sorry
theorem km_n {S : sS} {a b m : Int} (hm : mnV S a b = m) (h : ¬ (m / 256 = 0 ∨ m / 256 = 11)) : -1 = kmC S a b := by sorry
theorem kmC_eq {S U : sS} {a b : Int} (h : SMV S U) : kmC U a b = kmC S a b := by sorry
theorem fnd_eq {S U : sS} {s a b : Int} (h : SMV S U) : fnd U s a b = fnd S s a b := by sorry
/-- one name was told -/
def TN1 (S S1 : sS) (so w a b : Int) : Prop := ∃ i : Nat, NMI S S1 i so w (wRw S 879 a b 0) (wRw S 879 a b 1) (wRw S 879 a b 2)
theorem tn1_of {S P W S1 : sS} {so w a b : Int} (hs : SMV S P) (e1 : ∃ i : Nat, NMI P W i so w (wRw P 879 a b 0) (wRw P 879 a b 1) (wRw P 879 a b 2)) (x3 : ∀ j, Xi S1 3 j = Xi W 3 j) (x4 : ∀ j, Xi S1 4 j = Xi W 4 j) (x2 : ∀ j, Xj S1 2 j = Xj W 2 j) (x1 : Xi S1 1 3 = Xi W 1 3) : TN1 S S1 so w a b := by sorry
/-- a relation -/
def RLN (S S1 : sS) (c k1 k2 x y : Int) : Prop := (Xi S1 14 c.toNat = k1 ∧ Xi S1 15 c.toNat = k2 ∧ (Xi S1 16 c.toNat = if x = 22 then 1 else 0) ∧ (Xi S1 17 c.toNat = if y = 22 then 1 else 0)) ∧ ∀ j : Nat, j ≠ c.toNat → Xi S1 14 j = Xi S 14 j ∧ Xi S1 15 j = Xi S 15 j ∧ Xi S1 16 j = Xi S 16 j ∧ Xi S1 17 j = Xi S 17 j
theorem rln_of {S P U1 U2 U3 U4 : sS} {c k1 k2 x y b1 b2 : Int} (e1 : U1 = uI P 14 c.toNat (Int32.ofInt k1)) (e2 : U2 = uI U1 15 c.toNat (Int32.ofInt k2)) (e3 : U3 = uI U2 16 c.toNat (Int32.ofInt b1)) (e4 : U4 = uI U3 17 c.toNat (Int32.ofInt b2)) (h1 : rg k1) (h2 : rg k2) (h3 : (b1 = 1 ∧ x = 22) ∨ (b1 = 0 ∧ x ≠ 22)) (h4 : (b2 = 1 ∧ y = 22) ∨ (b2 = 0 ∧ y ≠ 22)) (p : ∀ j, Xi P 14 j = Xi S 14 j ∧ Xi P 15 j = Xi S 15 j ∧ Xi P 16 j = Xi S 16 j ∧ Xi P 17 j = Xi S 17 j) : RLN S U4 c k1 k2 x y := by sorry
/-- 19: what the class does -/
def TREL (S S1 : sS) (z nm e a o l m x y : Int) : Prop :=
  (¬ nwC S nm e → z = 0 ∧ FTO S S1 3 nm) ∧
  (nwC S nm e → 6 ≤ Xi S 5 6 → z = 0 ∧ FTO S S1 9 nm) ∧
  (nwC S nm e → Xi S 5 6 < 6 → kmC S a o = -1 → z = 0 ∧ FTO S S1 4 a) ∧
  (nwC S nm e → Xi S 5 6 < 6 → kmC S a o ≠ -1 → kmC S l m = -1 → z = 0 ∧ FTO S S1 4 l) ∧
  (nwC S nm e → Xi S 5 6 < 6 → kmC S a o ≠ -1 → kmC S l m ≠ -1 → z = 1 ∧ Xi S1 876 8 = 0 ∧ TN1 S S1 6 (Xi S 5 6) nm e ∧ Xi S1 5 6 = Xi S 5 6 + 1 ∧ (∀ j, j ≠ 6 → Xi S1 5 j = Xi S 5 j) ∧ RLN S S1 (Xi S 5 6) (kmC S a o) (kmC S l m) x y)
theorem trel_1 {S S1 : sS} {nm e a o l m x y z : Int} {X : Prop} (n3 : ¬ nwC S nm e → z = 0 ∧ FTO S S1 3 nm) (n9 : nwC S nm e → 6 ≤ Xi S 5 6 + Xi S 891 9 → z = 0 ∧ FTO S S1 9 nm) (ok : nwC S nm e → Xi S 5 6 + Xi S 891 9 < 6 → z = 1 ∧ X) (hz : z = 0) (hn : Xi S 891 9 = 0) : TREL S S1 0 nm e a o l m x y := by sorry
theorem trel_2 {S U S1 : sS} {nm e a o l m x y z : Int} (h : nwC S nm e ∧ Xi S 5 6 < 6) (hk : kmC S a o = -1) (hp : ∀ r, pc7 U r = pc7 S r) (hz : z = 0) (f : FTO U S1 4 a) : TREL S S1 z nm e a o l m x y := by sorry
theorem trel_3 {S U S1 : sS} {nm e a o l m x y z : Int} (h : nwC S nm e ∧ Xi S 5 6 < 6) (hk : kmC S a o ≠ -1) (hl : kmC S l m = -1) (hp : ∀ r, pc7 U r = pc7 S r) (hz : z = 0) (f : FTO U S1 4 l) : TREL S S1 z nm e a o l m x y := by sorry
theorem trel_4 {S S1 : sS} {nm e a o l m x y : Int} (h : nwC S nm e ∧ Xi S 5 6 < 6) (hk : kmC S a o ≠ -1) (hl : kmC S l m ≠ -1) (r : Xi S1 876 8 = 0 ∧ TN1 S S1 6 (Xi S 5 6) nm e ∧ Xi S1 5 6 = Xi S 5 6 + 1 ∧ (∀ j, j ≠ 6 → Xi S1 5 j = Xi S 5 j) ∧ RLN S S1 (Xi S 5 6) (kmC S a o) (kmC S l m) x y) : TREL S S1 1 nm e a o l m x y := by sorry
theorem nk_m {S U : sS} {a o z c M : Int} (n3 : ¬ nwC S a o → z = 0 ∧ FTO S U 3 a) (n9 : nwC S a o → M ≤ c + Xi S 891 9 → z = 0 ∧ FTO S U 9 a) (hz : z ≠ 0) (hn : Xi S 891 9 = 0) : nwC S a o ∧ c < M := by sorry
abbrev Q_re_kindMeant__p (S : sS) (from_ : Int) : pst := fun r S1 => S = S1 ∧ (∃ z : Int, r = some (iv z) ∧ (-2147483648 ≤ z ∧ z ≤ 2147483647) ∧ (z = kmC S from_ (re7 (ty7 S) from_)))
set_option maxRecDepth 100000 in
theorem t_re_kindMeant__p {S : sS} (hH : RI S) (from_ : Int) (hfrom_ : 0 ≤ from_ ∧ from_ ≤ 5140) (h13 : 0 ≤ Xi S 1 3 ∧ Xi S 1 3 ≤ 200) (hCE : CEN S) (hr : Xi S 876 7 ≤ 5130) (d : Nat) : Mp lay0 (d + 3) m_re_kindMeant [.ref 891, iv from_] S (Q_re_kindMeant__p S from_) := by sorry
def md_re_tellRelation__p : List rec := [(1, 2, 3, 4), (2, 3, 0, 100000), (3, 4, 0, 100000), (4, 5, 0, 100000), (5, 6, 0, 100000), (14, 15, 0, 100000), (15, 16, 0, 100000), (16, 17, 0, 100000), (17, 18, 0, 100000), (876, 877, 8, 9), (876, 877, 9, 10), (891, 892, 9, 10), (892, 893, 0, 100000), (893, 894, 0, 100000)]
abbrev Q_re_tellRelation__p (S : sS) : pst := fun r S1 => RI S1 ∧ FR md_re_tellRelation__p S S1 ∧ (∃ z : Int, r = some (iv z) ∧ (0 ≤ z ∧ z ≤ 1) ∧ (TREL S S1 z (bA (ty7 S) 0) (re7 (ty7 S) (bA (ty7 S) 0)) (Xi S 890 3 + 2) (re7 (ty7 S) (Xi S 890 3 + 2)) ((re7 (ty7 S) (Xi S 890 3 + 2)) + 2) (re7 (ty7 S) ((re7 (ty7 S) (Xi S 890 3 + 2)) + 2)) (ty7 S ((Xi S 890 3 + 2) - 1)) (ty7 S (((re7 (ty7 S) (Xi S 890 3 + 2)) + 2) - 1))))
set_option maxRecDepth 100000 in
theorem t_re_tellRelation__p {S : sS} (hH : RI S) (h13 : 0 ≤ Xi S 1 3 ∧ Xi S 1 3 ≤ 200) (hCE : CEN S) (hNB : NRB S) (hf : Xi S 876 8 = 0) (hr : Xi S 876 7 ≤ 5130) (ht : 0 ≤ Xi S 890 3 ∧ Xi S 890 3 ≤ 5125) (hn0 : Xi S 891 9 = 0) (h2 : Xi S 1 3 < 199) (hl : (re7 (ty7 S) (Xi S 890 3 + 2)) + 2 ≤ Xi S 876 7) (hc : 0 ≤ Xi S 5 6 ∧ Xi S 5 6 ≤ 6) (d : Nat) : Mp lay0 (d + 4) m_re_tellRelation [.ref 891] S (Q_re_tellRelation__p S) := by sorry
end
section
/-! the reference: what is noted -/
def NTB (x : Int × Int × Int) (f p : Int) : Prop := x.1 = f ∧ x.2.1 = p
theorem ntb_1 {x : Int × Int × Int} {f p : Int} (h : x.1 = 0) : NTB (ntF x f p) f p := by sorry
theorem ntb_k {x : Int × Int × Int} {f p g q : Int} (h : NTB x f p) (hf : f ≠ 0) (hq : p < q) : NTB (ntF x g q) f p := by sorry
def nwR0 (S : sS) (r : Int) : Prop := Xi S 951 r.toNat ≤ 3 ∧ rmR S r = -1
def nwR1 (S : sS) (q r : Int) : Prop := nwR0 S r ∧ ¬ alR S r q
def pR (S : sS) (r : Int) : Int := Xi S 908 (Xi S 950 r.toNat).toNat
/-- 18: what the reference notes -/
def RCAN (S : sS) (x : Int × Int × Int) : Prop :=
  (rnR S 0 0 = -1 → NTB x 4 (pR S 0)) ∧
  (rnR S 0 0 ≠ -1 → ¬ nwR0 S 1 → NTB x 3 (pR S 1)) ∧
  (rnR S 0 0 ≠ -1 → nwR0 S 1 → 24 ≤ Xi S 904 23 → NTB x 9 (pR S 1)) ∧
  (rnR S 0 0 ≠ -1 → nwR0 S 1 → Xi S 904 23 < 24 → ¬ nwR1 S 1 2 → NTB x 3 (pR S 2)) ∧
  (rnR S 0 0 ≠ -1 → nwR1 S 1 2 → nwR0 S 1 → Xi S 904 23 = 23 → NTB x 9 (pR S 2)) ∧
  (rnR S 0 0 ≠ -1 → nwR1 S 1 2 → nwR0 S 1 → Xi S 904 23 < 23 → x.1 = 0)
theorem rcan_of {S : sS} {x0 x1 x2 x3 : Int × Int × Int} {W : Prop} (h0 : x0.1 = 0) (h1 : x1 = if rnR S 0 0 = -1 then ntF x0 4 (pR S 0) else x0) (y1 : nwR0 S 1 → x2 = if Xi S 904 23 < 24 then x1 else ntF x1 9 (pR S 1)) (n1 : ¬ nwR0 S 1 → x2 = ntF x1 3 (pR S 1)) (y2 : nwR0 S 1 → W → x3 = if Xi S 904 23 + 1 < 24 then x2 else ntF x2 9 (pR S 2)) (n2 : ¬ W → x3 = ntF x2 3 (pR S 2)) (ym : ¬ nwR0 S 1 → W → x3 = x2 ∨ x3 = ntF x2 9 (pR S 2)) (hw : nwR0 S 1 → (W ↔ nwR1 S 1 2)) (p1 : pR S 0 < pR S 1) (p2 : pR S 1 < pR S 2) : RCAN S x3 := by sorry
theorem nwR_0 {S P : sS} {r : Int} (hr : ∀ j, Xi P 951 j = Xi S 951 j) (hm : rmR P r = rmR S r) (hn : Xi P 904 108 = 0) : nwR P r ↔ nwR0 S r := by sorry
theorem nwR_1 {S P : sS} {q r : Int} (h0 : ∀ j, Xi P 950 j = Xi S 950 j) (hr : ∀ j, Xi P 951 j = Xi S 951 j) (hj : ∀ j, Xj P 910 j = Xj S 910 j) (hm : rmR P r = rmR S r) (hn : Xi P 904 108 = 1) (h1 : Xi P 966 0 = q) : nwR P r ↔ nwR1 S q r := by sorry
def md_mo_asked__18 : List rec := [(904, 905, 64, 65), (904, 905, 104, 105), (904, 905, 105, 106), (904, 905, 106, 107), (904, 905, 108, 109), (904, 905, 109, 110), (904, 905, 110, 111), (904, 905, 112, 113), (904, 905, 113, 114), (904, 905, 115, 116), (904, 905, 116, 117), (904, 905, 117, 118), (904, 905, 125, 126), (904, 905, 128, 129), (904, 905, 129, 130), (904, 905, 130, 131), (904, 905, 142, 143), (904, 905, 144, 145), (904, 905, 146, 147), (904, 905, 147, 148), (904, 905, 150, 151), (904, 905, 151, 152), (904, 905, 153, 154), (904, 905, 154, 155), (904, 905, 156, 157), (904, 905, 157, 158), (904, 905, 158, 159), (904, 905, 160, 161), (966, 967, 0, 100000), (967, 968, 0, 100000), (968, 969, 0, 100000), (969, 970, 0, 100000), (970, 971, 0, 100000), (971, 972, 0, 100000), (972, 973, 0, 100000), (973, 974, 0, 100000), (974, 975, 0, 100000), (975, 976, 0, 100000), (976, 977, 0, 100000), (977, 978, 0, 100000), (978, 979, 0, 100000), (979, 980, 0, 100000), (980, 981, 0, 100000), (981, 982, 0, 100000), (982, 983, 0, 100000), (983, 984, 0, 100000), (984, 985, 0, 100000), (985, 986, 0, 100000), (986, 987, 0, 100000), (987, 988, 0, 100000), (988, 989, 0, 100000), (989, 990, 0, 100000), (990, 991, 0, 100000), (991, 992, 0, 100000), (992, 993, 0, 100000), (993, 994, 0, 100000), (994, 995, 0, 100000)]
abbrev Q_mo_asked__18 (S : sS) (first : Int) : pst := fun r S1 => RI S1 ∧ FR md_mo_asked__18 S S1 ∧ (r = none ∧ (RCAN S (NT3 S1)))
set_option maxRecDepth 100000 in
theorem t_mo_asked__18 {S : sS} (hH : RI S) (first : Int) (hfirst : 0 ≤ first ∧ first ≤ 5001) (hLS : LSP S) (h15 : 0 ≤ Xi S 904 15) (hRB : RBD S) (hs : Xi S 904 70 = 18) (hp : pR S 0 < pR S 1 ∧ pR S 1 < pR S 2) (ha : 0 ≤ Xi S 904 23 ∧ Xi S 904 23 ≤ 24) (d : Nat) : Mp lay0 (d + 13) m_mo_asked [.ref 904, iv first] S (Q_mo_asked__18 S first) := by sorry
end
section
/-- 19: what the reference notes -/
def RREL (S : sS) (x : Int × Int × Int) : Prop :=
  (¬ nwR0 S 0 → NTB x 3 (pR S 0)) ∧
  (nwR0 S 0 → 6 ≤ Xi S 904 41 → NTB x 9 (pR S 0)) ∧
  (nwR0 S 0 → Xi S 904 41 < 6 → r2R S 1 0 1 = -1 → NTB x 4 (pR S 1)) ∧
  (nwR0 S 0 → Xi S 904 41 < 6 → r2R S 1 0 1 ≠ -1 → r2R S 2 0 1 = -1 → NTB x 4 (pR S 2)) ∧
  (nwR0 S 0 → Xi S 904 41 < 6 → r2R S 1 0 1 ≠ -1 → r2R S 2 0 1 ≠ -1 → x.1 = 0)
theorem ntb_if {x : Int × Int × Int} {f p g q : Int} {c : Prop} [Decidable c] (h : NTB x f p) (hf : f ≠ 0) (hq : p < q) : NTB (if c then ntF x g q else x) f p := by sorry
theorem rrel_of {S : sS} {x0 x1 x2 x3 : Int × Int × Int} (h0 : x0.1 = 0) (y1 : nwR0 S 0 → x1 = if Xi S 904 41 < 6 then x0 else ntF x0 9 (pR S 0)) (n1 : ¬ nwR0 S 0 → x1 = ntF x0 3 (pR S 0)) (h2 : x2 = if r2R S 1 0 1 = -1 then ntF x1 4 (pR S 1) else x1) (h3 : x3 = if r2R S 2 0 1 = -1 then ntF x2 4 (pR S 2) else x2) (p1 : pR S 0 < pR S 1) (p2 : pR S 1 < pR S 2) : RREL S x3 := by sorry
def md_mo_asked__19 : List rec := [(904, 905, 64, 65), (904, 905, 104, 105), (904, 905, 105, 106), (904, 905, 106, 107), (904, 905, 108, 109), (904, 905, 109, 110), (904, 905, 110, 111), (904, 905, 112, 113), (904, 905, 113, 114), (904, 905, 115, 116), (904, 905, 116, 117), (904, 905, 117, 118), (904, 905, 125, 126), (904, 905, 128, 129), (904, 905, 129, 130), (904, 905, 130, 131), (904, 905, 142, 143), (904, 905, 144, 145), (904, 905, 146, 147), (904, 905, 147, 148), (904, 905, 150, 151), (904, 905, 151, 152), (904, 905, 153, 154), (904, 905, 154, 155), (904, 905, 156, 157), (904, 905, 157, 158), (904, 905, 158, 159), (904, 905, 160, 161), (966, 967, 0, 100000), (967, 968, 0, 100000), (968, 969, 0, 100000), (969, 970, 0, 100000), (970, 971, 0, 100000), (971, 972, 0, 100000), (972, 973, 0, 100000), (973, 974, 0, 100000), (974, 975, 0, 100000), (975, 976, 0, 100000), (976, 977, 0, 100000), (977, 978, 0, 100000), (978, 979, 0, 100000), (979, 980, 0, 100000), (980, 981, 0, 100000), (981, 982, 0, 100000), (982, 983, 0, 100000), (983, 984, 0, 100000), (984, 985, 0, 100000), (985, 986, 0, 100000), (986, 987, 0, 100000), (987, 988, 0, 100000), (988, 989, 0, 100000), (989, 990, 0, 100000), (990, 991, 0, 100000), (991, 992, 0, 100000), (992, 993, 0, 100000), (993, 994, 0, 100000), (994, 995, 0, 100000)]
abbrev Q_mo_asked__19 (S : sS) (first : Int) : pst := fun r S1 => RI S1 ∧ FR md_mo_asked__19 S S1 ∧ (r = none ∧ (RREL S (NT3 S1)))
set_option maxRecDepth 100000 in
theorem t_mo_asked__19 {S : sS} (hH : RI S) (first : Int) (hfirst : 0 ≤ first ∧ first ≤ 5001) (hLS : LSP S) (h15 : 0 ≤ Xi S 904 15) (hRB : RBD S) (hs : Xi S 904 70 = 19) (hp : pR S 0 < pR S 1 ∧ pR S 1 < pR S 2) (ha : 0 ≤ Xi S 904 41 ∧ Xi S 904 41 ≤ 6) (d : Nat) : Mp lay0 (d + 13) m_mo_asked [.ref 904, iv first] S (Q_mo_asked__19 S first) := by sorry
end
end
section
section
/-- 17: what the reference notes -/
def RHAS (S : sS) (x : Int × Int × Int) : Prop :=
  (rnR S 0 0 = -1 → NTB x 4 (pR S 0)) ∧
  (rnR S 0 0 ≠ -1 → r2R S 1 2 3 = -1 → NTB x 4 (pR S 1)) ∧
  (rnR S 0 0 ≠ -1 → r2R S 1 2 3 ≠ -1 → rmR S 2 = -1 → ¬ nwR0 S 2 → NTB x 3 (pR S 2)) ∧
  (rnR S 0 0 ≠ -1 → r2R S 1 2 3 ≠ -1 → rmR S 2 = -1 → nwR0 S 2 → 12 ≤ Xi S 904 32 → NTB x 9 (pR S 2)) ∧
  (rnR S 0 0 ≠ -1 → r2R S 1 2 3 ≠ -1 → rmR S 2 ≠ -1 → rnR S 2 7 = -1 → NTB x 4 (pR S 2)) ∧
  (rnR S 0 0 ≠ -1 → r2R S 1 2 3 ≠ -1 → (rmR S 2 = -1 → nwR0 S 2 ∧ Xi S 904 32 < 12) → (rmR S 2 ≠ -1 → rnR S 2 7 ≠ -1) → x.1 = 0)
theorem rhas_of {S : sS} {x0 x1 x2 x3 : Int × Int × Int} (h0 : x0.1 = 0) (h1 : x1 = if rnR S 0 0 = -1 then ntF x0 4 (pR S 0) else x0) (h2 : x2 = if r2R S 1 2 3 = -1 then ntF x1 4 (pR S 1) else x1) (y3 : rmR S 2 = -1 → nwR0 S 2 → x3 = if Xi S 904 32 < 12 then x2 else ntF x2 9 (pR S 2)) (n3 : rmR S 2 = -1 → ¬ nwR0 S 2 → x3 = ntF x2 3 (pR S 2)) (m3 : rmR S 2 ≠ -1 → x3 = if rnR S 2 7 = -1 then ntF x2 4 (pR S 2) else x2) (p1 : pR S 0 < pR S 1) (p2 : pR S 1 < pR S 2) : RHAS S x3 := by sorry
def md_mo_asked__17 : List rec := [(904, 905, 64, 65), (904, 905, 104, 105), (904, 905, 105, 106), (904, 905, 106, 107), (904, 905, 108, 109), (904, 905, 109, 110), (904, 905, 110, 111), (904, 905, 112, 113), (904, 905, 113, 114), (904, 905, 115, 116), (904, 905, 116, 117), (904, 905, 117, 118), (904, 905, 125, 126), (904, 905, 128, 129), (904, 905, 129, 130), (904, 905, 130, 131), (904, 905, 142, 143), (904, 905, 144, 145), (904, 905, 146, 147), (904, 905, 147, 148), (904, 905, 150, 151), (904, 905, 151, 152), (904, 905, 153, 154), (904, 905, 154, 155), (904, 905, 156, 157), (904, 905, 157, 158), (904, 905, 158, 159), (904, 905, 160, 161), (966, 967, 0, 100000), (967, 968, 0, 100000), (968, 969, 0, 100000), (969, 970, 0, 100000), (970, 971, 0, 100000), (971, 972, 0, 100000), (972, 973, 0, 100000), (973, 974, 0, 100000), (974, 975, 0, 100000), (975, 976, 0, 100000), (976, 977, 0, 100000), (977, 978, 0, 100000), (978, 979, 0, 100000), (979, 980, 0, 100000), (980, 981, 0, 100000), (981, 982, 0, 100000), (982, 983, 0, 100000), (983, 984, 0, 100000), (984, 985, 0, 100000), (985, 986, 0, 100000), (986, 987, 0, 100000), (987, 988, 0, 100000), (988, 989, 0, 100000), (989, 990, 0, 100000), (990, 991, 0, 100000), (991, 992, 0, 100000), (992, 993, 0, 100000), (993, 994, 0, 100000), (994, 995, 0, 100000)]
abbrev Q_mo_asked__17 (S : sS) (first : Int) : pst := fun r S1 => RI S1 ∧ FR md_mo_asked__17 S S1 ∧ (r = none ∧ (RHAS S (NT3 S1)))
set_option maxRecDepth 100000 in
theorem t_mo_asked__17 {S : sS} (hH : RI S) (first : Int) (hfirst : 0 ≤ first ∧ first ≤ 5001) (hLS : LSP S) (h15 : 0 ≤ Xi S 904 15) (hRB : RBD S) (hs : Xi S 904 70 = 17) (hp : pR S 0 < pR S 1 ∧ pR S 1 < pR S 2) (ha : 0 ≤ Xi S 904 32 ∧ Xi S 904 32 ≤ 12) (d : Nat) : Mp lay0 (d + 13) m_mo_asked [.ref 904, iv first] S (Q_mo_asked__17 S first) := by sorry
end
section
/-! the reference: what is told -/
def ADJ (S S1 : sS) (k o : Int) : Prop := Xi S1 904 23 = Xi S 904 23 + 1 ∧ (Xi S1 921 (Xi S 904 23).toNat = k ∧ Xi S1 922 (Xi S 904 23).toNat = o ∧ Xi S1 924 (Xi S 904 23).toNat = 0) ∧ ∀ j : Nat, j ≠ (Xi S 904 23).toNat → Xi S1 921 j = Xi S 921 j ∧ Xi S1 922 j = Xi S 922 j ∧ Xi S1 924 j = Xi S 924 j
theorem adj_of {S U1 U2 U3 U4 : sS} {k o : Int} (e1 : U1 = uI S 921 (Xi S 904 23).toNat (Int32.ofInt k)) (e2 : U2 = uI U1 922 (Xi S 904 23).toNat (Int32.ofInt o)) (e3 : U3 = uI U2 924 (Xi S 904 23).toNat (Int32.ofInt 0)) (e4 : U4 = uI U3 904 23 (Int32.ofInt (Xi S 904 23 + 1))) (h : 0 ≤ Xi S 904 23 ∧ Xi S 904 23 ≤ 30) (hk : rg k) (ho : rg o) : ADJ S U4 k o := by sorry
/-- a run of Z told as a word -/
def TLW (S S1 Z : sS) (so ix r : Int) : Prop := TLR S S1 so ix (Xj Z 910 (Xi Z 950 r.toNat).toNat) (if 1 < Xi Z 951 r.toNat then Xj Z 910 (Xi Z 950 r.toNat + 1).toNat else 0) (if 2 < Xi Z 951 r.toNat then Xj Z 910 (Xi Z 950 r.toNat + 2).toNat else 0) (Xi Z 951 r.toNat)
theorem TLR_pre {S P S1 : sS} {so ix a b c n : Int} (h : TLR P S1 so ix a b c n) (x : ∀ k j : Nat, (k = 912 ∨ k = 914 ∨ k = 915 ∨ k = 916) → Xi P k j = Xi S k j) (y : ∀ j, Xj P 913 j = Xj S 913 j) (z : Xi P 904 15 = Xi S 904 15) : TLR S S1 so ix a b c n := by sorry
theorem TLW_pre {S P S1 Z Y : sS} {so ix r : Int} (h : TLW P S1 Y so ix r) (x : ∀ k j : Nat, (k = 912 ∨ k = 914 ∨ k = 915 ∨ k = 916) → Xi P k j = Xi S k j) (y : ∀ j, Xj P 913 j = Xj S 913 j) (z : Xi P 904 15 = Xi S 904 15) (w : ∀ j, Xj Y 910 j = Xj Z 910 j) (u : ∀ j, Xi Y 950 j = Xi Z 950 j) (v : ∀ j, Xi Y 951 j = Xi Z 951 j) : TLW S S1 Z so ix r := by sorry
theorem lxk_tl {A B : sS} {so ix a b c n : Int} (t : TLR A B so ix a b c n) (h0 : 0 ≤ Xi A 904 15) : LXK B A (Xi A 904 15).toNat := by sorry
theorem nmR_tl {A B : sS} {so ix a b c n x m : Int} (t : TLR A B so ix a b c n) (h0 : 0 ≤ Xi A 904 15) (w : ∀ j, Xj B 910 j = Xj A 910 j) (h : nmR A x m ≠ -1) : nmR B x m = nmR A x m := by sorry
theorem rnR_tl {A B : sS} {so ix a b c n r s : Int} (t : TLR A B so ix a b c n) (h0 : 0 ≤ Xi A 904 15) (w : ∀ j, Xj B 910 j = Xj A 910 j) (u : ∀ j, Xi B 950 j = Xi A 950 j) (v : ∀ j, Xi B 951 j = Xi A 951 j) (h : rnR A r s ≠ -1) : rnR B r s = rnR A r s := by sorry
/-- 18: what the reference does -/
def RD18 (S S1 : sS) : Prop := Xi S1 904 23 = Xi S 904 23 + 2 ∧ (∃ V : sS, TLW S V S 5 (Xi S 904 23) 1 ∧ TLW V S1 S 5 (Xi S 904 23 + 1) 2) ∧ (Xi S1 921 (Xi S 904 23).toNat = rnR S 0 0 ∧ Xi S1 922 (Xi S 904 23).toNat = Xi S 904 23 + 1 ∧ Xi S1 924 (Xi S 904 23).toNat = 0) ∧ (Xi S1 921 (Xi S 904 23 + 1).toNat = rnR S 0 0 ∧ Xi S1 922 (Xi S 904 23 + 1).toNat = Xi S 904 23 ∧ Xi S1 924 (Xi S 904 23 + 1).toNat = 0) ∧ ∀ j : Nat, j ≠ (Xi S 904 23).toNat → j ≠ (Xi S 904 23 + 1).toNat → Xi S1 921 j = Xi S 921 j ∧ Xi S1 922 j = Xi S 922 j ∧ Xi S1 924 j = Xi S 924 j
theorem rd18_of {S A B C S1 : sS} {k : Int} (h0 : 0 ≤ Xi S 904 23) (a1 : ADJ S A k (Xi S 904 23 + 1)) (b : ∀ j, Xi B 921 j = Xi A 921 j ∧ Xi B 922 j = Xi A 922 j ∧ Xi B 924 j = Xi A 924 j) (b2 : Xi B 904 23 = Xi A 904 23) (a2 : ADJ B C k (Xi S 904 23)) (d : ∀ j, Xi S1 921 j = Xi C 921 j ∧ Xi S1 922 j = Xi C 922 j ∧ Xi S1 924 j = Xi C 924 j) (d2 : Xi S1 904 23 = Xi C 904 23) (hk : k = rnR S 0 0) (t : ∃ V : sS, TLW S V S 5 (Xi S 904 23) 1 ∧ TLW V S1 S 5 (Xi S 904 23 + 1) 2) : RD18 S S1 := by sorry
def md_mo_addAdjective__p : List rec := [(904, 905, 23, 24), (921, 922, 0, 100000), (922, 923, 0, 100000), (924, 925, 0, 100000)]
abbrev Q_mo_addAdjective__p (S : sS) (kind : Int) (other : Int) : pst := fun r S1 => RI S1 ∧ FR md_mo_addAdjective__p S S1 ∧ (∃ z : Int, r = some (iv z) ∧ (-2147483648 ≤ z ∧ z ≤ 2147483647) ∧ (z = Xi S 904 23) ∧ (ADJ S S1 kind other))
set_option maxRecDepth 100000 in
theorem t_mo_addAdjective__p {S : sS} (hH : RI S) (kind : Int) (other : Int) (hkind : -2147483648 ≤ kind ∧ kind ≤ 2147483647) (hother : -2147483648 ≤ other ∧ other ≤ 2147483647) (ha : 0 ≤ Xi S 904 23 ∧ Xi S 904 23 ≤ 30) (d : Nat) : Mp lay0 (d + 1) m_mo_addAdjective [.ref 904, iv kind, iv other] S (Q_mo_addAdjective__p S kind other) := by sorry
end
section
theorem LSP_tl {A B : sS} {so ix a b c n : Int} (t : TLR A B so ix a b c n) (h0 : 0 ≤ Xi A 904 15) (hs : 0 ≤ so) (h : LSP A) : LSP B := by sorry
def md_mo_does__18 : List rec := [(904, 905, 15, 16), (904, 905, 16, 17), (904, 905, 18, 19), (904, 905, 19, 20), (904, 905, 23, 24), (904, 905, 30, 31), (904, 905, 32, 33), (904, 905, 41, 42), (904, 905, 47, 48), (904, 905, 49, 50), (904, 905, 51, 52), (904, 905, 55, 56), (904, 905, 60, 61), (904, 905, 64, 65), (904, 905, 73, 74), (904, 905, 105, 106), (904, 905, 106, 107), (904, 905, 113, 114), (904, 905, 117, 118), (912, 913, 0, 100000), (913, 914, 0, 100000), (914, 915, 0, 100000), (915, 916, 0, 100000), (916, 917, 0, 100000), (917, 918, 0, 100000), (918, 919, 0, 100000), (919, 920, 0, 100000), (920, 921, 0, 100000), (921, 922, 0, 100000), (922, 923, 0, 100000), (923, 924, 0, 100000), (924, 925, 0, 100000), (925, 926, 0, 100000), (926, 927, 0, 100000), (927, 928, 0, 100000), (928, 929, 0, 100000), (929, 930, 0, 100000), (930, 931, 0, 100000), (931, 932, 0, 100000), (932, 933, 0, 100000), (933, 934, 0, 100000), (934, 935, 0, 100000), (935, 936, 0, 100000), (936, 937, 0, 100000), (937, 938, 0, 100000), (938, 939, 0, 100000), (939, 940, 0, 100000), (940, 941, 0, 100000), (941, 942, 0, 100000), (942, 943, 0, 100000), (943, 944, 0, 100000), (944, 945, 0, 100000), (945, 946, 0, 100000), (946, 947, 0, 100000), (947, 948, 0, 100000), (948, 949, 0, 100000), (949, 950, 0, 100000)]
abbrev Q_mo_does__18 (S : sS) (first : Int) : pst := fun r S1 => RI S1 ∧ FR md_mo_does__18 S S1 ∧ (r = none ∧ (RD18 S S1))
set_option maxRecDepth 100000 in
theorem t_mo_does__18 {S : sS} (hH : RI S) (first : Int) (hfirst : 0 ≤ first ∧ first ≤ 5001) (hLS : LSP S) (h15 : 0 ≤ Xi S 904 15) (hRB : RBD S) (hs : Xi S 904 70 = 18) (hk : rnR S 0 0 ≠ -1) (ha : 0 ≤ Xi S 904 23 ∧ Xi S 904 23 ≤ 24) (d : Nat) : Mp lay0 (d + 8) m_mo_does [.ref 904, iv first] S (Q_mo_does__18 S first) := by sorry
end
section
theorem TLR_post {S V S1 : sS} {so ix a b c n : Int} (h : TLR S V so ix a b c n) (x : ∀ k j : Nat, (k = 912 ∨ k = 914 ∨ k = 915 ∨ k = 916) → Xi S1 k j = Xi V k j) (y : ∀ j, Xj S1 913 j = Xj V 913 j) (z : Xi S1 904 15 = Xi V 904 15) : TLR S S1 so ix a b c n := by sorry
/-- 19: what the reference does -/
def RD19 (S S1 : sS) : Prop := Xi S1 904 41 = Xi S 904 41 + 1 ∧ TLW S S1 S 8 (Xi S 904 41) 0 ∧ (Xi S1 936 (Xi S 904 41).toNat = r2R S 1 0 1 ∧ Xi S1 937 (Xi S 904 41).toNat = r2R S 2 0 1 ∧ Xi S1 938 (Xi S 904 41).toNat = Xi S 904 79 ∧ Xi S1 939 (Xi S 904 41).toNat = Xi S 904 80) ∧ ∀ j : Nat, j ≠ (Xi S 904 41).toNat → Xi S1 936 j = Xi S 936 j ∧ Xi S1 937 j = Xi S 937 j ∧ Xi S1 938 j = Xi S 938 j ∧ Xi S1 939 j = Xi S 939 j
theorem rd19_of {S U1 U2 U3 U4 T S1 : sS} {k1 k2 b1 b2 : Int} (e1 : U1 = uI S 936 (Xi S 904 41).toNat (Int32.ofInt k1)) (e2 : U2 = uI U1 937 (Xi S 904 41).toNat (Int32.ofInt k2)) (e3 : U3 = uI U2 938 (Xi S 904 41).toNat (Int32.ofInt b1)) (e4 : U4 = uI U3 939 (Xi S 904 41).toNat (Int32.ofInt b2)) (f : ∀ j, Xi T 936 j = Xi U4 936 j ∧ Xi T 937 j = Xi U4 937 j ∧ Xi T 938 j = Xi U4 938 j ∧ Xi T 939 j = Xi U4 939 j) (t : TLW U4 T U4 8 (Xi S 904 41) 0) (e6 : S1 = uI T 904 41 (Int32.ofInt (Xi S 904 41 + 1))) (h : 0 ≤ Xi S 904 41 ∧ Xi S 904 41 ≤ 6) (r1 : rg k1) (r2 : rg k2) (r3 : b1 = 0 ∨ b1 = 1) (r4 : b2 = 0 ∨ b2 = 1) (q1 : k1 = r2R S 1 0 1) (q2 : k2 = r2R S 2 0 1) (q3 : b1 = Xi S 904 79) (q4 : b2 = Xi S 904 80) : RD19 S S1 := by sorry
def md_mo_does__19 : List rec := [(904, 905, 15, 16), (904, 905, 16, 17), (904, 905, 18, 19), (904, 905, 19, 20), (904, 905, 23, 24), (904, 905, 30, 31), (904, 905, 32, 33), (904, 905, 41, 42), (904, 905, 47, 48), (904, 905, 49, 50), (904, 905, 51, 52), (904, 905, 55, 56), (904, 905, 60, 61), (904, 905, 64, 65), (904, 905, 73, 74), (904, 905, 105, 106), (904, 905, 106, 107), (904, 905, 113, 114), (904, 905, 117, 118), (912, 913, 0, 100000), (913, 914, 0, 100000), (914, 915, 0, 100000), (915, 916, 0, 100000), (916, 917, 0, 100000), (917, 918, 0, 100000), (918, 919, 0, 100000), (919, 920, 0, 100000), (920, 921, 0, 100000), (921, 922, 0, 100000), (922, 923, 0, 100000), (923, 924, 0, 100000), (924, 925, 0, 100000), (925, 926, 0, 100000), (926, 927, 0, 100000), (927, 928, 0, 100000), (928, 929, 0, 100000), (929, 930, 0, 100000), (930, 931, 0, 100000), (931, 932, 0, 100000), (932, 933, 0, 100000), (933, 934, 0, 100000), (934, 935, 0, 100000), (935, 936, 0, 100000), (936, 937, 0, 100000), (937, 938, 0, 100000), (938, 939, 0, 100000), (939, 940, 0, 100000), (940, 941, 0, 100000), (941, 942, 0, 100000), (942, 943, 0, 100000), (943, 944, 0, 100000), (944, 945, 0, 100000), (945, 946, 0, 100000), (946, 947, 0, 100000), (947, 948, 0, 100000), (948, 949, 0, 100000), (949, 950, 0, 100000)]
abbrev Q_mo_does__19 (S : sS) (first : Int) : pst := fun r S1 => RI S1 ∧ FR md_mo_does__19 S S1 ∧ (r = none ∧ (RD19 S S1))
set_option maxRecDepth 100000 in
theorem t_mo_does__19 {S : sS} (hH : RI S) (first : Int) (hfirst : 0 ≤ first ∧ first ≤ 5001) (hLS : LSP S) (h15 : 0 ≤ Xi S 904 15) (hRB : RBD S) (hs : Xi S 904 70 = 19) (ha : 0 ≤ Xi S 904 41 ∧ Xi S 904 41 ≤ 6) (hb : (Xi S 904 79 = 0 ∨ Xi S 904 79 = 1) ∧ (Xi S 904 80 = 0 ∨ Xi S 904 80 = 1)) (d : Nat) : Mp lay0 (d + 8) m_mo_does [.ref 904, iv first] S (Q_mo_does__19 S first) := by sorry
end
section
/-- 8: what the reference notes -/
def RPL (S : sS) (x : Int × Int × Int) : Prop :=
  (r2R S 0 0 1 = -1 → r2R S 0 2 3 = -1 → NTB x 4 (pR S 0)) ∧
  (¬ (r2R S 0 0 1 = -1 ∧ r2R S 0 2 3 = -1) → ¬ nwR0 S 1 → NTB x 3 (pR S 1)) ∧
  (¬ (r2R S 0 0 1 = -1 ∧ r2R S 0 2 3 = -1) → nwR0 S 1 → x.1 = 0)
theorem rpl_of {S : sS} {x0 x1 x2 : Int × Int × Int} (h0 : x0.1 = 0) (h1 : r2R S 0 0 1 = -1 → r2R S 0 2 3 = -1 → x1 = ntF x0 4 (pR S 0)) (g1 : ¬ (r2R S 0 0 1 = -1 ∧ r2R S 0 2 3 = -1) → x1 = x0) (y2 : nwR0 S 1 → x2 = x1) (n2 : ¬ nwR0 S 1 → x2 = ntF x1 3 (pR S 1)) (p1 : pR S 0 < pR S 1) : RPL S x2 := by sorry
def md_mo_asked__8 : List rec := [(904, 905, 64, 65), (904, 905, 104, 105), (904, 905, 105, 106), (904, 905, 106, 107), (904, 905, 108, 109), (904, 905, 109, 110), (904, 905, 110, 111), (904, 905, 112, 113), (904, 905, 113, 114), (904, 905, 115, 116), (904, 905, 116, 117), (904, 905, 117, 118), (904, 905, 125, 126), (904, 905, 128, 129), (904, 905, 129, 130), (904, 905, 130, 131), (904, 905, 142, 143), (904, 905, 144, 145), (904, 905, 146, 147), (904, 905, 147, 148), (904, 905, 150, 151), (904, 905, 151, 152), (904, 905, 153, 154), (904, 905, 154, 155), (904, 905, 156, 157), (904, 905, 157, 158), (904, 905, 158, 159), (904, 905, 160, 161), (966, 967, 0, 100000), (967, 968, 0, 100000), (968, 969, 0, 100000), (969, 970, 0, 100000), (970, 971, 0, 100000), (971, 972, 0, 100000), (972, 973, 0, 100000), (973, 974, 0, 100000), (974, 975, 0, 100000), (975, 976, 0, 100000), (976, 977, 0, 100000), (977, 978, 0, 100000), (978, 979, 0, 100000), (979, 980, 0, 100000), (980, 981, 0, 100000), (981, 982, 0, 100000), (982, 983, 0, 100000), (983, 984, 0, 100000), (984, 985, 0, 100000), (985, 986, 0, 100000), (986, 987, 0, 100000), (987, 988, 0, 100000), (988, 989, 0, 100000), (989, 990, 0, 100000), (990, 991, 0, 100000), (991, 992, 0, 100000), (992, 993, 0, 100000), (993, 994, 0, 100000), (994, 995, 0, 100000)]
abbrev Q_mo_asked__8 (S : sS) (first : Int) : pst := fun r S1 => RI S1 ∧ FR md_mo_asked__8 S S1 ∧ (r = none ∧ (RPL S (NT3 S1)))
set_option maxRecDepth 100000 in
theorem t_mo_asked__8 {S : sS} (hH : RI S) (first : Int) (hfirst : 0 ≤ first ∧ first ≤ 5001) (hLS : LSP S) (h15 : 0 ≤ Xi S 904 15) (hRB : RBD S) (hs : Xi S 904 70 = 8) (hp : pR S 0 < pR S 1) (d : Nat) : Mp lay0 (d + 13) m_mo_asked [.ref 904, iv first] S (Q_mo_asked__8 S first) := by sorry
end
section
theorem Hid.i {p : Prop} (h : p) : Hid p := by sorry
theorem msc_rg {S : sS} {a b c : Int} : ∀ (m i : Nat), msc S a b c m i = -1 ∨ ∃ j : Nat, i ≤ j ∧ j < i + m ∧ msc S a b c m i = Xi S 3 j * 256 + Xi S 4 j := by sorry
theorem mn_rg {S : sS} {a b : Int} (h : CEN S) : mnV S a b = -1 ∨ (0 ≤ mnV S a b ∧ 0 ≤ mnV S a b % 256 ∧ mnV S a b % 256 ≤ 63 ∧ mnV S a b / 256 ≤ 14) := by sorry
def tmC (S : sS) (a b : Int) : Int := if mnV S a b / 256 = 1 ∨ mnV S a b / 256 = 12 then mnV S a b % 256 else -1
theorem tm_y {S : sS} {a b m : Int} (hm : mnV S a b = m) (h : m / 256 = 1 ∨ m / 256 = 12) : m % 256 = tmC S a b := by sorry
theorem tm_n {S : sS} {a b m : Int} (hm : mnV S a b = m) (h : ¬ (m / 256 = 1 ∨ m / 256 = 12)) : -1 = tmC S a b := by sorry
/-- 8: what the class does -/
def TPL (S S1 : sS) (z f b a t : Int) : Prop :=
  (kmC S f b = -1 → tmC S f b = -1 → z = 0 ∧ FTO S S1 4 f) ∧
  (¬ (kmC S f b = -1 ∧ tmC S f b = -1) → ¬ nwC S a t → z = 0 ∧ FTO S S1 3 a) ∧
  (kmC S f b ≠ -1 → nwC S a t → z = 1 ∧ Xi S1 876 8 = 0 ∧ TN1 S S1 11 (kmC S f b) a t ∧ ∀ j, Xi S1 5 j = Xi S 5 j) ∧
  (kmC S f b = -1 → tmC S f b ≠ -1 → nwC S a t → z = 1 ∧ Xi S1 876 8 = 0 ∧ TN1 S S1 12 (tmC S f b) a t ∧ ∀ j, Xi S1 5 j = Xi S 5 j)
theorem tpl_1 {S S1 : sS} {z f b a t : Int} (h1 : kmC S f b = -1) (h2 : tmC S f b = -1) (hz : z = 0) (o : FTO S S1 4 f) : TPL S S1 z f b a t := by sorry
theorem tpl_2 {S S1 : sS} {z f b a t : Int} {X : Prop} (h : ¬ (kmC S f b = -1 ∧ tmC S f b = -1)) (n3 : ¬ nwC S a t → z = 0 ∧ FTO S S1 3 a) (ok : nwC S a t → 0 + Xi S 891 9 < 1000 → z = 1 ∧ X) (hz : z = 0) (hn : Xi S 891 9 = 0) : TPL S S1 0 f b a t := by sorry
theorem tpl_k {S S1 : sS} {f b a t : Int} (h : kmC S f b ≠ -1) (n : nwC S a t) (r : Xi S1 876 8 = 0 ∧ TN1 S S1 11 (kmC S f b) a t ∧ ∀ j, Xi S1 5 j = Xi S 5 j) : TPL S S1 1 f b a t := by sorry
theorem tpl_t {S S1 : sS} {f b a t : Int} (h : kmC S f b = -1) (h2 : tmC S f b ≠ -1) (n : nwC S a t) (r : Xi S1 876 8 = 0 ∧ TN1 S S1 12 (tmC S f b) a t ∧ ∀ j, Xi S1 5 j = Xi S 5 j) : TPL S S1 1 f b a t := by sorry
def md_re_tellPlural__p : List rec := [(1, 2, 3, 4), (2, 3, 0, 100000), (3, 4, 0, 100000), (4, 5, 0, 100000), (876, 877, 8, 9), (876, 877, 9, 10), (891, 892, 9, 10), (892, 893, 0, 100000), (893, 894, 0, 100000)]
abbrev Q_re_tellPlural__p (S : sS) : pst := fun r S1 => RI S1 ∧ FR md_re_tellPlural__p S S1 ∧ (∃ z : Int, r = some (iv z) ∧ (0 ≤ z ∧ z ≤ 1) ∧ (TPL S S1 z (bA (ty7 S) 3) (re7 (ty7 S) (bA (ty7 S) 3)) ((re7 (ty7 S) (bA (ty7 S) 3)) + 1) (re7 (ty7 S) ((re7 (ty7 S) (bA (ty7 S) 3)) + 1))))
set_option maxRecDepth 100000 in
theorem t_re_tellPlural__p {S : sS} (hH : RI S) (h13 : 0 ≤ Xi S 1 3 ∧ Xi S 1 3 ≤ 200) (hCE : CEN S) (hNB : NRB S) (hf : Xi S 876 8 = 0) (hr : Xi S 876 7 ≤ 5130) (hn0 : Xi S 891 9 = 0) (h2 : Xi S 1 3 < 199) (hb : (re7 (ty7 S) (bA (ty7 S) 3)) < Xi S 876 7) (d : Nat) : Mp lay0 (d + 3) m_re_tellPlural [.ref 891] S (Q_re_tellPlural__p S) := by sorry
end
section
/-! class and reference: what words mean -/
/-- the reference's sorts as the class's -/
def sg7 (s : Int) : Int := if s = 0 then 0 else if s = 1 then 11 else if s = 2 then 1 else if s = 3 then 12 else if s = 4 then 2 else if s = 5 then 3 else if s = 6 then 4 else if s = 7 then 5 else if s = 8 then 6 else if s = 9 then 7 else if s = 10 then 13 else if s = 11 then 8 else 14
def ug7 (s : Int) : Int := if s = 0 then 0 else if s = 11 then 1 else if s = 1 then 2 else if s = 12 then 3 else if s = 2 then 4 else if s = 3 then 5 else if s = 4 then 6 else if s = 5 then 7 else if s = 6 then 8 else if s = 7 then 9 else if s = 13 then 10 else if s = 8 then 11 else 12
theorem ug_sg {s : Int} (h : 0 ≤ s ∧ s ≤ 12) : ug7 (sg7 s) = s ∧ 0 ≤ sg7 s ∧ sg7 s ≤ 14 := by sorry
theorem sg_inj {s t : Int} (h : 0 ≤ s ∧ s ≤ 12) (k : 0 ≤ t ∧ t ≤ 12) (e : sg7 s = sg7 t) : s = t := by sorry
/-- what tokens mean to the reference, in the class's numbers -/
noncomputable def mR (S : sS) (t n : Int) : Int := if nmR S t n = -1 then -1 else sg7 (Xi S 914 (nmR S t n).toNat) * 256 + Xi S 915 (nmR S t n).toNat
/-- sorts and numbers of the reference's words -/
def LXR (S : sS) : Prop := ∀ k : Nat, (k : Int) < Xi S 904 15 → (0 ≤ Xi S 914 k ∧ Xi S 914 k ≤ 12) ∧ 0 ≤ Xi S 915 k ∧ Xi S 915 k ≤ 63
theorem mR_cs {S : sS} {t n : Int} (hx : LXR S) (h15 : 0 ≤ Xi S 904 15) : (nmR S t n = -1 ∧ mR S t n = -1) ∨ (nmR S t n ≠ -1 ∧ mR S t n / 256 = sg7 (Xi S 914 (nmR S t n).toNat) ∧ mR S t n % 256 = Xi S 915 (nmR S t n).toNat ∧ 0 ≤ Xi S 914 (nmR S t n).toNat ∧ Xi S 914 (nmR S t n).toNat ≤ 12 ∧ 0 ≤ mR S t n) := by sorry
/-- a word of one sort: both find the same -/
theorem fnd_ms {U S : sS} {a b t n s : Int} (h : mnV U a b = mR S t n) (hx : LXR S) (h15 : 0 ≤ Xi S 904 15) (hs : 0 ≤ s ∧ s ≤ 12) : fnd U (sg7 s) a b = msR S t n s := by sorry
/-- nothing is meant to both, or to none -/
theorem mn_no {U S : sS} {a b t n : Int} (h : mnV U a b = mR S t n) (hx : LXR S) (h15 : 0 ≤ Xi S 904 15) : mnV U a b = -1 ↔ nmR S t n = -1 := by sorry
theorem km_r2 {U S : sS} {a b r : Int} (h : mnV U a b = mR S (Xi S 950 r.toNat) (Xi S 951 r.toNat)) (hx : LXR S) (h15 : 0 ≤ Xi S 904 15) : kmC U a b = r2R S r 0 1 := by sorry
end
section
/-- a sentence in both: rows from 0, tokens from f -/
def SRL (U S : sS) (f : Nat) : Prop := (∀ a b : Int, 0 ≤ a → b ≤ Xi U 876 7 → (∀ i : Int, a ≤ i → i < b → ty7 U i = 100) → mnV U a b = mR S (f + a) (b - a)) ∧ (∀ r : Int, 0 ≤ r → r < Xi U 876 7 → pc7 U r = Xi S 908 (f + r).toNat) ∧ ∀ i j : Int, 0 ≤ i → 0 ≤ j → ty7 U i = 100 → ty7 U j = 100 → (Xj U 879 i.toNat = Xj U 879 j.toNat ↔ Xj S 910 (f + i).toNat = Xj S 910 (f + j).toNat)
/-- the run r is the rows from a to b -/
def RNR (U S : sS) (f : Nat) (r a b : Int) : Prop := 0 ≤ a ∧ a < b ∧ b ≤ Xi U 876 7 ∧ Xi S 950 r.toNat = f + a ∧ Xi S 951 r.toNat = b - a ∧ ∀ i : Int, a ≤ i → i < b → ty7 U i = 100
theorem rn_fnd {U S : sS} {f : Nat} {r a b s : Int} (h : SRL U S f) (k : RNR U S f r a b) (hx : LXR S) (h15 : 0 ≤ Xi S 904 15) (hs : 0 ≤ s ∧ s ≤ 12) : fnd U (sg7 s) a b = rnR S r s := by sorry
theorem rn_pc {U S : sS} {f : Nat} {r a b : Int} (h : SRL U S f) (k : RNR U S f r a b) : pc7 U a = pR S r := by sorry
theorem rn_new {U S : sS} {f : Nat} {r a b : Int} (h : SRL U S f) (k : RNR U S f r a b) (hx : LXR S) (h15 : 0 ≤ Xi S 904 15) (hn : Xi U 891 9 = 0) : nwC U a b ↔ nwR0 S r := by sorry
theorem rn_al {U S : sS} {f : Nat} {r q a b c d : Int} (h : SRL U S f) (k : RNR U S f q a b) (l : RNR U S f r c d) : alC U a b c d ↔ alR S r q := by sorry
theorem rn_nw1 {U S : sS} {f : Nat} {r q a b c d : Int} (h : SRL U S f) (k : RNR U S f q a b) (l : RNR U S f r c d) (hx : LXR S) (h15 : 0 ≤ Xi S 904 15) : nw1 U a b c d ↔ nwR1 S q r := by sorry
/-- both tell the same fault, or none -/
def SFT (U1 : sS) (z : Int) (x : Int × Int × Int) : Prop := (z = 0 ∧ NTB x (Xi U1 876 8) (Xi U1 876 9)) ∨ (z = 1 ∧ x.1 = 0 ∧ Xi U1 876 8 = 0)
theorem sft_f {U U1 S : sS} {c r p z : Int} {x : Int × Int × Int} (h : z = 0 ∧ FTO U U1 c r) (e : pc7 U r = p) (n : NTB x c p) : SFT U1 z x := by sorry
/-- 18 -/
theorem can_same {U U1 S : sS} {f : Nat} {z nm e a o t : Int} {x : Int × Int × Int} (h : SRL U S f) (k0 : RNR U S f 0 nm e) (k1 : RNR U S f 1 a o) (k2 : RNR U S f 2 (o + 1) t) (hx : LXR S) (h15 : 0 ≤ Xi S 904 15) (hn : Xi U 891 9 = 0) (hc : Xi U 5 3 = Xi S 904 23) (h24 : Xi U 5 3 ≤ 24) (tc : TCAN U U1 z nm e a o t) (rc : RCAN S x) : SFT U1 z x := by sorry
theorem rn_km {U S : sS} {f : Nat} {r a b : Int} (h : SRL U S f) (k : RNR U S f r a b) (hx : LXR S) (h15 : 0 ≤ Xi S 904 15) : kmC U a b = r2R S r 0 1 := by sorry
/-- 19 -/
theorem rel_same {U U1 S : sS} {f : Nat} {z nm e a o l m x y : Int} {w : Int × Int × Int} (h : SRL U S f) (k0 : RNR U S f 0 nm e) (k1 : RNR U S f 1 a o) (k2 : RNR U S f 2 l m) (hx : LXR S) (h15 : 0 ≤ Xi S 904 15) (hn : Xi U 891 9 = 0) (hc : Xi U 5 6 = Xi S 904 41) (tc : TREL U U1 z nm e a o l m x y) (rc : RREL S w) : SFT U1 z w := by sorry
end
section
theorem tm_r2 {U S : sS} {a b r : Int} (h : mnV U a b = mR S (Xi S 950 r.toNat) (Xi S 951 r.toNat)) (hx : LXR S) (h15 : 0 ≤ Xi S 904 15) : tmC U a b = r2R S r 2 3 := by sorry
/-- 8 -/
theorem pl_same {U U1 S : sS} {f : Nat} {z g b a t : Int} {w : Int × Int × Int} (h : SRL U S f) (k0 : RNR U S f 0 g b) (k1 : RNR U S f 1 a t) (hx : LXR S) (h15 : 0 ≤ Xi S 904 15) (hn : Xi U 891 9 = 0) (tc : TPL U U1 z g b a t) (rc : RPL S w) : SFT U1 z w := by sorry
end
end
section
section
/-- a kind has a property -/
def KHS (S S1 : sS) (k p : Int) : Prop := Xi S1 7 k.toNat = iorF (Xi S 7 k.toNat) (ishlF 1 p) ∧ ∀ j : Nat, j ≠ k.toNat → Xi S1 7 j = Xi S 7 j
theorem khs_of {S P S1 : sS} {k p : Int} (e : S1 = uI P 7 k.toNat (Int32.ofInt (iorF (Xi P 7 k.toNat) (ishlF 1 p)))) (x : ∀ j, Xi P 7 j = Xi S 7 j) : KHS S S1 k p := by sorry
theorem SMV_w {S P S1 : sS} {k j : Nat} {v : Int32} (h : SMV S P) (e : S1 = uI P k j v) (h1 : k ≠ 1) (h3 : k ≠ 3) (h4 : k ≠ 4) : SMV S S1 := by sorry
theorem SMV.rf {S : sS} : SMV S S := by sorry
/-- 17: what the class does -/
def THAS (S S1 : sS) (z nm e a o l t : Int) : Prop :=
  (fnd S 0 nm e = -1 → z = 0 ∧ FTO S S1 4 nm) ∧
  (fnd S 0 nm e ≠ -1 → tmC S a o = -1 → z = 0 ∧ FTO S S1 4 a) ∧
  (fnd S 0 nm e ≠ -1 → tmC S a o ≠ -1 → mnV S l t = -1 → ¬ nwC S l t → z = 0 ∧ FTO S S1 3 l) ∧
  (fnd S 0 nm e ≠ -1 → tmC S a o ≠ -1 → mnV S l t = -1 → nwC S l t → 12 ≤ Xi S 5 5 → z = 0 ∧ FTO S S1 9 l) ∧
  (fnd S 0 nm e ≠ -1 → tmC S a o ≠ -1 → mnV S l t ≠ -1 → fnd S 5 l t = -1 → z = 0 ∧ FTO S S1 4 l) ∧
  (fnd S 0 nm e ≠ -1 → tmC S a o ≠ -1 → fnd S 5 l t ≠ -1 → Xi S 9 (fnd S 5 l t).toNat ≠ tmC S a o → z = 0 ∧ FTO S S1 5 nm) ∧
  (fnd S 0 nm e ≠ -1 → tmC S a o ≠ -1 → fnd S 5 l t ≠ -1 → Xi S 9 (fnd S 5 l t).toNat = tmC S a o → z = 1 ∧ Xi S1 876 8 = 0 ∧ SMV S S1 ∧ (∀ j, Xi S1 5 j = Xi S 5 j) ∧ (∀ j, Xi S1 9 j = Xi S 9 j) ∧ KHS S S1 (fnd S 0 nm e) (fnd S 5 l t)) ∧
  (fnd S 0 nm e ≠ -1 → tmC S a o ≠ -1 → mnV S l t = -1 → nwC S l t → Xi S 5 5 < 12 → z = 1 ∧ Xi S1 876 8 = 0 ∧ TN1 S S1 5 (Xi S 5 5) l t ∧ Xi S1 5 5 = Xi S 5 5 + 1 ∧ (∀ j, j ≠ 5 → Xi S1 5 j = Xi S 5 j) ∧ (Xi S1 9 (Xi S 5 5).toNat = tmC S a o ∧ ∀ j : Nat, j ≠ (Xi S 5 5).toNat → Xi S1 9 j = Xi S 9 j) ∧ KHS S S1 (fnd S 0 nm e) (Xi S 5 5))
theorem thas_1 {S S1 : sS} {z nm e a o l t : Int} (h : fnd S 0 nm e = -1) (hz : z = 0) (f : FTO S S1 4 nm) : THAS S S1 z nm e a o l t := by sorry
theorem thas_2 {S S1 : sS} {z nm e a o l t : Int} (h : fnd S 0 nm e ≠ -1) (h2 : tmC S a o = -1) (hz : z = 0) (f : FTO S S1 4 a) : THAS S S1 z nm e a o l t := by sorry
theorem fnd_no {S : sS} {s a b : Int} (h : mnV S a b = -1) (hs : 0 ≤ s) : fnd S s a b = -1 := by sorry
theorem thas_3 {S S1 : sS} {z nm e a o l t : Int} {X : Prop} (h : fnd S 0 nm e ≠ -1) (h2 : tmC S a o ≠ -1) (hm : mnV S l t = -1) (n3 : ¬ nwC S l t → z = 0 ∧ FTO S S1 3 l) (n9 : nwC S l t → 12 ≤ Xi S 5 5 + Xi S 891 9 → z = 0 ∧ FTO S S1 9 l) (ok : nwC S l t → Xi S 5 5 + Xi S 891 9 < 12 → z = 1 ∧ X) (hz : z = 0) (hn : Xi S 891 9 = 0) : THAS S S1 0 nm e a o l t := by sorry
theorem thas_5 {S S1 : sS} {z nm e a o l t : Int} (h : fnd S 0 nm e ≠ -1) (h2 : tmC S a o ≠ -1) (hm : mnV S l t ≠ -1) (hf : fnd S 5 l t = -1) (hz : z = 0) (f : FTO S S1 4 l) : THAS S S1 z nm e a o l t := by sorry
theorem thas_6 {S S1 : sS} {z nm e a o l t : Int} (h : fnd S 0 nm e ≠ -1) (h2 : tmC S a o ≠ -1) (hm : mnV S l t ≠ -1) (hf : fnd S 5 l t ≠ -1) (ht : Xi S 9 (fnd S 5 l t).toNat ≠ tmC S a o) (hz : z = 0) (f : FTO S S1 5 nm) : THAS S S1 z nm e a o l t := by sorry
theorem thas_7 {S S1 : sS} {nm e a o l t : Int} (h : fnd S 0 nm e ≠ -1) (h2 : tmC S a o ≠ -1) (hm : mnV S l t ≠ -1) (hf : fnd S 5 l t ≠ -1) (ht : Xi S 9 (fnd S 5 l t).toNat = tmC S a o) (r : Xi S1 876 8 = 0 ∧ SMV S S1 ∧ (∀ j, Xi S1 5 j = Xi S 5 j) ∧ (∀ j, Xi S1 9 j = Xi S 9 j) ∧ KHS S S1 (fnd S 0 nm e) (fnd S 5 l t)) : THAS S S1 1 nm e a o l t := by sorry
theorem thas_8 {S S1 : sS} {nm e a o l t : Int} (h : fnd S 0 nm e ≠ -1) (h2 : tmC S a o ≠ -1) (hm : mnV S l t = -1) (hA : nwC S l t ∧ Xi S 5 5 < 12) (r : Xi S1 876 8 = 0 ∧ TN1 S S1 5 (Xi S 5 5) l t ∧ Xi S1 5 5 = Xi S 5 5 + 1 ∧ (∀ j, j ≠ 5 → Xi S1 5 j = Xi S 5 j) ∧ (Xi S1 9 (Xi S 5 5).toNat = tmC S a o ∧ ∀ j : Nat, j ≠ (Xi S 5 5).toNat → Xi S1 9 j = Xi S 9 j) ∧ KHS S S1 (fnd S 0 nm e) (Xi S 5 5)) : THAS S S1 1 nm e a o l t := by sorry
theorem thas_n {S P A U S1 : sS} {l t k ty k9 y x9 : Int} {l1 l2 : List rec} (V : SMV S P) (f0 : Xi P 876 8 = 0) (F1 : FR l1 S P) (F2 : FR l2 P A) (E : ∃ i : Nat, NMI P A i 5 (Xi S 5 5) (wRw P 879 l t 0) (wRw P 879 l t 1) (wRw P 879 l t 2)) (C : Xi A 5 5 = Xi P 5 5 + 1) (c : Xi P 5 5 = Xi S 5 5) (O : ∀ j, j ≠ 5 → Xi A 5 j = Xi P 5 j) (w1 : U = uI A 9 x9.toNat (Int32.ofInt y)) (w2 : S1 = uI U 7 k9.toNat (Int32.ofInt (iorF (Xi U 7 k9.toNat) (ishlF 1 x9)))) (hk : k9 = k) (hy : y = ty) (hx : x9 = Xi S 5 5) (hr : rg y) (a1 : mdf l2 876 8 = false := by rfl) (a2 : kdis l1 [(7, 8), (9, 10)] = true := by rfl) (a3 : kdis l2 [(7, 8), (9, 10)] = true := by rfl) (a4 : kdis l1 [(5, 6)] = true := by rfl) : Xi S1 876 8 = 0 ∧ TN1 S S1 5 (Xi S 5 5) l t ∧ Xi S1 5 5 = Xi S 5 5 + 1 ∧ (∀ j, j ≠ 5 → Xi S1 5 j = Xi S 5 j) ∧ (Xi S1 9 (Xi S 5 5).toNat = ty ∧ ∀ j : Nat, j ≠ (Xi S 5 5).toNat → Xi S1 9 j = Xi S 9 j) ∧ KHS S S1 k (Xi S 5 5) := by sorry
theorem thas_o {S S1 : sS} {k k9 x9 p : Int} (f0 : Xi S 876 8 = 0) (w2 : S1 = uI S 7 k9.toNat (Int32.ofInt (iorF (Xi S 7 k9.toNat) (ishlF 1 x9)))) (hk : k9 = k) (hx : x9 = p) : Xi S1 876 8 = 0 ∧ SMV S S1 ∧ (∀ j, Xi S1 5 j = Xi S 5 j) ∧ (∀ j, Xi S1 9 j = Xi S 9 j) ∧ KHS S S1 k p := by sorry
theorem SMV_j {S P S1 : sS} {k j : Nat} {v : Int64} (h : SMV S P) (e : S1 = uJ P k j v) (h1 : k ≠ 2) (h3 : k ≠ 879) : SMV S S1 := by sorry
theorem ty7_j {S S1 : sS} {k j : Nat} {v : Int64} (e : S1 = uJ S k j v) : ty7 S1 = ty7 S := by sorry
theorem pc7_j {S S1 : sS} {k j : Nat} {v : Int64} (e : S1 = uJ S k j v) (r : Int) : pc7 S1 r = pc7 S r := by sorry
theorem mnF_eq {S U : sS} {a b c : Int} (h : SMV S U) : mnF U a b c = mnF S a b c := by sorry
theorem nwC_eq {S U : sS} {a b : Int} (h : SMV S U) (h9 : Xi U 891 9 = Xi S 891 9) (h1 : ∀ j, Xi U 892 j = Xi S 892 j) (h2 : ∀ j, Xi U 893 j = Xi S 893 j) : nwC U a b ↔ nwC S a b := by sorry
theorem mnr_1 {S P : sS} {w : Int} (h : SMV S P) (x : Xj P 894 0 = w) : mnR P 894 0 1 = mnF S w 0 0 := by sorry
theorem fto_p {S P S1 : sS} {c r : Int} (h : FTO P S1 c r) (p : ∀ r, pc7 P r = pc7 S r) : FTO S S1 c r := by sorry
/-- 7: names told -/
def TNV (S S1 : sS) (c w : Int) : Prop := ∃ (V : sS) (i j : Nat), NMI S V i 7 c (wRw S 879 3 4 0) (wRw S 879 3 4 1) (wRw S 879 3 4 2) ∧ NMI V S1 j 13 c w 0 0
def vbC (S : sS) (e : Int) : Prop := e = 4 ∧ mnF S (Xj S 879 3 * 27 + 19) 0 0 = -1
/-- 7: what the class does -/
def TVB (S S1 : sS) (z e a t : Int) : Prop :=
  (¬ vbC S e → z = 0 ∧ FTO S S1 3 3) ∧
  (vbC S e → ¬ nwC S 3 4 → z = 0 ∧ FTO S S1 3 3) ∧
  (vbC S e → nwC S 3 4 → 8 ≤ Xi S 5 7 → z = 0 ∧ FTO S S1 9 3) ∧
  (vbC S e → nwC S 3 4 → Xi S 5 7 < 8 → fnd S 6 a t = -1 → z = 0 ∧ FTO S S1 4 a) ∧
  (vbC S e → nwC S 3 4 → Xi S 5 7 < 8 → fnd S 6 a t ≠ -1 → z = 1 ∧ Xi S1 876 8 = 0 ∧ TNV S S1 (Xi S 5 7) (Xj S 879 3 * 27 + 19) ∧ Xi S1 5 7 = Xi S 5 7 + 1 ∧ (∀ j, j ≠ 7 → Xi S1 5 j = Xi S 5 j) ∧ Xi S1 18 (Xi S 5 7).toNat = fnd S 6 a t ∧ ∀ j : Nat, j ≠ (Xi S 5 7).toNat → Xi S1 18 j = Xi S 18 j)
theorem tvb_1 {S S1 : sS} {z e a t : Int} (h : ¬ vbC S e) (hz : z = 0) (f : FTO S S1 3 3) : TVB S S1 z e a t := by sorry
theorem tvb_2 {S P S1 : sS} {z e a t : Int} {X : Prop} (h : vbC S e) (hw : nwC P 3 4 ↔ nwC S 3 4) (p : ∀ r, pc7 P r = pc7 S r) (n3 : ¬ nwC P 3 4 → z = 0 ∧ FTO P S1 3 3) (n9 : nwC P 3 4 → 8 ≤ Xi S 5 7 + Xi P 891 9 → z = 0 ∧ FTO P S1 9 3) (ok : nwC P 3 4 → Xi S 5 7 + Xi P 891 9 < 8 → z = 1 ∧ X) (hz : z = 0) (hn : Xi P 891 9 = 0) : TVB S S1 0 e a t := by sorry
theorem tvb_4 {S S1 : sS} {z e a t : Int} (h : vbC S e) (hw : nwC S 3 4 ∧ Xi S 5 7 < 8) (hk : fnd S 6 a t = -1) (hz : z = 0) (f : FTO S S1 4 a) : TVB S S1 z e a t := by sorry
theorem tvb_5 {S S1 : sS} {e a t : Int} (h : vbC S e) (hw : nwC S 3 4 ∧ Xi S 5 7 < 8) (hk : fnd S 6 a t ≠ -1) (r : Xi S1 876 8 = 0 ∧ TNV S S1 (Xi S 5 7) (Xj S 879 3 * 27 + 19) ∧ Xi S1 5 7 = Xi S 5 7 + 1 ∧ (∀ j, j ≠ 7 → Xi S1 5 j = Xi S 5 j) ∧ Xi S1 18 (Xi S 5 7).toNat = fnd S 6 a t ∧ ∀ j : Nat, j ≠ (Xi S 5 7).toNat → Xi S1 18 j = Xi S 18 j) : TVB S S1 1 e a t := by sorry
theorem tvb_n {S P A B S1 : sS} {w k x c : Int} {l2 l3 : List rec} (V : SMV S P) (f0 : Xi P 876 8 = 0) (F2 : FR l2 P A) (F3 : FR l3 A B) (E1 : ∃ i : Nat, NMI P A i 7 c (wRw P 879 3 4 0) (wRw P 879 3 4 1) (wRw P 879 3 4 2)) (x0 : Xj P 894 0 = w) (E2 : ∃ i : Nat, NMI A B i 13 c (wRw A 894 0 1 0) (wRw A 894 0 1 1) (wRw A 894 0 1 2)) (C : Xi A 5 7 = c + 1) (O : ∀ j, j ≠ 7 → Xi A 5 j = Xi P 5 j) (c0 : ∀ j, Xi P 5 j = Xi S 5 j) (k0 : ∀ j, Xi P 18 j = Xi S 18 j) (w1 : S1 = uI B 18 c.toNat (Int32.ofInt x)) (hc : c = Xi S 5 7) (hx : x = k) (hr : rg x) (a1 : mdf l2 876 8 = false := by rfl) (a1' : mdf l3 876 8 = false := by rfl) (a2 : kdis l2 [(18, 19), (894, 895)] = true := by rfl) (a3 : kdis l3 [(5, 6), (18, 19)] = true := by rfl) : Xi S1 876 8 = 0 ∧ TNV S S1 (Xi S 5 7) w ∧ Xi S1 5 7 = Xi S 5 7 + 1 ∧ (∀ j, j ≠ 7 → Xi S1 5 j = Xi S 5 j) ∧ Xi S1 18 (Xi S 5 7).toNat = k ∧ ∀ j : Nat, j ≠ (Xi S 5 7).toNat → Xi S1 18 j = Xi S 18 j := by sorry
theorem CEN_j {S S1 : sS} {k j : Nat} {v : Int64} (e : S1 = uJ S k j v) (h : CEN S) : CEN S1 := by sorry
def md_re_tellHas__p : List rec := [(1, 2, 3, 4), (2, 3, 0, 100000), (3, 4, 0, 100000), (4, 5, 0, 100000), (5, 6, 0, 100000), (7, 8, 0, 100000), (9, 10, 0, 100000), (876, 877, 8, 9), (876, 877, 9, 10), (891, 892, 9, 10), (892, 893, 0, 100000), (893, 894, 0, 100000)]
abbrev Q_re_tellHas__p (S : sS) : pst := fun r S1 => RI S1 ∧ FR md_re_tellHas__p S S1 ∧ (∃ z : Int, r = some (iv z) ∧ (0 ≤ z ∧ z ≤ 1) ∧ (THAS S S1 z (bA (ty7 S) 0) (re7 (ty7 S) (bA (ty7 S) 0)) (Xi S 890 3 + 2) (re7 (ty7 S) (Xi S 890 3 + 2)) ((re7 (ty7 S) (Xi S 890 3 + 2)) + 1) (re7 (ty7 S) ((re7 (ty7 S) (Xi S 890 3 + 2)) + 1))))
set_option maxRecDepth 100000 in
theorem t_re_tellHas__p {S : sS} (hH : RI S) (h13 : 0 ≤ Xi S 1 3 ∧ Xi S 1 3 ≤ 200) (hCE : CEN S) (hNB : NRB S) (hf : Xi S 876 8 = 0) (hr : Xi S 876 7 ≤ 5130) (ht : 0 ≤ Xi S 890 3 ∧ Xi S 890 3 ≤ 5125) (hn0 : Xi S 891 9 = 0) (h2 : Xi S 1 3 < 199) (hor : (re7 (ty7 S) (Xi S 890 3 + 2)) < Xi S 876 7) (hc : 0 ≤ Xi S 5 5 ∧ Xi S 5 5 ≤ 12) (d : Nat) : Mp lay0 (d + 4) m_re_tellHas [.ref 891] S (Q_re_tellHas__p S) := by sorry
def md_re_tellVerb__p : List rec := [(1, 2, 3, 4), (2, 3, 0, 100000), (3, 4, 0, 100000), (4, 5, 0, 100000), (5, 6, 0, 100000), (18, 19, 0, 100000), (876, 877, 8, 9), (876, 877, 9, 10), (891, 892, 9, 10), (892, 893, 0, 100000), (893, 894, 0, 100000), (894, 895, 0, 100000)]
abbrev Q_re_tellVerb__p (S : sS) : pst := fun r S1 => RI S1 ∧ FR md_re_tellVerb__p S S1 ∧ (∃ z : Int, r = some (iv z) ∧ (0 ≤ z ∧ z ≤ 1) ∧ (TVB S S1 z (re7 (ty7 S) 3) ((re7 (ty7 S) 3) + 2) (re7 (ty7 S) ((re7 (ty7 S) 3) + 2))))
set_option maxRecDepth 100000 in
theorem t_re_tellVerb__p {S : sS} (hH : RI S) (h13 : 0 ≤ Xi S 1 3 ∧ Xi S 1 3 ≤ 200) (hCE : CEN S) (hNB : NRB S) (hf : Xi S 876 8 = 0) (hr : Xi S 876 7 ≤ 5130) (hn0 : Xi S 891 9 = 0) (h2 : Xi S 1 3 < 199) (hb : ((re7 (ty7 S) 3) + 2) ≤ Xi S 876 7) (hw : 0 ≤ Xj S 879 3 ∧ Xj S 879 3 < 150094635296999121) (hc : 0 ≤ Xi S 5 7 ∧ Xi S 5 7 ≤ 8) (d : Nat) : Mp lay0 (d + 4) m_re_tellVerb [.ref 891] S (Q_re_tellVerb__p S) := by sorry
end
end
section
section
/-- cells that the reference's meanings are read from -/
def SMR (S P : sS) : Prop := Xi P 904 15 = Xi S 904 15 ∧ (∀ k j : Nat, (k = 912 ∨ k = 914 ∨ k = 915 ∨ k = 916 ∨ k = 908 ∨ k = 950 ∨ k = 951) → Xi P k j = Xi S k j) ∧ (∀ j, Xj P 910 j = Xj S 910 j) ∧ ∀ j, Xj P 913 j = Xj S 913 j
theorem SMR_FR {l : List rec} {S T : sS} (h : FR l S T) (e1 : kdis l [(908, 909), (910, 911), (912, 917), (950, 952)] = true) (e2 : mdf l 904 15 = false) : SMR S T := by sorry
theorem SMR.tr {S U V : sS} (h : SMR S U) (k : SMR U V) : SMR S V := by sorry
theorem SMR.rf {S : sS} : SMR S S := by sorry
theorem SMR_w {S P S1 : sS} {k j : Nat} {v : Int32} (h : SMR S P) (e : S1 = uI P k j v) (h1 : ¬ (k = 904 ∧ j = 15)) (h2 : k ≠ 912 ∧ k ≠ 914 ∧ k ≠ 915 ∧ k ≠ 916 ∧ k ≠ 908 ∧ k ≠ 950 ∧ k ≠ 951) : SMR S S1 := by sorry
theorem fdR_sm {S P : sS} {a b c n : Int} {m : Nat} (h : SMR S P) : fdR P a b c n m = fdR S a b c n m := by sorry
theorem nmR_sm {S P : sS} {t n : Int} (h : SMR S P) : nmR P t n = nmR S t n := by sorry
theorem msR_sm {S P : sS} {t n s : Int} (h : SMR S P) : msR P t n s = msR S t n s := by sorry
theorem rnR_sm {S P : sS} {r s : Int} (h : SMR S P) : rnR P r s = rnR S r s := by sorry
theorem rmR_sm {S P : sS} {r : Int} (h : SMR S P) : rmR P r = rmR S r := by sorry
theorem r2R_sm {S P : sS} {r s u : Int} (h : SMR S P) : r2R P r s u = r2R S r s u := by sorry
theorem pR_sm {S P : sS} {r : Int} (h : SMR S P) : pR P r = pR S r := by sorry
theorem nwR0_sm {S P : sS} {r : Int} (h : SMR S P) : nwR0 P r ↔ nwR0 S r := by sorry
theorem alR_sm {S P : sS} {r q : Int} (h : SMR S P) : alR P r q ↔ alR S r q := by sorry
/-- 7: the reference's word with an s; a good verb -/
def wsR (S : sS) : Int := lorF (lshlF (Xj S 910 (Xi S 950 0).toNat) 5) 19
def vbR (S : sS) : Prop := Xi S 951 0 = 1 ∧ nwR0 S 0 ∧ (lshrF (Xj S 910 (Xi S 950 0).toNat) 55 ≠ 0 ∨ fdR S (wsR S) 0 0 1 (Xi S 904 15).toNat = -1)
theorem vbR_sm {S P : sS} (h : SMR S P) : vbR P ↔ vbR S := by sorry
theorem vbr_a {S : sS} {v : Int} (h : Xi S 951 0 ≠ 1) (hv : v = 0) : (v = 1 → vbR S) ∧ (v = 0 → ¬ vbR S) := by sorry
theorem vbr_b {S : sS} {v : Int} (h : ¬ nwR0 S 0) (hv : v = 0) : (v = 1 → vbR S) ∧ (v = 0 → ¬ vbR S) := by sorry
theorem vbr_c {S : sS} {v : Int} (h : Xi S 951 0 = 1) (n : nwR0 S 0) (l : lshrF (Xj S 910 (Xi S 950 0).toNat) 55 ≠ 0) (hv : v = 1) : (v = 1 → vbR S) ∧ (v = 0 → ¬ vbR S) := by sorry
theorem vbr_d {S : sS} {v z : Int} (h : Xi S 951 0 = 1) (n : nwR0 S 0) (l : lshrF (Xj S 910 (Xi S 950 0).toNat) 55 = 0) (hz : z = fdR S (wsR S) 0 0 1 (Xi S 904 15).toNat) (hv : (v = 1 ∧ z = -1) ∨ (v = 0 ∧ z ≠ -1)) : (v = 1 → vbR S) ∧ (v = 0 → ¬ vbR S) := by sorry
/-- 7: what the reference notes -/
def RVB (S : sS) (x : Int × Int × Int) : Prop :=
  (¬ vbR S → NTB x 3 (pR S 0)) ∧
  (vbR S → 8 ≤ Xi S 904 47 → NTB x 9 (pR S 0)) ∧
  (vbR S → Xi S 904 47 < 8 → rnR S 1 8 = -1 → NTB x 4 (pR S 1)) ∧
  (vbR S → Xi S 904 47 < 8 → rnR S 1 8 ≠ -1 → x.1 = 0)
theorem RVB_sm {S P : sS} {x : Int × Int × Int} (h : SMR S P) (e : Xi P 904 47 = Xi S 904 47) (r : RVB P x) : RVB S x := by sorry
theorem rvb_of {S : sS} {x0 x1 x2 x3 : Int × Int × Int} (h0 : x0.1 = 0) (y1 : vbR S → x1 = x0) (n1 : ¬ vbR S → x1 = ntF x0 3 (pR S 0)) (y2 : vbR S → 8 ≤ Xi S 904 47 → x2 = ntF x1 9 (pR S 0)) (n2 : ¬ (vbR S ∧ 8 ≤ Xi S 904 47) → x2 = x1) (h3 : x3 = if rnR S 1 8 = -1 then ntF x2 4 (pR S 1) else x2) (p1 : pR S 0 < pR S 1) : RVB S x3 := by sorry
/-- a word told with its mark -/
def TLX (S S1 : sS) (so ix a b c n g : Int) : Prop := ∃ W : sS, TLR S W so ix a b c n ∧ (∀ k j : Nat, (k = 912 ∨ k = 914 ∨ k = 915) → Xi S1 k j = Xi W k j) ∧ (∀ j, Xj S1 913 j = Xj W 913 j) ∧ Xi S1 904 15 = Xi W 904 15 ∧ Xi S1 916 (Xi S 904 15).toNat = g ∧ ∀ j : Nat, j ≠ (Xi S 904 15).toNat → Xi S1 916 j = Xi W 916 j
/-- 7: what the reference does -/
def RD7 (S S1 : sS) : Prop := Xi S1 904 47 = Xi S 904 47 + 1 ∧ (∃ V : sS, TLR S V 9 (Xi S 904 47) (Xj S 910 (Xi S 950 0).toNat) 0 0 1 ∧ TLX V S1 10 (Xi S 904 47) (wsR S) 0 0 1 (if lshrF (Xj S 910 (Xi S 950 0).toNat) 55 = 0 then 0 else 1)) ∧ Xi S1 941 (Xi S 904 47).toNat = rnR S 1 8 ∧ ∀ j : Nat, j ≠ (Xi S 904 47).toNat → Xi S1 941 j = Xi S 941 j
theorem rd7_of {S U A B U2 S1 : sS} {r g w w2 w3 : Int} {l1 l2 : List rec} (e1 : U = uI S 941 (Xi S 904 47).toNat (Int32.ofInt r)) (t1 : TLR U A 9 (Xi S 904 47) w 0 0 1) (F1 : FR l1 U A) (t2 : TLR A B 10 (Xi S 904 47) w2 0 0 1) (F2 : FR l2 A B) (e2 : U2 = uI B 916 (Xi B 904 15 - 1).toNat (Int32.ofInt g)) (e3 : S1 = uI U2 904 47 (Int32.ofInt (Xi S 904 47 + 1))) (h15 : 0 ≤ Xi S 904 15) (hw : w = Xj S 910 (Xi S 950 0).toNat) (hw2 : w2 = wsR S) (hr : r = rnR S 1 8) (hrr : rg r) (hc : 0 ≤ Xi S 904 47 ∧ Xi S 904 47 ≤ 8) (hg : (g = 0 ∧ lshrF w3 55 = 0) ∨ (g = 1 ∧ lshrF w3 55 ≠ 0)) (hw3 : w3 = Xj S 910 (Xi S 950 0).toNat) (a1 : kdis l1 [(941, 942)] = true := by rfl) (a2 : kdis l2 [(941, 942)] = true := by rfl) : RD7 S S1 := by sorry
theorem rnR_ix {S : sS} {r s : Int} (hx : LXR S) (h15 : 0 ≤ Xi S 904 15) : -1 ≤ rnR S r s ∧ rnR S r s ≤ 63 := by sorry
/-- 17: what the reference does: a new property, a fault, an old one -/
def KHR (S S1 : sS) (k p : Int) : Prop := Xi S1 929 (12 * k + p).toNat = 1 ∧ ∀ j : Nat, j ≠ (12 * k + p).toNat → Xi S1 929 j = Xi S 929 j
theorem khr_of {S P S1 : sS} {k p : Int} (e : S1 = uI P 929 (12 * k + p).toNat (Int32.ofInt 1)) (x : ∀ j, Xi P 929 j = Xi S 929 j) : KHR S S1 k p := by sorry
def RD17 (S S1 : sS) : Prop :=
  (rnR S 2 7 = -1 → Xi S1 904 106 = 0 ∧ Xi S1 904 32 = Xi S 904 32 + 1 ∧ TLW S S1 S 7 (Xi S 904 32) 2 ∧ (Xi S1 928 (Xi S 904 32).toNat = r2R S 1 2 3 ∧ ∀ j : Nat, j ≠ (Xi S 904 32).toNat → Xi S1 928 j = Xi S 928 j) ∧ KHR S S1 (rnR S 0 0) (Xi S 904 32)) ∧
  (rnR S 2 7 ≠ -1 → Xi S 928 (rnR S 2 7).toNat ≠ r2R S 1 2 3 → NTB (NT3 S1) 5 (pR S 0)) ∧
  (rnR S 2 7 ≠ -1 → Xi S 928 (rnR S 2 7).toNat = r2R S 1 2 3 → Xi S1 904 106 = 0 ∧ SMR S S1 ∧ Xi S1 904 32 = Xi S 904 32 ∧ (∀ j, Xi S1 928 j = Xi S 928 j) ∧ KHR S S1 (rnR S 0 0) (rnR S 2 7))
theorem RD17_sm {S P S1 : sS} (h : SMR S P) (e : Xi P 904 32 = Xi S 904 32) (a : ∀ j, Xi P 928 j = Xi S 928 j) (b : ∀ j, Xi P 929 j = Xi S 929 j) (r : RD17 P S1) : RD17 S S1 := by sorry
theorem rd17_w {S S1 : sS} (h : rnR S 2 7 ≠ -1) (h2 : Xi S 928 (rnR S 2 7).toNat ≠ r2R S 1 2 3) (w : NTB (NT3 S1) 5 (pR S 0)) : RD17 S S1 := by sorry
theorem rd17_o {S S1 : sS} {k p : Int} (h : rnR S 2 7 ≠ -1) (h2 : Xi S 928 (rnR S 2 7).toNat = r2R S 1 2 3) (z : Xi S 904 106 = 0) (e : S1 = uI S 929 (12 * k + p).toNat (Int32.ofInt 1)) (hk : k = rnR S 0 0) (hp : p = rnR S 2 7) : RD17 S S1 := by sorry
theorem rd17_n {S U T V S1 : sS} {k y : Int} {l1 : List rec} (h : rnR S 2 7 = -1) (e1 : U = uI S 928 (Xi S 904 32).toNat (Int32.ofInt y)) (t : TLW U T U 7 (Xi S 904 32) 2) (F : FR l1 U T) (e2 : V = uI T 904 32 (Int32.ofInt (Xi S 904 32 + 1))) (e3 : S1 = uI V 929 (12 * k + Xi S 904 32).toNat (Int32.ofInt 1)) (hk : k = rnR S 0 0) (hy : y = r2R S 1 2 3) (hc : 0 ≤ Xi S 904 32 ∧ Xi S 904 32 ≤ 12) (z : Xi T 904 106 = 0) (hr : rg y) (a1 : kdis l1 [(928, 930)] = true := by rfl) : RD17 S S1 := by sorry
def md_mo_askVerb__p : List rec := [(904, 905, 104, 105), (904, 905, 105, 106), (904, 905, 106, 107)]
abbrev Q_mo_askVerb__p (S : sS) : pst := fun r S1 => RI S1 ∧ FR md_mo_askVerb__p S S1 ∧ (r = none ∧ (RVB S (NT3 S1)))
set_option maxRecDepth 100000 in
theorem t_mo_askVerb__p {S : sS} (hH : RI S) (hLS : LSP S) (h15 : 0 ≤ Xi S 904 15) (hRB : RBD S) (hz0 : Xi S 904 106 = 0 ∧ Xi S 904 108 = 0) (hp : pR S 0 < pR S 1) (ha : 0 ≤ Xi S 904 47 ∧ Xi S 904 47 ≤ 8) (d : Nat) : Mp lay0 (d + 5) m_mo_askVerb [.ref 904] S (Q_mo_askVerb__p S) := by sorry
def md_mo_asked__7 : List rec := [(904, 905, 64, 65), (904, 905, 104, 105), (904, 905, 105, 106), (904, 905, 106, 107), (904, 905, 108, 109), (904, 905, 109, 110), (904, 905, 110, 111), (904, 905, 112, 113), (904, 905, 113, 114), (904, 905, 115, 116), (904, 905, 116, 117), (904, 905, 117, 118), (904, 905, 125, 126), (904, 905, 128, 129), (904, 905, 129, 130), (904, 905, 130, 131), (904, 905, 142, 143), (904, 905, 144, 145), (904, 905, 146, 147), (904, 905, 147, 148), (904, 905, 150, 151), (904, 905, 151, 152), (904, 905, 153, 154), (904, 905, 154, 155), (904, 905, 156, 157), (904, 905, 157, 158), (904, 905, 158, 159), (904, 905, 160, 161), (966, 967, 0, 100000), (967, 968, 0, 100000), (968, 969, 0, 100000), (969, 970, 0, 100000), (970, 971, 0, 100000), (971, 972, 0, 100000), (972, 973, 0, 100000), (973, 974, 0, 100000), (974, 975, 0, 100000), (975, 976, 0, 100000), (976, 977, 0, 100000), (977, 978, 0, 100000), (978, 979, 0, 100000), (979, 980, 0, 100000), (980, 981, 0, 100000), (981, 982, 0, 100000), (982, 983, 0, 100000), (983, 984, 0, 100000), (984, 985, 0, 100000), (985, 986, 0, 100000), (986, 987, 0, 100000), (987, 988, 0, 100000), (988, 989, 0, 100000), (989, 990, 0, 100000), (990, 991, 0, 100000), (991, 992, 0, 100000), (992, 993, 0, 100000), (993, 994, 0, 100000), (994, 995, 0, 100000)]
abbrev Q_mo_asked__7 (S : sS) (first : Int) : pst := fun r S1 => RI S1 ∧ FR md_mo_asked__7 S S1 ∧ (r = none ∧ (RVB S (NT3 S1)))
set_option maxRecDepth 100000 in
theorem t_mo_asked__7 {S : sS} (hH : RI S) (first : Int) (hfirst : 0 ≤ first ∧ first ≤ 5001) (hLS : LSP S) (h15 : 0 ≤ Xi S 904 15) (hRB : RBD S) (hs : Xi S 904 70 = 7) (hp : pR S 0 < pR S 1) (ha : 0 ≤ Xi S 904 47 ∧ Xi S 904 47 ≤ 8) (d : Nat) : Mp lay0 (d + 13) m_mo_asked [.ref 904, iv first] S (Q_mo_asked__7 S first) := by sorry
def md_mo_does__7 : List rec := [(904, 905, 15, 16), (904, 905, 16, 17), (904, 905, 18, 19), (904, 905, 19, 20), (904, 905, 23, 24), (904, 905, 30, 31), (904, 905, 32, 33), (904, 905, 41, 42), (904, 905, 47, 48), (904, 905, 49, 50), (904, 905, 51, 52), (904, 905, 55, 56), (904, 905, 60, 61), (904, 905, 64, 65), (904, 905, 73, 74), (904, 905, 105, 106), (904, 905, 106, 107), (904, 905, 113, 114), (904, 905, 117, 118), (912, 913, 0, 100000), (913, 914, 0, 100000), (914, 915, 0, 100000), (915, 916, 0, 100000), (916, 917, 0, 100000), (917, 918, 0, 100000), (918, 919, 0, 100000), (919, 920, 0, 100000), (920, 921, 0, 100000), (921, 922, 0, 100000), (922, 923, 0, 100000), (923, 924, 0, 100000), (924, 925, 0, 100000), (925, 926, 0, 100000), (926, 927, 0, 100000), (927, 928, 0, 100000), (928, 929, 0, 100000), (929, 930, 0, 100000), (930, 931, 0, 100000), (931, 932, 0, 100000), (932, 933, 0, 100000), (933, 934, 0, 100000), (934, 935, 0, 100000), (935, 936, 0, 100000), (936, 937, 0, 100000), (937, 938, 0, 100000), (938, 939, 0, 100000), (939, 940, 0, 100000), (940, 941, 0, 100000), (941, 942, 0, 100000), (942, 943, 0, 100000), (943, 944, 0, 100000), (944, 945, 0, 100000), (945, 946, 0, 100000), (946, 947, 0, 100000), (947, 948, 0, 100000), (948, 949, 0, 100000), (949, 950, 0, 100000)]
abbrev Q_mo_does__7 (S : sS) (first : Int) : pst := fun r S1 => RI S1 ∧ FR md_mo_does__7 S S1 ∧ (r = none ∧ (RD7 S S1))
set_option maxRecDepth 100000 in
theorem t_mo_does__7 {S : sS} (hH : RI S) (first : Int) (hfirst : 0 ≤ first ∧ first ≤ 5001) (hLS : LSP S) (h15 : 0 ≤ Xi S 904 15) (hRB : RBD S) (hs : Xi S 904 70 = 7) (ha : 0 ≤ Xi S 904 47 ∧ Xi S 904 47 ≤ 8) (d : Nat) : Mp lay0 (d + 8) m_mo_does [.ref 904, iv first] S (Q_mo_does__7 S first) := by sorry
def md_mo_wrong__p : List rec := [(904, 905, 105, 106), (904, 905, 106, 107)]
abbrev Q_mo_wrong__p (S : sS) (f : Int) (t : Int) : pst := fun r S1 => RI S1 ∧ FR md_mo_wrong__p S S1 ∧ (r = none ∧ (Xi S 904 106 = 0 → NTB (NT3 S1) f (Xi S 908 t.toNat)) ∧ (Xi S 904 106 ≠ 0 → NT3 S1 = NT3 S))
set_option maxRecDepth 100000 in
theorem t_mo_wrong__p {S : sS} (hH : RI S) (f : Int) (t : Int) (hf : -2147483648 ≤ f ∧ f ≤ 2147483647) (ht : -2147483648 ≤ t ∧ t ≤ 2147483647) (d : Nat) : Mp lay0 (d + 1) m_mo_wrong [.ref 904, iv f, iv t] S (Q_mo_wrong__p S f t) := by sorry
def md_mo_doHas__p : List rec := [(904, 905, 15, 16), (904, 905, 32, 33), (904, 905, 105, 106), (904, 905, 106, 107), (912, 913, 0, 100000), (913, 914, 0, 100000), (914, 915, 0, 100000), (915, 916, 0, 100000), (916, 917, 0, 100000), (928, 929, 0, 100000), (929, 930, 0, 100000)]
abbrev Q_mo_doHas__p (S : sS) : pst := fun r S1 => RI S1 ∧ FR md_mo_doHas__p S S1 ∧ (r = none ∧ (RD17 S S1))
set_option maxRecDepth 100000 in
theorem t_mo_doHas__p {S : sS} (hH : RI S) (hLS : LSP S) (h15 : 0 ≤ Xi S 904 15) (hRB : RBD S) (hLX : LXR S) (hz0 : Xi S 904 106 = 0) (hk : rnR S 0 0 ≠ -1) (ha : 0 ≤ Xi S 904 32 ∧ Xi S 904 32 ≤ 12) (d : Nat) : Mp lay0 (d + 6) m_mo_doHas [.ref 904] S (Q_mo_doHas__p S) := by sorry
def md_mo_does__17 : List rec := [(904, 905, 15, 16), (904, 905, 16, 17), (904, 905, 18, 19), (904, 905, 19, 20), (904, 905, 23, 24), (904, 905, 30, 31), (904, 905, 32, 33), (904, 905, 41, 42), (904, 905, 47, 48), (904, 905, 49, 50), (904, 905, 51, 52), (904, 905, 55, 56), (904, 905, 60, 61), (904, 905, 64, 65), (904, 905, 73, 74), (904, 905, 105, 106), (904, 905, 106, 107), (904, 905, 113, 114), (904, 905, 117, 118), (912, 913, 0, 100000), (913, 914, 0, 100000), (914, 915, 0, 100000), (915, 916, 0, 100000), (916, 917, 0, 100000), (917, 918, 0, 100000), (918, 919, 0, 100000), (919, 920, 0, 100000), (920, 921, 0, 100000), (921, 922, 0, 100000), (922, 923, 0, 100000), (923, 924, 0, 100000), (924, 925, 0, 100000), (925, 926, 0, 100000), (926, 927, 0, 100000), (927, 928, 0, 100000), (928, 929, 0, 100000), (929, 930, 0, 100000), (930, 931, 0, 100000), (931, 932, 0, 100000), (932, 933, 0, 100000), (933, 934, 0, 100000), (934, 935, 0, 100000), (935, 936, 0, 100000), (936, 937, 0, 100000), (937, 938, 0, 100000), (938, 939, 0, 100000), (939, 940, 0, 100000), (940, 941, 0, 100000), (941, 942, 0, 100000), (942, 943, 0, 100000), (943, 944, 0, 100000), (944, 945, 0, 100000), (945, 946, 0, 100000), (946, 947, 0, 100000), (947, 948, 0, 100000), (948, 949, 0, 100000), (949, 950, 0, 100000)]
abbrev Q_mo_does__17 (S : sS) (first : Int) : pst := fun r S1 => RI S1 ∧ FR md_mo_does__17 S S1 ∧ (r = none ∧ (RD17 S S1))
set_option maxRecDepth 100000 in
theorem t_mo_does__17 {S : sS} (hH : RI S) (first : Int) (hfirst : 0 ≤ first ∧ first ≤ 5001) (hLS : LSP S) (h15 : 0 ≤ Xi S 904 15) (hRB : RBD S) (hLX : LXR S) (hs : Xi S 904 70 = 17) (hz0 : Xi S 904 106 = 0) (hk : rnR S 0 0 ≠ -1) (ha : 0 ≤ Xi S 904 32 ∧ Xi S 904 32 ≤ 12) (d : Nat) : Mp lay0 (d + 8) m_mo_does [.ref 904, iv first] S (Q_mo_does__17 S first) := by sorry
end
section
/-! LISTS: the rows where a RUN begins, counted -/
abbrev bg7 (T : Int → Int) (r : Int) : Prop := T r = 100 ∧ (r = 0 ∨ T (r - 1) ≠ 100)
def cR (T : Int → Int) : Nat → Nat
  | 0 => 0
  | r + 1 => cR T r + (if bg7 T (r : Int) then 1 else 0)
/-- no FREE word from b on -/
def NF7 (T : Int → Int) (b : Int) : Prop := ∀ i : Int, b ≤ i → T i ≠ 100
theorem reF_x {T : Int → Int} {b : Int} (h : NF7 T b) : ∀ (n m : Nat) (a : Int), b ≤ a + n → b ≤ a + m → reF T n a = reF T m a := by sorry
theorem re7_s {T : Int → Int} {b a : Int} (h : NF7 T b) (hb : b ≤ 5130) (ha : 0 ≤ a) (t : T a = 100) : re7 T a = re7 T (a + 1) := by sorry
theorem cR_c {T : Int → Int} {b : Int} (h : NF7 T b) (hb : b ≤ 5130) : ∀ r : Nat, r ≤ 5140 → ((r = 0 ∨ T ((r : Int) - 1) ≠ 100) → kr7 T (cR T r) = nf7 T r) ∧ (0 < r → T ((r : Int) - 1) = 100 → ∃ k, cR T r = k + 1 ∧ kr7 T k < r ∧ re7 T (kr7 T k) = re7 T r) := by sorry
/-- the row where a RUN begins is that of its number -/
theorem cR_b {T : Int → Int} {b r : Int} (h : NF7 T b) (hb : b ≤ 5130) (h0 : 0 ≤ r) (hr : r ≤ 5140) (g : bg7 T r) : kr7 T (cR T r.toNat) = r := by sorry
theorem cR_y {T : Int → Int} {r : Int} (h0 : 0 ≤ r) (g : bg7 T r) : cR T (r + 1).toNat = cR T r.toNat + 1 := by sorry
theorem cR_n {T : Int → Int} {r : Int} (h0 : 0 ≤ r) (g : ¬ bg7 T r) : cR T (r + 1).toNat = cR T r.toNat := by sorry
theorem cR_m {T : Int → Int} {a b : Nat} (h : a ≤ b) : cR T a ≤ cR T b := by sorry
theorem ty_nf {S : sS} {b : Int} (h : Xi S 876 7 ≤ b) : NF7 (ty7 S) b := by sorry
/-! the class takes a LIST of new names -/
def NWL (S : sS) (i : Nat) : Prop := mnV S (kr7 (ty7 S) i) (re7 (ty7 S) (kr7 (ty7 S) i)) = -1 ∧ re7 (ty7 S) (kr7 (ty7 S) i) - kr7 (ty7 S) i ≤ 3 ∧ ∀ j : Nat, j < i → ¬ alC S (kr7 (ty7 S) j) (re7 (ty7 S) (kr7 (ty7 S) j)) (kr7 (ty7 S) i) (re7 (ty7 S) (kr7 (ty7 S) i))
def LOK (S : sS) (c M : Int) (n : Nat) : Prop := ∀ i : Nat, i < n → NWL S i ∧ c + i < M
def LNW (S U : sS) (n : Nat) : Prop := Xi U 891 9 = n ∧ ∀ i : Nat, i < n → Xi U 892 i = kr7 (ty7 S) i ∧ Xi U 893 i = re7 (ty7 S) (kr7 (ty7 S) i)
def TLS (S S1 : sS) (z c M : Int) (n : Nat) : Prop := ∀ k : Nat, k < n → LOK S c M k → (¬ NWL S k → z = 0 ∧ FTO S S1 3 (kr7 (ty7 S) k)) ∧ (NWL S k → M ≤ c + k → z = 0 ∧ FTO S S1 9 (kr7 (ty7 S) k))
theorem nwl_of {S U : sS} {n : Nat} {a b : Int} (h : SMV S U) (l : LNW S U n) (ha : a = kr7 (ty7 S) n) (hb : b = re7 (ty7 S) (kr7 (ty7 S) n)) : nwC U a b ↔ NWL S n := by sorry
theorem lnw_s {S U V : sS} {n : Nat} {a b : Int} (l : LNW S U n) (ha : a = kr7 (ty7 S) n) (hb : b = re7 (ty7 S) (kr7 (ty7 S) n)) (r : Xi V 891 9 = Xi U 891 9 + 1 ∧ Xi V 892 (Xi U 891 9).toNat = a ∧ Xi V 893 (Xi U 891 9).toNat = b ∧ ∀ j : Nat, (j : Int) < Xi U 891 9 → Xi V 892 j = Xi U 892 j ∧ Xi V 893 j = Xi U 893 j) : LNW S V (n + 1) := by sorry
theorem lok_s {S : sS} {c M : Int} {n : Nat} (l : LOK S c M n) (h : NWL S n) (hc : c + n < M) : LOK S c M (n + 1) := by sorry
theorem lok_b {S : sS} {c M : Int} {n : Nat} (l : LOK S c M n) (h : 0 ≤ c) (hM : 0 ≤ M) : (n : Int) ≤ M := by sorry
/-- a fault in a LIST -/
theorem tls_f {S P S1 : sS} {z c M : Int} {n N : Nat} {X : Prop} {a b : Int} (l : LOK S c M n) (hw : nwC P a b ↔ NWL S n) (p : ∀ r, pc7 P r = pc7 S r) (ha : a = kr7 (ty7 S) n) (h9 : Xi P 891 9 = n) (n3 : ¬ nwC P a b → z = 0 ∧ FTO P S1 3 a) (n9 : nwC P a b → M ≤ c + Xi P 891 9 → z = 0 ∧ FTO P S1 9 a) (ok : nwC P a b → c + Xi P 891 9 < M → z = 1 ∧ X) (hz : z = 0) : TLS S S1 0 c M N := by sorry
theorem tls_y {S S1 : sS} {z c M : Int} {N : Nat} (l : LOK S c M N) : TLS S S1 z c M N := by sorry
/-- names of a LIST told one after the other -/
def TNL (S : sS) (so c : Int) : Nat → sS → Prop
  | 0, V => SMV S V
  | n + 1, V => ∃ (W : sS) (i : Nat), TNL S so c n W ∧ NMI W V i so (c + n) (wRw S 879 (kr7 (ty7 S) n) (re7 (ty7 S) (kr7 (ty7 S) n)) 0) (wRw S 879 (kr7 (ty7 S) n) (re7 (ty7 S) (kr7 (ty7 S) n)) 1) (wRw S 879 (kr7 (ty7 S) n) (re7 (ty7 S) (kr7 (ty7 S) n)) 2)
theorem tnl_p {S V V' : sS} {so c : Int} : ∀ {n : Nat}, TNL S so c n V → (∀ j, Xi V' 3 j = Xi V 3 j) → (∀ j, Xi V' 4 j = Xi V 4 j) → (∀ j, Xj V' 2 j = Xj V 2 j) → Xi V' 1 3 = Xi V 1 3 → (∀ j, Xj V' 879 j = Xj V 879 j) → TNL S so c n V' := by sorry
theorem tnl_s {S V V' : sS} {so c w a b : Int} {n : Nat} (h : TNL S so c n V) (e : ∃ i : Nat, NMI V V' i so w (wRw V 879 a b 0) (wRw V 879 a b 1) (wRw V 879 a b 2)) (k : ∀ j, Xj V 879 j = Xj S 879 j) (ha : a = kr7 (ty7 S) n) (hb : b = re7 (ty7 S) (kr7 (ty7 S) n)) (hw : w = c + n) : TNL S so c (n + 1) V' := by sorry
/-- while a LIST is taken only news are written -/
def LSU (S U : sS) (n : Nat) : Prop := LNW S U n ∧ NRB U ∧ Xi U 876 8 = 0 ∧ (∀ k j : Nat, k < 876 → Xi U k j = Xi S k j) ∧ (∀ k j : Nat, (k < 876 ∨ (877 ≤ k ∧ k < 890)) → Xj U k j = Xj S k j) ∧ (Xi U 876 7 = Xi S 876 7 ∧ Xi U 876 5 = Xi S 876 5 ∧ Xi U 890 3 = Xi S 890 3) ∧ ∀ k j : Nat, 877 ≤ k → k < 890 → Xi U k j = Xi S k j
theorem lsu_0 {S : sS} (h9 : Xi S 891 9 = 0) (hb : NRB S) (hf : Xi S 876 8 = 0) : LSU S S 0 := by sorry
theorem LSU.v {S U : sS} {n : Nat} (h : LSU S U n) : SMV S U := by sorry
theorem LSU.t {S U : sS} {n : Nat} (h : LSU S U n) : ty7 U = ty7 S := by sorry
theorem LSU.p {S U : sS} {n : Nat} (h : LSU S U n) (r : Int) : pc7 U r = pc7 S r := by sorry
theorem LSU.c {S U : sS} {n : Nat} (h : LSU S U n) (c : CEN S) : CEN U := by sorry
theorem ink_a {k : Nat} (h : k < 876) : inK [(0, 876), (877, 891), (894, 904)] k = true := by sorry
theorem ink_b {k : Nat} (h1 : 877 ≤ k) (h : k < 891) : inK [(0, 876), (877, 891), (894, 904)] k = true := by sorry
theorem lsu_s {S U V : sS} {n : Nat} {a b : Int} {l : List rec} (g : LSU S U n) (F : FR l U V) (ha : a = kr7 (ty7 S) n) (hb : b = re7 (ty7 S) (kr7 (ty7 S) n)) (nb : NRB V) (r : Xi V 876 8 = 0 ∧ Xi V 891 9 = Xi U 891 9 + 1 ∧ Xi V 892 (Xi U 891 9).toNat = a ∧ Xi V 893 (Xi U 891 9).toNat = b ∧ ∀ j : Nat, (j : Int) < Xi U 891 9 → Xi V 892 j = Xi U 892 j ∧ Xi V 893 j = Xi U 893 j) (a1 : kdis l [(0, 876), (877, 891), (894, 904)] = true) (a2 : mdf l 876 7 = false) (a3 : mdf l 876 5 = false) : LSU S V (n + 1) := by sorry
/-- one row further in a LIST -/
theorem lsu_n {S U : sS} {c M v : Int} (g : LSU S U (cR (ty7 S) v.toNat)) (l : LOK S c M (cR (ty7 S) v.toNat)) (hb : ¬ bg7 (ty7 U) v) (hv : 0 ≤ v) : LSU S U (cR (ty7 S) (v + 1).toNat) ∧ LOK S c M (cR (ty7 S) (v + 1).toNat) := by sorry
theorem lsu_t {S U V : sS} {c M v b z : Int} {l1 : List rec} (g : LSU S U (cR (ty7 S) v.toNat)) (l : LOK S c M (cR (ty7 S) v.toNat)) (hb : bg7 (ty7 U) v) (e : re7 (ty7 S) v = b) (hv : 0 ≤ v ∧ v ≤ 5130) (hr : Xi S 876 7 ≤ 5130) (F : FR l1 U V) (n3 : ¬ nwC U v b → z = 0 ∧ FTO U V 3 v) (n9 : nwC U v b → M ≤ c + Xi U 891 9 → z = 0 ∧ FTO U V 9 v) (ok : nwC U v b → c + Xi U 891 9 < M → z = 1 ∧ Xi V 876 8 = 0 ∧ Xi V 891 9 = Xi U 891 9 + 1 ∧ Xi V 892 (Xi U 891 9).toNat = v ∧ Xi V 893 (Xi U 891 9).toNat = b ∧ ∀ j : Nat, (j : Int) < Xi U 891 9 → Xi V 892 j = Xi U 892 j ∧ Xi V 893 j = Xi U 893 j) (nb : z = 1 → NRB V) (hz : z ≠ 0) (a1 : kdis l1 [(0, 876), (877, 891), (894, 904)] = true := by rfl) (a2 : mdf l1 876 7 = false := by rfl) (a3 : mdf l1 876 5 = false := by rfl) : LSU S V (cR (ty7 S) (v + 1).toNat) ∧ LOK S c M (cR (ty7 S) (v + 1).toNat) := by sorry
theorem lsu_f {S U V : sS} {c M v b z : Int} {N : Nat} {X : Prop} (g : LSU S U (cR (ty7 S) v.toNat)) (l : LOK S c M (cR (ty7 S) v.toNat)) (hb : bg7 (ty7 U) v) (e : re7 (ty7 S) v = b) (hv : 0 ≤ v ∧ v ≤ 5130) (hr : Xi S 876 7 ≤ 5130) (n3 : ¬ nwC U v b → z = 0 ∧ FTO U V 3 v) (n9 : nwC U v b → M ≤ c + Xi U 891 9 → z = 0 ∧ FTO U V 9 v) (ok : nwC U v b → c + Xi U 891 9 < M → z = 1 ∧ X) (hz : z = 0) : TLS S V 0 c M N ∧ ((cR (ty7 S) v.toNat) < N → ¬ LOK S c M N) := by sorry
theorem cR_l {T : Int → Int} {v b : Int} (h0 : 0 ≤ v) (hv : v < b) (g : bg7 T v) : cR T v.toNat < cR T b.toNat := by sorry
theorem bgr_7 {S : sS} {r : Int} (h0 : 0 ≤ r) : (bgr S r 0 = 1 → bg7 (ty7 S) r) ∧ (bg7 (ty7 S) r → bgr S r 0 = 1) := by sorry
/-- 11: the kind, and what the class does -/
def kd11 (S : sS) : Int := if ty7 S (Xi S 890 3 + 3) = 28 then fnd S 0 (Xi S 890 3 + 6) (re7 (ty7 S) (Xi S 890 3 + 6)) else -1
abbrev nL (S : sS) : Nat := cR (ty7 S) (Xi S 890 3).toNat
def ARN (S S1 : sS) (k : Nat) (c v : Int) (n : Nat) : Prop := (∀ i : Nat, i < n → Xi S1 k (c + i).toNat = v) ∧ ∀ j : Nat, (j : Int) < c → Xi S1 k j = Xi S k j
def TACT (S S1 : sS) (z : Int) : Prop :=
  TLS S S1 z (Xi S 5 8) 12 (nL S) ∧
  (LOK S (Xi S 5 8) 12 (nL S) → ty7 S (Xi S 890 3 + 3) = 28 → kd11 S = -1 → z = 0 ∧ FTO S S1 4 (Xi S 890 3 + 6)) ∧
  (LOK S (Xi S 5 8) 12 (nL S) → ¬ (ty7 S (Xi S 890 3 + 3) = 28 ∧ kd11 S = -1) → z = 1 ∧ Xi S1 876 8 = 0 ∧ TNL S 8 (Xi S 5 8) (nL S) S1 ∧ Xi S1 5 8 = Xi S 5 8 + nL S ∧ (∀ j, j ≠ 8 → Xi S1 5 j = Xi S 5 j) ∧ ARN S S1 19 (Xi S 5 8) (kd11 S) (nL S))
theorem tact_1 {S S1 : sS} (h : TLS S S1 0 (Xi S 5 8) 12 (nL S)) (n : ¬ LOK S (Xi S 5 8) 12 (nL S)) : TACT S S1 0 := by sorry
theorem tact_2 {S S1 : sS} {z : Int} (l : LOK S (Xi S 5 8) 12 (nL S)) (h : ty7 S (Xi S 890 3 + 3) = 28) (k : kd11 S = -1) (hz : z = 0) (f : FTO S S1 4 (Xi S 890 3 + 6)) : TACT S S1 z := by sorry
theorem tact_3 {S S1 : sS} (l : LOK S (Xi S 5 8) 12 (nL S)) (h : ¬ (ty7 S (Xi S 890 3 + 3) = 28 ∧ kd11 S = -1)) (r : Xi S1 876 8 = 0 ∧ TNL S 8 (Xi S 5 8) (nL S) S1 ∧ Xi S1 5 8 = Xi S 5 8 + nL S ∧ (∀ j, j ≠ 8 → Xi S1 5 j = Xi S 5 j) ∧ ARN S S1 19 (Xi S 5 8) (kd11 S) (nL S)) : TACT S S1 1 := by sorry
theorem kd_y {S U : sS} {n : Nat} {b z : Int} (g : LSU S U n) (h : ty7 S (Xi S 890 3 + 3) = 28) (v : z = fnd U 0 (Xi S 890 3 + 6) b) (e : re7 (ty7 S) (Xi S 890 3 + 6) = b) : z = kd11 S := by sorry
theorem kd_n {S : sS} (h : ¬ ty7 S (Xi S 890 3 + 3) = 28) : (-1 : Int) = kd11 S := by sorry
theorem arn_0 {S U : sS} {k : Nat} {c v : Int} (h : ∀ j, Xi U k j = Xi S k j) : ARN S U k c v 0 := by sorry
theorem arn_s {S U V W : sS} {k : Nat} {c v x : Int} {n : Nat} (h : ARN S U k c v n) (f : ∀ j, Xi V k j = Xi U k j) (e : W = uI V k x.toNat (Int32.ofInt v)) (hx : x = c + n) (hc : 0 ≤ c) (hv : rg v) : ARN S W k c v (n + 1) := by sorry
theorem lnw_k {S U V : sS} {n : Nat} (h : LNW S U n) (x : Xi V 891 9 = Xi U 891 9) (a : ∀ j, Xi V 892 j = Xi U 892 j) (b : ∀ j, Xi V 893 j = Xi U 893 j) : LNW S V n := by sorry
theorem arn_k {S U V : sS} {k : Nat} {c v : Int} {n : Nat} (h : ARN S U k c v n) (f : ∀ j, Xi V k j = Xi U k j) : ARN S V k c v n := by sorry
theorem nrb_k {U V : sS} (h : NRB U) (x : Xi V 891 9 = Xi U 891 9) (a : ∀ j, Xi V 892 j = Xi U 892 j) (b : ∀ j, Xi V 893 j = Xi U 893 j) : NRB V := by sorry
/-! a name with an s -/
def wSp (S : sS) (f t i : Int) : Int := if f + i < t then (if f + i = t - 1 then Xj S 879 (f + i).toNat * 27 + 19 else Xj S 879 (f + i).toNat) else 0
def WDB (S : sS) (a b : Int) : Prop := ∀ j : Int, a ≤ j → j < b → 0 ≤ Xj S 879 j.toNat ∧ Xj S 879 j.toNat < 150094635296999121
def NWS (S V V1 : sS) (so wh f t : Int) : Prop := (mnF V (wSp S f t 0) (wSp S f t 1) (wSp S f t 2) ≠ -1 → SMV V V1) ∧ (mnF V (wSp S f t 0) (wSp S f t 1) (wSp S f t 2) = -1 → ∃ i : Nat, NMI V V1 i so wh (wSp S f t 0) (wSp S f t 1) (wSp S f t 2))
def SPL (S U : sS) (f v : Int) : Prop := ∀ k : Nat, (k : Int) < v → Xj U 894 k = Xj S 879 (f + k).toNat
theorem spl_s {S U V : sS} {f v : Int} {x : Int} (h : SPL S U f v) (e : V = uJ U 894 v.toNat (Int64.ofInt x)) (hx : x = Xj S 879 (f + v).toNat) (hr : rgL x) (h0 : 0 ≤ v) : SPL S V f (v + 1) := by sorry
theorem sps_w {S U V : sS} {f t n x : Int} (h : SPL S U f n) (e : V = uJ U 894 (n - 1).toNat (Int64.ofInt x)) (hx : x = Xj U 894 (n - 1).toNat * 27 + 19) (hn : n = t - f) (h1 : 1 ≤ n ∧ n ≤ 3) (w : WDB S f t) (hf : 0 ≤ f) : ∀ i : Nat, (i : Int) < n → Xj V 894 i = wSp S f t i := by sorry
theorem sps_m {S V V1 : sS} {f t n : Int} (h : ∀ i : Nat, (i : Int) < n → Xj V1 894 i = wSp S f t i) (s : SMV V V1) (hn : n = t - f) (h1 : 1 ≤ n ∧ n ≤ 3) : mnR V1 894 0 n.toNat = mnF V (wSp S f t 0) (wSp S f t 1) (wSp S f t 2) := by sorry
theorem sps_r {S V1 : sS} {f t n : Int} (h : ∀ i : Nat, (i : Int) < n → Xj V1 894 i = wSp S f t i) (hn : n = t - f) (i : Nat) : wRw V1 894 0 n i = wSp S f t i := by sorry
theorem nws_y {S V V1 : sS} {so wh f t n : Int} (h : ∀ i : Nat, (i : Int) < n → Xj V 894 i = wSp S f t i) (hn : n = t - f) (s : SMV S V) (e : ∃ i : Nat, NMI V V1 i so wh (wRw V 894 0 n 0) (wRw V 894 0 n 1) (wRw V 894 0 n 2)) (m : mnF S (wSp S f t 0) (wSp S f t 1) (wSp S f t 2) = -1) : NWS S S V1 so wh f t := by sorry
theorem nws_n {S V1 : sS} {so wh f t : Int} (s : SMV S V1) (m : mnF S (wSp S f t 0) (wSp S f t 1) (wSp S f t 2) ≠ -1) : NWS S S V1 so wh f t := by sorry
abbrev Q_to_beginsRun__p (S : sS) (row : Int) (from_ : Int) : pst := fun r S1 => S = S1 ∧ (∃ z : Int, r = some (iv z) ∧ (0 ≤ z ∧ z ≤ 1) ∧ (z = bgr S row from_))
set_option maxRecDepth 100000 in
theorem t_to_beginsRun__p {S : sS} (hH : RI S) (row : Int) (from_ : Int) (hrow : -2147483648 ≤ row ∧ row ≤ 2147483647) (hfrom_ : -2147483648 ≤ from_ ∧ from_ ≤ 2147483647) (d : Nat) : Mp lay0 (d + 1) m_to_beginsRun [.ref 876, iv row, iv from_] S (Q_to_beginsRun__p S row from_) := by sorry
abbrev Q_re_beginsName__p (S : sS) (row : Int) : pst := fun r S1 => S = S1 ∧ (∃ z : Int, r = some (iv z) ∧ (0 ≤ z ∧ z ≤ 1) ∧ ((z = 1 → bg7 (ty7 S) row ∧ row < Xi S 890 3) ∧ (z = 0 → row < Xi S 890 3 → ¬ bg7 (ty7 S) row)))
set_option maxRecDepth 100000 in
theorem t_re_beginsName__p {S : sS} (hH : RI S) (row : Int) (hrow : 0 ≤ row ∧ row ≤ 6000) (d : Nat) : Mp lay0 (d + 2) m_re_beginsName [.ref 891, iv row] S (Q_re_beginsName__p S row) := by sorry
def md_re_tellActions__p : List rec := [(1, 2, 3, 4), (2, 3, 0, 100000), (3, 4, 0, 100000), (4, 5, 0, 100000), (5, 6, 0, 100000), (19, 20, 0, 100000), (876, 877, 8, 9), (876, 877, 9, 10), (891, 892, 9, 10), (892, 893, 0, 100000), (893, 894, 0, 100000)]
abbrev Q_re_tellActions__p (S : sS) : pst := fun r S1 => RI S1 ∧ FR md_re_tellActions__p S S1 ∧ (∃ z : Int, r = some (iv z) ∧ (0 ≤ z ∧ z ≤ 1) ∧ (TACT S S1 z))
set_option maxRecDepth 100000 in
theorem t_re_tellActions__p {S : sS} (hH : RI S) (h13 : 0 ≤ Xi S 1 3 ∧ Xi S 1 3 ≤ 200) (hCE : CEN S) (hNB : NRB S) (hf : Xi S 876 8 = 0) (hr : Xi S 876 7 ≤ 5130) (ht : 0 ≤ Xi S 890 3 ∧ Xi S 890 3 ≤ 5125) (hn0 : Xi S 891 9 = 0) (h2 : Xi S 1 3 < 199) (hc : 0 ≤ Xi S 5 8 ∧ Xi S 5 8 ≤ 12) (hE : Hid (LOK S (Xi S 5 8) 12 (nL S) → Xi S 1 3 + nL S ≤ 199)) (d : Nat) : Mp lay0 (d + 4) m_re_tellActions [.ref 891] S (Q_re_tellActions__p S) := by sorry
def md_re_nameWithS__p : List rec := [(1, 2, 3, 4), (2, 3, 0, 100000), (3, 4, 0, 100000), (4, 5, 0, 100000), (894, 895, 0, 100000)]
abbrev Q_re_nameWithS__p (S : sS) (sort : Int) (which : Int) (from_ : Int) (to : Int) : pst := fun r S1 => RI S1 ∧ FR md_re_nameWithS__p S S1 ∧ (r = none ∧ (NWS S S S1 sort which from_ to) ∧ (∀ j, Xj S1 879 j = Xj S 879 j))
set_option maxRecDepth 100000 in
theorem t_re_nameWithS__p {S : sS} (hH : RI S) (sort : Int) (which : Int) (from_ : Int) (to : Int) (hsort : 0 ≤ sort ∧ sort ≤ 14) (hwhich : 0 ≤ which ∧ which ≤ 63) (hfrom_ : 0 ≤ from_ ∧ from_ ≤ 6000) (hto : 0 ≤ to ∧ to ≤ 6000) (h13 : 0 ≤ Xi S 1 3 ∧ Xi S 1 3 ≤ 200) (hCE : CEN S) (h2 : Xi S 1 3 < 200) (hn : 1 ≤ to - from_ ∧ to - from_ ≤ 3) (hw : WDB S from_ to) (d : Nat) : Mp lay0 (d + 3) m_re_nameWithS [.ref 891, iv sort, iv which, iv from_, iv to] S (Q_re_nameWithS__p S sort which from_ to) := by sorry
end
end
section
section
/-! the reference asks whether a LIST is new -/
def NWR (S : sS) (f : Int) (i : Nat) : Prop := nwR0 S (f + i) ∧ ∀ j : Nat, j < i → ¬ alR S (f + i) (f + j)
def LKR (S : sS) (f c M : Int) (n : Nat) : Prop := ∀ i : Nat, i < n → NWR S f i ∧ c + i < M
def RLF (S : sS) (f c M : Int) (n : Nat) (x : Int × Int × Int) : Prop := ∀ k : Nat, k < n → LKR S f c M k → (¬ NWR S f k → NTB x 3 (pR S (f + k))) ∧ (NWR S f k → M ≤ c + k → NTB x 9 (pR S (f + k)))
def RLI (S U : sS) (f c M : Int) (i : Nat) (nn : Int) : Prop := (LKR S f c M i → NT3 U = NT3 S ∧ nn = c + i ∧ Xi U 904 108 = i ∧ ∀ j : Nat, j < i → Xi U 966 j = f + j) ∧ RLF S f c M i (NT3 U) ∧ 0 ≤ Xi U 904 108
theorem rli_0 {S U : sS} {f c M nn : Int} (h : NT3 U = NT3 S) (hn : nn = c) (h9 : Xi U 904 108 = 0) : RLI S U f c M 0 nn := by sorry
theorem nwr_u {S U : sS} {f : Int} {i : Nat} (sm : SMR S U) (h9 : Xi U 904 108 = i) (h6 : ∀ j : Nat, j < i → Xi U 966 j = f + j) : nwR U (f + i) ↔ NWR S f i := by sorry
theorem rli_s {S U V : sS} {f c M nn z r p : Int} {i : Nat} (h : RLI S U f c M i nn) (y : nwR U r → NT3 V = (if nn < M then NT3 U else ntF (NT3 U) 9 p) ∧ Xi V 904 108 = Xi U 904 108 + 1 ∧ Xi V 966 (Xi U 904 108).toNat = r ∧ ∀ k : Nat, (k : Int) < Xi U 904 108 → Xi V 966 k = Xi U 966 k) (n : ¬ nwR U r → NT3 V = ntF (NT3 U) 3 p ∧ Xi V 904 108 = Xi U 904 108 ∧ ∀ k : Nat, Xi V 966 k = Xi U 966 k) (hz : (z = 1 → nwR U r) ∧ (z = 0 → ¬ nwR U r)) (h01 : z = 0 ∨ z = 1) (hr : r = f + i) (sm : SMR S U) (hpp : p = pR S (f + i)) (hp : ∀ k : Nat, k < i → pR S (f + k) < pR S (f + i)) (h0 : (NT3 S).1 = 0) : RLI S V f c M (i + 1) (nn + z) := by sorry
/-- 10, 11: what the reference notes -/
def RKD (S : sS) (f c M : Int) (n : Nat) (w : Int) (x : Int × Int × Int) : Prop := RLF S f c M n x ∧ (LKR S f c M n → w ≠ -1 → rnR S w 0 = -1 → NTB x 4 (pR S w)) ∧ (LKR S f c M n → (w ≠ -1 → rnR S w 0 ≠ -1) → x.1 = 0)
theorem rkd_n {S U : sS} {f c M nn w : Int} {n : Nat} (h : RLI S U f c M n nn) (h0 : (NT3 S).1 = 0) (hw : w = -1) : RKD S f c M n w (NT3 U) := by sorry
theorem rkd_y {S U V : sS} {f c M nn w : Int} {n : Nat} (h : RLI S U f c M n nn) (h0 : (NT3 S).1 = 0) (hw : w ≠ -1) (t : NT3 V = if rnR S w 0 = -1 then ntF (NT3 U) 4 (pR S w) else NT3 U) (hp : ∀ k : Nat, k < n → pR S (f + k) < pR S w) : RKD S f c M n w (NT3 V) := by sorry
def tyK (S : sS) : Int := if Xi S 904 70 = 10 ∧ Xi S 904 78 = -2 then 1 else 0
def cK (S : sS) : Int := if Xi S 904 70 = 11 then Xi S 904 49 else if Xi S 904 70 = 10 ∧ Xi S 904 78 = -2 then Xi S 904 18 else Xi S 904 16
def mK (S : sS) : Int := if Xi S 904 70 = 11 then 12 else if Xi S 904 70 = 10 ∧ Xi S 904 78 = -2 then 8 else 16
def wK (S : sS) : Int := if Xi S 904 70 = 10 ∧ Xi S 904 78 = -2 then -1 else Xi S 904 78
/-- places of a LIST are in order, and before w -/
def PLO (S : sS) (f : Int) (n : Nat) (w : Int) : Prop := (∀ k i : Nat, k < i → i < n → pR S (f + k) < pR S (f + i)) ∧ (w ≠ -1 → ∀ k : Nat, k < n → pR S (f + k) < pR S w)
theorem PLO_sm {S P : sS} {f w : Int} {n : Nat} (h : SMR S P) (p : PLO S f n w) : PLO P f n w := by sorry
theorem NWR_sm {S P : sS} {f : Int} {i : Nat} (h : SMR S P) : NWR P f i ↔ NWR S f i := by sorry
theorem LKR_sm {S P : sS} {f c M : Int} {n : Nat} (h : SMR S P) : LKR P f c M n ↔ LKR S f c M n := by sorry
theorem RKD_sm {S P : sS} {f c M w : Int} {n : Nat} {x : Int × Int × Int} (h : SMR S P) (r : RKD P f c M n w x) : RKD S f c M n w x := by sorry
/-! the reference tells LISTS -/
def TLL (S : sS) (so c f : Int) : Nat → sS → Prop
  | 0, V => SMR S V
  | n + 1, V => ∃ W : sS, TLL S so c f n W ∧ TLW W V S so (c + n) (f + n)
theorem tll_p {S V V' : sS} {so c f : Int} : ∀ {n : Nat}, TLL S so c f n V → SMR V V' → TLL S so c f n V' := by sorry
theorem tll_s {S V V' : sS} {so c f ix r : Int} {n : Nat} (h : TLL S so c f n V) (t : TLW V V' V so ix r) (hi : ix = c + n) (hr : r = f + n) (w : ∀ j, Xj V 910 j = Xj S 910 j) (u : ∀ j, Xi V 950 j = Xi S 950 j) (v : ∀ j, Xi V 951 j = Xi S 951 j) : TLL S so c f (n + 1) V' := by sorry
/-- 11: what the reference does -/
noncomputable def kdW (S : sS) : Int := if Xi S 904 78 = -1 then -1 else rnR S (Xi S 904 78) 0
def RD11 (S S1 : sS) : Prop := Xi S1 904 49 = Xi S 904 49 + (Xi S 904 72).toNat ∧ TLL S 11 (Xi S 904 49) (Xi S 904 71) (Xi S 904 72).toNat S1 ∧ ARN S S1 942 (Xi S 904 49) (kdW S) (Xi S 904 72).toNat
def ACT1 (S S1 : sS) (k : Int) : Prop := Xi S1 904 49 = Xi S 904 49 + 1 ∧ S1 = uI (uI S 942 (Xi S 904 49).toNat (Int32.ofInt k)) 904 49 (Int32.ofInt (Xi S 904 49 + 1))
theorem act1_arn {S U V : sS} {c v : Int} {n : Nat} (h : ARN S U 942 c v n) (a : ACT1 U V v) (hx : Xi U 904 49 = c + n) (hc : 0 ≤ c) (hv : rg v) : ARN S V 942 c v (n + 1) := by sorry
theorem kdr_n {S : sS} (h : Xi S 904 78 = -1) : (-1 : Int) = kdW S := by sorry
theorem kdr_y {S : sS} (h : Xi S 904 78 ≠ -1) : rnR S (Xi S 904 78) 0 = kdW S := by sorry
theorem rnR_w {A B : sS} {so ix a b c n r s : Int} {S : sS} (t : TLR A B so ix a b c n) (h0 : 0 ≤ Xi A 904 15) (w : ∀ j, Xj B 910 j = Xj A 910 j) (u : ∀ j, Xi B 950 j = Xi A 950 j) (v : ∀ j, Xi B 951 j = Xi A 951 j) (h : rnR S r s ≠ -1) (k : rnR A r s = rnR S r s) : rnR B r s = rnR S r s := by sorry
/-- a range is cleared -/
def ZRO (S U : sS) (k : Nat) (a m : Int) : Prop := ∀ j : Nat, ((a ≤ (j : Int) ∧ (j : Int) < a + m) → Xi U k j = 0) ∧ (¬ (a ≤ (j : Int) ∧ (j : Int) < a + m) → Xi U k j = Xi S k j)
theorem zro_0 {S U : sS} {k : Nat} {a : Int} (h : ∀ j, Xi U k j = Xi S k j) : ZRO S U k a 0 := by sorry
theorem zro_s {S U V : sS} {k : Nat} {a v : Int} (h : ZRO S U k a v) (e : V = uI U k (a + v).toNat (Int32.ofInt 0)) (ha : 0 ≤ a) (hv : 0 ≤ v) : ZRO S V k a (v + 1) := by sorry
theorem zro_k {S U V : sS} {k : Nat} {a v : Int} (h : ZRO S U k a v) (f : ∀ j, Xi V k j = Xi U k j) : ZRO S V k a v := by sorry
def AKN (S S1 : sS) (p : Int) : Prop := Xi S1 904 16 = Xi S 904 16 + 1 ∧ (Xi S1 917 (Xi S 904 16).toNat = p ∧ ∀ j : Nat, j ≠ (Xi S 904 16).toNat → Xi S1 917 j = Xi S 917 j) ∧ ZRO S S1 929 (12 * Xi S 904 16) 12 ∧ ZRO S S1 933 (12 * Xi S 904 16) 12 ∧ ZRO S S1 926 (24 * Xi S 904 16) 24
theorem kdw_rg {S : sS} (hx : LXR S) (h15 : 0 ≤ Xi S 904 15) : rg (kdW S) := by sorry
theorem kr_in {T : Int → Int} {b : Int} (h : NF7 T b) (hb : b ≤ 5130) : ∀ r : Nat, r ≤ 5140 → ∀ i : Nat, i < cR T r → 0 ≤ kr7 T i ∧ kr7 T i < r ∧ T (kr7 T i) = 100 := by sorry
theorem reF_in {T : Int → Int} : ∀ (n : Nat) (a j : Int), a ≤ j → j < reF T n a → T j = 100 := by sorry
theorem re_in {T : Int → Int} {a j : Int} (h1 : a ≤ j) (h2 : j < re7 T a) : T j = 100 := by sorry
theorem cen_n {P V : sS} {so w a b c : Int} (h : CEN P) (e : ∃ i : Nat, NMI P V i so w a b c) (hs : 0 ≤ so ∧ so ≤ 14) (hw : 0 ≤ w ∧ w ≤ 63) : CEN V := by sorry
theorem CEN_v {P V : sS} (h : CEN P) (s : SMV P V) : CEN V := by sorry
/-- 10: what the class does -/
def ofB (S : sS) : Int := if ty7 S (Xi S 890 3 + 3) = 7 then 1 else 0
def tyB (S : sS) : Int := if ty7 S (Xi S 890 3 + 3) = 7 ∧ ty7 S (Xi S 890 3 + 4) = 20 then 1 else 0
theorem tyb_rg {S : sS} : 0 ≤ tyB S ∧ tyB S ≤ 1 := by sorry
def r10 (S : sS) : Int := bA (ty7 S) (Xi S 890 3 + 4)
def ab10 (S : sS) : Int := if ofB S = 1 ∧ tyB S = 0 then fnd S 0 (r10 S) (re7 (ty7 S) (r10 S)) else 0
def c10 (S : sS) : Int := Xi S 5 (tyB S).toNat
def TPS (S : sS) (so c : Int) (B : sS) : Nat → sS → Prop
  | 0, V => SMV B V
  | n + 1, V => ∃ W : sS, TPS S so c B n W ∧ NWS S W V so (c + n) (kr7 (ty7 S) n) (re7 (ty7 S) (kr7 (ty7 S) n))
def KN7 (S U : sS) (n : Nat) : Prop := (tyB S = 0 → ARN S U 6 (c10 S) (ab10 S) n ∧ ARN S U 7 (c10 S) 0 n) ∧ (tyB S = 1 → (∀ j, Xi U 6 j = Xi S 6 j) ∧ ∀ j, Xi U 7 j = Xi S 7 j)
def TKN (S S1 : sS) (z : Int) : Prop :=
  TLS S S1 z (c10 S) (16 - 8 * tyB S) (nL S) ∧
  (LOK S (c10 S) (16 - 8 * tyB S) (nL S) → ab10 S = -1 → z = 0 ∧ FTO S S1 4 (r10 S)) ∧
  (LOK S (c10 S) (16 - 8 * tyB S) (nL S) → ab10 S ≠ -1 → z = 1 ∧ Xi S1 876 8 = 0 ∧ (∃ B : sS, TNL S (tyB S) (c10 S) (nL S) B ∧ TPS S (11 + tyB S) (c10 S) B (nL S) S1) ∧ Xi S1 5 (tyB S).toNat = c10 S + nL S ∧ (∀ j, j ≠ (tyB S).toNat → Xi S1 5 j = Xi S 5 j) ∧ KN7 S S1 (nL S))
theorem tkn_1 {S S1 : sS} (h : TLS S S1 0 (c10 S) (16 - 8 * tyB S) (nL S)) (n : ¬ LOK S (c10 S) (16 - 8 * tyB S) (nL S)) : TKN S S1 0 := by sorry
theorem tkn_2 {S S1 : sS} {z : Int} (l : LOK S (c10 S) (16 - 8 * tyB S) (nL S)) (k : ab10 S = -1) (hz : z = 0) (f : FTO S S1 4 (r10 S)) : TKN S S1 z := by sorry
theorem tkn_3 {S S1 : sS} (l : LOK S (c10 S) (16 - 8 * tyB S) (nL S)) (k : ab10 S ≠ -1) (r : Xi S1 876 8 = 0 ∧ (∃ B : sS, TNL S (tyB S) (c10 S) (nL S) B ∧ TPS S (11 + tyB S) (c10 S) B (nL S) S1) ∧ Xi S1 5 (tyB S).toNat = c10 S + nL S ∧ (∀ j, j ≠ (tyB S).toNat → Xi S1 5 j = Xi S 5 j) ∧ KN7 S S1 (nL S)) : TKN S S1 1 := by sorry
theorem ab_y {S U : sS} {n : Nat} {a b z : Int} (g : LSU S U n) (h1 : ofB S = 1) (h2 : tyB S = 0) (e : r10 S = a) (e2 : re7 (ty7 S) a = b) (v : z = fnd U 0 a b) : z = ab10 S := by sorry
theorem ab_n {S : sS} (h : ¬ (ofB S = 1 ∧ tyB S = 0)) : (0 : Int) = ab10 S := by sorry
theorem kn7_0 {S U : sS} (a : ∀ j, Xi U 6 j = Xi S 6 j) (b : ∀ j, Xi U 7 j = Xi S 7 j) : KN7 S U 0 := by sorry
theorem kn7_k {S U V : sS} {n : Nat} (h : KN7 S U n) (a : ∀ j, Xi V 6 j = Xi U 6 j) (b : ∀ j, Xi V 7 j = Xi U 7 j) : KN7 S V n := by sorry
theorem kn7_t {S U V : sS} {n : Nat} (h : KN7 S U n) (ht : tyB S ≠ 0) (a : ∀ j, Xi V 6 j = Xi U 6 j) (b : ∀ j, Xi V 7 j = Xi U 7 j) : KN7 S V (n + 1) := by sorry
theorem kn7_s {S U P V W : sS} {n : Nat} {x y : Int} (h : KN7 S U n) (ht : tyB S = 0) (a : ∀ j, Xi P 6 j = Xi U 6 j) (b : ∀ j, Xi P 7 j = Xi U 7 j) (e1 : V = uI P 6 x.toNat (Int32.ofInt y)) (e2 : W = uI V 7 x.toNat (Int32.ofInt 0)) (hx : x = c10 S + n) (hy : y = ab10 S) (hc : 0 ≤ c10 S) (hr : rg y) : KN7 S W (n + 1) := by sorry
theorem tps_s {S W V B : sS} {so c wh a b : Int} {n : Nat} (h : TPS S so c B n W) (o : NWS W W V so wh a b) (k : ∀ j, Xj W 879 j = Xj S 879 j) (ha : a = kr7 (ty7 S) n) (hb : b = re7 (ty7 S) (kr7 (ty7 S) n)) (hw : wh = c + n) : TPS S so c B (n + 1) V := by sorry
theorem nws_b {S V V1 : sS} {so wh f t : Int} (o : NWS S V V1 so wh f t) : Xi V 1 3 ≤ Xi V1 1 3 ∧ Xi V1 1 3 ≤ Xi V 1 3 + 1 := by sorry
theorem nws_c {S V V1 : sS} {so wh f t : Int} (o : NWS S V V1 so wh f t) (h : CEN V) (hs : 0 ≤ so ∧ so ≤ 14) (hw : 0 ≤ wh ∧ wh ≤ 63) : CEN V1 := by sorry
/-- the words of RUNS fit -/
def WRB (S : sS) : Prop := ∀ j : Int, ty7 S j = 100 → 0 ≤ Xj S 879 j.toNat ∧ Xj S 879 j.toNat < 150094635296999121
theorem wrb_d {S U : sS} {a : Int} (h : WRB S) (k : ∀ j, Xj U 879 j = Xj S 879 j) : WDB U a (re7 (ty7 S) a) := by sorry
theorem run_len {S : sS} {c M : Int} {N i : Nat} (l : LOK S c M N) (hi : i < N) (hN : N = nL S) (hr : Xi S 876 7 ≤ 5130) (ht : Xi S 890 3 ≤ 5130) : 1 ≤ re7 (ty7 S) (kr7 (ty7 S) i) - kr7 (ty7 S) i ∧ re7 (ty7 S) (kr7 (ty7 S) i) - kr7 (ty7 S) i ≤ 3 := by sorry
theorem lok_c {S : sS} {c M : Int} {n : Nat} (l : LOK S c M n) (hM : c ≤ M) (h0 : 0 ≤ M) : c + (n : Int) ≤ M := by sorry
def md_mo_addAction__p : List rec := [(904, 905, 49, 50), (942, 943, 0, 100000)]
abbrev Q_mo_addAction__p (S : sS) (kind : Int) : pst := fun r S1 => RI S1 ∧ FR md_mo_addAction__p S S1 ∧ (∃ z : Int, r = some (iv z) ∧ (-2147483648 ≤ z ∧ z ≤ 2147483647) ∧ (z = Xi S 904 49) ∧ (ACT1 S S1 kind))
set_option maxRecDepth 100000 in
theorem t_mo_addAction__p {S : sS} (hH : RI S) (kind : Int) (hkind : -2147483648 ≤ kind ∧ kind ≤ 2147483647) (ha : 0 ≤ Xi S 904 49 ∧ Xi S 904 49 ≤ 60) (d : Nat) : Mp lay0 (d + 1) m_mo_addAction [.ref 904, iv kind] S (Q_mo_addAction__p S kind) := by sorry
def md_mo_askKinds__p : List rec := [(904, 905, 104, 105), (904, 905, 105, 106), (904, 905, 106, 107), (904, 905, 108, 109), (966, 967, 0, 100000)]
abbrev Q_mo_askKinds__p (S : sS) : pst := fun r S1 => RI S1 ∧ FR md_mo_askKinds__p S S1 ∧ (r = none ∧ (RKD S (Xi S 904 71) (cK S) (mK S) (Xi S 904 72).toNat (wK S) (NT3 S1)))
set_option maxRecDepth 100000 in
theorem t_mo_askKinds__p {S : sS} (hH : RI S) (hLS : LSP S) (h15 : 0 ≤ Xi S 904 15) (hRB : RBD S) (hz0 : Xi S 904 106 = 0 ∧ Xi S 904 108 = 0) (hf : 0 ≤ Xi S 904 71 ∧ Xi S 904 71 ≤ 2600 ∧ 0 ≤ Xi S 904 72 ∧ Xi S 904 72 ≤ 2600) (hp : PLO S (Xi S 904 71) (Xi S 904 72).toNat (wK S)) (hcb : 0 ≤ Xi S 904 49 ∧ Xi S 904 49 ≤ 100 ∧ 0 ≤ Xi S 904 18 ∧ Xi S 904 18 ≤ 100 ∧ 0 ≤ Xi S 904 16 ∧ Xi S 904 16 ≤ 100) (d : Nat) : Mp lay0 (d + 6) m_mo_askKinds [.ref 904] S (Q_mo_askKinds__p S) := by sorry
def md_mo_asked__10 : List rec := [(904, 905, 64, 65), (904, 905, 104, 105), (904, 905, 105, 106), (904, 905, 106, 107), (904, 905, 108, 109), (904, 905, 109, 110), (904, 905, 110, 111), (904, 905, 112, 113), (904, 905, 113, 114), (904, 905, 115, 116), (904, 905, 116, 117), (904, 905, 117, 118), (904, 905, 125, 126), (904, 905, 128, 129), (904, 905, 129, 130), (904, 905, 130, 131), (904, 905, 142, 143), (904, 905, 144, 145), (904, 905, 146, 147), (904, 905, 147, 148), (904, 905, 150, 151), (904, 905, 151, 152), (904, 905, 153, 154), (904, 905, 154, 155), (904, 905, 156, 157), (904, 905, 157, 158), (904, 905, 158, 159), (904, 905, 160, 161), (966, 967, 0, 100000), (967, 968, 0, 100000), (968, 969, 0, 100000), (969, 970, 0, 100000), (970, 971, 0, 100000), (971, 972, 0, 100000), (972, 973, 0, 100000), (973, 974, 0, 100000), (974, 975, 0, 100000), (975, 976, 0, 100000), (976, 977, 0, 100000), (977, 978, 0, 100000), (978, 979, 0, 100000), (979, 980, 0, 100000), (980, 981, 0, 100000), (981, 982, 0, 100000), (982, 983, 0, 100000), (983, 984, 0, 100000), (984, 985, 0, 100000), (985, 986, 0, 100000), (986, 987, 0, 100000), (987, 988, 0, 100000), (988, 989, 0, 100000), (989, 990, 0, 100000), (990, 991, 0, 100000), (991, 992, 0, 100000), (992, 993, 0, 100000), (993, 994, 0, 100000), (994, 995, 0, 100000)]
abbrev Q_mo_asked__10 (S : sS) (first : Int) : pst := fun r S1 => RI S1 ∧ FR md_mo_asked__10 S S1 ∧ (r = none ∧ (RKD S (Xi S 904 71) (cK S) (mK S) (Xi S 904 72).toNat (wK S) (NT3 S1)))
set_option maxRecDepth 100000 in
theorem t_mo_asked__10 {S : sS} (hH : RI S) (first : Int) (hfirst : 0 ≤ first ∧ first ≤ 5001) (hLS : LSP S) (h15 : 0 ≤ Xi S 904 15) (hRB : RBD S) (hs : Xi S 904 70 = 10) (hf : 0 ≤ Xi S 904 71 ∧ Xi S 904 71 ≤ 2600 ∧ 0 ≤ Xi S 904 72 ∧ Xi S 904 72 ≤ 2600) (hp : PLO S (Xi S 904 71) (Xi S 904 72).toNat (wK S)) (hcb : 0 ≤ Xi S 904 49 ∧ Xi S 904 49 ≤ 100 ∧ 0 ≤ Xi S 904 18 ∧ Xi S 904 18 ≤ 100 ∧ 0 ≤ Xi S 904 16 ∧ Xi S 904 16 ≤ 100) (d : Nat) : Mp lay0 (d + 13) m_mo_asked [.ref 904, iv first] S (Q_mo_asked__10 S first) := by sorry
def md_mo_asked__11 : List rec := [(904, 905, 64, 65), (904, 905, 104, 105), (904, 905, 105, 106), (904, 905, 106, 107), (904, 905, 108, 109), (904, 905, 109, 110), (904, 905, 110, 111), (904, 905, 112, 113), (904, 905, 113, 114), (904, 905, 115, 116), (904, 905, 116, 117), (904, 905, 117, 118), (904, 905, 125, 126), (904, 905, 128, 129), (904, 905, 129, 130), (904, 905, 130, 131), (904, 905, 142, 143), (904, 905, 144, 145), (904, 905, 146, 147), (904, 905, 147, 148), (904, 905, 150, 151), (904, 905, 151, 152), (904, 905, 153, 154), (904, 905, 154, 155), (904, 905, 156, 157), (904, 905, 157, 158), (904, 905, 158, 159), (904, 905, 160, 161), (966, 967, 0, 100000), (967, 968, 0, 100000), (968, 969, 0, 100000), (969, 970, 0, 100000), (970, 971, 0, 100000), (971, 972, 0, 100000), (972, 973, 0, 100000), (973, 974, 0, 100000), (974, 975, 0, 100000), (975, 976, 0, 100000), (976, 977, 0, 100000), (977, 978, 0, 100000), (978, 979, 0, 100000), (979, 980, 0, 100000), (980, 981, 0, 100000), (981, 982, 0, 100000), (982, 983, 0, 100000), (983, 984, 0, 100000), (984, 985, 0, 100000), (985, 986, 0, 100000), (986, 987, 0, 100000), (987, 988, 0, 100000), (988, 989, 0, 100000), (989, 990, 0, 100000), (990, 991, 0, 100000), (991, 992, 0, 100000), (992, 993, 0, 100000), (993, 994, 0, 100000), (994, 995, 0, 100000)]
abbrev Q_mo_asked__11 (S : sS) (first : Int) : pst := fun r S1 => RI S1 ∧ FR md_mo_asked__11 S S1 ∧ (r = none ∧ (RKD S (Xi S 904 71) (cK S) (mK S) (Xi S 904 72).toNat (wK S) (NT3 S1)))
set_option maxRecDepth 100000 in
theorem t_mo_asked__11 {S : sS} (hH : RI S) (first : Int) (hfirst : 0 ≤ first ∧ first ≤ 5001) (hLS : LSP S) (h15 : 0 ≤ Xi S 904 15) (hRB : RBD S) (hs : Xi S 904 70 = 11) (hf : 0 ≤ Xi S 904 71 ∧ Xi S 904 71 ≤ 2600 ∧ 0 ≤ Xi S 904 72 ∧ Xi S 904 72 ≤ 2600) (hp : PLO S (Xi S 904 71) (Xi S 904 72).toNat (wK S)) (hcb : 0 ≤ Xi S 904 49 ∧ Xi S 904 49 ≤ 100 ∧ 0 ≤ Xi S 904 18 ∧ Xi S 904 18 ≤ 100 ∧ 0 ≤ Xi S 904 16 ∧ Xi S 904 16 ≤ 100) (d : Nat) : Mp lay0 (d + 13) m_mo_asked [.ref 904, iv first] S (Q_mo_asked__11 S first) := by sorry
def md_mo_does__11 : List rec := [(904, 905, 15, 16), (904, 905, 16, 17), (904, 905, 18, 19), (904, 905, 19, 20), (904, 905, 23, 24), (904, 905, 30, 31), (904, 905, 32, 33), (904, 905, 41, 42), (904, 905, 47, 48), (904, 905, 49, 50), (904, 905, 51, 52), (904, 905, 55, 56), (904, 905, 60, 61), (904, 905, 64, 65), (904, 905, 73, 74), (904, 905, 105, 106), (904, 905, 106, 107), (904, 905, 113, 114), (904, 905, 117, 118), (912, 913, 0, 100000), (913, 914, 0, 100000), (914, 915, 0, 100000), (915, 916, 0, 100000), (916, 917, 0, 100000), (917, 918, 0, 100000), (918, 919, 0, 100000), (919, 920, 0, 100000), (920, 921, 0, 100000), (921, 922, 0, 100000), (922, 923, 0, 100000), (923, 924, 0, 100000), (924, 925, 0, 100000), (925, 926, 0, 100000), (926, 927, 0, 100000), (927, 928, 0, 100000), (928, 929, 0, 100000), (929, 930, 0, 100000), (930, 931, 0, 100000), (931, 932, 0, 100000), (932, 933, 0, 100000), (933, 934, 0, 100000), (934, 935, 0, 100000), (935, 936, 0, 100000), (936, 937, 0, 100000), (937, 938, 0, 100000), (938, 939, 0, 100000), (939, 940, 0, 100000), (940, 941, 0, 100000), (941, 942, 0, 100000), (942, 943, 0, 100000), (943, 944, 0, 100000), (944, 945, 0, 100000), (945, 946, 0, 100000), (946, 947, 0, 100000), (947, 948, 0, 100000), (948, 949, 0, 100000), (949, 950, 0, 100000)]
abbrev Q_mo_does__11 (S : sS) (first : Int) : pst := fun r S1 => RI S1 ∧ FR md_mo_does__11 S S1 ∧ (r = none ∧ (RD11 S S1))
set_option maxRecDepth 100000 in
theorem t_mo_does__11 {S : sS} (hH : RI S) (first : Int) (hfirst : 0 ≤ first ∧ first ≤ 5001) (hLS : LSP S) (h15 : 0 ≤ Xi S 904 15) (hRB : RBD S) (hLX : LXR S) (hl : 0 ≤ Xi S 904 71 ∧ Xi S 904 71 ≤ 2600 ∧ 0 ≤ Xi S 904 72 ∧ Xi S 904 72 ≤ 2600) (hs : Xi S 904 70 = 11) (hk : Hid (Xi S 904 78 ≠ -1 → rnR S (Xi S 904 78) 0 ≠ -1)) (ha : 0 ≤ Xi S 904 49 ∧ Xi S 904 49 + Xi S 904 72 ≤ 12) (h15b : Xi S 904 15 ≤ 100000) (d : Nat) : Mp lay0 (d + 8) m_mo_does [.ref 904, iv first] S (Q_mo_does__11 S first) := by sorry
def md_mo_addKind__p : List rec := [(904, 905, 16, 17), (917, 918, 0, 100000), (926, 927, 0, 100000), (929, 930, 0, 100000), (933, 934, 0, 100000)]
abbrev Q_mo_addKind__p (S : sS) (parent : Int) : pst := fun r S1 => RI S1 ∧ FR md_mo_addKind__p S S1 ∧ (∃ z : Int, r = some (iv z) ∧ (-2147483648 ≤ z ∧ z ≤ 2147483647) ∧ (z = Xi S 904 16) ∧ (AKN S S1 parent))
set_option maxRecDepth 100000 in
theorem t_mo_addKind__p {S : sS} (hH : RI S) (parent : Int) (hparent : -2147483648 ≤ parent ∧ parent ≤ 2147483647) (ha : 0 ≤ Xi S 904 16 ∧ Xi S 904 16 ≤ 15) (d : Nat) : Mp lay0 (d + 1) m_mo_addKind [.ref 904, iv parent] S (Q_mo_addKind__p S parent) := by sorry
end
end
section
section
/-! 8: a plural is told, or written over -/
def NMR (S S1 : sS) (i : Nat) (so ix a b c n : Int) : Prop := (Xi S1 914 i = so ∧ Xi S1 915 i = ix ∧ Xi S1 912 i = n ∧ Xi S1 916 i = 0 ∧ Xj S1 913 (3 * i) = a ∧ Xj S1 913 (3 * i + 1) = b ∧ Xj S1 913 (3 * i + 2) = c) ∧ (∀ j : Nat, j ≠ i → Xi S1 914 j = Xi S 914 j ∧ Xi S1 915 j = Xi S 915 j ∧ Xi S1 912 j = Xi S 912 j ∧ Xi S1 916 j = Xi S 916 j ∧ ∀ t, t < 3 → Xj S1 913 (3 * j + t) = Xj S 913 (3 * j + t)) ∧ ((Xi S1 904 15 = Xi S 904 15 ∧ (i : Int) < Xi S 904 15 ∧ Xi S 914 i = so ∧ Xi S 915 i = ix) ∨ (Xi S1 904 15 = Xi S 904 15 + 1 ∧ (i : Int) = Xi S 904 15 ∧ ∀ j : Nat, (j : Int) < Xi S 904 15 → ¬ (Xi S 914 j = so ∧ Xi S 915 j = ix)))
def NMW (S S1 : sS) (so ix r : Int) : Prop := ∃ i : Nat, NMR S S1 i so ix (Xj S 910 (Xi S 950 r.toNat).toNat) (if 1 < Xi S 951 r.toNat then Xj S 910 (Xi S 950 r.toNat + 1).toNat else 0) (if 2 < Xi S 951 r.toNat then Xj S 910 (Xi S 950 r.toNat + 2).toNat else 0) (Xi S 951 r.toNat)
theorem nmw_of {S U T S1 : sS} {so ix w l l2 r : Int} (e1 : U = uI S 904 15 (Int32.ofInt l)) (t : TLW U T U so ix r) (e2 : S1 = uI T 904 15 (Int32.ofInt l2)) (h : (w = -1 ∧ l = Xi S 904 15 ∧ l2 = Xi T 904 15) ∨ (w ≠ -1 ∧ l = w ∧ l2 = Xi S 904 15)) (n : w = -1 → ∀ k : Nat, (k : Int) < Xi S 904 15 → ¬ (Xi S 914 k = so ∧ Xi S 915 k = ix)) (y : w ≠ -1 → 0 ≤ w ∧ w < Xi S 904 15 ∧ Xi S 914 w.toNat = so ∧ Xi S 915 w.toNat = ix) (h15 : 0 ≤ Xi S 904 15 ∧ Xi S 904 15 ≤ 100000) : NMW S S1 so ix r := by sorry
/-- 8: what the reference does -/
def RD8 (S S1 : sS) : Prop := (r2R S 0 0 1 ≠ -1 → NMW S S1 1 (r2R S 0 0 1) 1) ∧ (r2R S 0 0 1 = -1 → NMW S S1 3 (r2R S 0 2 3) 1)
/-! 10: kinds and types -/
theorem zro_t {S U V : sS} {k : Nat} {a m l : Int} (h : ZRO S U k a m) (g : ZRO U V k (a + m) l) (hm : 0 ≤ m) (hl : 0 ≤ l) : ZRO S V k a (m + l) := by sorry
def iT (S : sS) : Int := if Xi S 904 78 = -2 then 1 else 0
theorem it_rg {S : sS} : 0 ≤ iT S ∧ iT S ≤ 1 := by sorry
noncomputable def pa10 (S : sS) : Int := if Xi S 904 78 = -2 ∨ Xi S 904 78 = -1 then 0 else rnR S (Xi S 904 78) 0
def cKR (S : sS) : Int := if Xi S 904 78 = -2 then Xi S 904 18 else Xi S 904 16
def KNR (S U : sS) (n : Nat) : Prop := (iT S = 1 → (Xi U 904 16 = Xi S 904 16 ∧ Xi U 904 18 = Xi S 904 18 + n) ∧ (∀ j, Xi U 917 j = Xi S 917 j) ∧ (∀ j, Xi U 929 j = Xi S 929 j) ∧ (∀ j, Xi U 933 j = Xi S 933 j) ∧ ∀ j, Xi U 926 j = Xi S 926 j) ∧ (iT S = 0 → (Xi U 904 18 = Xi S 904 18 ∧ Xi U 904 16 = Xi S 904 16 + n) ∧ ARN S U 917 (Xi S 904 16) (pa10 S) n ∧ ZRO S U 929 (12 * Xi S 904 16) (12 * n) ∧ ZRO S U 933 (12 * Xi S 904 16) (12 * n) ∧ ZRO S U 926 (24 * Xi S 904 16) (24 * n))
theorem knr_0 {S : sS} : KNR S S 0 := by sorry
theorem knr_k {S U V : sS} {n : Nat} (h : KNR S U n) (a : Xi V 904 16 = Xi U 904 16) (b : Xi V 904 18 = Xi U 904 18) (c : ∀ k j : Nat, (k = 917 ∨ k = 929 ∨ k = 933 ∨ k = 926) → Xi V k j = Xi U k j) : KNR S V n := by sorry
theorem knr_t {S U V : sS} {n : Nat} (h : KNR S U n) (q : iT S = 1) (a : Xi V 904 16 = Xi U 904 16) (b : Xi V 904 18 = Xi U 904 18 + 1) (c : ∀ k j : Nat, (k = 917 ∨ k = 929 ∨ k = 933 ∨ k = 926) → Xi V k j = Xi U k j) : KNR S V (n + 1) := by sorry
theorem knr_s {S U V : sS} {n : Nat} {p : Int} (h : KNR S U n) (q : iT S = 0) (k : AKN U V p) (hp : p = pa10 S) (b : Xi V 904 18 = Xi U 904 18) (h0 : 0 ≤ Xi S 904 16) : KNR S V (n + 1) := by sorry
/-- the words of a RUN with an s -/
def wLa (S : sS) (r : Int) : Int := Xj S 910 (Xi S 950 r.toNat + Xi S 951 r.toNat - 1).toNat
def lgI (S : sS) (r : Int) : Int := if lshrF (wLa S r) 55 = 0 then 0 else 1
def wPl (S : sS) (r : Int) : Int := if lgI S r = 1 then wLa S r else lorF (lshlF (wLa S r) 5) 19
def wPa (S : sS) (r : Int) : Int := if Xi S 951 r.toNat = 1 then wPl S r else Xj S 910 (Xi S 950 r.toNat).toNat
def wPb (S : sS) (r : Int) : Int := if Xi S 951 r.toNat = 2 then wPl S r else if 2 < Xi S 951 r.toNat then Xj S 910 (Xi S 950 r.toNat + 1).toNat else 0
def wPc (S : sS) (r : Int) : Int := if Xi S 951 r.toNat = 3 then wPl S r else 0
def PLR (S W V : sS) (so ix r : Int) : Prop := ((lgI S r = 1 ∨ fdR W (wPa S r) (wPb S r) (wPc S r) (Xi S 951 r.toNat) (Xi W 904 15).toNat = -1) → TLX W V so ix (wPa S r) (wPb S r) (wPc S r) (Xi S 951 r.toNat) (lgI S r)) ∧ (¬ (lgI S r = 1 ∨ fdR W (wPa S r) (wPb S r) (wPc S r) (Xi S 951 r.toNat) (Xi W 904 15).toNat = -1) → SMR W V)
def TPR (S : sS) (so c f : Int) (B : sS) : Nat → sS → Prop
  | 0, V => SMR B V
  | n + 1, V => ∃ W : sS, TPR S so c f B n W ∧ PLR S W V so (c + n) (f + n)
theorem tlx_of {W V U : sS} {so ix a b c n g : Int} (t : TLR W V so ix a b c n) (e : U = uI V 916 (Xi V 904 15 - 1).toNat (Int32.ofInt g)) (h15 : 0 ≤ Xi W 904 15) (hg : rg g) : TLX W U so ix a b c n g := by sorry
theorem LSP_tlx {A B : sS} {so ix a b c n g : Int} (t : TLX A B so ix a b c n g) (h0 : 0 ≤ Xi A 904 15) (hs : 0 ≤ so) (h : LSP A) : LSP B := by sorry
def RD10 (S S1 : sS) : Prop := (∃ B : sS, TLL S (2 * iT S) (cKR S) (Xi S 904 71) (Xi S 904 72).toNat B ∧ TPR S (1 + 2 * iT S) (cKR S) (Xi S 904 71) B (Xi S 904 72).toNat S1) ∧ KNR S S1 (Xi S 904 72).toNat
theorem lgi_y {S : sS} {r w : Int} (hw : w = wLa S r) (h : lshrF w 55 ≠ 0) : (1 : Int) = lgI S r := by sorry
theorem lgi_n {S : sS} {r w : Int} (hw : w = wLa S r) (h : lshrF w 55 = 0) : (0 : Int) = lgI S r := by sorry
theorem ckr_t {S : sS} (h : iT S = 1) : cKR S = Xi S 904 18 := by sorry
theorem ckr_k {S : sS} (h : iT S = 0) : cKR S = Xi S 904 16 := by sorry
theorem pa_rg {S : sS} (hx : LXR S) (h15 : 0 ≤ Xi S 904 15) : rg (pa10 S) := by sorry
def md_re_tellKinds__p : List rec := [(1, 2, 3, 4), (2, 3, 0, 100000), (3, 4, 0, 100000), (4, 5, 0, 100000), (5, 6, 0, 100000), (6, 7, 0, 100000), (7, 8, 0, 100000), (876, 877, 8, 9), (876, 877, 9, 10), (891, 892, 9, 10), (892, 893, 0, 100000), (893, 894, 0, 100000), (894, 895, 0, 100000)]
abbrev Q_re_tellKinds__p (S : sS) : pst := fun r S1 => RI S1 ∧ FR md_re_tellKinds__p S S1 ∧ (∃ z : Int, r = some (iv z) ∧ (0 ≤ z ∧ z ≤ 1) ∧ (TKN S S1 z))
set_option maxRecDepth 100000 in
theorem t_re_tellKinds__p {S : sS} (hH : RI S) (h13 : 0 ≤ Xi S 1 3 ∧ Xi S 1 3 ≤ 200) (hCE : CEN S) (hNB : NRB S) (hf : Xi S 876 8 = 0) (hr : Xi S 876 7 ≤ 5130) (ht : 0 ≤ Xi S 890 3 ∧ Xi S 890 3 ≤ 5125) (hn0 : Xi S 891 9 = 0) (h2 : Xi S 1 3 < 199) (hc : 0 ≤ c10 S ∧ c10 S ≤ 16 - 8 * tyB S) (hwd : WRB S) (hE : Hid (LOK S (c10 S) (16 - 8 * tyB S)  (nL S) → Xi S 1 3 + 2 * nL S ≤ 199)) (d : Nat) : Mp lay0 (d + 4) m_re_tellKinds [.ref 891] S (Q_re_tellKinds__p S) := by sorry
abbrev Q_mo_lexOf__p (S : sS) (sort : Int) (ix : Int) : pst := fun r S1 => S = S1 ∧ (∃ z : Int, r = some (iv z) ∧ (-2147483648 ≤ z ∧ z ≤ 2147483647) ∧ (z = -1 → ∀ k : Nat, (k : Int) < Xi S 904 15 → ¬ (Xi S 914 k = sort ∧ Xi S 915 k = ix)) ∧ (z ≠ -1 → 0 ≤ z ∧ z < Xi S 904 15 ∧ Xi S 914 z.toNat = sort ∧ Xi S 915 z.toNat = ix))
set_option maxRecDepth 100000 in
theorem t_mo_lexOf__p {S : sS} (hH : RI S) (sort : Int) (ix : Int) (hsort : -2147483648 ≤ sort ∧ sort ≤ 2147483647) (hix : -2147483648 ≤ ix ∧ ix ≤ 2147483647) (h15 : 0 ≤ Xi S 904 15) (d : Nat) : Mp lay0 (d + 1) m_mo_lexOf [.ref 904, iv sort, iv ix] S (Q_mo_lexOf__p S sort ix) := by sorry
def md_mo_doPlural__p : List rec := [(904, 905, 15, 16), (912, 913, 0, 100000), (913, 914, 0, 100000), (914, 915, 0, 100000), (915, 916, 0, 100000), (916, 917, 0, 100000)]
abbrev Q_mo_doPlural__p (S : sS) : pst := fun r S1 => RI S1 ∧ FR md_mo_doPlural__p S S1 ∧ (r = none ∧ (RD8 S S1))
set_option maxRecDepth 100000 in
theorem t_mo_doPlural__p {S : sS} (hH : RI S) (hLS : LSP S) (h15 : 0 ≤ Xi S 904 15) (hRB : RBD S) (h15b : Xi S 904 15 ≤ 100000) (d : Nat) : Mp lay0 (d + 6) m_mo_doPlural [.ref 904] S (Q_mo_doPlural__p S) := by sorry
def md_mo_does__8 : List rec := [(904, 905, 15, 16), (904, 905, 16, 17), (904, 905, 18, 19), (904, 905, 19, 20), (904, 905, 23, 24), (904, 905, 30, 31), (904, 905, 32, 33), (904, 905, 41, 42), (904, 905, 47, 48), (904, 905, 49, 50), (904, 905, 51, 52), (904, 905, 55, 56), (904, 905, 60, 61), (904, 905, 64, 65), (904, 905, 73, 74), (904, 905, 105, 106), (904, 905, 106, 107), (904, 905, 113, 114), (904, 905, 117, 118), (912, 913, 0, 100000), (913, 914, 0, 100000), (914, 915, 0, 100000), (915, 916, 0, 100000), (916, 917, 0, 100000), (917, 918, 0, 100000), (918, 919, 0, 100000), (919, 920, 0, 100000), (920, 921, 0, 100000), (921, 922, 0, 100000), (922, 923, 0, 100000), (923, 924, 0, 100000), (924, 925, 0, 100000), (925, 926, 0, 100000), (926, 927, 0, 100000), (927, 928, 0, 100000), (928, 929, 0, 100000), (929, 930, 0, 100000), (930, 931, 0, 100000), (931, 932, 0, 100000), (932, 933, 0, 100000), (933, 934, 0, 100000), (934, 935, 0, 100000), (935, 936, 0, 100000), (936, 937, 0, 100000), (937, 938, 0, 100000), (938, 939, 0, 100000), (939, 940, 0, 100000), (940, 941, 0, 100000), (941, 942, 0, 100000), (942, 943, 0, 100000), (943, 944, 0, 100000), (944, 945, 0, 100000), (945, 946, 0, 100000), (946, 947, 0, 100000), (947, 948, 0, 100000), (948, 949, 0, 100000), (949, 950, 0, 100000)]
abbrev Q_mo_does__8 (S : sS) (first : Int) : pst := fun r S1 => RI S1 ∧ FR md_mo_does__8 S S1 ∧ (r = none ∧ (RD8 S S1))
set_option maxRecDepth 100000 in
theorem t_mo_does__8 {S : sS} (hH : RI S) (first : Int) (hfirst : 0 ≤ first ∧ first ≤ 5001) (hLS : LSP S) (h15 : 0 ≤ Xi S 904 15) (hRB : RBD S) (hs : Xi S 904 70 = 8) (h15b : Xi S 904 15 ≤ 100000) (d : Nat) : Mp lay0 (d + 8) m_mo_does [.ref 904, iv first] S (Q_mo_does__8 S first) := by sorry
end
end
section
section
def md_mo_doKinds__p : List rec := [(904, 905, 15, 16), (904, 905, 16, 17), (904, 905, 18, 19), (912, 913, 0, 100000), (913, 914, 0, 100000), (914, 915, 0, 100000), (915, 916, 0, 100000), (916, 917, 0, 100000), (917, 918, 0, 100000), (926, 927, 0, 100000), (929, 930, 0, 100000), (933, 934, 0, 100000)]
abbrev Q_mo_doKinds__p (S : sS) : pst := fun r S1 => RI S1 ∧ FR md_mo_doKinds__p S S1 ∧ (r = none ∧ (RD10 S S1))
set_option maxRecDepth 100000 in
theorem t_mo_doKinds__p {S : sS} (hH : RI S) (hLS : LSP S) (h15 : 0 ≤ Xi S 904 15) (hRB : RBD S) (hLX : LXR S) (hl : 0 ≤ Xi S 904 71 ∧ Xi S 904 71 ≤ 2600 ∧ 0 ≤ Xi S 904 72 ∧ Xi S 904 72 ≤ 2600) (ha : 0 ≤ Xi S 904 16 ∧ Xi S 904 16 ≤ 16 ∧ 0 ≤ Xi S 904 18 ∧ Xi S 904 18 ≤ 8) (hb : cKR S + Xi S 904 72 ≤ 16) (h15b : Xi S 904 15 ≤ 100000) (d : Nat) : Mp lay0 (d + 5) m_mo_doKinds [.ref 904] S (Q_mo_doKinds__p S) := by sorry
def md_mo_does__10 : List rec := [(904, 905, 15, 16), (904, 905, 16, 17), (904, 905, 18, 19), (904, 905, 19, 20), (904, 905, 23, 24), (904, 905, 30, 31), (904, 905, 32, 33), (904, 905, 41, 42), (904, 905, 47, 48), (904, 905, 49, 50), (904, 905, 51, 52), (904, 905, 55, 56), (904, 905, 60, 61), (904, 905, 64, 65), (904, 905, 73, 74), (904, 905, 105, 106), (904, 905, 106, 107), (904, 905, 113, 114), (904, 905, 117, 118), (912, 913, 0, 100000), (913, 914, 0, 100000), (914, 915, 0, 100000), (915, 916, 0, 100000), (916, 917, 0, 100000), (917, 918, 0, 100000), (918, 919, 0, 100000), (919, 920, 0, 100000), (920, 921, 0, 100000), (921, 922, 0, 100000), (922, 923, 0, 100000), (923, 924, 0, 100000), (924, 925, 0, 100000), (925, 926, 0, 100000), (926, 927, 0, 100000), (927, 928, 0, 100000), (928, 929, 0, 100000), (929, 930, 0, 100000), (930, 931, 0, 100000), (931, 932, 0, 100000), (932, 933, 0, 100000), (933, 934, 0, 100000), (934, 935, 0, 100000), (935, 936, 0, 100000), (936, 937, 0, 100000), (937, 938, 0, 100000), (938, 939, 0, 100000), (939, 940, 0, 100000), (940, 941, 0, 100000), (941, 942, 0, 100000), (942, 943, 0, 100000), (943, 944, 0, 100000), (944, 945, 0, 100000), (945, 946, 0, 100000), (946, 947, 0, 100000), (947, 948, 0, 100000), (948, 949, 0, 100000), (949, 950, 0, 100000)]
abbrev Q_mo_does__10 (S : sS) (first : Int) : pst := fun r S1 => RI S1 ∧ FR md_mo_does__10 S S1 ∧ (r = none ∧ (RD10 S S1))
set_option maxRecDepth 100000 in
theorem t_mo_does__10 {S : sS} (hH : RI S) (first : Int) (hfirst : 0 ≤ first ∧ first ≤ 5001) (hLS : LSP S) (h15 : 0 ≤ Xi S 904 15) (hRB : RBD S) (hLX : LXR S) (hl : 0 ≤ Xi S 904 71 ∧ Xi S 904 71 ≤ 2600 ∧ 0 ≤ Xi S 904 72 ∧ Xi S 904 72 ≤ 2600) (hs : Xi S 904 70 = 10) (ha : 0 ≤ Xi S 904 16 ∧ Xi S 904 16 ≤ 16 ∧ 0 ≤ Xi S 904 18 ∧ Xi S 904 18 ≤ 8) (hb : cKR S + Xi S 904 72 ≤ 16) (h15b : Xi S 904 15 ≤ 100000) (d : Nat) : Mp lay0 (d + 8) m_mo_does [.ref 904, iv first] S (Q_mo_does__10 S first) := by sorry
end
section
/-! the world: what is written, as functions of the state (class) -/
def mkO (S : sS) (o k : Int) : sS := uI (uI (uI S 21 o.toNat (Int32.ofInt k)) 22 o.toNat (Int32.ofInt 0)) 23 o.toNat (Int32.ofInt (-1))
def plO (S : sS) (o h w : Int) : sS := uI (uI S 22 o.toNat (Int32.ofInt h)) 23 o.toNat (Int32.ofInt w)
def stP (S : sS) (r p v l : Int) : sS := uI (uI (uI S (66 + r.toNat) p.toNat (Int32.ofInt 1)) (107 + r.toNat) p.toNat (Int32.ofInt v)) (148 + r.toNat) p.toNat (Int32.ofInt l)
def stA0 (S : sS) (r a h : Int) : sS := uI S (25 + r.toNat) a.toNat (Int32.ofInt (if h = 0 then -1 else 1))
def stAd (S : sS) (r a h : Int) : sS := if Xi S 11 a.toNat = -1 then stA0 S r a h else uI (stA0 S r a h) (25 + r.toNat) (Xi S 11 a.toNat).toNat (Int32.ofInt (if h = 0 then 1 else -1))
def TADC (S S1 : sS) (z r a h : Int) : Prop := (Xi S (25 + r.toNat) a.toNat = (if h = 0 then 1 else -1) → z = 0 ∧ S1 = S) ∧ (Xi S (25 + r.toNat) a.toNat ≠ (if h = 0 then 1 else -1) → z = 1 ∧ S1 = stAd S r a h)
def TKDC (S S1 : sS) (z o k : Int) : Prop := (isK S k (Xi S 21 o.toNat) = 1 → z = 1 ∧ S1 = uI S 21 o.toNat (Int32.ofInt k)) ∧ (isK S k (Xi S 21 o.toNat) ≠ 1 → z = isK S (Xi S 21 o.toNat) k ∧ S1 = S)
def TPLC (S S1 : sS) (z o h w : Int) : Prop :=
  (isK S (Xi S 21 o.toNat) 0 ≠ 1 → z = 5 ∧ S1 = S) ∧
  (isK S (Xi S 21 o.toNat) 0 = 1 → Xi S 22 o.toNat ≠ 0 → (Xi S 22 o.toNat = h ∧ Xi S 23 o.toNat = w) → z = 0 ∧ S1 = S) ∧
  (isK S (Xi S 21 o.toNat) 0 = 1 → Xi S 22 o.toNat ≠ 0 → ¬ (Xi S 22 o.toNat = h ∧ Xi S 23 o.toNat = w) → z = 5 ∧ S1 = S) ∧
  (isK S (Xi S 21 o.toNat) 0 = 1 → Xi S 22 o.toNat = 0 → isW S w o = 1 → z = 6 ∧ S1 = S) ∧
  (isK S (Xi S 21 o.toNat) 0 = 1 → Xi S 22 o.toNat = 0 → isW S w o ≠ 1 → z = 0 ∧ S1 = plO S o h w)
def TWYC (S S1 : sS) (z r d t : Int) : Prop :=
  (Xi S (196 + r.toNat) d.toNat = -1 → z = 1 ∧ S1 = uI (uI (uI S (196 + r.toNat) d.toNat (Int32.ofInt t)) (221 + r.toNat) d.toNat (Int32.ofInt (Xi S 20 12))) 20 12 (Int32.ofInt (Xi S 20 12 + 1))) ∧
  (Xi S (196 + r.toNat) d.toNat ≠ -1 → Xi S (196 + r.toNat) d.toNat = t → z = 1 ∧ S1 = S) ∧
  (Xi S (196 + r.toNat) d.toNat ≠ -1 → Xi S (196 + r.toNat) d.toNat ≠ t → z = 0 ∧ S1 = S)
theorem tadc_n {S : sS} {r a h : Int} (q : Xi S (25 + r.toNat) a.toNat = (if h = 0 then 1 else -1)) : TADC S S 0 r a h := by sorry
theorem tadc_y {S S1 : sS} {r a h : Int} (q : Xi S (25 + r.toNat) a.toNat ≠ (if h = 0 then 1 else -1)) (e : S1 = stAd S r a h) : TADC S S1 1 r a h := by sorry
/-! the reference's world -/
def rIs (S : sS) (k : Nat) (b a i : Int) : sS := if Xi S 922 a.toNat = -1 then uI S k (b + a).toNat (Int32.ofInt (if i = 0 then 2 else 1)) else uI (uI S k (b + a).toNat (Int32.ofInt (if i = 0 then 2 else 1))) k (b + Xi S 922 a.toNat).toNat (Int32.ofInt (if i = 0 then 1 else 2))
def TISR (S S1 : sS) (z : Int) (k : Nat) (b a i : Int) : Prop := (Xi S k (b + a).toNat = (if i = 0 then 1 else 2) → z = 0 ∧ S1 = S) ∧ (Xi S k (b + a).toNat ≠ (if i = 0 then 1 else 2) → z = 1 ∧ S1 = rIs S k b a i)
def AOB (S S1 : sS) (k : Int) : Prop := Xi S1 904 19 = Xi S 904 19 + 1 ∧ (Xi S1 918 (Xi S 904 19).toNat = k ∧ Xi S1 919 (Xi S 904 19).toNat = 0 ∧ Xi S1 920 (Xi S 904 19).toNat = -1) ∧ (∀ j : Nat, j ≠ (Xi S 904 19).toNat → Xi S1 918 j = Xi S 918 j ∧ Xi S1 919 j = Xi S 919 j ∧ Xi S1 920 j = Xi S 920 j) ∧ ZRO S S1 925 (24 * Xi S 904 19) 24 ∧ ZRO S S1 930 (12 * Xi S 904 19) 12

abbrev Q_wo_isA__p (S : sS) (o : Int) (kind : Int) : pst := fun r S1 => S = S1 ∧ (∃ z : Int, r = some (iv z) ∧ (0 ≤ z ∧ z ≤ 1) ∧ (z = isK S (Xi S 21 o.toNat) kind))
set_option maxRecDepth 100000 in
theorem t_wo_isA__p {S : sS} (hH : RI S) (o : Int) (kind : Int) (ho : -2147483648 ≤ o ∧ o ≤ 2147483647) (hkind : -2147483648 ≤ kind ∧ kind ≤ 2147483647) (d : Nat) : Mp lay0 (d + 2) m_wo_isA [.ref 20, iv o, iv kind] S (Q_wo_isA__p S o kind) := by sorry
def md_wo_makeObject__p : List rec := [(21, 22, 0, 100000), (22, 23, 0, 100000), (23, 24, 0, 100000)]
abbrev Q_wo_makeObject__p (S : sS) (o : Int) (kind : Int) : pst := fun r S1 => RI S1 ∧ FR md_wo_makeObject__p S S1 ∧ (r = none ∧ (S1 = mkO S o kind))
set_option maxRecDepth 100000 in
theorem t_wo_makeObject__p {S : sS} (hH : RI S) (o : Int) (kind : Int) (ho : -2147483648 ≤ o ∧ o ≤ 2147483647) (hkind : -2147483648 ≤ kind ∧ kind ≤ 2147483647) (d : Nat) : Mp lay0 (d + 1) m_wo_makeObject [.ref 20, iv o, iv kind] S (Q_wo_makeObject__p S o kind) := by sorry
def md_wo_place__p : List rec := [(22, 23, 0, 100000), (23, 24, 0, 100000)]
abbrev Q_wo_place__p (S : sS) (o : Int) (how : Int) (where_ : Int) : pst := fun r S1 => RI S1 ∧ FR md_wo_place__p S S1 ∧ (r = none ∧ (S1 = plO S o how where_))
set_option maxRecDepth 100000 in
theorem t_wo_place__p {S : sS} (hH : RI S) (o : Int) (how : Int) (where_ : Int) (ho : -2147483648 ≤ o ∧ o ≤ 2147483647) (hhow : -2147483648 ≤ how ∧ how ≤ 2147483647) (hwhere_ : -2147483648 ≤ where_ ∧ where_ ≤ 2147483647) (d : Nat) : Mp lay0 (d + 1) m_wo_place [.ref 20, iv o, iv how, iv where_] S (Q_wo_place__p S o how where_) := by sorry
def md_wo_setProperty__p : List rec := [(66, 106, 0, 100000), (107, 147, 0, 100000), (148, 188, 0, 100000)]
abbrev Q_wo_setProperty__p (S : sS) (row : Int) (p : Int) (value : Int) (length : Int) : pst := fun r S1 => RI S1 ∧ FR md_wo_setProperty__p S S1 ∧ (r = none ∧ (S1 = stP S row p value length))
set_option maxRecDepth 100000 in
theorem t_wo_setProperty__p {S : sS} (hH : RI S) (row : Int) (p : Int) (value : Int) (length : Int) (hrow : 0 ≤ row ∧ row ≤ 39) (hp : -2147483648 ≤ p ∧ p ≤ 2147483647) (hvalue : -2147483648 ≤ value ∧ value ≤ 2147483647) (hlength : -2147483648 ≤ length ∧ length ≤ 2147483647) (d : Nat) : Mp lay0 (d + 1) m_wo_setProperty [.ref 20, iv row, iv p, iv value, iv length] S (Q_wo_setProperty__p S row p value length) := by sorry
def md_wo_setAdjective__p : List rec := [(25, 65, 0, 100000)]
abbrev Q_wo_setAdjective__p (S : sS) (row : Int) (a : Int) (holds : Int) : pst := fun r S1 => RI S1 ∧ FR md_wo_setAdjective__p S S1 ∧ (r = none ∧ (S1 = stAd S row a holds))
set_option maxRecDepth 100000 in
theorem t_wo_setAdjective__p {S : sS} (hH : RI S) (row : Int) (a : Int) (holds : Int) (hrow : 0 ≤ row ∧ row ≤ 39) (ha : -2147483648 ≤ a ∧ a ≤ 2147483647) (hholds : 0 ≤ holds ∧ holds ≤ 1) (d : Nat) : Mp lay0 (d + 1) m_wo_setAdjective [.ref 20, iv row, iv a, iv holds] S (Q_wo_setAdjective__p S row a holds) := by sorry
def md_wo_tellAdjective__p : List rec := [(25, 65, 0, 100000)]
abbrev Q_wo_tellAdjective__p (S : sS) (row : Int) (a : Int) (holds : Int) : pst := fun r S1 => RI S1 ∧ FR md_wo_tellAdjective__p S S1 ∧ (∃ z : Int, r = some (iv z) ∧ (0 ≤ z ∧ z ≤ 1) ∧ (TADC S S1 z row a holds))
set_option maxRecDepth 100000 in
theorem t_wo_tellAdjective__p {S : sS} (hH : RI S) (row : Int) (a : Int) (holds : Int) (hrow : 0 ≤ row ∧ row ≤ 39) (ha : -2147483648 ≤ a ∧ a ≤ 2147483647) (hholds : 0 ≤ holds ∧ holds ≤ 1) (d : Nat) : Mp lay0 (d + 2) m_wo_tellAdjective [.ref 20, iv row, iv a, iv holds] S (Q_wo_tellAdjective__p S row a holds) := by sorry
def md_wo_tellKind__p : List rec := [(21, 22, 0, 100000)]
abbrev Q_wo_tellKind__p (S : sS) (o : Int) (kind : Int) : pst := fun r S1 => RI S1 ∧ FR md_wo_tellKind__p S S1 ∧ (∃ z : Int, r = some (iv z) ∧ (0 ≤ z ∧ z ≤ 1) ∧ (TKDC S S1 z o kind))
set_option maxRecDepth 100000 in
theorem t_wo_tellKind__p {S : sS} (hH : RI S) (o : Int) (kind : Int) (ho : -2147483648 ≤ o ∧ o ≤ 2147483647) (hkind : -2147483648 ≤ kind ∧ kind ≤ 2147483647) (d : Nat) : Mp lay0 (d + 2) m_wo_tellKind [.ref 20, iv o, iv kind] S (Q_wo_tellKind__p S o kind) := by sorry
abbrev Q_wo_isWithin__p (S : sS) (o : Int) (other : Int) : pst := fun r S1 => S = S1 ∧ (∃ z : Int, r = some (iv z) ∧ (0 ≤ z ∧ z ≤ 1) ∧ (z = isW S o other))
set_option maxRecDepth 100000 in
theorem t_wo_isWithin__p {S : sS} (hH : RI S) (o : Int) (other : Int) (ho : -2147483648 ≤ o ∧ o ≤ 2147483647) (hother : -2147483648 ≤ other ∧ other ≤ 2147483647) (d : Nat) : Mp lay0 (d + 1) m_wo_isWithin [.ref 20, iv o, iv other] S (Q_wo_isWithin__p S o other) := by sorry
def md_wo_tellPlace__p : List rec := [(22, 23, 0, 100000), (23, 24, 0, 100000)]
abbrev Q_wo_tellPlace__p (S : sS) (o : Int) (how : Int) (where_ : Int) : pst := fun r S1 => RI S1 ∧ FR md_wo_tellPlace__p S S1 ∧ (∃ z : Int, r = some (iv z) ∧ (-2147483648 ≤ z ∧ z ≤ 2147483647) ∧ (TPLC S S1 z o how where_))
set_option maxRecDepth 100000 in
theorem t_wo_tellPlace__p {S : sS} (hH : RI S) (o : Int) (how : Int) (where_ : Int) (ho : -2147483648 ≤ o ∧ o ≤ 2147483647) (hhow : -2147483648 ≤ how ∧ how ≤ 2147483647) (hwhere_ : -2147483648 ≤ where_ ∧ where_ ≤ 2147483647) (d : Nat) : Mp lay0 (d + 3) m_wo_tellPlace [.ref 20, iv o, iv how, iv where_] S (Q_wo_tellPlace__p S o how where_) := by sorry
def md_wo_tellWay__p : List rec := [(20, 21, 12, 13), (196, 220, 0, 100000), (221, 245, 0, 100000)]
abbrev Q_wo_tellWay__p (S : sS) (room : Int) (dir : Int) (to : Int) : pst := fun r S1 => RI S1 ∧ FR md_wo_tellWay__p S S1 ∧ (∃ z : Int, r = some (iv z) ∧ (0 ≤ z ∧ z ≤ 1) ∧ (TWYC S S1 z room dir to))
set_option maxRecDepth 100000 in
theorem t_wo_tellWay__p {S : sS} (hH : RI S) (room : Int) (dir : Int) (to : Int) (hroom : 0 ≤ room ∧ room ≤ 23) (hdir : -2147483648 ≤ dir ∧ dir ≤ 2147483647) (hto : -2147483648 ≤ to ∧ to ≤ 2147483647) (hw : 0 ≤ Xi S 20 12 ∧ Xi S 20 12 ≤ 1000000) (d : Nat) : Mp lay0 (d + 1) m_wo_tellWay [.ref 20, iv room, iv dir, iv to] S (Q_wo_tellWay__p S room dir to) := by sorry
def md_mo_tellIs__p : List rec := [(925, 926, 0, 100000), (926, 927, 0, 100000)]
abbrev Q_mo_tellIs__p (S : sS) (base : Int) (a : Int) (iss : Int) : pst := fun r S1 => RI S1 ∧ FR md_mo_tellIs__p S S1 ∧ (∃ z : Int, r = some (iv z) ∧ (0 ≤ z ∧ z ≤ 1) ∧ (TISR S S1 z 925 base a iss))
set_option maxRecDepth 100000 in
theorem t_mo_tellIs__p {S : sS} (hH : RI S) (base : Int) (a : Int) (iss : Int) (hbase : 0 ≤ base ∧ base ≤ 1000) (ha : 0 ≤ a ∧ a ≤ 100) (hiss : 0 ≤ iss ∧ iss ≤ 1) (hct : -1 ≤ Xi S 922 a.toNat ∧ Xi S 922 a.toNat ≤ 100) (d : Nat) : Mp lay0 (d + 1) m_mo_tellIs [.ref 904, .ref 925, iv base, iv a, iv iss] S (Q_mo_tellIs__p S base a iss) := by sorry
def md_mo_tellIs__q : List rec := [(925, 926, 0, 100000), (926, 927, 0, 100000)]
abbrev Q_mo_tellIs__q (S : sS) (base : Int) (a : Int) (iss : Int) : pst := fun r S1 => RI S1 ∧ FR md_mo_tellIs__q S S1 ∧ (∃ z : Int, r = some (iv z) ∧ (0 ≤ z ∧ z ≤ 1) ∧ (TISR S S1 z 926 base a iss))
set_option maxRecDepth 100000 in
theorem t_mo_tellIs__q {S : sS} (hH : RI S) (base : Int) (a : Int) (iss : Int) (hbase : 0 ≤ base ∧ base ≤ 1000) (ha : 0 ≤ a ∧ a ≤ 100) (hiss : 0 ≤ iss ∧ iss ≤ 1) (hct : -1 ≤ Xi S 922 a.toNat ∧ Xi S 922 a.toNat ≤ 100) (d : Nat) : Mp lay0 (d + 1) m_mo_tellIs [.ref 904, .ref 926, iv base, iv a, iv iss] S (Q_mo_tellIs__q S base a iss) := by sorry
def md_mo_addObject__p : List rec := [(904, 905, 19, 20), (918, 919, 0, 100000), (919, 920, 0, 100000), (920, 921, 0, 100000), (925, 926, 0, 100000), (930, 931, 0, 100000)]
abbrev Q_mo_addObject__p (S : sS) (kind : Int) : pst := fun r S1 => RI S1 ∧ FR md_mo_addObject__p S S1 ∧ (∃ z : Int, r = some (iv z) ∧ (-2147483648 ≤ z ∧ z ≤ 2147483647) ∧ (z = Xi S 904 19) ∧ (AOB S S1 kind))
set_option maxRecDepth 100000 in
theorem t_mo_addObject__p {S : sS} (hH : RI S) (kind : Int) (hkind : -2147483648 ≤ kind ∧ kind ≤ 2147483647) (ha : 0 ≤ Xi S 904 19 ∧ Xi S 904 19 ≤ 23) (d : Nat) : Mp lay0 (d + 1) m_mo_addObject [.ref 904, iv kind] S (Q_mo_addObject__p S kind) := by sorry
end
end
section
section
/-! an object, or a new one -/
def OKA (S : sS) (f t k : Int) : Prop := fnd S 2 f t ≠ -1 ∧ (k = -1 ∨ isK S (Xi S 21 (fnd S 2 f t).toNat) k = 1)
def NWO1 (S S1 : sS) (f t : Int) : Prop := Xi S1 876 8 = 0 ∧ Xi S1 891 9 = Xi S 891 9 + 1 ∧ Xi S1 892 (Xi S 891 9).toNat = f ∧ Xi S1 893 (Xi S 891 9).toNat = t ∧ ∀ j : Nat, (j : Int) < Xi S 891 9 → Xi S1 892 j = Xi S 892 j ∧ Xi S1 893 j = Xi S 893 j
def TON (S S1 : sS) (z f t k : Int) : Prop :=
  (mnV S f t = -1 → ¬ nwC S f t → z = 0 ∧ FTO S S1 3 f) ∧
  (mnV S f t = -1 → nwC S f t → 24 ≤ Xi S 5 2 + Xi S 891 9 → z = 0 ∧ FTO S S1 9 f) ∧
  (mnV S f t = -1 → nwC S f t → Xi S 5 2 + Xi S 891 9 < 24 → z = 1 ∧ NWO1 S S1 f t) ∧
  (mnV S f t ≠ -1 → OKA S f t k → z = 1 ∧ S1 = S) ∧
  (mnV S f t ≠ -1 → ¬ OKA S f t k → z = 0 ∧ FTO S S1 4 f)
theorem ton_n {S S1 : sS} {z f t k : Int} (h : mnV S f t = -1) (n3 : ¬ nwC S f t → z = 0 ∧ FTO S S1 3 f) (n9 : nwC S f t → 24 ≤ Xi S 5 2 + Xi S 891 9 → z = 0 ∧ FTO S S1 9 f) (ok : nwC S f t → Xi S 5 2 + Xi S 891 9 < 24 → z = 1 ∧ NWO1 S S1 f t) : TON S S1 z f t k := by sorry
theorem ton_y {S : sS} {f t k : Int} (h : mnV S f t ≠ -1) (a : OKA S f t k) : TON S S 1 f t k := by sorry
theorem ton_f {S S1 : sS} {z f t k : Int} (h : mnV S f t ≠ -1) (a : ¬ OKA S f t k) (hz : z = 0) (w : FTO S S1 4 f) : TON S S1 z f t k := by sorry
/-- the second name -/
def sn2 (S : sS) : Int := if 2 ≤ nL S then kr7 (ty7 S) 1 else -1
theorem cR_run {T : Int → Int} {a : Int} (h0 : 0 ≤ a) (g : bg7 T a) : ∀ m : Nat, a + 1 + m ≤ re7 T a → cR T (a + 1 + m).toNat = cR T a.toNat + 1 := by sorry
/-- the LIST begins with its first name -/
def FN1 (S : sS) : Prop := bg7 (ty7 S) (bA (ty7 S) 0) ∧ cR (ty7 S) (bA (ty7 S) 0).toNat = 0 ∧ 0 ≤ bA (ty7 S) 0
theorem fn_c {S : sS} (h : FN1 S) : cR (ty7 S) (re7 (ty7 S) (bA (ty7 S) 0)).toNat = 1 := by sorry
theorem sn_y {S : sS} {v : Int} (c : cR (ty7 S) v.toNat = 1) (g : bg7 (ty7 S) v) (h0 : 0 ≤ v) (hv : v < Xi S 890 3) (hr : Xi S 876 7 ≤ 5130) (ht : Xi S 890 3 ≤ 5130) : v = sn2 S := by sorry
theorem sn_n {S : sS} {v : Int} (c : cR (ty7 S) v.toNat = 1) (hv : Xi S 890 3 ≤ v) : (-1 : Int) = sn2 S := by sorry
/-- an object, made if it is new -/
def OBN (S S1 : sS) (z f t k : Int) : Prop :=
  (fnd S 2 f t ≠ -1 → z = fnd S 2 f t ∧ S1 = S) ∧
  (fnd S 2 f t = -1 → z = Xi S 5 2 ∧ TN1 S S1 2 (Xi S 5 2) f t ∧ Xi S1 5 2 = Xi S 5 2 + 1 ∧ (∀ j, j ≠ 2 → Xi S1 5 j = Xi S 5 j) ∧ (Xi S1 21 (Xi S 5 2).toNat = k ∧ Xi S1 22 (Xi S 5 2).toNat = 0 ∧ Xi S1 23 (Xi S 5 2).toNat = -1) ∧ ∀ j : Nat, j ≠ (Xi S 5 2).toNat → Xi S1 21 j = Xi S 21 j ∧ Xi S1 22 j = Xi S 22 j ∧ Xi S1 23 j = Xi S 23 j)
theorem obn_y {S : sS} {z f t k : Int} (h : z = fnd S 2 f t) (q : fnd S 2 f t ≠ -1) : OBN S S z f t k := by sorry
theorem obn_n {S A S1 : sS} {z f t k : Int} {l : List rec} (q : fnd S 2 f t = -1) (e : ∃ i : Nat, NMI S A i 2 z (wRw S 879 f t 0) (wRw S 879 f t 1) (wRw S 879 f t 2)) (hz : z = Xi S 5 2) (C : Xi A 5 2 = Xi S 5 2 + 1) (O : ∀ j, j ≠ 2 → Xi A 5 j = Xi S 5 j) (F : FR l S A) (m : S1 = mkO A z k) (hr : rg k) (a : kdis l [(21, 24)] = true := by rfl) : OBN S S1 z f t k := by sorry
theorem fnd_rg {S : sS} {s a b : Int} (h : CEN S) (hs : 0 ≤ s) : -1 ≤ fnd S s a b ∧ fnd S s a b ≤ 63 := by sorry
def md_re_takeObjectOrNew__p : List rec := [(876, 877, 8, 9), (876, 877, 9, 10), (891, 892, 9, 10), (892, 893, 0, 100000), (893, 894, 0, 100000)]
abbrev Q_re_takeObjectOrNew__p (S : sS) (from_ : Int) (kind : Int) : pst := fun r S1 => RI S1 ∧ FR md_re_takeObjectOrNew__p S S1 ∧ (∃ z : Int, r = some (iv z) ∧ (0 ≤ z ∧ z ≤ 1) ∧ (TON S S1 z from_ (re7 (ty7 S) from_) kind) ∧ (z = 1 → NRB S1))
set_option maxRecDepth 100000 in
theorem t_re_takeObjectOrNew__p {S : sS} (hH : RI S) (from_ : Int) (kind : Int) (hfrom_ : 0 ≤ from_ ∧ from_ ≤ 6000) (hkind : -2147483648 ≤ kind ∧ kind ≤ 2147483647) (h13 : 0 ≤ Xi S 1 3 ∧ Xi S 1 3 ≤ 200) (hCE : CEN S) (hNB : NRB S) (hf : Xi S 876 8 = 0) (hr : Xi S 876 7 ≤ 5130) (hfr : from_ ≤ 5130) (hn0 : 0 ≤ Xi S 891 9 ∧ Xi S 891 9 ≤ 24) (hc : 0 ≤ Xi S 5 2 ∧ Xi S 5 2 ≤ 24) (d : Nat) : Mp lay0 (d + 3) m_re_takeObjectOrNew [.ref 891, iv from_, iv kind] S (Q_re_takeObjectOrNew__p S from_ kind) := by sorry
abbrev Q_re_secondName__p (S : sS) : pst := fun r S1 => S = S1 ∧ (∃ z : Int, r = some (iv z) ∧ (-2147483648 ≤ z ∧ z ≤ 2147483647) ∧ (z = sn2 S))
set_option maxRecDepth 100000 in
theorem t_re_secondName__p {S : sS} (hH : RI S) (hr : Xi S 876 7 ≤ 5130) (ht : 0 ≤ Xi S 890 3 ∧ Xi S 890 3 ≤ 5125) (hfn : FN1 S) (d : Nat) : Mp lay0 (d + 3) m_re_secondName [.ref 891] S (Q_re_secondName__p S) := by sorry
def md_re_objectOrNew__p : List rec := [(1, 2, 3, 4), (2, 3, 0, 100000), (3, 4, 0, 100000), (4, 5, 0, 100000), (5, 6, 0, 100000), (21, 22, 0, 100000), (22, 23, 0, 100000), (23, 24, 0, 100000)]
abbrev Q_re_objectOrNew__p (S : sS) (from_ : Int) (kind : Int) : pst := fun r S1 => RI S1 ∧ FR md_re_objectOrNew__p S S1 ∧ (∃ z : Int, r = some (iv z) ∧ (-2147483648 ≤ z ∧ z ≤ 2147483647) ∧ (OBN S S1 z from_ (re7 (ty7 S) from_) kind) ∧ (0 ≤ z ∧ z ≤ 63))
set_option maxRecDepth 100000 in
theorem t_re_objectOrNew__p {S : sS} (hH : RI S) (from_ : Int) (kind : Int) (hfrom_ : 0 ≤ from_ ∧ from_ ≤ 6000) (hkind : -2147483648 ≤ kind ∧ kind ≤ 2147483647) (h13 : 0 ≤ Xi S 1 3 ∧ Xi S 1 3 ≤ 200) (hCE : CEN S) (hr : Xi S 876 7 ≤ 5130) (hfr : from_ ≤ 5130) (h2 : Xi S 1 3 < 199) (hc : 0 ≤ Xi S 5 2 ∧ Xi S 5 2 ≤ 24) (d : Nat) : Mp lay0 (d + 4) m_re_objectOrNew [.ref 891, iv from_, iv kind] S (Q_re_objectOrNew__p S from_ kind) := by sorry
/-! 14: ways -/
def n14 (S : sS) : Int := bA (ty7 S) 0
def e14 (S : sS) : Int := re7 (ty7 S) (n14 S)
def o14 (S : sS) : Int := re7 (ty7 S) (Xi S 890 3 + 1)
def d14 (S : sS) : Int := fnd S 14 (Xi S 890 3 + 1) (o14 S)
def l14 (S : sS) : Int := bA (ty7 S) (o14 S + 1)
def s14 (S : sS) : Int := fnd S 2 (l14 S) (re7 (ty7 S) (l14 S))
def OKW (S : sS) (k : Int) : Prop := (mnV S (n14 S) (e14 S) = -1 ∧ nwC S (n14 S) (e14 S) ∧ Xi S 5 2 < 24) ∨ (mnV S (n14 S) (e14 S) ≠ -1 ∧ OKA S (n14 S) (e14 S) k)
def OKS (S : sS) : Prop := s14 S ≠ -1 ∧ isK S (Xi S 21 (s14 S).toNat) 1 = 1
def OBX (S S1 : sS) (z f t k : Int) : Prop :=
  (fnd S 2 f t ≠ -1 → z = fnd S 2 f t ∧ SMV S S1 ∧ (∀ j, Xi S1 5 j = Xi S 5 j) ∧ ∀ j, Xi S1 21 j = Xi S 21 j ∧ Xi S1 22 j = Xi S 22 j ∧ Xi S1 23 j = Xi S 23 j) ∧
  (fnd S 2 f t = -1 → z = Xi S 5 2 ∧ TN1 S S1 2 (Xi S 5 2) f t ∧ Xi S1 5 2 = Xi S 5 2 + 1 ∧ (∀ j, j ≠ 2 → Xi S1 5 j = Xi S 5 j) ∧ (Xi S1 21 (Xi S 5 2).toNat = k ∧ Xi S1 22 (Xi S 5 2).toNat = 0 ∧ Xi S1 23 (Xi S 5 2).toNat = -1) ∧ ∀ j : Nat, j ≠ (Xi S 5 2).toNat → Xi S1 21 j = Xi S 21 j ∧ Xi S1 22 j = Xi S 22 j ∧ Xi S1 23 j = Xi S 23 j)
/-- a state that differs in nothing of the words, the counts, the objects -/
def SMO (S P : sS) : Prop := SMV S P ∧ (∀ j, Xi P 5 j = Xi S 5 j) ∧ ∀ j, Xi P 21 j = Xi S 21 j ∧ Xi P 22 j = Xi S 22 j ∧ Xi P 23 j = Xi S 23 j
theorem SMO.rf {S : sS} : SMO S S := by sorry
theorem SMO_FR {l : List rec} {S T : sS} (h : FR l S T) (e1 : kdis l [(2, 6), (21, 24), (879, 880)] = true) (e2 : mdf l 1 3 = false) : SMO S T := by sorry
theorem obx_of {S P A S1 : sS} {z f t k : Int} (s : SMO S P) (o : OBN P A z f t k) (m : SMO A S1) : OBX S S1 z f t k := by sorry
def SWY (S P : sS) : Prop := Xi P 20 12 = Xi S 20 12 ∧ ∀ k j : Nat, 196 ≤ k → k < 246 → Xi P k j = Xi S k j
def TWX (S S1 : sS) (r d t : Int) : Prop := (Xi S (196 + r.toNat) d.toNat = -1 → Xi S1 (196 + r.toNat) d.toNat = t ∧ Xi S1 (221 + r.toNat) d.toNat = Xi S 20 12 ∧ Xi S1 20 12 = Xi S 20 12 + 1 ∧ ∀ k j : Nat, 196 ≤ k → k < 246 → ¬ (k = 196 + r.toNat ∧ j = d.toNat) → ¬ (k = 221 + r.toNat ∧ j = d.toNat) → Xi S1 k j = Xi S k j) ∧ (Xi S (196 + r.toNat) d.toNat ≠ -1 → SWY S S1)
/-- 14: what the class does -/
def TW14 (S S1 : sS) (z : Int) : Prop :=
  (mnV S (n14 S) (e14 S) = -1 → ¬ nwC S (n14 S) (e14 S) → z = 0 ∧ FTO S S1 3 (n14 S)) ∧
  (mnV S (n14 S) (e14 S) = -1 → nwC S (n14 S) (e14 S) → 24 ≤ Xi S 5 2 → z = 0 ∧ FTO S S1 9 (n14 S)) ∧
  (mnV S (n14 S) (e14 S) ≠ -1 → ¬ OKA S (n14 S) (e14 S) 1 → z = 0 ∧ FTO S S1 4 (n14 S)) ∧
  (OKW S 1 → sn2 S ≠ -1 → z = 0 ∧ FTO S S1 4 (sn2 S)) ∧
  (OKW S 1 → sn2 S = -1 → d14 S = -1 → z = 0 ∧ FTO S S1 4 (Xi S 890 3 + 1)) ∧
  (OKW S 1 → sn2 S = -1 → d14 S ≠ -1 → ¬ OKS S → z = 0 ∧ FTO S S1 4 (l14 S)) ∧
  (OKW S 1 → sn2 S = -1 → d14 S ≠ -1 → OKS S → ∃ o : Int, (fnd S 2 (n14 S) (e14 S) ≠ -1 → o = fnd S 2 (n14 S) (e14 S)) ∧ (fnd S 2 (n14 S) (e14 S) = -1 → o = Xi S 5 2) ∧ ((Xi S (196 + (s14 S).toNat) (d14 S).toNat = -1 ∨ Xi S (196 + (s14 S).toNat) (d14 S).toNat = o) → z = 1 ∧ Xi S1 876 8 = 0 ∧ OBX S S1 o (n14 S) (e14 S) 1 ∧ TWX S S1 (s14 S) (d14 S) o ∧ Xi S1 891 10 = o) ∧ (¬ (Xi S (196 + (s14 S).toNat) (d14 S).toNat = -1 ∨ Xi S (196 + (s14 S).toNat) (d14 S).toNat = o) → z = 0 ∧ FTO S S1 5 (n14 S)))
theorem tw_1 {S S1 : sS} {z : Int} (o : TON S S1 z (n14 S) (e14 S) 1) (h9 : Xi S 891 9 = 0) (hz : z = 0) : TW14 S S1 0 := by sorry
theorem okw_of {S S1 : sS} {z : Int} (o : TON S S1 z (n14 S) (e14 S) 1) (h9 : Xi S 891 9 = 0) (hz : z ≠ 0) : OKW S 1 := by sorry
theorem okw_3 {S S1 : sS} {z : Int} (k : OKW S 1) (r : (sn2 S ≠ -1 → z = 0 ∧ FTO S S1 4 (sn2 S)) ∧ (sn2 S = -1 → d14 S = -1 → z = 0 ∧ FTO S S1 4 (Xi S 890 3 + 1)) ∧ (sn2 S = -1 → d14 S ≠ -1 → ¬ OKS S → z = 0 ∧ FTO S S1 4 (l14 S)) ∧ (sn2 S = -1 → d14 S ≠ -1 → OKS S → ∃ o : Int, (fnd S 2 (n14 S) (e14 S) ≠ -1 → o = fnd S 2 (n14 S) (e14 S)) ∧ (fnd S 2 (n14 S) (e14 S) = -1 → o = Xi S 5 2) ∧ ((Xi S (196 + (s14 S).toNat) (d14 S).toNat = -1 ∨ Xi S (196 + (s14 S).toNat) (d14 S).toNat = o) → z = 1 ∧ Xi S1 876 8 = 0 ∧ OBX S S1 o (n14 S) (e14 S) 1 ∧ TWX S S1 (s14 S) (d14 S) o ∧ Xi S1 891 10 = o) ∧ (¬ (Xi S (196 + (s14 S).toNat) (d14 S).toNat = -1 ∨ Xi S (196 + (s14 S).toNat) (d14 S).toNat = o) → z = 0 ∧ FTO S S1 5 (n14 S)))) : TW14 S S1 z := by sorry
theorem swy_fr {l : List rec} {S T : sS} (h : FR l S T) (e1 : kdis l [(196, 246)] = true) (e2 : mdf l 20 12 = false) : SWY S T := by sorry
theorem SWY.tr {S U V : sS} (h : SWY S U) (k : SWY U V) : SWY S V := by sorry
theorem tww {S P S1 : sS} {z r d t : Int} (s : SWY S P) (w : TWYC P S1 z r d t) (hr : 0 ≤ r ∧ r ≤ 23) (ht : rg t) (h12 : rg (Xi S 20 12 + 1)) (h13 : rg (Xi S 20 12)) : ((Xi S (196 + r.toNat) d.toNat = -1 ∨ Xi S (196 + r.toNat) d.toNat = t) → z = 1 ∧ TWX S S1 r d t ∧ (∀ k j : Nat, (k < 20 ∨ (20 < k ∧ k < 196) ∨ 246 ≤ k) → Xi S1 k j = Xi P k j) ∧ ∀ k j, Xj S1 k j = Xj P k j) ∧ (¬ (Xi S (196 + r.toNat) d.toNat = -1 ∨ Xi S (196 + r.toNat) d.toNat = t) → z = 0 ∧ S1 = P) := by sorry
theorem smo_w {S P S1 : sS} (h : SMO S P) (a : ∀ k j : Nat, (k < 20 ∨ (20 < k ∧ k < 196) ∨ 246 ≤ k) → Xi S1 k j = Xi P k j) (b : ∀ k j, Xj S1 k j = Xj P k j) : SMO S S1 := by sorry
/-- the end of 14 -/
theorem tw_end {S P A U S1 : sS} {o z9 : Int} {l0 l1 : List rec} (F0 : FR l0 S P) (ob : OBN P A o (n14 S) (e14 S) 1) (F1 : FR l1 P A) (e : U = uI A 891 10 (Int32.ofInt o)) (w : TWYC U S1 z9 (s14 S) (d14 S) o) (hs : 0 ≤ s14 S ∧ s14 S ≤ 23) (ho : 0 ≤ o ∧ o ≤ 63) (h12 : 0 ≤ Xi S 20 12 ∧ Xi S 20 12 ≤ 1000000) (f8 : Xi P 876 8 = 0) (a0 : kdis l0 [(2, 6), (21, 24), (879, 880)] = true := by rfl) (a1 : mdf l0 1 3 = false := by rfl) (a2 : kdis l0 [(196, 246)] = true := by rfl) (a3 : mdf l0 20 12 = false := by rfl) (a4 : kdis l1 [(196, 246)] = true := by rfl) (a5 : mdf l1 20 12 = false := by rfl) (a6 : mdf l1 876 8 = false := by rfl) : (fnd S 2 (n14 S) (e14 S) ≠ -1 → o = fnd S 2 (n14 S) (e14 S)) ∧ (fnd S 2 (n14 S) (e14 S) = -1 → o = Xi S 5 2) ∧ ((Xi S (196 + (s14 S).toNat) (d14 S).toNat = -1 ∨ Xi S (196 + (s14 S).toNat) (d14 S).toNat = o) → z9 = 1 ∧ Xi S1 876 8 = 0 ∧ OBX S S1 o (n14 S) (e14 S) 1 ∧ TWX S S1 (s14 S) (d14 S) o ∧ Xi S1 891 10 = o) ∧ (¬ (Xi S (196 + (s14 S).toNat) (d14 S).toNat = -1 ∨ Xi S (196 + (s14 S).toNat) (d14 S).toNat = o) → z9 = 0 ∧ S1 = U) := by sorry
theorem ton_8 {S S1 : sS} {z f t k : Int} (o : TON S S1 z f t k) (hz : z ≠ 0) (hf : Xi S 876 8 = 0) (h9 : Xi S 891 9 = 0) : Xi S1 876 8 = 0 := by sorry
theorem isKn_f7 {l : List rec} {S T : sS} {o : Int} (h : FR l S T) (e : kdis l [(6, 7)] = true) : ∀ (n : Nat) (k : Int), isKn T o n k = isKn S o n k := by sorry
theorem isK_f7 {l : List rec} {S T : sS} (h : FR l S T) (e : kdis l [(6, 7)] = true) (a b : Int) : isK T a b = isK S a b := by sorry
theorem pc7_w {S S1 : sS} {j : Nat} {v : Int32} (e : S1 = uI S 891 j v) (r : Int) : pc7 S1 r = pc7 S r := by sorry
def md_re_tellWay__p : List rec := [(1, 2, 3, 4), (2, 3, 0, 100000), (3, 4, 0, 100000), (4, 5, 0, 100000), (5, 6, 0, 100000), (20, 21, 12, 13), (21, 22, 0, 100000), (22, 23, 0, 100000), (23, 24, 0, 100000), (196, 220, 0, 100000), (221, 245, 0, 100000), (876, 877, 8, 9), (876, 877, 9, 10), (891, 892, 9, 10), (891, 892, 10, 11), (892, 893, 0, 100000), (893, 894, 0, 100000)]
abbrev Q_re_tellWay__p (S : sS) : pst := fun r S1 => RI S1 ∧ FR md_re_tellWay__p S S1 ∧ (∃ z : Int, r = some (iv z) ∧ (0 ≤ z ∧ z ≤ 1) ∧ (TW14 S S1 z))
set_option maxRecDepth 100000 in
theorem t_re_tellWay__p {S : sS} (hH : RI S) (h13 : 0 ≤ Xi S 1 3 ∧ Xi S 1 3 ≤ 200) (hCE : CEN S) (hNB : NRB S) (hf : Xi S 876 8 = 0) (hr : Xi S 876 7 ≤ 5130) (ht : 0 ≤ Xi S 890 3 ∧ Xi S 890 3 ≤ 5125) (hn0 : Xi S 891 9 = 0) (h2 : Xi S 1 3 < 199) (hfn : FN1 S) (hc : 0 ≤ Xi S 5 2 ∧ Xi S 5 2 ≤ 24) (h12 : 0 ≤ Xi S 20 12 ∧ Xi S 20 12 ≤ 1000000) (hob : Hid (fnd S 2 (l14 S) (re7 (ty7 S) (l14 S)) ≤ 23)) (ho : o14 S < Xi S 876 7) (d : Nat) : Mp lay0 (d + 5) m_re_tellWay [.ref 891] S (Q_re_tellWay__p S) := by sorry
end
section
/-! 14: the reference -/
def OKR (S : sS) (r k : Int) : Prop := rnR S r 4 ≠ -1 ∧ blR S (Xi S 918 (rnR S r 4).toNat) k = 1
def OWR (S : sS) : Prop := (rmR S (Xi S 904 71) = -1 ∧ nwR0 S (Xi S 904 71) ∧ Xi S 904 19 < 24) ∨ (rmR S (Xi S 904 71) ≠ -1 ∧ OKR S (Xi S 904 71) 1)
def W1R (S : sS) (x : Int × Int × Int) : Prop :=
  (rmR S (Xi S 904 71) = -1 → nwR0 S (Xi S 904 71) → x = if Xi S 904 19 < 24 then NT3 S else ntF (NT3 S) 9 (pR S (Xi S 904 71))) ∧
  (rmR S (Xi S 904 71) = -1 → ¬ nwR0 S (Xi S 904 71) → x = ntF (NT3 S) 3 (pR S (Xi S 904 71))) ∧
  (rmR S (Xi S 904 71) ≠ -1 → OKR S (Xi S 904 71) 1 → x = NT3 S) ∧
  (rmR S (Xi S 904 71) ≠ -1 → ¬ OKR S (Xi S 904 71) 1 → x = ntF (NT3 S) 4 (pR S (Xi S 904 71)))
def RW14 (S : sS) (x : Int × Int × Int) : Prop :=
  (rmR S (Xi S 904 71) = -1 → ¬ nwR0 S (Xi S 904 71) → NTB x 3 (pR S (Xi S 904 71))) ∧
  (rmR S (Xi S 904 71) = -1 → nwR0 S (Xi S 904 71) → 24 ≤ Xi S 904 19 → NTB x 9 (pR S (Xi S 904 71))) ∧
  (rmR S (Xi S 904 71) ≠ -1 → ¬ OKR S (Xi S 904 71) 1 → NTB x 4 (pR S (Xi S 904 71))) ∧
  (OWR S → 1 < Xi S 904 72 → NTB x 4 (pR S (Xi S 904 71 + 1))) ∧
  (OWR S → Xi S 904 72 ≤ 1 → rnR S (Xi S 904 78) 12 = -1 → NTB x 4 (pR S (Xi S 904 78))) ∧
  (OWR S → Xi S 904 72 ≤ 1 → rnR S (Xi S 904 78) 12 ≠ -1 → ¬ OKR S (Xi S 904 74) 1 → NTB x 4 (pR S (Xi S 904 74))) ∧
  (OWR S → Xi S 904 72 ≤ 1 → rnR S (Xi S 904 78) 12 ≠ -1 → OKR S (Xi S 904 74) 1 → x.1 = 0)
theorem rw14_of {S : sS} {x1 x2 x3 x4 : Int × Int × Int} (h0 : (NT3 S).1 = 0) (w : W1R S x1) (h2 : x2 = if 1 < Xi S 904 72 then ntF x1 4 (pR S (Xi S 904 71 + 1)) else x1) (h3 : x3 = if rnR S (Xi S 904 78) 12 = -1 then ntF x2 4 (pR S (Xi S 904 78)) else x2) (y4 : OKR S (Xi S 904 74) 1 → x4 = x3) (n4 : ¬ OKR S (Xi S 904 74) 1 → x4 = ntF x3 4 (pR S (Xi S 904 74))) (p1 : 1 < Xi S 904 72 → pR S (Xi S 904 71) < pR S (Xi S 904 71 + 1) ∧ pR S (Xi S 904 71 + 1) < pR S (Xi S 904 78)) (p2 : pR S (Xi S 904 71) < pR S (Xi S 904 78)) (p3 : pR S (Xi S 904 78) < pR S (Xi S 904 74)) : RW14 S x4 := by sorry
theorem blN_fr {l : List rec} {S T : sS} {o : Int} (h : FR l S T) (e : kdis l [(917, 918)] = true) : ∀ (n : Nat) (k : Int), blN T o n k = blN S o n k := by sorry
theorem blR_fr {l : List rec} {S T : sS} (h : FR l S T) (e : kdis l [(917, 918)] = true) (a b : Int) : blR T a b = blR S a b := by sorry
/-- an object, made if it is new -/
def OTR (S S1 : sS) (z r k : Int) : Prop :=
  (rnR S r 4 ≠ -1 → z = rnR S r 4 ∧ S1 = S) ∧
  (rnR S r 4 = -1 → z = Xi S 904 19 ∧ TLW S S1 S 4 (Xi S 904 19) r ∧ AOB S S1 k)
theorem aob_k {S A B : sS} {k : Int} (h : AOB S A k) (a : Xi B 904 19 = Xi A 904 19) (c : ∀ i j : Nat, (i = 918 ∨ i = 919 ∨ i = 920 ∨ i = 925 ∨ i = 930) → Xi B i j = Xi A i j) : AOB S B k := by sorry
/-- where a way is told -/
def NWY (S : sS) (a d : Int) (n : Int) : Prop := ∀ k : Nat, (k : Int) < n → ¬ (Xi S 943 k = a ∧ Xi S 944 k = d)
def SWR (S P : sS) : Prop := Xi P 904 51 = Xi S 904 51 ∧ ∀ k j : Nat, (k = 943 ∨ k = 944 ∨ k = 945) → Xi P k j = Xi S k j
def lOT : List rec := [(904, 905, 15, 16), (904, 905, 19, 20), (912, 913, 0, 100000), (913, 914, 0, 100000), (914, 915, 0, 100000), (915, 916, 0, 100000), (916, 917, 0, 100000), (918, 919, 0, 100000), (919, 920, 0, 100000), (920, 921, 0, 100000), (925, 926, 0, 100000), (930, 931, 0, 100000)]
def RD14 (S S1 : sS) : Prop := ∃ (A : sS) (o : Int), OTR S A o (Xi S 904 71) 1 ∧ FR lOT S A ∧
  ((∃ k : Nat, (k : Int) < Xi S 904 51 ∧ Xi S 943 k = rnR S (Xi S 904 74) 4 ∧ Xi S 944 k = rnR S (Xi S 904 78) 12 ∧ ((Xi S 945 k = o → S1 = uI A 904 60 (Int32.ofInt o)) ∧ (Xi S 945 k ≠ o → NTB (NT3 S1) 5 (pR S (Xi S 904 71))))) ∨
   (NWY S (rnR S (Xi S 904 74) 4) (rnR S (Xi S 904 78) 12) (Xi S 904 51) ∧ S1 = uI (uI (uI (uI (uI A 904 60 (Int32.ofInt o)) 943 (Xi S 904 51).toNat (Int32.ofInt (rnR S (Xi S 904 74) 4))) 944 (Xi S 904 51).toNat (Int32.ofInt (rnR S (Xi S 904 78) 12))) 945 (Xi S 904 51).toNat (Int32.ofInt o)) 904 51 (Int32.ofInt (Xi S 904 51 + 1))))
theorem OKR_sm {S P : sS} {l : List rec} {r k : Int} (h : SMR S P) (F : FR l S P) (e : kdis l [(917, 919)] = true) : OKR P r k ↔ OKR S r k := by sorry
theorem RW14_sm {S P : sS} {l : List rec} {x : Int × Int × Int} (h : SMR S P) (F : FR l S P) (e : kdis l [(917, 919)] = true) (e2 : mD l [19, 71, 72, 74, 78] = true) (e3 : True = True) (r : RW14 P x) : RW14 S x := by sorry
def md_mo_askWay__p : List rec := [(904, 905, 104, 105), (904, 905, 105, 106), (904, 905, 106, 107), (904, 905, 108, 109), (966, 967, 0, 100000)]
abbrev Q_mo_askWay__p (S : sS) : pst := fun r S1 => RI S1 ∧ FR md_mo_askWay__p S S1 ∧ (r = none ∧ (RW14 S (NT3 S1)))
set_option maxRecDepth 100000 in
theorem t_mo_askWay__p {S : sS} (hH : RI S) (hLS : LSP S) (h15 : 0 ≤ Xi S 904 15) (hRB : RBD S) (hz0 : Xi S 904 106 = 0 ∧ Xi S 904 108 = 0) (hB : ABV S) (hob : 0 ≤ Xi S 904 19 ∧ Xi S 904 19 ≤ 24) (hko : Hid (∀ j : Nat, -1 ≤ Xi S 918 j ∧ Xi S 918 j ≤ 15)) (hrr : 0 ≤ Xi S 904 71 ∧ Xi S 904 71 ≤ 2600 ∧ -2 ≤ Xi S 904 78 ∧ Xi S 904 78 ≤ 2600 ∧ -1 ≤ Xi S 904 74 ∧ Xi S 904 74 ≤ 2600 ∧ 0 ≤ Xi S 904 72 ∧ Xi S 904 72 ≤ 2600) (hp : Hid ((1 < Xi S 904 72 → pR S (Xi S 904 71) < pR S (Xi S 904 71 + 1) ∧ pR S (Xi S 904 71 + 1) < pR S (Xi S 904 78)) ∧ pR S (Xi S 904 71) < pR S (Xi S 904 78) ∧ pR S (Xi S 904 78) < pR S (Xi S 904 74))) (d : Nat) : Mp lay0 (d + 5) m_mo_askWay [.ref 904] S (Q_mo_askWay__p S) := by sorry
def md_mo_asked__14 : List rec := [(904, 905, 64, 65), (904, 905, 104, 105), (904, 905, 105, 106), (904, 905, 106, 107), (904, 905, 108, 109), (904, 905, 109, 110), (904, 905, 110, 111), (904, 905, 112, 113), (904, 905, 113, 114), (904, 905, 115, 116), (904, 905, 116, 117), (904, 905, 117, 118), (904, 905, 125, 126), (904, 905, 128, 129), (904, 905, 129, 130), (904, 905, 130, 131), (904, 905, 142, 143), (904, 905, 144, 145), (904, 905, 146, 147), (904, 905, 147, 148), (904, 905, 150, 151), (904, 905, 151, 152), (904, 905, 153, 154), (904, 905, 154, 155), (904, 905, 156, 157), (904, 905, 157, 158), (904, 905, 158, 159), (904, 905, 160, 161), (966, 967, 0, 100000), (967, 968, 0, 100000), (968, 969, 0, 100000), (969, 970, 0, 100000), (970, 971, 0, 100000), (971, 972, 0, 100000), (972, 973, 0, 100000), (973, 974, 0, 100000), (974, 975, 0, 100000), (975, 976, 0, 100000), (976, 977, 0, 100000), (977, 978, 0, 100000), (978, 979, 0, 100000), (979, 980, 0, 100000), (980, 981, 0, 100000), (981, 982, 0, 100000), (982, 983, 0, 100000), (983, 984, 0, 100000), (984, 985, 0, 100000), (985, 986, 0, 100000), (986, 987, 0, 100000), (987, 988, 0, 100000), (988, 989, 0, 100000), (989, 990, 0, 100000), (990, 991, 0, 100000), (991, 992, 0, 100000), (992, 993, 0, 100000), (993, 994, 0, 100000), (994, 995, 0, 100000)]
abbrev Q_mo_asked__14 (S : sS) (first : Int) : pst := fun r S1 => RI S1 ∧ FR md_mo_asked__14 S S1 ∧ (r = none ∧ (RW14 S (NT3 S1)))
set_option maxRecDepth 100000 in
theorem t_mo_asked__14 {S : sS} (hH : RI S) (first : Int) (hfirst : 0 ≤ first ∧ first ≤ 5001) (hLS : LSP S) (h15 : 0 ≤ Xi S 904 15) (hRB : RBD S) (hs : Xi S 904 70 = 14) (hB : ABV S) (hob : 0 ≤ Xi S 904 19 ∧ Xi S 904 19 ≤ 24) (hko : Hid (∀ j : Nat, -1 ≤ Xi S 918 j ∧ Xi S 918 j ≤ 15)) (hrr : 0 ≤ Xi S 904 71 ∧ Xi S 904 71 ≤ 2600 ∧ -2 ≤ Xi S 904 78 ∧ Xi S 904 78 ≤ 2600 ∧ -1 ≤ Xi S 904 74 ∧ Xi S 904 74 ≤ 2600 ∧ 0 ≤ Xi S 904 72 ∧ Xi S 904 72 ≤ 2600) (hp : Hid ((1 < Xi S 904 72 → pR S (Xi S 904 71) < pR S (Xi S 904 71 + 1) ∧ pR S (Xi S 904 71 + 1) < pR S (Xi S 904 78)) ∧ pR S (Xi S 904 71) < pR S (Xi S 904 78) ∧ pR S (Xi S 904 78) < pR S (Xi S 904 74))) (d : Nat) : Mp lay0 (d + 13) m_mo_asked [.ref 904, iv first] S (Q_mo_asked__14 S first) := by sorry
def md_mo_objectTold__p : List rec := [(904, 905, 15, 16), (904, 905, 19, 20), (912, 913, 0, 100000), (913, 914, 0, 100000), (914, 915, 0, 100000), (915, 916, 0, 100000), (916, 917, 0, 100000), (918, 919, 0, 100000), (919, 920, 0, 100000), (920, 921, 0, 100000), (925, 926, 0, 100000), (930, 931, 0, 100000)]
abbrev Q_mo_objectTold__p (S : sS) (rn : Int) (kind : Int) : pst := fun r S1 => RI S1 ∧ FR md_mo_objectTold__p S S1 ∧ (∃ z : Int, r = some (iv z) ∧ (-2147483648 ≤ z ∧ z ≤ 2147483647) ∧ (OTR S S1 z rn kind))
set_option maxRecDepth 100000 in
theorem t_mo_objectTold__p {S : sS} (hH : RI S) (rn : Int) (kind : Int) (hrn : -2147483648 ≤ rn ∧ rn ≤ 2147483647) (hkind : -2147483648 ≤ kind ∧ kind ≤ 2147483647) (hLS : LSP S) (h15 : 0 ≤ Xi S 904 15) (hRB : RBD S) (ha : 0 ≤ Xi S 904 19 ∧ Xi S 904 19 ≤ 24) (hn : Hid (rnR S rn 4 = -1 → Xi S 904 19 ≤ 23)) (d : Nat) : Mp lay0 (d + 5) m_mo_objectTold [.ref 904, iv rn, iv kind] S (Q_mo_objectTold__p S rn kind) := by sorry
def md_mo_doWay__p : List rec := [(904, 905, 15, 16), (904, 905, 19, 20), (904, 905, 51, 52), (904, 905, 60, 61), (904, 905, 105, 106), (904, 905, 106, 107), (912, 913, 0, 100000), (913, 914, 0, 100000), (914, 915, 0, 100000), (915, 916, 0, 100000), (916, 917, 0, 100000), (918, 919, 0, 100000), (919, 920, 0, 100000), (920, 921, 0, 100000), (925, 926, 0, 100000), (930, 931, 0, 100000), (943, 944, 0, 100000), (944, 945, 0, 100000), (945, 946, 0, 100000)]
abbrev Q_mo_doWay__p (S : sS) : pst := fun r S1 => RI S1 ∧ FR md_mo_doWay__p S S1 ∧ (r = none ∧ (RD14 S S1))
set_option maxRecDepth 100000 in
theorem t_mo_doWay__p {S : sS} (hH : RI S) (hLS : LSP S) (h15 : 0 ≤ Xi S 904 15) (hRB : RBD S) (hrr : 0 ≤ Xi S 904 71 ∧ Xi S 904 71 ≤ 2600 ∧ -2 ≤ Xi S 904 78 ∧ Xi S 904 78 ≤ 2600 ∧ -1 ≤ Xi S 904 74 ∧ Xi S 904 74 ≤ 2600 ∧ 0 ≤ Xi S 904 72 ∧ Xi S 904 72 ≤ 2600) (hz0 : Xi S 904 106 = 0) (ha : 0 ≤ Xi S 904 19 ∧ Xi S 904 19 ≤ 24) (hn : Hid (rnR S (Xi S 904 71) 4 = -1 → Xi S 904 19 ≤ 23)) (hw : 0 ≤ Xi S 904 51 ∧ Xi S 904 51 ≤ 144) (d : Nat) : Mp lay0 (d + 6) m_mo_doWay [.ref 904] S (Q_mo_doWay__p S) := by sorry
def md_mo_does__14 : List rec := [(904, 905, 15, 16), (904, 905, 16, 17), (904, 905, 18, 19), (904, 905, 19, 20), (904, 905, 23, 24), (904, 905, 30, 31), (904, 905, 32, 33), (904, 905, 41, 42), (904, 905, 47, 48), (904, 905, 49, 50), (904, 905, 51, 52), (904, 905, 55, 56), (904, 905, 60, 61), (904, 905, 64, 65), (904, 905, 73, 74), (904, 905, 105, 106), (904, 905, 106, 107), (904, 905, 113, 114), (904, 905, 117, 118), (912, 913, 0, 100000), (913, 914, 0, 100000), (914, 915, 0, 100000), (915, 916, 0, 100000), (916, 917, 0, 100000), (917, 918, 0, 100000), (918, 919, 0, 100000), (919, 920, 0, 100000), (920, 921, 0, 100000), (921, 922, 0, 100000), (922, 923, 0, 100000), (923, 924, 0, 100000), (924, 925, 0, 100000), (925, 926, 0, 100000), (926, 927, 0, 100000), (927, 928, 0, 100000), (928, 929, 0, 100000), (929, 930, 0, 100000), (930, 931, 0, 100000), (931, 932, 0, 100000), (932, 933, 0, 100000), (933, 934, 0, 100000), (934, 935, 0, 100000), (935, 936, 0, 100000), (936, 937, 0, 100000), (937, 938, 0, 100000), (938, 939, 0, 100000), (939, 940, 0, 100000), (940, 941, 0, 100000), (941, 942, 0, 100000), (942, 943, 0, 100000), (943, 944, 0, 100000), (944, 945, 0, 100000), (945, 946, 0, 100000), (946, 947, 0, 100000), (947, 948, 0, 100000), (948, 949, 0, 100000), (949, 950, 0, 100000)]
abbrev Q_mo_does__14 (S : sS) (first : Int) : pst := fun r S1 => RI S1 ∧ FR md_mo_does__14 S S1 ∧ (r = none ∧ (RD14 S S1))
set_option maxRecDepth 100000 in
theorem t_mo_does__14 {S : sS} (hH : RI S) (first : Int) (hfirst : 0 ≤ first ∧ first ≤ 5001) (hLS : LSP S) (h15 : 0 ≤ Xi S 904 15) (hRB : RBD S) (hrr : 0 ≤ Xi S 904 71 ∧ Xi S 904 71 ≤ 2600 ∧ -2 ≤ Xi S 904 78 ∧ Xi S 904 78 ≤ 2600 ∧ -1 ≤ Xi S 904 74 ∧ Xi S 904 74 ≤ 2600 ∧ 0 ≤ Xi S 904 72 ∧ Xi S 904 72 ≤ 2600) (hs : Xi S 904 70 = 14) (hz0 : Xi S 904 106 = 0) (ha : 0 ≤ Xi S 904 19 ∧ Xi S 904 19 ≤ 24) (hn : Hid (rnR S (Xi S 904 71) 4 = -1 → Xi S 904 19 ≤ 23)) (hw : 0 ≤ Xi S 904 51 ∧ Xi S 904 51 ≤ 144) (d : Nat) : Mp lay0 (d + 8) m_mo_does [.ref 904, iv first] S (Q_mo_does__14 S first) := by sorry
end
end
section
section
/-! descriptions: the reference -/
def fpN (S : sS) (k t : Int) : Nat → Int
  | 0 => -1
  | m + 1 => if fpN S k t m ≠ -1 then fpN S k t m else if Xi S 928 m = t ∧ hsR S k m = 1 then (m : Int) else -1
def pyR (S : sS) (k t : Int) : Int := if k < 0 then -1 else fpN S k t (Xi S 904 32).toNat
theorem fpN_s {S : sS} {k t v : Int} (h : 0 ≤ v) : fpN S k t (v + 1).toNat = if fpN S k t v.toNat ≠ -1 then fpN S k t v.toNat else if Xi S 928 v.toNat = t ∧ hsR S k v = 1 then v else -1 := by sorry
theorem fp_mt {S : sS} {k t : Int} : ∀ m : Nat, (fpN S k t m = -1 ↔ mtN S k t m = 0) ∧ 0 ≤ mtN S k t m ∧ (fpN S k t m ≠ -1 → 0 ≤ fpN S k t m) := by sorry
noncomputable def acR (S : sS) (t m k f v : Int) : Int := if nmR S t m = -1 then -1 else if Xi S 914 (nmR S t m).toNat = 5 ∧ blR S k (Xi S 921 (Xi S 915 (nmR S t m).toNat).toNat) = 1 ∧ (f ≠ 0 ∨ Xi S 924 (Xi S 915 (nmR S t m).toNat).toNat = 0) then Xi S 915 (nmR S t m).toNat else if Xi S 914 (nmR S t m).toNat = 6 ∧ v ≠ 0 then (if pyR S k (Xi S 927 (Xi S 915 (nmR S t m).toNat).toNat) = -1 then -1 else 100 + 100 * Xi S 915 (nmR S t m).toNat + pyR S k (Xi S 927 (Xi S 915 (nmR S t m).toNat).toNat)) else -1
/-- cells that adjectives are read from -/
def AMR (S P : sS) : Prop := SMR S P ∧ Xi P 904 32 = Xi S 904 32 ∧ (∀ k j : Nat, (k = 917 ∨ k = 921 ∨ k = 924 ∨ k = 927 ∨ k = 928 ∨ k = 929) → Xi P k j = Xi S k j)
theorem AMR.rf {S : sS} : AMR S S := by sorry
theorem AMR.tr {S U V : sS} (h : AMR S U) (k : AMR U V) : AMR S V := by sorry
theorem AMR_FR {l : List rec} {S T : sS} (h : FR l S T) (e1 : kdis l [(908, 909), (910, 911), (912, 918), (921, 922), (924, 925), (927, 930), (950, 952)] = true) (e2 : mD l [15, 32] = true) : AMR S T := by sorry
theorem AMR_w {S P S1 : sS} {k j : Nat} {v : Int32} (h : AMR S P) (e : S1 = uI P k j v) (hk : (k = 904 ∧ j ≠ 15 ∧ j ≠ 32) ∨ 952 ≤ k) : AMR S S1 := by sorry
theorem blR_am {S P : sS} {a b : Int} (h : AMR S P) : blR P a b = blR S a b := by sorry
theorem hsR_am {S P : sS} {a b : Int} (h : AMR S P) : hsR P a b = hsR S a b := by sorry
theorem mtR_am {S P : sS} {a b : Int} (h : AMR S P) : mtR P a b = mtR S a b := by sorry
theorem fpN_am {S P : sS} {a b : Int} (h : AMR S P) : ∀ n : Nat, fpN P a b n = fpN S a b n := by sorry
theorem pyR_am {S P : sS} {a b : Int} (h : AMR S P) : pyR P a b = pyR S a b := by sorry
theorem adR_am {S P : sS} {t m k f v : Int} (h : AMR S P) : adR P t m k f v = adR S t m k f v := by sorry
theorem acR_am {S P : sS} {t m k f v : Int} (h : AMR S P) : acR P t m k f v = acR S t m k f v := by sorry
/-- ways of parting, at tokens -/
noncomputable def fRa (S : sS) (k d : Int) : Int → Int → Int := fun a b => adR S a (b - a) k d 1
noncomputable def gRa (S : sS) (k d : Int) : Int → Int → Int := fun a b => acR S a (b - a) k d 1
theorem fRa_am {S P : sS} {k d : Int} (h : AMR S P) : fRa P k d = fRa S k d := by sorry
theorem gRa_am {S P : sS} {k d : Int} (h : AMR S P) : gRa P k d = gRa S k d := by sorry
/-- the first part of the first reading -/
def nxt (f : Int → Int → Int) (to p : Int) : Int := if p + 1 ≤ to ∧ 0 < f p (p + 1) ∧ 0 < cpf f to (to - (p + 1)).toNat then 1 else if p + 2 ≤ to ∧ 0 < f p (p + 2) ∧ 0 < cpf f to (to - (p + 2)).toNat then 2 else 3
def prs (f g : Int → Int → Int) (to : Int) : Nat → Int → List Int
  | 0, _ => []
  | n + 1, p => if to ≤ p then [] else g p (p + nxt f to p) :: prs f g to n (p + nxt f to p)
theorem pyR_rg {S : sS} {k t : Int} : -1 ≤ pyR S k t := by sorry
theorem fpN_lt {S : sS} {k t : Int} : ∀ m : Nat, fpN S k t m < (m : Int) ∨ fpN S k t m = -1 := by sorry
theorem pyR_le {S : sS} {k t : Int} (h : 0 ≤ Xi S 904 32 ∧ Xi S 904 32 ≤ 12) : pyR S k t ≤ 12 := by sorry
theorem mtN_rg {S : sS} {k t : Int} : ∀ m : Nat, 0 ≤ mtN S k t m ∧ mtN S k t m ≤ m := by sorry
theorem mtR_rg {S : sS} {k t : Int} (h : 0 ≤ Xi S 904 32 ∧ Xi S 904 32 ≤ 12) : 0 ≤ mtR S k t ∧ mtR S k t ≤ 12 := by sorry
theorem LXR_FR {l : List rec} {S T : sS} (h : FR l S T) (e1 : kdis l [(914, 916)] = true) (e2 : mdf l 904 15 = false) (hx : LXR S) : LXR T := by sorry
def md_mo_propertyOf__p : List rec := [(904, 905, 64, 65)]
abbrev Q_mo_propertyOf__p (S : sS) (kind : Int) (type : Int) : pst := fun r S1 => RI S1 ∧ FR md_mo_propertyOf__p S S1 ∧ (∃ z : Int, r = some (iv z) ∧ (-2147483648 ≤ z ∧ z ≤ 2147483647) ∧ (Xi S1 904 64 = mtR S kind type) ∧ (z = pyR S kind type))
set_option maxRecDepth 100000 in
theorem t_mo_propertyOf__p {S : sS} (hH : RI S) (kind : Int) (type : Int) (hkind : -1 ≤ kind ∧ kind ≤ 15) (htype : -2147483648 ≤ type ∧ type ≤ 2147483647) (hB : ABV S) (hp32 : 0 ≤ Xi S 904 32 ∧ Xi S 904 32 ≤ 12) (d : Nat) : Mp lay0 (d + 2) m_mo_propertyOf [.ref 904, iv kind, iv type] S (Q_mo_propertyOf__p S kind type) := by sorry
def md_mo_adjective__p : List rec := [(904, 905, 64, 65), (904, 905, 113, 114)]
abbrev Q_mo_adjective__p (S : sS) (t : Int) (m : Int) (kind : Int) (dfd : Int) (vls : Int) : pst := fun r S1 => RI S1 ∧ FR md_mo_adjective__p S S1 ∧ (∃ z : Int, r = some (iv z) ∧ (-2147483648 ≤ z ∧ z ≤ 2147483647) ∧ (z = adR S t m kind dfd vls) ∧ (Xi S1 904 113 = acR S t m kind dfd vls))
set_option maxRecDepth 100000 in
theorem t_mo_adjective__p {S : sS} (hH : RI S) (t : Int) (m : Int) (kind : Int) (dfd : Int) (vls : Int) (ht : -2147483648 ≤ t ∧ t ≤ 2147483600) (hm : -2147483648 ≤ m ∧ m ≤ 2147483647) (hkind : -1 ≤ kind ∧ kind ≤ 15) (hdfd : 0 ≤ dfd ∧ dfd ≤ 1) (hvls : 0 ≤ vls ∧ vls ≤ 1) (hLS : LSP S) (h15 : 0 ≤ Xi S 904 15) (hLX : LXR S) (hB : ABV S) (hp32 : 0 ≤ Xi S 904 32 ∧ Xi S 904 32 ≤ 12) (d : Nat) : Mp lay0 (d + 3) m_mo_adjective [.ref 904, iv t, iv m, iv kind, iv dfd, iv vls] S (Q_mo_adjective__p S t m kind dfd vls) := by sorry
/-! one part more -/
theorem cpf_3 {f : Int → Int → Int} {z p : Int} (h : p < z) : cpf f z (z - p).toNat = (if p + 1 ≤ z then cpf f z (z - (p + 1)).toNat * f p (p + 1) else 0) + (if p + 2 ≤ z then cpf f z (z - (p + 2)).toNat * f p (p + 2) else 0) + (if p + 3 ≤ z then cpf f z (z - (p + 3)).toNat * f p (p + 3) else 0) := by sorry
/-- the sum of the first parts of less than v words -/
def csm (f : Int → Int → Int) (z p v : Int) : Int := (if 1 < v ∧ p + 1 ≤ z then cpf f z (z - (p + 1)).toNat * f p (p + 1) else 0) + (if 2 < v ∧ p + 2 ≤ z then cpf f z (z - (p + 2)).toNat * f p (p + 2) else 0) + (if 3 < v ∧ p + 3 ≤ z then cpf f z (z - (p + 3)).toNat * f p (p + 3) else 0)
theorem csm_0 {f : Int → Int → Int} {z p : Int} : csm f z p 1 = 0 := by sorry
theorem csm_s {f : Int → Int → Int} {z p v : Int} (h1 : 1 ≤ v ∧ v ≤ 3) (h2 : p + v ≤ z) : csm f z p (v + 1) = csm f z p v + cpf f z (z - (p + v)).toNat * f p (p + v) := by sorry
theorem csm_e {f : Int → Int → Int} {z p v : Int} (h : p < z) (h1 : 1 ≤ v) (hv : 3 < v ∨ z < p + v) : csm f z p v = cpf f z (z - p).toNat := by sorry
theorem cpf_nn {f : Int → Int → Int} {z : Int} (h : ∀ a b, 0 ≤ f a b) : ∀ m : Nat, 0 ≤ cpf f z m ∧ 0 ≤ cpf f z (m + 1) ∧ 0 ≤ cpf f z (m + 2) := by sorry
theorem csm_nn {f : Int → Int → Int} {z p v : Int} (h : ∀ a b, 0 ≤ f a b) : 0 ≤ csm f z p v := by sorry
/-- nothing found with less than v words: the first part has at least v -/
theorem csm_z {f : Int → Int → Int} {z p v i : Int} (h : ∀ a b, 0 ≤ f a b) (e : csm f z p v = 0) (h1 : 1 ≤ i ∧ i ≤ 3) (h2 : i < v) (h3 : p + i ≤ z) : cpf f z (z - (p + i)).toNat * f p (p + i) = 0 := by sorry
theorem mul_pos' {a b : Int} (ha : 0 < a) (hb : 0 < b) : 0 < a * b := by sorry
theorem nxt_v {f : Int → Int → Int} {z p v : Int} (h : ∀ a b, 0 ≤ f a b) (h1 : 1 ≤ v ∧ v ≤ 3) (h2 : p + v ≤ z) (e : csm f z p v = 0) (hf : 0 < f p (p + v)) (hc : 0 < cpf f z (z - (p + v)).toNat) : nxt f z p = v := by sorry
theorem RI_cpI {S : sS} {a b s t n : Nat} (h : RI S) : RI (cpI S a b s t n) := by sorry
theorem RI_cpJ {S : sS} {a b s t n : Nat} (h : RI S) : RI (cpJ S a b s t n) := by sorry
section
variable {f : Nat} {lay : Nat → Nat × Nat} {d pc : Nat} {q : mT} {L : List (Nat × Value)} {st : List Value} {S : sS} {Q : pst}
theorem y_acp {ix na : Nat} {md : mT} {a b : Nat} {x y z : Int} {S2 : sS} (hc : lk q.2.2.2.2.2 pc = some (.invokestatic ix)) (hk : kLs q.2.2.2.2.1 ix = some (9, md, na)) (hs : Nat.ble (st.map (fun v => v.category)).sum 8 = true) (he : acp lay S a (Int32.ofInt x) b (Int32.ofInt y) (Int32.ofInt z) = some S2) (h : Pl f lay d q (pc + 3) L st S2 Q) : Pl f lay d q pc L (iv z :: iv y :: .ref b :: iv x :: .ref a :: st) S Q := by sorry
end
/-! parted -/
theorem nxt_rg {f : Int → Int → Int} {z p : Int} : 1 ≤ nxt f z p ∧ nxt f z p ≤ 3 := by sorry
theorem prs_f {f g : Int → Int → Int} {z : Int} : ∀ (n m : Nat) (p : Int), z - p ≤ n → z - p ≤ m → prs f g z n p = prs f g z m p := by sorry
theorem prs_c {f g : Int → Int → Int} {z p v : Int} (h : p < z) (h5 : z - p ≤ 6) (hn : nxt f z p = v) : prs f g z 6 p = g p (p + v) :: prs f g z 6 (p + v) := by sorry
/-- what is kept of readings so far: cc found since S at level m -/
def KPD (S U : sS) (p z k m : Int) (f g : Int → Int → Int) (cc : Int) : Prop :=
  Xi U 904 109 = Xi S 904 109 + cc ∧ (∀ i : Nat, (i : Int) < m → Xi U 968 i = Xi S 968 i) ∧
  ((Xi S 904 109 ≠ 0 ∨ cc = 0) → Xi U 904 110 = Xi S 904 110 ∧ Xi U 904 112 = Xi S 904 112 ∧ ∀ j, Xi U 967 j = Xi S 967 j) ∧
  (Xi S 904 109 = 0 → 0 < cc → Xi U 904 110 = k ∧ Xi U 904 112 = m + (prs f g z 6 p).length ∧ (∀ i : Nat, (i : Int) < m → Xi U 967 i = Xi S 968 i) ∧ ∀ i : Nat, i < (prs f g z 6 p).length → Xi U 967 (m.toNat + i) = (prs f g z 6 p).getD i 0)
theorem kpd_0 {S U : sS} {p z k m : Int} {f g : Int → Int → Int} (a : ∀ j, Xi U 904 j = Xi S 904 j) (b : ∀ j, Xi U 968 j = Xi S 968 j) (c : ∀ j, Xi U 967 j = Xi S 967 j) : KPD S U p z k m f g 0 := by sorry
theorem kpd_k {S U V : sS} {p z k m cc : Int} {f g : Int → Int → Int} (h : KPD S U p z k m f g cc) (a : Xi V 904 109 = Xi U 904 109 ∧ Xi V 904 110 = Xi U 904 110 ∧ Xi V 904 112 = Xi U 904 112) (b : ∀ i : Nat, (i : Int) < m → Xi V 968 i = Xi U 968 i) (c : ∀ j, Xi V 967 j = Xi U 967 j) : KPD S V p z k m f g cc := by sorry
/-- one recursion more -/
theorem kpd_s {S U W V : sS} {p z k m v cc C A : Int} {f g : Int → Int → Int} (h : KPD S U p z k m f g cc) (e : W = uI U 968 m.toNat (Int32.ofInt A)) (r : KPD W V (p + v) z k (m + 1) f g C) (hA : A = g p (p + v)) (hr : rg A) (hm : 0 ≤ m) (h0 : 0 ≤ Xi S 904 109) (hC : 0 ≤ C) (hc : 0 ≤ cc) (hp : p < z) (h5 : z - p ≤ 6) (hn : cc = 0 → 0 < C → nxt f z p = v) : KPD S V p z k m f g (cc + C) := by sorry
theorem adR_nn {S : sS} {k d : Int} (h : 0 ≤ Xi S 904 32 ∧ Xi S 904 32 ≤ 12) (a b : Int) : 0 ≤ fRa S k d a b ∧ fRa S k d a b ≤ 12 := by sorry
theorem adR_b {S : sS} {k d a b : Int} (h : 0 ≤ Xi S 904 32 ∧ Xi S 904 32 ≤ 12) : 0 ≤ fRa S k d a b ∧ fRa S k d a b ≤ 12 := by sorry
theorem nn117 {S : sS} {k d : Int} (h : 0 ≤ Xi S 904 32 ∧ Xi S 904 32 ≤ 12) (a b : Int) : 0 ≤ fRa S k d a b := by sorry
theorem c117 {S : sS} {k d z : Int} {m : Nat} (h : 0 ≤ Xi S 904 32 ∧ Xi S 904 32 ≤ 12) : 0 ≤ cpf (fRa S k d) z m := by sorry
theorem d117 {S : sS} {k d z p w v : Int} {m : Nat} (h : 0 ≤ Xi S 904 32 ∧ Xi S 904 32 ≤ 12) (hv : 0 ≤ v) : 0 ≤ csm (fRa S k d) z p w + v * cpf (fRa S k d) z m := by sorry
theorem csm_l {f : Int → Int → Int} {z p v w C : Int} (h : ∀ a b, 0 ≤ f a b) (hw : 0 ≤ w) (hC : 0 ≤ C) (e : csm f z p v + w * C = 0) : csm f z p v = 0 := by sorry
theorem cp_i {S T : sS} (e : T = cpI S 968 967 (0 : Int).toNat (0 : Int).toNat (6 : Int).toNat) (i : Nat) (hi : (i : Int) < 6) : Xi T 967 i = Xi S 968 i := by sorry
theorem kpd_n {S S1 : sS} {p z k m : Int} {f g : Int → Int → Int} (e : S1 = uI S 904 109 (Int32.ofInt (Xi S 904 109 + 1))) (h : Xi S 904 109 ≠ 0) (hb : 0 ≤ Xi S 904 109 ∧ Xi S 904 109 + 1 ≤ 2147483647) : KPD S S1 p z k m f g 1 := by sorry
theorem kpd_b {S A B C S1 : sS} {p z k m w : Int} {f g : Int → Int → Int} (e1 : A = uI S 904 110 (Int32.ofInt k)) (e2 : B = uI A 904 112 (Int32.ofInt m)) (F : FR [(967, 968, 0, 100000)] B C) (c : ∀ i : Nat, (i : Int) < 6 → Xi C 967 i = Xi B 968 i) (e3 : S1 = uI C 904 109 (Int32.ofInt (w + 1))) (hw : w = 0 ∧ Xi S 904 109 = 0) (hk : -1 ≤ k ∧ k ≤ 15) (hm : 0 ≤ m ∧ m ≤ 6) (pp : prs f g z 6 p = []) : KPD S S1 p z k m f g 1 := by sorry
theorem csm_le {f : Int → Int → Int} {z p v : Int} (h : ∀ a b, 0 ≤ f a b) (hp : p < z) (h1 : 1 ≤ v) (h4 : v ≤ 4) : csm f z p v ≤ cpf f z (z - p).toNat := by sorry
theorem kp_b {S T : sS} {f : Int → Int → Int} {z p v w M : Int} (h : Xi T 904 109 = Xi S 904 109 + (csm f z p v + w * cpf f z (z - (p + v)).toNat)) (hs : 0 ≤ Xi S 904 109 ∧ Xi S 904 109 + cpf f z (z - p).toNat ≤ M) (hw : 0 ≤ w ∧ w < f p (p + v)) (nn : ∀ a b, 0 ≤ f a b) (hv : 1 ≤ v ∧ v ≤ 3) (hz : p + v ≤ z) : 0 ≤ Xi T 904 109 ∧ Xi T 904 109 + cpf f z (z - (p + v)).toNat ≤ M := by sorry
end
end
section
section
def md_mo_parted__p : List rec := [(904, 905, 64, 65), (904, 905, 109, 110), (904, 905, 110, 111), (904, 905, 112, 113), (904, 905, 113, 114), (967, 968, 0, 100000), (968, 969, 0, 100000)]
abbrev Q_mo_parted__p (S : sS) (from_ : Int) (to : Int) (kind : Int) (dfd : Int) (m : Int) : pst := fun r S1 => RI S1 ∧ FR md_mo_parted__p S S1 ∧ (r = none ∧ (KPD S S1 from_ to kind m (fRa S kind dfd) (gRa S kind dfd) (cpf (fRa S kind dfd) to (to - from_).toNat)))
set_option maxRecDepth 100000 in
theorem u_mo_parted__p {S : sS} (hH : RI S) (from_ : Int) (to : Int) (kind : Int) (dfd : Int) (m : Int) (hfrom_ : 0 ≤ from_ ∧ from_ ≤ 6000) (hto : 0 ≤ to ∧ to ≤ 6000) (hkind : -1 ≤ kind ∧ kind ≤ 15) (hdfd : 0 ≤ dfd ∧ dfd ≤ 1) (hm : 0 ≤ m ∧ m ≤ 6) (hLS : LSP S) (h15 : 0 ≤ Xi S 904 15) (hLX : LXR S) (hB : ABV S) (hp32 : 0 ≤ Xi S 904 32 ∧ Xi S 904 32 ≤ 12) (hft : from_ ≤ to) (hb : m + (to - from_) ≤ 6) (hb5 : to - from_ ≤ 5) (h109 : 0 ≤ Xi S 904 109 ∧ Xi S 904 109 + cpf (fRa S kind dfd) to (to - from_).toNat ≤ 2147483647) (d : Nat) (hrec : ∀ {S : sS} (_ : RI S) (from_2 : Int) (to2 : Int) (kind2 : Int) (dfd2 : Int) (m2 : Int) (hfrom_ : 0 ≤ from_2 ∧ from_2 ≤ 6000) (hto : 0 ≤ to2 ∧ to2 ≤ 6000) (hkind : -1 ≤ kind2 ∧ kind2 ≤ 15) (hdfd : 0 ≤ dfd2 ∧ dfd2 ≤ 1) (hm : 0 ≤ m2 ∧ m2 ≤ 6) (hLS : LSP S) (h15 : 0 ≤ Xi S 904 15) (hLX : LXR S) (hB : ABV S) (hp32 : 0 ≤ Xi S 904 32 ∧ Xi S 904 32 ≤ 12) (hft : from_2 ≤ to2) (hb : m2 + (to2 - from_2) ≤ 6) (hb5 : to2 - from_2 ≤ 5) (h109 : 0 ≤ Xi S 904 109 ∧ Xi S 904 109 + cpf (fRa S kind2 dfd2) to2 (to2 - from_2).toNat ≤ 2147483647), (to2 - from_2 < to - from_) → Mp lay0 (d + 3) m_mo_parted [.ref 904, iv from_2, iv to2, iv kind2, iv dfd2, iv m2] S (Q_mo_parted__p S from_2 to2 kind2 dfd2 m2)) : Mp lay0 (d + 4) m_mo_parted [.ref 904, iv from_, iv to, iv kind, iv dfd, iv m] S (Q_mo_parted__p S from_ to kind dfd m) := by sorry
theorem k_mpp (n : Nat) : ∀ (d : Nat) {S : sS} (_ : RI S) (from_ : Int) (to : Int) (kind : Int) (dfd : Int) (m : Int) (hfrom_ : 0 ≤ from_ ∧ from_ ≤ 6000) (hto : 0 ≤ to ∧ to ≤ 6000) (hkind : -1 ≤ kind ∧ kind ≤ 15) (hdfd : 0 ≤ dfd ∧ dfd ≤ 1) (hm : 0 ≤ m ∧ m ≤ 6) (hLS : LSP S) (h15 : 0 ≤ Xi S 904 15) (hLX : LXR S) (hB : ABV S) (hp32 : 0 ≤ Xi S 904 32 ∧ Xi S 904 32 ≤ 12) (hft : from_ ≤ to) (hb : m + (to - from_) ≤ 6) (hb5 : to - from_ ≤ 5) (h109 : 0 ≤ Xi S 904 109 ∧ Xi S 904 109 + cpf (fRa S kind dfd) to (to - from_).toNat ≤ 2147483647), (to - from_).toNat = n → Mp lay0 (d + n + 4) m_mo_parted [.ref 904, iv from_, iv to, iv kind, iv dfd, iv m] S (Q_mo_parted__p S from_ to kind dfd m) := by sorry
theorem t_mo_parted__p {S : sS} (hH : RI S) (from_ : Int) (to : Int) (kind : Int) (dfd : Int) (m : Int) (hfrom_ : 0 ≤ from_ ∧ from_ ≤ 6000) (hto : 0 ≤ to ∧ to ≤ 6000) (hkind : -1 ≤ kind ∧ kind ≤ 15) (hdfd : 0 ≤ dfd ∧ dfd ≤ 1) (hm : 0 ≤ m ∧ m ≤ 6) (hLS : LSP S) (h15 : 0 ≤ Xi S 904 15) (hLX : LXR S) (hB : ABV S) (hp32 : 0 ≤ Xi S 904 32 ∧ Xi S 904 32 ≤ 12) (hft : from_ ≤ to) (hb : m + (to - from_) ≤ 6) (hb5 : to - from_ ≤ 5) (h109 : 0 ≤ Xi S 904 109 ∧ Xi S 904 109 + cpf (fRa S kind dfd) to (to - from_).toNat ≤ 2147483647) (d : Nat) : Mp lay0 (d + 9) m_mo_parted [.ref 904, iv from_, iv to, iv kind, iv dfd, iv m] S (Q_mo_parted__p S from_ to kind dfd m) := by sorry
/-! describe -/
noncomputable def dkR (S : sS) (f n pl m : Int) : Int := msR S (f + n - m) m (if pl = 0 then 0 else 1)
abbrev dokR (S : sS) (f n pl al m : Int) : Prop := dkR S f n pl m ≠ -1 ∧ (al = -1 ∨ blR S (dkR S f n pl m) al = 1)
noncomputable def dcR (S : sS) (f n pl d al m : Int) : Int := if dokR S f n pl al m then cpf (fRa S (dkR S f n pl m) d) (f + n - m) (n - m).toNat else 0
noncomputable def dcT (S : sS) (f n pl d al v : Int) : Int := (if 1 < v ∧ 1 ≤ n then dcR S f n pl d al 1 else 0) + (if 2 < v ∧ 2 ≤ n then dcR S f n pl d al 2 else 0) + (if 3 < v ∧ 3 ≤ n then dcR S f n pl d al 3 else 0)
theorem dcR_nn {S : sS} {f n pl d al m : Int} (h : 0 ≤ Xi S 904 32 ∧ Xi S 904 32 ≤ 12) : 0 ≤ dcR S f n pl d al m := by sorry
theorem dcT_nn {S : sS} {f n pl d al v : Int} (h : 0 ≤ Xi S 904 32 ∧ Xi S 904 32 ≤ 12) : 0 ≤ dcT S f n pl d al v := by sorry
theorem dcT_0 {S : sS} {f n pl d al : Int} : dcT S f n pl d al 1 = 0 := by sorry
theorem dcT_s {S : sS} {f n pl d al v : Int} (h1 : 1 ≤ v ∧ v ≤ 3) (h2 : v ≤ n) : dcT S f n pl d al (v + 1) = dcT S f n pl d al v + dcR S f n pl d al v := by sorry
theorem dcT_e {S : sS} {f n pl d al v : Int} (h1 : 1 ≤ v) (hv : 3 < v ∨ n < v) : dcT S f n pl d al v = dcT S f n pl d al 4 := by sorry
/-- the one reading that is kept -/
def KRD (S U : sS) (f n pl d m : Int) : Prop := Xi U 904 110 = dkR S f n pl m ∧ Xi U 904 112 = (prs (fRa S (dkR S f n pl m) d) (gRa S (dkR S f n pl m) d) (f + n - m) 6 f).length ∧ ∀ i : Nat, i < (prs (fRa S (dkR S f n pl m) d) (gRa S (dkR S f n pl m) d) (f + n - m) 6 f).length → Xi U 967 i = (prs (fRa S (dkR S f n pl m) d) (gRa S (dkR S f n pl m) d) (f + n - m) 6 f).getD i 0
def KDS (S U : sS) (f n pl d al v : Int) : Prop :=
  Xi U 904 109 = Xi S 904 109 + dcT S f n pl d al v ∧
  ((Xi S 904 109 ≠ 0 ∨ dcT S f n pl d al v = 0) → Xi U 904 110 = Xi S 904 110 ∧ Xi U 904 112 = Xi S 904 112 ∧ ∀ j, Xi U 967 j = Xi S 967 j) ∧
  (Xi S 904 109 = 0 → 0 < dcT S f n pl d al v → ∃ m : Int, (1 ≤ m ∧ m < v ∧ m ≤ n) ∧ dcT S f n pl d al m = 0 ∧ 0 < dcR S f n pl d al m ∧ KRD S U f n pl d m)
theorem kds_0 {S : sS} {f n pl d al : Int} : KDS S S f n pl d al 1 := by sorry
theorem kds_n {S U : sS} {f n pl d al v : Int} (h : KDS S U f n pl d al v) (hv : 1 ≤ v ∧ v ≤ 3) (hn : v ≤ n) (q : ¬ dokR S f n pl al v) : KDS S U f n pl d al (v + 1) := by sorry
theorem kds_y {S U V : sS} {f n pl d al v : Int} (h : KDS S U f n pl d al v) (hv : 1 ≤ v ∧ v ≤ 3) (hn : v ≤ n) (q : dokR S f n pl al v) (k : KPD U V f (f + n - v) (dkR S f n pl v) 0 (fRa S (dkR S f n pl v) d) (gRa S (dkR S f n pl v) d) (cpf (fRa S (dkR S f n pl v) d) (f + n - v) (n - v).toNat)) (h32 : 0 ≤ Xi S 904 32 ∧ Xi S 904 32 ≤ 12) (h0 : 0 ≤ Xi S 904 109) : KDS S V f n pl d al (v + 1) := by sorry
theorem dk_rg {S : sS} {f n pl m : Int} (hx : LXR S) (h15 : 0 ≤ Xi S 904 15) (hk : ∀ k : Nat, (k : Int) < Xi S 904 15 → Xi S 914 k ≤ 1 → Xi S 915 k ≤ 15) : -1 ≤ dkR S f n pl m ∧ dkR S f n pl m ≤ 15 := by sorry
theorem cpf_up {S : sS} {k d z : Int} {m : Nat} (h : 0 ≤ Xi S 904 32 ∧ Xi S 904 32 ≤ 12) (hm : m ≤ 6) : cpf (fRa S k d) z m ≤ 4449744 := by sorry
theorem ds_b {S : sS} {f n pl d al v k M : Int} {j : Nat} (h32 : 0 ≤ Xi S 904 32 ∧ Xi S 904 32 ≤ 12) (hv : 1 ≤ v ∧ v ≤ 4) (hn : 0 ≤ n ∧ n ≤ 6) (hj : j ≤ 6) (h9 : 0 ≤ M ∧ M ≤ 1000000) : 0 ≤ M + dcT S f n pl d al v ∧ M + dcT S f n pl d al v + cpf (fRa S k d) (f + n - v) j ≤ 2147483647 := by sorry
theorem kds_e {S U : sS} {f n pl d al v : Int} (h : KDS S U f n pl d al v) (h1 : 1 ≤ v ∧ v ≤ 4) (hv : 3 < v ∨ n < v) : KDS S U f n pl d al 4 := by sorry
def md_mo_describe__p : List rec := [(904, 905, 64, 65), (904, 905, 109, 110), (904, 905, 110, 111), (904, 905, 112, 113), (904, 905, 113, 114), (967, 968, 0, 100000), (968, 969, 0, 100000)]
abbrev Q_mo_describe__p (S : sS) (from_ : Int) (m : Int) (pl : Int) (dfd : Int) (al : Int) : pst := fun r S1 => RI S1 ∧ FR md_mo_describe__p S S1 ∧ (r = none ∧ ((m ≤ 6 → KDS S S1 from_ m pl dfd al 4) ∧ (6 < m → S1 = S)))
set_option maxRecDepth 100000 in
theorem t_mo_describe__p {S : sS} (hH : RI S) (from_ : Int) (m : Int) (pl : Int) (dfd : Int) (al : Int) (hfrom_ : 0 ≤ from_ ∧ from_ ≤ 5900) (hm : 0 ≤ m ∧ m ≤ 6000) (hpl : 0 ≤ pl ∧ pl ≤ 1) (hdfd : 0 ≤ dfd ∧ dfd ≤ 1) (hal : -1 ≤ al ∧ al ≤ 15) (hLS : LSP S) (h15 : 0 ≤ Xi S 904 15) (hLX : LXR S) (hB : ABV S) (hp32 : 0 ≤ Xi S 904 32 ∧ Xi S 904 32 ≤ 12) (hkk : Hid (∀ k : Nat, (k : Int) < Xi S 904 15 → Xi S 914 k ≤ 1 → Xi S 915 k ≤ 15)) (h109 : 0 ≤ Xi S 904 109 ∧ Xi S 904 109 ≤ 1000000) (d : Nat) : Mp lay0 (d + 10) m_mo_describe [.ref 904, iv from_, iv m, iv pl, iv dfd, iv al] S (Q_mo_describe__p S from_ m pl dfd al) := by sorry
def md_mo_oneReading__p : List rec := [(904, 905, 104, 105), (904, 905, 105, 106), (904, 905, 106, 107)]
abbrev Q_mo_oneReading__p (S : sS) (t : Int) : pst := fun r S1 => RI S1 ∧ FR md_mo_oneReading__p S S1 ∧ (r = none ∧ (NT3 S1 = (if Xi S 904 109 ≤ 0 then ntF (NT3 S) 4 (Xi S 908 t.toNat) else if 2 ≤ Xi S 904 109 then ntF (NT3 S) 7 (Xi S 908 t.toNat) else NT3 S)))
set_option maxRecDepth 100000 in
theorem t_mo_oneReading__p {S : sS} (hH : RI S) (t : Int) (ht : -2147483648 ≤ t ∧ t ≤ 2147483647) (d : Nat) : Mp lay0 (d + 4) m_mo_oneReading [.ref 904, iv t] S (Q_mo_oneReading__p S t) := by sorry
/-! descriptions: the class -/
def rln (S : sS) (has t : Int) : Nat → Int → Int → Int
  | 0, _, l => l
  | n + 1, p, l => rln S has t n (p + 1) (if iandF (ishrF has p) 1 = 1 ∧ Xi S 9 p.toNat = t then p else l)
theorem rln_y {S : sS} {has t p c : Int} (hp : p < 12) (h : iandF (ishrF has p) 1 = 1 ∧ Xi S 9 p.toNat = t) : rln S has t (12 - p).toNat p c = rln S has t (12 - (p + 1)).toNat (p + 1) p := by sorry
theorem rln_n {S : sS} {has t p c : Int} (hp : p < 12) (h : ¬ (iandF (ishrF has p) 1 = 1 ∧ Xi S 9 p.toNat = t)) : rln S has t (12 - p).toNat p c = rln S has t (12 - (p + 1)).toNat (p + 1) c := by sorry
theorem rln_e {S : sS} {has t p c : Int} (hp : 12 ≤ p) : rln S has t (12 - p).toNat p c = c := by sorry
def rlF (S : sS) (k a b vals : Int) : Int := if mnV S a b / 256 ≠ 4 ∨ vals = 0 then -1 else rln S (pps S k) (Xi S 8 (mnV S a b % 256).toNat) 12 0 (-1)
theorem rl_0 {S : sS} {k a b v m : Int} (hm : mnV S a b = m) (h : m / 256 ≠ 4 ∨ v = 0) : (-1 : Int) = rlF S k a b v := by sorry
theorem rl_v {S : sS} {k a b v m p : Int} (hm : mnV S a b = m) (hp : p = pps S k) (h4 : m / 256 = 4) (hv : v ≠ 0) : rlF S k a b v = rln S p (Xi S 8 (mnV S a b % 256).toNat) (12 - 0 : Int).toNat 0 (-1) := by sorry
/-- the kinds that end a description -/
def ckC (S : sS) (t pl m : Int) : Int := fnd S (if pl = 0 then 0 else 11) (t - m) t
abbrev cokC (S : sS) (t pl al m : Int) : Prop := ckC S t pl m ≠ -1 ∧ (al = -1 ∨ isK S (ckC S t pl m) al = 1)
def ccC (S : sS) (a t pl d al m : Int) : Int := if cokC S t pl al m then cpF S (ckC S t pl m) a (t - m) d else 0
def ccT (S : sS) (a t pl d al v : Int) : Int := (if 1 < v ∧ 1 ≤ t - a then ccC S a t pl d al 1 else 0) + (if 2 < v ∧ 2 ≤ t - a then ccC S a t pl d al 2 else 0) + (if 3 < v ∧ 3 ≤ t - a then ccC S a t pl d al 3 else 0)
theorem cpF_nn {S : sS} {k a b d : Int} : 0 ≤ cpF S k a b d ∧ cpF S k a b d ≤ 4449744 := by sorry
theorem ccC_nn {S : sS} {a t pl d al m : Int} : 0 ≤ ccC S a t pl d al m ∧ ccC S a t pl d al m ≤ 4449744 := by sorry
theorem ccT_0 {S : sS} {a t pl d al : Int} : ccT S a t pl d al 1 = 0 := by sorry
theorem ccT_s {S : sS} {a t pl d al v : Int} (h1 : 1 ≤ v ∧ v ≤ 3) (h2 : v ≤ t - a) : ccT S a t pl d al (v + 1) = ccT S a t pl d al v + ccC S a t pl d al v := by sorry
theorem ccT_e {S : sS} {a t pl d al v : Int} (h1 : 1 ≤ v) (hv : 3 < v ∨ t - a < v) : ccT S a t pl d al v = ccT S a t pl d al 4 := by sorry
theorem ccT_nn {S : sS} {a t pl d al v : Int} : 0 ≤ ccT S a t pl d al v ∧ ccT S a t pl d al v ≤ 13349232 := by sorry
/-- what is counted so far, and the last that was found -/
def KCS (S U : sS) (a t pl d al v z : Int) : Prop := z = ccT S a t pl d al v ∧ (0 < z → ∃ m : Int, (1 ≤ m ∧ m < v ∧ m ≤ t - a) ∧ 0 < ccC S a t pl d al m ∧ (∀ i : Int, m < i → i < v → i ≤ t - a → ccC S a t pl d al i = 0) ∧ Xi U 895 12 = ckC S t pl m ∧ Xi U 895 13 = t - m)
theorem kcs_0 {S U : sS} {a t pl d al : Int} : KCS S U a t pl d al 1 0 := by sorry
theorem kcs_n {S U V : sS} {a t pl d al v z : Int} (h : KCS S U a t pl d al v z) (hv : 1 ≤ v ∧ v ≤ 3) (hn : v ≤ t - a) (q : ccC S a t pl d al v = 0) (e1 : Xi V 895 12 = Xi U 895 12) (e2 : Xi V 895 13 = Xi U 895 13) : KCS S V a t pl d al (v + 1) z := by sorry
theorem kcs_y {S U V : sS} {a t pl d al v z : Int} (h : KCS S U a t pl d al v z) (hv : 1 ≤ v ∧ v ≤ 3) (hn : v ≤ t - a) (q : 0 < ccC S a t pl d al v) (e1 : Xi V 895 12 = ckC S t pl v) (e2 : Xi V 895 13 = t - v) : KCS S V a t pl d al (v + 1) (z + ccC S a t pl d al v) := by sorry
theorem ccc_y {S : sS} {a t pl d al m : Int} (h : cokC S t pl al m) : ccC S a t pl d al m = cpF S (ckC S t pl m) a (t - m) d := by sorry
theorem ccc_n {S : sS} {a t pl d al m : Int} (h : ¬ cokC S t pl al m) : ccC S a t pl d al m = 0 := by sorry
def md_me_readAdjective__p : List rec := [(895, 896, 8, 9), (895, 896, 9, 10)]
abbrev Q_me_readAdjective__p (S : sS) (kind : Int) (from_ : Int) (to : Int) (vals : Int) (dfd : Int) : pst := fun r S1 => RI S1 ∧ FR md_me_readAdjective__p S S1 ∧ (∃ z : Int, r = some (iv z) ∧ (-2147483648 ≤ z ∧ z ≤ 2147483647) ∧ (z = raF S kind from_ to vals dfd) ∧ (Xi S1 895 8 = mnV S from_ to % 256) ∧ (Xi S1 895 9 = rlF S kind from_ to vals))
set_option maxRecDepth 100000 in
theorem t_me_readAdjective__p {S : sS} (hH : RI S) (kind : Int) (from_ : Int) (to : Int) (vals : Int) (dfd : Int) (hkind : -2147483648 ≤ kind ∧ kind ≤ 2147483647) (hfrom_ : -1 ≤ from_ ∧ from_ ≤ 6000) (hto : -1 ≤ to ∧ to ≤ 6000) (hvals : 0 ≤ vals ∧ vals ≤ 1) (hdfd : 0 ≤ dfd ∧ dfd ≤ 1) (h13 : 0 ≤ Xi S 1 3 ∧ Xi S 1 3 ≤ 200) (hCE : CEN S) (d : Nat) : Mp lay0 (d + 2) m_me_readAdjective [.ref 895, iv kind, iv from_, iv to, iv vals, iv dfd] S (Q_me_readAdjective__p S kind from_ to vals dfd) := by sorry
def md_me_countParts__p : List rec := [(895, 896, 8, 9), (895, 896, 9, 10), (898, 899, 0, 100000)]
abbrev Q_me_countParts__p (S : sS) (kind : Int) (from_ : Int) (to : Int) (dfd : Int) : pst := fun r S1 => RI S1 ∧ FR md_me_countParts__p S S1 ∧ (∃ z : Int, r = some (iv z) ∧ (-2147483648 ≤ z ∧ z ≤ 2147483647) ∧ (z = cpF S kind from_ to dfd) ∧ (0 ≤ to - from_ → to - from_ ≤ 6 → PRT S1 (fA S kind from_ dfd) (to - from_) (-1)))
set_option maxRecDepth 100000 in
theorem t_me_countParts__p {S : sS} (hH : RI S) (kind : Int) (from_ : Int) (to : Int) (dfd : Int) (hkind : -2147483648 ≤ kind ∧ kind ≤ 2147483647) (hfrom_ : -1 ≤ from_ ∧ from_ ≤ 5900) (hto : -1 ≤ to ∧ to ≤ 5900) (hdfd : 0 ≤ dfd ∧ dfd ≤ 1) (h13 : 0 ≤ Xi S 1 3 ∧ Xi S 1 3 ≤ 200) (hCE : CEN S) (d : Nat) : Mp lay0 (d + 3) m_me_countParts [.ref 895, iv kind, iv from_, iv to, iv dfd] S (Q_me_countParts__p S kind from_ to dfd) := by sorry
def md_me_countReadings__p : List rec := [(895, 896, 8, 9), (895, 896, 9, 10), (895, 896, 12, 13), (895, 896, 13, 14), (898, 899, 0, 100000)]
abbrev Q_me_countReadings__p (S : sS) (from_ : Int) (to : Int) (plur : Int) (dfd : Int) (least : Int) : pst := fun r S1 => RI S1 ∧ FR md_me_countReadings__p S S1 ∧ (∃ z : Int, r = some (iv z) ∧ (-2147483648 ≤ z ∧ z ≤ 2147483647) ∧ ((to - from_ ≤ 6 → KCS S S1 from_ to plur dfd least 4 z) ∧ (6 < to - from_ → z = 0)))
set_option maxRecDepth 100000 in
theorem t_me_countReadings__p {S : sS} (hH : RI S) (from_ : Int) (to : Int) (plur : Int) (dfd : Int) (least : Int) (hfrom_ : 0 ≤ from_ ∧ from_ ≤ 5140) (hto : 0 ≤ to ∧ to ≤ 5140) (hplur : 0 ≤ plur ∧ plur ≤ 1) (hdfd : 0 ≤ dfd ∧ dfd ≤ 1) (hleast : -1 ≤ least ∧ least ≤ 15) (h13 : 0 ≤ Xi S 1 3 ∧ Xi S 1 3 ≤ 200) (hCE : CEN S) (d : Nat) : Mp lay0 (d + 4) m_me_countReadings [.ref 895, iv from_, iv to, iv plur, iv dfd, iv least] S (Q_me_countReadings__p S from_ to plur dfd least) := by sorry
theorem nxt_c {f : Int → Int → Int} {z p v : Int} (h1 : 1 ≤ v ∧ v ≤ 3) (h2 : p + v ≤ z) (hn : ∀ i : Int, 1 ≤ i → i < v → cpf f z (z - (p + i)).toNat = 0 ∨ f p (p + i) = 0) (hc : 0 < cpf f z (z - (p + v)).toNat) (hf : 0 < f p (p + v)) : nxt f z p = v := by sorry
def g1C (S : sS) (a : Int) : Int → Int → Int := fun x y => mnV S (a + x) (a + y) % 256
def g2C (S : sS) (k a : Int) : Int → Int → Int := fun x y => rlF S k (a + x) (a + y) 1
/-- the parts kept so far -/
def PFX (U : sS) (f g h : Int → Int → Int) (z p : Int) : Prop := ∃ l1 l2 : List Int, prs f g z 6 0 = l1 ++ prs f g z 6 p ∧ prs f h z 6 0 = l2 ++ prs f h z 6 p ∧ Xi U 895 14 = l1.length ∧ l1.length = l2.length ∧ (∀ i : Nat, i < l1.length → Xi U 896 i = l1.getD i 0 ∧ Xi U 897 i = l2.getD i 0) ∧ (l1.length : Int) ≤ p
theorem pfx_0 {U : sS} {f g h : Int → Int → Int} {z : Int} (e : Xi U 895 14 = 0) : PFX U f g h z 0 := by sorry
theorem pfx_k {U V : sS} {f g h : Int → Int → Int} {z p : Int} (q : PFX U f g h z p) (a : Xi V 895 14 = Xi U 895 14) (b : ∀ j, Xi V 896 j = Xi U 896 j) (c : ∀ j, Xi V 897 j = Xi U 897 j) : PFX V f g h z p := by sorry
theorem getD_app {l : List Int} {x : Int} {i : Nat} : (l ++ [x]).getD i 0 = if i < l.length then l.getD i 0 else if i = l.length then x else 0 := by sorry
theorem pfx_s {U A B C : sS} {f g h : Int → Int → Int} {z p v x y c : Int} (q : PFX U f g h z p) (e1 : A = uI U 896 c.toNat (Int32.ofInt x)) (e2 : B = uI A 897 c.toNat (Int32.ofInt y)) (e3 : C = uI B 895 14 (Int32.ofInt (c + 1))) (hc : c = Xi U 895 14) (hx : x = g p (p + v)) (hy : y = h p (p + v)) (hn : nxt f z p = v) (hp : p < z) (h0 : 0 ≤ p) (h5 : z ≤ 6) (rx : rg x) (ry : rg y) : PFX C f g h z (p + v) := by sorry
/-- what is kept in the end -/
def KPC (S1 : sS) (f g h : Int → Int → Int) (z : Int) : Prop := Xi S1 895 14 = (prs f g z 6 0).length ∧ (prs f g z 6 0).length = (prs f h z 6 0).length ∧ ∀ i : Nat, i < (prs f g z 6 0).length → Xi S1 896 i = (prs f g z 6 0).getD i 0 ∧ Xi S1 897 i = (prs f h z 6 0).getD i 0
theorem kpc_of {U : sS} {f g h : Int → Int → Int} {z p : Int} (q : PFX U f g h z p) (hp : z ≤ p) : KPC U f g h z := by sorry
theorem rlF_eq {l : List rec} {S T : sS} (h : FR l S T) (e : (kdis l kA && !(mdf l 1 3)) = true) {k a b v : Int} : rlF T k a b v = rlF S k a b v := by sorry
def md_me_keepReading__p : List rec := [(895, 896, 8, 9), (895, 896, 9, 10), (895, 896, 14, 15), (896, 897, 0, 100000), (897, 898, 0, 100000), (898, 899, 0, 100000)]
abbrev Q_me_keepReading__p (S : sS) (from_ : Int) (dfd : Int) : pst := fun r S1 => RI S1 ∧ FR md_me_keepReading__p S S1 ∧ (r = none ∧ (KPC S1 (fA S (Xi S 895 12) from_ dfd) (g1C S from_) (g2C S (Xi S 895 12) from_) (Xi S 895 13 - from_)))
set_option maxRecDepth 100000 in
theorem t_me_keepReading__p {S : sS} (hH : RI S) (from_ : Int) (dfd : Int) (hfrom_ : 0 ≤ from_ ∧ from_ ≤ 5140) (hdfd : 0 ≤ dfd ∧ dfd ≤ 1) (h13 : 0 ≤ Xi S 1 3 ∧ Xi S 1 3 ≤ 200) (hCE : CEN S) (hd : from_ ≤ Xi S 895 13 ∧ Xi S 895 13 - from_ ≤ 5) (hp : 0 < cpF S (Xi S 895 12) from_ (Xi S 895 13) dfd) (d : Nat) : Mp lay0 (d + 4) m_me_keepReading [.ref 895, iv from_, iv dfd] S (Q_me_keepReading__p S from_ dfd) := by sorry
end
end
section
section
/-! properties told (class) -/
def TPC (S S1 : sS) (z r p v l : Int) : Prop :=
  (Xi S (66 + r.toNat) p.toNat = 0 → z = 1 ∧ S1 = stP S r p v l) ∧
  (Xi S (66 + r.toNat) p.toNat ≠ 0 → Xi S 9 p.toNat = 1 → z = smT S (Xi S (107 + r.toNat) p.toNat) (Xi S (148 + r.toNat) p.toNat) v l ∧ S1 = S) ∧
  (Xi S (66 + r.toNat) p.toNat ≠ 0 → Xi S 9 p.toNat ≠ 1 → z = (if Xi S (107 + r.toNat) p.toNat = v then 1 else 0) ∧ S1 = S)
def T1C (S S1 : sS) (z r a p h : Int) : Prop := (p = -1 → TADC S S1 z r a h) ∧ (p ≠ -1 → TPC S S1 z r p a 0)
theorem TXT_st {S T : sS} {v n : Int} (h : TXT S v n) (e : T.2.2 20 1 = S.2.2 20 1) : TXT T v n := by sorry
theorem tx_p {S : sS} {r p v l : Int} (h : TX S) (t : TXT S v l) (hr : 0 ≤ r ∧ r ≤ 39) (hp : 0 ≤ p ∧ p ≤ 11) (rv : rg v) (rl : rg l) : TX (stP S r p v l) := by sorry
theorem tx_a {S : sS} {r a x : Int} (h : TX S) (hr : 0 ≤ r ∧ r ≤ 39) : TX (stAd S r a x) := by sorry
theorem tpc_tx {S S1 : sS} {z r p v l : Int} (c : TPC S S1 z r p v l) (h : TX S) (t : TXT S v l) (hr : 0 ≤ r ∧ r ≤ 39) (hp : 0 ≤ p ∧ p ≤ 11) (rv : rg v) (rl : rg l) : TX S1 := by sorry
theorem tadc_tx {S S1 : sS} {z r a x : Int} (c : TADC S S1 z r a x) (h : TX S) (hr : 0 ≤ r ∧ r ≤ 39) : TX S1 := by sorry
/-- adjectives told one after the other -/
def ADC (S : sS) (o : Int) : Nat → sS → Prop
  | 0, V => V = S
  | n + 1, V => ∃ W : sS, ADC S o n W ∧ T1C W V 1 o (Xi S 896 n) (Xi S 897 n) 1
def TAC (S S1 : sS) (z o : Int) : Prop := (z = 1 → ADC S o (Xi S 895 14).toNat S1) ∧ (z = 0 → ∃ (i : Nat) (W : sS), (i : Int) < Xi S 895 14 ∧ ADC S o i W ∧ T1C W S1 0 o (Xi S 896 i) (Xi S 897 i) 1)

abbrev Q_wo_sameText__p (S : sS) (a : Int) (la : Int) (b : Int) (lb : Int) : pst := fun r S1 => S = S1 ∧ (∃ z : Int, r = some (iv z) ∧ (0 ≤ z ∧ z ≤ 1) ∧ (z = smT S a la b lb))
set_option maxRecDepth 100000 in
theorem t_wo_sameText__p {S : sS} (hH : RI S) (a : Int) (la : Int) (b : Int) (lb : Int) (ha : -2147483648 ≤ a ∧ a ≤ 2147483647) (hla : -2147483648 ≤ la ∧ la ≤ 2147483647) (hb : -2147483648 ≤ b ∧ b ≤ 2147483647) (hlb : -2147483648 ≤ lb ∧ lb ≤ 2147483647) (ha : TXT S a la) (hb : TXT S b lb) (d : Nat) : Mp lay0 (d + 1) m_wo_sameText [.ref 20, iv a, iv la, iv b, iv lb] S (Q_wo_sameText__p S a la b lb) := by sorry
def md_wo_tellProperty__p : List rec := [(66, 106, 0, 100000), (107, 147, 0, 100000), (148, 188, 0, 100000)]
abbrev Q_wo_tellProperty__p (S : sS) (row : Int) (p : Int) (value : Int) (length : Int) : pst := fun r S1 => RI S1 ∧ FR md_wo_tellProperty__p S S1 ∧ (∃ z : Int, r = some (iv z) ∧ (0 ≤ z ∧ z ≤ 1) ∧ (TPC S S1 z row p value length))
set_option maxRecDepth 100000 in
theorem t_wo_tellProperty__p {S : sS} (hH : RI S) (row : Int) (p : Int) (value : Int) (length : Int) (hrow : 0 ≤ row ∧ row ≤ 39) (hp : 0 ≤ p ∧ p ≤ 11) (hvalue : -2147483648 ≤ value ∧ value ≤ 2147483647) (hlength : -2147483648 ≤ length ∧ length ≤ 2147483647) (hX : TX S) (ht : TXT S value length) (d : Nat) : Mp lay0 (d + 2) m_wo_tellProperty [.ref 20, iv row, iv p, iv value, iv length] S (Q_wo_tellProperty__p S row p value length) := by sorry
def md_re_tellOne__p : List rec := [(25, 65, 0, 100000), (66, 106, 0, 100000), (107, 147, 0, 100000), (148, 188, 0, 100000)]
abbrev Q_re_tellOne__p (S : sS) (row : Int) (met : Int) (property : Int) (holds : Int) : pst := fun r S1 => RI S1 ∧ FR md_re_tellOne__p S S1 ∧ (∃ z : Int, r = some (iv z) ∧ (0 ≤ z ∧ z ≤ 1) ∧ (T1C S S1 z row met property holds) ∧ (TX S1))
set_option maxRecDepth 100000 in
theorem t_re_tellOne__p {S : sS} (hH : RI S) (row : Int) (met : Int) (property : Int) (holds : Int) (hrow : 0 ≤ row ∧ row ≤ 39) (hmet : -2147483648 ≤ met ∧ met ≤ 2147483647) (hproperty : -1 ≤ property ∧ property ≤ 11) (hholds : 0 ≤ holds ∧ holds ≤ 1) (hX : TX S) (d : Nat) : Mp lay0 (d + 3) m_re_tellOne [.ref 891, iv row, iv met, iv property, iv holds] S (Q_re_tellOne__p S row met property holds) := by sorry
def md_re_tellAdjectives__p : List rec := [(25, 65, 0, 100000), (66, 106, 0, 100000), (107, 147, 0, 100000), (148, 188, 0, 100000)]
abbrev Q_re_tellAdjectives__p (S : sS) (o : Int) : pst := fun r S1 => RI S1 ∧ FR md_re_tellAdjectives__p S S1 ∧ (∃ z : Int, r = some (iv z) ∧ (0 ≤ z ∧ z ≤ 1) ∧ (TAC S S1 z o) ∧ (TX S1))
set_option maxRecDepth 100000 in
theorem t_re_tellAdjectives__p {S : sS} (hH : RI S) (o : Int) (ho : 0 ≤ o ∧ o ≤ 39) (hX : TX S) (hn : 0 ≤ Xi S 895 14 ∧ Xi S 895 14 ≤ 6) (hpr : Hid (∀ i : Nat, (i : Int) < Xi S 895 14 → -1 ≤ Xi S 897 i ∧ Xi S 897 i ≤ 11)) (d : Nat) : Mp lay0 (d + 4) m_re_tellAdjectives [.ref 891, iv o] S (Q_re_tellAdjectives__p S o) := by sorry
end
section
/-! LISTS of objects, or new ones (class) -/
def mI (S : sS) (i : Nat) : Int := mnV S (kr7 (ty7 S) i) (re7 (ty7 S) (kr7 (ty7 S) i))
def nwn (S : sS) : Nat → Nat
  | 0 => 0
  | n + 1 => nwn S n + (if mI S n = -1 then 1 else 0)
def NWI (S : sS) (i : Nat) : Prop := mI S i = -1 ∧ re7 (ty7 S) (kr7 (ty7 S) i) - kr7 (ty7 S) i ≤ 3 ∧ ∀ j : Nat, j < i → mI S j = -1 → ¬ alC S (kr7 (ty7 S) j) (re7 (ty7 S) (kr7 (ty7 S) j)) (kr7 (ty7 S) i) (re7 (ty7 S) (kr7 (ty7 S) i))
def fI (S : sS) (i : Nat) : Int := fnd S 2 (kr7 (ty7 S) i) (re7 (ty7 S) (kr7 (ty7 S) i))
def OKI (S : sS) (i : Nat) : Prop := (mI S i ≠ -1 ∧ fI S i ≠ -1) ∨ (NWI S i ∧ Xi S 5 2 + nwn S i < 24)
def LOO (S : sS) (n : Nat) : Prop := ∀ i : Nat, i < n → OKI S i
def LNO (S U : sS) (n : Nat) : Prop := Xi U 891 9 = nwn S n ∧ ∀ i : Nat, i < n → mI S i = -1 → Xi U 892 (nwn S i) = kr7 (ty7 S) i ∧ Xi U 893 (nwn S i) = re7 (ty7 S) (kr7 (ty7 S) i)
def TLO (S S1 : sS) (z : Int) (N : Nat) : Prop := ∀ k : Nat, k < N → LOO S k → (mI S k ≠ -1 → fI S k = -1 → z = 0 ∧ FTO S S1 4 (kr7 (ty7 S) k)) ∧ (mI S k = -1 → ¬ NWI S k → z = 0 ∧ FTO S S1 3 (kr7 (ty7 S) k)) ∧ (NWI S k → 24 ≤ Xi S 5 2 + nwn S k → z = 0 ∧ FTO S S1 9 (kr7 (ty7 S) k))
theorem nwn_m {S : sS} {a b : Nat} (h : a ≤ b) : nwn S a ≤ nwn S b := by sorry
theorem nwn_y {S : sS} {n : Nat} (h : mI S n = -1) : nwn S (n + 1) = nwn S n + 1 := by sorry
theorem nwn_n {S : sS} {n : Nat} (h : mI S n ≠ -1) : nwn S (n + 1) = nwn S n := by sorry
theorem nwn_i {S : sS} : ∀ (n k : Nat), k < nwn S n → ∃ j : Nat, j < n ∧ mI S j = -1 ∧ nwn S j = k := by sorry
theorem nwi_of {S U : sS} {n : Nat} {a b : Int} (h : SMV S U) (l : LNO S U n) (ha : a = kr7 (ty7 S) n) (hb : b = re7 (ty7 S) (kr7 (ty7 S) n)) : nwC U a b ↔ NWI S n := by sorry
theorem lno_y {S U V : sS} {n : Nat} {a b : Int} (l : LNO S U n) (m : mI S n = -1) (ha : a = kr7 (ty7 S) n) (hb : b = re7 (ty7 S) (kr7 (ty7 S) n)) (r : Xi V 891 9 = Xi U 891 9 + 1 ∧ Xi V 892 (Xi U 891 9).toNat = a ∧ Xi V 893 (Xi U 891 9).toNat = b ∧ ∀ j : Nat, (j : Int) < Xi U 891 9 → Xi V 892 j = Xi U 892 j ∧ Xi V 893 j = Xi U 893 j) : LNO S V (n + 1) := by sorry
theorem lno_n {S U : sS} {n : Nat} (l : LNO S U n) (m : mI S n ≠ -1) : LNO S U (n + 1) := by sorry
def LSO (S U : sS) (n : Nat) : Prop := LNO S U n ∧ NRB U ∧ Xi U 876 8 = 0 ∧ (∀ k j : Nat, k < 876 → Xi U k j = Xi S k j) ∧ (∀ k j : Nat, (k < 876 ∨ (877 ≤ k ∧ k < 890)) → Xj U k j = Xj S k j) ∧ (Xi U 876 7 = Xi S 876 7 ∧ Xi U 876 5 = Xi S 876 5 ∧ Xi U 890 3 = Xi S 890 3) ∧ ∀ k j : Nat, 877 ≤ k → k < 890 → Xi U k j = Xi S k j
theorem lso_0 {S : sS} (h9 : Xi S 891 9 = 0) (hb : NRB S) (hf : Xi S 876 8 = 0) : LSO S S 0 := by sorry
theorem LSO.v {S U : sS} {n : Nat} (h : LSO S U n) : SMV S U := by sorry
theorem LSO.t {S U : sS} {n : Nat} (h : LSO S U n) : ty7 U = ty7 S := by sorry
theorem LSO.p {S U : sS} {n : Nat} (h : LSO S U n) (r : Int) : pc7 U r = pc7 S r := by sorry
theorem LSO.c {S U : sS} {n : Nat} (h : LSO S U n) (c : CEN S) : CEN U := by sorry
theorem lso_n {S U : sS} {v : Int} (g : LSO S U (cR (ty7 S) v.toNat)) (l : LOO S (cR (ty7 S) v.toNat)) (hb : ¬ bg7 (ty7 U) v) (hv : 0 ≤ v) : LSO S U (cR (ty7 S) (v + 1).toNat) ∧ LOO S (cR (ty7 S) (v + 1).toNat) := by sorry
theorem loo_s {S : sS} {n : Nat} (l : LOO S n) (h : OKI S n) : LOO S (n + 1) := by sorry
/-- one name more -/
theorem lso_t {S U V : sS} {v z : Int} {l1 : List rec} {N : Nat} (g : LSO S U (cR (ty7 S) v.toNat)) (l : LOO S (cR (ty7 S) v.toNat)) (hb : bg7 (ty7 U) v) (hv : 0 ≤ v ∧ v ≤ 5130) (hr : Xi S 876 7 ≤ 5130) (F : FR l1 U V) (o : TON U V z v (re7 (ty7 U) v) (-1)) (nb : z = 1 → NRB V) (hz : z = 0 ∨ z = 1) (a1 : kdis l1 [(0, 876), (877, 891), (894, 904)] = true := by rfl) (a2 : mdf l1 876 7 = false := by rfl) (a3 : mdf l1 876 5 = false := by rfl) : (z = 1 → LSO S V (cR (ty7 S) (v + 1).toNat) ∧ LOO S (cR (ty7 S) (v + 1).toNat)) ∧ (z = 0 → TLO S V 0 N ∧ (cR (ty7 S) v.toNat < N → ¬ LOO S N)) := by sorry
theorem tlo_y {S S1 : sS} {z : Int} {N : Nat} (l : LOO S N) : TLO S S1 z N := by sorry
def TOB (S S1 : sS) (z : Int) : Prop := TLO S S1 z (nL S) ∧ (LOO S (nL S) → z = 1 ∧ LSO S S1 (nL S)) ∧ (z = 1 → LOO S (nL S))
theorem loo_b {S : sS} {n : Nat} (l : LOO S n) : (nwn S n : Int) ≤ 24 - Xi S 5 2 ∨ nwn S n = 0 := by sorry
def md_re_takeObjects__p : List rec := [(876, 877, 8, 9), (876, 877, 9, 10), (891, 892, 9, 10), (892, 893, 0, 100000), (893, 894, 0, 100000)]
abbrev Q_re_takeObjects__p (S : sS) : pst := fun r S1 => RI S1 ∧ FR md_re_takeObjects__p S S1 ∧ (∃ z : Int, r = some (iv z) ∧ (0 ≤ z ∧ z ≤ 1) ∧ (TOB S S1 z))
set_option maxRecDepth 100000 in
theorem t_re_takeObjects__p {S : sS} (hH : RI S) (h13 : 0 ≤ Xi S 1 3 ∧ Xi S 1 3 ≤ 200) (hCE : CEN S) (hNB : NRB S) (hf : Xi S 876 8 = 0) (hr : Xi S 876 7 ≤ 5130) (ht : 0 ≤ Xi S 890 3 ∧ Xi S 890 3 ≤ 5125) (hn0 : Xi S 891 9 = 0) (hc : 0 ≤ Xi S 5 2 ∧ Xi S 5 2 ≤ 24) (d : Nat) : Mp lay0 (d + 4) m_re_takeObjects [.ref 891] S (Q_re_takeObjects__p S) := by sorry
/-! places (class) -/
def wyC (k : Int) : Int := if k = 8 then 1 else if k = 9 then 2 else if k = 29 then 3 else if k = 30 then 4 else 5
def chC (S : sS) (o h : Int) : Int := if h = 1 then (if isK S (Xi S 21 o.toNat) 2 ≠ 0 ∨ isK S (Xi S 21 o.toNat) 1 ≠ 0 then 1 else 0) else if h = 2 then isK S (Xi S 21 o.toNat) 3 else if h = 3 then isK S (Xi S 21 o.toNat) 0 else isK S (Xi S 21 o.toNat) 4
def rPl (S : sS) (a : Int) : Int := bA (ty7 S) (if ty7 S a = 8 ∨ ty7 S a = 9 then a + 1 else a + 2)
def hPl (S : sS) (a : Int) : Int := fnd S 2 (rPl S a) (re7 (ty7 S) (rPl S a))
def TPLA (S S1 : sS) (z a : Int) : Prop := ((hPl S a ≠ -1 ∧ chC S (hPl S a) (wyC (ty7 S a)) ≠ 0) → z = 1 ∧ S1 = uI (uI S 891 11 (Int32.ofInt (wyC (ty7 S a)))) 891 12 (Int32.ofInt (hPl S a))) ∧ (¬ (hPl S a ≠ -1 ∧ chC S (hPl S a) (wyC (ty7 S a)) ≠ 0) → z = 0 ∧ FTO S S1 4 (rPl S a))
theorem wy_rg {k : Int} : 1 ≤ wyC k ∧ wyC k ≤ 5 := by sorry
theorem isKn_s7 {S T : sS} (h : ∀ j, Xi T 6 j = Xi S 6 j) {a b : Int} : isK T a b = isK S a b := by sorry
theorem chC_eq {S T : sS} {o h : Int} (e : ∀ j, Xi T 6 j = Xi S 6 j) (e2 : ∀ j, Xi T 21 j = Xi S 21 j) : chC T o h = chC S o h := by sorry
theorem pl_w {S A B : sS} {w h : Int} (e1 : A = uI S 891 11 (Int32.ofInt w)) (e2 : B = uI A 891 12 (Int32.ofInt h)) : (∀ r, pc7 B r = pc7 S r) ∧ ty7 B = ty7 S ∧ SMV S B ∧ (∀ k j : Nat, k ≠ 891 → Xi B k j = Xi S k j) := by sorry
/-- a description is taken -/
def TDS (S S1 : sS) (z a t pl : Int) : Prop :=
  ((6 < t - a ∨ ccT S a t pl 0 (-1) 4 = 0) → z = 0 ∧ FTO S S1 4 a) ∧
  (t - a ≤ 6 → 1 < ccT S a t pl 0 (-1) 4 → z = 0 ∧ FTO S S1 7 a) ∧
  (t - a ≤ 6 → ccT S a t pl 0 (-1) 4 = 1 → z = 1 ∧ Xi S1 876 8 = Xi S 876 8 ∧ ∃ m : Int, (1 ≤ m ∧ m ≤ 3 ∧ m ≤ t - a) ∧ ccC S a t pl 0 (-1) m = 1 ∧ Xi S1 895 12 = ckC S t pl m ∧ Xi S1 895 13 = t - m ∧ KPC S1 (fA S (ckC S t pl m) a 0) (g1C S a) (g2C S (ckC S t pl m) a) (t - m - a))
theorem ccT_1 {S : sS} {a t pl d al m : Int} (h : ccT S a t pl d al 4 = 1) (hm : 1 ≤ m ∧ m ≤ 3) (hn : m ≤ t - a) (hp : 0 < ccC S a t pl d al m) : ccC S a t pl d al m = 1 := by sorry
theorem ccp {S : sS} {a t pl d al m : Int} (h : 0 < ccC S a t pl d al m) : cokC S t pl al m := by sorry
theorem g1C_FR {l : List rec} {S T : sS} (h : FR l S T) (e : (kdis l kA && !(mdf l 1 3)) = true) {a : Int} : g1C T a = g1C S a := by sorry
theorem g2C_FR {l : List rec} {S T : sS} (h : FR l S T) (e : (kdis l kA && !(mdf l 1 3)) = true) {k a : Int} : g2C T k a = g2C S k a := by sorry
abbrev Q_rr_wayOf__p (S : sS) (key : Int) : pst := fun r S1 => S = S1 ∧ (∃ z : Int, r = some (iv z) ∧ (-2147483648 ≤ z ∧ z ≤ 2147483647) ∧ (z = wyC key))
set_option maxRecDepth 100000 in
theorem t_rr_wayOf__p {S : sS} (hH : RI S) (key : Int) (hkey : -2147483648 ≤ key ∧ key ≤ 2147483647) (d : Nat) : Mp lay0 (d + 1) m_rr_wayOf [iv key] S (Q_rr_wayOf__p S key) := by sorry
abbrev Q_re_canHold__p (S : sS) (o : Int) (how : Int) : pst := fun r S1 => S = S1 ∧ (∃ z : Int, r = some (iv z) ∧ (0 ≤ z ∧ z ≤ 1) ∧ (z = chC S o how))
set_option maxRecDepth 100000 in
theorem t_re_canHold__p {S : sS} (hH : RI S) (o : Int) (how : Int) (ho : -2147483648 ≤ o ∧ o ≤ 2147483647) (hhow : -2147483648 ≤ how ∧ how ≤ 2147483647) (d : Nat) : Mp lay0 (d + 3) m_re_canHold [.ref 891, iv o, iv how] S (Q_re_canHold__p S o how) := by sorry
def md_re_takePlace__p : List rec := [(876, 877, 8, 9), (876, 877, 9, 10), (891, 892, 11, 12), (891, 892, 12, 13)]
abbrev Q_re_takePlace__p (S : sS) (aa : Int) : pst := fun r S1 => RI S1 ∧ FR md_re_takePlace__p S S1 ∧ (∃ z : Int, r = some (iv z) ∧ (0 ≤ z ∧ z ≤ 1) ∧ (TPLA S S1 z aa))
set_option maxRecDepth 100000 in
theorem t_re_takePlace__p {S : sS} (hH : RI S) (aa : Int) (haa : 0 ≤ aa ∧ aa ≤ 5140) (h13 : 0 ≤ Xi S 1 3 ∧ Xi S 1 3 ≤ 200) (hCE : CEN S) (hf : Xi S 876 8 = 0) (hr : Xi S 876 7 ≤ 5130) (d : Nat) : Mp lay0 (d + 4) m_re_takePlace [.ref 891, iv aa] S (Q_re_takePlace__p S aa) := by sorry
def md_re_takeDescription__p : List rec := [(876, 877, 8, 9), (876, 877, 9, 10), (895, 896, 8, 9), (895, 896, 9, 10), (895, 896, 12, 13), (895, 896, 13, 14), (895, 896, 14, 15), (896, 897, 0, 100000), (897, 898, 0, 100000), (898, 899, 0, 100000)]
abbrev Q_re_takeDescription__p (S : sS) (from_ : Int) (to : Int) (plur : Int) : pst := fun r S1 => RI S1 ∧ FR md_re_takeDescription__p S S1 ∧ (∃ z : Int, r = some (iv z) ∧ (0 ≤ z ∧ z ≤ 1) ∧ (TDS S S1 z from_ to plur))
set_option maxRecDepth 100000 in
theorem t_re_takeDescription__p {S : sS} (hH : RI S) (from_ : Int) (to : Int) (plur : Int) (hfrom_ : 0 ≤ from_ ∧ from_ ≤ 5140) (hto : 0 ≤ to ∧ to ≤ 5140) (hplur : 0 ≤ plur ∧ plur ≤ 1) (h13 : 0 ≤ Xi S 1 3 ∧ Xi S 1 3 ≤ 200) (hCE : CEN S) (hf : Xi S 876 8 = 0) (d : Nat) : Mp lay0 (d + 5) m_re_takeDescription [.ref 891, iv from_, iv to, iv plur] S (Q_re_takeDescription__p S from_ to plur) := by sorry
/-! words are only added -/
def GRW (S W : sS) : Prop := Xi S 1 3 ≤ Xi W 1 3 ∧ (∀ j : Nat, (j : Int) < Xi S 1 3 → Xi W 3 j = Xi S 3 j ∧ Xi W 4 j = Xi S 4 j ∧ ∀ t : Nat, t < 3 → Xj W 2 (3 * j + t) = Xj S 2 (3 * j + t)) ∧ ∀ j, Xj W 879 j = Xj S 879 j
theorem GRW.rf {S : sS} : GRW S S := by sorry
theorem GRW.tr {S U V : sS} (h : GRW S U) (k : GRW U V) : GRW S V := by sorry
theorem SMV.g {S U : sS} (h : SMV S U) : GRW S U := by sorry
theorem msc_g {S W : sS} {a b c : Int} (h : ∀ j : Nat, (j : Int) < Xi S 1 3 → Xi W 3 j = Xi S 3 j ∧ Xi W 4 j = Xi S 4 j ∧ ∀ t : Nat, t < 3 → Xj W 2 (3 * j + t) = Xj S 2 (3 * j + t)) : ∀ (m k i : Nat), ((i + m : Nat) : Int) ≤ Xi S 1 3 → msc S a b c m i ≠ -1 → msc W a b c (m + k) i = msc S a b c m i := by sorry
theorem grw_m {S W : sS} {a b : Int} (h : GRW S W) (h0 : 0 ≤ Xi S 1 3) (q : mnV S a b ≠ -1) : mnV W a b = mnV S a b := by sorry
theorem grw_f {S W : sS} {s a b : Int} (h : GRW S W) (h0 : 0 ≤ Xi S 1 3) (hs : 0 ≤ s) (q : fnd S s a b ≠ -1) : fnd W s a b = fnd S s a b := by sorry
/-- words of objects have numbers of objects -/
def WH2 (S : sS) : Prop := ∀ j : Nat, (j : Int) < Xi S 1 3 → Xi S 3 j = 2 → Xi S 4 j < Xi S 5 2
theorem WH2_v {S U : sS} (h : WH2 S) (s : SMV S U) (c : Xi U 5 2 = Xi S 5 2) : WH2 U := by sorry
theorem nmi_g {S A : sS} {f t : Int} {i : Nat} (n : NMI S A i 2 (Xi S 5 2) (wRw S 879 f t 0) (wRw S 879 f t 1) (wRw S 879 f t 2)) (w : WH2 S) (x : ∀ j, Xj A 879 j = Xj S 879 j) : GRW S A ∧ Xi A 1 3 = Xi S 1 3 + 1 ∧ (Xi A 5 2 = Xi S 5 2 + 1 → WH2 A) := by sorry
theorem obn_g {S A : sS} {z f t k : Int} (o : OBN S A z f t k) (w : WH2 S) (x : ∀ j, Xj A 879 j = Xj S 879 j) : GRW S A ∧ WH2 A ∧ (fnd S 2 f t ≠ -1 → Xi A 1 3 = Xi S 1 3 ∧ Xi A 5 2 = Xi S 5 2) ∧ (fnd S 2 f t = -1 → Xi A 1 3 = Xi S 1 3 + 1 ∧ Xi A 5 2 = Xi S 5 2 + 1) := by sorry
/-! one object of a LIST is told -/
def lON : List rec := [(1, 2, 3, 4), (2, 3, 0, 100000), (3, 4, 0, 100000), (4, 5, 0, 100000), (5, 6, 0, 100000), (21, 22, 0, 100000), (22, 23, 0, 100000), (23, 24, 0, 100000)]
def OBF (W A : sS) (o a e k : Int) : Prop := OBN W A o a e k ∧ FR lON W A
def DO1 (W V : sS) (o a e ds k wy hd : Int) : Prop := ∃ A B : sS, OBF W A o a e (if ds = 0 then 0 else k) ∧ (ds = 0 → B = A) ∧ (ds ≠ 0 → ∃ C : sS, TKDC A C 1 o k ∧ TAC C B 1 o) ∧ (wy = 0 → V = B) ∧ (wy ≠ 0 → TPLC B V 0 o wy hd)
def DOF (W : sS) (o a e ds k wy hd c : Int) : Prop := ∃ A : sS, OBF W A o a e (if ds = 0 then 0 else k) ∧
  ((ds ≠ 0 ∧ c = 5 ∧ ∃ C : sS, TKDC A C 0 o k) ∨ (ds ≠ 0 ∧ c = 5 ∧ ∃ C B : sS, TKDC A C 1 o k ∧ TAC C B 0 o) ∨ (wy ≠ 0 ∧ c ≠ 0 ∧ ∃ B V : sS, (ds = 0 → B = A) ∧ (ds ≠ 0 → ∃ C : sS, TKDC A C 1 o k ∧ TAC C B 1 o) ∧ TPLC B V c o wy hd))
def DOC (S : sS) (ds k wy hd : Int) : Nat → sS → Int → Prop
  | 0, V, f => V = S ∧ f = -1
  | n + 1, V, f => ∃ (W : sS) (o g : Int), DOC S ds k wy hd n W g ∧ DO1 W V o (kr7 (ty7 S) n) (re7 (ty7 S) (kr7 (ty7 S) n)) ds k wy hd ∧ f = if g = -1 then o else g
def DOB (S S1 : sS) (z ds : Int) : Prop :=
  (z = 1 → ∃ (V : sS) (f : Int), DOC S ds (Xi S 895 12) (Xi S 891 11) (Xi S 891 12) (nL S) V f ∧ S1 = uI V 891 10 (Int32.ofInt f) ∧ Xi S1 876 8 = 0) ∧
  (z = 0 → ∃ (i : Nat) (W : sS) (o g c : Int), i < nL S ∧ DOC S ds (Xi S 895 12) (Xi S 891 11) (Xi S 891 12) i W g ∧ DOF W o (kr7 (ty7 S) i) (re7 (ty7 S) (kr7 (ty7 S) i)) ds (Xi S 895 12) (Xi S 891 11) (Xi S 891 12) c ∧ FTO S S1 c (kr7 (ty7 S) i))
theorem fnd_w2 {S : sS} {a b : Int} (w : WH2 S) (h : CEN S) (q : fnd S 2 a b ≠ -1) : 0 ≤ fnd S 2 a b ∧ fnd S 2 a b < Xi S 5 2 := by sorry
theorem ob_c {S T A : sS} {n : Nat} {z v e k : Int} (hlo : OKI S n) (G : GRW S T) (h0 : 0 ≤ Xi S 1 3) (w : WH2 T) (hce : CEN T) (c : Xi T 5 2 ≤ Xi S 5 2 + nwn S n) (hb : (nwn S n : Int) ≤ 24 - Xi S 5 2 ∨ nwn S n = 0) (h24 : Xi S 5 2 ≤ 24) (hc0 : 0 ≤ Xi T 5 2) (o : OBN T A z v e k) (hv : v = kr7 (ty7 S) n) (he : e = re7 (ty7 S) (kr7 (ty7 S) n)) (x : ∀ j, Xj A 879 j = Xj T 879 j) : (0 ≤ z ∧ z ≤ 23) ∧ Xi A 5 2 ≤ Xi S 5 2 + nwn S (n + 1) ∧ Xi A 5 2 ≤ 24 ∧ WH2 A ∧ GRW S A ∧ Xi A 1 3 - Xi T 1 3 = Xi A 5 2 - Xi T 5 2 ∧ Xi T 5 2 ≤ Xi A 5 2 := by sorry
theorem obn_cen {S A : sS} {z f t k : Int} (o : OBN S A z f t k) (h : CEN S) (hz : 0 ≤ z ∧ z ≤ 63) : CEN A := by sorry
/-- what holds of a state while objects are told -/
def SI7 (S U : sS) (c : Nat) : Prop := (GRW S U ∧ WH2 U ∧ CEN U ∧ TX U) ∧ (Xi U 876 8 = 0 ∧ Xi U 5 2 ≤ Xi S 5 2 + c ∧ Xi S 5 2 ≤ Xi U 5 2 ∧ Xi U 5 2 ≤ 24 ∧ Xi U 1 3 - Xi S 1 3 ≤ Xi U 5 2 - Xi S 5 2 ∧ 0 ≤ Xi U 1 3)
theorem si7_v {S U V : sS} {c : Nat} (h : SI7 S U c) (s : SMV U V) (e : Xi V 5 2 = Xi U 5 2) (x : TX V) (f : Xi V 876 8 = 0) : SI7 S V c := by sorry
def QA (S : sS) (ds k wy hd : Int) (n : Nat) (A : sS) (o f : Int) : Prop := ∃ (W : sS) (g : Int), DOC S ds k wy hd n W g ∧ OBF W A o (kr7 (ty7 S) n) (re7 (ty7 S) (kr7 (ty7 S) n)) (if ds = 0 then 0 else k) ∧ f = if g = -1 then o else g
def QB (S : sS) (ds k wy hd : Int) (n : Nat) (B : sS) (o f : Int) : Prop := ∃ (W A : sS) (g : Int), DOC S ds k wy hd n W g ∧ OBF W A o (kr7 (ty7 S) n) (re7 (ty7 S) (kr7 (ty7 S) n)) (if ds = 0 then 0 else k) ∧ f = (if g = -1 then o else g) ∧ (ds = 0 → B = A) ∧ (ds ≠ 0 → ∃ C : sS, TKDC A C 1 o k ∧ TAC C B 1 o)
/-- a fault at one name -/
def QF (S : sS) (ds k wy hd : Int) (n : Nat) (c : Int) : Prop := ∃ (W : sS) (o g : Int), DOC S ds k wy hd n W g ∧ DOF W o (kr7 (ty7 S) n) (re7 (ty7 S) (kr7 (ty7 S) n)) ds k wy hd c
theorem qa_b0 {S A : sS} {ds k wy hd o f : Int} {n : Nat} (h : QA S ds k wy hd n A o f) (hd0 : ds = 0) : QB S ds k wy hd n A o f := by sorry
theorem qa_b1 {S A C B : sS} {ds k wy hd o f : Int} {n : Nat} (h : QA S ds k wy hd n A o f) (hd1 : ds ≠ 0) (t : TKDC A C 1 o k) (u : TAC C B 1 o) : QB S ds k wy hd n B o f := by sorry
theorem qa_f1 {S A C : sS} {ds k wy hd o f : Int} {n : Nat} (h : QA S ds k wy hd n A o f) (hd1 : ds ≠ 0) (t : TKDC A C 0 o k) : QF S ds k wy hd n 5 := by sorry
theorem qa_f2 {S A C B : sS} {ds k wy hd o f : Int} {n : Nat} (h : QA S ds k wy hd n A o f) (hd1 : ds ≠ 0) (t : TKDC A C 1 o k) (u : TAC C B 0 o) : QF S ds k wy hd n 5 := by sorry
theorem qb_f {S B V : sS} {ds k wy hd o f c : Int} {n : Nat} (h : QB S ds k wy hd n B o f) (hw : wy ≠ 0) (hc : c ≠ 0) (t : TPLC B V c o wy hd) : QF S ds k wy hd n c := by sorry
theorem qb_0 {S B : sS} {ds k wy hd o f : Int} {n : Nat} (h : QB S ds k wy hd n B o f) (hw : wy = 0) : DOC S ds k wy hd (n + 1) B f := by sorry
theorem qb_1 {S B V : sS} {ds k wy hd o f : Int} {n : Nat} (h : QB S ds k wy hd n B o f) (hw : wy ≠ 0) (t : TPLC B V 0 o wy hd) : DOC S ds k wy hd (n + 1) V f := by sorry
theorem si7_o {S T A : sS} {n : Nat} {z v e k : Int} {l : List rec} (h : SI7 S T (nwn S n)) (hlo : OKI S n) (h0 : 0 ≤ Xi S 1 3) (hb : (nwn S n : Int) ≤ 24 - Xi S 5 2 ∨ nwn S n = 0) (h24 : 0 ≤ Xi S 5 2 ∧ Xi S 5 2 ≤ 24) (o : OBN T A z v e k) (hv : v = kr7 (ty7 S) n) (he : e = re7 (ty7 S) (kr7 (ty7 S) n)) (F : FR l T A) (a1 : kdis l [(879, 880)] = true := by rfl) (a2 : mdf l 876 8 = false := by rfl) (a3 : (kdis l kX && !(mdf l 20 1)) = true := by rfl) : (0 ≤ z ∧ z ≤ 23) ∧ SI7 S A (nwn S (n + 1)) := by sorry
def md_re_doObjects__p : List rec := [(1, 2, 3, 4), (2, 3, 0, 100000), (3, 4, 0, 100000), (4, 5, 0, 100000), (5, 6, 0, 100000), (21, 22, 0, 100000), (22, 23, 0, 100000), (23, 24, 0, 100000), (25, 65, 0, 100000), (66, 106, 0, 100000), (107, 147, 0, 100000), (148, 188, 0, 100000), (876, 877, 8, 9), (876, 877, 9, 10), (891, 892, 10, 11)]
abbrev Q_re_doObjects__p (S : sS) (ds : Int) : pst := fun r S1 => RI S1 ∧ FR md_re_doObjects__p S S1 ∧ (∃ z : Int, r = some (iv z) ∧ (0 ≤ z ∧ z ≤ 1) ∧ (DOB S S1 z ds))
set_option maxRecDepth 100000 in
theorem t_re_doObjects__p {S : sS} (hH : RI S) (ds : Int) (hds : 0 ≤ ds ∧ ds ≤ 1) (h13 : 0 ≤ Xi S 1 3 ∧ Xi S 1 3 ≤ 200) (hCE : CEN S) (hf : Xi S 876 8 = 0) (hr : Xi S 876 7 ≤ 5130) (ht : 0 ≤ Xi S 890 3 ∧ Xi S 890 3 ≤ 5125) (hX : TX S) (hw2 : WH2 S) (hc : 0 ≤ Xi S 5 2 ∧ Xi S 5 2 ≤ 24) (hE : Xi S 1 3 + 24 - Xi S 5 2 < 199) (hlo : Hid (LOO S (nL S))) (hn14 : 0 ≤ Xi S 895 14 ∧ Xi S 895 14 ≤ 6) (hpr : Hid (∀ i : Nat, (i : Int) < Xi S 895 14 → -1 ≤ Xi S 897 i ∧ Xi S 897 i ≤ 11)) (d : Nat) : Mp lay0 (d + 5) m_re_doObjects [.ref 891, iv ds] S (Q_re_doObjects__p S ds) := by sorry
end
end
section
section
/-! 12, 13: the class -/
theorem mI_eq {S U : sS} {i : Nat} (v : SMV S U) (t : ty7 U = ty7 S) : mI U i = mI S i := by sorry
theorem fI_eq {S U : sS} {i : Nat} (v : SMV S U) (t : ty7 U = ty7 S) : fI U i = fI S i := by sorry
theorem nwn_eq {S U : sS} (v : SMV S U) (t : ty7 U = ty7 S) : ∀ n : Nat, nwn U n = nwn S n := by sorry
theorem NWI_eq {S U : sS} {i : Nat} (v : SMV S U) (t : ty7 U = ty7 S) : NWI U i ↔ NWI S i := by sorry
theorem LOO_eq {S U : sS} {n : Nat} (v : SMV S U) (t : ty7 U = ty7 S) (c : Xi U 5 2 = Xi S 5 2) : LOO U n ↔ LOO S n := by sorry
def at12 (S : sS) : Int := if Xi S 890 2 = 12 then re7 (ty7 S) (Xi S 890 3 + 2) else Xi S 890 3 + 1
def d12 (S : sS) : Int := if Xi S 890 2 = 12 then 1 else 0
/-- the description is one -/
def DS1 (S : sS) : Prop := at12 S - (Xi S 890 3 + 2) ≤ 6 ∧ ccT S (Xi S 890 3 + 2) (at12 S) 0 0 (-1) 4 = 1
def PL1 (S : sS) (a : Int) : Prop := hPl S a ≠ -1 ∧ chC S (hPl S a) (wyC (ty7 S a)) ≠ 0
/-- the state in which the LIST is told -/
def lUO : List rec := [(876, 877, 8, 9), (876, 877, 9, 10), (891, 892, 9, 10), (891, 892, 11, 12), (891, 892, 12, 13), (892, 893, 0, 100000), (893, 894, 0, 100000), (895, 896, 8, 9), (895, 896, 9, 10), (895, 896, 12, 13), (895, 896, 13, 14), (895, 896, 14, 15), (896, 897, 0, 100000), (897, 898, 0, 100000), (898, 899, 0, 100000)]
def UOK (S U : sS) : Prop := (∀ k j : Nat, k < 876 → Xi U k j = Xi S k j) ∧ (SMV S U ∧ ty7 U = ty7 S ∧ (∀ r, pc7 U r = pc7 S r) ∧ FR lUO S U) ∧ (Xi U 876 8 = 0 ∧ Xi U 890 3 = Xi S 890 3) ∧ (ty7 S (at12 S) = 103 → Xi U 891 11 = 0) ∧ (ty7 S (at12 S) ≠ 103 → Xi U 891 11 = wyC (ty7 S (at12 S)) ∧ Xi U 891 12 = hPl S (at12 S)) ∧ (Xi S 890 2 = 12 → ∃ m : Int, (1 ≤ m ∧ m ≤ 3 ∧ m ≤ at12 S - (Xi S 890 3 + 2)) ∧ ccC S (Xi S 890 3 + 2) (at12 S) 0 0 (-1) m = 1 ∧ Xi U 895 12 = ckC S (at12 S) 0 m ∧ KPC U (fA S (ckC S (at12 S) 0 m) (Xi S 890 3 + 2) 0) (g1C S (Xi S 890 3 + 2)) (g2C S (ckC S (at12 S) 0 m) (Xi S 890 3 + 2)) (at12 S - m - (Xi S 890 3 + 2)))
def TOJ (S S1 : sS) (z : Int) : Prop :=
  TLO S S1 z (nL S) ∧
  (LOO S (nL S) → Xi S 890 2 = 12 → (6 < at12 S - (Xi S 890 3 + 2) ∨ ccT S (Xi S 890 3 + 2) (at12 S) 0 0 (-1) 4 = 0) → z = 0 ∧ FTO S S1 4 (Xi S 890 3 + 2)) ∧
  (LOO S (nL S) → Xi S 890 2 = 12 → at12 S - (Xi S 890 3 + 2) ≤ 6 → 1 < ccT S (Xi S 890 3 + 2) (at12 S) 0 0 (-1) 4 → z = 0 ∧ FTO S S1 7 (Xi S 890 3 + 2)) ∧
  (LOO S (nL S) → (Xi S 890 2 = 12 → DS1 S) → ty7 S (at12 S) ≠ 103 → ¬ PL1 S (at12 S) → z = 0 ∧ FTO S S1 4 (rPl S (at12 S))) ∧
  (LOO S (nL S) → (Xi S 890 2 = 12 → DS1 S) → (ty7 S (at12 S) ≠ 103 → PL1 S (at12 S)) → ∃ U : sS, UOK S U ∧ DOB U S1 z (d12 S))
theorem toj_1 {S S1 : sS} {z : Int} (o : TOB S S1 z) (hz : z = 0) : TOJ S S1 0 := by sorry
theorem toj_2 {S A S1 : sS} {z : Int} (l : LOO S (nL S)) (h12 : Xi S 890 2 = 12) (p : ∀ r, pc7 A r = pc7 S r) (e : ccT A (Xi S 890 3 + 2) (at12 S) 0 0 (-1) 4 = ccT S (Xi S 890 3 + 2) (at12 S) 0 0 (-1) 4) (o : TDS A S1 z (Xi S 890 3 + 2) (at12 S) 0) (hz : z = 0) : TOJ S S1 0 := by sorry
theorem ds1_n {S : sS} (h : DS1 S) : ¬ (6 < at12 S - (Xi S 890 3 + 2) ∨ ccT S (Xi S 890 3 + 2) (at12 S) 0 0 (-1) 4 = 0) ∧ ¬ (1 < ccT S (Xi S 890 3 + 2) (at12 S) 0 0 (-1) 4) := by sorry
theorem toj_3 {S S1 : sS} (l : LOO S (nL S)) (d : Xi S 890 2 = 12 → DS1 S) (h : ty7 S (at12 S) ≠ 103) (n : ¬ PL1 S (at12 S)) (f : FTO S S1 4 (rPl S (at12 S))) : TOJ S S1 0 := by sorry
theorem toj_4 {S U S1 : sS} {z : Int} (l : LOO S (nL S)) (d : Xi S 890 2 = 12 → DS1 S) (p : ty7 S (at12 S) ≠ 103 → PL1 S (at12 S)) (u : UOK S U) (o : DOB U S1 z (d12 S)) : TOJ S S1 z := by sorry
theorem rln_rg {S : sS} {has t : Int} : ∀ (n : Nat) (p l : Int), 0 ≤ p → p + n ≤ 12 → -1 ≤ l → l ≤ 11 → -1 ≤ rln S has t n p l ∧ rln S has t n p l ≤ 11 := by sorry
theorem rlF_rg {S : sS} {k a b v : Int} : -1 ≤ rlF S k a b v ∧ rlF S k a b v ≤ 11 := by sorry
theorem prs_len {f g : Int → Int → Int} {z : Int} : ∀ (n : Nat) (p : Int), (prs f g z n p).length ≤ n := by sorry
theorem prs_all {f g : Int → Int → Int} {z : Int} {P : Int → Prop} (h : ∀ x y, P (g x y)) : ∀ (n : Nat) (p : Int) (i : Nat), i < (prs f g z n p).length → P ((prs f g z n p).getD i 0) := by sorry
theorem kpc_rg {U : sS} {f g : Int → Int → Int} {S : sS} {k a z : Int} (h : KPC U f g (g2C S k a) z) : (0 ≤ Xi U 895 14 ∧ Xi U 895 14 ≤ 6) ∧ ∀ i : Nat, (i : Int) < Xi U 895 14 → -1 ≤ Xi U 897 i ∧ Xi U 897 i ≤ 11 := by sorry
theorem ccT_v {l : List rec} {S T : sS} (h : FR l S T) (e : (kdis l kA && !(mdf l 1 3)) = true) {a t pl d al v : Int} : ccT T a t pl d al v = ccT S a t pl d al v := by sorry
/-- behind the LIST and the description -/
def UO1 (S U : sS) : Prop := (∀ k j : Nat, k < 876 → Xi U k j = Xi S k j) ∧ (SMV S U ∧ ty7 U = ty7 S ∧ (∀ r, pc7 U r = pc7 S r) ∧ FR lUO S U) ∧ (Xi U 876 8 = 0 ∧ Xi U 890 3 = Xi S 890 3 ∧ Xi U 891 11 = 0) ∧ (Xi S 890 2 = 12 → ∃ m : Int, (1 ≤ m ∧ m ≤ 3 ∧ m ≤ at12 S - (Xi S 890 3 + 2)) ∧ ccC S (Xi S 890 3 + 2) (at12 S) 0 0 (-1) m = 1 ∧ Xi U 895 12 = ckC S (at12 S) 0 m ∧ KPC U (fA S (ckC S (at12 S) 0 m) (Xi S 890 3 + 2) 0) (g1C S (Xi S 890 3 + 2)) (g2C S (ckC S (at12 S) 0 m) (Xi S 890 3 + 2)) (at12 S - m - (Xi S 890 3 + 2)))
theorem ink_0 {k : Nat} (h : k < 876) : inK [(0, 876)] k = true := by sorry
theorem uo1_n {S A : sS} {l : List rec} (F : FR l S A) (f : Xi A 876 8 = 0) (hw : Xi S 891 11 = 0) (h : Xi S 890 2 ≠ 12) (a1 : kdis l [(0, 876)] = true := by rfl) (a2 : kdis l [(2, 5), (879, 880)] = true := by rfl) (a3 : mdf l 1 3 = false := by rfl) (a4 : kdis l [(877, 878)] = true := by rfl) (a5 : mdf l 876 7 = false := by rfl) (a6 : kdis l [(878, 879)] = true := by rfl) (a7 : mdf l 876 5 = false := by rfl) (a8 : mdf l 890 3 = false := by rfl) (a9 : mdf l 891 11 = false := by rfl) (a10 : sub l lUO = true := by rfl) : UO1 S A := by sorry
theorem uo1_d {S A B : sS} {l l2 : List rec} (F : FR l S A) (G : FR l2 A B) (o : TDS A B 1 (Xi S 890 3 + 2) (at12 S) 0) (c : ccT A (Xi S 890 3 + 2) (at12 S) 0 0 (-1) 4 = ccT S (Xi S 890 3 + 2) (at12 S) 0 0 (-1) 4) (hw : Xi S 891 11 = 0) (f : Xi A 876 8 = 0) (a1 : kdis l [(0, 876)] = true := by rfl) (a2 : kdis l [(2, 5), (879, 880)] = true := by rfl) (a3 : mdf l 1 3 = false := by rfl) (a4 : kdis l [(877, 878)] = true := by rfl) (a5 : mdf l 876 7 = false := by rfl) (a6 : kdis l [(878, 879)] = true := by rfl) (a7 : mdf l 876 5 = false := by rfl) (a8 : mdf l 890 3 = false := by rfl) (a9 : mdf l 891 11 = false := by rfl) (b1 : kdis l2 [(0, 876)] = true := by rfl) (b2 : kdis l2 [(2, 5), (879, 880)] = true := by rfl) (b3 : mdf l2 1 3 = false := by rfl) (b4 : kdis l2 [(877, 878)] = true := by rfl) (b5 : mdf l2 876 7 = false := by rfl) (b6 : kdis l2 [(878, 879)] = true := by rfl) (b7 : mdf l2 876 5 = false := by rfl) (b8 : mdf l2 890 3 = false := by rfl) (b9 : mdf l2 891 11 = false := by rfl) (ak : (kdis l kA && !(mdf l 1 3)) = true := by rfl) (a10 : sub l lUO = true := by rfl) (b10 : sub l2 lUO = true := by rfl) : UO1 S B := by sorry
theorem tds_1 {S A B : sS} {z : Int} (o : TDS A B z (Xi S 890 3 + 2) (at12 S) 0) (c : ccT A (Xi S 890 3 + 2) (at12 S) 0 0 (-1) 4 = ccT S (Xi S 890 3 + 2) (at12 S) 0 0 (-1) 4) (hz : z ≠ 0) : DS1 S := by sorry
theorem tds_n {S A B : sS} (o : TDS A B 1 (Xi S 890 3 + 2) (at12 S) 0) (c : ccT A (Xi S 890 3 + 2) (at12 S) 0 0 (-1) 4 = ccT S (Xi S 890 3 + 2) (at12 S) 0 0 (-1) 4) : (0 ≤ Xi B 895 14 ∧ Xi B 895 14 ≤ 6) ∧ ∀ i : Nat, (i : Int) < Xi B 895 14 → -1 ≤ Xi B 897 i ∧ Xi B 897 i ≤ 11 := by sorry
theorem pl_eq {S U : sS} {a : Int} (x : ∀ k j : Nat, k < 876 → Xi U k j = Xi S k j) (v : SMV S U) (t : ty7 U = ty7 S) : (hPl U a = hPl S a ∧ rPl U a = rPl S a) ∧ ty7 U = ty7 S ∧ (chC U (hPl S a) (wyC (ty7 S a)) = chC S (hPl S a) (wyC (ty7 S a))) := by sorry
theorem pl1_y {S U V : sS} {z a : Int} (o : TPLA U V z a) (w : (hPl U a = hPl S a ∧ rPl U a = rPl S a) ∧ ty7 U = ty7 S ∧ (chC U (hPl S a) (wyC (ty7 S a)) = chC S (hPl S a) (wyC (ty7 S a)))) (hz : z ≠ 0) : PL1 S a := by sorry
theorem pl1_n {S U V : sS} {z a : Int} (o : TPLA U V z a) (w : (hPl U a = hPl S a ∧ rPl U a = rPl S a) ∧ ty7 U = ty7 S ∧ (chC U (hPl S a) (wyC (ty7 S a)) = chC S (hPl S a) (wyC (ty7 S a)))) (p : ∀ r, pc7 U r = pc7 S r) (hz : z = 0) : ¬ PL1 S a ∧ FTO S V 4 (rPl S a) := by sorry
theorem uok_p {S U V : sS} {z : Int} (u : UO1 S U) (o : TPLA U V z (at12 S)) (w : (hPl U (at12 S) = hPl S (at12 S) ∧ rPl U (at12 S) = rPl S (at12 S)) ∧ ty7 U = ty7 S ∧ (chC U (hPl S (at12 S)) (wyC (ty7 S (at12 S))) = chC S (hPl S (at12 S)) (wyC (ty7 S (at12 S))))) (hz : z ≠ 0) (ht : ty7 S (at12 S) ≠ 103) (rh : rg (hPl S (at12 S))) : UOK S V := by sorry
theorem uok_n {S U : sS} (u : UO1 S U) (ht : ty7 S (at12 S) = 103) : UOK S U := by sorry
theorem rg_hp {S : sS} {a : Int} (h : CEN S) : rg (hPl S a) := by sorry
theorem tds_8 {S A B : sS} (o : TDS A B 1 (Xi S 890 3 + 2) (at12 S) 0) (c : ccT A (Xi S 890 3 + 2) (at12 S) 0 0 (-1) 4 = ccT S (Xi S 890 3 + 2) (at12 S) 0 0 (-1) 4) (f : Xi A 876 8 = 0) : Xi B 876 8 = 0 := by sorry
def md_re_tellObjects__p : List rec := [(1, 2, 3, 4), (2, 3, 0, 100000), (3, 4, 0, 100000), (4, 5, 0, 100000), (5, 6, 0, 100000), (21, 22, 0, 100000), (22, 23, 0, 100000), (23, 24, 0, 100000), (25, 65, 0, 100000), (66, 106, 0, 100000), (107, 147, 0, 100000), (148, 188, 0, 100000), (876, 877, 8, 9), (876, 877, 9, 10), (891, 892, 9, 10), (891, 892, 10, 11), (891, 892, 11, 12), (891, 892, 12, 13), (892, 893, 0, 100000), (893, 894, 0, 100000), (895, 896, 8, 9), (895, 896, 9, 10), (895, 896, 12, 13), (895, 896, 13, 14), (895, 896, 14, 15), (896, 897, 0, 100000), (897, 898, 0, 100000), (898, 899, 0, 100000)]
abbrev Q_re_tellObjects__p (S : sS) : pst := fun r S1 => RI S1 ∧ FR md_re_tellObjects__p S S1 ∧ (∃ z : Int, r = some (iv z) ∧ (0 ≤ z ∧ z ≤ 1) ∧ (TOJ S S1 z))
set_option maxRecDepth 100000 in
theorem t_re_tellObjects__p {S : sS} (hH : RI S) (h13 : 0 ≤ Xi S 1 3 ∧ Xi S 1 3 ≤ 200) (hCE : CEN S) (hNB : NRB S) (hf : Xi S 876 8 = 0) (hr : Xi S 876 7 ≤ 5130) (ht : 0 ≤ Xi S 890 3 ∧ Xi S 890 3 ≤ 5125) (hn0 : Xi S 891 9 = 0) (h2 : Xi S 1 3 < 199) (hX : TX S) (hw2 : WH2 S) (hc : 0 ≤ Xi S 5 2 ∧ Xi S 5 2 ≤ 24) (hE : Xi S 1 3 + 24 - Xi S 5 2 < 199) (hwy : Xi S 891 11 = 0) (hn14 : 0 ≤ Xi S 895 14 ∧ Xi S 895 14 ≤ 6) (hpr : Hid (∀ i : Nat, (i : Int) < Xi S 895 14 → -1 ≤ Xi S 897 i ∧ Xi S 897 i ≤ 11)) (d : Nat) : Mp lay0 (d + 6) m_re_tellObjects [.ref 891] S (Q_re_tellObjects__p S) := by sorry
/-! 12, 13: the reference asks -/
def kwR (m : Int) : Int := if m = 2 then 3 else if m = 3 then 0 else 4
def mhR (S : sS) (m k : Int) : Int := if m = 1 then (if blR S k 1 ≠ 0 ∨ blR S k 2 ≠ 0 then 1 else 0) else blR S k (kwR m)
/-- how many of a LIST are new to the reference -/
noncomputable def nwm (S : sS) (f : Int) : Nat → Nat
  | 0 => 0
  | n + 1 => nwm S f n + (if rmR S (f + n) = -1 then 1 else 0)
def NWQ (S : sS) (f : Int) (i : Nat) : Prop := nwR0 S (f + i) ∧ ∀ j : Nat, j < i → rmR S (f + j) = -1 → ¬ alR S (f + i) (f + j)
def OKQ (S : sS) (f : Int) (i : Nat) : Prop := rnR S (f + i) 4 ≠ -1 ∨ (NWQ S f i ∧ Xi S 904 19 + nwm S f i < 24)
def LOQ (S : sS) (f : Int) (n : Nat) : Prop := ∀ i : Nat, i < n → OKQ S f i
def RLO (S : sS) (f : Int) (n : Nat) (x : Int × Int × Int) : Prop := ∀ k : Nat, k < n → LOQ S f k → (rmR S (f + k) ≠ -1 → rnR S (f + k) 4 = -1 → NTB x 4 (pR S (f + k))) ∧ (rmR S (f + k) = -1 → ¬ NWQ S f k → NTB x 3 (pR S (f + k))) ∧ (NWQ S f k → 24 ≤ Xi S 904 19 + nwm S f k → NTB x 9 (pR S (f + k)))
/-- the news of a LIST so far -/
def NWS6 (S U : sS) (f : Int) (n : Nat) : Prop := Xi U 904 108 = nwm S f n ∧ ∀ i : Nat, i < n → rmR S (f + i) = -1 → Xi U 966 (nwm S f i) = f + i
def ROI (S U : sS) (f : Int) (i : Nat) (nn : Int) : Prop := (LOQ S f i → NT3 U = NT3 S ∧ nn = Xi S 904 19 + nwm S f i ∧ NWS6 S U f i) ∧ RLO S f i (NT3 U) ∧ 0 ≤ Xi U 904 108
theorem roi_0 {S : sS} {f nn : Int} (hn : nn = Xi S 904 19) (h9 : Xi S 904 108 = 0) : ROI S S f 0 nn := by sorry
theorem nwm_y {S : sS} {f : Int} {n : Nat} (h : rmR S (f + n) = -1) : nwm S f (n + 1) = nwm S f n + 1 := by sorry
theorem nwm_n {S : sS} {f : Int} {n : Nat} (h : rmR S (f + n) ≠ -1) : nwm S f (n + 1) = nwm S f n := by sorry
theorem nwm_m {S : sS} {f : Int} {a b : Nat} (h : a ≤ b) : nwm S f a ≤ nwm S f b := by sorry
theorem nwm_i {S : sS} {f : Int} : ∀ (n k : Nat), k < nwm S f n → ∃ j : Nat, j < n ∧ rmR S (f + j) = -1 ∧ nwm S f j = k := by sorry
theorem nwq_u {S U : sS} {f : Int} {i : Nat} (sm : SMR S U) (h : NWS6 S U f i) : nwR U (f + i) ↔ NWQ S f i := by sorry
theorem roi_k {S U : sS} {f nn : Int} {i : Nat} (h : ROI S U f i nn) (q : rnR S (f + i) 4 ≠ -1) (q2 : rmR S (f + i) ≠ -1) : ROI S U f (i + 1) nn := by sorry
theorem ntb_up {x y : Int × Int × Int} {S : sS} {f : Int} {i : Nat} {g p : Int} (h : RLO S f i x) (hy : y = x ∨ ∃ c, y = ntF x c p) (hp : ∀ k : Nat, k < i → pR S (f + k) < p) : RLO S f i y := by sorry
theorem roi_f {S U V : sS} {f nn p : Int} {i : Nat} (h : ROI S U f i nn) (q : rnR S (f + i) 4 = -1) (m : rmR S (f + i) ≠ -1) (t : NT3 V = ntF (NT3 U) 4 p) (hpp : p = pR S (f + i)) (hp : ∀ k : Nat, k < i → pR S (f + k) < pR S (f + i)) (h0 : (NT3 S).1 = 0) (h9 : Xi V 904 108 = Xi U 904 108) : ROI S V f (i + 1) nn := by sorry
theorem roi_s {S U V : sS} {f nn z r p : Int} {i : Nat} (h : ROI S U f i nn) (q : rnR S (f + i) 4 = -1) (m : rmR S (f + i) = -1) (y : nwR U r → NT3 V = (if nn < 24 then NT3 U else ntF (NT3 U) 9 p) ∧ Xi V 904 108 = Xi U 904 108 + 1 ∧ Xi V 966 (Xi U 904 108).toNat = r ∧ ∀ k : Nat, (k : Int) < Xi U 904 108 → Xi V 966 k = Xi U 966 k) (n : ¬ nwR U r → NT3 V = ntF (NT3 U) 3 p ∧ Xi V 904 108 = Xi U 904 108 ∧ ∀ k : Nat, Xi V 966 k = Xi U 966 k) (hz : (z = 1 → nwR U r) ∧ (z = 0 → ¬ nwR U r)) (h01 : z = 0 ∨ z = 1) (hr : r = f + i) (sm : SMR S U) (hpp : p = pR S (f + i)) (hp : ∀ k : Nat, k < i → pR S (f + k) < pR S (f + i)) (h0 : (NT3 S).1 = 0) : ROI S V f (i + 1) (nn + z) := by sorry
theorem rn_rm {S : sS} {r s : Int} (h : rnR S r s ≠ -1) : rmR S r ≠ -1 := by sorry
/-- places of a LIST in order -/
def PLL (S : sS) (f : Int) (n : Nat) : Prop := ∀ k i : Nat, k < i → i < n → pR S (f + k) < pR S (f + i)
def PR1 (S : sS) : Prop := rnR S (Xi S 904 74) 4 ≠ -1 ∧ mhR S (Xi S 904 73) (Xi S 918 (rnR S (Xi S 904 74) 4).toNat) ≠ 0
def RPA (S : sS) (x y : Int × Int × Int) : Prop := ((Xi S 904 73 ≠ 0 → PR1 S) → y = x) ∧ (Xi S 904 73 ≠ 0 → ¬ PR1 S → y = ntF x 4 (pR S (Xi S 904 74)))
theorem mhR_am {S P : sS} {l : List rec} {a b : Int} (F : FR l S P) (e : kdis l [(917, 918)] = true) : mhR P a b = mhR S a b := by sorry
theorem PR1_sm {S P : sS} {l : List rec} (h : SMR S P) (F : FR l S P) (e : kdis l [(917, 918)] = true) (e2 : kdis l [(918, 919)] = true) (e3 : mD l [73, 74] = true) : PR1 P ↔ PR1 S := by sorry
/-- the words of the description -/
def fW (S : sS) : Int := Xi S 950 (Xi S 904 78).toNat
def nW (S : sS) : Int := Xi S 951 (Xi S 904 78).toNat
def DR1 (S : sS) : Prop := nW S ≤ 6 ∧ dcT S (fW S) (nW S) 0 0 (-1) 4 = 1
/-- 12 (ds = 1), 13: what the reference notes, and keeps -/
def RO12 (S S1 : sS) (ds : Int) : Prop :=
  RLO S (Xi S 904 71) (Xi S 904 72).toNat (NT3 S1) ∧
  (LOQ S (Xi S 904 71) (Xi S 904 72).toNat → ds = 1 → (6 < nW S ∨ dcT S (fW S) (nW S) 0 0 (-1) 4 = 0) → NTB (NT3 S1) 4 (pR S (Xi S 904 78))) ∧
  (LOQ S (Xi S 904 71) (Xi S 904 72).toNat → ds = 1 → nW S ≤ 6 → 1 < dcT S (fW S) (nW S) 0 0 (-1) 4 → NTB (NT3 S1) 7 (pR S (Xi S 904 78))) ∧
  (LOQ S (Xi S 904 71) (Xi S 904 72).toNat → (ds = 1 → DR1 S) → Xi S 904 73 ≠ 0 → ¬ PR1 S → NTB (NT3 S1) 4 (pR S (Xi S 904 74))) ∧
  (LOQ S (Xi S 904 71) (Xi S 904 72).toNat → (ds = 1 → DR1 S) → (Xi S 904 73 ≠ 0 → PR1 S) → (NT3 S1).1 = 0) ∧
  (ds = 1 → DR1 S → ∃ m : Int, (1 ≤ m ∧ m ≤ 3 ∧ m ≤ nW S) ∧ dcR S (fW S) (nW S) 0 0 (-1) m = 1 ∧ KRD S S1 (fW S) (nW S) 0 0 m)
theorem ro13 {S A S1 : sS} {nn : Int} (h : ROI S A (Xi S 904 71) (Xi S 904 72).toNat nn) (p : RPA S (NT3 A) (NT3 S1)) (h0 : (NT3 S).1 = 0) (pl : Xi S 904 73 ≠ 0 → ∀ k : Nat, k < (Xi S 904 72).toNat → pR S (Xi S 904 71 + k) < pR S (Xi S 904 74)) : RO12 S S1 0 := by sorry
theorem rlo_up {S : sS} {f : Int} {n : Nat} {x y : Int × Int × Int} {p : Int} (h : RLO S f n x) (hy : y = x ∨ ∃ c, y = ntF x c p) (hp : ∀ k : Nat, k < n → pR S (f + k) < p) : RLO S f n y := by sorry
theorem ro12 {S A C S1 : sS} {x0 : Int × Int × Int} {T : Int} (h : (LOQ S (Xi S 904 71) (Xi S 904 72).toNat → NT3 A = x0) ∧ RLO S (Xi S 904 71) (Xi S 904 72).toNat (NT3 A)) (hC : NT3 C = if T ≤ 0 then ntF (NT3 A) 4 (pR S (Xi S 904 78)) else if 2 ≤ T then ntF (NT3 A) 7 (pR S (Xi S 904 78)) else NT3 A) (hT6 : 6 < nW S → T = 0) (hT : nW S ≤ 6 → T = dcT S (fW S) (nW S) 0 0 (-1) 4) (hn : 0 ≤ T) (p : RPA S (NT3 C) (NT3 S1)) (h0 : x0.1 = 0) (p1 : ∀ k : Nat, k < (Xi S 904 72).toNat → pR S (Xi S 904 71 + k) < pR S (Xi S 904 78)) (p2 : Xi S 904 73 ≠ 0 → pR S (Xi S 904 78) < pR S (Xi S 904 74)) (kp : DR1 S → ∃ m : Int, (1 ≤ m ∧ m ≤ 3 ∧ m ≤ nW S) ∧ dcR S (fW S) (nW S) 0 0 (-1) m = 1 ∧ KRD S S1 (fW S) (nW S) 0 0 m) : RO12 S S1 1 := by sorry
theorem nwm_sm {S P : sS} {f : Int} (h : SMR S P) : ∀ n : Nat, nwm P f n = nwm S f n := by sorry
theorem NWQ_sm {S P : sS} {f : Int} {i : Nat} (h : SMR S P) : NWQ P f i ↔ NWQ S f i := by sorry
theorem LOQ_sm {S P : sS} {f : Int} {n : Nat} (h : SMR S P) (e : Xi P 904 19 = Xi S 904 19) : LOQ P f n ↔ LOQ S f n := by sorry
theorem RLO_sm {S P : sS} {f : Int} {n : Nat} {x : Int × Int × Int} (h : SMR S P) (e : Xi P 904 19 = Xi S 904 19) (r : RLO P f n x) : RLO S f n x := by sorry
theorem dkR_am {S P : sS} {f n pl m : Int} (h : AMR S P) : dkR P f n pl m = dkR S f n pl m := by sorry
theorem dcR_am {S P : sS} {f n pl d al m : Int} (h : AMR S P) : dcR P f n pl d al m = dcR S f n pl d al m := by sorry
theorem dcT_am {S P : sS} {f n pl d al v : Int} (h : AMR S P) : dcT P f n pl d al v = dcT S f n pl d al v := by sorry
theorem KRD_am {S P U : sS} {f n pl d m : Int} (h : AMR S P) (k : KRD P U f n pl d m) : KRD S U f n pl d m := by sorry
theorem RO12_am {S P S1 : sS} {l : List rec} {ds : Int} (h : AMR S P) (F : FR l S P) (e : kdis l [(917, 918)] = true) (e2 : kdis l [(918, 919)] = true) (e3 : mD l [73, 74] = true) (e4 : mD l [19, 71, 72, 73, 74, 78] = true) (r : RO12 P S1 ds) : RO12 S S1 ds := by sorry
theorem krd_k {S U V : sS} {f n pl d m : Int} (k : KRD S U f n pl d m) (a : Xi V 904 110 = Xi U 904 110) (b : Xi V 904 112 = Xi U 904 112) (c : ∀ j, Xi V 967 j = Xi U 967 j) : KRD S V f n pl d m := by sorry
theorem dcT_1 {S : sS} {f n pl d al m : Int} (h : dcT S f n pl d al 4 = 1) (hm : 1 ≤ m ∧ m ≤ 3) (hn : m ≤ n) (hp : 0 < dcR S f n pl d al m) (h32 : 0 ≤ Xi S 904 32 ∧ Xi S 904 32 ≤ 12) : dcR S f n pl d al m = 1 := by sorry
theorem RPA_am {S P : sS} {l : List rec} {x y : Int × Int × Int} (h : SMR S P) (F : FR l S P) (e : kdis l [(917, 918)] = true) (e2 : kdis l [(918, 919)] = true) (e3 : mD l [73, 74] = true) (r : RPA P x y) : RPA S x y := by sorry
theorem roi_sm {S P A : sS} {nn : Int} (h : SMR S P) (e1 : Xi P 904 71 = Xi S 904 71) (e2 : Xi P 904 72 = Xi S 904 72) (e3 : Xi P 904 19 = Xi S 904 19) (r : ROI P A (Xi P 904 71) (Xi P 904 72).toNat nn) (z : (NT3 P).1 = 0) : (LOQ S (Xi S 904 71) (Xi S 904 72).toNat → NT3 A = NT3 P) ∧ RLO S (Xi S 904 71) (Xi S 904 72).toNat (NT3 A) := by sorry
abbrev Q_mo_kindOfWay__p (S : sS) (manner : Int) : pst := fun r S1 => S = S1 ∧ (∃ z : Int, r = some (iv z) ∧ (-2147483648 ≤ z ∧ z ≤ 2147483647) ∧ (z = kwR manner))
set_option maxRecDepth 100000 in
theorem t_mo_kindOfWay__p {S : sS} (hH : RI S) (manner : Int) (hmanner : -2147483648 ≤ manner ∧ manner ≤ 2147483647) (d : Nat) : Mp lay0 (d + 1) m_mo_kindOfWay [iv manner] S (Q_mo_kindOfWay__p S manner) := by sorry
abbrev Q_mo_mayHold__p (S : sS) (m : Int) (kind : Int) : pst := fun r S1 => S = S1 ∧ (∃ z : Int, r = some (iv z) ∧ (0 ≤ z ∧ z ≤ 1) ∧ (z = mhR S m kind))
set_option maxRecDepth 100000 in
theorem t_mo_mayHold__p {S : sS} (hH : RI S) (m : Int) (kind : Int) (hm : -2147483648 ≤ m ∧ m ≤ 2147483647) (hkind : -1 ≤ kind ∧ kind ≤ 15) (hB : ABV S) (d : Nat) : Mp lay0 (d + 2) m_mo_mayHold [.ref 904, iv m, iv kind] S (Q_mo_mayHold__p S m kind) := by sorry
def md_mo_objectsOrNew__p : List rec := [(904, 905, 104, 105), (904, 905, 105, 106), (904, 905, 106, 107), (904, 905, 108, 109), (966, 967, 0, 100000)]
abbrev Q_mo_objectsOrNew__p (S : sS) : pst := fun r S1 => RI S1 ∧ FR md_mo_objectsOrNew__p S S1 ∧ (r = none ∧ (∃ nn : Int, ROI S S1 (Xi S 904 71) (Xi S 904 72).toNat nn))
set_option maxRecDepth 100000 in
theorem t_mo_objectsOrNew__p {S : sS} (hH : RI S) (hLS : LSP S) (h15 : 0 ≤ Xi S 904 15) (hRB : RBD S) (hz0 : Xi S 904 106 = 0 ∧ Xi S 904 108 = 0) (hl : 0 ≤ Xi S 904 71 ∧ Xi S 904 71 ≤ 2600 ∧ 0 ≤ Xi S 904 72 ∧ Xi S 904 72 ≤ 2600) (hob : 0 ≤ Xi S 904 19 ∧ Xi S 904 19 ≤ 24) (hp : PLL S (Xi S 904 71) (Xi S 904 72).toNat) (d : Nat) : Mp lay0 (d + 5) m_mo_objectsOrNew [.ref 904] S (Q_mo_objectsOrNew__p S) := by sorry
def md_mo_askPlace__p : List rec := [(904, 905, 104, 105), (904, 905, 105, 106), (904, 905, 106, 107)]
abbrev Q_mo_askPlace__p (S : sS) : pst := fun r S1 => RI S1 ∧ FR md_mo_askPlace__p S S1 ∧ (r = none ∧ (RPA S (NT3 S) (NT3 S1)))
set_option maxRecDepth 100000 in
theorem t_mo_askPlace__p {S : sS} (hH : RI S) (hLS : LSP S) (h15 : 0 ≤ Xi S 904 15) (hRB : RBD S) (hB : ABV S) (hko : Hid (∀ j : Nat, -1 ≤ Xi S 918 j ∧ Xi S 918 j ≤ 15)) (hr74 : -1 ≤ Xi S 904 74 ∧ Xi S 904 74 ≤ 2600) (d : Nat) : Mp lay0 (d + 5) m_mo_askPlace [.ref 904] S (Q_mo_askPlace__p S) := by sorry
def md_mo_asked__13 : List rec := [(904, 905, 64, 65), (904, 905, 104, 105), (904, 905, 105, 106), (904, 905, 106, 107), (904, 905, 108, 109), (904, 905, 109, 110), (904, 905, 110, 111), (904, 905, 112, 113), (904, 905, 113, 114), (904, 905, 115, 116), (904, 905, 116, 117), (904, 905, 117, 118), (904, 905, 125, 126), (904, 905, 128, 129), (904, 905, 129, 130), (904, 905, 130, 131), (904, 905, 142, 143), (904, 905, 144, 145), (904, 905, 146, 147), (904, 905, 147, 148), (904, 905, 150, 151), (904, 905, 151, 152), (904, 905, 153, 154), (904, 905, 154, 155), (904, 905, 156, 157), (904, 905, 157, 158), (904, 905, 158, 159), (904, 905, 160, 161), (966, 967, 0, 100000), (967, 968, 0, 100000), (968, 969, 0, 100000), (969, 970, 0, 100000), (970, 971, 0, 100000), (971, 972, 0, 100000), (972, 973, 0, 100000), (973, 974, 0, 100000), (974, 975, 0, 100000), (975, 976, 0, 100000), (976, 977, 0, 100000), (977, 978, 0, 100000), (978, 979, 0, 100000), (979, 980, 0, 100000), (980, 981, 0, 100000), (981, 982, 0, 100000), (982, 983, 0, 100000), (983, 984, 0, 100000), (984, 985, 0, 100000), (985, 986, 0, 100000), (986, 987, 0, 100000), (987, 988, 0, 100000), (988, 989, 0, 100000), (989, 990, 0, 100000), (990, 991, 0, 100000), (991, 992, 0, 100000), (992, 993, 0, 100000), (993, 994, 0, 100000), (994, 995, 0, 100000)]
abbrev Q_mo_asked__13 (S : sS) (first : Int) : pst := fun r S1 => RI S1 ∧ FR md_mo_asked__13 S S1 ∧ (r = none ∧ (RO12 S S1 0))
set_option maxRecDepth 100000 in
theorem t_mo_asked__13 {S : sS} (hH : RI S) (first : Int) (hfirst : 0 ≤ first ∧ first ≤ 5001) (hLS : LSP S) (h15 : 0 ≤ Xi S 904 15) (hRB : RBD S) (hLX : LXR S) (hB : ABV S) (hob : 0 ≤ Xi S 904 19 ∧ Xi S 904 19 ≤ 24) (hko : Hid (∀ j : Nat, -1 ≤ Xi S 918 j ∧ Xi S 918 j ≤ 15)) (hl : 0 ≤ Xi S 904 71 ∧ Xi S 904 71 ≤ 2600 ∧ 0 ≤ Xi S 904 72 ∧ Xi S 904 72 ≤ 2600) (hkk : Hid (∀ k : Nat, (k : Int) < Xi S 904 15 → Xi S 914 k ≤ 1 → Xi S 915 k ≤ 15)) (hp32 : 0 ≤ Xi S 904 32 ∧ Xi S 904 32 ≤ 12) (hr74 : -1 ≤ Xi S 904 74 ∧ Xi S 904 74 ≤ 2600) (hpl : PLL S (Xi S 904 71) (Xi S 904 72).toNat) (hs : Xi S 904 70 = 13) (hpp : Hid (Xi S 904 73 ≠ 0 → ∀ k : Nat, k < (Xi S 904 72).toNat → pR S (Xi S 904 71 + k) < pR S (Xi S 904 74))) (d : Nat) : Mp lay0 (d + 13) m_mo_asked [.ref 904, iv first] S (Q_mo_asked__13 S first) := by sorry
end
section
def md_mo_asked__12 : List rec := [(904, 905, 64, 65), (904, 905, 104, 105), (904, 905, 105, 106), (904, 905, 106, 107), (904, 905, 108, 109), (904, 905, 109, 110), (904, 905, 110, 111), (904, 905, 112, 113), (904, 905, 113, 114), (904, 905, 115, 116), (904, 905, 116, 117), (904, 905, 117, 118), (904, 905, 125, 126), (904, 905, 128, 129), (904, 905, 129, 130), (904, 905, 130, 131), (904, 905, 142, 143), (904, 905, 144, 145), (904, 905, 146, 147), (904, 905, 147, 148), (904, 905, 150, 151), (904, 905, 151, 152), (904, 905, 153, 154), (904, 905, 154, 155), (904, 905, 156, 157), (904, 905, 157, 158), (904, 905, 158, 159), (904, 905, 160, 161), (966, 967, 0, 100000), (967, 968, 0, 100000), (968, 969, 0, 100000), (969, 970, 0, 100000), (970, 971, 0, 100000), (971, 972, 0, 100000), (972, 973, 0, 100000), (973, 974, 0, 100000), (974, 975, 0, 100000), (975, 976, 0, 100000), (976, 977, 0, 100000), (977, 978, 0, 100000), (978, 979, 0, 100000), (979, 980, 0, 100000), (980, 981, 0, 100000), (981, 982, 0, 100000), (982, 983, 0, 100000), (983, 984, 0, 100000), (984, 985, 0, 100000), (985, 986, 0, 100000), (986, 987, 0, 100000), (987, 988, 0, 100000), (988, 989, 0, 100000), (989, 990, 0, 100000), (990, 991, 0, 100000), (991, 992, 0, 100000), (992, 993, 0, 100000), (993, 994, 0, 100000), (994, 995, 0, 100000)]
abbrev Q_mo_asked__12 (S : sS) (first : Int) : pst := fun r S1 => RI S1 ∧ FR md_mo_asked__12 S S1 ∧ (r = none ∧ (RO12 S S1 1))
set_option maxRecDepth 100000 in
theorem t_mo_asked__12 {S : sS} (hH : RI S) (first : Int) (hfirst : 0 ≤ first ∧ first ≤ 5001) (hLS : LSP S) (h15 : 0 ≤ Xi S 904 15) (hRB : RBD S) (hLX : LXR S) (hB : ABV S) (hob : 0 ≤ Xi S 904 19 ∧ Xi S 904 19 ≤ 24) (hko : Hid (∀ j : Nat, -1 ≤ Xi S 918 j ∧ Xi S 918 j ≤ 15)) (hl : 0 ≤ Xi S 904 71 ∧ Xi S 904 71 ≤ 2600 ∧ 0 ≤ Xi S 904 72 ∧ Xi S 904 72 ≤ 2600) (hkk : Hid (∀ k : Nat, (k : Int) < Xi S 904 15 → Xi S 914 k ≤ 1 → Xi S 915 k ≤ 15)) (hp32 : 0 ≤ Xi S 904 32 ∧ Xi S 904 32 ≤ 12) (hr74 : -1 ≤ Xi S 904 74 ∧ Xi S 904 74 ≤ 2600) (hpl : PLL S (Xi S 904 71) (Xi S 904 72).toNat) (hs : Xi S 904 70 = 12) (hpp : Hid ((∀ k : Nat, k < (Xi S 904 72).toNat → pR S (Xi S 904 71 + k) < pR S (Xi S 904 78)) ∧ (Xi S 904 73 ≠ 0 → pR S (Xi S 904 78) < pR S (Xi S 904 74)))) (hfw : 0 ≤ fW S ∧ fW S ≤ 5100 ∧ 0 ≤ nW S ∧ nW S ≤ 5100) (h78 : 0 ≤ Xi S 904 78 ∧ Xi S 904 78 ≤ 2600) (d : Nat) : Mp lay0 (d + 13) m_mo_asked [.ref 904, iv first] S (Q_mo_asked__12 S first) := by sorry
end
end
