/-! who squeezed: codes 100 c + 10 d + k -/
def fb (x c : Nat) : Nat := x / 10 % 10 - x % 10 * ad c (x / 100)
theorem divI {a d : Nat} (ha : a < 2 ^ 31) (h0 : 0 < d) (hd : d < 2 ^ 31) : nI a / nI d = nI (a / d) := pk_div ha h0 hd
theorem remI {a d : Nat} (ha : a < 2 ^ 31) (h0 : 0 < d) (hd : d < 2 ^ 31) : nI a - nI a / nI d * nI d = nI (a % d) := pk_rem ha h0 hd
theorem imaxI {a b : Nat} (ha : a < 2 ^ 30) (hb : b < 2 ^ 30) : imax 0 (nI a - nI b) = nI (a - b) := by
  have e := pk_sub_toInt ha hb
  unfold imax
  by_cases h : b < a
  · rw [if_pos (by rw [i32_lt, e]; show (0 : Int) < _; omega), pk_sub (by omega)]
  · rw [if_neg (by rw [i32_lt, e]; show ¬ (0 : Int) < _; omega), Nat.sub_eq_zero_of_le (by omega)]
    rfl
theorem posI {a b : Nat} (ha : a < 2 ^ 30) (hb : b < 2 ^ 30) : (if 0 ≤ nI a - nI b then some (nI a - nI b) else some (0 : Int32)) = some (nI (a - b)) := by
  have e := pk_sub_toInt ha hb
  by_cases h : b ≤ a
  · rw [if_pos (by rw [i32_le, e]; show (0 : Int) ≤ _; omega), pk_sub h]
  · rw [if_neg (by rw [i32_le, e]; show ¬ (0 : Int) ≤ _; omega), Nat.sub_eq_zero_of_le (by omega)]
    rfl
theorem fb_le (x c : Nat) : fb x c ≤ 9 := by
  unfold fb
  omega
theorem fb_pr {x c : Nat} (hx : x ≤ 999) (hc : c ≤ 9) : x % 10 * ad c (x / 100) < 2 ^ 30 := by
  have h : ad c (x / 100) < 10 := ad_lt (by omega) (by omega)
  have h2 : x % 10 < 10 := by omega
  have := Nat.mul_lt_mul'' h2 h
  omega
theorem fbI7 {x c : Nat} (hx : x ≤ 999) (hc : c ≤ 9) : f_X1_feltBy (nI x) (nI c) = some (nI (fb x c)) := by
  unfold f_X1_feltBy fb
  rw [show (10 : Int32) = nI 10 from rfl, show (100 : Int32) = nI 100 from rfl, remI (a := x) (by omega) (by decide) (by decide), divI (a := x) (d := 10) (by omega) (by decide) (by decide), remI (a := x / 10) (by omega) (by decide) (by decide), divI (a := x) (d := 100) (by omega) (by decide) (by decide), iabs_sub (by omega) (by omega), mulI, imaxI (by omega) (fb_pr hx hc)]
theorem fbI8 {x c : Nat} (hx : x ≤ 999) (hc : c ≤ 9) : f_X8_feltBy (nI x) (nI c) = some (nI (fb x c)) := by
  unfold f_X8_feltBy fb
  rw [show (10 : Int32) = nI 10 from rfl, show (100 : Int32) = nI 100 from rfl, remI (a := x) (by omega) (by decide) (by decide), divI (a := x) (d := 10) (by omega) (by decide) (by decide), remI (a := x / 10) (by omega) (by decide) (by decide), divI (a := x) (d := 100) (by omega) (by decide) (by decide), offI (by omega) (by omega)]
  simp only [Option.bind_some]
  rw [mulI, ad_comm (x / 100) c, posI (by omega) (fb_pr hx hc)]
def allF (w m : Nat → Nat) (x : Nat) : Nat → Nat → Bool
  | 0, _ => true
  | k + 1, i => decide (fb x (w i) = m i) && allF w m x k (i + 1)
def fitB (w m : Nat → Nat) (n x : Nat) : Bool := decide (1 ≤ x / 10 % 10) && (decide (1 ≤ x % 10 ∧ x % 10 ≤ 3) && allF w m x n 0)
theorem fitB_no {w m : Nat → Nat} {n x : Nat} (h : ¬ (1 ≤ x / 10 % 10 ∧ 1 ≤ x % 10 ∧ x % 10 ≤ 3)) : fitB w m n x = false := by
  unfold fitB
  by_cases h1 : 1 ≤ x / 10 % 10
  · have h2 : ¬ (1 ≤ x % 10 ∧ x % 10 ≤ 3) := fun q => h ⟨h1, q⟩
    simp [h1, h2]
  · simp [h1]
def b2i (b : Bool) : Int32 := if b = true then 1 else 0
section GU
variable {w m : Nat → Nat} {n : Nat}
theorem fit7 (hw : ∀ i, w i ≤ 9) (hm : ∀ i, m i ≤ 9) (hn : n ≤ 8) {x : Nat} (hx : x ≤ 999) : ∀ (k i fuel : Nat), i + k = n → k < fuel → f_X1_isFitting_11 (nI x) (fun i => nI (w i)) (fun i => nI (m i)) (nI n) fuel (nI i) = some (b2i (allF w m x k i))
  | 0, i, 0, h, hf => absurd hf (by omega)
  | 0, i, f + 1, h, hf => by
    have e : i = n := by omega
    subst e
    rw [f_X1_isFitting_11, if_pos (lit_le (by omega) (by omega) (Nat.le_refl i))]
    rfl
  | k + 1, i, 0, h, hf => absurd hf (by omega)
  | k + 1, i, f + 1, h, hf => by
    have h1 := hw i
    have h2 := hm i
    have h3 := fb_le x (w i)
    rw [f_X1_isFitting_11, if_neg (lit_nle (by omega) (by omega) (by omega)), gI (by omega : i < 8) (by decide), cl (by omega), fbI7 hx h1]
    simp only [Option.bind_some]
    unfold allF
    by_cases e : fb x (w i) = m i
    · rw [if_pos (by rw [e]), p1, fit7 hw hm hn hx k (i + 1) f (by omega) (by omega)]
      simp [e]
    · rw [if_neg (lit_ne (by omega) (by omega) e)]
      simp [e, b2i]
theorem fit8_0 {x : Int32} {W M : Nat → Int32} {sn i : Int32} (f : Nat) : f_X8_isFit_33 x W M sn (f + 1) 0 i = some 0 := by
  rw [f_X8_isFit_33]
  by_cases h : sn ≤ i
  · rw [if_pos h, if_pos (by decide)]
  · rw [if_neg h, if_pos rfl, if_pos (by decide)]
theorem fit8 (hw : ∀ i, w i ≤ 9) (hm : ∀ i, m i ≤ 9) (hn : n ≤ 8) {x : Nat} (hx : x ≤ 999) : ∀ (k i fuel : Nat), i + k = n → k < fuel → f_X8_isFit_33 (nI x) (fun i => nI (w i)) (fun i => nI (m i)) (nI n) fuel 1 (nI i) = some (b2i (allF w m x k i))
  | 0, i, 0, h, hf => absurd hf (by omega)
  | 0, i, f + 1, h, hf => by
    have e : i = n := by omega
    subst e
    rw [f_X8_isFit_33, if_pos (lit_le (by omega) (by omega) (Nat.le_refl i)), if_pos (by decide)]
    rfl
  | k + 1, i, 0, h, hf => absurd hf (by omega)
  | k + 1, i, f + 1, h, hf => by
    have h1 := hw i
    have h2 := hm i
    have h3 := fb_le x (w i)
    rw [f_X8_isFit_33, if_neg (lit_nle (by omega) (by omega) (by omega)), if_neg (by decide), gI (by omega : i < 8) (by decide), cl (by omega), fbI8 hx h1]
    simp only [Option.bind_some]
    unfold allF
    by_cases e : fb x (w i) = m i
    · rw [if_pos (by rw [e]), p1, fit8 hw hm hn hx k (i + 1) f (by omega) (by omega)]
      simp [e]
    · rw [if_neg (lit_ne (by omega) (by omega) e), show f = (f - 1) + 1 by omega, fit8_0]
      simp [e, b2i]
theorem fitI7 (hw : ∀ i, w i ≤ 9) (hm : ∀ i, m i ≤ 9) (hn : n ≤ 8) {x : Nat} (hx : x ≤ 999) : f_X1_isFitting (fun i => nI (w i)) (fun i => nI (m i)) (nI n) (nI x) = some (b2i (fitB w m n x)) := by
  unfold f_X1_isFitting f_X1_isCode
  rw [show (10 : Int32) = nI 10 from rfl, remI (a := x) (by omega) (by decide) (by decide), divI (a := x) (d := 10) (by omega) (by decide) (by decide), remI (a := x / 10) (by omega) (by decide) (by decide)]
  by_cases c1 : 1 ≤ x / 10 % 10
  · have q : ¬ nI (x / 10 % 10) < (1 : Int32) := lit_nlt (b := 1) (by omega) (by decide) (by omega)
    simp only [if_neg q, isW, Option.bind_some]
    by_cases c2 : 1 ≤ x % 10 ∧ x % 10 ≤ 3
    · have q2 : (1 : Int32) ≤ nI (x % 10) ∧ nI (x % 10) ≤ 3 := ⟨lit_le (a := 1) (by decide) (by omega) c2.1, lit_le (b := 3) (by omega) (by decide) c2.2⟩
      have z : ¬ (1 : Int32) = 0 := by decide
      simp only [w1 q2, Option.bind_some, if_neg z]
      rw [show (0 : Int32) = nI 0 from rfl, fit7 hw hm hn hx n 0 2000 (by omega) (by omega)]
      unfold fitB
      simp [c1, c2]
    · have q2 : ¬ ((1 : Int32) ≤ nI (x % 10) ∧ nI (x % 10) ≤ 3) := fun q => c2 ⟨(nI_leI (a := 1) (by decide) (by omega)).mp q.1, (nI_leI (b := 3) (by omega) (by decide)).mp q.2⟩
      simp only [w0 q2, Option.bind_some, if_true, fitB_no (w := w) (m := m) (n := n) (fun q => c2 q.2)]
      rfl
  · have q : nI (x / 10 % 10) < (1 : Int32) := lit_lt (b := 1) (by omega) (by decide) (by omega)
    simp only [if_pos q, Option.bind_some, if_true, fitB_no (w := w) (m := m) (n := n) (fun q => c1 q.1)]
    rfl
theorem fitI8 (hw : ∀ i, w i ≤ 9) (hm : ∀ i, m i ≤ 9) (hn : n ≤ 8) {x : Nat} (hx : x ≤ 999) : f_X8_isFit (fun i => nI (w i)) (fun i => nI (m i)) (nI n) (nI x) = some (b2i (fitB w m n x)) := by
  unfold f_X8_isFit
  rw [show (10 : Int32) = nI 10 from rfl, remI (a := x) (by omega) (by decide) (by decide), divI (a := x) (d := 10) (by omega) (by decide) (by decide), remI (a := x / 10) (by omega) (by decide) (by decide)]
  by_cases c1 : 1 ≤ x / 10 % 10
  · have q : ¬ nI (x / 10 % 10) ≤ (0 : Int32) := lit_nle (b := 0) (by omega) (by decide) (by omega)
    rw [if_neg q, in_1_3]
    simp only [Option.bind_some]
    by_cases c2 : 1 ≤ x % 10 ∧ x % 10 ≤ 3
    · have q2 : (1 : Int32) ≤ nI (x % 10) ∧ nI (x % 10) ≤ 3 := ⟨lit_le (a := 1) (by decide) (by omega) c2.1, lit_le (b := 3) (by omega) (by decide) c2.2⟩
      simp only [w1 q2]
      rw [show (0 : Int32) = nI 0 from rfl, fit8 hw hm hn hx n 0 2000 (by omega) (by omega)]
      unfold fitB
      simp [c1, c2]
    · have q2 : ¬ ((1 : Int32) ≤ nI (x % 10) ∧ nI (x % 10) ≤ 3) := fun q => c2 ⟨(nI_leI (a := 1) (by decide) (by omega)).mp q.1, (nI_leI (b := 3) (by omega) (by decide)).mp q.2⟩
      simp only [w0 q2, fitB_no (w := w) (m := m) (n := n) (fun q => c2 q.2)]
      exact fit8_0 1999
  · have q : nI (x / 10 % 10) ≤ (0 : Int32) := lit_le (b := 0) (by omega) (by decide) (by omega)
    rw [if_pos q, fitB_no (w := w) (m := m) (n := n) (fun q => c1 q.1)]
    exact fit8_0 1999
end GU
theorem b2i_0 {b : Bool} (h : b = false) : b2i b = 0 := by rw [h]; rfl
theorem b2i_1 {b : Bool} (h : b = true) : ¬ b2i b = 0 := by rw [h]; decide
/-! counting and finding among the codes -/
def cf (g : Nat → Bool) : Nat → Nat → Nat
  | 0, _ => 0
  | k + 1, x => (if g x = true then 1 else 0) + cf g k (x + 1)
def fi (g : Nat → Bool) : Nat → Nat → Nat → Option Nat
  | 0, _, _ => none
  | k + 1, x, j => if g x = true then (if j = 0 then some x else fi g k (x + 1) (j - 1)) else fi g k (x + 1) j
theorem cf_skip {g : Nat → Bool} (k : Nat) : ∀ (a x : Nat), (∀ y, x ≤ y → y < x + a → g y = false) → cf g (k + a) x = cf g k (x + a)
  | 0, x, h => rfl
  | a + 1, x, h => by
    show (if g x = true then 1 else 0) + cf g (k + a) (x + 1) = _
    rw [h x (Nat.le_refl x) (by omega), cf_skip k a (x + 1) (fun y h1 h2 => h y (by omega) (by omega)), show x + 1 + a = x + (a + 1) by omega]
    simp
theorem cf_zero {g : Nat → Bool} : ∀ (a x : Nat), (∀ y, x ≤ y → y < x + a → g y = false) → cf g a x = 0
  | 0, x, h => rfl
  | a + 1, x, h => by
    show (if g x = true then 1 else 0) + cf g a (x + 1) = _
    rw [h x (Nat.le_refl x) (by omega), cf_zero a (x + 1) (fun y h1 h2 => h y (by omega) (by omega))]
    simp
theorem cf_tail {g : Nat → Bool} (a : Nat) : ∀ (k x : Nat), (∀ y, x + k ≤ y → y < x + k + a → g y = false) → cf g (k + a) x = cf g k x
  | 0, x, h => by
    rw [Nat.zero_add, cf_zero a x (fun y h1 h2 => h y (by omega) (by omega))]
    rfl
  | k + 1, x, h => by
    rw [show k + 1 + a = (k + a) + 1 by omega]
    show (if g x = true then 1 else 0) + cf g (k + a) (x + 1) = (if g x = true then 1 else 0) + cf g k (x + 1)
    rw [cf_tail a k (x + 1) (fun y h1 h2 => h y (by omega) (by omega))]
theorem fi_none {g : Nat → Bool} : ∀ (a x j : Nat), (∀ y, x ≤ y → y < x + a → g y = false) → fi g a x j = none
  | 0, x, j, h => rfl
  | a + 1, x, j, h => by
    show (if g x = true then (if j = 0 then some x else fi g a (x + 1) (j - 1)) else fi g a (x + 1) j) = none
    rw [h x (Nat.le_refl x) (by omega), if_neg (by decide), fi_none a (x + 1) j (fun y h1 h2 => h y (by omega) (by omega))]
theorem fi_skip {g : Nat → Bool} (k : Nat) : ∀ (a x j : Nat), (∀ y, x ≤ y → y < x + a → g y = false) → fi g (k + a) x j = fi g k (x + a) j
  | 0, x, j, h => rfl
  | a + 1, x, j, h => by
    show (if g x = true then (if j = 0 then some x else fi g (k + a) (x + 1) (j - 1)) else fi g (k + a) (x + 1) j) = _
    rw [h x (Nat.le_refl x) (by omega), if_neg (by decide), fi_skip k a (x + 1) j (fun y h1 h2 => h y (by omega) (by omega)), show x + 1 + a = x + (a + 1) by omega]
theorem fi_tail {g : Nat → Bool} (a : Nat) : ∀ (k x j : Nat), (∀ y, x + k ≤ y → y < x + k + a → g y = false) → fi g (k + a) x j = fi g k x j
  | 0, x, j, h => by
    rw [Nat.zero_add, fi_none a x j (fun y h1 h2 => h y (by omega) (by omega))]
    rfl
  | k + 1, x, j, h => by
    rw [show k + 1 + a = (k + a) + 1 by omega]
    show (if g x = true then (if j = 0 then some x else fi g (k + a) (x + 1) (j - 1)) else fi g (k + a) (x + 1) j) = (if g x = true then (if j = 0 then some x else fi g k (x + 1) (j - 1)) else fi g k (x + 1) j)
    rw [fi_tail a k (x + 1) j (fun y h1 h2 => h y (by omega) (by omega)), fi_tail a k (x + 1) (j - 1) (fun y h1 h2 => h y (by omega) (by omega))]
section GV
variable {w m : Nat → Nat} {n : Nat}
theorem count7 (hw : ∀ i, w i ≤ 9) (hm : ∀ i, m i ≤ 9) (hn : n ≤ 8) : ∀ (k x b fuel : Nat), x + k = 994 → b + k ≤ 2000 → k < fuel → f_X1_countFitting_5 (fun i => nI (w i)) (fun i => nI (m i)) (nI n) fuel (nI b) (nI x) = some (nI (b + cf (fitB w m n) k x))
  | 0, x, b, 0, h, hb, hf => absurd hf (by omega)
  | 0, x, b, f + 1, h, hb, hf => by
    have q : (993 : Int32) < nI x := lit_lt (a := 993) (by decide) (by omega) (by omega)
    rw [f_X1_countFitting_5, if_pos q]
    rfl
  | k + 1, x, b, 0, h, hb, hf => absurd hf (by omega)
  | k + 1, x, b, f + 1, h, hb, hf => by
    have q : ¬ (993 : Int32) < nI x := lit_nlt (a := 993) (by decide) (by omega) (by omega)
    rw [f_X1_countFitting_5, if_neg q, fitI7 hw hm hn (by omega)]
    simp only [Option.bind_some]
    unfold cf
    cases e : fitB w m n x with
    | true =>
      rw [if_neg (b2i_1 rfl), p1, p1, count7 hw hm hn k (x + 1) (b + 1) f (by omega) (by omega) (by omega)]
      simp [Nat.add_assoc]
    | false =>
      rw [if_pos (b2i_0 rfl), p1, count7 hw hm hn k (x + 1) b f (by omega) (by omega) (by omega)]
      simp
theorem count8 (hw : ∀ i, w i ≤ 9) (hm : ∀ i, m i ≤ 9) (hn : n ≤ 8) {u : Int32} {kx} (hu : ∀ z, z < 2 ^ 31 → ¬ nI z = u) : ∀ (k x b fuel : Nat), x + k = 1000 → b + k ≤ 2000 → k < fuel → f_X8_fits_4 u (fun i => nI (w i)) (fun i => nI (m i)) (nI n) kx fuel (nI b) (nI x) = kx (nI (b + cf (fitB w m n) k x))
  | 0, x, b, 0, h, hb, hf => absurd hf (by omega)
  | 0, x, b, f + 1, h, hb, hf => by
    have q : (1000 : Int32) ≤ nI x := lit_le (a := 1000) (by decide) (by omega) (by omega)
    rw [f_X8_fits_4, if_pos q]
    rfl
  | k + 1, x, b, 0, h, hb, hf => absurd hf (by omega)
  | k + 1, x, b, f + 1, h, hb, hf => by
    have q : ¬ (1000 : Int32) ≤ nI x := lit_nle (a := 1000) (by decide) (by omega) (by omega)
    rw [f_X8_fits_4, if_neg q, fitI8 hw hm hn (by omega)]
    simp only [Option.bind_some]
    unfold cf
    cases e : fitB w m n x with
    | true =>
      rw [if_neg (b2i_1 rfl), if_neg (hu b (by omega)), p1, p1, count8 hw hm hn hu k (x + 1) (b + 1) f (by omega) (by omega) (by omega)]
      simp [Nat.add_assoc]
    | false =>
      rw [if_pos (b2i_0 rfl), p1, count8 hw hm hn hu k (x + 1) b f (by omega) (by omega) (by omega)]
      simp
def orN (o : Option Nat) : Int32 := match o with
  | some c => nI c
  | none => -6
theorem find7 (hw : ∀ i, w i ≤ 9) (hm : ∀ i, m i ≤ 9) (hn : n ≤ 8) {p : Nat} (hp : p < 2 ^ 31) : ∀ (k x b fuel : Nat), x + k = 994 → b ≤ p → k < fuel → f_X1_fitting_6 (nI p) (fun i => nI (w i)) (fun i => nI (m i)) (nI n) fuel (nI b) (nI x) = some (orN (fi (fitB w m n) k x (p - b)))
  | 0, x, b, 0, h, hb, hf => absurd hf (by omega)
  | 0, x, b, f + 1, h, hb, hf => by
    have q : (993 : Int32) < nI x := lit_lt (a := 993) (by decide) (by omega) (by omega)
    rw [f_X1_fitting_6, if_pos q]
    rfl
  | k + 1, x, b, 0, h, hb, hf => absurd hf (by omega)
  | k + 1, x, b, f + 1, h, hb, hf => by
    have q : ¬ (993 : Int32) < nI x := lit_nlt (a := 993) (by decide) (by omega) (by omega)
    rw [f_X1_fitting_6, if_neg q, fitI7 hw hm hn (by omega)]
    simp only [Option.bind_some]
    unfold fi
    cases e : fitB w m n x with
    | true =>
      rw [if_neg (b2i_1 rfl), if_pos rfl]
      by_cases e2 : b = p
      · rw [if_pos (by rw [e2]), if_pos (by omega)]
        rfl
      · rw [if_neg (lit_ne (by omega) hp e2), if_neg (by omega), p1, p1, find7 hw hm hn hp k (x + 1) (b + 1) f (by omega) (by omega) (by omega), show p - (b + 1) = p - b - 1 by omega]
    | false =>
      rw [if_pos (b2i_0 rfl), if_neg (by decide), p1, find7 hw hm hn hp k (x + 1) b f (by omega) (by omega) (by omega)]
theorem find8 (hw : ∀ i, w i ≤ 9) (hm : ∀ i, m i ≤ 9) (hn : n ≤ 8) {p : Nat} (hp : p < 2 ^ 31) {kx} (hk : ∀ z, kx z = some (-6 : Int32)) : ∀ (k x b fuel : Nat), x + k = 1000 → b ≤ p → k < fuel → f_X8_fits_4 (nI p) (fun i => nI (w i)) (fun i => nI (m i)) (nI n) kx fuel (nI b) (nI x) = some (orN (fi (fitB w m n) k x (p - b)))
  | 0, x, b, 0, h, hb, hf => absurd hf (by omega)
  | 0, x, b, f + 1, h, hb, hf => by
    have q : (1000 : Int32) ≤ nI x := lit_le (a := 1000) (by decide) (by omega) (by omega)
    rw [f_X8_fits_4, if_pos q, hk]
    rfl
  | k + 1, x, b, 0, h, hb, hf => absurd hf (by omega)
  | k + 1, x, b, f + 1, h, hb, hf => by
    have q : ¬ (1000 : Int32) ≤ nI x := lit_nle (a := 1000) (by decide) (by omega) (by omega)
    rw [f_X8_fits_4, if_neg q, fitI8 hw hm hn (by omega)]
    simp only [Option.bind_some]
    unfold fi
    cases e : fitB w m n x with
    | true =>
      rw [if_neg (b2i_1 rfl), if_pos rfl]
      by_cases e2 : b = p
      · rw [if_pos (by rw [e2]), if_pos (by omega)]
        rfl
      · rw [if_neg (lit_ne (by omega) hp e2), if_neg (by omega), p1, p1, find8 hw hm hn hp hk k (x + 1) (b + 1) f (by omega) (by omega) (by omega), show p - (b + 1) = p - b - 1 by omega]
    | false =>
      rw [if_pos (b2i_0 rfl), if_neg (by decide), p1, find8 hw hm hn hp hk k (x + 1) b f (by omega) (by omega) (by omega)]
theorem lowF (y : Nat) (h : y < 11) : fitB w m n y = false := fitB_no (by omega)
theorem highF (y : Nat) (h : 994 ≤ y) (h2 : y < 1000) : fitB w m n y = false := fitB_no (by omega)
theorem cf_all : cf (fitB w m n) 1000 0 = cf (fitB w m n) 983 11 := by
  rw [show 1000 = (983 + 6) + 11 from rfl, cf_skip (983 + 6) 11 0 (fun y _ h => lowF y (by omega)), cf_tail 6 983 (0 + 11) (fun y h1 h2 => highF y (by omega) (by omega))]
theorem fi_all (j : Nat) : fi (fitB w m n) 1000 0 j = fi (fitB w m n) 983 11 j := by
  rw [show 1000 = (983 + 6) + 11 from rfl, fi_skip (983 + 6) 11 0 j (fun y _ h => lowF y (by omega)), fi_tail 6 983 (0 + 11) j (fun y h1 h2 => highF y (by omega) (by omega))]
end GV
theorem sim_fits {Y F L P W M tY tF tL iY0 iF0 iL0 iW0 iM0 iY1 iF1 iL1 iW1 iM1 kept isKept : Nat → Int32} {hd wl dy pn sn ih0 iw0 id0 in0 ik0 ih1 iw1 id1 in1 ik1 : Int32} (hI : Inv Y F L P W M tY tF tL iY0 iF0 iL0 iW0 iM0 iY1 iF1 iL1 iW1 iM1 kept isKept hd wl dy pn sn ih0 iw0 id0 in0 ik0 ih1 iw1 id1 in1 ik1) (u1 : Int32) : ∃ (res : Int32), f_X7_fits W M sn u1 = some res ∧ f_X8_fits W M sn u1 = some res ∧ Inv Y F L P W M tY tF tL iY0 iF0 iL0 iW0 iM0 iY1 iF1 iL1 iW1 iM1 kept isKept hd wl dy pn sn ih0 iw0 id0 in0 ik0 ih1 iw1 id1 in1 ik1 := by
  obtain ⟨h1, h2, h3, ⟨w, m, n, rfl, rfl, rfl, hn, hw, hm⟩, h5⟩ := id hI
  unfold f_X7_fits f_X8_fits f_X1_countFitting f_X1_fitting
  by_cases c0 : (0 : Int32) ≤ u1
  · obtain ⟨p, hp, rfl⟩ := nI_of (x := u1) (fun q => absurd c0 (not_le'.mpr q))
    have q1 : (-1 : Int32) ≤ nI p := by rw [i32_le, nI_toInt hp]; show (-1 : Int) ≤ _; omega
    have q2 : ¬ nI p = (-1 : Int32) := fun q => by
      have := congrArg Int32.toInt q
      rw [nI_toInt hp] at this
      exact absurd (this.trans (show (-1 : Int32).toInt = -1 from rfl)) (by omega)
    rw [if_pos q1, if_neg q2, show (0 : Int32) = nI 0 from rfl, show (11 : Int32) = nI 11 from rfl, find7 hw hm hn hp 983 11 0 2000 (by decide) (by omega) (by decide), find8 hw hm hn hp (fun z => if_neg q2) 1000 0 0 2000 (by decide) (by omega) (by decide), fi_all]
    exact ⟨_, rfl, rfl, hI⟩
  · have hu : ∀ z, z < 2 ^ 31 → ¬ nI z = u1 := fun z hz q => c0 (by rw [← q, i32_le, nI_toInt hz]; show (0 : Int) ≤ _; omega)
    rw [show (0 : Int32) = nI 0 from rfl, show (11 : Int32) = nI 11 from rfl, count7 hw hm hn 983 11 0 2000 (by decide) (by decide) (by decide), count8 hw hm hn hu 1000 0 0 2000 (by decide) (by decide) (by decide), cf_all]
    by_cases c1 : u1 = (-1 : Int32)
    · rw [if_pos (by rw [c1]; decide), if_pos c1]
      exact ⟨_, rfl, if_pos c1, hI⟩
    · have q : ¬ (-1 : Int32) ≤ u1 := fun q => c1 (by
        rw [i32_le, show (-1 : Int32).toInt = -1 from rfl] at q
        rw [i32_le, show (0 : Int32).toInt = 0 from rfl] at c0
        rw [← Int32.toInt_inj, show (-1 : Int32).toInt = -1 from rfl]
        omega)
      rw [if_neg q]
      exact ⟨_, rfl, if_neg c1, hI⟩
