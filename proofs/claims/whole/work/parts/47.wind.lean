/-! winding many into one -/
def pre (D : Nat → Nat) : Nat → Nat
  | 0 => 0
  | k + 1 => pre D k + D k
theorem pre_mono {D : Nat → Nat} : ∀ (r k : Nat), pre D k ≤ pre D (k + r)
  | 0, k => Nat.le_refl _
  | r + 1, k => Nat.le_trans (pre_mono r k) (Nat.le_add_right _ _)
theorem pre_le {D : Nat → Nat} (hD : ∀ i, D i ≤ 9) : ∀ k, pre D k ≤ 9 * k
  | 0 => Nat.le_refl _
  | k + 1 => by
    have := pre_le hD k
    have := hD k
    show pre D k + D k ≤ _
    omega
theorem pre_d {D : Nat → Nat} (hD : ∀ i, D i ≤ 9) : ∀ r k, pre D (k + r) - pre D k ≤ 9 * r
  | 0, k => by rw [Nat.add_zero]; omega
  | r + 1, k => by
    have := pre_d hD r k
    have := hD (k + r)
    have := pre_mono (D := D) r k
    show pre D (k + r) + D (k + r) - pre D k ≤ _
    omega
def mm (mx : Bool) (a b : Nat) : Nat := if mx = true then max a b else min a b
theorem mm_le {mx : Bool} {a b n : Nat} (ha : a ≤ n) (hb : b ≤ n) : mm mx a b ≤ n := by
  unfold mm
  by_cases c : mx = true
  · rw [if_pos c]; exact Nat.max_le.mpr ⟨ha, hb⟩
  · rw [if_neg c]; exact Nat.le_trans (Nat.min_le_left _ _) ha
def pick (mx : Bool) (g : Nat → Nat) : Nat → Nat
  | 0 => g 1
  | m + 1 => mm mx (pick mx g m) (g (m + 2))
theorem pick_congr {mx : Bool} {g g' : Nat → Nat} : ∀ (m : Nat), (∀ k, 1 ≤ k → k ≤ m + 1 → g k = g' k) → pick mx g m = pick mx g' m
  | 0, h => h 1 (by decide) (by decide)
  | m + 1, h => by
    show mm mx (pick mx g m) (g (m + 2)) = mm mx (pick mx g' m) (g' (m + 2))
    rw [pick_congr m (fun k h1 h2 => h k h1 (by omega)), h (m + 2) (by omega) (by omega)]
theorem pick_le {mx : Bool} {g : Nat → Nat} {n : Nat} : ∀ (m : Nat), (∀ k, 1 ≤ k → k ≤ m + 1 → g k ≤ n) → pick mx g m ≤ n
  | 0, h => h 1 (by decide) (by decide)
  | m + 1, h => mm_le (pick_le m (fun k h1 h2 => h k h1 (by omega))) (h (m + 2) (by omega) (by omega))
def bst (mx : Bool) (D : Nat → Nat) : Nat → Nat → Nat → Nat
  | 0, _, _ => 0
  | f + 1, i, w => if w ≤ 1 then 0 else (pre D (i + w) - pre D i) + pick mx (fun k => bst mx D f i k + bst mx D f (i + k) (w - k)) (w - 2)
theorem bst_f {mx : Bool} {D : Nat → Nat} : ∀ (f f' i w : Nat), w ≤ f → w ≤ f' → bst mx D f i w = bst mx D f' i w
  | 0, 0, i, w, h, h' => rfl
  | 0, f' + 1, i, w, h, h' => by
    unfold bst
    rw [if_pos (by omega)]
  | f + 1, 0, i, w, h, h' => by
    unfold bst
    rw [if_pos (by omega)]
  | f + 1, f' + 1, i, w, h, h' => by
    unfold bst
    by_cases c : w ≤ 1
    · rw [if_pos c, if_pos c]
    · rw [if_neg c, if_neg c, pick_congr (w - 2) (fun k h1 h2 => ?_)]
      show bst mx D f i k + bst mx D f (i + k) (w - k) = bst mx D f' i k + bst mx D f' (i + k) (w - k)
      rw [bst_f f f' i k (by omega) (by omega), bst_f f f' (i + k) (w - k) (by omega) (by omega)]
def bs (mx : Bool) (D : Nat → Nat) (i w : Nat) : Nat := bst mx D w i w
def bsg (mx : Bool) (D : Nat → Nat) (i w k : Nat) : Nat := bs mx D i k + bs mx D (i + k) (w - k)
theorem bs_1 {mx : Bool} {D : Nat → Nat} {i w : Nat} (h : w ≤ 1) : bs mx D i w = 0 := by
  unfold bs
  cases w with
  | zero => rfl
  | succ w => unfold bst; rw [if_pos h]
theorem bs_2 {mx : Bool} {D : Nat → Nat} {i w : Nat} (h : 2 ≤ w) : bs mx D i w = (pre D (i + w) - pre D i) + pick mx (bsg mx D i w) (w - 2) := by
  obtain ⟨v, rfl⟩ : ∃ v, w = v + 1 := ⟨w - 1, by omega⟩
  unfold bs bst
  rw [if_neg (by omega), pick_congr (v + 1 - 2) (fun k h1 h2 => ?_)]
  show bst mx D v i k + bst mx D v (i + k) (v + 1 - k) = bs mx D i k + bs mx D (i + k) (v + 1 - k)
  unfold bs
  rw [bst_f v k i k (by omega) (by omega), bst_f v (v + 1 - k) (i + k) (v + 1 - k) (by omega) (by omega)]
theorem bst_le {mx : Bool} {D : Nat → Nat} (hD : ∀ i, D i ≤ 9) : ∀ (f i w : Nat), w ≤ 9 → bst mx D f i w ≤ 81 * (w - 1)
  | 0, i, w, h => Nat.zero_le _
  | f + 1, i, w, h => by
    unfold bst
    by_cases c : w ≤ 1
    · rw [if_pos c]; exact Nat.zero_le _
    · rw [if_neg c]
      have h1 := pre_d hD w i
      have h2 : pick mx (fun k => bst mx D f i k + bst mx D f (i + k) (w - k)) (w - 2) ≤ 81 * (w - 2) := by
        refine pick_le (w - 2) (fun k q1 q2 => ?_)
        have a := bst_le (mx := mx) hD f i k (by omega)
        have b := bst_le (mx := mx) hD f (i + k) (w - k) (by omega)
        show bst mx D f i k + bst mx D f (i + k) (w - k) ≤ _
        omega
      omega
theorem bs_le {mx : Bool} {D : Nat → Nat} (hD : ∀ i, D i ≤ 9) {i w : Nat} (h : w ≤ 9) : bs mx D i w ≤ 648 := by
  have := bst_le (mx := mx) hD w i w h
  unfold bs
  omega
theorem bsg_le {mx : Bool} {D : Nat → Nat} (hD : ∀ i, D i ≤ 9) {i w k : Nat} (h : w ≤ 9) (hk : k ≤ w) : bsg mx D i w k ≤ 1296 := by
  have := bs_le (mx := mx) hD (i := i) (w := k) (by omega)
  have := bs_le (mx := mx) hD (i := i + k) (w := w - k) (by omega)
  unfold bsg
  omega
/-! the digits -/
theorem digI {kx : Int32 → (Nat → Int32) → Option (Int32 × (Nat → Int32))} {u : Int32} : ∀ (m x fa fb : Nat) (da db : Nat → Int32), m ≤ 9 → x < 2 ^ 31 → m < fa → m < fb → ∃ (D : Nat → Nat) (da' db' : Nat → Int32), (∀ i, D i ≤ 9) ∧ (∀ i, i < m → D i = x / 10 ^ (m - 1 - i) % 10) ∧ (∀ i, i < m → da' i = nI (D i) ∧ db' i = nI (D i)) ∧ (∀ i, m ≤ i → da' i = da i ∧ db' i = db i) ∧ f_X4_takeDigits_15 u fa (nI x) (nI m - 1) da = some (u, da') ∧ f_X8_readBalls_7 kx fb (nI x) (nI m - 1) db = kx (nI (x / 10 ^ m)) db'
  | _, _, 0, _, _, _, _, _, h, _ => absurd h (by omega)
  | _, _, _ + 1, 0, _, _, _, _, _, h => absurd h (by omega)
  | 0, x, fa + 1, fb + 1, da, db, hm, hx, ha, hb => by
    refine ⟨fun _ => 0, da, db, fun _ => by omega, fun i hi => absurd hi (by omega), fun i hi => absurd hi (by omega), fun i _ => ⟨rfl, rfl⟩, ?_, ?_⟩
    · rw [f_X4_takeDigits_15, if_pos (by decide)]
    · rw [f_X8_readBalls_7, if_pos (by decide), Nat.pow_zero, Nat.div_one]
  | m + 1, x, fa + 1, fb + 1, da, db, hm, hx, ha, hb => by
    have hx' : x / 10 < 2 ^ 31 := Nat.lt_of_le_of_lt (Nat.div_le_self _ _) hx
    obtain ⟨D, da', db', h1, h2, h3, h4, h5, h6⟩ := digI (kx := kx) (u := u) m (x / 10) fa fb (upd da m (nI (x % 10))) (upd db m (nI (x % 10))) (by omega) hx' (by omega) (by omega)
    have e : ∀ i, i < m + 1 → i = m ∨ i < m := fun i hi => by omega
    refine ⟨va_up D m (x % 10), da', db', fun i => ?_, fun i hi => ?_, fun i hi => ?_, fun i hi => ?_, ?_, ?_⟩
    · rw [upN_at]
      by_cases c : i = m
      · rw [if_pos c]; omega
      · rw [if_neg c]; exact h1 i
    · rcases e i hi with rfl | q
      · rw [up_eq, show i + 1 - 1 - i = 0 by omega, Nat.pow_zero, Nat.div_one]
      · rw [up_ne (by omega), h2 i q, Nat.div_div_eq_div_mul, show m + 1 - 1 - i = (m - 1 - i) + 1 by omega, Nat.pow_succ, Nat.mul_comm]
    · rcases e i hi with rfl | q
      · rw [up_eq, (h4 i (Nat.le_refl _)).1, (h4 i (Nat.le_refl _)).2, upd_at, upd_at, if_pos rfl]
        exact ⟨rfl, if_pos rfl⟩
      · rw [up_ne (by omega)]; exact h3 i q
    · rw [(h4 i (by omega)).1, (h4 i (by omega)).2, upd_at, upd_at, if_neg (by omega), if_neg (by omega)]
      exact ⟨rfl, rfl⟩
    · rw [m1, f_X4_takeDigits_15, if_neg (show ¬ nI m < (0 : Int32) from lit_nlt (b := 0) (by omega) (by decide) (by omega)), gI (by omega : m < 9) (by decide), cl (by omega), show (10 : Int32) = nI 10 from rfl, divI hx (by decide) (by decide), show nI x - nI (x / 10) * nI 10 = nI (x % 10) by rw [← divI hx (by decide) (by decide)]; exact remI hx (by decide) (by decide), show nI m + (-1 : Int32) = nI m - 1 from (Int32.sub_eq_add_neg _ _).symm]
      exact h5
    · rw [m1, f_X8_readBalls_7, if_neg (show ¬ nI m < (0 : Int32) from lit_nlt (b := 0) (by omega) (by decide) (by omega)), gI (by omega : m < 9) (by decide), cl (by omega), show (10 : Int32) = nI 10 from rfl, divI hx (by decide) (by decide), show nI x - nI (x / 10) * nI 10 = nI (x % 10) by rw [← divI hx (by decide) (by decide)]; exact remI hx (by decide) (by decide), show nI m + (-1 : Int32) = nI m - 1 from (Int32.sub_eq_add_neg _ _).symm, h6, Nat.div_div_eq_div_mul, Nat.pow_succ, Nat.mul_comm]
theorem digAny {kx : Int32 → (Nat → Int32) → Option (Int32 × (Nat → Int32))} : ∀ (m fb : Nat) (x : Int32) (db : Nat → Int32), m ≤ 9 → m < fb → ∃ (x' : Int32) (db' : Nat → Int32), f_X8_readBalls_7 kx fb x (nI m - 1) db = kx x' db'
  | _, 0, _, _, _, h => absurd h (by omega)
  | 0, fb + 1, x, db, hm, hb => by
    refine ⟨x, db, ?_⟩
    rw [f_X8_readBalls_7, if_pos (by decide)]
  | m + 1, fb + 1, x, db, hm, hb => by
    rw [m1, f_X8_readBalls_7, if_neg (show ¬ nI m < (0 : Int32) from lit_nlt (b := 0) (by omega) (by decide) (by omega)), gI (by omega : m < 9) (by decide), show nI m + (-1 : Int32) = nI m - 1 from (Int32.sub_eq_add_neg _ _).symm]
    exact digAny m fb _ _ (by omega) (by omega)
/-- how many digits -/
theorem dcI : ∀ (r c x fuel : Nat), x < 10 ^ r → x < 2 ^ 31 → r + c ≤ 9 → r < fuel → ∃ n, c + 1 ≤ n ∧ n ≤ c + 1 + r ∧ (∀ q, c + 1 ≤ q → (n ≤ q ↔ x / 10 ^ (q - (c + 1)) = 0)) ∧ f_X7_digitCount_9 fuel (nI (c + 1)) (nI x) (nI c) = some (nI n)
  | _, _, _, 0, _, _, _, h => absurd h (by omega)
  | 0, c, x, f + 1, hx, hx2, hc, hf => by
    have x0 : x = 0 := by rw [Nat.pow_zero] at hx; omega
    subst x0
    refine ⟨c + 1, Nat.le_refl _, by omega, fun q hq => ⟨fun _ => Nat.zero_div _, fun _ => hq⟩, ?_⟩
    rw [f_X7_digitCount_9, show (10 : Int32) = nI 10 from rfl, if_neg (lit_nle (by decide) (by omega) (by omega)), if_pos (show nI 0 ≤ (0 : Int32) by decide)]
  | r + 1, c, x, f + 1, hx, hx2, hc, hf => by
    rw [f_X7_digitCount_9, show (10 : Int32) = nI 10 from rfl, if_neg (lit_nle (by decide) (by omega) (by omega))]
    by_cases x0 : x = 0
    · subst x0
      refine ⟨c + 1, Nat.le_refl _, by omega, fun q hq => ⟨fun _ => Nat.zero_div _, fun _ => hq⟩, ?_⟩
      rw [if_pos (show nI 0 ≤ (0 : Int32) by decide)]
    · rw [if_neg (show ¬ nI x ≤ (0 : Int32) from lit_nle (b := 0) hx2 (by decide) (by omega)), divI hx2 (by decide) (by decide), p1, p1]
      have hd : x / 10 < 10 ^ r := by rw [Nat.pow_succ] at hx; omega
      obtain ⟨n, n1, n2, n3, n4⟩ := dcI r (c + 1) (x / 10) f hd (Nat.lt_of_le_of_lt (Nat.div_le_self _ _) hx2) (by omega) (by omega)
      refine ⟨n, by omega, by omega, fun q hq => ?_, n4⟩
      by_cases e : q = c + 1
      · subst e
        rw [Nat.sub_self, Nat.pow_zero, Nat.div_one]
        exact ⟨fun h => absurd h (by omega), fun h => absurd h x0⟩
      · rw [n3 q (by omega), Nat.div_div_eq_div_mul, show q - (c + 1) = (q - (c + 1 + 1)) + 1 by omega, Nat.pow_succ, Nat.mul_comm 10]
theorem digitCountI {x : Nat} (hx : x < 2 ^ 31) : ∃ n, 1 ≤ n ∧ n ≤ 10 ∧ (∀ q, 1 ≤ q → (n ≤ q ↔ x / 10 ^ q = 0)) ∧ f_X7_digitCount (nI x) = some (nI n) := by
  have h9 : x / 10 < 10 ^ 9 := by
    have : (10 : Nat) ^ 9 = 1000000000 := by decide
    rw [this]; omega
  obtain ⟨n, n1, n2, n3, n4⟩ := dcI 9 0 (x / 10) 2000 h9 (by omega) (by decide) (by decide)
  refine ⟨n, by omega, by omega, fun q hq => ?_, ?_⟩
  · rw [n3 q (by omega), Nat.div_div_eq_div_mul, show q = (q - 1) + 1 by omega, Nat.pow_succ, Nat.mul_comm 10]
    rfl
  · unfold f_X7_digitCount
    rw [show (10 : Int32) = nI 10 from rfl, divI hx (by decide) (by decide)]
    exact n4
theorem digitCountAny (x : Int32) (hx : (0 : Int32) ≤ x) : ∃ k, k < 2 ^ 31 ∧ x = nI k := by
  have h := Int32.toInt_lt x
  rw [i32_le] at hx
  have hx' : (0 : Int) ≤ x.toInt := hx
  refine ⟨x.toInt.toNat, by omega, ?_⟩
  rw [← Int32.toInt_inj, nI_toInt (by omega)]
  omega
/-! the class's times -/
section wind
variable {D : Nat → Nat} {n : Nat}
theorem sizI {kx} {dg : Nat → Int32} (hn : n ≤ 9) (hg : ∀ i, i < n → dg i = nI (D i)) : ∀ (m u fuel : Nat) (sz : Nat → Int32), u + m = n → m < fuel → (∀ i, i ≤ u → sz i = nI (pre D i)) → ∃ sz', (∀ i, i ≤ n → sz' i = nI (pre D i)) ∧ f_X4_windingTime_18 (nI n) dg kx fuel (nI u) sz = kx sz'
  | _, _, 0, _, _, h, _ => absurd h (by omega)
  | 0, u, f + 1, sz, hm, hf, hs => by
    refine ⟨sz, fun i hi => hs i (by omega), ?_⟩
    rw [f_X4_windingTime_18, if_pos (lit_le (by omega) (by omega) (by omega))]
  | m + 1, u, f + 1, sz, hm, hf, hs => by
    rw [f_X4_windingTime_18, if_neg (lit_nle (by omega) (by omega) (by omega)), gI (by omega : u < 10) (by decide), gI (by omega : u < 9) (by decide), p1, gI (by omega : u + 1 < 10) (by decide), cl (by omega), cl (by omega), hs u (Nat.le_refl _), hg u (by omega), nI_add]
    refine sizI hn hg m (u + 1) f _ (by omega) (by omega) (fun i hi => ?_)
    rw [upd_at]
    by_cases c : i = u + 1
    · rw [if_pos c, c]; rfl
    · rw [if_neg c]; exact hs i (by omega)
def flg (mx : Bool) : Int32 := if mx = true then 1 else 0
/-- all of the rows below, and of row r all before column c -/
def Tb (mx : Bool) (D : Nat → Nat) (n r c : Nat) (t : Nat → Nat → Int32) : Prop := ∀ i j, i ≤ j → j < n → (r < i ∨ (i = r ∧ j < c)) → t i j = nI (bs mx D i (j + 1 - i))
theorem updG_at (t : Nat → Nat → Int32) (a b : Nat) (v : Int32) (i j : Nat) : updG t a b v i j = if i = a ∧ j = b then v else t i j := by
  unfold updG
  by_cases c : i = a
  · rw [if_pos c, upd_at]
    by_cases e : j = b
    · rw [if_pos e, if_pos ⟨c, e⟩]
    · rw [if_neg e, if_neg (fun q => e q.2), c]
  · rw [if_neg c, if_neg (fun q => c q.1)]
theorem mmI {mx : Bool} {a b : Nat} (ha : a < 2 ^ 31) (hb : b < 2 ^ 31) {α : Type} {K : Int32 → α} : (if flg mx = 0 then K (imin (nI a) (nI b)) else K (imax (nI a) (nI b))) = K (nI (mm mx a b)) := by
  cases mx
  · rw [if_pos (by decide), imin_n ha hb]; rfl
  · rw [if_neg (by decide), imax_n ha hb]; rfl
theorem top26 {mx : Bool} (hD : ∀ i, D i ≤ 9) (hn : n ≤ 9) {i j : Nat} (hj : j < n) {t : Nat → Nat → Int32} (ht : Tb mx D n i j t) : ∀ (r m fuel : Nat), i + 1 + m + r = j → r < fuel → f_X4_timeOfParts_26 (nI i) (nI j) (flg mx) t fuel (nI (pick mx (bsg mx D i (j + 1 - i)) m)) (nI (i + 1 + m)) = some (nI (pick mx (bsg mx D i (j + 1 - i)) (m + r)))
  | _, _, 0, _, h => absurd h (by omega)
  | 0, m, f + 1, hm, hf => by
    rw [f_X4_timeOfParts_26, if_pos (lit_le (by omega) (by omega) (by omega))]
    rfl
  | r + 1, m, f + 1, hm, hf => by
    rw [f_X4_timeOfParts_26, if_neg (lit_nle (by omega) (by omega) (by omega)), gI (by omega : i < 9) (by decide), gI (by omega : i + 1 + m < 9) (by decide), p1, gI (by omega : i + 1 + m + 1 < 9) (by decide), gI (by omega : j < 9) (by decide), cl (by omega), cl (by omega), cl (by omega), cl (by omega), ht i (i + 1 + m) (by omega) (by omega) (Or.inr ⟨rfl, by omega⟩), ht (i + 1 + m + 1) j (by omega) (by omega) (Or.inl (by omega)), nI_add]
    have e : bs mx D i (i + 1 + m + 1 - i) + bs mx D (i + 1 + m + 1) (j + 1 - (i + 1 + m + 1)) = bsg mx D i (j + 1 - i) (m + 2) := by
      unfold bsg
      rw [show i + 1 + m + 1 - i = m + 2 by omega, show i + 1 + m + 1 = i + (m + 2) by omega, show j + 1 - (i + (m + 2)) = j + 1 - i - (m + 2) by omega]
    rw [e]
    have b1 : pick mx (bsg mx D i (j + 1 - i)) m ≤ 1296 := pick_le m (fun k _ h2 => bsg_le hD (by omega) (by omega))
    have b2 : bsg mx D i (j + 1 - i) (m + 2) ≤ 1296 := bsg_le hD (by omega) (by omega)
    rw [mmI (mx := mx) (a := pick mx (bsg mx D i (j + 1 - i)) m) (b := bsg mx D i (j + 1 - i) (m + 2)) (by omega) (by omega) (K := fun z => f_X4_timeOfParts_26 (nI i) (nI j) (flg mx) t f z (nI (i + 1 + m + 1)))]
    have := top26 hD hn hj ht r (m + 1) f (by omega) (by omega)
    rw [show m + (r + 1) = m + 1 + r by omega]
    exact this
theorem topI {mx : Bool} (hD : ∀ i, D i ≤ 9) (hn : n ≤ 9) {i j : Nat} (hj : j < n) (hi : i < j) {t : Nat → Nat → Int32} (ht : Tb mx D n i j t) : f_X4_timeOfParts t (nI i) (nI j) (flg mx) = some (nI (pick mx (bsg mx D i (j + 1 - i)) (j + 1 - i - 2))) := by
  unfold f_X4_timeOfParts
  rw [gI (by omega : i < 9) (by decide), p1, gI (by omega : i + 1 < 9) (by decide), gI (by omega : j < 9) (by decide), cl (by omega), cl (by omega), cl (by omega), ht i i (by omega) (by omega) (Or.inr ⟨rfl, by omega⟩), ht (i + 1) j (by omega) (by omega) (Or.inl (by omega)), nI_add]
  have e : bs mx D i (i + 1 - i) + bs mx D (i + 1) (j + 1 - (i + 1)) = bsg mx D i (j + 1 - i) 1 := by
    unfold bsg
    rw [show i + 1 - i = 1 by omega, show j + 1 - (i + 1) = j + 1 - i - 1 by omega]
  rw [e]
  have := top26 hD hn hj ht (j - i - 1) 0 2000 (by omega) (by omega)
  rw [show j + 1 - i - 2 = 0 + (j - i - 1) by omega]
  exact this
theorem row83 {mx : Bool} {kx} (hD : ∀ i, D i ≤ 9) (hn : n ≤ 9) {sz : Nat → Int32} (hs : ∀ i, i ≤ n → sz i = nI (pre D i)) {i : Nat} : ∀ (m j fuel : Nat) (t : Nat → Nat → Int32), j + m = n → i < j → m < fuel → Tb mx D n i j t → ∃ t', Tb mx D n i n t' ∧ f_X4_windingTime_83 (flg mx) (nI n) (nI i) sz kx fuel (nI j) t = kx t'
  | _, _, 0, _, _, _, h, _ => absurd h (by omega)
  | 0, j, f + 1, t, hm, hi, hf, ht => by
    have e : j = n := by omega
    subst e
    refine ⟨t, ht, ?_⟩
    rw [f_X4_windingTime_83, if_pos (lit_le (by omega) (by omega) (by omega))]
  | m + 1, j, f + 1, t, hm, hi, hf, ht => by
    rw [f_X4_windingTime_83, if_neg (lit_nle (by omega) (by omega) (by omega)), p1, gI (by omega : j + 1 < 10) (by decide), gI (by omega : i < 10) (by decide), gI (by omega : i < 9) (by decide), topI hD hn (by omega) hi ht]
    simp only [Option.bind_some]
    have pm := pre_mono (D := D) (j + 1 - i) i
    rw [show i + (j + 1 - i) = j + 1 by omega] at pm
    rw [gI (by omega : j < 9) (by decide), cl (by omega), cl (by omega), cl (by omega), hs (j + 1) (by omega), hs i (by omega), subI pm, nI_add]
    refine row83 hD hn hs m (j + 1) f _ (by omega) (by omega) (by omega) (fun a b h1 h2 h3 => ?_)
    rw [updG_at]
    by_cases c : a = i ∧ b = j
    · obtain ⟨rfl, rfl⟩ := c
      rw [if_pos ⟨rfl, rfl⟩, bs_2 (by omega : 2 ≤ b + 1 - a), show a + (b + 1 - a) = b + 1 by omega]
    · rw [if_neg c]
      exact ht a b h1 h2 (by omega)
theorem rows61 {mx : Bool} {kx} (hD : ∀ i, D i ≤ 9) (hn : n ≤ 9) {sz : Nat → Int32} (hs : ∀ i, i ≤ n → sz i = nI (pre D i)) : ∀ (i fuel : Nat) (t : Nat → Nat → Int32), i ≤ n → i < fuel → (∀ a b, a ≤ b → b < n → i ≤ a → t a b = nI (bs mx D a (b + 1 - a))) → ∃ t', (∀ a b, a ≤ b → b < n → t' a b = nI (bs mx D a (b + 1 - a))) ∧ f_X4_windingTime_61 (flg mx) (nI n) sz kx fuel (nI i - 1) t = kx t'
  | _, 0, _, _, h, _ => absurd h (by omega)
  | 0, f + 1, t, hi, hf, ht => by
    refine ⟨t, fun a b h1 h2 => ht a b h1 h2 (by omega), ?_⟩
    rw [f_X4_windingTime_61, if_pos (by decide)]
  | i + 1, f + 1, t, hi, hf, ht => by
    have hT : Tb mx D n i (i + 1) (updG t i i (0 : Int32)) := by
      intro a b h1 h2 h3
      rw [updG_at]
      by_cases c : a = i ∧ b = i
      · rw [if_pos c, c.1, c.2, bs_1 (by omega)]; rfl
      · rw [if_neg c]; exact ht a b h1 h2 (by omega)
    obtain ⟨t1, ht1, e1⟩ := row83 (mx := mx) (kx := fun times_15 => f_X4_windingTime_61 (flg mx) (nI n) sz kx f (nI i + (-1 : Int32)) times_15) hD hn hs (n - (i + 1)) (i + 1) 2000 _ (by omega) (by omega) (by omega) hT
    rw [m1, f_X4_windingTime_61, if_neg (show ¬ nI i < (0 : Int32) from lit_nlt (b := 0) (by omega) (by decide) (by omega)), gI (by omega : i < 9) (by decide), cl (by omega), p1, e1, show nI i + (-1 : Int32) = nI i - 1 from (Int32.sub_eq_add_neg _ _).symm]
    exact rows61 hD hn hs i f t1 (by omega) (by omega) (fun a b h1 h2 h3 => ht1 a b h1 h2 (by omega))
theorem wind7 {mx : Bool} {x : Nat} (hD : ∀ i, D i ≤ 9) (hn : n ≤ 9) (h0 : 1 ≤ n) {dg0 dg : Nat → Int32} (hg : ∀ i, i < n → dg i = nI (D i)) (ed : f_X4_takeDigits_15 (nI n) 2000 (nI x) (nI n - 1) dg0 = some (nI n, dg)) (sz : Nat → Int32) (t : Nat → Nat → Int32) : ∃ sz' t', f_X4_windingTime dg0 sz t (nI x) (nI n) (flg mx) = some (nI (bs mx D 0 n), dg, sz', t') := by
  unfold f_X4_windingTime f_X4_takeDigits
  rw [show (9 : Int32) = nI 9 from rfl, imin_n (by omega) (by decide), Nat.min_eq_left hn, ed]
  simp only [Option.bind_some]
  obtain ⟨sz', hs, e1⟩ := sizI (D := D) (n := n) (dg := dg) (kx := fun sizes_6 => f_X4_windingTime_61 (flg mx) (nI n) sizes_6 (fun times_16 => if (nI n - (1 : Int32)) < 0 ∨ 9 ≤ (nI n - (1 : Int32)).toNatClampNeg then none else some ((times_16 (0 : Int32).toNatClampNeg (nI n - (1 : Int32)).toNatClampNeg), dg, sizes_6, times_16)) 2000 (nI n - (1 : Int32)) t) hn hg n 0 2000 (upd sz (0 : Int32).toNatClampNeg (0 : Int32)) (by omega) (by omega) (fun i hi => by
    have e : i = 0 := by omega
    subst e
    rfl)
  refine ⟨sz', ?_⟩
  obtain ⟨t', ht, e2⟩ := rows61 (mx := mx) (kx := fun times_16 => if (nI n - (1 : Int32)) < 0 ∨ 9 ≤ (nI n - (1 : Int32)).toNatClampNeg then none else some ((times_16 (0 : Int32).toNatClampNeg (nI n - (1 : Int32)).toNatClampNeg), dg, sz', times_16)) hD hn hs n 2000 t (Nat.le_refl _) (by omega) (fun a b h1 h2 h3 => absurd h3 (by omega))
  refine ⟨t', ?_⟩
  refine e1.trans (e2.trans ?_)
  rw [show (1 : Int32) = nI 1 from rfl, subI h0, gI (by omega : n - 1 < 9) (by decide), cl (by omega), show (0 : Int32).toNatClampNeg = 0 from rfl, ht 0 (n - 1) (by omega) (by omega), show n - 1 + 1 - 0 = n by omega]
/-! the other's least and most -/
/-- all narrower ones, and of this width those before c -/
def Lm (mx : Bool) (D : Nat → Nat) (n w c : Nat) (g : Nat → Int32) : Prop := ∀ i v, 1 ≤ v → i + v ≤ n → (v < w ∨ (v = w ∧ i < c)) → g (10 * i + (i + v)) = nI (bs mx D i v)
theorem sumI {bl : Nat → Int32} (hn : n ≤ 9) (hb : ∀ i, i < n → bl i = nI (D i)) {t : Nat} (ht : t ≤ n) : ∀ (m u a fuel : Nat), u + m = t → m < fuel → f_X8_sizeOf_5 (nI t) bl fuel (nI a) (nI u) = some (nI (a + (pre D t - pre D u)))
  | _, _, _, 0, _, h => absurd h (by omega)
  | 0, u, a, f + 1, hm, hf => by
    have e : u = t := by omega
    subst e
    rw [f_X8_sizeOf_5, if_pos (lit_le (by omega) (by omega) (by omega)), Nat.sub_self, Nat.add_zero]
  | m + 1, u, a, f + 1, hm, hf => by
    rw [f_X8_sizeOf_5, if_neg (lit_nle (by omega) (by omega) (by omega)), gI (by omega : u < 9) (by decide), cl (by omega), hb u (by omega), nI_add, p1, sumI hn hb ht m (u + 1) _ f (by omega) (by omega)]
    have pm := pre_mono (D := D) m (u + 1)
    rw [show u + 1 + m = t by omega] at pm
    have : pre D (u + 1) = pre D u + D u := rfl
    rw [show a + D u + (pre D t - pre D (u + 1)) = a + (pre D t - pre D u) by omega]
theorem ixI (a b : Nat) : (10 : Int32) * nI a + nI b = nI (10 * a + b) := by
  rw [show (10 : Int32) = nI 10 from rfl, mulI, nI_add]
theorem maxI {a b : Nat} (ha : a < 2 ^ 31) (hb : b < 2 ^ 31) {α : Type} {K : Int32 → α} : (if nI b ≤ nI a then K (nI a) else K (nI b)) = K (nI (mm true a b)) := by
  unfold mm
  rw [if_pos rfl]
  by_cases c : b ≤ a
  · rw [if_pos (lit_le hb ha c), Nat.max_eq_left c]
  · rw [if_neg (lit_nle hb ha c), Nat.max_eq_right (by omega)]
theorem one10 {kx} (hD : ∀ i, D i ≤ 9) (hn : n ≤ 9) {i w c : Nat} (hi : i + w ≤ n) (hw : 2 ≤ w) {ls ms : Nat → Int32} (h1 : Lm false D n w c ls) (h2 : Lm true D n w c ms) : ∀ (r m fuel : Nat), i + 2 + m + r = i + w → r < fuel → f_X8_windOne_10 (nI i) (nI (i + w)) ls ms kx fuel (nI (pick false (bsg false D i w) m)) (nI (pick true (bsg true D i w) m)) (nI (i + 2 + m)) = kx (nI (pick false (bsg false D i w) (m + r))) (nI (pick true (bsg true D i w) (m + r)))
  | _, _, 0, _, h => absurd h (by omega)
  | 0, m, f + 1, hm, hf => by
    rw [f_X8_windOne_10, if_pos (lit_le (by omega) (by omega) (by omega))]
    rfl
  | r + 1, m, f + 1, hm, hf => by
    have L : ∀ {mx : Bool} {g : Nat → Int32}, Lm mx D n w c g → g (10 * i + (i + 2 + m)) + g (10 * (i + 2 + m) + (i + w)) = nI (bsg mx D i w (m + 2)) := by
      intro mx g hg
      rw [show i + 2 + m = i + (m + 2) by omega, hg i (m + 2) (by omega) (by omega) (Or.inl (by omega)), show 10 * (i + (m + 2)) + (i + w) = 10 * (i + (m + 2)) + ((i + (m + 2)) + (w - (m + 2))) by omega, hg (i + (m + 2)) (w - (m + 2)) (by omega) (by omega) (Or.inl (by omega)), nI_add]
      rfl
    have b1 : ∀ mx : Bool, pick mx (bsg mx D i w) m ≤ 1296 := fun mx => pick_le m (fun k _ h2 => bsg_le hD (by omega) (by omega))
    have b2 : ∀ mx : Bool, bsg mx D i w (m + 2) ≤ 1296 := fun mx => bsg_le hD (by omega) (by omega)
    have b1f := b1 false
    have b1t := b1 true
    have b2f := b2 false
    have b2t := b2 true
    rw [f_X8_windOne_10, if_neg (lit_nle (by omega) (by omega) (by omega)), ixI, ixI, gI (by omega : 10 * i + (i + 2 + m) < 100) (by decide), gI (by omega : 10 * (i + 2 + m) + (i + w) < 100) (by decide), cl (by omega), cl (by omega), p1, p1, if_neg (lit_ne (by omega) (by omega) (by omega)), L h1, L h2, lessI (by omega) (by omega)]
    simp only [Option.bind_some]
    rw [maxI (a := pick true (bsg true D i w) m) (b := bsg true D i w (m + 2)) (by omega) (by omega) (K := fun z => f_X8_windOne_10 (nI i) (nI (i + w)) ls ms kx f _ z (nI (i + 2 + m + 1)))]
    have e : (if bsg false D i w (m + 2) ≤ pick false (bsg false D i w) m then bsg false D i w (m + 2) else pick false (bsg false D i w) m) = pick false (bsg false D i w) (m + 1) := by
      show _ = mm false (pick false (bsg false D i w) m) (bsg false D i w (m + 2))
      unfold mm
      rw [if_neg (show ¬ false = true by decide)]
      by_cases c : bsg false D i w (m + 2) ≤ pick false (bsg false D i w) m
      · rw [if_pos c, Nat.min_eq_right c]
      · rw [if_neg c, Nat.min_eq_left (by omega)]
    rw [e]
    have := one10 (kx := kx) hD hn hi hw h1 h2 r (m + 1) f (by omega) (by omega)
    rw [show m + (r + 1) = m + 1 + r by omega]
    exact this
theorem Lm_put {mx : Bool} {g : Nat → Int32} {i w : Nat} (hn : n ≤ 9) (hi : i + w ≤ n) (hw : 1 ≤ w) (h : Lm mx D n w i g) : Lm mx D n w (i + 1) (upd g (10 * i + (i + w)) (nI (bs mx D i w))) := by
  intro a v h1 h2 h3
  rw [upd_at]
  by_cases c : a = i ∧ v = w
  · obtain ⟨rfl, rfl⟩ := c
    rw [if_pos rfl]
  · rw [if_neg (by omega)]
    exact h a v h1 h2 (by omega)
theorem oneI {bl : Nat → Int32} (hD : ∀ i, D i ≤ 9) (hn : n ≤ 9) (hb : ∀ i, i < n → bl i = nI (D i)) {i w : Nat} (hi : i + w ≤ n) (hw : 1 ≤ w) {ls ms : Nat → Int32} (h1 : Lm false D n w i ls) (h2 : Lm true D n w i ms) : ∃ ls' ms', Lm false D n w (i + 1) ls' ∧ Lm true D n w (i + 1) ms' ∧ f_X8_windOne bl ls ms (nI i) (nI (i + w)) = some (ls', ms') := by
  refine ⟨_, _, Lm_put hn hi hw h1, Lm_put hn hi hw h2, ?_⟩
  unfold f_X8_windOne
  rw [p1]
  by_cases c : w = 1
  · subst c
    rw [f_X8_windOne_10, if_pos (lit_le (by omega) (by omega) (by omega)), subI (by omega), if_pos (show nI (i + 1 - i) ≤ (1 : Int32) from lit_le (b := 1) (by omega) (by decide) (by omega)), ixI, gI (by omega : 10 * i + (i + 1) < 100) (by decide), cl (by omega), bs_1 (by omega), bs_1 (by omega)]
    rfl
  · have b : ∀ mx : Bool, bsg mx D i w 1 ≤ 1296 := fun mx => bsg_le hD (by omega) (by omega)
    have bt := b true
    have L : ∀ {mx : Bool} {g : Nat → Int32}, Lm mx D n w i g → g (10 * i + (i + 1)) + g (10 * (i + 1) + (i + w)) = nI (bsg mx D i w 1) := by
      intro mx g hg
      rw [hg i 1 (by omega) (by omega) (Or.inl (by omega)), show 10 * (i + 1) + (i + w) = 10 * (i + 1) + ((i + 1) + (w - 1)) by omega, hg (i + 1) (w - 1) (by omega) (by omega) (Or.inl (by omega)), nI_add]
      rfl
    rw [f_X8_windOne_10, if_neg (lit_nle (by omega) (by omega) (by omega)), ixI, ixI, gI (by omega : 10 * i + (i + 1) < 100) (by decide), gI (by omega : 10 * (i + 1) + (i + w) < 100) (by decide), cl (by omega), cl (by omega), p1, p1, if_pos rfl, L h1, L h2]
    have fin : ∀ Z : Int32, Z = nI (bsg true D i w 1) → f_X8_windOne_10 (nI i) (nI (i + w)) ls ms (fun u3_8 u4_9 => if (nI (i + w) - nI i) ≤ (1 : Int32) then if (((10 : Int32) * nI i) + nI (i + w)) < 0 ∨ 100 ≤ (((10 : Int32) * nI i) + nI (i + w)).toNatClampNeg then none else some ((upd ls (((10 : Int32) * nI i) + nI (i + w)).toNatClampNeg (u3_8 + (0 : Int32))), (upd ms (((10 : Int32) * nI i) + nI (i + w)).toNatClampNeg (u4_9 + (0 : Int32)))) else (f_X8_sizeOf bl (nI i) (nI (i + w))).bind (fun r12 => if (((10 : Int32) * nI i) + nI (i + w)) < 0 ∨ 100 ≤ (((10 : Int32) * nI i) + nI (i + w)).toNatClampNeg then none else some ((upd ls (((10 : Int32) * nI i) + nI (i + w)).toNatClampNeg (u3_8 + r12)), (upd ms (((10 : Int32) * nI i) + nI (i + w)).toNatClampNeg (u4_9 + r12))))) 1999 (nI (bsg false D i w 1)) Z (nI (i + 1 + 1)) = some (upd ls (10 * i + (i + w)) (nI (bs false D i w)), upd ms (10 * i + (i + w)) (nI (bs true D i w))) := by
      rintro Z rfl
      have := one10 hD hn hi (by omega) h1 h2 (kx := fun u3_8 u4_9 => if (nI (i + w) - nI i) ≤ (1 : Int32) then if (((10 : Int32) * nI i) + nI (i + w)) < 0 ∨ 100 ≤ (((10 : Int32) * nI i) + nI (i + w)).toNatClampNeg then none else some ((upd ls (((10 : Int32) * nI i) + nI (i + w)).toNatClampNeg (u3_8 + (0 : Int32))), (upd ms (((10 : Int32) * nI i) + nI (i + w)).toNatClampNeg (u4_9 + (0 : Int32)))) else (f_X8_sizeOf bl (nI i) (nI (i + w))).bind (fun r12 => if (((10 : Int32) * nI i) + nI (i + w)) < 0 ∨ 100 ≤ (((10 : Int32) * nI i) + nI (i + w)).toNatClampNeg then none else some ((upd ls (((10 : Int32) * nI i) + nI (i + w)).toNatClampNeg (u3_8 + r12)), (upd ms (((10 : Int32) * nI i) + nI (i + w)).toNatClampNeg (u4_9 + r12))))) (w - 2) 0 1999 (by omega) (by omega)
      refine Eq.trans this ?_
      show (if (nI (i + w) - nI i) ≤ (1 : Int32) then _ else _) = _
      rw [subI (by omega), if_neg (show ¬ nI (i + w - i) ≤ (1 : Int32) from lit_nle (b := 1) (by omega) (by decide) (by omega))]
      unfold f_X8_sizeOf
      have hs := sumI hn hb hi w i 0 2000 (by omega) (by omega)
      rw [show f_X8_sizeOf_5 (nI (i + w)) bl 2000 (0 : Int32) (nI i) = some (nI (0 + (pre D (i + w) - pre D i))) from hs]
      simp only [Option.bind_some]
      rw [ixI, gI (by omega : 10 * i + (i + w) < 100) (by decide), cl (by omega), nI_add, nI_add, bs_2 (mx := false) (by omega : 2 ≤ w), bs_2 (mx := true) (by omega : 2 ≤ w), Nat.zero_add, Nat.zero_add, Nat.add_comm (pick false _ _), Nat.add_comm (pick true _ _)]
    by_cases q : nI (bsg true D i w 1) ≤ (0 : Int32)
    · rw [if_pos q]
      refine fin 0 ?_
      have := (nI_leI (a := bsg true D i w 1) (b := 0) (by omega) (by decide)).mp q
      rw [show bsg true D i w 1 = 0 by omega]; rfl
    · rw [if_neg q]
      exact fin _ rfl
theorem w46 {kx} {bl : Nat → Int32} (hD : ∀ i, D i ≤ 9) (hn : n ≤ 9) (hb : ∀ i, i < n → bl i = nI (D i)) {w : Nat} (hw : 1 ≤ w) (hwn : w ≤ n) : ∀ (m i fuel : Nat) (ls ms : Nat → Int32), i + m = n - w + 1 → m < fuel → Lm false D n w i ls → Lm true D n w i ms → ∃ ls' ms', Lm false D n (w + 1) 0 ls' ∧ Lm true D n (w + 1) 0 ms' ∧ f_X8_wind_46 (nI n) (nI w) bl kx fuel (nI i) ls ms = kx ls' ms'
  | _, _, 0, _, _, _, h, _, _ => absurd h (by omega)
  | 0, i, f + 1, ls, ms, hm, hf, h1, h2 => by
    refine ⟨ls, ms, fun a v q1 q2 q3 => h1 a v q1 q2 (by omega), fun a v q1 q2 q3 => h2 a v q1 q2 (by omega), ?_⟩
    rw [f_X8_wind_46, nI_add, if_pos (lit_lt (by omega) (by omega) (by omega))]
  | m + 1, i, f + 1, ls, ms, hm, hf, h1, h2 => by
    obtain ⟨ls1, ms1, a1, a2, e⟩ := oneI hD hn hb (i := i) (w := w) (by omega) hw h1 h2
    rw [f_X8_wind_46, nI_add, if_neg (lit_nlt (by omega) (by omega) (by omega)), e]
    simp only [Option.bind_some]
    rw [p1]
    exact w46 hD hn hb hw hwn m (i + 1) f ls1 ms1 (by omega) (by omega) a1 a2
theorem w37 {kx} {bl : Nat → Int32} (hD : ∀ i, D i ≤ 9) (hn : n ≤ 9) (hb : ∀ i, i < n → bl i = nI (D i)) : ∀ (m w fuel : Nat) (ls ms : Nat → Int32), w + m = n + 1 → 1 ≤ w → m < fuel → Lm false D n w 0 ls → Lm true D n w 0 ms → ∃ ls' ms', Lm false D n (n + 1) 0 ls' ∧ Lm true D n (n + 1) 0 ms' ∧ f_X8_wind_37 (nI n) bl kx fuel (nI w) ls ms = kx ls' ms'
  | _, _, 0, _, _, _, _, h, _, _ => absurd h (by omega)
  | 0, w, f + 1, ls, ms, hm, h0, hf, h1, h2 => by
    have e : w = n + 1 := by omega
    subst e
    refine ⟨ls, ms, h1, h2, ?_⟩
    rw [f_X8_wind_37, if_pos (lit_lt (by omega) (by omega) (by omega))]
  | m + 1, w, f + 1, ls, ms, hm, h0, hf, h1, h2 => by
    obtain ⟨ls1, ms1, a1, a2, e⟩ := w46 (kx := fun least_10 most_11 => f_X8_wind_37 (nI n) bl kx f (nI w + (1 : Int32)) least_10 most_11) hD hn hb h0 (by omega) (n - w + 1) 0 2000 ls ms (by omega) (by omega) h1 h2
    obtain ⟨ls2, ms2, b1, b2, e2⟩ := w37 (kx := kx) hD hn hb m (w + 1) f ls1 ms1 (by omega) (by omega) (by omega) a1 a2
    refine ⟨ls2, ms2, b1, b2, ?_⟩
    rw [f_X8_wind_37, if_neg (lit_nlt (by omega) (by omega) (by omega))]
    refine Eq.trans e ?_
    show f_X8_wind_37 (nI n) bl kx f (nI w + (1 : Int32)) ls1 ms1 = _
    rw [p1]
    exact e2
end wind
set_option maxRecDepth 1000000 in
theorem sim_wind {Y F L P W M tY tF tL iY0 iF0 iL0 iW0 iM0 iY1 iF1 iL1 iW1 iM1 kept isKept : Nat → Int32} {hd wl dy pn sn ih0 iw0 id0 in0 ik0 ih1 iw1 id1 in1 ik1 : Int32} (hI : Inv Y F L P W M tY tF tL iY0 iF0 iL0 iW0 iM0 iY1 iF1 iL1 iW1 iM1 kept isKept hd wl dy pn sn ih0 iw0 id0 in0 ik0 ih1 iw1 id1 in1 ik1) (a_puzzles_digits : Nat → Int32) (a_puzzles_sizes : Nat → Int32) (a_puzzles_times : Nat → Nat → Int32) (b_balls : Nat → Int32) (b_least : Nat → Int32) (b_most : Nat → Int32) (u1 : Int32) (u2 : Int32) (u3 : Int32) : ∃ (res : Int32) (a_puzzles_digits' : Nat → Int32) (a_puzzles_sizes' : Nat → Int32) (a_puzzles_times' : Nat → Nat → Int32) (b_balls' : Nat → Int32) (b_least' : Nat → Int32) (b_most' : Nat → Int32), f_X7_wind a_puzzles_digits a_puzzles_sizes a_puzzles_times u1 u2 u3 = some (res, a_puzzles_digits', a_puzzles_sizes', a_puzzles_times') ∧ f_X8_wind b_balls b_least b_most u1 u2 u3 = some (res, b_balls', b_least', b_most') ∧ Inv Y F L P W M tY tF tL iY0 iF0 iL0 iW0 iM0 iY1 iF1 iL1 iW1 iM1 kept isKept hd wl dy pn sn ih0 iw0 id0 in0 ik0 ih1 iw1 id1 in1 ik1 := by
  unfold f_X7_wind f_X8_wind
  rw [isW, isW, in_1_9, in_0_1]
  simp only [Option.bind_some]
  by_cases c1 : (1 : Int32) ≤ u2 ∧ u2 ≤ (9 : Int32)
  · obtain ⟨n, h0, hn, rfl⟩ := rg (a := 1) (b := 9) (by decide) (by decide) c1
    simp only [w1 c1]
    unfold f_X8_readBalls
    by_cases c2 : u1 < 0
    · obtain ⟨x', db', e⟩ := digAny (kx := fun u3_3 balls_4 => if u1 < 0 then some ((0 : Int32), balls_4) else if u3_3 = 0 then some ((1 : Int32), balls_4) else some ((0 : Int32), balls_4)) n 2000 u1 b_balls hn (by omega)
      rw [if_pos c2, e]
      simp only [if_pos c2, Option.bind_some, if_pos]
      exact ⟨_, _, _, _, _, _, _, rfl, rfl, hI⟩
    · obtain ⟨x, hx, rfl⟩ := digitCountAny u1 (not_lt'.mp c2)
      obtain ⟨q, q1, q2, q3, q4⟩ := digitCountI hx
      obtain ⟨D, da, db, hD, _, hd, _, e7, e8⟩ := digI (u := nI n) (kx := fun u3_3 balls_4 => if nI x < 0 then some ((0 : Int32), balls_4) else if u3_3 = 0 then some ((1 : Int32), balls_4) else some ((0 : Int32), balls_4)) n x 2000 2000 a_puzzles_digits b_balls hn hx (by omega) (by omega)
      rw [if_neg c2, q4, e8]
      simp only [if_neg c2, Option.bind_some]
      by_cases c3 : q ≤ n
      · rw [if_pos (lit_le (by omega) (by omega) c3), (q3 n h0).mp c3]
        simp only [if_pos (show nI 0 = (0 : Int32) from rfl), Option.bind_some, if_neg (show ¬ (1 : Int32) = 0 by decide)]
        by_cases c4 : (0 : Int32) ≤ u3 ∧ u3 ≤ (1 : Int32)
        · simp only [w1 c4]
          obtain ⟨v, _, hv, rfl⟩ := rg (a := 0) (b := 1) (by decide) (by decide) c4
          have fin : ∀ mx : Bool, nI v = flg mx → ∃ sz' t' ls' ms', f_X4_windingTime a_puzzles_digits a_puzzles_sizes a_puzzles_times (nI x) (nI n) (flg mx) = some (nI (bs mx D 0 n), da, sz', t') ∧ f_X8_wind_37 (nI n) db (fun least_12 most_13 => if nI v = 0 then if nI n < 0 ∨ 100 ≤ (nI n).toNatClampNeg then none else some ((least_12 (nI n).toNatClampNeg), db, least_12, most_13) else if nI n < 0 ∨ 100 ≤ (nI n).toNatClampNeg then none else some ((most_13 (nI n).toNatClampNeg), db, least_12, most_13)) 2000 (1 : Int32) b_least b_most = some (nI (bs mx D 0 n), db, ls', ms') := by
            intro mx hm
            obtain ⟨sz', t', e1⟩ := wind7 (mx := mx) hD hn h0 (fun i hi => (hd i hi).1) e7 a_puzzles_sizes a_puzzles_times
            obtain ⟨ls', ms', b1, b2, e2⟩ := w37 (kx := fun least_12 most_13 => if nI v = 0 then if nI n < 0 ∨ 100 ≤ (nI n).toNatClampNeg then none else some ((least_12 (nI n).toNatClampNeg), db, least_12, most_13) else if nI n < 0 ∨ 100 ≤ (nI n).toNatClampNeg then none else some ((most_13 (nI n).toNatClampNeg), db, least_12, most_13)) hD hn (fun i hi => (hd i hi).2) n 1 2000 b_least b_most (by omega) (by decide) (by omega) (fun i v q1 q2 q3 => by omega) (fun i v q1 q2 q3 => by omega)
            refine ⟨sz', t', ls', ms', e1, Eq.trans e2 ?_⟩
            have r1 := b1 0 n h0 (by omega) (Or.inl (by omega))
            have r2 := b2 0 n h0 (by omega) (Or.inl (by omega))
            rw [show 10 * 0 + (0 + n) = n by omega] at r1 r2
            simp only [gI (show n < 100 by omega) (by decide), cl (show n < 2 ^ 31 by omega), hm]
            cases mx
            · rw [if_pos (by decide), gJ (show n < 100 by omega) (by decide), r1]
            · rw [if_neg (by decide), gJ (show n < 100 by omega) (by decide), r2]
          by_cases c5 : v = 1
          · subst c5
            obtain ⟨sz', t', ls', ms', e1, e2⟩ := fin true rfl
            rw [if_pos (show nI 1 = (1 : Int32) from rfl), show (1 : Int32) = flg true from rfl, e1]
            refine ⟨_, _, _, _, _, _, _, rfl, e2, hI⟩
          · have c6 : v = 0 := by omega
            subst c6
            obtain ⟨sz', t', ls', ms', e1, e2⟩ := fin false rfl
            rw [if_neg (show ¬ nI 0 = (1 : Int32) by decide), show (0 : Int32) = flg false from rfl, e1]
            refine ⟨_, _, _, _, _, _, _, rfl, e2, hI⟩
        · simp only [w0 c4]
          exact ⟨_, _, _, _, _, _, _, rfl, rfl, hI⟩
      · rw [if_neg (lit_nle (by omega) (by omega) c3)]
        have hne : ¬ nI (x / 10 ^ n) = 0 := by
          have h1 : ¬ x / 10 ^ n = 0 := fun z => c3 ((q3 n h0).mpr z)
          have h2 : x / 10 ^ n < 2 ^ 31 := Nat.lt_of_le_of_lt (Nat.div_le_self _ _) hx
          exact lit_ne (b := 0) h2 (by decide) h1
        simp only [if_neg hne, Option.bind_some, if_pos]
        exact ⟨_, _, _, _, _, _, _, rfl, rfl, hI⟩
  · simp only [w0 c1]
    exact ⟨_, _, _, _, _, _, _, rfl, rfl, hI⟩
