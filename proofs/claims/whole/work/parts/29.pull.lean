/-! pulling by turns -/
theorem msk : ∀ z, z < 1024 → ∀ v, v < 10 → (z &&& (2 ^ v ^^^ 4294967295) = 0 ↔ ∀ u, u < 10 → u ≠ v → z.testBit u = false) := by decide +kernel
theorem mskT : ∀ z, z < 1024 → ∀ v, v < 10 → (z &&& (2 ^ v ^^^ 4294967295) < 1024 ∧ ∀ u, u < 10 → (z &&& (2 ^ v ^^^ 4294967295)).testBit u = (z.testBit u && decide (u ≠ v))) := by decide +kernel
theorem mskI {z v : Nat} (hv : v < 10) : nI z &&& (((1 : Int32) <<< (nI v &&& 31)) ^^^ (-1 : Int32)) = nI (z &&& (2 ^ v ^^^ 4294967295)) := by
  rw [shl1 v hv, show (-1 : Int32) = nI 4294967295 by decide, nI_xor, nI_and]
/-- no other bit than v -/
def lone (z v : Nat) : Prop := ∀ u, u < 10 → u ≠ v → z.testBit u = false
def OKB (k : Nat) (B : Nat → Nat) (cur : Nat) : Prop := ∀ y, y < cur → B y < 1024 ∧ ∀ v, v < 10 → ((B y).testBit v = true ↔ 1 ≤ v ∧ v ≤ k ∧ v ≤ y ∧ lone (B (y - v)) v)
theorem testBit_or2 (b m v : Nat) : (b ||| 2 ^ m).testBit v = (b.testBit v || decide (m = v)) := by
  rw [Nat.testBit_or, Nat.testBit_two_pow]
theorem inner13 {k y : Nat} (hk : k ≤ 9) (hy : y ≤ 99) {f : Nat → Int32} {B : Nat → Nat} (hB : ∀ x, x < y → f x = nI (B x) ∧ B x < 1024) {kx} : ∀ (j m b fuel : Nat), m + j = 11 → 1 ≤ m → b < 1024 → j < fuel → ∃ b', f_X4_winningPulls_13 (nI k) (nI y) f kx fuel (nI b) (nI m) = kx (nI b') ∧ b' < 1024 ∧ ∀ v, v < 10 → (b'.testBit v = true ↔ b.testBit v = true ∨ (m ≤ v ∧ v ≤ k ∧ v ≤ y ∧ lone (B (y - v)) v))
  | 0, m, b, 0, h, h1, hb, hf => absurd hf (by omega)
  | 0, m, b, fu + 1, h, h1, hb, hf => by
    rw [f_X4_winningPulls_13, if_pos (lit_lt (by omega) (by omega) (by omega))]
    exact ⟨b, rfl, hb, fun v hv => ⟨Or.inl, fun q => q.elim id (fun q => absurd q.1 (by omega))⟩⟩
  | j + 1, m, b, 0, h, h1, hb, hf => absurd hf (by omega)
  | j + 1, m, b, fu + 1, h, h1, hb, hf => by
    rw [f_X4_winningPulls_13]
    by_cases c1 : k < m
    · rw [if_pos (lit_lt (by omega) (by omega) c1)]
      exact ⟨b, rfl, hb, fun v hv => ⟨Or.inl, fun q => q.elim id (fun q => absurd q.1 (by omega))⟩⟩
    · rw [if_neg (lit_nlt (by omega) (by omega) c1)]
      by_cases c2 : y < m
      · rw [if_pos (lit_lt (by omega) (by omega) c2)]
        exact ⟨b, rfl, hb, fun v hv => ⟨Or.inl, fun q => q.elim id (fun q => absurd q.1 (by omega))⟩⟩
      · obtain ⟨e1, e2⟩ := hB (y - m) (by omega)
        rw [if_neg (lit_nlt (by omega) (by omega) c2), subI (by omega), gI (show y - m < 100 by omega) (by decide), cl (by omega), e1, mskI (by omega), shl1 m (by omega), nI_or, p1]
        have hb' : b ||| 2 ^ m < 1024 := Nat.or_lt_two_pow (n := 10) hb (Nat.pow_lt_pow_right (by decide) (by omega))
        by_cases c3 : B (y - m) &&& (2 ^ m ^^^ 4294967295) = 0
        · rw [if_pos (by rw [c3]; rfl)]
          obtain ⟨b', q1, q2, q3⟩ := inner13 hk hy hB j (m + 1) (b ||| 2 ^ m) fu (by omega) (by omega) hb' (by omega)
          refine ⟨b', q1, q2, fun v hv => (q3 v hv).trans ?_⟩
          rw [testBit_or2]
          have hl : lone (B (y - m)) m := (msk _ e2 m (by omega)).mp c3
          constructor
          · rintro (q | ⟨q, r⟩)
            · rcases Bool.or_eq_true_iff.mp q with q | q
              · exact Or.inl q
              · have : m = v := of_decide_eq_true q
                subst this
                exact Or.inr ⟨Nat.le_refl _, by omega, by omega, hl⟩
            · exact Or.inr ⟨by omega, r⟩
          · rintro (q | ⟨q, r⟩)
            · exact Or.inl (by rw [q]; rfl)
            · by_cases e : m = v
              · exact Or.inl (by rw [decide_eq_true e, Bool.or_true])
              · exact Or.inr ⟨by omega, r⟩
        · rw [if_neg (show ¬ nI (B (y - m) &&& (2 ^ m ^^^ 4294967295)) = (0 : Int32) from lit_ne (b := 0) (Nat.lt_of_le_of_lt (Nat.and_le_left) (by omega)) (by decide) c3)]
          obtain ⟨b', q1, q2, q3⟩ := inner13 hk hy hB j (m + 1) b fu (by omega) (by omega) hb (by omega)
          refine ⟨b', q1, q2, fun v hv => (q3 v hv).trans ?_⟩
          constructor
          · rintro (q | ⟨q, r⟩)
            · exact Or.inl q
            · exact Or.inr ⟨by omega, r⟩
          · rintro (q | ⟨q, r⟩)
            · exact Or.inl q
            · by_cases e : m = v
              · subst e
                exact absurd ((msk _ e2 m (by omega)).mpr r.2.2) c3
              · exact Or.inr ⟨by omega, r⟩
theorem lone_at {B : Nat → Nat} {y x b v : Nat} (h : x ≠ y) : lone (va_up B y b x) v ↔ lone (B x) v := by
  rw [upN_at, if_neg h]
theorem outer2 {n k : Nat} (hk : k ≤ 9) (hn : n ≤ 99) {kx} : ∀ (j y fuel : Nat) (f : Nat → Int32) (B : Nat → Nat), y + j = n + 1 → (∀ x, x < y → f x = nI (B x) ∧ B x < 1024) → OKB k B y → j < fuel → ∃ f' B', f_X4_winningPulls_2 (nI n) (nI k) kx fuel (nI y) f = kx f' ∧ OKB k B' (n + 1) ∧ ∀ x, x < n + 1 → f' x = nI (B' x)
  | 0, y, 0, f, B, h, h1, h2, hf => absurd hf (by omega)
  | 0, y, fu + 1, f, B, h, h1, h2, hf => by
    rw [f_X4_winningPulls_2, if_pos (lit_lt (by omega) (by omega) (by omega))]
    have e : y = n + 1 := by omega
    subst e
    exact ⟨f, B, rfl, h2, fun x hx => (h1 x hx).1⟩
  | j + 1, y, 0, f, B, h, h1, h2, hf => absurd hf (by omega)
  | j + 1, y, fu + 1, f, B, h, h1, h2, hf => by
    rw [f_X4_winningPulls_2, if_neg (lit_nlt (by omega) (by omega) (by omega))]
    obtain ⟨b', q1, q2, q3⟩ := inner13 hk (show y ≤ 99 by omega) h1 (kx := fun u4_6 => if (nI y) < 0 ∨ 100 ≤ (nI y).toNatClampNeg then none else f_X4_winningPulls_2 (nI n) (nI k) kx fu ((nI y) + (1 : Int32)) (upd f (nI y).toNatClampNeg u4_6)) 10 1 0 2000 (by decide) (by decide) (by decide) (by decide)
    rw [show f_X4_winningPulls_13 (nI k) (nI y) f (fun u4_6 => if (nI y) < 0 ∨ 100 ≤ (nI y).toNatClampNeg then none else f_X4_winningPulls_2 (nI n) (nI k) kx fu ((nI y) + (1 : Int32)) (upd f (nI y).toNatClampNeg u4_6)) 2000 (0 : Int32) (1 : Int32) = _ from q1]
    rw [gI (show y < 100 by omega) (by decide), cl (by omega), p1]
    refine outer2 hk hn j (y + 1) fu (upd f y (nI b')) (va_up B y b') (by omega) (fun x hx => ?_) (fun x hx => ?_) (by omega)
    · rw [upd_at, upN_at]
      by_cases e : x = y
      · rw [if_pos e, if_pos e]; exact ⟨rfl, q2⟩
      · rw [if_neg e, if_neg e]; exact h1 x (by omega)
    · by_cases e : x = y
      · subst e
        refine ⟨by rw [upN_at, if_pos rfl]; exact q2, fun v hv => ?_⟩
        rw [upN_at, if_pos rfl]
        refine (q3 v hv).trans ⟨fun q => ?_, fun q => ?_⟩
        · rcases q with q | q
          · simp at q
          · exact ⟨q.1, q.2.1, q.2.2.1, (lone_at (by omega)).mpr q.2.2.2⟩
        · exact Or.inr ⟨q.1, q.2.1, q.2.2.1, (lone_at (by omega)).mp q.2.2.2⟩
      · obtain ⟨a1, a2⟩ := h2 x (by omega)
        refine ⟨by rw [upN_at, if_neg e]; exact a1, fun v hv => ?_⟩
        rw [upN_at, if_neg e]
        refine (a2 v hv).trans ⟨fun q => ⟨q.1, q.2.1, q.2.2.1, (lone_at (by omega)).mpr q.2.2.2⟩, fun q => ⟨q.1, q.2.1, q.2.2.1, (lone_at (by omega)).mp q.2.2.2⟩⟩
theorem pullsI {n k : Nat} (hk : k ≤ 9) (hn : n ≤ 99) (f : Nat → Int32) : ∃ f' B, f_X4_winningPulls f (nI n) (nI k) = some (nI (B n), f') ∧ OKB k B (n + 1) := by
  unfold f_X4_winningPulls
  obtain ⟨f', B, q1, q2, q3⟩ := outer2 hk hn (kx := fun winning_8 => if (nI n) < 0 ∨ 100 ≤ (nI n).toNatClampNeg then none else some ((winning_8 (nI n).toNatClampNeg), winning_8)) (n + 1) 0 2000 f (fun _ => 0) (by omega) (fun x hx => absurd hx (by omega)) (fun x hx => absurd hx (by omega)) (by omega)
  refine ⟨f', B, ?_, q2⟩
  refine Eq.trans q1 ?_
  show (if (nI n) < 0 ∨ 100 ≤ (nI n).toNatClampNeg then none else some ((f' (nI n).toNatClampNeg), f')) = _
  rw [gI (show n < 100 by omega) (by decide), cl (by omega), q3 n (by omega)]
/-- the least of 1 to v that p holds of -/
def lf (p : Nat → Bool) : Nat → Int32 → Int32
  | 0, r => r
  | v + 1, r => lf p v (if p (v + 1) = true then nI (v + 1) else r)
theorem leastI : ∀ z, z < 1024 → z.testBit 0 = false → f_X7_leastBit (nI z) = some (lf z.testBit 9 (-6)) := by decide +kernel
theorem lf_congr {p p' : Nat → Bool} : ∀ (v : Nat) (r : Int32), (∀ u, 1 ≤ u → u ≤ v → p u = p' u) → lf p v r = lf p' v r
  | 0, r, h => rfl
  | v + 1, r, h => by
    unfold lf
    rw [h (v + 1) (by omega) (Nat.le_refl _), lf_congr v _ (fun u h1 h2 => h u h1 (by omega))]
theorem lf_cut {p : Nat → Bool} : ∀ (a v : Nat) (r : Int32), (∀ u, v < u → u ≤ v + a → p u = false) → lf p (v + a) r = lf p v r
  | 0, v, r, h => rfl
  | a + 1, v, r, h => by
    show lf p (v + a) (if p (v + a + 1) = true then nI (v + a + 1) else r) = _
    rw [h (v + a + 1) (by omega) (by omega), if_neg (by decide), lf_cut a v r (fun u h1 h2 => h u h1 (by omega))]
theorem lf_pos {p : Nat → Bool} : ∀ (v : Nat) (r : Int32), v < 2 ^ 31 → ((¬ lf p v r < 0) ↔ (¬ r < 0 ∨ ∃ u, 1 ≤ u ∧ u ≤ v ∧ p u = true))
  | 0, r, hv => ⟨Or.inl, fun h => h.elim id (fun ⟨u, h1, h2, _⟩ => absurd h1 (by omega))⟩
  | v + 1, r, hv => by
    unfold lf
    rw [lf_pos v _ (by omega)]
    by_cases h : p (v + 1) = true
    · rw [if_pos h]
      refine ⟨fun _ => Or.inr ⟨v + 1, by omega, Nat.le_refl _, h⟩, fun _ => Or.inl (nI_pos (by omega))⟩
    · rw [if_neg h]
      refine ⟨fun q => q.elim Or.inl (fun ⟨u, h1, h2, h3⟩ => Or.inr ⟨u, h1, by omega, h3⟩), fun q => q.elim Or.inl (fun ⟨u, h1, h2, h3⟩ => ?_)⟩
      by_cases e : u = v + 1
      · subst e; exact absurd h3 h
      · exact Or.inr ⟨u, h1, by omega, h3⟩
theorem least11 {y j : Nat} {f : Nat → Int32} (hy : y ≤ 99) (hj : j ≤ 9) : ∀ (v fuel : Nat) (r : Int32), v ≤ 9 → v ≤ y → v < fuel → f_X8_leastPull_11 (nI y) (nI j) f fuel r (nI v) = some (lf (fun u => decide (u ≠ j) && decide (f (10 * (y - u) + u) = 0)) v r)
  | 0, 0, r, h1, h2, hf => absurd hf (by omega)
  | 0, fu + 1, r, h1, h2, hf => by
    rw [f_X8_leastPull_11, if_pos (show nI 0 ≤ (0 : Int32) by decide)]
    rfl
  | v + 1, 0, r, h1, h2, hf => absurd hf (by omega)
  | v + 1, fu + 1, r, h1, h2, hf => by
    have em : nI (v + 1) + (-1 : Int32) = nI v := pk_m1 v
    rw [f_X8_leastPull_11, if_neg (show ¬ nI (v + 1) ≤ (0 : Int32) from lit_nle (b := 0) (by omega) (by decide) (by omega))]
    unfold lf
    by_cases e : v + 1 = j
    · rw [if_pos (by rw [e]), em, least11 hy hj v fu r (by omega) (by omega) (by omega)]
      simp [e]
    · rw [if_neg (lit_ne (by omega) (by omega) e), subI (by omega), show (10 : Int32) = nI 10 from rfl, mulI, nI_add, gI (show 10 * (y - (v + 1)) + (v + 1) < 1000 by omega) (by decide), cl (by omega), em]
      by_cases e2 : f (10 * (y - (v + 1)) + (v + 1)) = 0
      · rw [if_pos e2, least11 hy hj v fu _ (by omega) (by omega) (by omega)]
        simp [e, e2]
      · rw [if_neg e2, least11 hy hj v fu _ (by omega) (by omega) (by omega)]
        simp [e, e2]
theorem leastPullI {y k j : Nat} {f : Nat → Int32} (hy : y ≤ 99) (hk : k ≤ 9) (hj : j ≤ 9) : f_X8_leastPull f (nI y) (nI k) (nI j) = some (lf (fun u => decide (u ≠ j) && decide (f (10 * (y - u) + u) = 0)) (if k ≤ y then k else y) (-6)) := by
  unfold f_X8_leastPull
  rw [lessI (by omega) (by omega)]
  simp only [Option.bind_some]
  by_cases h : k ≤ y
  · rw [if_pos h, least11 hy hj k 2000 _ hk h (by omega)]
  · rw [if_neg h, least11 hy hj y 2000 _ (by omega) (Nat.le_refl y) (by omega)]
/-- the model's table of wins, against the class's sets -/
def WOK (B : Nat → Nat) (f : Nat → Int32) (e : Nat) : Prop := ∀ x, x < e → (f x = 0 ↔ lone (B (x / 10)) (x % 10))
theorem lpB {B : Nat → Nat} {k y j N : Nat} {f : Nat → Int32} (hk : k ≤ 9) (hB : OKB k B N) (hyN : y < N) (hW : WOK B f (10 * y)) : lf (fun u => decide (u ≠ j) && decide (f (10 * (y - u) + u) = 0)) (if k ≤ y then k else y) (-6) = lf (fun u => (B y).testBit u && decide (u ≠ j)) 9 (-6) := by
  have hb := hB y hyN
  have key : ∀ u, 1 ≤ u → u ≤ (if k ≤ y then k else y) → (decide (u ≠ j) && decide (f (10 * (y - u) + u) = 0)) = ((B y).testBit u && decide (u ≠ j)) := by
    intro u h1 h2
    have hu : u ≤ k ∧ u ≤ y := by
      by_cases h : k ≤ y
      · rw [if_pos h] at h2; omega
      · rw [if_neg h] at h2; omega
    have e1 : (10 * (y - u) + u) / 10 = y - u := by omega
    have e2 : (10 * (y - u) + u) % 10 = u := by omega
    have w := hW (10 * (y - u) + u) (by omega)
    rw [e1, e2] at w
    have t := hb.2 u (by omega)
    rw [Bool.and_comm]
    congr 1
    by_cases z : f (10 * (y - u) + u) = 0
    · rw [decide_eq_true z, t.mpr ⟨h1, hu.1, hu.2, w.mp z⟩]
    · rw [decide_eq_false z]
      cases q : (B y).testBit u with
      | false => rfl
      | true => exact absurd (w.mpr (t.mp q).2.2.2) z
  rw [lf_congr _ _ key]
  have hm : (if k ≤ y then k else y) ≤ 9 := by
    by_cases h : k ≤ y
    · rw [if_pos h]; exact hk
    · rw [if_neg h]; omega
  obtain ⟨a, ha⟩ : ∃ a, 9 = (if k ≤ y then k else y) + a := ⟨9 - (if k ≤ y then k else y), by omega⟩
  rw [ha, lf_cut a _ _ (fun u h1 h2 => ?_)]
  have t := hb.2 u (by omega)
  cases q : (B y).testBit u with
  | false => rfl
  | true =>
    have := t.mp q
    exfalso
    by_cases h : k ≤ y
    · rw [if_pos h] at h1; omega
    · rw [if_neg h] at h1; omega
theorem pull53 {n k : Nat} {B : Nat → Nat} (hk : k ≤ 9) (hn : n ≤ 99) (hB : OKB k B (n + 1)) {kx} : ∀ (j e fuel : Nat) (f : Nat → Int32), e + j = 10 * n → WOK B f e → j < fuel → ∃ f', f_X8_pull_53 (nI n) (nI k) kx fuel (nI e) f = kx f' ∧ WOK B f' (10 * n)
  | 0, e, 0, f, h, hW, hf => absurd hf (by omega)
  | 0, e, fu + 1, f, h, hW, hf => by
    rw [f_X8_pull_53, show (10 : Int32) = nI 10 from rfl, mulI, if_pos (lit_le (by omega) (by omega) (by omega))]
    have e1 : e = 10 * n := by omega
    subst e1
    exact ⟨f, rfl, hW⟩
  | j + 1, e, 0, f, h, hW, hf => absurd hf (by omega)
  | j + 1, e, fu + 1, f, h, hW, hf => by
    have hB0 := hB (e / 10) (by omega)
    rw [f_X8_pull_53, show (10 : Int32) = nI 10 from rfl, mulI, if_neg (lit_nle (by omega) (by omega) (by omega)), remI (by omega) (by decide) (by decide), divI (by omega) (by decide) (by decide), leastPullI (by omega) hk (by omega), lpB hk hB (y := e / 10) (by omega) (fun x hx => hW x (by omega))]
    simp only [Option.bind_some]
    have hp := lf_pos (p := fun u => (B (e / 10)).testBit u && decide (u ≠ e % 10)) 9 (-6) (by decide)
    have hz : ¬ ¬ (-6 : Int32) < 0 := by decide
    have hl : lone (B (e / 10)) (e % 10) ↔ lf (fun u => (B (e / 10)).testBit u && decide (u ≠ e % 10)) 9 (-6) < 0 := by
      constructor
      · intro hl
        refine Decidable.byContradiction fun q => ?_
        rcases hp.mp q with q | ⟨u, h1, h2, h3⟩
        · exact hz q
        · rw [Bool.and_eq_true] at h3
          have := hl u (by omega) (of_decide_eq_true h3.2)
          rw [this] at h3
          exact absurd h3.1 (by decide)
      · intro q u hu hne
        cases t : (B (e / 10)).testBit u with
        | false => rfl
        | true =>
          have := (hB0.2 u hu).mp t
          exact absurd q (hp.mpr (Or.inr ⟨u, this.1, by omega, by rw [t, decide_eq_true hne]; rfl⟩))
    have nx : ∀ x : Int32, (x = 0 ↔ lone (B (e / 10)) (e % 10)) → ∃ f', f_X8_pull_53 (nI n) (nI k) kx fu (nI (e + 1)) (upd f e x) = kx f' ∧ WOK B f' (10 * n) := fun x hx => by
      refine pull53 hk hn hB j (e + 1) fu _ (by omega) (fun z hz => ?_) (by omega)
      rw [upd_at]
      by_cases q : z = e
      · rw [if_pos q, q]; exact hx
      · rw [if_neg q]; exact hW z (by omega)
    rw [gI (show e < 1000 by omega) (by decide), gI (show e < 1000 by omega) (by decide), cl (by omega), p1]
    by_cases c : lf (fun u => (B (e / 10)).testBit u && decide (u ≠ e % 10)) 9 (-6) < 0
    · rw [if_pos c]
      exact nx _ ⟨fun _ => hl.mpr c, fun _ => rfl⟩
    · rw [if_neg c]
      exact nx _ ⟨fun q => absurd q (by decide), fun q => absurd (hl.mp q) c⟩
set_option maxRecDepth 1000000 in
theorem sim_pull {Y F L P W M tY tF tL iY0 iF0 iL0 iW0 iM0 iY1 iF1 iL1 iW1 iM1 kept isKept : Nat → Int32} {hd wl dy pn sn ih0 iw0 id0 in0 ik0 ih1 iw1 id1 in1 ik1 : Int32} (hI : Inv Y F L P W M tY tF tL iY0 iF0 iL0 iW0 iM0 iY1 iF1 iL1 iW1 iM1 kept isKept hd wl dy pn sn ih0 iw0 id0 in0 ik0 ih1 iw1 id1 in1 ik1) (a_puzzles_winning : Nat → Int32) (b_wins : Nat → Int32) (u1 : Int32) (u2 : Int32) (u3 : Int32) (u4 : Int32) : ∃ (res : Int32) (a_puzzles_winning' : Nat → Int32) (b_wins' : Nat → Int32), f_X7_pull a_puzzles_winning u1 u2 u3 u4 = some (res, a_puzzles_winning') ∧ f_X8_pull b_wins u1 u2 u3 u4 = some (res, b_wins') ∧ Inv Y F L P W M tY tF tL iY0 iF0 iL0 iW0 iM0 iY1 iF1 iL1 iW1 iM1 kept isKept hd wl dy pn sn ih0 iw0 id0 in0 ik0 ih1 iw1 id1 in1 ik1 := by
  unfold f_X7_pull f_X8_pull
  simp only [isW, in_0_99, in_1_9, in_0_9, in_0_1, Option.bind_some]
  by_cases c1 : (0 : Int32) ≤ u1 ∧ u1 ≤ 99
  · simp only [w1 c1]
    by_cases c2 : (1 : Int32) ≤ u2 ∧ u2 ≤ 9
    · simp only [w1 c2]
      by_cases c3 : (0 : Int32) ≤ u3 ∧ u3 ≤ 9
      · simp only [w1 c3]
        by_cases c4 : (0 : Int32) ≤ u4 ∧ u4 ≤ 1
        · simp only [w1 c4]
          obtain ⟨n, -, hn, rfl⟩ := rg (a := 0) (b := 99) (by decide) (by decide) c1
          obtain ⟨k, hk1, hk, rfl⟩ := rg (a := 1) (b := 9) (by decide) (by decide) c2
          obtain ⟨j, -, hj, rfl⟩ := rg (a := 0) (b := 9) (by decide) (by decide) c3
          obtain ⟨t, -, ht, rfl⟩ := rg (a := 0) (b := 1) (by decide) (by decide) c4
          obtain ⟨f', B, q1, q2⟩ := pullsI hk hn a_puzzles_winning
          obtain ⟨g', r1, r2⟩ := pull53 hk hn q2 (kx := fun wins_14 => (f_X8_leastPull wins_14 (nI n) (nI k) (nI j)).bind (fun r15 => if (nI t) = (1 : Int32) then some (r15, wins_14) else if 0 ≤ r15 then some ((1 : Int32), wins_14) else some ((0 : Int32), wins_14))) (10 * n) 0 2000 b_wins (by omega) (fun x hx => absurd hx (by omega)) (by omega)
          rw [show (0 : Int32) = nI 0 from rfl] at *
          rw [r1, q1, leastPullI hn hk hj, lpB hk q2 (by omega) r2]
          obtain ⟨hb1, hb2⟩ := q2 n (by omega)
          obtain ⟨m1, m2⟩ := mskT (B n) hb1 j (by omega)
          simp only [Option.bind_some]
          rw [mskI (by omega)]
          have m0 : (B n &&& (2 ^ j ^^^ 4294967295)).testBit 0 = false := by
            rw [m2 0 (by decide)]
            cases z : (B n).testBit 0 with
            | false => rfl
            | true => exact absurd ((hb2 0 (by decide)).mp z).1 (by decide)
          rw [leastI _ m1 m0, lf_congr (p := (B n &&& (2 ^ j ^^^ 4294967295)).testBit) (p' := fun u => (B n).testBit u && decide (u ≠ j)) 9 (-6) (fun u h1 h2 => m2 u (by omega))]
          have hp := lf_pos (p := fun u => (B n).testBit u && decide (u ≠ j)) 9 (-6) (by decide)
          have hs : B n &&& (2 ^ j ^^^ 4294967295) = 0 ↔ lf (fun u => (B n).testBit u && decide (u ≠ j)) 9 (-6) < 0 := by
            rw [msk _ hb1 j (by omega)]
            constructor
            · intro hl
              refine Decidable.byContradiction fun q => ?_
              rcases hp.mp q with q | ⟨u, h1, h2, h3⟩
              · exact absurd q (by decide)
              · rw [Bool.and_eq_true] at h3
                have := hl u (by omega) (of_decide_eq_true h3.2)
                rw [this] at h3
                exact absurd h3.1 (by decide)
            · intro q u hu hne
              cases z : (B n).testBit u with
              | false => rfl
              | true =>
                have := (hb2 u hu).mp z
                exact absurd q (hp.mpr (Or.inr ⟨u, this.1, by omega, by rw [z, decide_eq_true hne]; rfl⟩))
          generalize lf (fun u => (B n).testBit u && decide (u ≠ j)) 9 (-6) = r at hs
          by_cases e : t = 0
          · subst e
            rw [if_pos rfl]
            by_cases z : B n &&& (2 ^ j ^^^ 4294967295) = 0
            · rw [if_pos (by rw [z]), if_neg (by decide), if_neg (by rw [show nI 0 = (0 : Int32) from rfl, not_le']; exact hs.mp z)]
              exact ⟨0, f', g', rfl, rfl, hI⟩
            · rw [if_neg (lit_ne (by omega) (by decide) z), if_neg (by decide), if_pos (by rw [show nI 0 = (0 : Int32) from rfl, ← not_lt']; exact fun q => z (hs.mpr q))]
              exact ⟨1, f', g', rfl, rfl, hI⟩
          · have e1 : t = 1 := by omega
            subst e1
            rw [if_neg (by decide), if_pos (show nI 1 = (1 : Int32) from rfl)]
            exact ⟨r, f', g', rfl, rfl, hI⟩
        · simp only [w0 c4]
          exact ⟨-2, _, _, rfl, rfl, hI⟩
      · simp only [w0 c3]
        exact ⟨-2, _, _, rfl, rfl, hI⟩
    · simp only [w0 c2]
      exact ⟨-2, _, _, rfl, rfl, hI⟩
  · simp only [w0 c1]
    exact ⟨-2, _, _, rfl, rfl, hI⟩
