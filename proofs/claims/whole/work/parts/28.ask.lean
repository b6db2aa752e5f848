/-! whom to ask -/
def rn (g : Nat → Bool) (c : Nat) : Nat → Nat → (Nat → Nat) → Nat → Nat
  | 0, _, _, b => b
  | k + 1, x, t, b => if g x = true then rn g c k (x + 1) (va_up t (fb x c) (t (fb x c) + 1)) (max b (t (fb x c) + 1)) else rn g c k (x + 1) t b
theorem rn_skip {g : Nat → Bool} {c : Nat} (k : Nat) : ∀ (a x : Nat) (t : Nat → Nat) (b : Nat), (∀ y, x ≤ y → y < x + a → g y = false) → rn g c (k + a) x t b = rn g c k (x + a) t b
  | 0, x, t, b, h => rfl
  | a + 1, x, t, b, h => by
    show (if g x = true then rn g c (k + a) (x + 1) (va_up t (fb x c) (t (fb x c) + 1)) (max b (t (fb x c) + 1)) else rn g c (k + a) (x + 1) t b) = _
    rw [h x (Nat.le_refl x) (by omega), if_neg (by decide), rn_skip k a (x + 1) t b (fun y h1 h2 => h y (by omega) (by omega)), show x + 1 + a = x + (a + 1) by omega]
theorem rn_none {g : Nat → Bool} {c : Nat} : ∀ (a x : Nat) (t : Nat → Nat) (b : Nat), (∀ y, x ≤ y → y < x + a → g y = false) → rn g c a x t b = b
  | 0, x, t, b, h => rfl
  | a + 1, x, t, b, h => by
    show (if g x = true then rn g c a (x + 1) (va_up t (fb x c) (t (fb x c) + 1)) (max b (t (fb x c) + 1)) else rn g c a (x + 1) t b) = _
    rw [h x (Nat.le_refl x) (by omega), if_neg (by decide), rn_none a (x + 1) t b (fun y h1 h2 => h y (by omega) (by omega))]
theorem rn_tail {g : Nat → Bool} {c : Nat} (a : Nat) : ∀ (k x : Nat) (t : Nat → Nat) (b : Nat), (∀ y, x + k ≤ y → y < x + k + a → g y = false) → rn g c (k + a) x t b = rn g c k x t b
  | 0, x, t, b, h => by
    rw [Nat.zero_add, rn_none a x t b (fun y h1 h2 => h y (by omega) (by omega))]
    rfl
  | k + 1, x, t, b, h => by
    rw [show k + 1 + a = (k + a) + 1 by omega]
    show (if g x = true then rn g c (k + a) (x + 1) (va_up t (fb x c) (t (fb x c) + 1)) (max b (t (fb x c) + 1)) else rn g c (k + a) (x + 1) t b) = (if g x = true then rn g c k (x + 1) (va_up t (fb x c) (t (fb x c) + 1)) (max b (t (fb x c) + 1)) else rn g c k (x + 1) t b)
    rw [rn_tail a k (x + 1) _ _ (fun y h1 h2 => h y (by omega) (by omega)), rn_tail a k (x + 1) t b (fun y h1 h2 => h y (by omega) (by omega))]
theorem rn_ge {g : Nat → Bool} {c : Nat} : ∀ (k x : Nat) (t : Nat → Nat) (b : Nat), b ≤ rn g c k x t b
  | 0, x, t, b => Nat.le_refl b
  | k + 1, x, t, b => by
    show b ≤ (if g x = true then rn g c k (x + 1) (va_up t (fb x c) (t (fb x c) + 1)) (max b (t (fb x c) + 1)) else rn g c k (x + 1) t b)
    by_cases h : g x = true
    · rw [if_pos h]
      exact Nat.le_trans (Nat.le_max_left _ _) (rn_ge k (x + 1) _ _)
    · rw [if_neg h]
      exact rn_ge k (x + 1) t b
theorem rn_cf {g : Nat → Bool} {c : Nat} : ∀ (k x : Nat) (t : Nat → Nat) (b : Nat), (cf g k x = 0 → rn g c k x t b = b) ∧ (0 < cf g k x → 1 ≤ rn g c k x t b)
  | 0, x, t, b => ⟨fun _ => rfl, fun h => absurd h (by show ¬ 0 < 0; omega)⟩
  | k + 1, x, t, b => by
    unfold cf rn
    by_cases h : g x = true
    · rw [if_pos h, if_pos h]
      refine ⟨fun q => absurd q (by omega), fun _ => ?_⟩
      have := rn_ge (g := g) (c := c) k (x + 1) (va_up t (fb x c) (t (fb x c) + 1)) (max b (t (fb x c) + 1))
      omega
    · rw [if_neg h, if_neg h, Nat.zero_add]
      exact rn_cf k (x + 1) t b
/-- how many are left at the most, if child c is asked -/
def ml (g : Nat → Bool) (c : Nat) : Nat := rn g c 983 11 (fun _ => 0) 0
def Tl (f : Nat → Int32) (t : Nat → Nat) : Prop := ∀ v, v < 10 → f v = nI (t v)
theorem Tl.upd {f : Nat → Int32} {t : Nat → Nat} (h : Tl f t) (v k : Nat) : Tl (upd f v (nI k)) (va_up t v k) := by
  intro u hu
  rw [upd_at, upN_at]
  by_cases e : u = v
  · rw [if_pos e, if_pos e]
  · rw [if_neg e, if_neg e]; exact h u hu
theorem imax_n {a b : Nat} (ha : a < 2 ^ 31) (hb : b < 2 ^ 31) : imax (nI a) (nI b) = nI (max a b) := by
  unfold imax
  by_cases h : a < b
  · rw [if_pos (lit_lt ha hb h), Nat.max_eq_right (by omega)]
  · rw [if_neg (lit_nlt ha hb h), Nat.max_eq_left (by omega)]
section GA
variable {w m : Nat → Nat} {n : Nat}
theorem alike7 (hw : ∀ i, w i ≤ 9) (hm : ∀ i, m i ≤ 9) (hn : n ≤ 8) {c : Nat} (hc : c ≤ 9) : ∀ (k x b fuel : Nat) (f : Nat → Int32) (t : Nat → Nat), x + k = 994 → Tl f t → (∀ v, t v + k ≤ 2000) → b ≤ 2000 → k < fuel → ∃ f', f_X1_mostAlike_27 (nI c) (fun i => nI (w i)) (fun i => nI (m i)) (nI n) fuel (nI b) (nI x) f = some (nI (rn (fitB w m n) c k x t b), f')
  | 0, x, b, 0, f, t, h, hT, ht, hb, hf => absurd hf (by omega)
  | 0, x, b, fu + 1, f, t, h, hT, ht, hb, hf => by
    have q : (993 : Int32) < nI x := lit_lt (a := 993) (by decide) (by omega) (by omega)
    rw [f_X1_mostAlike_27, if_pos q]
    exact ⟨f, rfl⟩
  | k + 1, x, b, 0, f, t, h, hT, ht, hb, hf => absurd hf (by omega)
  | k + 1, x, b, fu + 1, f, t, h, hT, ht, hb, hf => by
    have q : ¬ (993 : Int32) < nI x := lit_nlt (a := 993) (by decide) (by omega) (by omega)
    rw [f_X1_mostAlike_27, if_neg q, fitI7 hw hm hn (by omega)]
    simp only [Option.bind_some]
    unfold rn
    cases e : fitB w m n x with
    | true =>
      have h9 := fb_le x c
      have ht0 := ht (fb x c)
      have q2 : (0 : Int32) ≤ nI (fb x c) ∧ nI (fb x c) ≤ 9 := ⟨lit_le (a := 0) (by decide) (by omega) (by omega), lit_le (b := 9) (by omega) (by decide) h9⟩
      rw [if_neg (b2i_1 rfl), if_pos rfl, fbI7 (by omega) hc]
      simp only [Option.bind_some, isW, w1 q2]
      rw [gI (show fb x c < 10 by omega) (by decide), cl (by omega), p1, hT (fb x c) (by omega), p1, show upd f (fb x c) (nI (t (fb x c) + 1)) (fb x c) = nI (t (fb x c) + 1) from if_pos rfl, imax_n (by omega) (by omega)]
      refine alike7 hw hm hn hc k (x + 1) (max b (t (fb x c) + 1)) fu _ _ (by omega) (hT.upd _ _) (fun v => ?_) (by omega) (by omega)
      rw [upN_at]
      have := ht v
      by_cases e2 : v = fb x c
      · rw [if_pos e2]; omega
      · rw [if_neg e2]; omega
    | false =>
      rw [if_pos (b2i_0 rfl), if_neg (by decide), p1]
      exact alike7 hw hm hn hc k (x + 1) b fu f t (by omega) hT (fun v => by have := ht v; omega) hb (by omega)
theorem left8 (hw : ∀ i, w i ≤ 9) (hm : ∀ i, m i ≤ 9) (hn : n ≤ 8) {c : Nat} (hc : c ≤ 9) : ∀ (k x b fuel : Nat) (f : Nat → Int32) (t : Nat → Nat), x + k = 1000 → Tl f t → (∀ v, t v + k ≤ 2000) → b ≤ 2000 → k < fuel → ∃ f', f_X8_mostLeft_25 (nI c) (fun i => nI (w i)) (fun i => nI (m i)) (nI n) fuel (nI b) (nI x) f = some (nI (rn (fitB w m n) c k x t b), f')
  | 0, x, b, 0, f, t, h, hT, ht, hb, hf => absurd hf (by omega)
  | 0, x, b, fu + 1, f, t, h, hT, ht, hb, hf => by
    have q : (1000 : Int32) ≤ nI x := lit_le (a := 1000) (by decide) (by omega) (by omega)
    rw [f_X8_mostLeft_25, if_pos q]
    exact ⟨f, rfl⟩
  | k + 1, x, b, 0, f, t, h, hT, ht, hb, hf => absurd hf (by omega)
  | k + 1, x, b, fu + 1, f, t, h, hT, ht, hb, hf => by
    have q : ¬ (1000 : Int32) ≤ nI x := lit_nle (a := 1000) (by decide) (by omega) (by omega)
    rw [f_X8_mostLeft_25, if_neg q, fitI8 hw hm hn (by omega)]
    simp only [Option.bind_some]
    unfold rn
    cases e : fitB w m n x with
    | true =>
      have h9 := fb_le x c
      have ht0 := ht (fb x c)
      rw [if_neg (b2i_1 rfl), if_pos rfl, fbI8 (by omega) hc]
      simp only [Option.bind_some]
      rw [gI (show fb x c < 10 by omega) (by decide), cl (by omega), p1, hT (fb x c) (by omega), p1, show upd f (fb x c) (nI (t (fb x c) + 1)) (fb x c) = nI (t (fb x c) + 1) from if_pos rfl]
      have st := fun b' (hb' : b' ≤ 2000) => left8 hw hm hn hc k (x + 1) b' fu _ _ (by omega) (hT.upd (fb x c) (t (fb x c) + 1)) (fun v => by
        rw [upN_at]
        have := ht v
        by_cases e2 : v = fb x c
        · rw [if_pos e2]; omega
        · rw [if_neg e2]; omega) hb' (by omega)
      by_cases e3 : t (fb x c) + 1 ≤ b
      · rw [if_pos (lit_le (by omega) (by omega) e3), Nat.max_eq_left (by omega)]
        exact st b hb
      · rw [if_neg (lit_nle (by omega) (by omega) e3), Nat.max_eq_right (by omega)]
        exact st _ (by omega)
    | false =>
      rw [if_pos (b2i_0 rfl), if_neg (by decide), p1]
      exact left8 hw hm hn hc k (x + 1) b fu f t (by omega) hT (fun v => by have := ht v; omega) hb (by omega)
theorem zero7 {kx} : ∀ (k j fuel : Nat) (f : Nat → Int32), j + k = 10 → (∀ v, v < j → f v = 0) → k < fuel → ∃ f', Tl f' (fun _ => 0) ∧ f_X1_mostAlike_2 kx fuel (nI j) f = kx f'
  | 0, j, 0, f, h, hz, hf => absurd hf (by omega)
  | 0, j, fu + 1, f, h, hz, hf => by
    have q : (9 : Int32) < nI j := lit_lt (a := 9) (by decide) (by omega) (by omega)
    rw [f_X1_mostAlike_2, if_pos q]
    exact ⟨f, fun v hv => hz v (by omega), rfl⟩
  | k + 1, j, 0, f, h, hz, hf => absurd hf (by omega)
  | k + 1, j, fu + 1, f, h, hz, hf => by
    have q : ¬ (9 : Int32) < nI j := lit_nlt (a := 9) (by decide) (by omega) (by omega)
    rw [f_X1_mostAlike_2, if_neg q, gI (show j < 10 by omega) (by decide), cl (by omega), p1]
    refine zero7 k (j + 1) fu _ (by omega) (fun v hv => ?_) (by omega)
    rw [upd_at]
    by_cases e : v = j
    · rw [if_pos e]
    · rw [if_neg e]; exact hz v (by omega)
theorem zero8 {kx} : ∀ (k j fuel : Nat) (f : Nat → Int32), j + k = 10 → (∀ v, v < j → f v = 0) → k < fuel → ∃ f', Tl f' (fun _ => 0) ∧ f_X8_mostLeft_4 kx fuel (nI j) f = kx f'
  | 0, j, 0, f, h, hz, hf => absurd hf (by omega)
  | 0, j, fu + 1, f, h, hz, hf => by
    have q : (10 : Int32) ≤ nI j := lit_le (a := 10) (by decide) (by omega) (by omega)
    rw [f_X8_mostLeft_4, if_pos q]
    exact ⟨f, fun v hv => hz v (by omega), rfl⟩
  | k + 1, j, 0, f, h, hz, hf => absurd hf (by omega)
  | k + 1, j, fu + 1, f, h, hz, hf => by
    have q : ¬ (10 : Int32) ≤ nI j := lit_nle (a := 10) (by decide) (by omega) (by omega)
    rw [f_X8_mostLeft_4, if_neg q, gI (show j < 10 by omega) (by decide), cl (by omega), p1]
    refine zero8 k (j + 1) fu _ (by omega) (fun v hv => ?_) (by omega)
    rw [upd_at]
    by_cases e : v = j
    · rw [if_pos e]
    · rw [if_neg e]; exact hz v (by omega)
theorem mlI7 (hw : ∀ i, w i ≤ 9) (hm : ∀ i, m i ≤ 9) (hn : n ≤ 8) {c : Nat} (hc : c ≤ 9) (f : Nat → Int32) : ∃ f', f_X1_mostAlike f (fun i => nI (w i)) (fun i => nI (m i)) (nI n) (nI c) = some (nI (ml (fitB w m n) c), f') := by
  unfold f_X1_mostAlike
  obtain ⟨f1, h1, h2⟩ := zero7 (kx := fun tally_3 => f_X1_mostAlike_27 (nI c) (fun i => nI (w i)) (fun i => nI (m i)) (nI n) 2000 (0 : Int32) (11 : Int32) tally_3) 10 0 2000 f (by decide) (fun v hv => absurd hv (by omega)) (by decide)
  obtain ⟨f2, h3⟩ := alike7 hw hm hn hc 983 11 0 2000 f1 (fun _ => 0) (by decide) h1 (fun v => by show 0 + 983 ≤ 2000; omega) (by decide) (by decide)
  exact ⟨f2, h2.trans h3⟩
theorem mlI8 (hw : ∀ i, w i ≤ 9) (hm : ∀ i, m i ≤ 9) (hn : n ≤ 8) {c : Nat} (hc : c ≤ 9) (f : Nat → Int32) : ∃ f', f_X8_mostLeft (fun i => nI (w i)) (fun i => nI (m i)) (nI n) f (nI c) = some (nI (ml (fitB w m n) c), f') := by
  unfold f_X8_mostLeft
  obtain ⟨f1, h1, h2⟩ := zero8 (kx := fun tally_3 => f_X8_mostLeft_25 (nI c) (fun i => nI (w i)) (fun i => nI (m i)) (nI n) 2000 (0 : Int32) (0 : Int32) tally_3) 10 0 2000 f (by decide) (fun v hv => absurd hv (by omega)) (by decide)
  obtain ⟨f2, h3⟩ := left8 hw hm hn hc 1000 0 0 2000 f1 (fun _ => 0) (by decide) h1 (fun v => by show 0 + 1000 ≤ 2000; omega) (by decide) (by decide)
  refine ⟨f2, h2.trans (h3.trans ?_)⟩
  rw [show rn (fitB w m n) c 1000 0 (fun _ => 0) 0 = ml (fitB w m n) c from by
    unfold ml
    rw [show 1000 = (983 + 6) + 11 from rfl, rn_skip (983 + 6) 11 0 _ _ (fun y _ h => lowF y (by omega)), rn_tail 6 983 (0 + 11) _ _ (fun y h1 h2 => highF y (by omega) (by omega))]]
end GA
theorem rn_le {g : Nat → Bool} {c : Nat} : ∀ (k x : Nat) (t : Nat → Nat) (b M : Nat), (∀ v, t v + k ≤ M) → b ≤ M → rn g c k x t b ≤ M
  | 0, x, t, b, M, ht, hb => hb
  | k + 1, x, t, b, M, ht, hb => by
    unfold rn
    by_cases h : g x = true
    · rw [if_pos h]
      have := ht (fb x c)
      refine rn_le k (x + 1) _ _ M (fun v => ?_) (by omega)
      rw [upN_at]
      have := ht v
      by_cases e2 : v = fb x c
      · rw [if_pos e2]; omega
      · rw [if_neg e2]; omega
    · rw [if_neg h]
      exact rn_le k (x + 1) t b M (fun v => by have := ht v; omega) hb
theorem ml_le (g : Nat → Bool) (c : Nat) : ml g c ≤ 983 := rn_le 983 11 _ 0 983 (fun v => by show 0 + 983 ≤ 983; omega) (by decide)
/-- the choice, from child c on -/
def pk (g : Nat → Bool) : Nat → Nat → Nat → Nat → Nat × Nat
  | 0, _, best, few => (best, few)
  | k + 1, c, best, few => if ml g c < few then pk g k (c + 1) c (ml g c) else pk g k (c + 1) best few
theorem pk_ok {g : Nat → Bool} : ∀ (k c best few : Nat), (pk g k c best few).2 ≤ few ∧ ((∀ z, 1 ≤ ml g z) → 1 ≤ few → 1 ≤ (pk g k c best few).2)
  | 0, c, best, few => ⟨Nat.le_refl _, fun _ h => h⟩
  | k + 1, c, best, few => by
    unfold pk
    by_cases h : ml g c < few
    · rw [if_pos h]
      have := pk_ok (g := g) k (c + 1) c (ml g c)
      exact ⟨by omega, fun q _ => this.2 q (q c)⟩
    · rw [if_neg h]
      exact pk_ok k (c + 1) best few
section GB
variable {w m : Nat → Nat} {n : Nat}
theorem choose7 (hw : ∀ i, w i ≤ 9) (hm : ∀ i, m i ≤ 9) (hn : n ≤ 8) : ∀ (k c best few fuel : Nat) (f : Nat → Int32), c + k = 10 → best ≤ 9 → few ≤ 983 → k < fuel → ∃ f', f_X1_chooseChild_14 (fun i => nI (w i)) (fun i => nI (m i)) (nI n) fuel (nI c) f (nI best) (nI few) = some (f', nI (pk (fitB w m n) k c best few).1, nI (pk (fitB w m n) k c best few).2)
  | 0, c, best, few, 0, f, h, h1, h2, hf => absurd hf (by omega)
  | 0, c, best, few, fu + 1, f, h, h1, h2, hf => by
    have q : (10 : Int32) ≤ nI c := lit_le (a := 10) (by decide) (by omega) (by omega)
    rw [f_X1_chooseChild_14, if_pos q]
    exact ⟨f, rfl⟩
  | k + 1, c, best, few, 0, f, h, h1, h2, hf => absurd hf (by omega)
  | k + 1, c, best, few, fu + 1, f, h, h1, h2, hf => by
    have q : ¬ (10 : Int32) ≤ nI c := lit_nle (a := 10) (by decide) (by omega) (by omega)
    obtain ⟨f1, e1⟩ := mlI7 hw hm hn (c := c) (by omega) f
    have hm9 := ml_le (fitB w m n) c
    have q2 : ¬ nI best = (-6 : Int32) := fun q => by
      have := congrArg Int32.toInt q
      rw [nI_toInt (by omega)] at this
      exact absurd (this.trans (show (-6 : Int32).toInt = -6 from rfl)) (by omega)
    rw [f_X1_chooseChild_14, if_neg q, e1]
    simp only [Option.bind_some]
    rw [if_neg q2]
    unfold pk
    by_cases e : ml (fitB w m n) c < few
    · rw [if_neg (lit_nle (by omega) (by omega) (by omega)), if_pos e, p1]
      exact choose7 hw hm hn k (c + 1) c (ml (fitB w m n) c) fu f1 (by omega) (by omega) hm9 (by omega)
    · rw [if_pos (lit_le (by omega) (by omega) (by omega)), if_neg e, p1]
      exact choose7 hw hm hn k (c + 1) best few fu f1 (by omega) h1 h2 (by omega)
theorem lessI {a b : Nat} (ha : a < 2 ^ 31) (hb : b < 2 ^ 31) : f_X8_less (nI a) (nI b) = some (nI (if b ≤ a then b else a)) := by
  unfold f_X8_less
  by_cases h : b ≤ a
  · rw [if_pos (lit_le hb ha h), if_pos h]
  · rw [if_neg (lit_nle hb ha h), if_neg h]
theorem ask8 (hw : ∀ i, w i ≤ 9) (hm : ∀ i, m i ≤ 9) (hn : n ≤ 8) {kx} : ∀ (k c best few fuel : Nat) (f : Nat → Int32), c + k = 10 → best ≤ 9 → few ≤ 983 → k < fuel → ∃ f', f_X8_ask_24 (fun i => nI (w i)) (fun i => nI (m i)) (nI n) kx fuel (nI best) (nI few) (nI c) f = kx (nI (pk (fitB w m n) k c best few).1) (nI (pk (fitB w m n) k c best few).2) f'
  | 0, c, best, few, 0, f, h, h1, h2, hf => absurd hf (by omega)
  | 0, c, best, few, fu + 1, f, h, h1, h2, hf => by
    have q : (10 : Int32) ≤ nI c := lit_le (a := 10) (by decide) (by omega) (by omega)
    rw [f_X8_ask_24, if_pos q]
    exact ⟨f, rfl⟩
  | k + 1, c, best, few, 0, f, h, h1, h2, hf => absurd hf (by omega)
  | k + 1, c, best, few, fu + 1, f, h, h1, h2, hf => by
    have q : ¬ (10 : Int32) ≤ nI c := lit_nle (a := 10) (by decide) (by omega) (by omega)
    obtain ⟨f1, e1⟩ := mlI8 hw hm hn (c := c) (by omega) f
    have hm9 := ml_le (fitB w m n) c
    rw [f_X8_ask_24, if_neg q, e1]
    simp only [Option.bind_some]
    unfold pk
    by_cases e : ml (fitB w m n) c < few
    · rw [if_neg (lit_nle (by omega) (by omega) (by omega)), lessI (by omega) (by omega), if_pos (by omega), if_pos e]
      simp only [Option.bind_some]
      rw [p1]
      exact ask8 hw hm hn k (c + 1) c (ml (fitB w m n) c) fu f1 (by omega) (by omega) hm9 (by omega)
    · rw [if_pos (lit_le (by omega) (by omega) (by omega)), lessI (by omega) (by omega), if_neg e]
      simp only [Option.bind_some]
      rw [p1, show (if ml (fitB w m n) c ≤ few then ml (fitB w m n) c else few) = few by
        by_cases z : ml (fitB w m n) c ≤ few
        · rw [if_pos z]; omega
        · rw [if_neg z]]
      exact ask8 hw hm hn k (c + 1) best few fu f1 (by omega) h1 h2 (by omega)
end GB
set_option maxRecDepth 1000000 in
theorem sim_ask {Y F L P W M tY tF tL iY0 iF0 iL0 iW0 iM0 iY1 iF1 iL1 iW1 iM1 kept isKept : Nat → Int32} {hd wl dy pn sn ih0 iw0 id0 in0 ik0 ih1 iw1 id1 in1 ik1 : Int32} (hI : Inv Y F L P W M tY tF tL iY0 iF0 iL0 iW0 iM0 iY1 iF1 iL1 iW1 iM1 kept isKept hd wl dy pn sn ih0 iw0 id0 in0 ik0 ih1 iw1 id1 in1 ik1) (a_guess_tally : Nat → Int32) (a_guess_askedChild : Int32) (a_guess_mostLeft : Int32) (b_byFelt : Nat → Int32) (u1 : Int32) : ∃ (res : Int32) (a_guess_tally' : Nat → Int32) (a_guess_askedChild' : Int32) (a_guess_mostLeft' : Int32) (b_byFelt' : Nat → Int32), f_X7_ask W M sn a_guess_tally a_guess_askedChild a_guess_mostLeft u1 = some (res, a_guess_tally', a_guess_askedChild', a_guess_mostLeft') ∧ f_X8_ask W M sn b_byFelt u1 = some (res, b_byFelt') ∧ Inv Y F L P W M tY tF tL iY0 iF0 iL0 iW0 iM0 iY1 iF1 iL1 iW1 iM1 kept isKept hd wl dy pn sn ih0 iw0 id0 in0 ik0 ih1 iw1 id1 in1 ik1 := by
  obtain ⟨h1, h2, h3, ⟨w, m, n, rfl, rfl, rfl, hn, hw, hm⟩, h5⟩ := id hI
  unfold f_X7_ask f_X8_ask f_X1_countFitting f_X1_chooseChild
  simp only [isW, in_0_1, Option.bind_some]
  by_cases c1 : (0 : Int32) ≤ u1 ∧ u1 ≤ 1
  · simp only [w1 c1]
    rw [show f_X1_countFitting_5 (fun i => nI (w i)) (fun i => nI (m i)) (nI n) 2000 (0 : Int32) (11 : Int32) = _ from count7 hw hm hn 983 11 0 2000 (by decide) (by decide) (by decide)]
    obtain ⟨f0, e0⟩ := mlI8 hw hm hn (c := 0) (by decide) b_byFelt
    rw [show f_X8_mostLeft (fun i => nI (w i)) (fun i => nI (m i)) (nI n) b_byFelt (0 : Int32) = _ from e0]
    simp only [Option.bind_some, Nat.zero_add]
    have hml := ml_le (fitB w m n) 0
    obtain ⟨f8, e8⟩ := ask8 hw hm hn (kx := fun u2_9 u3_10 byFelt_11 => if u3_10 = 0 then some ((-6 : Int32), byFelt_11) else if u1 = 0 then some (u2_9, byFelt_11) else some (u3_10, byFelt_11)) 9 1 0 (ml (fitB w m n) 0) 2000 f0 (by decide) (by decide) hml (by decide)
    rw [show f_X8_ask_24 (fun i => nI (w i)) (fun i => nI (m i)) (nI n) (fun u2_9 u3_10 byFelt_11 => if u3_10 = 0 then some ((-6 : Int32), byFelt_11) else if u1 = 0 then some (u2_9, byFelt_11) else some (u3_10, byFelt_11)) 2000 (0 : Int32) (nI (ml (fitB w m n) 0)) (1 : Int32) f0 = _ from e8]
    have hp := pk_ok (g := fitB w m n) 9 1 0 (ml (fitB w m n) 0)
    have hcf : cf (fitB w m n) 983 11 ≤ 983 := by
      have : ∀ (k x : Nat), cf (fitB w m n) k x ≤ k := by
        intro k
        induction k with
        | zero => intro x; exact Nat.le_refl 0
        | succ k ih =>
          intro x
          unfold cf
          have := ih (x + 1)
          by_cases z : fitB w m n x = true
          · rw [if_pos z]; omega
          · rw [if_neg z]; omega
      exact this 983 11
    by_cases e : cf (fitB w m n) 983 11 = 0
    · have e2 : (pk (fitB w m n) 9 1 0 (ml (fitB w m n) 0)).2 = 0 := by
        have : ml (fitB w m n) 0 = 0 := (rn_cf 983 11 (fun _ => 0) 0).1 e
        omega
      rw [e, e2, if_pos (show nI 0 = (0 : Int32) from rfl), if_pos (show nI 0 = (0 : Int32) from rfl)]
      exact ⟨-6, _, _, _, _, rfl, rfl, hI⟩
    · have e2 : 1 ≤ (pk (fitB w m n) 9 1 0 (ml (fitB w m n) 0)).2 := hp.2 (fun z => (rn_cf 983 11 (fun _ => 0) 0).2 (by omega)) ((rn_cf 983 11 (fun _ => 0) 0).2 (by omega))
      rw [if_neg (show ¬ nI (cf (fitB w m n) 983 11) = (0 : Int32) from lit_ne (b := 0) (by omega) (by decide) e), if_neg (show ¬ nI (pk (fitB w m n) 9 1 0 (ml (fitB w m n) 0)).2 = (0 : Int32) from lit_ne (b := 0) (by omega) (by decide) (by omega))]
      -- the class: its first child is taken as it is
      obtain ⟨f1, e1⟩ := mlI7 hw hm hn (c := 0) (by decide) a_guess_tally
      obtain ⟨f7, e7⟩ := choose7 hw hm hn 9 1 0 (ml (fitB w m n) 0) 1999 f1 (by decide) (by decide) hml (by decide)
      have st : f_X1_chooseChild_14 (fun i => nI (w i)) (fun i => nI (m i)) (nI n) 2000 (0 : Int32) a_guess_tally (-6 : Int32) (-6 : Int32) = some (f7, nI (pk (fitB w m n) 9 1 0 (ml (fitB w m n) 0)).1, nI (pk (fitB w m n) 9 1 0 (ml (fitB w m n) 0)).2) := by
        rw [show (2000 : Nat) = 1999 + 1 from rfl, f_X1_chooseChild_14, if_neg (by decide), show f_X1_mostAlike a_guess_tally (fun i => nI (w i)) (fun i => nI (m i)) (nI n) (0 : Int32) = _ from e1]
        simp only [Option.bind_some, if_true]
        exact e7
      rw [st]
      simp only [Option.bind_some]
      by_cases z : u1 = 0
      · rw [if_pos z, if_pos z]
        exact ⟨_, _, _, _, _, rfl, rfl, hI⟩
      · rw [if_neg z, if_neg z]
        exact ⟨_, _, _, _, _, rfl, rfl, hI⟩
  · simp only [w0 c1]
    exact ⟨-2, _, _, _, _, rfl, rfl, hI⟩
