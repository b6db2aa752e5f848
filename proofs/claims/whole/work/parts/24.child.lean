/-! bits of a small set -/
theorem shl1 : ∀ k, k < 10 → (1 : Int32) <<< (nI k &&& 31) = nI (2 ^ k) := by decide +kernel
theorem nI_or (a b : Nat) : nI a ||| nI b = nI (a ||| b) := by
  apply Int32.toBitVec_inj.1
  show BitVec.ofNat 32 a ||| BitVec.ofNat 32 b = BitVec.ofNat 32 (a ||| b)
  apply BitVec.eq_of_getLsbD_eq
  intro i hi
  simp [hi]
theorem nI_and (a b : Nat) : nI a &&& nI b = nI (a &&& b) := by
  apply Int32.toBitVec_inj.1
  show BitVec.ofNat 32 a &&& BitVec.ofNat 32 b = BitVec.ofNat 32 (a &&& b)
  apply BitVec.eq_of_getLsbD_eq
  intro i hi
  simp [hi]
theorem nI_xor (a b : Nat) : nI a ^^^ nI b = nI (a ^^^ b) := by
  apply Int32.toBitVec_inj.1
  show BitVec.ofNat 32 a ^^^ BitVec.ofNat 32 b = BitVec.ofNat 32 (a ^^^ b)
  apply BitVec.eq_of_getLsbD_eq
  intro i hi
  simp [hi]
theorem sl5 : ∀ n, n < 32 → ((nI n &&& 31).toBitVec.smod 32).toNat = n := by decide +kernel
theorem shr1 {h k : Nat} (hk : k < 32) (hh : h < 2 ^ 31) : nI h >>> (nI k &&& 31) = nI (h / 2 ^ k) := pk_shrN hh _ k (sl5 k hk)
theorem bit1 {h k : Nat} (hk : k < 32) (hh : h < 2 ^ 31) : (nI h >>> (nI k &&& 31)) &&& 1 = if h.testBit k then 1 else 0 := by
  rw [shr1 hk hh, show (1 : Int32) = nI 1 from rfl, nI_and, Nat.and_one_is_mod, Nat.testBit_eq_decide_div_mod_eq]
  by_cases e : h / 2 ^ k % 2 = 1
  · rw [e]
    simp
  · have e0 : h / 2 ^ k % 2 = 0 := by omega
    rw [e0]
    simp
    rfl
theorem bits_x : ∀ h, h < 1024 → ∀ k, k < 10 → (h.testBit k = true → h ||| 2 ^ k = h ∧ h &&& (2 ^ k ^^^ 4294967295) = h ^^^ 2 ^ k) ∧ (h.testBit k = false → h ||| 2 ^ k = h ^^^ 2 ^ k ∧ h &&& (2 ^ k ^^^ 4294967295) = h) ∧ h ^^^ 2 ^ k < 1024 := by decide +kernel
theorem holdsI {h k : Nat} (hk : k < 10) (hh : h < 1024) : f_X5_holdsFast (nI h) (nI k) = some (if h.testBit k then 1 else 0) := by
  unfold f_X5_holdsFast
  rw [bit1 (by omega) (by omega)]
  cases h.testBit k <;> rfl
theorem turnI {h k : Nat} (hk : k < 10) : f_X5_turnHold (nI h) (nI k) = some (nI (h ^^^ 2 ^ k)) := by
  unfold f_X5_turnHold
  rw [shl1 k hk, nI_xor]
/-! a child put, a string's length set -/
def okAt (y l : Nat → Nat) (k v : Nat) : Prop := (k = 0 ∨ ad v (y (k - 1)) ≤ l (k - 1)) ∧ (k = 9 ∨ ad v (y (k + 1)) ≤ l k)
theorem hasI {y l : Nat → Nat} (hy : ∀ i, y i ≤ 999) (hl : ∀ i, l i ≤ 99) {k v : Nat} (hk : k ≤ 9) (hv : v ≤ 999) : (okAt y l k v → f_X5_hasStringFor (fun i => nI (y i)) (fun i => nI (l i)) (nI k) (nI v) = some 1) ∧ (¬ okAt y l k v → f_X5_hasStringFor (fun i => nI (y i)) (fun i => nI (l i)) (nI k) (nI v) = some 0) := by
  have ab : ∀ j, iabs (nI v - nI (y j)) = nI (ad v (y j)) := fun j => iabs_sub (by omega) (by have := hy j; omega)
  have al : ∀ j, ad v (y j) < 2 ^ 31 := fun j => ad_lt (by omega) (by have := hy j; omega)
  have ll : ∀ j, l j < 2 ^ 31 := fun j => by have := hl j; omega
  unfold f_X5_hasStringFor okAt
  by_cases h0 : k = 0
  · subst h0
    have q1 : nI 0 ≤ (0 : Int32) := by decide
    have q2 : ¬ nI 0 = (9 : Int32) := by decide
    simp only [if_pos q1, if_neg q2, p1, cl (show 0 + 1 < 2 ^ 31 by decide), cl (show 0 < 2 ^ 31 by decide), gJ (show 0 + 1 < 10 by decide) (by decide), gJ (show 0 < 9 by decide) (by decide), ab]
    refine ⟨fun h => ?_, fun h => ?_⟩
    · rw [if_neg (lit_nlt (ll _) (al _) (by rcases h.2 with h | h; exact absurd h (by decide); omega))]
    · rw [if_pos (lit_lt (ll _) (al _) (by
        rcases Nat.lt_or_ge (l 0) (ad v (y (0 + 1))) with q | q
        · exact q
        · exact absurd ⟨Or.inl trivial, Or.inr q⟩ h))]
  · have q1 : ¬ nI k ≤ (0 : Int32) := lit_nle (b := 0) (by omega) (by decide) (by omega)
    have e1 : nI k - (1 : Int32) = nI (k - 1) := subI (b := 1) (by omega)
    simp only [if_neg q1, p1, e1, cl (show k - 1 < 2 ^ 31 by omega), cl (show k + 1 < 2 ^ 31 by omega), cl (show k < 2 ^ 31 by omega), gJ (show k - 1 < 10 by omega) (by decide), gJ (show k - 1 < 9 by omega) (by decide), ab]
    by_cases c1 : ad v (y (k - 1)) ≤ l (k - 1)
    · simp only [if_pos (lit_le (al _) (ll _) c1)]
      by_cases h9 : k = 9
      · have q2 : nI k = (9 : Int32) := by rw [h9]; rfl
        simp only [if_pos q2]
        exact ⟨fun _ => by first | rfl | trivial, fun h => absurd ⟨Or.inr c1, Or.inl h9⟩ h⟩
      · have q2 : ¬ nI k = (9 : Int32) := lit_ne (b := 9) (by omega) (by decide) h9
        simp only [if_neg q2, gJ (show k + 1 < 10 by omega) (by decide), gJ (show k < 9 by omega) (by decide)]
        refine ⟨fun h => ?_, fun h => ?_⟩
        · rw [if_neg (lit_nlt (ll _) (al _) (by rcases h.2 with h | h; exact absurd h h9; omega))]
        · rw [if_pos (lit_lt (ll _) (al _) (by
            rcases Nat.lt_or_ge (l k) (ad v (y (k + 1))) with q | q
            · exact q
            · exact absurd ⟨Or.inr c1, Or.inr q⟩ h))]
    · simp only [if_neg (lit_nle (al _) (ll _) c1)]
      exact ⟨fun h => absurd (h.1.resolve_left h0) c1, fun _ => by first | rfl | trivial⟩
theorem reachedI {y l : Nat → Nat} (hy : ∀ i, y i ≤ 999) (hl : ∀ i, l i ≤ 99) {k v : Nat} (hk : k ≤ 9) (hv : v ≤ 999) : (okAt y l k v → f_X8_isReached (fun i => nI (y i)) (fun i => nI (l i)) (nI k) (nI v) = some 1) ∧ (¬ okAt y l k v → f_X8_isReached (fun i => nI (y i)) (fun i => nI (l i)) (nI k) (nI v) = some 0) := by
  have ab : ∀ j, f_X8_off (nI v) (nI (y j)) = some (nI (ad v (y j))) := fun j => offI (by omega) (by have := hy j; omega)
  have al : ∀ j, ad v (y j) < 2 ^ 31 := fun j => ad_lt (by omega) (by have := hy j; omega)
  have ll : ∀ j, l j < 2 ^ 31 := fun j => by have := hl j; omega
  unfold f_X8_isReached okAt
  by_cases h0 : k = 0
  · subst h0
    have q1 : nI 0 = (0 : Int32) := rfl
    have q2 : ¬ nI 0 = (9 : Int32) := by decide
    simp only [if_pos q1, if_neg q2, p1, cl (show 0 + 1 < 2 ^ 31 by decide), cl (show 0 < 2 ^ 31 by decide), gJ (show 0 + 1 < 10 by decide) (by decide), gJ (show 0 < 9 by decide) (by decide), ab, Option.bind_some]
    refine ⟨fun h => ?_, fun h => ?_⟩
    · rw [if_neg (lit_nlt (ll _) (al _) (by rcases h.2 with h | h; exact absurd h (by decide); omega))]
    · rw [if_pos (lit_lt (ll _) (al _) (by
        rcases Nat.lt_or_ge (l 0) (ad v (y (0 + 1))) with q | q
        · exact q
        · exact absurd ⟨Or.inl trivial, Or.inr q⟩ h))]
  · have q1 : ¬ nI k = (0 : Int32) := lit_ne (b := 0) (by omega) (by decide) h0
    have e1 : nI k - (1 : Int32) = nI (k - 1) := subI (b := 1) (by omega)
    simp only [if_neg q1, p1, e1, cl (show k - 1 < 2 ^ 31 by omega), cl (show k + 1 < 2 ^ 31 by omega), cl (show k < 2 ^ 31 by omega), gJ (show k - 1 < 10 by omega) (by decide), gJ (show k - 1 < 9 by omega) (by decide), ab, Option.bind_some]
    by_cases c1 : ad v (y (k - 1)) ≤ l (k - 1)
    · simp only [if_neg (lit_nlt (ll _) (al _) (Nat.not_lt.mpr c1))]
      by_cases h9 : k = 9
      · have q2 : nI k = (9 : Int32) := by rw [h9]; rfl
        simp only [if_pos q2]
        exact ⟨fun _ => by first | rfl | trivial, fun h => absurd ⟨Or.inr c1, Or.inl h9⟩ h⟩
      · have q2 : ¬ nI k = (9 : Int32) := lit_ne (b := 9) (by omega) (by decide) h9
        simp only [if_neg q2, gJ (show k + 1 < 10 by omega) (by decide), gJ (show k < 9 by omega) (by decide)]
        refine ⟨fun h => ?_, fun h => ?_⟩
        · rw [if_neg (lit_nlt (ll _) (al _) (by rcases h.2 with h | h; exact absurd h h9; omega))]
        · rw [if_pos (lit_lt (ll _) (al _) (by
            rcases Nat.lt_or_ge (l k) (ad v (y (k + 1))) with q | q
            · exact q
            · exact absurd ⟨Or.inr c1, Or.inr q⟩ h))]
    · simp only [if_pos (lit_lt (ll _) (al _) (Nat.not_le.mp c1))]
      refine ⟨fun h => absurd (h.1.resolve_left h0) c1, fun _ => ?_⟩
      by_cases h9 : k = 9
      · have q2 : nI k = (9 : Int32) := by rw [h9]; rfl
        simp only [if_pos q2]
      · have q2 : ¬ nI k = (9 : Int32) := lit_ne (b := 9) (by omega) (by decide) h9
        simp only [if_neg q2, gJ (show k + 1 < 10 by omega) (by decide), gJ (show k < 9 by omega) (by decide), ite_self]
theorem okAt_row {y l : Nat → Nat} (ha : ∀ i, i < 9 → y i ≤ y (i + 1) + l i ∧ y (i + 1) ≤ y i + l i) {k v : Nat} (h : okAt y l k v) : ∀ i, i < 9 → va_up y k v i ≤ va_up y k v (i + 1) + l i ∧ va_up y k v (i + 1) ≤ va_up y k v i + l i := by
  intro i hi
  have q := ha i hi
  rw [upN_at, upN_at]
  by_cases e1 : i = k
  · subst e1
    rw [if_pos rfl, if_neg (by omega)]
    have := ad_le.mp (h.2.resolve_left (by omega))
    omega
  · by_cases e2 : i + 1 = k
    · subst e2
      rw [if_neg e1, if_pos rfl]
      have := ad_le.mp (h.1.resolve_left (by omega))
      rw [Nat.add_sub_cancel] at this
      omega
    · rw [if_neg e1, if_neg e2]
      exact q
theorem sim_child {Y F L P W M tY tF tL iY0 iF0 iL0 iW0 iM0 iY1 iF1 iL1 iW1 iM1 kept isKept : Nat → Int32} {hd wl dy pn sn ih0 iw0 id0 in0 ik0 ih1 iw1 id1 in1 ik1 : Int32} (hI : Inv Y F L P W M tY tF tL iY0 iF0 iL0 iW0 iM0 iY1 iF1 iL1 iW1 iM1 kept isKept hd wl dy pn sn ih0 iw0 id0 in0 ik0 ih1 iw1 id1 in1 ik1) (u1 : Int32) (u2 : Int32) (u3 : Int32) : ∃ (res : Int32) (Y' : Nat → Int32) (hd' : Int32), f_X7_child Y L hd u1 u2 u3 = some (res, Y', hd') ∧ f_X8_child Y L hd u1 u2 u3 = some (res, Y', hd') ∧ Inv Y' F L P W M tY tF tL iY0 iF0 iL0 iW0 iM0 iY1 iF1 iL1 iW1 iM1 kept isKept hd' wl dy pn sn ih0 iw0 id0 in0 ik0 ih1 iw1 id1 in1 ik1 := by
  obtain ⟨⟨y, f, l, h, w, d, rfl, rfl, rfl, rfl, rfl, rfl, b1, b2, b3, b4, b5, b6, b7, b8, b9, b10⟩, hr⟩ := id hI
  unfold f_X7_child f_X8_child
  simp only [isW, isC, in_0_999, in_0_1, Option.bind_some]
  by_cases c1 : (0 : Int32) ≤ u1 ∧ u1 ≤ 9
  · simp only [w1 c1]
    by_cases c2 : (0 : Int32) ≤ u2 ∧ u2 ≤ 999
    · simp only [w1 c2]
      by_cases c3 : (0 : Int32) ≤ u3 ∧ u3 ≤ 1
      · simp only [w1 c3]
        obtain ⟨k, -, hk, rfl⟩ := rg (a := 0) (b := 9) (by decide) (by decide) c1
        obtain ⟨v, -, hv, rfl⟩ := rg (a := 0) (b := 999) (by decide) (by decide) c2
        obtain ⟨t, -, ht, rfl⟩ := rg (a := 0) (b := 1) (by decide) (by decide) c3
        by_cases ok : okAt y l k v
        · rw [(hasI b1 b4 hk hv).1 ok, (reachedI b1 b4 hk hv).1 ok]
          obtain ⟨x1, x2, x3⟩ := bits_x h b5 k (by omega)
          have z1 : ¬ (1 : Int32) = 0 := by decide
          simp only [Option.bind_some, if_neg z1, cl (show k < 2 ^ 31 by omega), gJ (show k < 10 by omega) (by decide), holdsI (show k < 10 by omega) b5, turnI (show k < 10 by omega), shl1 k (by omega), nI_or, show (-1 : Int32) = nI 4294967295 by decide, nI_xor, nI_and]
          have inv' : ∀ h', h' < 1024 → Inv (upd (fun i => nI (y i)) k (nI v)) (fun i => nI (f i)) (fun i => nI (l i)) P W M tY tF tL iY0 iF0 iL0 iW0 iM0 iY1 iF1 iL1 iW1 iM1 kept isKept (nI h') (nI w) (nI d) pn sn ih0 iw0 id0 in0 ik0 ih1 iw1 id1 in1 ik1 := fun h' hh => ⟨⟨va_up y k v, f, l, h', w, d, updI y k v, rfl, rfl, rfl, rfl, rfl, fun i => by
            rw [upN_at]
            have := b1 i
            by_cases e : i = k
            · rw [if_pos e]; exact hv
            · rw [if_neg e]; exact this, b2, b3, b4, hh, b6, b7, fun i hi => ⟨by rw [upN_at, if_neg (by omega)]; exact (b8 i hi).1, (b8 i hi).2⟩, b9, okAt_row b10 ok⟩, hr⟩
          cases hb : h.testBit k with
          | true =>
            have y1 : ¬ ((1 : Int32) = 0) := by decide
            by_cases et : t = 1
            · subst et
              refine ⟨nI (y k), _, nI h, ?_, ?_, inv' h b5⟩
              · simp [show nI 1 = (1 : Int32) from rfl]
              · simp [show nI 1 = (1 : Int32) from rfl, (x1 hb).1]
            · have et0 : t = 0 := by omega
              subst et0
              refine ⟨nI (y k), _, nI (h ^^^ 2 ^ k), ?_, ?_, inv' _ x3⟩
              · simp [show nI 0 = (0 : Int32) from rfl]
              · simp [show nI 0 = (0 : Int32) from rfl, (x1 hb).2]
          | false =>
            by_cases et : t = 1
            · subst et
              refine ⟨nI (y k), _, nI (h ^^^ 2 ^ k), ?_, ?_, inv' _ x3⟩
              · simp [show nI 1 = (1 : Int32) from rfl]
              · simp [show nI 1 = (1 : Int32) from rfl, (x2 hb).1]
            · have et0 : t = 0 := by omega
              subst et0
              refine ⟨nI (y k), _, nI h, ?_, ?_, inv' _ b5⟩
              · simp [show nI 0 = (0 : Int32) from rfl]
              · simp [show nI 0 = (0 : Int32) from rfl, (x2 hb).2]
        · rw [(hasI b1 b4 hk hv).2 ok, (reachedI b1 b4 hk hv).2 ok]
          exact ⟨-3, _, _, rfl, rfl, hI⟩
      · simp only [w0 c3]
        exact ⟨-2, _, _, rfl, rfl, hI⟩
    · simp only [w0 c2]
      exact ⟨-2, _, _, rfl, rfl, hI⟩
  · simp only [w0 c1]
    exact ⟨-1, _, _, rfl, rfl, hI⟩
theorem apartI {y : Nat → Nat} (hy : ∀ i, y i ≤ 999) {k : Nat} (hk : k < 9) : f_X5_apart (fun i => nI (y i)) (nI k) = some (nI (ad (y (k + 1)) (y k))) := by
  have h1 := hy k
  have h2 := hy (k + 1)
  unfold f_X5_apart
  simp only [p1, cl (show k + 1 < 2 ^ 31 by omega), cl (show k < 2 ^ 31 by omega), gJ (show k + 1 < 10 by omega) (by decide), gJ (show k < 10 by omega) (by decide), iabs_sub (show y (k + 1) < 2 ^ 30 by omega) (show y k < 2 ^ 30 by omega)]
theorem sim_string {Y F L P W M tY tF tL iY0 iF0 iL0 iW0 iM0 iY1 iF1 iL1 iW1 iM1 kept isKept : Nat → Int32} {hd wl dy pn sn ih0 iw0 id0 in0 ik0 ih1 iw1 id1 in1 ik1 : Int32} (hI : Inv Y F L P W M tY tF tL iY0 iF0 iL0 iW0 iM0 iY1 iF1 iL1 iW1 iM1 kept isKept hd wl dy pn sn ih0 iw0 id0 in0 ik0 ih1 iw1 id1 in1 ik1) (u1 : Int32) (u2 : Int32) : ∃ (res : Int32) (L' : Nat → Int32), f_X7_string Y L u1 u2 = some (res, L') ∧ f_X8_string Y L u1 u2 = some (res, L') ∧ Inv Y F L' P W M tY tF tL iY0 iF0 iL0 iW0 iM0 iY1 iF1 iL1 iW1 iM1 kept isKept hd wl dy pn sn ih0 iw0 id0 in0 ik0 ih1 iw1 id1 in1 ik1 := by
  obtain ⟨⟨y, f, l, h, w, d, rfl, rfl, rfl, rfl, rfl, rfl, b1, b2, b3, b4, b5, b6, b7, b8, b9, b10⟩, hr⟩ := id hI
  unfold f_X7_string f_X8_string
  simp only [isW, in_0_8, in_1_99, Option.bind_some]
  by_cases c1 : (0 : Int32) ≤ u1 ∧ u1 ≤ 8
  · simp only [w1 c1]
    by_cases c2 : (1 : Int32) ≤ u2 ∧ u2 ≤ 99
    · simp only [w1 c2]
      obtain ⟨k, -, hk, rfl⟩ := rg (a := 0) (b := 8) (by decide) (by decide) c1
      obtain ⟨v, hv1, hv, rfl⟩ := rg (a := 1) (b := 99) (by decide) (by decide) c2
      have h1 := b1 k
      have h2 := b1 (k + 1)
      simp only [apartI b1 (show k < 9 by omega), p1, cl (show k + 1 < 2 ^ 31 by omega), cl (show k < 2 ^ 31 by omega), gJ (show k + 1 < 10 by omega) (by decide), gJ (show k < 10 by omega) (by decide), gJ (show k < 9 by omega) (by decide), offI (show y k < 2 ^ 30 by omega) (show y (k + 1) < 2 ^ 30 by omega), Option.bind_some, ad_comm (y k) (y (k + 1))]
      have la : ad (y (k + 1)) (y k) < 2 ^ 31 := ad_lt (by omega) (by omega)
      by_cases c3 : ad (y (k + 1)) (y k) ≤ v
      · simp only [if_pos (lit_le la (show v < 2 ^ 31 by omega) c3)]
        refine ⟨nI (l k), _, rfl, rfl, ⟨y, f, va_up l k v, h, w, d, rfl, rfl, updI l k v, rfl, rfl, rfl, b1, b2, fun i hi => ?_, fun i => ?_, b5, b6, b7, b8, fun i hi => ?_, fun i hi => ?_⟩, hr⟩
        · rw [upN_at]
          have := b3 i hi
          by_cases e : i = k
          · rw [if_pos e]; exact hv1
          · rw [if_neg e]; exact this
        · rw [upN_at]
          have := b4 i
          by_cases e : i = k
          · rw [if_pos e]; exact hv
          · rw [if_neg e]; exact this
        · rw [upN_at, if_neg (by omega)]
          exact b9 i hi
        · rw [upN_at]
          have q := b10 i hi
          by_cases e : i = k
          · subst e
            rw [if_pos rfl]
            have := ad_le.mp c3
            omega
          · rw [if_neg e]; exact q
      · simp only [if_neg (lit_nle la (show v < 2 ^ 31 by omega) c3)]
        exact ⟨-3, _, rfl, rfl, hI⟩
    · simp only [w0 c2]
      exact ⟨-2, _, rfl, rfl, hI⟩
  · simp only [w0 c1]
    exact ⟨-1, _, rfl, rfl, hI⟩
