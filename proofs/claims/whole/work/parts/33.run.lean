/-! the rest of the acts; all of them -/
theorem cls {k : Nat} (h : k < 2 ^ 31) : (nI k).toNatClampNeg = k := nI_clamp h
theorem actLet {y e l : Nat → Nat} {h w d : Nat} (hy : ∀ i, y i ≤ 999) (he : ∀ i, e i ≤ 99) (hl1 : ∀ i, i < 9 → 1 ≤ l i) (hl : ∀ i, l i ≤ 99) (hh : h < 1024) (hw : w ≤ 999) (hd : d ≤ 99) (hz : ∀ i, 10 ≤ i → y i = 0 ∧ e i = 0) (hlz : ∀ i, 9 ≤ i → l i = 0) (ha : ∀ i, i < 9 → y i ≤ y (i + 1) + l i ∧ y (i + 1) ≤ y i + l i) {k : Nat} (hk : k ≤ 9) (n n' : Int32) (f g : Nat → Int32) (b : Int32) :
    BothAct (fun i => nI (y i)) (fun i => nI (e i)) (fun i => nI (l i)) (nI h) (nI w) (nI d) 43 4 (nI k) n (nI k) n' f g b := by
  have lk := hl k
  unfold BothAct f_X5_whyNot f_X8_whyNot f_X5_whyNotLetOut f_X8_whyNotLet
  rw [if_pos rfl]
  by_cases k9 : k = 9
  · subst k9
    exact ⟨3, f, g, b, rfl, rfl, by decide, fun q => absurd q (by decide)⟩
  have c9 : nI k < (9 : Int32) := lit_lt (b := 9) (by omega) (by decide) (by omega)
  have n9 : ¬ nI k = (9 : Int32) := lit_ne (b := 9) (by omega) (by decide) k9
  rw [if_pos c9, if_neg (show ¬ (4 : Int32) = 0 by decide), if_neg (show ¬ (4 : Int32) = 1 by decide), if_neg (show ¬ (4 : Int32) = 2 by decide), if_neg (show ¬ (4 : Int32) = 3 by decide), if_pos (show (4 : Int32) = 4 from rfl), if_neg n9]
  by_cases w0 : w = 0
  · subst w0
    exact ⟨4, f, g, b, rfl, rfl, by decide, fun q => absurd q (by decide)⟩
  have nw0 : ¬ nI w = (0 : Int32) := lit_ne (b := 0) (by omega) (by decide) w0
  rw [if_neg nw0, if_neg nw0, gI (by omega : k < 9) (by decide), gI (by omega : k < 9) (by decide), cl (by omega)]
  by_cases q : l k = 99
  · rw [if_neg (show ¬ nI (l k) < (99 : Int32) from lit_nlt (b := 99) (by omega) (by decide) (by omega)), if_pos (show nI (l k) = (99 : Int32) by rw [q]; rfl)]
    exact ⟨5, f, g, b, rfl, rfl, by decide, fun q => absurd q (by decide)⟩
  rw [if_pos (show nI (l k) < (99 : Int32) from lit_lt (b := 99) (by omega) (by decide) (by omega)), if_neg (show ¬ nI (l k) = (99 : Int32) from lit_ne (b := 99) (by omega) (by decide) q)]
  refine ⟨0, f, g, b, rfl, rfl, by decide, fun _ mm nn => ?_⟩
  refine ⟨0, 0, _, _, _, _, _, _, f, g, b, nn, by decide, cnt0, ?_, ?_, Or.inr ⟨rfl, rfl⟩, ⟨y, e, va_up l k (l k + 1), h, w - 1, d, rfl, rfl, rfl, rfl, rfl, rfl, hy, he, fun i hi => ?_, fun i => ?_, hh, by omega, hd, hz, fun i hi => ?_, fun i hi => ?_⟩⟩
  · unfold f_X5_act f_X5_letOut
    rw [if_neg (by decide), if_neg (by decide), if_pos rfl, if_pos c9, gI (by omega : k < 9) (by decide), cl (by omega), p1, updI, show nI w - (1 : Int32) = nI (w - 1) from subI (b := 1) (by omega)]
    rfl
  · unfold f_X8_happen
    rw [if_neg (by decide), if_neg (by decide), if_neg (by decide), if_neg (by decide), if_pos rfl, gI (by omega : k < 9) (by decide), cl (by omega), p1, updI, show nI w - (1 : Int32) = nI (w - 1) from subI (b := 1) (by omega), a0]
  · have := hl1 i hi
    rw [upN_at]
    by_cases t : i = k
    · rw [if_pos t]; omega
    · rw [if_neg t]; omega
  · have := hl i
    rw [upN_at]
    by_cases t : i = k
    · rw [if_pos t]; omega
    · rw [if_neg t]; omega
  · rw [up_ne (by omega)]; exact hlz i hi
  · have := ha i hi
    rw [upN_at]
    by_cases t : i = k
    · rw [if_pos t, ← t]; omega
    · rw [if_neg t]; omega
theorem actTake {y e l : Nat → Nat} {h w d : Nat} (hy : ∀ i, y i ≤ 999) (he : ∀ i, e i ≤ 99) (hl1 : ∀ i, i < 9 → 1 ≤ l i) (hl : ∀ i, l i ≤ 99) (hh : h < 1024) (hw : w ≤ 999) (hd : d ≤ 99) (hz : ∀ i, 10 ≤ i → y i = 0 ∧ e i = 0) (hlz : ∀ i, 9 ≤ i → l i = 0) (ha : ∀ i, i < 9 → y i ≤ y (i + 1) + l i ∧ y (i + 1) ≤ y i + l i) {k : Nat} (hk : k ≤ 9) (n n' : Int32) (f g : Nat → Int32) (b : Int32) :
    BothAct (fun i => nI (y i)) (fun i => nI (e i)) (fun i => nI (l i)) (nI h) (nI w) (nI d) 45 5 (nI k) n (nI k) n' f g b := by
  have lk := hl k
  unfold BothAct f_X5_whyNot f_X8_whyNot f_X5_whyNotWind f_X8_whyNotTake
  rw [if_neg (by decide), if_pos rfl]
  by_cases k9 : k = 9
  · subst k9
    exact ⟨3, f, g, b, rfl, rfl, by decide, fun q => absurd q (by decide)⟩
  have c9 : nI k < (9 : Int32) := lit_lt (b := 9) (by omega) (by decide) (by omega)
  have n9 : ¬ nI k = (9 : Int32) := lit_ne (b := 9) (by omega) (by decide) k9
  have l1 := hl1 k (by omega)
  rw [if_pos c9, if_neg (show ¬ (5 : Int32) = 0 by decide), if_neg (show ¬ (5 : Int32) = 1 by decide), if_neg (show ¬ (5 : Int32) = 2 by decide), if_neg (show ¬ (5 : Int32) = 3 by decide), if_neg (show ¬ (5 : Int32) = 4 by decide), if_pos (show (5 : Int32) = 5 from rfl), if_neg n9, taut7 hl hy (by omega), taut8 hl hy (by omega)]
  simp only [Option.bind_some]
  by_cases t : ad (y k) (y (k + 1)) = l k
  · rw [w1 t, w1 t]
    exact ⟨5, f, g, b, rfl, rfl, by decide, fun q => absurd q (by decide)⟩
  rw [w0 t, w0 t, gI (by omega : k < 9) (by decide), gI (by omega : k < 9) (by decide), cl (by omega)]
  by_cases q : l k = 1
  · rw [if_neg (show ¬ (1 : Int32) < nI (l k) from lit_nlt (a := 1) (by decide) (by omega) (by omega)), if_pos (show nI (l k) = (1 : Int32) by rw [q]; rfl)]
    exact ⟨5, f, g, b, rfl, rfl, by decide, fun q => absurd q (by decide)⟩
  rw [if_pos (show (1 : Int32) < nI (l k) from lit_lt (a := 1) (by decide) (by omega) (by omega)), if_neg (show ¬ nI (l k) = (1 : Int32) from lit_ne (b := 1) (by omega) (by decide) q)]
  refine ⟨0, f, g, b, rfl, rfl, by decide, fun _ mm nn => ?_⟩
  refine ⟨0, 0, _, _, _, _, _, _, f, g, b, nn, by decide, cnt0, ?_, ?_, Or.inr ⟨rfl, rfl⟩, ⟨y, e, va_up l k (l k - 1), h, min 999 (w + 1), d, rfl, rfl, rfl, rfl, rfl, rfl, hy, he, fun i hi => ?_, fun i => ?_, hh, Nat.min_le_left _ _, hd, hz, fun i hi => ?_, fun i hi => ?_⟩⟩
  · unfold f_X5_act f_X5_windIn
    rw [if_neg (by decide), if_neg (by decide), if_neg (by decide), if_pos rfl, if_pos c9, gI (by omega : k < 9) (by decide), cl (by omega), show nI (l k) - (1 : Int32) = nI (l k - 1) from subI (b := 1) (by omega), updI, p1, show (999 : Int32) = nI 999 from rfl, imin_n (by decide) (by omega)]
    rfl
  · unfold f_X8_happen
    rw [if_neg (by decide), if_neg (by decide), if_neg (by decide), if_neg (by decide), if_neg (by decide), if_pos rfl, gI (by omega : k < 9) (by decide), cl (by omega), show nI (l k) - (1 : Int32) = nI (l k - 1) from subI (b := 1) (by omega), updI, p1, show (999 : Int32) = nI 999 from rfl, lessI (by decide) (by omega), a0]
    simp only [Option.bind_some]
    by_cases c : w + 1 ≤ 999
    · rw [if_pos c, Nat.min_eq_right c]
    · rw [if_neg c, Nat.min_eq_left (by omega)]
  · have := hl1 i hi
    rw [upN_at]
    by_cases t : i = k
    · rw [if_pos t]; omega
    · rw [if_neg t]; omega
  · have := hl i
    rw [upN_at]
    by_cases t : i = k
    · rw [if_pos t]; omega
    · rw [if_neg t]; omega
  · rw [up_ne (by omega)]; exact hlz i hi
  · have := ha i hi
    rw [upN_at]
    by_cases u : i = k
    · rw [if_pos u]
      subst u
      have z : ad (y i) (y (i + 1)) ≤ l i - 1 := by
        have : ad (y i) (y (i + 1)) ≤ l i := ad_le.mpr this
        omega
      exact ad_le.mp z
    · rw [if_neg u]; omega
theorem actDay {y e l : Nat → Nat} {h w d : Nat} (hy : ∀ i, y i ≤ 999) (he : ∀ i, e i ≤ 99) (hl1 : ∀ i, i < 9 → 1 ≤ l i) (hl : ∀ i, l i ≤ 99) (hh : h < 1024) (hw : w ≤ 999) (hd : d ≤ 99) (hz : ∀ i, 10 ≤ i → y i = 0 ∧ e i = 0) (hlz : ∀ i, 9 ≤ i → l i = 0) (ha : ∀ i, i < 9 → y i ≤ y (i + 1) + l i ∧ y (i + 1) ≤ y i + l i) (who n who' n' : Int32) (f g : Nat → Int32) (b : Int32) :
    BothAct (fun i => nI (y i)) (fun i => nI (e i)) (fun i => nI (l i)) (nI h) (nI w) (nI d) 46 6 who n who' n' f g b := by
  unfold BothAct f_X5_whyNot f_X8_whyNot
  rw [if_neg (show ¬ (46 : Int32) = 43 by decide), if_neg (show ¬ (46 : Int32) = 45 by decide), if_pos (show (46 : Int32) = 46 from rfl), if_neg (show ¬ (6 : Int32) = 0 by decide), if_neg (show ¬ (6 : Int32) = 1 by decide), if_neg (show ¬ (6 : Int32) = 2 by decide), if_neg (show ¬ (6 : Int32) = 3 by decide), if_neg (show ¬ (6 : Int32) = 4 by decide), if_neg (show ¬ (6 : Int32) = 5 by decide), if_pos (show (6 : Int32) = 6 from rfl)]
  by_cases q : d = 99
  · subst q
    exact ⟨6, f, g, b, rfl, rfl, by decide, fun q => absurd q (by decide)⟩
  rw [if_pos (show nI d < (99 : Int32) from lit_lt (b := 99) (by omega) (by decide) (by omega)), if_neg (show ¬ nI d = (99 : Int32) from lit_ne (b := 99) (by omega) (by decide) q)]
  refine ⟨0, f, g, b, rfl, rfl, by decide, fun _ mm nn => ?_⟩
  have es : seg 0 10 (fun _ => (0 : Int32)) (fun i => nI (e i)) = fun i => nI 0 := by
    funext i
    unfold seg
    by_cases c : i < 10
    · rw [if_pos ⟨Nat.zero_le _, c⟩]; rfl
    · rw [if_neg (by omega)]
      show nI (e i) = nI 0
      rw [(hz i (by omega)).2]
  refine ⟨0, 0, _, _, _, _, _, _, f, g, b, nn, by decide, cnt0, ?_, ?_, Or.inr ⟨rfl, rfl⟩, ⟨y, fun _ => 0, l, h, w, d + 1, rfl, rfl, rfl, rfl, rfl, rfl, hy, fun _ => Nat.zero_le _, hl1, hl, hh, hw, by omega, fun i hi => ⟨(hz i hi).1, rfl⟩, hlz, ha⟩⟩
  · unfold f_X5_act f_X5_nextDay
    rw [if_neg (by decide), if_neg (by decide), if_neg (by decide), if_neg (by decide), if_neg (by decide), if_neg (by decide), p1, show (0 : Int32) = nI 0 from rfl, nd7 10 0 2000 _ (by decide) (by decide), es]
    rfl
  · unfold f_X8_happen f_X8_passDay
    rw [if_neg (by decide), if_neg (by decide), if_neg (by decide), if_neg (by decide), if_neg (by decide), if_neg (by decide), show f_X8_passDay_2 (fun feels_3 => some (feels_3, nI d + (1 : Int32))) 2000 (0 : Int32) (fun i => nI (e i)) = _ from nd8 10 0 2000 _ (by decide) (by decide), es, p1, a0]
    rfl
/-- one act of either, of whatever kind -/
theorem bothAct {Y F L : Nat → Int32} {hd wl dy c m who n who' n' : Int32} (hR : RowOK Y F L hd wl dy) (hS : SameAct c m who n who' n') (f g : Nat → Int32) (b : Int32) : BothAct Y F L hd wl dy c m who n who' n' f g b := by
  obtain ⟨y, e, l, h, w, d, rfl, rfl, rfl, rfl, rfl, rfl, hy, he, hl1, hl, hh, hw, hd, hz, hlz, ha⟩ := hR
  rcases hS with ⟨k, s, hk, s1, s9, rfl, rfl, rfl, rfl, q⟩ | ⟨k, hk, rfl, rfl, q⟩ | ⟨rfl, rfl⟩
  · rcases q with q | q | ⟨rfl, rfl⟩
    · exact actGo hy he hl1 hl hh hw hd hz hlz ha hk _ (Or.inl q) f g b
    · exact actGo hy he hl1 hl hh hw hd hz hlz ha hk _ (Or.inr q) f g b
    · exact (actRest hy he hl1 hl hh hw hd hz hlz ha hk 0 0 f g b).1 s s1 s9
  · rcases q with ⟨rfl, rfl⟩ | ⟨rfl, rfl⟩ | ⟨rfl, rfl⟩
    · exact (actRest hy he hl1 hl hh hw hd hz hlz ha hk n n' f g b).2
    · exact actLet hy he hl1 hl hh hw hd hz hlz ha hk n n' f g b
    · exact actTake hy he hl1 hl hh hw hd hz hlz ha hk n n' f g b
  · exact actDay hy he hl1 hl hh hw hd hz hlz ha who n who' n' f g b
