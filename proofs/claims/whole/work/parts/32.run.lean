/-! one act, asked and done, by both -/
theorem nd7 {d : Int32} : ∀ (m j fuel : Nat) (fs : Nat → Int32), j + m = 10 → m < fuel → f_X5_nextDay_12 d fuel (nI j) fs = some (seg j 10 (fun _ => 0) fs, d)
  | _, _, 0, dy, h, hf => absurd hf (by omega)
  | 0, j, f + 1, dy, h, hf => by
    have e : j = 10 := by omega
    subst e
    rw [f_X5_nextDay_12, show (10 : Int32) = nI 10 from rfl, if_pos (lit_le (a := 10) (by decide) (by decide) (Nat.le_refl 10)), seg_end]
  | m + 1, j, f + 1, dy, h, hf => by
    rw [f_X5_nextDay_12, show (10 : Int32) = nI 10 from rfl, if_neg (lit_nle (a := 10) (b := j) (by decide) (by omega) (by omega)), gI (by omega : j < 10) (by decide), cl (by omega), p1, nd7 m (j + 1) f _ (by omega) (by omega), seg_step (src := fun _ => (0 : Int32)) (by omega)]
theorem nd8 {kx} : ∀ (m j fuel : Nat) (fs : Nat → Int32), j + m = 10 → m < fuel → f_X8_passDay_2 kx fuel (nI j) fs = kx (seg j 10 (fun _ => 0) fs)
  | _, _, 0, dy, h, hf => absurd hf (by omega)
  | 0, j, f + 1, dy, h, hf => by
    have e : j = 10 := by omega
    subst e
    rw [f_X8_passDay_2, show (10 : Int32) = nI 10 from rfl, if_pos (lit_le (a := 10) (by decide) (by decide) (Nat.le_refl 10)), seg_end]
  | m + 1, j, f + 1, dy, h, hf => by
    rw [f_X8_passDay_2, show (10 : Int32) = nI 10 from rfl, if_neg (lit_nle (a := 10) (b := j) (by decide) (by omega) (by omega)), gI (by omega : j < 10) (by decide), cl (by omega), p1, nd8 m (j + 1) f _ (by omega) (by omega), seg_step (src := fun _ => (0 : Int32)) (by omega)]
/-- the kinds as the one and the other name them, with what they are done with -/
def SameAct (c m who n who' n' : Int32) : Prop :=
  (∃ k s : Nat, k ≤ 9 ∧ 1 ≤ s ∧ s ≤ 9 ∧ who = nI k ∧ n = nI s ∧ who' = nI k ∧ n' = nI s ∧ ((c = 62 ∧ m = 0) ∨ (c = 60 ∧ m = 1) ∨ (c = 33 ∧ m = 3))) ∨
  (∃ k : Nat, k ≤ 9 ∧ who = nI k ∧ who' = nI k ∧ ((c = 35 ∧ m = 2) ∨ (c = 43 ∧ m = 4) ∨ (c = 45 ∧ m = 5))) ∨ (c = 46 ∧ m = 6)
def BothAct (Y F L : Nat → Int32) (hd wl dy c m who n who' n' : Int32) (f g : Nat → Int32) (b : Int32) : Prop :=
  ∃ w f1 g1 b1, f_X5_whyNot Y L f hd wl dy c who n = some (w, f1) ∧ f_X8_whyNot Y L hd wl dy g b m who' n' = some (w, g1, b1) ∧ 0 ≤ w ∧
    (w = 0 → ∀ mm nn : Int32, ∃ (z : Nat) (cnt : Int32) (Y' F' L' : Nat → Int32) (hd' wl' dy' : Int32) (f2 g2 : Nat → Int32) (b2 : Int32) (nn' : Int32), z < 1024 ∧ f_J6_bitCount_0f7a4 (nI z) = some cnt ∧ f_X5_act Y F L f1 hd wl dy c who n = some (nI z, Y', F', L', f2, hd', wl', dy') ∧
      f_X8_happen Y F L hd wl dy g1 b1 mm nn m who' n' = some (Y', F', L', hd', wl', dy', g2, b2, mm + cnt, nn') ∧ (nn' = nI z ∨ (nn' = nn ∧ z = 0)) ∧ RowOK Y' F' L' hd' wl' dy')
theorem cnt0 : f_J6_bitCount_0f7a4 (nI 0) = some 0 := by decide +kernel
theorem actGo {y e l : Nat → Nat} {h w d : Nat} (hy : ∀ i, y i ≤ 999) (he : ∀ i, e i ≤ 99) (hl1 : ∀ i, i < 9 → 1 ≤ l i) (hl : ∀ i, l i ≤ 99) (hh : h < 1024) (hw : w ≤ 999) (hd : d ≤ 99) (hz : ∀ i, 10 ≤ i → y i = 0 ∧ e i = 0) (hlz : ∀ i, 9 ≤ i → l i = 0) (ha : ∀ i, i < 9 → y i ≤ y (i + 1) + l i ∧ y (i + 1) ≤ y i + l i) {k : Nat} (hk : k ≤ 9) {c m : Int32} (s : Int32) (hc : (c = 62 ∧ m = 0) ∨ (c = 60 ∧ m = 1)) (f g : Nat → Int32) (b : Int32) :
    BothAct (fun i => nI (y i)) (fun i => nI (e i)) (fun i => nI (l i)) (nI h) (nI w) (nI d) c m (nI k) s (nI k) s f g b := by
  unfold BothAct
  rcases hc with ⟨rfl, rfl⟩ | ⟨rfl, rfl⟩
  · obtain ⟨r, f1, g1, b1, e1, e2, e3, e4⟩ := whyGo hl hy hk hh (V := nI (y k) + s) (d := s) rfl f g b
    refine ⟨r, f1, g1, b1, ?_, ?_, e4, fun r0 mm nn => ?_⟩
    · unfold f_X5_whyNot
      rw [if_neg (by decide), if_neg (by decide), if_neg (by decide), if_neg (by decide), if_pos rfl, gI (by omega : k < 10) (by decide), cl (by omega), e1]
      rfl
    · unfold f_X8_whyNot
      rw [if_pos rfl, e2]
      rfl
    · obtain ⟨v, hv, ev⟩ := e3 r0
      obtain ⟨g1', g2', g3', g4'⟩ := goP_ok hk hv hy ha (fun i hi => (hz i hi).1)
      obtain ⟨cc, f2, g2, q1, q2, q3, q4⟩ := goAct hl hy ha (fun i hi => (hz i hi).1) hk hv ev f1 g1 b1 mm nn
      refine ⟨(goP l y k v).2, cc, _, _, _, _, _, _, f2, g2, nI (goP l y k v).2, nI (goP l y k v).2, g2', q2, ?_, ?_, Or.inl rfl, ⟨(goP l y k v).1, e, l, h, w, d, rfl, rfl, rfl, rfl, rfl, rfl, g1', he, hl1, hl, hh, hw, hd, fun i hi => ⟨g4' i hi, (hz i hi).2⟩, hlz, g3'⟩⟩
      · unfold f_X5_act
        rw [if_neg (by decide), if_neg (by decide), if_neg (by decide), if_neg (by decide), if_neg (by decide), if_pos rfl, gI (by omega : k < 10) (by decide), cl (by omega), ev, q3]
        rfl
      · unfold f_X8_happen
        rw [if_pos rfl, q4]
        rfl
  · have es : nI (y k) + -s = nI (y k) - s := (Int32.sub_eq_add_neg _ _).symm
    obtain ⟨r, f1, g1, b1, e1, e2, e3, e4⟩ := whyGo hl hy hk hh (V := nI (y k) - s) (d := -s) es f g b
    refine ⟨r, f1, g1, b1, ?_, ?_, e4, fun r0 mm nn => ?_⟩
    · unfold f_X5_whyNot
      rw [if_neg (by decide), if_neg (by decide), if_neg (by decide), if_pos rfl, gI (by omega : k < 10) (by decide), cl (by omega), e1]
      rfl
    · unfold f_X8_whyNot
      rw [if_neg (by decide), if_pos rfl, e2]
      rfl
    · obtain ⟨v, hv, ev⟩ := e3 r0
      obtain ⟨g1', g2', g3', g4'⟩ := goP_ok hk hv hy ha (fun i hi => (hz i hi).1)
      obtain ⟨cc, f2, g2, q1, q2, q3, q4⟩ := goAct hl hy ha (fun i hi => (hz i hi).1) hk hv (es.trans ev) f1 g1 b1 mm nn
      refine ⟨(goP l y k v).2, cc, _, _, _, _, _, _, f2, g2, nI (goP l y k v).2, nI (goP l y k v).2, g2', q2, ?_, ?_, Or.inl rfl, ⟨(goP l y k v).1, e, l, h, w, d, rfl, rfl, rfl, rfl, rfl, rfl, g1', he, hl1, hl, hh, hw, hd, fun i hi => ⟨g4' i hi, (hz i hi).2⟩, hlz, g3'⟩⟩
      · unfold f_X5_act
        rw [if_neg (by decide), if_neg (by decide), if_neg (by decide), if_neg (by decide), if_pos rfl, gI (by omega : k < 10) (by decide), cl (by omega), ev, q3]
        rfl
      · unfold f_X8_happen
        rw [if_neg (by decide), if_pos rfl, q4]
        rfl
theorem a0 (x : Int32) : x + 0 = x := Int32.add_zero x
theorem actRest {y e l : Nat → Nat} {h w d : Nat} (hy : ∀ i, y i ≤ 999) (he : ∀ i, e i ≤ 99) (hl1 : ∀ i, i < 9 → 1 ≤ l i) (hl : ∀ i, l i ≤ 99) (hh : h < 1024) (hw : w ≤ 999) (hd : d ≤ 99) (hz : ∀ i, 10 ≤ i → y i = 0 ∧ e i = 0) (hlz : ∀ i, 9 ≤ i → l i = 0) (ha : ∀ i, i < 9 → y i ≤ y (i + 1) + l i ∧ y (i + 1) ≤ y i + l i) {k : Nat} (hk : k ≤ 9) (n n' : Int32) (f g : Nat → Int32) (b : Int32) :
    (∀ s : Nat, 1 ≤ s → s ≤ 9 → BothAct (fun i => nI (y i)) (fun i => nI (e i)) (fun i => nI (l i)) (nI h) (nI w) (nI d) 33 3 (nI k) (nI s) (nI k) (nI s) f g b) ∧
    BothAct (fun i => nI (y i)) (fun i => nI (e i)) (fun i => nI (l i)) (nI h) (nI w) (nI d) 35 2 (nI k) n (nI k) n' f g b := by
  refine ⟨fun s s1 s9 => ?_, ?_⟩
  · refine ⟨0, f, g, b, rfl, rfl, by decide, fun _ mm nn => ?_⟩
    obtain ⟨e', h1, h2, h3, h4⟩ := sqI hl hy hk (by omega : s ≤ 99) he (fun i hi => (hz i hi).2)
    refine ⟨0, 0, _, _, _, _, _, _, f, g, b, nn, by decide, cnt0, ?_, ?_, Or.inr ⟨rfl, rfl⟩, ⟨y, e', l, h, w, d, rfl, rfl, rfl, rfl, rfl, rfl, hy, h1, hl1, hl, hh, hw, hd, fun i hi => ⟨(hz i hi).1, h2 i hi⟩, hlz, ha⟩⟩
    · unfold f_X5_act
      rw [if_pos rfl, h3]
      rfl
    · unfold f_X8_happen
      rw [if_neg (by decide), if_neg (by decide), if_neg (by decide), if_pos rfl, h4, a0]
      rfl
  · refine ⟨0, f, g, b, rfl, rfl, by decide, fun _ mm nn => ?_⟩
    refine ⟨0, 0, _, _, _, _, _, _, f, g, b, nn, by decide, cnt0, ?_, ?_, Or.inr ⟨rfl, rfl⟩, ⟨y, e, l, h ^^^ 2 ^ k, w, d, rfl, rfl, rfl, rfl, rfl, rfl, hy, he, hl1, hl, (bits_x h hh k (by omega)).2.2, hw, hd, hz, hlz, ha⟩⟩
    · unfold f_X5_act
      rw [if_neg (by decide), if_pos rfl, turnI (by omega)]
      rfl
    · unfold f_X8_happen
      rw [if_neg (by decide), if_neg (by decide), if_pos rfl, shl1 k (by omega), nI_xor, a0]
