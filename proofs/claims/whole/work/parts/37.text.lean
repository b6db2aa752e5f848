/-! the text's acts, read by both -/
def Rel (a x c q w : Int32) : Prop := (a = 0 ∧ q = 0) ∨ (a = 1 ∧ q = 1 ∧ ∃ k : Nat, k ≤ 9 ∧ x = nI k ∧ w = nI k) ∨ (a = 2 ∧ (∃ k : Nat, k ≤ 9 ∧ x = nI k ∧ w = nI k) ∧ ((c = 62 ∧ q = 2) ∨ (c = 60 ∧ q = 3) ∨ (c = 33 ∧ q = 4)))
theorem endIn {P : Nat → Int32} {n j : Nat} (hj : j < n) (hn : n ≤ 60) : ((0 : Int32) ≤ nI j ∧ nI j ≤ nI n - (1 : Int32)) := by
  refine ⟨lit_le (a := 0) (by decide) (by omega) (by omega), ?_⟩
  rw [show nI n - (1 : Int32) = nI (n - 1) from subI (b := 1) (by omega)]
  exact lit_le (by omega) (by omega) (by omega)
theorem ends0 {P : Nat → Int32} {n j : Nat} (hj : j < n) (hn : n ≤ 60) (x c m : Int32) : f_X3_endsAct P (nI n) 0 x c m (nI j) = if P j = (46 : Int32) then (f_X3_awaitedAfter 0 (P j)).bind (fun r => if r = 0 then some ((1 : Int32), r, x, (46 : Int32), m) else some ((0 : Int32), r, x, (46 : Int32), m)) else (f_X3_awaitedAfter 0 (P j)).bind (fun r => if r = 0 then some ((1 : Int32), r, P j - (65 : Int32), c, m) else some ((0 : Int32), r, P j - (65 : Int32), c, m)) := by
  unfold f_X3_endsAct
  rw [isW]
  simp only [Option.bind_some, w1 (endIn (P := P) hj hn)]
  rw [gI (by omega : j < 60) (by decide), if_pos trivial, cl (by omega)]
  simp only [if_neg (show ¬ (0 : Int32) = 1 by decide), if_neg (show ¬ (0 : Int32) = 2 by decide)]
theorem ends1 {P : Nat → Int32} {n j : Nat} (hj : j < n) (hn : n ≤ 60) (x c m : Int32) : f_X3_endsAct P (nI n) 1 x c m (nI j) = (f_X3_awaitedAfter 1 (P j)).bind (fun r => if r = 0 then some ((1 : Int32), r, x, P j, m) else some ((0 : Int32), r, x, P j, m)) := by
  unfold f_X3_endsAct
  rw [isW]
  simp only [Option.bind_some, w1 (endIn (P := P) hj hn)]
  rw [gI (by omega : j < 60) (by decide), if_neg (show ¬ (1 : Int32) = 0 by decide), if_pos trivial, if_neg (show ¬ (1 : Int32) = 2 by decide), cl (by omega)]
theorem ends2 {P : Nat → Int32} {n j : Nat} (hj : j < n) (hn : n ≤ 60) (x c m : Int32) : f_X3_endsAct P (nI n) 2 x c m (nI j) = (f_X3_awaitedAfter 2 (P j)).bind (fun r => if r = 0 then some ((1 : Int32), r, x, c, P j - (48 : Int32)) else some ((0 : Int32), r, x, c, P j - (48 : Int32))) := by
  unfold f_X3_endsAct
  rw [isW]
  simp only [Option.bind_some, w1 (endIn (P := P) hj hn)]
  rw [gI (by omega : j < 60) (by decide), if_neg (show ¬ (2 : Int32) = 0 by decide), if_neg (show ¬ (2 : Int32) = 1 by decide), if_pos trivial, cl (by omega)]
theorem off65 {s : Int32} (c : (65 : Int32) ≤ s ∧ s ≤ (74 : Int32)) : ∃ k : Nat, k ≤ 9 ∧ s - (65 : Int32) = nI k := by
  obtain ⟨v, h1, h2, rfl⟩ := rg (a := 65) (b := 74) (by decide) (by decide) c
  exact ⟨v - 65, by omega, subI (b := 65) (by omega)⟩
theorem off48 {s : Int32} (c : (49 : Int32) ≤ s ∧ s ≤ (57 : Int32)) : ∃ k : Nat, 1 ≤ k ∧ k ≤ 9 ∧ s - (48 : Int32) = nI k := by
  obtain ⟨v, h1, h2, rfl⟩ := rg (a := 49) (b := 57) (by decide) (by decide) c
  exact ⟨v - 48, by omega, by omega, subI (b := 48) (by omega)⟩
/-- the places before t are the same -/
def Bef (t : Nat) (f g : Nat → Int32) : Prop := ∀ i, i < t → f i = g i
theorem Bef.rfl {t : Nat} {f : Nat → Int32} : Bef t f f := fun _ _ => Eq.refl _
theorem Bef.up {t : Nat} {f : Nat → Int32} (x : Int32) : Bef t (upd f t x) f := fun i hi => by rw [upd_at, if_neg (by omega)]
theorem upd_eq (f : Nat → Int32) (t : Nat) (x : Int32) : upd f t x t = x := by rw [upd_at, if_pos rfl]
/-- what one sign does to both -/
def Step (P : Nat → Int32) (n j t : Nat) (a x c m q : Int32) (act who much : Nat → Int32) : Prop :=
  ∃ (q' : Int32) (act' who' much' : Nat → Int32) (t' : Nat), f_X8_readOn act who much (nI t) q (P j) = some (q', act', who', much', nI t') ∧ Bef t act' act ∧ Bef t who' who ∧ Bef t much' much ∧
    (¬ 0 ≤ q' ∨ (0 ≤ q' ∧ t' = t ∧ ∃ a' x' c' m' : Int32, f_X3_endsAct P (nI n) a x c m (nI j) = some (0, a', x', c', m') ∧ Rel a' x' c' q' (who' t)) ∨
      (0 ≤ q' ∧ t' = t + 1 ∧ q' = 0 ∧ ∃ x' c' m' : Int32, f_X3_endsAct P (nI n) a x c m (nI j) = some (1, 0, x', c', m') ∧ SameAct c' (act' t) x' m' (who' t) (much' t)))
theorem stepI {P : Nat → Int32} {n j t : Nat} {a x c m q : Int32} {act who much : Nat → Int32} (hj : j < n) (hn : n ≤ 60) (ht : t < 60) (h : Rel a x c q (who t)) : Step P n j t a x c m q act who much := by
  unfold Step
  rcases h with ⟨rfl, rfl⟩ | ⟨rfl, rfl, k, hk, rfl, hw⟩ | ⟨rfl, ⟨k, hk, rfl, hw⟩, hq⟩
  · rw [ends0 hj hn]
    generalize P j = s
    unfold f_X3_awaitedAfter f_X8_readOn f_X8_begin
    rw [if_pos rfl, if_pos rfl, in_65_74]
    simp only [Option.bind_some]
    rw [gI ht (by decide), gI ht (by decide), closeI ht, cl (by omega), isW]
    simp only [Option.bind_some]
    by_cases b : (65 : Int32) ≤ s ∧ s ≤ (74 : Int32)
    · have e : ¬ s = (46 : Int32) := by
        intro e
        subst e
        exact absurd b (by decide)
      obtain ⟨k, hk, ek⟩ := off65 b
      simp only [w1 b, if_neg e, Option.bind_some, ek]
      refine ⟨1, _, _, _, t, rfl, Bef.rfl, Bef.up _, Bef.up _, Or.inr (Or.inl ⟨by decide, rfl, 1, _, _, _, rfl, Or.inr (Or.inl ⟨rfl, rfl, k, hk, rfl, ?_⟩)⟩)⟩
      rw [upd_eq]
    · by_cases e : s = (46 : Int32)
      · simp only [w0 b, if_pos e, Option.bind_some]
        refine ⟨0, _, _, _, t + 1, rfl, Bef.up _, Bef.up _, Bef.up _, Or.inr (Or.inr ⟨by decide, rfl, rfl, _, _, _, rfl, Or.inr (Or.inr ⟨rfl, ?_⟩)⟩)⟩
        rw [upd_eq]
      · simp only [w0 b, if_neg e, Option.bind_some]
        exact ⟨-6, _, _, _, t, rfl, Bef.rfl, Bef.up _, Bef.up _, Or.inl (by decide)⟩
  · rw [ends1 hj hn]
    generalize P j = s
    unfold f_X3_awaitedAfter f_X8_readOn f_X8_deed
    rw [if_neg (show ¬ (1 : Int32) = 0 by decide), if_neg (show ¬ (1 : Int32) = 2 by decide), if_neg (show ¬ (1 : Int32) = 0 by decide), if_pos (show (1 : Int32) = 1 from rfl), closeI ht, closeI ht, closeI ht]
    simp only [Option.bind_some]
    by_cases c62 : s = (62 : Int32)
    · subst c62
      exact ⟨2, _, _, _, t, rfl, Bef.rfl, Bef.rfl, Bef.rfl, Or.inr (Or.inl ⟨by decide, rfl, 2, _, _, _, rfl, Or.inr (Or.inr ⟨rfl, ⟨k, hk, rfl, hw⟩, Or.inl ⟨rfl, rfl⟩⟩)⟩)⟩
    by_cases c60 : s = (60 : Int32)
    · subst c60
      exact ⟨3, _, _, _, t, rfl, Bef.rfl, Bef.rfl, Bef.rfl, Or.inr (Or.inl ⟨by decide, rfl, 2, _, _, _, rfl, Or.inr (Or.inr ⟨rfl, ⟨k, hk, rfl, hw⟩, Or.inr (Or.inl ⟨rfl, rfl⟩)⟩)⟩)⟩
    by_cases c33 : s = (33 : Int32)
    · subst c33
      exact ⟨4, _, _, _, t, rfl, Bef.rfl, Bef.rfl, Bef.rfl, Or.inr (Or.inl ⟨by decide, rfl, 2, _, _, _, rfl, Or.inr (Or.inr ⟨rfl, ⟨k, hk, rfl, hw⟩, Or.inr (Or.inr ⟨rfl, rfl⟩)⟩)⟩)⟩
    by_cases c35 : s = (35 : Int32)
    · subst c35
      exact ⟨0, _, _, _, t + 1, rfl, Bef.up _, Bef.rfl, Bef.rfl, Or.inr (Or.inr ⟨by decide, rfl, rfl, _, _, _, rfl, Or.inr (Or.inl ⟨k, hk, rfl, hw, Or.inl ⟨rfl, upd_eq _ _ _⟩⟩)⟩)⟩
    by_cases c43 : s = (43 : Int32)
    · subst c43
      exact ⟨0, _, _, _, t + 1, rfl, Bef.up _, Bef.rfl, Bef.rfl, Or.inr (Or.inr ⟨by decide, rfl, rfl, _, _, _, rfl, Or.inr (Or.inl ⟨k, hk, rfl, hw, Or.inr (Or.inl ⟨rfl, upd_eq _ _ _⟩)⟩)⟩)⟩
    by_cases c45 : s = (45 : Int32)
    · subst c45
      exact ⟨0, _, _, _, t + 1, rfl, Bef.up _, Bef.rfl, Bef.rfl, Or.inr (Or.inr ⟨by decide, rfl, rfl, _, _, _, rfl, Or.inr (Or.inl ⟨k, hk, rfl, hw, Or.inr (Or.inr ⟨rfl, upd_eq _ _ _⟩)⟩)⟩)⟩
    simp only [if_neg c62, if_neg c60, if_neg c33, if_neg c35, if_neg c43, if_neg c45, Option.bind_some]
    exact ⟨-6, _, _, _, t, rfl, Bef.rfl, Bef.rfl, Bef.rfl, Or.inl (by decide)⟩
  · have q0 : ¬ q = 0 := by rcases hq with ⟨_, rfl⟩ | ⟨_, rfl⟩ | ⟨_, rfl⟩ <;> decide
    have q1 : ¬ q = (1 : Int32) := by rcases hq with ⟨_, rfl⟩ | ⟨_, rfl⟩ | ⟨_, rfl⟩ <;> decide
    rw [ends2 hj hn]
    generalize P j = s
    unfold f_X3_awaitedAfter f_X8_readOn f_X8_digit
    rw [if_neg (show ¬ (2 : Int32) = 0 by decide), if_pos (show (2 : Int32) = 2 from rfl), if_neg q0, if_neg q1, gI ht (by decide), in_49_57, isW, closeI ht, closeI ht, closeI ht, cl (by omega)]
    simp only [Option.bind_some]
    by_cases b : (49 : Int32) ≤ s ∧ s ≤ (57 : Int32)
    · obtain ⟨v, v1, v9, ev⟩ := off48 b
      simp only [w1 b, ev]
      rcases hq with ⟨rfl, rfl⟩ | ⟨rfl, rfl⟩ | ⟨rfl, rfl⟩
      · exact ⟨0, _, _, _, t + 1, rfl, Bef.up _, Bef.rfl, Bef.up _, Or.inr (Or.inr ⟨by decide, rfl, rfl, _, _, _, rfl, Or.inl ⟨k, v, hk, v1, v9, rfl, rfl, hw, upd_eq _ _ _, Or.inl ⟨rfl, upd_eq _ _ _⟩⟩⟩)⟩
      · exact ⟨0, _, _, _, t + 1, rfl, Bef.up _, Bef.rfl, Bef.up _, Or.inr (Or.inr ⟨by decide, rfl, rfl, _, _, _, rfl, Or.inl ⟨k, v, hk, v1, v9, rfl, rfl, hw, upd_eq _ _ _, Or.inr (Or.inl ⟨rfl, upd_eq _ _ _⟩)⟩⟩)⟩
      · exact ⟨0, _, _, _, t + 1, rfl, Bef.up _, Bef.rfl, Bef.up _, Or.inr (Or.inr ⟨by decide, rfl, rfl, _, _, _, rfl, Or.inl ⟨k, v, hk, v1, v9, rfl, rfl, hw, upd_eq _ _ _, Or.inr (Or.inr ⟨rfl, upd_eq _ _ _⟩)⟩⟩)⟩
    · simp only [w0 b, Option.bind_some]
      exact ⟨-6, _, _, _, t, rfl, Bef.rfl, Bef.rfl, Bef.up _, Or.inl (by decide)⟩
