/-! the pad read, sign by sign -/
def St (a q : Int32) : Prop := (a = 0 ∧ q = 0) ∨ (a = 1 ∧ q = 1) ∨ (a = 2 ∧ (q = 2 ∨ q = 3 ∨ q = 4))
theorem closeI {act : Nat → Int32} {t : Nat} (ht : t < 60) (c : Int32) : f_X8_close act (nI t) c = some (0, upd act t c, nI (t + 1)) := by
  unfold f_X8_close
  rw [gI ht (by decide), cl (by omega), p1]
theorem rdI {a q : Int32} (h : St a q) {t : Nat} (ht : t < 60) (act who much : Nat → Int32) (s : Int32) : ∃ (a' q' : Int32) (act' who' much' : Nat → Int32) (t' : Nat), f_X3_awaitedAfter a s = some a' ∧ f_X8_readOn act who much (nI t) q s = some (q', act', who', much', nI t') ∧ t' ≤ t + 1 ∧ ((a' = 3 ∧ ¬ 0 ≤ q') ∨ (¬ a' = 3 ∧ 0 ≤ q' ∧ St a' q')) := by
  rcases h with ⟨rfl, rfl⟩ | ⟨rfl, rfl⟩ | ⟨rfl, hq⟩
  · unfold f_X3_awaitedAfter f_X8_readOn f_X8_begin
    rw [if_pos rfl, if_pos rfl, in_65_74]
    simp only [Option.bind_some]
    rw [gI ht (by decide), gI ht (by decide), closeI ht, cl (by omega), isW]
    simp only [Option.bind_some]
    by_cases c : (65 : Int32) ≤ s ∧ s ≤ (74 : Int32)
    · have e : ¬ s = (46 : Int32) := by
        intro e
        subst e
        exact absurd c (by decide)
      simp only [w1 c, if_neg e, Option.bind_some]
      exact ⟨_, _, _, _, _, t, rfl, rfl, by omega, Or.inr ⟨by decide, by decide, Or.inr (Or.inl ⟨rfl, rfl⟩)⟩⟩
    · by_cases e : s = (46 : Int32)
      · simp only [w0 c, if_pos e, Option.bind_some]
        exact ⟨_, _, _, _, _, t + 1, rfl, rfl, by omega, Or.inr ⟨by decide, by decide, Or.inl ⟨rfl, rfl⟩⟩⟩
      · simp only [w0 c, if_neg e, Option.bind_some]
        exact ⟨_, _, _, _, _, t, rfl, rfl, by omega, Or.inl ⟨rfl, by decide⟩⟩
  · unfold f_X3_awaitedAfter f_X8_readOn f_X8_deed
    rw [if_neg (show ¬ (1 : Int32) = 0 by decide), if_neg (show ¬ (1 : Int32) = 2 by decide), if_neg (show ¬ (1 : Int32) = 0 by decide), if_pos (show (1 : Int32) = 1 from rfl), closeI ht, closeI ht, closeI ht]
    simp only [Option.bind_some]
    by_cases c62 : s = (62 : Int32)
    · subst c62
      exact ⟨_, 2, _, _, _, t, rfl, rfl, by omega, Or.inr ⟨by decide, by decide, Or.inr (Or.inr ⟨rfl, Or.inl rfl⟩)⟩⟩
    by_cases c60 : s = (60 : Int32)
    · subst c60
      exact ⟨_, 3, _, _, _, t, rfl, rfl, by omega, Or.inr ⟨by decide, by decide, Or.inr (Or.inr ⟨rfl, Or.inr (Or.inl rfl)⟩)⟩⟩
    by_cases c33 : s = (33 : Int32)
    · subst c33
      exact ⟨_, 4, _, _, _, t, rfl, rfl, by omega, Or.inr ⟨by decide, by decide, Or.inr (Or.inr ⟨rfl, Or.inr (Or.inr rfl)⟩)⟩⟩
    by_cases c35 : s = (35 : Int32)
    · subst c35
      exact ⟨_, 0, _, _, _, t + 1, rfl, rfl, by omega, Or.inr ⟨by decide, by decide, Or.inl ⟨rfl, rfl⟩⟩⟩
    by_cases c43 : s = (43 : Int32)
    · subst c43
      exact ⟨_, 0, _, _, _, t + 1, rfl, rfl, by omega, Or.inr ⟨by decide, by decide, Or.inl ⟨rfl, rfl⟩⟩⟩
    by_cases c45 : s = (45 : Int32)
    · subst c45
      exact ⟨_, 0, _, _, _, t + 1, rfl, rfl, by omega, Or.inr ⟨by decide, by decide, Or.inl ⟨rfl, rfl⟩⟩⟩
    simp only [if_neg c62, if_neg c60, if_neg c33, if_neg c35, if_neg c43, if_neg c45, Option.bind_some]
    exact ⟨_, _, _, _, _, t, rfl, rfl, by omega, Or.inl ⟨rfl, by decide⟩⟩
  · have q0 : ¬ q = 0 := by rcases hq with rfl | rfl | rfl <;> decide
    have q1 : ¬ q = (1 : Int32) := by rcases hq with rfl | rfl | rfl <;> decide
    unfold f_X3_awaitedAfter f_X8_readOn f_X8_digit
    rw [if_neg (show ¬ (2 : Int32) = 0 by decide), if_pos (show (2 : Int32) = 2 from rfl), if_neg q0, if_neg q1, gI ht (by decide), in_49_57, isW, closeI ht, closeI ht, closeI ht, cl (by omega)]
    simp only [Option.bind_some]
    by_cases c : (49 : Int32) ≤ s ∧ s ≤ (57 : Int32)
    · simp only [w1 c]
      by_cases k2 : q = (2 : Int32)
      · simp only [if_pos k2, Option.bind_some]
        exact ⟨_, _, _, _, _, t + 1, rfl, rfl, by omega, Or.inr ⟨by decide, by decide, Or.inl ⟨rfl, rfl⟩⟩⟩
      by_cases k3 : q = (3 : Int32)
      · simp only [if_neg k2, if_pos k3, Option.bind_some]
        exact ⟨_, _, _, _, _, t + 1, rfl, rfl, by omega, Or.inr ⟨by decide, by decide, Or.inl ⟨rfl, rfl⟩⟩⟩
      simp only [if_neg k2, if_neg k3, Option.bind_some]
      exact ⟨_, _, _, _, _, t + 1, rfl, rfl, by omega, Or.inr ⟨by decide, by decide, Or.inl ⟨rfl, rfl⟩⟩⟩
    · simp only [w0 c, Option.bind_some]
      exact ⟨_, _, _, _, _, t, rfl, rfl, by omega, Or.inl ⟨rfl, by decide⟩⟩
theorem faultLoop {P : Nat → Int32} {n : Nat} (hn : n ≤ 60) : ∀ (m j t f7 f8 : Nat) (a q : Int32) (act who much : Nat → Int32), j + m = n → t ≤ j → St a q → m < f7 → m < f8 → ∃ (res : Int32) (act' who' much' : Nat → Int32) (acts' : Int32), f_X3_faultPlace_4 P (nI n) (fun u1_5 => if u1_5 = 0 then some ((-6 : Int32)) else some (nI n)) f7 a (nI j) = some res ∧
    f_X8_fault_9 P (nI n) (fun u1_5 act_6 who_7 much_8 acts_9 => if u1_5 = 0 then some ((-6 : Int32), act_6, who_7, much_8, acts_9) else some (nI n, act_6, who_7, much_8, acts_9)) f8 q (nI j) act who much (nI t) = some (res, act', who', much', acts')
  | _, _, _, 0, _, a, q, act, who, much, h, ht, hS, h7, h8 => absurd h7 (by omega)
  | _, _, _, _ + 1, 0, a, q, act, who, much, h, ht, hS, h7, h8 => absurd h8 (by omega)
  | 0, j, t, n7 + 1, n8 + 1, a, q, act, who, much, h, ht, hS, h7, h8 => by
    rw [f_X3_faultPlace_4, f_X8_fault_9, if_pos (lit_le (by omega) (by omega) (by omega)), if_pos (lit_le (by omega) (by omega) (by omega))]
    rcases hS with ⟨rfl, rfl⟩ | ⟨rfl, rfl⟩ | ⟨rfl, hq⟩
    · exact ⟨_, _, _, _, _, rfl, rfl⟩
    · exact ⟨_, _, _, _, _, rfl, rfl⟩
    · have q0 : ¬ q = 0 := by rcases hq with rfl | rfl | rfl <;> decide
      simp only [if_neg q0]
      exact ⟨_, _, _, _, _, rfl, rfl⟩
  | m + 1, j, t, n7 + 1, n8 + 1, a, q, act, who, much, h, ht, hS, h7, h8 => by
    rw [f_X3_faultPlace_4, f_X8_fault_9, if_neg (lit_nle (by omega) (by omega) (by omega)), if_neg (lit_nle (by omega) (by omega) (by omega)), gI (by omega : j < 60) (by decide), gI (by omega : j < 60) (by decide), cl (by omega)]
    obtain ⟨a', q', act', who', much', t', e1, e2, e3, e4⟩ := rdI hS (t := t) (by omega) act who much (P j)
    rw [e1, e2]
    simp only [Option.bind_some]
    rcases e4 with ⟨r1, r2⟩ | ⟨r1, r2, r3⟩
    · rw [if_pos r1, if_neg r2]
      exact ⟨_, _, _, _, _, rfl, rfl⟩
    · rw [if_neg r1, if_pos r2, p1]
      exact faultLoop hn m (j + 1) t' n7 n8 a' q' act' who' much' (by omega) (by omega) r3 (by omega) (by omega)
theorem sim_fault {Y F L P W M tY tF tL iY0 iF0 iL0 iW0 iM0 iY1 iF1 iL1 iW1 iM1 kept isKept : Nat → Int32} {hd wl dy pn sn ih0 iw0 id0 in0 ik0 ih1 iw1 id1 in1 ik1 : Int32} (hI : Inv Y F L P W M tY tF tL iY0 iF0 iL0 iW0 iM0 iY1 iF1 iL1 iW1 iM1 kept isKept hd wl dy pn sn ih0 iw0 id0 in0 ik0 ih1 iw1 id1 in1 ik1) (b_act : Nat → Int32) (b_who : Nat → Int32) (b_much : Nat → Int32) (b_acts : Int32) : ∃ (res : Int32) (b_act' : Nat → Int32) (b_who' : Nat → Int32) (b_much' : Nat → Int32) (b_acts' : Int32), f_X7_fault P pn = some res ∧ f_X8_fault P pn b_act b_who b_much b_acts = some (res, b_act', b_who', b_much', b_acts') ∧ Inv Y F L P W M tY tF tL iY0 iF0 iL0 iW0 iM0 iY1 iF1 iL1 iW1 iM1 kept isKept hd wl dy pn sn ih0 iw0 id0 in0 ik0 ih1 iw1 id1 in1 ik1 := by
  have hI' := hI
  obtain ⟨hR, hZ, ⟨n, rfl, hn⟩, hS, hI0, hI1⟩ := hI
  obtain ⟨res, act', who', much', acts', e1, e2⟩ := faultLoop (P := P) hn n 0 0 2000 2000 0 0 b_act b_who b_much (by omega) (by omega) (Or.inl ⟨rfl, rfl⟩) (by omega) (by omega)
  refine ⟨res, act', who', much', acts', ?_, e2, hI'⟩
  unfold f_X7_fault f_X3_faultPlace
  rw [show (0 : Int32) = nI 0 from rfl] at e1 ⊢
  rw [e1]
  rfl
