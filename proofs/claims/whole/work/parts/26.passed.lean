/-! a thing passed: all that can be asked, tried -/
theorem passed_all : ∀ n, n < 17 → ∀ t, t < 11 → ∀ w, w < 2 → ∀ p, p < 2 → (f_X7_passed (nI n) (nI t) (nI w) (nI p) = f_X8_passed (nI n) (nI t) (nI w) (nI p) ∧ (f_X7_passed (nI n) (nI t) (nI w) (nI p)).isSome = true) := by decide +kernel
theorem sim_passed {Y F L P W M tY tF tL iY0 iF0 iL0 iW0 iM0 iY1 iF1 iL1 iW1 iM1 kept isKept : Nat → Int32} {hd wl dy pn sn ih0 iw0 id0 in0 ik0 ih1 iw1 id1 in1 ik1 : Int32} (hI : Inv Y F L P W M tY tF tL iY0 iF0 iL0 iW0 iM0 iY1 iF1 iL1 iW1 iM1 kept isKept hd wl dy pn sn ih0 iw0 id0 in0 ik0 ih1 iw1 id1 in1 ik1) (u1 : Int32) (u2 : Int32) (u3 : Int32) (u4 : Int32) : ∃ (res : Int64), f_X7_passed u1 u2 u3 u4 = some res ∧ f_X8_passed u1 u2 u3 u4 = some res ∧ Inv Y F L P W M tY tF tL iY0 iF0 iL0 iW0 iM0 iY1 iF1 iL1 iW1 iM1 kept isKept hd wl dy pn sn ih0 iw0 id0 in0 ik0 ih1 iw1 id1 in1 ik1 := by
  by_cases c1 : (0 : Int32) ≤ u1 ∧ u1 ≤ 16
  · by_cases c2 : (0 : Int32) ≤ u2 ∧ u2 ≤ 10
    · by_cases c3 : (0 : Int32) ≤ u3 ∧ u3 ≤ 1
      · by_cases c4 : (0 : Int32) ≤ u4 ∧ u4 ≤ 1
        · obtain ⟨n, -, hn, rfl⟩ := rg (a := 0) (b := 16) (by decide) (by decide) c1
          obtain ⟨t, -, ht, rfl⟩ := rg (a := 0) (b := 10) (by decide) (by decide) c2
          obtain ⟨w, -, hw, rfl⟩ := rg (a := 0) (b := 1) (by decide) (by decide) c3
          obtain ⟨p, -, hp, rfl⟩ := rg (a := 0) (b := 1) (by decide) (by decide) c4
          obtain ⟨e, i⟩ := passed_all n (by omega) t (by omega) w (by omega) p (by omega)
          obtain ⟨r, hr⟩ := Option.isSome_iff_exists.mp i
          exact ⟨r, hr, by rw [← e]; exact hr, hI⟩
        · unfold f_X7_passed f_X8_passed
          simp only [isW, in_0_16, in_0_10, in_0_1, Option.bind_some, w1 c1, w1 c2, w1 c3, w0 c4]
          exact ⟨_, rfl, rfl, hI⟩
      · unfold f_X7_passed f_X8_passed
        simp only [isW, in_0_16, in_0_10, in_0_1, Option.bind_some, w1 c1, w1 c2, w0 c3]
        exact ⟨_, rfl, rfl, hI⟩
    · unfold f_X7_passed f_X8_passed
      simp only [isW, in_0_16, in_0_10, in_0_1, Option.bind_some, w1 c1, w0 c2]
      exact ⟨_, rfl, rfl, hI⟩
  · unfold f_X7_passed f_X8_passed
    simp only [isW, in_0_16, in_0_10, in_0_1, Option.bind_some, w0 c1]
    exact ⟨_, rfl, rfl, hI⟩
