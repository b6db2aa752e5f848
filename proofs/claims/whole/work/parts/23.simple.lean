/-! the calls that only read or set -/
theorem RowOK.wool {Y F L : Nat → Int32} {hd wl dy : Int32} (h : RowOK Y F L hd wl dy) {v : Nat} (hv : v ≤ 999) : RowOK Y F L hd (nI v) dy := by
  obtain ⟨y, f, l, h, w, d, e1, e2, e3, e4, e5, e6, b1, b2, b3, b4, b5, b6, b7, b8, b9, b10⟩ := h
  exact ⟨y, f, l, h, v, d, e1, e2, e3, e4, rfl, e6, b1, b2, b3, b4, b5, hv, b7, b8, b9, b10⟩
theorem updI (w : Nat → Nat) (n k : Nat) : upd (fun i => nI (w i)) n (nI k) = fun i => nI (va_up w n k i) := by
  funext i
  rw [upd_at]
  show _ = nI (if i = n then k else w i)
  by_cases e : i = n
  · rw [if_pos e, if_pos e]
  · rw [if_neg e, if_neg e]
theorem gJ {α : Type} {j n : Nat} (h : j < n) (hn : n < 2 ^ 31) {K : Option α} : (if nI j < 0 ∨ n ≤ j then none else K) = K := by
  have q := gI (K := K) h hn
  rw [cl (by omega)] at q
  exact q
theorem upN_at (w : Nat → Nat) (n k i : Nat) : va_up w n k i = if i = n then k else w i := rfl
theorem sim_ball {Y F L P W M tY tF tL iY0 iF0 iL0 iW0 iM0 iY1 iF1 iL1 iW1 iM1 kept isKept : Nat → Int32} {hd wl dy pn sn ih0 iw0 id0 in0 ik0 ih1 iw1 id1 in1 ik1 : Int32} (hI : Inv Y F L P W M tY tF tL iY0 iF0 iL0 iW0 iM0 iY1 iF1 iL1 iW1 iM1 kept isKept hd wl dy pn sn ih0 iw0 id0 in0 ik0 ih1 iw1 id1 in1 ik1) (u1 : Int32) : ∃ (res : Int32) (wl' : Int32), f_X7_ball wl u1 = some (res, wl') ∧ f_X8_ball wl u1 = some (res, wl') ∧ Inv Y F L P W M tY tF tL iY0 iF0 iL0 iW0 iM0 iY1 iF1 iL1 iW1 iM1 kept isKept hd wl' dy pn sn ih0 iw0 id0 in0 ik0 ih1 iw1 id1 in1 ik1 := by
  unfold f_X7_ball f_X8_ball
  simp only [isW, in_0_999, Option.bind_some]
  by_cases c : (0 : Int32) ≤ u1 ∧ u1 ≤ 999
  · simp only [w1 c]
    obtain ⟨v, -, hv, rfl⟩ := rg (a := 0) (b := 999) (by decide) (by decide) c
    exact ⟨wl, nI v, rfl, rfl, hI.1.wool hv, hI.2⟩
  · simp only [w0 c]
    exact ⟨-2, wl, rfl, rfl, hI⟩
theorem sim_wipe {Y F L P W M tY tF tL iY0 iF0 iL0 iW0 iM0 iY1 iF1 iL1 iW1 iM1 kept isKept : Nat → Int32} {hd wl dy pn sn ih0 iw0 id0 in0 ik0 ih1 iw1 id1 in1 ik1 : Int32} (hI : Inv Y F L P W M tY tF tL iY0 iF0 iL0 iW0 iM0 iY1 iF1 iL1 iW1 iM1 kept isKept hd wl dy pn sn ih0 iw0 id0 in0 ik0 ih1 iw1 id1 in1 ik1) : ∃ (res : Int32) (pn' : Int32), f_X7_wipe pn = some (res, pn') ∧ f_X8_wipe pn = some (res, pn') ∧ Inv Y F L P W M tY tF tL iY0 iF0 iL0 iW0 iM0 iY1 iF1 iL1 iW1 iM1 kept isKept hd wl dy pn' sn ih0 iw0 id0 in0 ik0 ih1 iw1 id1 in1 ik1 := by
  exact ⟨pn, 0, rfl, rfl, hI.1, hI.2.1, ⟨0, rfl, by decide⟩, hI.2.2.2⟩
theorem sim_forget {Y F L P W M tY tF tL iY0 iF0 iL0 iW0 iM0 iY1 iF1 iL1 iW1 iM1 kept isKept : Nat → Int32} {hd wl dy pn sn ih0 iw0 id0 in0 ik0 ih1 iw1 id1 in1 ik1 : Int32} (hI : Inv Y F L P W M tY tF tL iY0 iF0 iL0 iW0 iM0 iY1 iF1 iL1 iW1 iM1 kept isKept hd wl dy pn sn ih0 iw0 id0 in0 ik0 ih1 iw1 id1 in1 ik1) : ∃ (res : Int32) (sn' : Int32), f_X7_forget sn = some (res, sn') ∧ f_X8_forget sn = some (res, sn') ∧ Inv Y F L P W M tY tF tL iY0 iF0 iL0 iW0 iM0 iY1 iF1 iL1 iW1 iM1 kept isKept hd wl dy pn sn' ih0 iw0 id0 in0 ik0 ih1 iw1 id1 in1 ik1 := by
  obtain ⟨h1, h2, h3, ⟨w, m, n, e1, e2, e3, b1, b2, b3⟩, h5⟩ := hI
  exact ⟨sn, 0, rfl, rfl, h1, h2, h3, ⟨w, m, 0, e1, e2, rfl, by decide, b2, b3⟩, h5⟩
theorem sim_say {Y F L P W M tY tF tL iY0 iF0 iL0 iW0 iM0 iY1 iF1 iL1 iW1 iM1 kept isKept : Nat → Int32} {hd wl dy pn sn ih0 iw0 id0 in0 ik0 ih1 iw1 id1 in1 ik1 : Int32} (hI : Inv Y F L P W M tY tF tL iY0 iF0 iL0 iW0 iM0 iY1 iF1 iL1 iW1 iM1 kept isKept hd wl dy pn sn ih0 iw0 id0 in0 ik0 ih1 iw1 id1 in1 ik1) (u1 : Int32) : ∃ (res : Int32) (P' : Nat → Int32) (pn' : Int32), f_X7_say P pn u1 = some (res, P', pn') ∧ f_X8_say P pn u1 = some (res, P', pn') ∧ Inv Y F L P' W M tY tF tL iY0 iF0 iL0 iW0 iM0 iY1 iF1 iL1 iW1 iM1 kept isKept hd wl dy pn' sn ih0 iw0 id0 in0 ik0 ih1 iw1 id1 in1 ik1 := by
  obtain ⟨h1, h2, ⟨n, rfl, hn⟩, h5⟩ := id hI
  unfold f_X7_say f_X8_say f_X3_add
  simp only [isW, in_33_126, Option.bind_some]
  by_cases c : (33 : Int32) ≤ u1 ∧ u1 ≤ 126
  · simp only [w1 c]
    by_cases e : n = 60
    · subst e
      exact ⟨-4, P, nI 60, rfl, rfl, hI⟩
    · have q1 : nI n < (60 : Int32) := lit_lt (b := 60) (by omega) (by decide) (by omega)
      have q2 : ¬ nI n = (60 : Int32) := lit_ne (b := 60) (by omega) (by decide) e
      simp only [if_pos q1, if_neg q2, gJ (show n < 60 by omega) (by decide), cl (show n < 2 ^ 31 by omega), Option.bind_some, p1]
      exact ⟨nI (n + 1), upd P n u1, nI (n + 1), rfl, rfl, h1, h2, ⟨n + 1, rfl, by omega⟩, h5⟩
  · simp only [w0 c]
    exact ⟨-2, P, nI n, rfl, rfl, hI⟩
theorem sim_felt {Y F L P W M tY tF tL iY0 iF0 iL0 iW0 iM0 iY1 iF1 iL1 iW1 iM1 kept isKept : Nat → Int32} {hd wl dy pn sn ih0 iw0 id0 in0 ik0 ih1 iw1 id1 in1 ik1 : Int32} (hI : Inv Y F L P W M tY tF tL iY0 iF0 iL0 iW0 iM0 iY1 iF1 iL1 iW1 iM1 kept isKept hd wl dy pn sn ih0 iw0 id0 in0 ik0 ih1 iw1 id1 in1 ik1) (u1 : Int32) (u2 : Int32) : ∃ (res : Int32) (W' : Nat → Int32) (M' : Nat → Int32) (sn' : Int32), f_X7_felt W M sn u1 u2 = some (res, W', M', sn') ∧ f_X8_felt W M sn u1 u2 = some (res, W', M', sn') ∧ Inv Y F L P W' M' tY tF tL iY0 iF0 iL0 iW0 iM0 iY1 iF1 iL1 iW1 iM1 kept isKept hd wl dy pn sn' ih0 iw0 id0 in0 ik0 ih1 iw1 id1 in1 ik1 := by
  obtain ⟨h1, h2, h3, ⟨w, m, n, rfl, rfl, rfl, b1, b2, b3⟩, h5⟩ := id hI
  unfold f_X7_felt f_X8_felt f_X6_add
  simp only [isW, isC, in_0_9, Option.bind_some]
  by_cases c : (0 : Int32) ≤ u1 ∧ u1 ≤ 9
  · simp only [w1 c]
    by_cases c2 : (0 : Int32) ≤ u2 ∧ u2 ≤ 9
    · simp only [w1 c2]
      by_cases e : n = 8
      · subst e
        exact ⟨-4, _, _, nI 8, rfl, rfl, hI⟩
      · have q1 : nI n < (8 : Int32) := lit_lt (b := 8) (by omega) (by decide) (by omega)
        have q2 : ¬ nI n = (8 : Int32) := lit_ne (b := 8) (by omega) (by decide) e
        obtain ⟨k, -, hk, rfl⟩ := rg (a := 0) (b := 9) (by decide) (by decide) c
        obtain ⟨v, -, hv, rfl⟩ := rg (a := 0) (b := 9) (by decide) (by decide) c2
        simp only [if_pos q1, if_neg q2, gJ (show n < 8 by omega) (by decide), cl (show n < 2 ^ 31 by omega), Option.bind_some, p1]
        refine ⟨nI (n + 1), _, _, nI (n + 1), rfl, rfl, h1, h2, h3, ⟨va_up w n k, va_up m n v, n + 1, updI w n k, updI m n v, rfl, by omega, fun i => ?_, fun i => ?_⟩, h5⟩
        · rw [upN_at]
          have := b2 i
          by_cases q : i = n
          · rw [if_pos q]; exact hk
          · rw [if_neg q]; exact this
        · rw [upN_at]
          have := b3 i
          by_cases q : i = n
          · rw [if_pos q]; exact hv
          · rw [if_neg q]; exact this
    · simp only [w0 c2]
      exact ⟨-2, _, _, _, rfl, rfl, hI⟩
  · simp only [w0 c]
    exact ⟨-1, _, _, _, rfl, rfl, hI⟩
theorem sim_told {Y F L P W M tY tF tL iY0 iF0 iL0 iW0 iM0 iY1 iF1 iL1 iW1 iM1 kept isKept : Nat → Int32} {hd wl dy pn sn ih0 iw0 id0 in0 ik0 ih1 iw1 id1 in1 ik1 : Int32} (hI : Inv Y F L P W M tY tF tL iY0 iF0 iL0 iW0 iM0 iY1 iF1 iL1 iW1 iM1 kept isKept hd wl dy pn sn ih0 iw0 id0 in0 ik0 ih1 iw1 id1 in1 ik1) (u1 : Int32) : ∃ (res : Int32), f_X7_told Y F L hd wl dy pn sn u1 = some res ∧ f_X8_told Y F L hd wl dy sn pn u1 = some res ∧ Inv Y F L P W M tY tF tL iY0 iF0 iL0 iW0 iM0 iY1 iF1 iL1 iW1 iM1 kept isKept hd wl dy pn sn ih0 iw0 id0 in0 ik0 ih1 iw1 id1 in1 ik1 := by
  unfold f_X7_told f_X8_told f_X7_toldOfOne
  simp only [isW, in_10_19, in_20_29, in_30_38, Option.bind_some]
  by_cases c1 : (10 : Int32) ≤ u1 ∧ u1 ≤ 19
  · obtain ⟨k, hk1, hk2, rfl⟩ := rg (a := 10) (b := 19) (by decide) (by decide) c1
    simp only [w1 c1]
    have q0 : ¬ nI k = (0 : Int32) := lit_ne (b := 0) (by omega) (by decide) (by omega)
    have q1 : ¬ nI k = (1 : Int32) := lit_ne (b := 1) (by omega) (by decide) (by omega)
    have q2 : ¬ nI k = (2 : Int32) := lit_ne (b := 2) (by omega) (by decide) (by omega)
    have q3 : ¬ nI k = (3 : Int32) := lit_ne (b := 3) (by omega) (by decide) (by omega)
    have q4 : ¬ nI k = (4 : Int32) := lit_ne (b := 4) (by omega) (by decide) (by omega)
    simp only [if_neg q0, if_neg q1, if_neg q2, if_neg q3, if_neg q4]
    rw [show nI k - (10 : Int32) = nI (k - 10) from subI (b := 10) hk1, gI (show k - 10 < 10 by omega) (by decide)]
    exact ⟨_, rfl, rfl, hI⟩
  · by_cases c2 : (20 : Int32) ≤ u1 ∧ u1 ≤ 29
    · obtain ⟨k, hk1, hk2, rfl⟩ := rg (a := 20) (b := 29) (by decide) (by decide) c2
      simp only [w0 c1, w1 c2]
      have q0 : ¬ nI k = (0 : Int32) := lit_ne (b := 0) (by omega) (by decide) (by omega)
      have q1 : ¬ nI k = (1 : Int32) := lit_ne (b := 1) (by omega) (by decide) (by omega)
      have q2 : ¬ nI k = (2 : Int32) := lit_ne (b := 2) (by omega) (by decide) (by omega)
      have q3 : ¬ nI k = (3 : Int32) := lit_ne (b := 3) (by omega) (by decide) (by omega)
      have q4 : ¬ nI k = (4 : Int32) := lit_ne (b := 4) (by omega) (by decide) (by omega)
      simp only [if_neg q0, if_neg q1, if_neg q2, if_neg q3, if_neg q4]
      rw [show nI k - (20 : Int32) = nI (k - 20) from subI (b := 20) hk1, gI (show k - 20 < 10 by omega) (by decide)]
      exact ⟨_, rfl, rfl, hI⟩
    · by_cases c3 : (30 : Int32) ≤ u1 ∧ u1 ≤ 38
      · obtain ⟨k, hk1, hk2, rfl⟩ := rg (a := 30) (b := 38) (by decide) (by decide) c3
        simp only [w0 c1, w0 c2, w1 c3]
        have q0 : ¬ nI k = (0 : Int32) := lit_ne (b := 0) (by omega) (by decide) (by omega)
        have q1 : ¬ nI k = (1 : Int32) := lit_ne (b := 1) (by omega) (by decide) (by omega)
        have q2 : ¬ nI k = (2 : Int32) := lit_ne (b := 2) (by omega) (by decide) (by omega)
        have q3 : ¬ nI k = (3 : Int32) := lit_ne (b := 3) (by omega) (by decide) (by omega)
        have q4 : ¬ nI k = (4 : Int32) := lit_ne (b := 4) (by omega) (by decide) (by omega)
        simp only [if_neg q0, if_neg q1, if_neg q2, if_neg q3, if_neg q4]
        rw [show nI k - (30 : Int32) = nI (k - 30) from subI (b := 30) hk1, gI (show k - 30 < 9 by omega) (by decide)]
        exact ⟨_, rfl, rfl, hI⟩
      · simp only [w0 c1, w0 c2, w0 c3, Option.bind_some]
        by_cases e0 : u1 = (0 : Int32)
        · simp only [if_pos e0]
          exact ⟨_, rfl, rfl, hI⟩
        simp only [if_neg e0]
        by_cases e1 : u1 = (1 : Int32)
        · simp only [if_pos e1]
          exact ⟨_, rfl, rfl, hI⟩
        simp only [if_neg e1]
        by_cases e2 : u1 = (2 : Int32)
        · simp only [if_pos e2]
          exact ⟨_, rfl, rfl, hI⟩
        simp only [if_neg e2]
        by_cases e3 : u1 = (3 : Int32)
        · simp only [if_pos e3]
          exact ⟨_, rfl, rfl, hI⟩
        simp only [if_neg e3]
        by_cases e4 : u1 = (4 : Int32)
        · simp only [if_pos e4]
          exact ⟨_, rfl, rfl, hI⟩
        simp only [if_neg e4]
        exact ⟨_, rfl, rfl, hI⟩
