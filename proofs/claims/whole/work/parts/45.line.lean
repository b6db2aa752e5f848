/-! line -/
theorem tautLoop {l y : Nat → Nat} (hl : ∀ i, l i ≤ 99) (hy : ∀ i, y i ≤ 999) : ∀ (m j fuel : Nat) (b : Int32), j + m = 9 → m < fuel → ∃ r, f_X5_tautBits_4 (fun i => nI (y i)) (fun i => nI (l i)) fuel b (nI j) = some r ∧ f_X8_taut_4 (fun i => nI (y i)) (fun i => nI (l i)) fuel b (nI j) = some r
  | _, _, 0, b, h, hf => absurd hf (by omega)
  | 0, j, f + 1, b, h, hf => by
    rw [f_X5_tautBits_4, f_X8_taut_4, show (9 : Int32) = nI 9 from rfl, if_pos (lit_le (by decide) (by omega) (by omega)), if_pos (lit_le (by decide) (by omega) (by omega))]
    exact ⟨b, rfl, rfl⟩
  | m + 1, j, f + 1, b, h, hf => by
    rw [f_X5_tautBits_4, f_X8_taut_4, show (9 : Int32) = nI 9 from rfl, if_neg (lit_nle (by decide) (by omega) (by omega)), if_neg (lit_nle (by decide) (by omega) (by omega)), taut7 hl hy (by omega), taut8 hl hy (by omega)]
    simp only [Option.bind_some]
    by_cases t : ad (y j) (y (j + 1)) = l j
    · rw [w1 t, w1 t, p1]
      exact tautLoop hl hy m (j + 1) f _ (by omega) (by omega)
    · rw [w0 t, w0 t, p1, Int32.or_zero]
      exact tautLoop hl hy m (j + 1) f _ (by omega) (by omega)
theorem allLoop {L : Nat → Int32} : ∀ (m j fuel : Nat) (b : Int32), j + m = 9 → m < fuel → ∃ r, f_X5_allLengths_4 L fuel b (nI j) = some r ∧ f_X8_allYards_4 L fuel b (nI j) = some r
  | _, _, 0, b, h, hf => absurd hf (by omega)
  | 0, j, f + 1, b, h, hf => by
    rw [f_X5_allLengths_4, f_X8_allYards_4, show (9 : Int32) = nI 9 from rfl, if_pos (lit_le (by decide) (by omega) (by omega)), if_pos (lit_le (by decide) (by omega) (by omega))]
    exact ⟨b, rfl, rfl⟩
  | m + 1, j, f + 1, b, h, hf => by
    rw [f_X5_allLengths_4, f_X8_allYards_4, show (9 : Int32) = nI 9 from rfl, if_neg (lit_nle (by decide) (by omega) (by omega)), if_neg (lit_nle (by decide) (by omega) (by omega)), gI (by omega : j < 9) (by decide), gI (by omega : j < 9) (by decide), p1]
    exact allLoop m (j + 1) f _ (by omega) (by omega)
set_option maxRecDepth 1000000 in
theorem sim_line {Y F L P W M tY tF tL iY0 iF0 iL0 iW0 iM0 iY1 iF1 iL1 iW1 iM1 kept isKept : Nat → Int32} {hd wl dy pn sn ih0 iw0 id0 in0 ik0 ih1 iw1 id1 in1 ik1 : Int32} (hI : Inv Y F L P W M tY tF tL iY0 iF0 iL0 iW0 iM0 iY1 iF1 iL1 iW1 iM1 kept isKept hd wl dy pn sn ih0 iw0 id0 in0 ik0 ih1 iw1 id1 in1 ik1) (a_trial_plan : Nat → Int32) (a_trial_holding : Int32) (a_trial_wool : Int32) (a_trial_day : Int32) (a_pad_awaited : Int32) (a_pad_actor : Int32) (a_pad_kind : Int32) (a_pad_amount : Int32) (a_course_acts : Int32) (a_course_badAct : Int32) (a_course_badWhy : Int32) (a_course_drawnCount : Int32) (a_course_drawAct : Int32) (a_course_drawChild : Int32) (b_act : Nat → Int32) (b_who : Nat → Int32) (b_much : Nat → Int32) (b_acts : Int32) (b_then_ : Nat → Int32) (b_drawnBits : Int32) (b_drawnMany : Int32) (b_drawnNow : Int32) (b_had : Nat → Int32) (b_badAct : Int32) (b_badWhy : Int32) (b_drawnAct : Int32) (b_drawnChild : Int32) (u1 : Int32) : ∃ (res : Int32) (tY' : Nat → Int32) (tF' : Nat → Int32) (tL' : Nat → Int32) (a_trial_plan' : Nat → Int32) (a_trial_holding' : Int32) (a_trial_wool' : Int32) (a_trial_day' : Int32) (a_pad_awaited' : Int32) (a_pad_actor' : Int32) (a_pad_kind' : Int32) (a_pad_amount' : Int32) (a_course_acts' : Int32) (a_course_badAct' : Int32) (a_course_badWhy' : Int32) (a_course_drawnCount' : Int32) (a_course_drawAct' : Int32) (a_course_drawChild' : Int32) (b_act' : Nat → Int32) (b_who' : Nat → Int32) (b_much' : Nat → Int32) (b_acts' : Int32) (b_then_' : Nat → Int32) (b_drawnBits' : Int32) (b_drawnMany' : Int32) (b_drawnNow' : Int32) (b_had' : Nat → Int32) (b_badAct' : Int32) (b_badWhy' : Int32) (b_drawnAct' : Int32) (b_drawnChild' : Int32), f_X7_line Y F L hd wl dy tY tF tL a_trial_plan a_trial_holding a_trial_wool a_trial_day P pn a_pad_awaited a_pad_actor a_pad_kind a_pad_amount a_course_acts a_course_badAct a_course_badWhy a_course_drawnCount a_course_drawAct a_course_drawChild u1 = some (res, tY', tF', tL', a_trial_plan', a_trial_holding', a_trial_wool', a_trial_day', a_pad_awaited', a_pad_actor', a_pad_kind', a_pad_amount', a_course_acts', a_course_badAct', a_course_badWhy', a_course_drawnCount', a_course_drawAct', a_course_drawChild') ∧ f_X8_line Y F L hd wl dy P pn b_act b_who b_much b_acts b_then_ b_drawnBits b_drawnMany b_drawnNow b_had b_badAct b_badWhy b_drawnAct b_drawnChild u1 = some (res, Y, F, L, hd, wl, dy, b_act', b_who', b_much', b_acts', b_then_', b_drawnBits', b_drawnMany', b_drawnNow', b_had', b_badAct', b_badWhy', b_drawnAct', b_drawnChild') ∧ Inv Y F L P W M tY' tF' tL' iY0 iF0 iL0 iW0 iM0 iY1 iF1 iL1 iW1 iM1 kept isKept hd wl dy pn sn ih0 iw0 id0 in0 ik0 ih1 iw1 id1 in1 ik1 := by
  obtain ⟨hR, ⟨z1, z2, z3⟩, ⟨n, rfl, hn⟩, hS, hI0, hI1⟩ := hI
  unfold f_X7_line f_X8_line
  rw [isW, in_0_3]
  simp only [Option.bind_some]
  by_cases cc : (0 : Int32) ≤ u1 ∧ u1 ≤ (3 : Int32)
  · obtain ⟨v, _, hv, rfl⟩ := rg (a := 0) (b := 3) (by decide) (by decide) cc
    rw [w1 cc, w1 cc]
    obtain ⟨H, hK, ⟨act', who', much', ac', e1, e2⟩ | ⟨r7, r8, Y', F', L', hd', wl', dy', f', g', A, Wh, Mu, b', nn', cnt', dA', dC', a', x', c', am', ac, N, bA, bW, t1, t2, e1, e2⟩⟩ := textI hn hR z1 z2 z3 (P := P) a_trial_plan a_trial_holding a_trial_wool a_trial_day a_pad_awaited a_pad_actor a_pad_kind a_pad_amount a_course_acts a_course_badAct a_course_badWhy a_course_drawnCount a_course_drawAct a_course_drawChild b_act b_who b_much b_acts b_then_ b_drawnBits b_drawnMany b_drawnNow b_had b_badAct b_badWhy b_drawnAct b_drawnChild
    · rw [e1, e2]
      simp only [Option.bind_some, backI hK hR hR, if_neg (show ¬ (-5 : Int32) = 0 by decide), if_neg (show ¬ (-5 : Int32) = -6 by decide)]
      exact ⟨_, _, _, _, _, _, _, _, _, _, _, _, _, _, _, _, _, _, _, _, _, _, _, _, _, _, _, _, _, _, _, rfl, rfl, hR, ⟨z1, z2, z3⟩, ⟨n, rfl, hn⟩, hS, hI0, hI1⟩
    · rw [e1, e2]
      rcases t2 with ⟨rfl, rfl, q1, rfl⟩ | ⟨rfl, rfl⟩
      · obtain ⟨r, o1, o2⟩ : ∃ r, f_X5_tautBits Y' L' = some r ∧ f_X8_taut Y' L' = some r := by
          obtain ⟨y, e, l, h, w, d, rfl, rfl, rfl, rfl, rfl, rfl, hy, he, hl1, hl, _⟩ := t1
          exact tautLoop hl hy 9 0 2000 0 (by decide) (by decide)
        obtain ⟨s, o3, o4⟩ : ∃ r, f_X5_allLengths L' = some r ∧ f_X8_allYards L' = some r := allLoop 9 0 2000 0 (by decide) (by decide)
        simp only [Option.bind_some, if_pos, backI hK hR t1, o1, o2, o3, o4]
        have : v = 0 ∨ v = 1 ∨ v = 2 ∨ v = 3 := by omega
        rcases this with rfl | rfl | rfl | rfl
        · exact ⟨_, _, _, _, _, _, _, _, _, _, _, _, _, _, _, _, _, _, _, _, _, _, _, _, _, _, _, _, _, _, _, rfl, rfl, hR, t1.zr, ⟨n, rfl, hn⟩, hS, hI0, hI1⟩
        · exact ⟨_, _, _, _, _, _, _, _, _, _, _, _, _, _, _, _, _, _, _, _, _, _, _, _, _, _, _, _, _, _, _, rfl, rfl, hR, t1.zr, ⟨n, rfl, hn⟩, hS, hI0, hI1⟩
        · exact ⟨_, _, _, _, _, _, _, _, _, _, _, _, _, _, _, _, _, _, _, _, _, _, _, _, _, _, _, _, _, _, _, rfl, rfl, hR, t1.zr, ⟨n, rfl, hn⟩, hS, hI0, hI1⟩
        · exact ⟨_, _, _, _, _, _, _, _, _, _, _, _, _, _, _, _, _, _, _, _, _, _, _, _, _, _, _, _, _, _, _, rfl, rfl, hR, t1.zr, ⟨n, rfl, hn⟩, hS, hI0, hI1⟩
      · simp only [Option.bind_some, if_neg (show ¬ (-3 : Int32) = 0 by decide), if_neg (show ¬ (-3 : Int32) = -6 by decide), backI hK hR t1]
        exact ⟨_, _, _, _, _, _, _, _, _, _, _, _, _, _, _, _, _, _, _, _, _, _, _, _, _, _, _, _, _, _, _, rfl, rfl, hR, t1.zr, ⟨n, rfl, hn⟩, hS, hI0, hI1⟩
  · rw [w0 cc, w0 cc]
    exact ⟨_, _, _, _, _, _, _, _, _, _, _, _, _, _, _, _, _, _, _, _, _, _, _, _, _, _, _, _, _, _, _, rfl, rfl, hR, ⟨z1, z2, z3⟩, ⟨n, rfl, hn⟩, hS, hI0, hI1⟩
