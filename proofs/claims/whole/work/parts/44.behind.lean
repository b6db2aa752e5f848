/-! behind -/
set_option maxRecDepth 1000000 in
theorem sim_behind {Y F L P W M tY tF tL iY0 iF0 iL0 iW0 iM0 iY1 iF1 iL1 iW1 iM1 kept isKept : Nat → Int32} {hd wl dy pn sn ih0 iw0 id0 in0 ik0 ih1 iw1 id1 in1 ik1 : Int32} (hI : Inv Y F L P W M tY tF tL iY0 iF0 iL0 iW0 iM0 iY1 iF1 iL1 iW1 iM1 kept isKept hd wl dy pn sn ih0 iw0 id0 in0 ik0 ih1 iw1 id1 in1 ik1) (a_trial_plan : Nat → Int32) (a_trial_holding : Int32) (a_trial_wool : Int32) (a_trial_day : Int32) (a_pad_awaited : Int32) (a_pad_actor : Int32) (a_pad_kind : Int32) (a_pad_amount : Int32) (a_course_acts : Int32) (a_course_badAct : Int32) (a_course_badWhy : Int32) (a_course_drawnCount : Int32) (a_course_drawAct : Int32) (a_course_drawChild : Int32) (b_act : Nat → Int32) (b_who : Nat → Int32) (b_much : Nat → Int32) (b_acts : Int32) (b_then_ : Nat → Int32) (b_drawnBits : Int32) (b_drawnMany : Int32) (b_drawnNow : Int32) (b_had : Nat → Int32) (b_badAct : Int32) (b_badWhy : Int32) (b_drawnAct : Int32) (b_drawnChild : Int32) (u1 : Int32) (u2 : Int32) : ∃ (res : Int32) (tY' : Nat → Int32) (tF' : Nat → Int32) (tL' : Nat → Int32) (a_trial_plan' : Nat → Int32) (a_trial_holding' : Int32) (a_trial_wool' : Int32) (a_trial_day' : Int32) (a_pad_awaited' : Int32) (a_pad_actor' : Int32) (a_pad_kind' : Int32) (a_pad_amount' : Int32) (a_course_acts' : Int32) (a_course_badAct' : Int32) (a_course_badWhy' : Int32) (a_course_drawnCount' : Int32) (a_course_drawAct' : Int32) (a_course_drawChild' : Int32) (b_act' : Nat → Int32) (b_who' : Nat → Int32) (b_much' : Nat → Int32) (b_acts' : Int32) (b_then_' : Nat → Int32) (b_drawnBits' : Int32) (b_drawnMany' : Int32) (b_drawnNow' : Int32) (b_had' : Nat → Int32) (b_badAct' : Int32) (b_badWhy' : Int32) (b_drawnAct' : Int32) (b_drawnChild' : Int32), f_X7_behind Y F L hd wl dy tY tF tL a_trial_plan a_trial_holding a_trial_wool a_trial_day P pn a_pad_awaited a_pad_actor a_pad_kind a_pad_amount a_course_acts a_course_badAct a_course_badWhy a_course_drawnCount a_course_drawAct a_course_drawChild u1 u2 = some (res, tY', tF', tL', a_trial_plan', a_trial_holding', a_trial_wool', a_trial_day', a_pad_awaited', a_pad_actor', a_pad_kind', a_pad_amount', a_course_acts', a_course_badAct', a_course_badWhy', a_course_drawnCount', a_course_drawAct', a_course_drawChild') ∧ f_X8_behind Y F L hd wl dy P pn b_act b_who b_much b_acts b_then_ b_drawnBits b_drawnMany b_drawnNow b_had b_badAct b_badWhy b_drawnAct b_drawnChild u1 u2 = some (res, Y, F, L, hd, wl, dy, b_act', b_who', b_much', b_acts', b_then_', b_drawnBits', b_drawnMany', b_drawnNow', b_had', b_badAct', b_badWhy', b_drawnAct', b_drawnChild') ∧ Inv Y F L P W M tY' tF' tL' iY0 iF0 iL0 iW0 iM0 iY1 iF1 iL1 iW1 iM1 kept isKept hd wl dy pn sn ih0 iw0 id0 in0 ik0 ih1 iw1 id1 in1 ik1 := by
  obtain ⟨hR, ⟨z1, z2, z3⟩, ⟨n, rfl, hn⟩, hS, hI0, hI1⟩ := hI
  unfold f_X7_behind f_X8_behind
  rw [isW, isW, isC, in_0_2]
  simp only [Option.bind_some]
  by_cases c1 : (0 : Int32) ≤ u1 ∧ u1 ≤ (9 : Int32)
  · by_cases c2 : (0 : Int32) ≤ u2 ∧ u2 ≤ (2 : Int32)
    · obtain ⟨v, _, hv, rfl⟩ := rg (a := 0) (b := 9) (by decide) (by decide) c1
      obtain ⟨w, _, hw, rfl⟩ := rg (a := 0) (b := 2) (by decide) (by decide) c2
      simp only [w1 c1, w1 c2]
      obtain ⟨H, hK, ⟨act', who', much', ac', e1, e2⟩ | ⟨r7, r8, Y', F', L', hd', wl', dy', f', g', A, Wh, Mu, b', nn', cnt', dA', dC', a', x', c', am', ac, N, bA, bW, t1, t2, e1, e2⟩⟩ := textI hn hR z1 z2 z3 (P := P) a_trial_plan a_trial_holding a_trial_wool a_trial_day a_pad_awaited a_pad_actor a_pad_kind a_pad_amount a_course_acts a_course_badAct a_course_badWhy a_course_drawnCount a_course_drawAct a_course_drawChild b_act b_who b_much b_acts b_then_ b_drawnBits b_drawnMany b_drawnNow b_had b_badAct b_badWhy b_drawnAct b_drawnChild
      · rw [e1, e2]
        simp only [Option.bind_some, backI hK hR hR, if_neg (show ¬ (-5 : Int32) = 0 by decide), if_neg (show ¬ (-5 : Int32) = -6 by decide)]
        exact ⟨_, _, _, _, _, _, _, _, _, _, _, _, _, _, _, _, _, _, _, _, _, _, _, _, _, _, _, _, _, _, _, rfl, rfl, hR, ⟨z1, z2, z3⟩, ⟨n, rfl, hn⟩, hS, hI0, hI1⟩
      · rw [e1, e2]
        rcases t2 with ⟨rfl, rfl, q1, rfl⟩ | ⟨rfl, rfl⟩
        · have t1' := t1
          obtain ⟨_, _, _, h, _, _, _, _, _, eh, _, _, _, _, _, _, hh, _⟩ := t1'
          have eq7 : f_X5_holdsFast hd' (nI v) = some (if h.testBit v then 1 else 0) := by rw [eh]; exact holdsI (by omega) hh
          have eq8 : (hd' >>> (nI v &&& 31)) &&& (1 : Int32) = if h.testBit v then 1 else 0 := by rw [eh]; exact bit1 (by omega) (by omega)
          simp only [Option.bind_some, if_pos, backI hK hR t1, eq7, eq8, gJ (show v < 10 by omega) (show 10 < 2 ^ 31 by decide), cl (show v < 2 ^ 31 by omega)]
          have : w = 0 ∨ w = 1 ∨ w = 2 := by omega
          rcases this with rfl | rfl | rfl
          · exact ⟨_, _, _, _, _, _, _, _, _, _, _, _, _, _, _, _, _, _, _, _, _, _, _, _, _, _, _, _, _, _, _, rfl, rfl, hR, t1.zr, ⟨n, rfl, hn⟩, hS, hI0, hI1⟩
          · exact ⟨_, _, _, _, _, _, _, _, _, _, _, _, _, _, _, _, _, _, _, _, _, _, _, _, _, _, _, _, _, _, _, rfl, rfl, hR, t1.zr, ⟨n, rfl, hn⟩, hS, hI0, hI1⟩
          · cases h.testBit v
            · exact ⟨_, _, _, _, _, _, _, _, _, _, _, _, _, _, _, _, _, _, _, _, _, _, _, _, _, _, _, _, _, _, _, rfl, rfl, hR, t1.zr, ⟨n, rfl, hn⟩, hS, hI0, hI1⟩
            · exact ⟨_, _, _, _, _, _, _, _, _, _, _, _, _, _, _, _, _, _, _, _, _, _, _, _, _, _, _, _, _, _, _, rfl, rfl, hR, t1.zr, ⟨n, rfl, hn⟩, hS, hI0, hI1⟩
        · simp only [Option.bind_some, if_neg (show ¬ (-3 : Int32) = 0 by decide), if_neg (show ¬ (-3 : Int32) = -6 by decide), backI hK hR t1]
          exact ⟨_, _, _, _, _, _, _, _, _, _, _, _, _, _, _, _, _, _, _, _, _, _, _, _, _, _, _, _, _, _, _, rfl, rfl, hR, t1.zr, ⟨n, rfl, hn⟩, hS, hI0, hI1⟩
    · simp only [w1 c1, w0 c2]
      exact ⟨_, _, _, _, _, _, _, _, _, _, _, _, _, _, _, _, _, _, _, _, _, _, _, _, _, _, _, _, _, _, _, rfl, rfl, hR, ⟨z1, z2, z3⟩, ⟨n, rfl, hn⟩, hS, hI0, hI1⟩
  · simp only [w0 c1]
    exact ⟨_, _, _, _, _, _, _, _, _, _, _, _, _, _, _, _, _, _, _, _, _, _, _, _, _, _, _, _, _, _, _, rfl, rfl, hR, ⟨z1, z2, z3⟩, ⟨n, rfl, hn⟩, hS, hI0, hI1⟩
