/-! the pad run by both -/
theorem fpR {P : Nat → Int32} {n : Nat} (hn : n ≤ 60) : ∀ (m j f7 : Nat) (a res : Int32), j + m = n → f_X3_faultPlace_4 P (nI n) (fun u1_5 => if u1_5 = 0 then some ((-6 : Int32)) else some (nI n)) f7 a (nI j) = some res → res = -6 ∨ 0 ≤ res
  | _, _, 0, a, res, h, hF => by
    rw [f_X3_faultPlace_4] at hF
    exact absurd hF (by intro q; cases q)
  | 0, j, f + 1, a, res, h, hF => by
    rw [f_X3_faultPlace_4, if_pos (lit_le (by omega) (by omega) (by omega))] at hF
    by_cases e : a = 0
    · rw [if_pos e] at hF
      injection hF with hF
      exact Or.inl hF.symm
    · rw [if_neg e] at hF
      injection hF with hF
      rw [← hF]
      exact Or.inr (lit_le (a := 0) (by decide) (by omega) (by omega))
  | m + 1, j, f + 1, a, res, h, hF => by
    rw [f_X3_faultPlace_4, if_neg (lit_nle (by omega) (by omega) (by omega)), gI (by omega : j < 60) (by decide)] at hF
    cases e : f_X3_awaitedAfter a (P (nI j).toNatClampNeg) with
    | none =>
      rw [e] at hF
      exact absurd hF (by intro q; cases q)
    | some r =>
      rw [e] at hF
      simp only [Option.bind_some] at hF
      by_cases k : r = (3 : Int32)
      · rw [if_pos k] at hF
        injection hF with hF
        rw [← hF]
        exact Or.inr (lit_le (a := 0) (by decide) (by omega) (by omega))
      · rw [if_neg k, p1] at hF
        exact fpR hn m (j + 1) f r res (by omega) hF
set_option maxRecDepth 1000000 in
theorem textI {Y F L tY tF tL P : Nat → Int32} {hd wl dy : Int32} {n : Nat} (hn : n ≤ 60) (hR : RowOK Y F L hd wl dy) (z1 : Zr 10 tY) (z2 : Zr 10 tF) (z3 : Zr 9 tL) (pl : Nat → Int32) (th tw td pa px pk pm ca cb cw cn cd cc : Int32) (act who much : Nat → Int32) (acts : Int32) (g : Nat → Int32) (b dm dn : Int32) (had : Nat → Int32) (ba bw dA dC : Int32) :
    ∃ (H : Nat → Int32), Kept H Y F L hd wl dy ∧
    ((∃ (act' who' much' : Nat → Int32) (ac' : Int32), f_X7_runText Y F L hd wl dy tY tF tL pl th tw td P (nI n) pa px pk pm ca cb cw cn cd cc = some (-5, tY, tF, tL, pl, th, tw, td, pa, px, pk, pm, ca, cb, cw, cn, cd, cc) ∧
      f_X8_refusal Y F L hd wl dy P (nI n) act who much acts g b dm dn had ba bw dA dC = some (-5, Y, F, L, hd, wl, dy, act', who', much', ac', g, b, dm, dn, H, ba, bw, dA, dC)) ∨
    (∃ (r7 r8 : Int32) (Y' F' L' : Nat → Int32) (hd' wl' dy' : Int32) (f' g' A Wh Mu : Nat → Int32) (b' nn' cnt' dA' dC' a' x' c' am' ac N bA bW : Int32), RowOK Y' F' L' hd' wl' dy' ∧ ((r7 = 0 ∧ r8 = -6 ∧ bA = -6 ∧ ac = N) ∨ (r7 = -3 ∧ r8 = -3)) ∧
      f_X7_runText Y F L hd wl dy tY tF tL pl th tw td P (nI n) pa px pk pm ca cb cw cn cd cc = some (r7, Y', F', L', f', hd', wl', dy', a', x', c', am', ac, bA, bW, cnt', dA', dC') ∧
      f_X8_refusal Y F L hd wl dy P (nI n) act who much acts g b dm dn had ba bw dA dC = some (r8, Y', F', L', hd', wl', dy', A, Wh, Mu, N, g', b', cnt', nn', H, bA, bW, dA', dC'))) := by
  obtain ⟨H, eH, hK⟩ := keepI Y F L hd wl dy had
  refine ⟨H, hK, ?_⟩
  obtain ⟨res, A, Wh, Mu, N, e1, e2⟩ := faultLoop (P := P) hn n 0 0 2000 2000 0 0 act who much (by omega) (by omega) (Or.inl ⟨rfl, rfl⟩) (by omega) (by omega)
  have hr := fpR hn n 0 2000 0 res (by omega) e1
  have e1' : f_X3_faultPlace P (nI n) = some res := e1
  have e2' : f_X8_fault P (nI n) act who much acts = some (res, A, Wh, Mu, N) := e2
  unfold f_X7_runText f_X8_refusal
  rw [e1', eH]
  simp only [Option.bind_some]
  rw [e2']
  simp only [Option.bind_some]
  rcases hr with rfl | hr
  · obtain ⟨g1, g2, g3, N', rfl, g5, g6⟩ := readKeeps hn n 0 0 2000 0 0 0 0 0 act who much (by omega) (by omega) (Or.inl ⟨rfl, rfl⟩) (by omega) e2
    obtain ⟨y1, y2, y3⟩ := hR.zr
    rw [if_pos rfl, copyRow, seg_all y1 z1, seg_all y2 z2, seg_all y3 z3, if_pos (show (-6 : Int32) < 0 by decide)]
    unfold f_X0_begin f_X3_beginActs f_X8_goDays
    simp only [Option.bind_some]
    obtain ⟨Y', F', L', hd', wl', dy', f', g', b', nn', cnt', dA', dC', a', x', c', am', ac, bA, bW, t1, t2, t3, t4⟩ := daysI hn (kx := fun trial_yards_11 trial_feels_12 trial_lengths_13 trial_plan_14 trial_holding_15 trial_wool_16 trial_day_17 pad_awaited_18 pad_actor_19 pad_kind_20 pad_amount_21 course_acts_22 course_badAct_23 course_badWhy_24 course_drawnCount_25 course_drawAct_26 course_drawChild_27 => if course_badAct_23 = (-6 : Int32) then some ((0 : Int32), trial_yards_11, trial_feels_12, trial_lengths_13, trial_plan_14, trial_holding_15, trial_wool_16, trial_day_17, pad_awaited_18, pad_actor_19, pad_kind_20, pad_amount_21, course_acts_22, course_badAct_23, course_badWhy_24, course_drawnCount_25, course_drawAct_26, course_drawChild_27) else some ((-3 : Int32), trial_yards_11, trial_feels_12, trial_lengths_13, trial_plan_14, trial_holding_15, trial_wool_16, trial_day_17, pad_awaited_18, pad_actor_19, pad_kind_20, pad_amount_21, course_acts_22, course_badAct_23, course_badWhy_24, course_drawnCount_25, course_drawAct_26, course_drawChild_27)) n 0 0 2000 2000 2000 0 0 46 0 0 act who much Y F L hd wl dy pl g b dn 0 (-6) (-6) (by omega) (by omega) (Or.inl ⟨rfl, rfl⟩) (by omega) (by omega) (by omega) hR (Or.inl rfl) e2 g6
    refine Or.inr ?_
    rcases t2 with ⟨q1, q2⟩ | ⟨q1, q2⟩
    · rw [if_pos q1] at t3
      refine ⟨0, -6, Y', F', L', hd', wl', dy', f', g', A, Wh, Mu, b', nn', cnt', dA', dC', a', x', c', am', ac, nI N', bA, bW, t1, Or.inl ⟨rfl, rfl, q1, q2⟩, t3, ?_⟩
      rw [show f_X8_goDays_31 A Wh Mu (nI N') 2000 (0 : Int32) Y F L hd wl dy g b 0 dn (-6) (-6) (-6) (-6) = _ from t4]
      simp only [Option.bind_some]
      rw [if_pos (show bA < 0 by rw [q1]; decide)]
    · rw [if_neg q1] at t3
      refine ⟨-3, -3, Y', F', L', hd', wl', dy', f', g', A, Wh, Mu, b', nn', cnt', dA', dC', a', x', c', am', ac, nI N', bA, bW, t1, Or.inr ⟨rfl, rfl⟩, t3, ?_⟩
      rw [show f_X8_goDays_31 A Wh Mu (nI N') 2000 (0 : Int32) Y F L hd wl dy g b 0 dn (-6) (-6) (-6) (-6) = _ from t4]
      simp only [Option.bind_some]
      rw [if_neg (show ¬ bA < 0 from not_lt'.mpr q2)]
  · have n6 : ¬ res = (-6 : Int32) := by
      intro e
      rw [e] at hr
      exact absurd hr (by decide)
    rw [if_neg n6, if_neg (not_lt'.mpr hr)]
    exact Or.inl ⟨A, Wh, Mu, N, rfl, rfl⟩
