/-! a year -/
theorem bm64 {n : Int} (h1 : -4611686018427387904 ≤ n) (h2 : n < 4611686018427387904) : n.bmod (2 ^ 64) = n := Int.bmod_eq_of_le_mul_two (by omega) (by omega)
theorem lcg7 {v : Nat} (hv : v < 65537) : (((75 : Int32) * nI v) + (74 : Int32)) - (((75 : Int32) * nI v) + (74 : Int32)) / (65537 : Int32) * (65537 : Int32) = nI ((75 * v + 74) % 65537) := by
  rw [show (75 : Int32) = nI 75 from rfl, show (74 : Int32) = nI 74 from rfl, show (65537 : Int32) = nI 65537 from rfl, mulI, nI_add, remI (by omega) (by decide) (by decide)]
theorem lcg8 {v : Nat} (hv : v < 65537) : ((((75 : Int64) * (nI v).toInt64) + (74 : Int64)) - (((75 : Int64) * (nI v).toInt64) + (74 : Int64)) / (65537 : Int64) * (65537 : Int64)).toInt32 = nI ((75 * v + 74) % 65537) := by
  have hV : (nI v).toInt64.toInt = v := by rw [Int32.toInt_toInt64, nI_toInt (by omega)]
  have hx : ((75 : Int64) * (nI v).toInt64 + (74 : Int64)).toInt = 75 * (v : Int) + 74 := by
    rw [Int64.toInt_add, Int64.toInt_mul, hV, show (75 : Int64).toInt = 75 from rfl, show (74 : Int64).toInt = 74 from rfl, bm64 (n := 75 * (v : Int)) (by omega) (by omega), bm64 (by omega) (by omega)]
  generalize (75 : Int64) * (nI v).toInt64 + (74 : Int64) = x at hx
  have hq : (x / (65537 : Int64)).toInt = (75 * (v : Int) + 74) / 65537 := by
    rw [Int64.toInt_div, hx, show (65537 : Int64).toInt = 65537 from rfl, Int.tdiv_eq_ediv_of_nonneg (by omega), bm64 (by omega) (by omega)]
  have hr : (x - x / (65537 : Int64) * (65537 : Int64)).toInt = (75 * (v : Int) + 74) % 65537 := by
    rw [Int64.toInt_sub, Int64.toInt_mul, hq, hx, show (65537 : Int64).toInt = 65537 from rfl, bm64 (n := (75 * (v : Int) + 74) / 65537 * 65537) (by omega) (by omega), bm64 (by omega) (by omega)]
    omega
  rw [← Int32.toInt_inj, Int64.toInt_toInt32, hr, nI_toInt (by omega), Int.bmod_eq_of_le_mul_two (by omega) (by omega)]
  omega
theorem kindsI : ∀ q, q < 8 → ∃ c m : Int32, f_X7_kindByDraw (nI q) = some c ∧ f_X8_actBy (nI q) = some m ∧ ((c = 62 ∧ m = 0) ∨ (c = 60 ∧ m = 1) ∨ (c = 33 ∧ m = 3) ∨ (c = 35 ∧ m = 2) ∨ (c = 43 ∧ m = 4) ∨ (c = 45 ∧ m = 5) ∨ (c = 46 ∧ m = 6)) := by
  intro q hq
  have : q = 0 ∨ q = 1 ∨ q = 2 ∨ q = 3 ∨ q = 4 ∨ q = 5 ∨ q = 6 ∨ q = 7 := by omega
  rcases this with rfl | rfl | rfl | rfl | rfl | rfl | rfl | rfl
  · exact ⟨62, 0, by decide, by decide, by decide⟩
  · exact ⟨62, 0, by decide, by decide, by decide⟩
  · exact ⟨60, 1, by decide, by decide, by decide⟩
  · exact ⟨35, 2, by decide, by decide, by decide⟩
  · exact ⟨33, 3, by decide, by decide, by decide⟩
  · exact ⟨43, 4, by decide, by decide, by decide⟩
  · exact ⟨45, 5, by decide, by decide, by decide⟩
  · exact ⟨46, 6, by decide, by decide, by decide⟩
theorem yearLoop {N : Nat} (hN : N ≤ 99) {kx} : ∀ (m j v f7 f8 : Nat) (cnt : Int32) (Y F L : Nat → Int32) (hd wl dy : Int32) (f g : Nat → Int32) (b nn : Int32), j + m = N → v < 65537 → m < f7 → m < f8 → RowOK Y F L hd wl dy →
    ∃ (cnt' : Int32) (Y' F' L' : Nat → Int32) (hd' wl' dy' : Int32) (f' g' : Nat → Int32) (b' nn' : Int32), RowOK Y' F' L' hd' wl' dy' ∧ f_X7_runYear_19 (nI N) f7 cnt (nI v) (nI j) Y F L f hd wl dy = some (cnt', Y', F', L', f', hd', wl', dy') ∧ f_X8_year_54 (nI N) kx f8 (nI v) (nI j) Y F L hd wl dy g b cnt nn = kx Y' F' L' hd' wl' dy' g' b' cnt' nn'
  | _, _, _, 0, _, cnt, Y, F, L, hd, wl, dy, f, g, b, nn, h, hv, h7, h8, hR => absurd h7 (by omega)
  | _, _, _, _ + 1, 0, cnt, Y, F, L, hd, wl, dy, f, g, b, nn, h, hv, h7, h8, hR => absurd h8 (by omega)
  | 0, j, v, n7 + 1, n8 + 1, cnt, Y, F, L, hd, wl, dy, f, g, b, nn, h, hv, h7, h8, hR => by
    refine ⟨cnt, Y, F, L, hd, wl, dy, f, g, b, nn, hR, ?_, ?_⟩
    · rw [f_X7_runYear_19, if_pos (lit_le (by omega) (by omega) (by omega))]
    · rw [f_X8_year_54, if_pos (lit_le (by omega) (by omega) (by omega))]
  | m + 1, j, v, n7 + 1, n8 + 1, cnt, Y, F, L, hd, wl, dy, f, g, b, nn, h, hv, h7, h8, hR => by
    rw [f_X7_runYear_19, f_X8_year_54, if_neg (lit_nle (by omega) (by omega) (by omega)), if_neg (lit_nle (by omega) (by omega) (by omega)), lcg7 hv, lcg8 hv]
    have hV : (75 * v + 74) % 65537 < 65537 := Nat.mod_lt _ (by decide)
    generalize (75 * v + 74) % 65537 = V at hV
    have dq : nI V / (10 : Int32) - nI V / (10 : Int32) / (8 : Int32) * (8 : Int32) = nI (V / 10 % 8) := by
      rw [show (10 : Int32) = nI 10 from rfl, show (8 : Int32) = nI 8 from rfl, divI (by omega) (by decide) (by decide), remI (by omega) (by decide) (by decide)]
    have dw : nI V - nI V / (10 : Int32) * (10 : Int32) = nI (V % 10) := by
      rw [show (10 : Int32) = nI 10 from rfl, remI (by omega) (by decide) (by decide)]
    have da : (1 : Int32) + (nI V / (80 : Int32) - nI V / (80 : Int32) / (9 : Int32) * (9 : Int32)) = nI (1 + V / 80 % 9) := by
      rw [show (80 : Int32) = nI 80 from rfl, show (9 : Int32) = nI 9 from rfl, show (1 : Int32) = nI 1 from rfl, divI (by omega) (by decide) (by decide), remI (by omega) (by decide) (by decide), nI_add]
    rw [dq, dw, da]
    obtain ⟨c, k, e1, e2, hk⟩ := kindsI (V / 10 % 8) (Nat.mod_lt _ (by decide))
    rw [e1, e2]
    simp only [Option.bind_some]
    have hS : SameAct c k (nI (V % 10)) (nI (1 + V / 80 % 9)) (nI (V % 10)) (nI (1 + V / 80 % 9)) := by
      have a1 : V % 10 ≤ 9 := by omega
      have a2 : 1 + V / 80 % 9 ≤ 9 := by omega
      rcases hk with q | q | q | q | q | q | q
      · exact Or.inl ⟨_, _, a1, by omega, a2, rfl, rfl, rfl, rfl, Or.inl q⟩
      · exact Or.inl ⟨_, _, a1, by omega, a2, rfl, rfl, rfl, rfl, Or.inr (Or.inl q)⟩
      · exact Or.inl ⟨_, _, a1, by omega, a2, rfl, rfl, rfl, rfl, Or.inr (Or.inr q)⟩
      · exact Or.inr (Or.inl ⟨_, a1, rfl, rfl, Or.inl q⟩)
      · exact Or.inr (Or.inl ⟨_, a1, rfl, rfl, Or.inr (Or.inl q)⟩)
      · exact Or.inr (Or.inl ⟨_, a1, rfl, rfl, Or.inr (Or.inr q)⟩)
      · exact Or.inr (Or.inr q)
    obtain ⟨w, f1, g1, b1, q1, q2, _, q3⟩ := bothAct hR hS f g b
    rw [q1, q2]
    simp only [Option.bind_some]
    by_cases w0 : w = 0
    · obtain ⟨z, cc, Y', F', L', hd', wl', dy', f2, g2, b2, nn', _, t2, t3, t4, _, t6⟩ := q3 w0 cnt nn
      rw [if_pos w0, if_pos w0, t3, t4]
      simp only [Option.bind_some]
      rw [t2]
      simp only [Option.bind_some]
      rw [p1]
      exact yearLoop hN m (j + 1) V n7 n8 _ Y' F' L' hd' wl' dy' f2 g2 b2 nn' (by omega) hV (by omega) (by omega) t6
    · rw [if_neg w0, if_neg w0, p1]
      exact yearLoop hN m (j + 1) V n7 n8 _ Y F L hd wl dy f1 g1 b1 nn (by omega) hV (by omega) (by omega) hR
set_option maxRecDepth 1000000 in
theorem sim_year {Y F L P W M tY tF tL iY0 iF0 iL0 iW0 iM0 iY1 iF1 iL1 iW1 iM1 kept isKept : Nat → Int32} {hd wl dy pn sn ih0 iw0 id0 in0 ik0 ih1 iw1 id1 in1 ik1 : Int32} (hI : Inv Y F L P W M tY tF tL iY0 iF0 iL0 iW0 iM0 iY1 iF1 iL1 iW1 iM1 kept isKept hd wl dy pn sn ih0 iw0 id0 in0 ik0 ih1 iw1 id1 in1 ik1) (a_trial_plan : Nat → Int32) (a_trial_holding : Int32) (a_trial_wool : Int32) (a_trial_day : Int32) (b_then_ : Nat → Int32) (b_drawnBits : Int32) (b_drawnMany : Int32) (b_drawnNow : Int32) (b_had : Nat → Int32) (u1 : Int32) (u2 : Int32) (u3 : Int32) : ∃ (res : Int32) (tY' : Nat → Int32) (tF' : Nat → Int32) (tL' : Nat → Int32) (a_trial_plan' : Nat → Int32) (a_trial_holding' : Int32) (a_trial_wool' : Int32) (a_trial_day' : Int32) (b_then_' : Nat → Int32) (b_drawnBits' : Int32) (b_drawnMany' : Int32) (b_drawnNow' : Int32) (b_had' : Nat → Int32), f_X7_year Y F L hd wl dy tY tF tL a_trial_plan a_trial_holding a_trial_wool a_trial_day u1 u2 u3 = some (res, tY', tF', tL', a_trial_plan', a_trial_holding', a_trial_wool', a_trial_day') ∧ f_X8_year Y F L hd wl dy b_then_ b_drawnBits b_drawnMany b_drawnNow b_had u1 u2 u3 = some (res, Y, F, L, hd, wl, dy, b_then_', b_drawnBits', b_drawnMany', b_drawnNow', b_had') ∧ Inv Y F L P W M tY' tF' tL' iY0 iF0 iL0 iW0 iM0 iY1 iF1 iL1 iW1 iM1 kept isKept hd wl dy pn sn ih0 iw0 id0 in0 ik0 ih1 iw1 id1 in1 ik1 := by
  obtain ⟨hR, ⟨z1, z2, z3⟩, hP, hS, hI0, hI1⟩ := hI
  unfold f_X7_year f_X8_year
  rw [isW, isW, isW, in_0_9999, in_1_99, in_0_2]
  simp only [Option.bind_some]
  by_cases c1 : (0 : Int32) ≤ u1 ∧ u1 ≤ (9999 : Int32)
  · by_cases c2 : (1 : Int32) ≤ u2 ∧ u2 ≤ (99 : Int32)
    · by_cases c3 : (0 : Int32) ≤ u3 ∧ u3 ≤ (2 : Int32)
      · simp only [w1 c1, w1 c2, w1 c3]
        obtain ⟨v, _, hv, rfl⟩ := rg (a := 0) (b := 9999) (by decide) (by decide) c1
        obtain ⟨N, _, hN, rfl⟩ := rg (a := 1) (b := 99) (by decide) (by decide) c2
        obtain ⟨H, eH, hK⟩ := keepI Y F L hd wl dy b_had
        obtain ⟨y1, y2, y3⟩ := hR.zr
        unfold f_X7_runYear
        rw [copyRow, seg_all y1 z1, seg_all y2 z2, seg_all y3 z3, eH]
        simp only [Option.bind_some]
        obtain ⟨cnt', Y', F', L', hd', wl', dy', f', g', b', nn', t1, t2, t3⟩ := yearLoop hN (kx := fun yard_13 feels_14 length_15 holding_16 wool_17 days_18 then__19 drawnBits_20 drawnMany_21 drawnNow_22 => if u3 = 0 then (f_X8_back yard_13 feels_14 length_15 holding_16 wool_17 days_18 H (yard_13 (0 : Int32).toNatClampNeg)).bind (fun r27 => some (r27.1, r27.2.1, r27.2.2.1, r27.2.2.2.1, r27.2.2.2.2.1, r27.2.2.2.2.2.1, r27.2.2.2.2.2.2, then__19, drawnBits_20, drawnMany_21, drawnNow_22, H)) else if u3 = (1 : Int32) then (f_X8_back yard_13 feels_14 length_15 holding_16 wool_17 days_18 H drawnMany_21).bind (fun r26 => some (r26.1, r26.2.1, r26.2.2.1, r26.2.2.2.1, r26.2.2.2.2.1, r26.2.2.2.2.2.1, r26.2.2.2.2.2.2, then__19, drawnBits_20, drawnMany_21, drawnNow_22, H)) else (f_X8_back yard_13 feels_14 length_15 holding_16 wool_17 days_18 H wool_17).bind (fun r25 => some (r25.1, r25.2.1, r25.2.2.1, r25.2.2.2.1, r25.2.2.2.2.1, r25.2.2.2.2.2.1, r25.2.2.2.2.2.2, then__19, drawnBits_20, drawnMany_21, drawnNow_22, H))) N 0 v 2000 2000 0 Y F L hd wl dy a_trial_plan b_then_ b_drawnBits b_drawnNow (by omega) (by omega) (by omega) (by omega) hR
        rw [show (0 : Int32) = nI 0 from rfl] at t2 t3 ⊢
        rw [t2, t3]
        simp only [Option.bind_some, backI hK hR t1]
        by_cases e0 : u3 = nI 0
        · rw [if_pos e0, if_pos e0]
          exact ⟨_, _, _, _, _, _, _, _, _, _, _, _, _, rfl, rfl, hR, t1.zr, hP, hS, hI0, hI1⟩
        · rw [if_neg e0, if_neg e0]
          by_cases e1 : u3 = (1 : Int32)
          · rw [if_pos e1, if_pos e1]
            exact ⟨_, _, _, _, _, _, _, _, _, _, _, _, _, rfl, rfl, hR, t1.zr, hP, hS, hI0, hI1⟩
          · rw [if_neg e1, if_neg e1]
            exact ⟨_, _, _, _, _, _, _, _, _, _, _, _, _, rfl, rfl, hR, t1.zr, hP, hS, hI0, hI1⟩
      · simp only [w1 c1, w1 c2, w0 c3]
        exact ⟨_, _, _, _, _, _, _, _, _, _, _, _, _, rfl, rfl, hR, ⟨z1, z2, z3⟩, hP, hS, hI0, hI1⟩
    · simp only [w1 c1, w0 c2]
      exact ⟨_, _, _, _, _, _, _, _, _, _, _, _, _, rfl, rfl, hR, ⟨z1, z2, z3⟩, hP, hS, hI0, hI1⟩
  · simp only [w0 c1]
    exact ⟨_, _, _, _, _, _, _, _, _, _, _, _, _, rfl, rfl, hR, ⟨z1, z2, z3⟩, hP, hS, hI0, hI1⟩
