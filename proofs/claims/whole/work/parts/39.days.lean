/-! the text run by both -/
theorem daysI {P : Nat → Int32} {n : Nat} (hn : n ≤ 60) {A Wh Mu : Nat → Int32} {N : Nat} {kx} : ∀ (m j t f7 f8 f9 : Nat) (a x c am q : Int32) (act who much : Nat → Int32) (Y F L : Nat → Int32) (hd wl dy : Int32) (f g : Nat → Int32) (b nn cnt dA dC : Int32), j + m = n → t ≤ j → Rel a x c q (who t) → m + 1 < f7 → m + 2 < f8 → m < f9 → RowOK Y F L hd wl dy → (dA = -6 ∨ 0 ≤ dA) →
    f_X8_fault_9 P (nI n) (fun u1_5 act_6 who_7 much_8 acts_9 => if u1_5 = 0 then some ((-6 : Int32), act_6, who_7, much_8, acts_9) else some (nI n, act_6, who_7, much_8, acts_9)) f9 q (nI j) act who much (nI t) = some (-6, A, Wh, Mu, nI N) → N ≤ 60 →
    ∃ (Y' F' L' : Nat → Int32) (hd' wl' dy' : Int32) (f' g' : Nat → Int32) (b' nn' cnt' dA' dC' a' x' c' am' ac bA bW : Int32), RowOK Y' F' L' hd' wl' dy' ∧ ((bA = -6 ∧ ac = nI N) ∨ (¬ bA = -6 ∧ 0 ≤ bA)) ∧
      f_X7_runText_42 P (nI n) kx f7 (nI j) Y F L f hd wl dy a x c am (nI t) (-6) (-6) cnt dA dC = kx Y' F' L' f' hd' wl' dy' a' x' c' am' ac bA bW cnt' dA' dC' ∧
      f_X8_goDays_31 A Wh Mu (nI N) f8 (nI t) Y F L hd wl dy g b cnt nn (-6) (-6) dA dC = some (Y', F', L', hd', wl', dy', g', b', cnt', nn', bA, bW, dA', dC')
  | _, _, _, 0, _, _, a, x, c, am, q, act, who, much, Y, F, L, hd, wl, dy, f, g, b, nn, cnt, dA, dC, h, ht, hS, h7, h8, h9, hR, hA, hF, hN => absurd h7 (by omega)
  | _, _, _, _ + 1, 0, _, a, x, c, am, q, act, who, much, Y, F, L, hd, wl, dy, f, g, b, nn, cnt, dA, dC, h, ht, hS, h7, h8, h9, hR, hA, hF, hN => absurd h8 (by omega)
  | _, _, _, _ + 1, _ + 1, 0, a, x, c, am, q, act, who, much, Y, F, L, hd, wl, dy, f, g, b, nn, cnt, dA, dC, h, ht, hS, h7, h8, h9, hR, hA, hF, hN => absurd h9 (by omega)
  | 0, j, t, n7 + 1, n8 + 1, n9 + 1, a, x, c, am, q, act, who, much, Y, F, L, hd, wl, dy, f, g, b, nn, cnt, dA, dC, h, ht, hS, h7, h8, h9, hR, hA, hF, hN => by
    have eN : nI N = nI t := by
      rw [f_X8_fault_9, if_pos (lit_le (by omega) (by omega) (by omega))] at hF
      by_cases e : q = 0
      · rw [if_pos e] at hF
        injection hF with hF
        injection hF with _ hF
        injection hF with e1 hF
        injection hF with e2 hF
        injection hF with e3 e4
        exact e4.symm
      · rw [if_neg e] at hF
        injection hF with hF
        injection hF with e0 hF
        exact absurd e0 (fun q => by
          have := congrArg Int32.toInt q
          rw [nI_toInt (by omega)] at this
          have : (n : Int) = -6 := this
          omega)
    have eN' : N = t := (nI_eq (by omega) (by omega)).mp eN
    refine ⟨Y, F, L, hd, wl, dy, f, g, b, nn, cnt, dA, dC, a, x, c, am, nI t, -6, -6, hR, Or.inl ⟨rfl, eN.symm⟩, ?_, ?_⟩
    · rw [f_X7_runText_42, if_pos (lit_le (by omega) (by omega) (by omega))]
    · rw [f_X8_goDays_31, if_pos (lit_le (by omega) (by omega) (by omega))]
  | m + 1, j, t, n7 + 1, n8 + 1, n9 + 1, a, x, c, am, q, act, who, much, Y, F, L, hd, wl, dy, f, g, b, nn, cnt, dA, dC, h, ht, hS, h7, h8, h9, hR, hA, hF, hN => by
    rw [f_X8_fault_9, if_neg (lit_nle (by omega) (by omega) (by omega)), gI (by omega : j < 60) (by decide), cl (by omega)] at hF
    rw [f_X7_runText_42, if_neg (lit_nle (by omega) (by omega) (by omega)), if_pos rfl]
    obtain ⟨q', act', who', much', t', e1, k1, k2, k3, e4⟩ := stepI (P := P) (m := am) (act := act) (much := much) (by omega : j < n) hn (by omega : t < 60) hS
    rw [e1] at hF
    simp only [Option.bind_some] at hF
    rcases e4 with r | ⟨r, rfl, a', x', c', m', r2, r3⟩ | ⟨r, rfl, rfl, x', c', m', r2, r3⟩
    · rw [if_neg r] at hF
      injection hF with hF
      injection hF with e0 hF
      exact absurd e0 (fun q => by
        have := congrArg Int32.toInt q
        rw [nI_toInt (by omega)] at this
        have : (j : Int) = -6 := this
        omega)
    · rw [if_pos r, p1] at hF
      rw [r2]
      simp only [Option.bind_some, if_pos]
      rw [p1]
      exact daysI hn m (j + 1) t' n7 (n8 + 1) n9 a' x' c' m' q' act' who' much' Y F L hd wl dy f g b nn cnt dA dC (by omega) (by omega) r3 (by omega) (by omega) (by omega) hR hA hF hN
    · rw [if_pos r, p1] at hF
      obtain ⟨g1, g2, g3, N', g4, g5, g6⟩ := readKeeps hn m (j + 1) (t + 1) n9 0 0 0 0 0 act' who' much' (by omega) (by omega) (Or.inl ⟨rfl, rfl⟩) (by omega) hF
      have gN : N = N' := (nI_eq (by omega) (by omega)).mp g4
      rw [← g1 t (by omega), ← g2 t (by omega), ← g3 t (by omega)] at r3
      rw [r2]
      simp only [Option.bind_some, if_neg (show ¬ (1 : Int32) = 0 by decide)]
      rw [p1, f_X8_goDays_31, if_neg (lit_nle (by omega) (by omega) (by omega)), if_neg (show ¬ (0 : Int32) ≤ -6 by decide), gI (by omega : t < 60) (by decide), cl (by omega)]
      rcases takeI (by omega : t < 60) hR r3 f g b nn (-6) (-6) cnt dA dC hA with ⟨w, f', g', b', w1', w2', s1, s2⟩ | ⟨cc, dA', dC', Y', F', L', hd', wl', dy', f', gg, g', bb, b', nn', s1, s2, s3, s4, s5⟩
      · rw [s1, s2]
        simp only [Option.bind_some, if_neg w1', if_neg w2']
        obtain ⟨z7, rfl⟩ : ∃ z, n7 = z + 1 := ⟨n7 - 1, by omega⟩
        obtain ⟨z8, rfl⟩ : ∃ z, n8 = z + 1 := ⟨n8 - 1, by omega⟩
        have tz : (0 : Int32) ≤ nI t := lit_le (a := 0) (by decide) (by omega) (by omega)
        have nz : ¬ nI t = (-6 : Int32) := by
          intro e
          rw [e] at tz
          exact absurd tz (by decide)
        refine ⟨Y, F, L, hd, wl, dy, f', g', b', nn, cnt, dA, dC, 0, x', c', m', nI t, nI t, w, hR, Or.inr ⟨nz, tz⟩, ?_, ?_⟩
        · rw [f_X7_runText_42, if_neg nz, ite_self]
        · rw [f_X8_goDays_31, if_pos tz, ite_self]
      · rw [s1, s2]
        simp only [Option.bind_some, if_pos (show (0 : Int32) ≤ 0 by decide), if_pos]
        rw [s3]
        simp only [Option.bind_some]
        rw [p1]
        exact daysI hn m (j + 1) (t + 1) n7 n8 n9 0 x' c' m' 0 act' who' much' Y' F' L' hd' wl' dy' f' g' b' nn' (cnt + cc) dA' dC' (by omega) (by omega) (Or.inl ⟨rfl, rfl⟩) (by omega) (by omega) (by omega) s4 s5 hF hN
