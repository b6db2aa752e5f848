/-! an act of the text taken by both -/
theorem leastD : ∀ z, z < 1024 → z ≠ 0 → f_X8_leastOf (nI z) = f_X7_leastBit (nI z) ∧ (f_X8_leastOf (nI z)).isSome = true := by decide +kernel
theorem takeI {Y F L : Nat → Int32} {hd wl dy c x m : Int32} {A Wh Mu : Nat → Int32} {t : Nat} (ht : t < 60) (hR : RowOK Y F L hd wl dy) (hS : SameAct c (A t) x m (Wh t) (Mu t)) (f g : Nat → Int32) (b nn ba bw cnt dA dC : Int32) (hA : dA = -6 ∨ 0 ≤ dA) :
    (∃ (w : Int32) (f' g' : Nat → Int32) (b' : Int32), ¬ w ≤ 0 ∧ ¬ w = 0 ∧ f_X0_take (nI t) ba bw cnt dA dC Y F L f hd wl dy c x m = some (nI t, nI t, w, cnt, dA, dC, Y, F, L, f', hd, wl, dy) ∧ f_X8_whyNot Y L hd wl dy g b (A t) (Wh t) (Mu t) = some (w, g', b')) ∨
    (∃ (cc dA' dC' : Int32) (Y' F' L' : Nat → Int32) (hd' wl' dy' : Int32) (f' g1 g' : Nat → Int32) (b1 b' nn' : Int32), f_X0_take (nI t) ba bw cnt dA dC Y F L f hd wl dy c x m = some (nI t + 1, ba, bw, cnt + cc, dA', dC', Y', F', L', f', hd', wl', dy') ∧ f_X8_whyNot Y L hd wl dy g b (A t) (Wh t) (Mu t) = some (0, g1, b1) ∧
      f_X8_goOne Y F L hd wl dy A Wh Mu g1 b1 cnt nn dA dC (nI t) = some (Y', F', L', hd', wl', dy', g', b', cnt + cc, nn', dA', dC') ∧ RowOK Y' F' L' hd' wl' dy' ∧ (dA' = -6 ∨ 0 ≤ dA')) := by
  obtain ⟨w, f1, g1, b1, q1, q2, q4, q3⟩ := bothAct hR hS f g b
  by_cases w0 : w = 0
  · subst w0
    refine Or.inr ?_
    obtain ⟨z, cc, Y', F', L', hd', wl', dy', f2, g2, b2, nn', z1, t2, t3, t4, t5, t6⟩ := q3 rfl cnt 0
    have en : nn' = nI z := by
      rcases t5 with e | ⟨e1, e2⟩
      · exact e
      · rw [e1, e2]; rfl
    subst en
    by_cases z0 : z = 0
    · subst z0
      refine ⟨cc, dA, dC, Y', F', L', hd', wl', dy', f2, g1, g2, b1, b2, nI 0, ?_, q2, ?_, t6, hA⟩
      · unfold f_X0_take
        rw [q1]
        simp only [Option.bind_some, if_pos, t3, t2, if_pos (show nI 0 = (0 : Int32) from rfl)]
      · unfold f_X8_goOne
        rw [gI ht (by decide), cl (by omega), t4]
        simp only [Option.bind_some, if_pos (show nI 0 = (0 : Int32) from rfl)]
    · have nz : ¬ nI z = (0 : Int32) := lit_ne (b := 0) (by omega) (by decide) z0
      rcases hA with rfl | hA
      · obtain ⟨l1, l2⟩ := leastD z z1 z0
        obtain ⟨v, hv⟩ := Option.isSome_iff_exists.mp l2
        rw [hv] at l1
        refine ⟨cc, nI t, v, Y', F', L', hd', wl', dy', f2, g1, g2, b1, b2, nI z, ?_, q2, ?_, t6, Or.inr (lit_le (a := 0) (by decide) (by omega) (by omega))⟩
        · unfold f_X0_take
          rw [q1]
          simp only [Option.bind_some, if_pos, t3, t2, if_neg nz, ← l1]
        · unfold f_X8_goOne
          rw [gI ht (by decide), cl (by omega), t4]
          simp only [Option.bind_some, if_neg nz, if_neg (show ¬ (0 : Int32) ≤ -6 by decide), hv]
      · have na : ¬ dA = (-6 : Int32) := by
          intro e
          subst e
          exact absurd hA (by decide)
        refine ⟨cc, dA, dC, Y', F', L', hd', wl', dy', f2, g1, g2, b1, b2, nI z, ?_, q2, ?_, t6, Or.inr hA⟩
        · unfold f_X0_take
          rw [q1]
          simp only [Option.bind_some, if_pos, t3, t2, if_neg nz, if_neg na]
        · unfold f_X8_goOne
          rw [gI ht (by decide), cl (by omega), t4]
          simp only [Option.bind_some, if_neg nz, if_pos hA]
  · refine Or.inl ⟨w, f1, g1, b1, ?_, w0, ?_, q2⟩
    · intro h
      rw [i32_le] at h q4
      apply w0
      rw [← Int32.toInt_inj]
      exact Int.le_antisymm h q4
    · unfold f_X0_take
      rw [q1]
      simp only [Option.bind_some, if_neg w0]
/-- what was read before stays -/
theorem readKeeps {P : Nat → Int32} {n : Nat} (hn : n ≤ 60) {A Wh Mu : Nat → Int32} {N : Int32} : ∀ (m j t f8 : Nat) (a x c am q : Int32) (act who much : Nat → Int32), j + m = n → t ≤ j → Rel a x c q (who t) → m < f8 →
    f_X8_fault_9 P (nI n) (fun u1_5 act_6 who_7 much_8 acts_9 => if u1_5 = 0 then some ((-6 : Int32), act_6, who_7, much_8, acts_9) else some (nI n, act_6, who_7, much_8, acts_9)) f8 q (nI j) act who much (nI t) = some (-6, A, Wh, Mu, N) → Bef t A act ∧ Bef t Wh who ∧ Bef t Mu much ∧ ∃ N' : Nat, N = nI N' ∧ t ≤ N' ∧ N' ≤ 60
  | _, _, _, 0, a, x, c, am, q, act, who, much, h, ht, hS, h8, hF => absurd h8 (by omega)
  | 0, j, t, n8 + 1, a, x, c, am, q, act, who, much, h, ht, hS, h8, hF => by
    rw [f_X8_fault_9, if_pos (lit_le (by omega) (by omega) (by omega))] at hF
    by_cases e : q = 0
    · rw [if_pos e] at hF
      injection hF with hF
      injection hF with _ hF
      injection hF with e1 hF
      injection hF with e2 hF
      injection hF with e3 e4
      subst e1 e2 e3 e4
      exact ⟨Bef.rfl, Bef.rfl, Bef.rfl, t, rfl, Nat.le_refl _, by omega⟩
    · rw [if_neg e] at hF
      injection hF with hF
      injection hF with e0 hF
      exact absurd e0 (fun q => by
        have := congrArg Int32.toInt q
        rw [nI_toInt (by omega)] at this
        have : (n : Int) = -6 := this
        omega)
  | m + 1, j, t, n8 + 1, a, x, c, am, q, act, who, much, h, ht, hS, h8, hF => by
    rw [f_X8_fault_9, if_neg (lit_nle (by omega) (by omega) (by omega)), gI (by omega : j < 60) (by decide), cl (by omega)] at hF
    obtain ⟨q', act', who', much', t', e1, k1, k2, k3, e4⟩ := stepI (P := P) (m := am) (act := act) (much := much) (by omega : j < n) hn (by omega : t < 60) hS
    rw [e1] at hF
    simp only [Option.bind_some] at hF
    rcases e4 with r | ⟨r, rfl, a', x', c', m', _, r3⟩ | ⟨r, rfl, rfl, _, _, _, _, _⟩
    · rw [if_neg r] at hF
      injection hF with hF
      injection hF with e0 hF
      exact absurd e0 (fun q => by
        have := congrArg Int32.toInt q
        rw [nI_toInt (by omega)] at this
        have : (j : Int) = -6 := this
        omega)
    · rw [if_pos r, p1] at hF
      obtain ⟨g1, g2, g3, N', g4, g5, g6⟩ := readKeeps hn m (j + 1) t' n8 a' x' c' m' q' act' who' much' (by omega) (by omega) r3 (by omega) hF
      exact ⟨fun i hi => (g1 i hi).trans (k1 i hi), fun i hi => (g2 i hi).trans (k2 i hi), fun i hi => (g3 i hi).trans (k3 i hi), N', g4, g5, g6⟩
    · rw [if_pos r, p1] at hF
      obtain ⟨g1, g2, g3, N', g4, g5, g6⟩ := readKeeps hn m (j + 1) (t + 1) n8 0 0 0 0 0 act' who' much' (by omega) (by omega) (Or.inl ⟨rfl, rfl⟩) (by omega) hF
      exact ⟨fun i hi => (g1 i (by omega)).trans (k1 i hi), fun i hi => (g2 i (by omega)).trans (k2 i hi), fun i hi => (g3 i (by omega)).trans (k3 i hi), N', g4, by omega, g6⟩
