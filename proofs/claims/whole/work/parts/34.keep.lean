/-! the model's row kept and put back -/
def Kept (H Y F L : Nat → Int32) (hd wl dy : Int32) : Prop :=
  (∀ i, i < 10 → H i = Y i ∧ H (10 + i) = F i) ∧ (∀ i, i < 9 → H (20 + i) = L i) ∧ H 29 = hd ∧ H 30 = wl ∧ H 31 = dy
theorem kp2 {Y F : Nat → Int32} {kx} : ∀ (m j fuel : Nat) (H : Nat → Int32), j + m = 10 → m < fuel → (∀ i, i < j → H i = Y i ∧ H (10 + i) = F i) → ∃ H', (∀ i, i < 10 → H' i = Y i ∧ H' (10 + i) = F i) ∧ f_X8_keepNow_2 Y F kx fuel (nI j) H = kx H'
  | _, _, 0, H, h, hf, hp => absurd hf (by omega)
  | 0, j, f + 1, H, h, hf, hp => by
    have e : j = 10 := by omega
    subst e
    refine ⟨H, hp, ?_⟩
    rw [f_X8_keepNow_2, show (10 : Int32) = nI 10 from rfl, if_pos (lit_le (a := 10) (by decide) (by decide) (Nat.le_refl 10))]
  | m + 1, j, f + 1, H, h, hf, hp => by
    rw [f_X8_keepNow_2, show (10 : Int32) = nI 10 from rfl, if_neg (lit_nle (a := 10) (b := j) (by decide) (by omega) (by omega)), nI_add, gI (by omega : j < 10) (by decide), gI (by omega : j < 32) (by decide), gI (by omega : 10 + j < 32) (by decide), cl (by omega), cl (by omega), p1]
    refine kp2 m (j + 1) f _ (by omega) (by omega) (fun i hi => ?_)
    rw [upd_at, upd_at, upd_at, upd_at]
    by_cases e : i = j
    · subst e
      rw [if_neg (by omega), if_pos rfl, if_pos rfl]
      exact ⟨rfl, rfl⟩
    · rw [if_neg (by omega), if_neg e, if_neg (by omega), if_neg (by omega)]
      exact hp i (by omega)
theorem kp43 {L Y F : Nat → Int32} {kx} : ∀ (m j fuel : Nat) (H : Nat → Int32), j + m = 9 → m < fuel → (∀ i, i < 10 → H i = Y i ∧ H (10 + i) = F i) → (∀ i, i < j → H (20 + i) = L i) → ∃ H', (∀ i, i < 10 → H' i = Y i ∧ H' (10 + i) = F i) ∧ (∀ i, i < 9 → H' (20 + i) = L i) ∧ f_X8_keepNow_43 L kx fuel (nI j) H = kx H'
  | _, _, 0, H, h, hf, hp, hq => absurd hf (by omega)
  | 0, j, f + 1, H, h, hf, hp, hq => by
    have e : j = 9 := by omega
    subst e
    refine ⟨H, hp, hq, ?_⟩
    rw [f_X8_keepNow_43, show (9 : Int32) = nI 9 from rfl, if_pos (lit_le (a := 9) (by decide) (by decide) (Nat.le_refl 9))]
  | m + 1, j, f + 1, H, h, hf, hp, hq => by
    rw [f_X8_keepNow_43, show (9 : Int32) = nI 9 from rfl, show (20 : Int32) = nI 20 from rfl, if_neg (lit_nle (a := 9) (b := j) (by decide) (by omega) (by omega)), nI_add, gI (by omega : j < 9) (by decide), gI (by omega : 20 + j < 32) (by decide), cl (by omega), cl (by omega), p1]
    refine kp43 m (j + 1) f _ (by omega) (by omega) (fun i hi => ?_) (fun i hi => ?_)
    · rw [upd_at, upd_at, if_neg (by omega), if_neg (by omega)]
      exact hp i hi
    · rw [upd_at]
      by_cases e : i = j
      · subst e
        rw [if_pos rfl]
      · rw [if_neg (by omega)]
        exact hq i (by omega)
theorem keepI (Y F L : Nat → Int32) (hd wl dy : Int32) (H0 : Nat → Int32) : ∃ H, f_X8_keepNow Y F L hd wl dy H0 = some H ∧ Kept H Y F L hd wl dy := by
  unfold f_X8_keepNow
  obtain ⟨H1, h1, e1⟩ := kp2 (Y := Y) (F := F) (kx := fun had_5 => f_X8_keepNow_43 L (fun had_9 => some ((upd (upd (upd had_9 (29 : Int32).toNatClampNeg hd) (30 : Int32).toNatClampNeg wl) (31 : Int32).toNatClampNeg dy))) 2000 (0 : Int32) had_5) 10 0 2000 H0 (by decide) (by decide) (fun i hi => absurd hi (by omega))
  obtain ⟨H2, h2, h3, e2⟩ := kp43 (L := L) (Y := Y) (F := F) (kx := fun had_9 => some ((upd (upd (upd had_9 (29 : Int32).toNatClampNeg hd) (30 : Int32).toNatClampNeg wl) (31 : Int32).toNatClampNeg dy))) 9 0 2000 H1 (by decide) (by decide) h1 (fun i hi => absurd hi (by omega))
  refine ⟨_, e1.trans e2, ⟨fun i hi => ?_, fun i hi => ?_, ?_, ?_, ?_⟩⟩
  · rw [show (29 : Int32).toNatClampNeg = 29 from rfl, show (30 : Int32).toNatClampNeg = 30 from rfl, show (31 : Int32).toNatClampNeg = 31 from rfl, upd_at, upd_at, upd_at, upd_at, upd_at, upd_at, if_neg (by omega), if_neg (by omega), if_neg (by omega), if_neg (by omega), if_neg (by omega), if_neg (by omega)]
    exact h2 i hi
  · rw [show (29 : Int32).toNatClampNeg = 29 from rfl, show (30 : Int32).toNatClampNeg = 30 from rfl, show (31 : Int32).toNatClampNeg = 31 from rfl, upd_at, upd_at, upd_at, if_neg (by omega), if_neg (by omega), if_neg (by omega)]
    exact h3 i hi
  · rfl
  · rfl
  · rfl
theorem bk2 {H : Nat → Int32} {kx} : ∀ (m j fuel : Nat) (Y F : Nat → Int32), j + m = 10 → m < fuel → f_X8_back_2 H kx fuel (nI j) Y F = kx (seg j 10 H Y) (seg j 10 (fun i => H (10 + i)) F)
  | _, _, 0, Y, F, h, hf => absurd hf (by omega)
  | 0, j, f + 1, Y, F, h, hf => by
    have e : j = 10 := by omega
    subst e
    rw [f_X8_back_2, show (10 : Int32) = nI 10 from rfl, if_pos (lit_le (a := 10) (by decide) (by decide) (Nat.le_refl 10)), seg_end, seg_end]
  | m + 1, j, f + 1, Y, F, h, hf => by
    rw [f_X8_back_2, show (10 : Int32) = nI 10 from rfl, if_neg (lit_nle (a := 10) (b := j) (by decide) (by omega) (by omega)), nI_add, gI (by omega : j < 32) (by decide), gI (by omega : j < 10) (by decide), gI (by omega : 10 + j < 32) (by decide), cl (by omega), cl (by omega), p1, bk2 m (j + 1) f _ _ (by omega) (by omega), seg_step (by omega), seg_step (src := fun i => H (10 + i)) (by omega)]
theorem bk43 {H : Nat → Int32} {kx} : ∀ (m j fuel : Nat) (L : Nat → Int32), j + m = 9 → m < fuel → f_X8_back_43 H kx fuel (nI j) L = kx (seg j 9 (fun i => H (20 + i)) L)
  | _, _, 0, L, h, hf => absurd hf (by omega)
  | 0, j, f + 1, L, h, hf => by
    have e : j = 9 := by omega
    subst e
    rw [f_X8_back_43, show (9 : Int32) = nI 9 from rfl, if_pos (lit_le (a := 9) (by decide) (by decide) (Nat.le_refl 9)), seg_end]
  | m + 1, j, f + 1, L, h, hf => by
    rw [f_X8_back_43, show (9 : Int32) = nI 9 from rfl, show (20 : Int32) = nI 20 from rfl, if_neg (lit_nle (a := 9) (b := j) (by decide) (by omega) (by omega)), nI_add, gI (by omega : 20 + j < 32) (by decide), gI (by omega : j < 9) (by decide), cl (by omega), cl (by omega), p1, bk43 m (j + 1) f _ (by omega) (by omega), seg_step (src := fun i => H (20 + i)) (by omega)]
theorem seg_to {n : Nat} {s Y Y' : Nat → Int32} (h : ∀ i, i < n → s i = Y i) (z : Zr n Y) (z' : Zr n Y') : seg 0 n s Y' = Y := by
  funext i
  unfold seg
  by_cases c : i < n
  · rw [if_pos ⟨Nat.zero_le _, c⟩, h i c]
  · rw [if_neg (by omega), z i (by omega), z' i (by omega)]
theorem backI {H Y F L Y' F' L' : Nat → Int32} {hd wl dy hd' wl' dy' : Int32} (hK : Kept H Y F L hd wl dy) (hR : RowOK Y F L hd wl dy) (hR' : RowOK Y' F' L' hd' wl' dy') (u : Int32) : f_X8_back Y' F' L' hd' wl' dy' H u = some (u, Y, F, L, hd, wl, dy) := by
  obtain ⟨z1, z2, z3⟩ := hR.zr
  obtain ⟨y1, y2, y3⟩ := hR'.zr
  unfold f_X8_back
  rw [show (0 : Int32) = nI 0 from rfl, bk2 10 0 2000 _ _ (by decide) (by decide), bk43 9 0 2000 _ (by decide) (by decide), seg_to (fun i hi => (hK.1 i hi).1) z1 y1, seg_to (fun i hi => (hK.1 i hi).2) z2 y2, seg_to (fun i hi => hK.2.1 i hi) z3 y3, show (29 : Int32).toNatClampNeg = 29 from rfl, show (30 : Int32).toNatClampNeg = 30 from rfl, show (31 : Int32).toNatClampNeg = 31 from rfl, hK.2.2.1, hK.2.2.2.1, hK.2.2.2.2]
