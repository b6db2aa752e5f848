/-! copies -/
def seg (j n : Nat) (src dst : Nat → Int32) : Nat → Int32 := fun i => if j ≤ i ∧ i < n then src i else dst i
theorem seg_end {n : Nat} {src dst : Nat → Int32} : seg n n src dst = dst := by
  funext i
  unfold seg
  rw [if_neg (by omega)]
theorem upd_at (f : Nat → Int32) (k i : Nat) (x : Int32) : upd f k x i = if i = k then x else f i := rfl
theorem seg_step {j n : Nat} {src dst : Nat → Int32} (h : j < n) : seg (j + 1) n src (upd dst j (src j)) = seg j n src dst := by
  funext i
  unfold seg
  rw [upd_at]
  by_cases e : i = j
  · subst e
    rw [if_neg (by omega), if_pos rfl, if_pos ⟨Nat.le_refl _, h⟩]
  · by_cases c : j + 1 ≤ i ∧ i < n
    · rw [if_pos c, if_pos ⟨by omega, c.2⟩]
    · rw [if_neg c, if_neg e, if_neg (by omega)]
theorem seg_all {n : Nat} {src dst : Nat → Int32} (h1 : Zr n src) (h2 : Zr n dst) : seg 0 n src dst = src := by
  funext i
  unfold seg
  by_cases c : 0 ≤ i ∧ i < n
  · rw [if_pos c]
  · rw [if_neg c, h1 i (by omega), h2 i (by omega)]
theorem seg_in {n i : Nat} {src dst : Nat → Int32} (h : i < n) : seg 0 n src dst i = src i := if_pos ⟨Nat.zero_le _, h⟩
theorem seg_Zr {n : Nat} {src dst : Nat → Int32} (h2 : Zr n dst) : Zr n (seg 0 n src dst) := by
  intro i hi
  unfold seg
  rw [if_neg (by omega), h2 i hi]
theorem upd_same {f : Nat → Int32} {k : Nat} : upd f k (f k) = f := by
  funext i
  rw [upd_at]
  by_cases e : i = k
  · rw [if_pos e, e]
  · rw [if_neg e]
theorem lit_le {a b : Nat} (ha : a < 2 ^ 31) (hb : b < 2 ^ 31) (h : a ≤ b) : nI a ≤ nI b := (nI_leI ha hb).mpr h
theorem lit_nle {a b : Nat} (ha : a < 2 ^ 31) (hb : b < 2 ^ 31) (h : ¬ a ≤ b) : ¬ nI a ≤ nI b := fun q => h ((nI_leI ha hb).mp q)
theorem lit_lt {a b : Nat} (ha : a < 2 ^ 31) (hb : b < 2 ^ 31) (h : a < b) : nI a < nI b := (nI_ltI ha hb).mpr h
theorem lit_nlt {a b : Nat} (ha : a < 2 ^ 31) (hb : b < 2 ^ 31) (h : ¬ a < b) : ¬ nI a < nI b := fun q => h ((nI_ltI ha hb).mp q)
theorem lit_ne {a b : Nat} (ha : a < 2 ^ 31) (hb : b < 2 ^ 31) (h : ¬ a = b) : ¬ nI a = nI b := fun q => h ((nI_eq ha hb).mp q)
theorem p1 (a : Nat) : nI a + (1 : Int32) = nI (a + 1) := nI_1 a
theorem copy2 {sy sf : Nat → Int32} {kx} : ∀ (m j fuel : Nat) (dy df : Nat → Int32), j + m = 10 → m < fuel → f_X5_copyFrom_2 sy sf kx fuel (nI j) dy df = kx (seg j 10 sy dy) (seg j 10 sf df)
  | 0, j, 0, dy, df, h, hf => absurd hf (by omega)
  | 0, j, f + 1, dy, df, h, hf => by
    have e : j = 10 := by omega
    subst e
    rw [f_X5_copyFrom_2, show (10 : Int32) = nI 10 from rfl, if_pos (lit_le (a := 10) (by decide) (by decide) (Nat.le_refl 10)), seg_end, seg_end]
  | m + 1, j, 0, dy, df, h, hf => absurd hf (by omega)
  | m + 1, j, f + 1, dy, df, h, hf => by
    rw [f_X5_copyFrom_2, show (10 : Int32) = nI 10 from rfl, if_neg (lit_nle (a := 10) (b := j) (by decide) (by omega) (by omega)), gI (by omega : j < 10) (by decide), cl (by omega), p1, copy2 m (j + 1) f _ _ (by omega) (by omega), seg_step (by omega), seg_step (by omega)]
theorem copy40 {sl : Nat → Int32} {kx} : ∀ (m j fuel : Nat) (dl : Nat → Int32), j + m = 9 → m < fuel → f_X5_copyFrom_40 sl kx fuel (nI j) dl = kx (seg j 9 sl dl)
  | 0, j, 0, dl, h, hf => absurd hf (by omega)
  | 0, j, f + 1, dl, h, hf => by
    have e : j = 9 := by omega
    subst e
    rw [f_X5_copyFrom_40, show (9 : Int32) = nI 9 from rfl, if_pos (lit_le (a := 9) (by decide) (by decide) (Nat.le_refl 9)), seg_end]
  | m + 1, j, 0, dl, h, hf => absurd hf (by omega)
  | m + 1, j, f + 1, dl, h, hf => by
    rw [f_X5_copyFrom_40, show (9 : Int32) = nI 9 from rfl, if_neg (lit_nle (a := 9) (b := j) (by decide) (by omega) (by omega)), gI (by omega : j < 9) (by decide), cl (by omega), p1, copy40 m (j + 1) f _ (by omega) (by omega), seg_step (by omega)]
theorem copyRow (dy df dl : Nat → Int32) (dh dw dd : Int32) (sy sf sl : Nat → Int32) (sh sw sd : Int32) : f_X5_copyFrom dy df dl dh dw dd sy sf sl sh sw sd = some (seg 0 10 sy dy, seg 0 10 sf df, seg 0 9 sl dl, sh, sw, sd) := by
  unfold f_X5_copyFrom
  rw [show (0 : Int32) = nI 0 from rfl, copy2 10 0 2000 dy df (by decide) (by decide), copy40 9 0 2000 dl (by decide) (by decide)]
theorem copy6 {sy sf : Nat → Int32} {kx} : ∀ (m j fuel : Nat) (dy df : Nat → Int32), j + m = 8 → m < fuel → f_X6_copyFrom_2 sy sf kx fuel (nI j) dy df = kx (seg j 8 sy dy) (seg j 8 sf df)
  | 0, j, 0, dy, df, h, hf => absurd hf (by omega)
  | 0, j, f + 1, dy, df, h, hf => by
    have e : j = 8 := by omega
    subst e
    rw [f_X6_copyFrom_2, show (8 : Int32) = nI 8 from rfl, if_pos (lit_le (a := 8) (by decide) (by decide) (Nat.le_refl 8)), seg_end, seg_end]
  | m + 1, j, 0, dy, df, h, hf => absurd hf (by omega)
  | m + 1, j, f + 1, dy, df, h, hf => by
    rw [f_X6_copyFrom_2, show (8 : Int32) = nI 8 from rfl, if_neg (lit_nle (a := 8) (b := j) (by decide) (by omega) (by omega)), gI (by omega : j < 8) (by decide), cl (by omega), p1, copy6 m (j + 1) f _ _ (by omega) (by omega), seg_step (by omega), seg_step (by omega)]
theorem copySights (dy df : Nat → Int32) (dn : Int32) (sy sf : Nat → Int32) (sn : Int32) : f_X6_copyFrom dy df dn sy sf sn = some (seg 0 8 sy dy, seg 0 8 sf df, sn) := by
  unfold f_X6_copyFrom
  rw [show (0 : Int32) = nI 0 from rfl, copy6 8 0 2000 dy df (by decide) (by decide)]
/-! the model's rows passed to and from an image -/
def putR (at_ j n : Nat) (row kept : Nat → Int32) : Nat → Int32 := fun i => if at_ + j ≤ i ∧ i < at_ + n then row (i - at_) else kept i
theorem putR_end {at_ n : Nat} {row kept : Nat → Int32} : putR at_ n n row kept = kept := by
  funext i
  unfold putR
  rw [if_neg (by omega)]
theorem putR_step {at_ j n : Nat} {row kept : Nat → Int32} (h : j < n) : putR at_ (j + 1) n row (upd kept (at_ + j) (row j)) = putR at_ j n row kept := by
  funext i
  unfold putR
  rw [upd_at]
  by_cases e : i = at_ + j
  · subst e
    rw [if_neg (by omega), if_pos rfl, if_pos (by omega), Nat.add_sub_cancel_left]
  · by_cases c : at_ + (j + 1) ≤ i ∧ i < at_ + n
    · rw [if_pos c, if_pos (by omega)]
    · rw [if_neg c, if_neg e, if_neg (by omega)]
theorem passW {at_ N : Nat} {kept : Nat → Int32} {x : Int32} (h : at_ < 120) : f_X8_pass kept (nI at_) 1 x = some (x, upd kept at_ x, nI (at_ + 1)) := by
  unfold f_X8_pass
  rw [if_neg (by decide), gI h (by decide), cl (by omega), p1]
theorem passR {at_ : Nat} {kept : Nat → Int32} {x : Int32} (h : at_ < 120) : f_X8_pass kept (nI at_) 0 x = some (kept at_, kept, nI (at_ + 1)) := by
  unfold f_X8_pass
  rw [if_pos rfl, gI h (by decide), cl (by omega), p1, upd_same]
theorem passRowW {at_ N : Nat} {row : Nat → Int32} (hN : N ≤ 10) (ha : at_ + N ≤ 120) : ∀ (m j fuel : Nat) (kept : Nat → Int32), j + m = N → m < fuel → f_X8_passRow_2 N (nI N) 1 fuel (nI j) kept (nI (at_ + j)) row = some (putR at_ j N row kept, nI (at_ + N), row)
  | 0, j, 0, kept, h, hf => absurd hf (by omega)
  | 0, j, f + 1, kept, h, hf => by
    have e : j = N := by omega
    subst e
    rw [f_X8_passRow_2, if_pos (lit_le (by omega) (by omega) (Nat.le_refl j)), putR_end]
  | m + 1, j, 0, kept, h, hf => absurd hf (by omega)
  | m + 1, j, f + 1, kept, h, hf => by
    rw [f_X8_passRow_2, if_neg (lit_nle (by omega) (by omega) (by omega)), gI (by omega : j < N) (by omega), cl (by omega), passW (N := N) (by omega)]
    simp only [Option.bind_some]
    rw [p1, upd_same, show at_ + j + 1 = at_ + (j + 1) by omega, passRowW hN ha m (j + 1) f _ (by omega) (by omega), putR_step (by omega)]
theorem passRowR {at_ N : Nat} {kept : Nat → Int32} (hN : N ≤ 10) (ha : at_ + N ≤ 120) : ∀ (m j fuel : Nat) (row : Nat → Int32), j + m = N → m < fuel → f_X8_passRow_2 N (nI N) 0 fuel (nI j) kept (nI (at_ + j)) row = some (kept, nI (at_ + N), seg j N (fun i => kept (at_ + i)) row)
  | 0, j, 0, row, h, hf => absurd hf (by omega)
  | 0, j, f + 1, row, h, hf => by
    have e : j = N := by omega
    subst e
    rw [f_X8_passRow_2, if_pos (lit_le (by omega) (by omega) (Nat.le_refl j)), seg_end]
  | m + 1, j, 0, row, h, hf => absurd hf (by omega)
  | m + 1, j, f + 1, row, h, hf => by
    rw [f_X8_passRow_2, if_neg (lit_nle (by omega) (by omega) (by omega)), gI (by omega : j < N) (by omega), cl (by omega), passR (by omega)]
    simp only [Option.bind_some]
    rw [p1, show at_ + j + 1 = at_ + (j + 1) by omega, passRowR hN ha m (j + 1) f _ (by omega) (by omega)]
    rw [show upd row j (kept (at_ + j)) = upd row j ((fun i => kept (at_ + i)) j) from rfl, seg_step (by omega)]
theorem passRowW0 {at_ N : Nat} {row kept : Nat → Int32} (hN : N ≤ 10) (ha : at_ + N ≤ 120) : f_X8_passRow N kept (nI at_) 1 row (nI N) = some (putR at_ 0 N row kept, nI (at_ + N), row) := passRowW hN ha N 0 2000 kept (by omega) (by omega)
theorem passRowR0 {at_ N : Nat} {row kept : Nat → Int32} (hN : N ≤ 10) (ha : at_ + N ≤ 120) : f_X8_passRow N kept (nI at_) 0 row (nI N) = some (kept, nI (at_ + N), seg 0 N (fun i => kept (at_ + i)) row) := passRowR hN ha N 0 2000 row (by omega) (by omega)
/-- all of an image, written at o -/
def imgW (o : Nat) (Y F L W M : Nat → Int32) (hd wl dy sn : Int32) (kept : Nat → Int32) : Nat → Int32 :=
  putR (o + 41) 0 8 M (putR (o + 33) 0 8 W (putR (o + 24) 0 9 L (putR (o + 14) 0 10 F (putR (o + 4) 0 10 Y (upd (upd (upd (upd kept o hd) (o + 1) wl) (o + 2) dy) (o + 3) sn)))))
theorem passAllW {o : Nat} (ho : o + 49 ≤ 120) (Y F L W M : Nat → Int32) (hd wl dy sn : Int32) (kept : Nat → Int32) : f_X8_passAll Y F L hd wl dy W M sn kept (nI o) 1 = some (Y, F, L, hd, wl, dy, W, M, sn, imgW o Y F L W M hd wl dy sn kept, nI (o + 49)) := by
  unfold f_X8_passAll
  rw [passW (N := 0) (by omega)]
  simp only [Option.bind_some]
  rw [passW (N := 0) (by omega)]
  simp only [Option.bind_some]
  rw [passW (N := 0) (by omega)]
  simp only [Option.bind_some]
  rw [passW (N := 0) (by omega)]
  simp only [Option.bind_some]
  rw [show (10 : Int32) = nI 10 from rfl, show (9 : Int32) = nI 9 from rfl, show (8 : Int32) = nI 8 from rfl, passRowW0 (at_ := o + 1 + 1 + 1 + 1) (by decide) (by omega)]
  simp only [Option.bind_some]
  rw [passRowW0 (at_ := o + 1 + 1 + 1 + 1 + 10) (by decide) (by omega)]
  simp only [Option.bind_some]
  rw [passRowW0 (at_ := o + 1 + 1 + 1 + 1 + 10 + 10) (by decide) (by omega)]
  simp only [Option.bind_some]
  rw [passRowW0 (at_ := o + 1 + 1 + 1 + 1 + 10 + 10 + 9) (by decide) (by omega)]
  simp only [Option.bind_some]
  rw [passRowW0 (at_ := o + 1 + 1 + 1 + 1 + 10 + 10 + 9 + 8) (by decide) (by omega)]
  rfl
theorem passAllR {o : Nat} (ho : o + 49 ≤ 120) (Y F L W M : Nat → Int32) (hd wl dy sn : Int32) (kept : Nat → Int32) : f_X8_passAll Y F L hd wl dy W M sn kept (nI o) 0 = some (seg 0 10 (fun i => kept (o + 4 + i)) Y, seg 0 10 (fun i => kept (o + 14 + i)) F, seg 0 9 (fun i => kept (o + 24 + i)) L, kept o, kept (o + 1), kept (o + 2), seg 0 8 (fun i => kept (o + 33 + i)) W, seg 0 8 (fun i => kept (o + 41 + i)) M, kept (o + 3), kept, nI (o + 49)) := by
  unfold f_X8_passAll
  rw [passR (by omega)]
  simp only [Option.bind_some]
  rw [passR (by omega)]
  simp only [Option.bind_some]
  rw [passR (by omega)]
  simp only [Option.bind_some]
  rw [passR (by omega)]
  simp only [Option.bind_some]
  rw [show (10 : Int32) = nI 10 from rfl, show (9 : Int32) = nI 9 from rfl, show (8 : Int32) = nI 8 from rfl, passRowR0 (at_ := o + 1 + 1 + 1 + 1) (by decide) (by omega)]
  simp only [Option.bind_some]
  rw [passRowR0 (at_ := o + 1 + 1 + 1 + 1 + 10) (by decide) (by omega)]
  simp only [Option.bind_some]
  rw [passRowR0 (at_ := o + 1 + 1 + 1 + 1 + 10 + 10) (by decide) (by omega)]
  simp only [Option.bind_some]
  rw [passRowR0 (at_ := o + 1 + 1 + 1 + 1 + 10 + 10 + 9) (by decide) (by omega)]
  simp only [Option.bind_some]
  rw [passRowR0 (at_ := o + 1 + 1 + 1 + 1 + 10 + 10 + 9 + 8) (by decide) (by omega)]
  rfl
