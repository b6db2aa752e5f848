/-! numbers, ranges -/
theorem i32_lt {a b : Int32} : a < b ↔ a.toInt < b.toInt := Int32.lt_iff_toInt_lt
theorem i32_le {a b : Int32} : a ≤ b ↔ a.toInt ≤ b.toInt := Int32.le_iff_toInt_le
theorem not_lt' {a b : Int32} : ¬ a < b ↔ b ≤ a := by rw [i32_lt, i32_le]; omega
theorem not_le' {a b : Int32} : ¬ a ≤ b ↔ b < a := by rw [i32_lt, i32_le]; omega
theorem isW (v lo hi : Int32) : f_X7_isWithin v lo hi = some (if lo ≤ v ∧ v ≤ hi then 1 else 0) := by
  unfold f_X7_isWithin
  by_cases c1 : v < lo
  · rw [if_pos c1, if_neg (fun h => absurd c1 (not_lt'.mpr h.1))]
  · rw [if_neg c1]
    by_cases c2 : hi < v
    · rw [if_pos c2, if_neg (fun h => absurd c2 (not_lt'.mpr h.2))]
    · rw [if_neg c2, if_pos ⟨not_lt'.mp c1, not_lt'.mp c2⟩]
theorem lgc_lt (x y : Int64) : lg_cmp x y < 0 ↔ x < y := by
  unfold lg_cmp
  by_cases h : x > y
  · rw [if_pos h]
    refine ⟨fun q => absurd q (by decide), fun q => ?_⟩
    rw [gt_iff_lt, Int64.lt_iff_toInt_lt] at h
    rw [Int64.lt_iff_toInt_lt] at q
    omega
  · rw [if_neg h]
    by_cases e : x = y
    · rw [if_pos e]
      refine ⟨fun q => absurd q (by decide), fun q => ?_⟩
      rw [e, Int64.lt_iff_toInt_lt] at q
      omega
    · rw [if_neg e]
      refine ⟨fun _ => ?_, fun _ => by decide⟩
      rw [gt_iff_lt, Int64.lt_iff_toInt_lt] at h
      rw [← Int64.toInt_inj] at e
      rw [Int64.lt_iff_toInt_lt]
      omega
theorem lgc_gt (x y : Int64) : 0 < lg_cmp x y ↔ y < x := by
  unfold lg_cmp
  by_cases h : x > y
  · rw [if_pos h]
    exact ⟨fun _ => h, fun _ => by decide⟩
  · rw [if_neg h]
    refine ⟨fun q => ?_, fun q => absurd q h⟩
    by_cases e : x = y
    · rw [if_pos e] at q; exact absurd q (by decide)
    · rw [if_neg e] at q; exact absurd q (by decide)
theorem inW (v : Int32) {lo hi : Int32} {lo' hi' : Int64} (h1 : lo.toInt64 = lo') (h2 : hi.toInt64 = hi') : f_X8_in v.toInt64 lo' hi' = some (if lo ≤ v ∧ v ≤ hi then 1 else 0) := by
  subst h1
  subst h2
  unfold f_X8_in
  have e1 : v.toInt64 < lo.toInt64 ↔ v < lo := by rw [Int64.lt_iff_toInt_lt, i32_lt, Int32.toInt_toInt64, Int32.toInt_toInt64]
  have e2 : hi.toInt64 < v.toInt64 ↔ hi < v := by rw [Int64.lt_iff_toInt_lt, i32_lt, Int32.toInt_toInt64, Int32.toInt_toInt64]
  by_cases c1 : v < lo
  · rw [if_pos ((lgc_lt _ _).mpr (e1.mpr c1)), if_neg (fun h => absurd c1 (not_lt'.mpr h.1))]
  · rw [if_neg (fun h => c1 (e1.mp ((lgc_lt _ _).mp h)))]
    by_cases c2 : hi < v
    · rw [if_pos ((lgc_gt _ _).mpr (e2.mpr c2)), if_neg (fun h => absurd c2 (not_lt'.mpr h.2))]
    · rw [if_neg (fun h => c2 (e2.mp ((lgc_gt _ _).mp h))), if_pos ⟨not_lt'.mp c1, not_lt'.mp c2⟩]
theorem in_0_9 (v : Int32) : f_X8_in v.toInt64 (0 : Int64) (9 : Int64) = some (if ((0 : Int32) ≤ v ∧ v ≤ (9 : Int32)) then 1 else 0) := inW v rfl rfl
theorem in_0_999 (v : Int32) : f_X8_in v.toInt64 (0 : Int64) (999 : Int64) = some (if ((0 : Int32) ≤ v ∧ v ≤ (999 : Int32)) then 1 else 0) := inW v rfl rfl
theorem in_0_1 (v : Int32) : f_X8_in v.toInt64 (0 : Int64) (1 : Int64) = some (if ((0 : Int32) ≤ v ∧ v ≤ (1 : Int32)) then 1 else 0) := inW v rfl rfl
theorem in_0_8 (v : Int32) : f_X8_in v.toInt64 (0 : Int64) (8 : Int64) = some (if ((0 : Int32) ≤ v ∧ v ≤ (8 : Int32)) then 1 else 0) := inW v rfl rfl
theorem in_1_99 (v : Int32) : f_X8_in v.toInt64 (1 : Int64) (99 : Int64) = some (if ((1 : Int32) ≤ v ∧ v ≤ (99 : Int32)) then 1 else 0) := inW v rfl rfl
theorem in_33_126 (v : Int32) : f_X8_in v.toInt64 (33 : Int64) (126 : Int64) = some (if ((33 : Int32) ≤ v ∧ v ≤ (126 : Int32)) then 1 else 0) := inW v rfl rfl
theorem in_0_2 (v : Int32) : f_X8_in v.toInt64 (0 : Int64) (2 : Int64) = some (if ((0 : Int32) ≤ v ∧ v ≤ (2 : Int32)) then 1 else 0) := inW v rfl rfl
theorem in_0_3 (v : Int32) : f_X8_in v.toInt64 (0 : Int64) (3 : Int64) = some (if ((0 : Int32) ≤ v ∧ v ≤ (3 : Int32)) then 1 else 0) := inW v rfl rfl
theorem in_1_9 (v : Int32) : f_X8_in v.toInt64 (1 : Int64) (9 : Int64) = some (if ((1 : Int32) ≤ v ∧ v ≤ (9 : Int32)) then 1 else 0) := inW v rfl rfl
theorem in_1_999 (v : Int32) : f_X8_in v.toInt64 (1 : Int64) (999 : Int64) = some (if ((1 : Int32) ≤ v ∧ v ≤ (999 : Int32)) then 1 else 0) := inW v rfl rfl
theorem in_0_999999999 (v : Int32) : f_X8_in v.toInt64 (0 : Int64) (999999999 : Int64) = some (if ((0 : Int32) ≤ v ∧ v ≤ (999999999 : Int32)) then 1 else 0) := inW v rfl rfl
theorem in_1_3 (v : Int32) : f_X8_in v.toInt64 (1 : Int64) (3 : Int64) = some (if ((1 : Int32) ≤ v ∧ v ≤ (3 : Int32)) then 1 else 0) := inW v rfl rfl
theorem in_0_99 (v : Int32) : f_X8_in v.toInt64 (0 : Int64) (99 : Int64) = some (if ((0 : Int32) ≤ v ∧ v ≤ (99 : Int32)) then 1 else 0) := inW v rfl rfl
theorem in_0_16 (v : Int32) : f_X8_in v.toInt64 (0 : Int64) (16 : Int64) = some (if ((0 : Int32) ≤ v ∧ v ≤ (16 : Int32)) then 1 else 0) := inW v rfl rfl
theorem in_0_10 (v : Int32) : f_X8_in v.toInt64 (0 : Int64) (10 : Int64) = some (if ((0 : Int32) ≤ v ∧ v ≤ (10 : Int32)) then 1 else 0) := inW v rfl rfl
theorem in_0_9999 (v : Int32) : f_X8_in v.toInt64 (0 : Int64) (9999 : Int64) = some (if ((0 : Int32) ≤ v ∧ v ≤ (9999 : Int32)) then 1 else 0) := inW v rfl rfl
theorem in_10_19 (v : Int32) : f_X8_in v.toInt64 (10 : Int64) (19 : Int64) = some (if ((10 : Int32) ≤ v ∧ v ≤ (19 : Int32)) then 1 else 0) := inW v rfl rfl
theorem in_20_29 (v : Int32) : f_X8_in v.toInt64 (20 : Int64) (29 : Int64) = some (if ((20 : Int32) ≤ v ∧ v ≤ (29 : Int32)) then 1 else 0) := inW v rfl rfl
theorem in_30_38 (v : Int32) : f_X8_in v.toInt64 (30 : Int64) (38 : Int64) = some (if ((30 : Int32) ≤ v ∧ v ≤ (38 : Int32)) then 1 else 0) := inW v rfl rfl
theorem in_65_74 (v : Int32) : f_X8_in v.toInt64 (65 : Int64) (74 : Int64) = some (if ((65 : Int32) ≤ v ∧ v ≤ (74 : Int32)) then 1 else 0) := inW v rfl rfl
theorem in_49_57 (v : Int32) : f_X8_in v.toInt64 (49 : Int64) (57 : Int64) = some (if ((49 : Int32) ≤ v ∧ v ≤ (57 : Int32)) then 1 else 0) := inW v rfl rfl
theorem w1 {α : Type} {c : Prop} [Decidable c] (h : c) {a b : α} : (if (if c then (1 : Int32) else 0) = 0 then a else b) = b := by
  rw [if_pos h, if_neg (by decide)]
theorem w0 {α : Type} {c : Prop} [Decidable c] (h : ¬ c) {a b : α} : (if (if c then (1 : Int32) else 0) = 0 then a else b) = a := by
  rw [if_neg h, if_pos rfl]
theorem b01 {c : Prop} [Decidable c] : ((if c then (1 : Int32) else 0) &&& 1) = (if c then (1 : Int32) else 0) := by
  by_cases h : c
  · rw [if_pos h]; rfl
  · rw [if_neg h]; rfl
theorem isC (v : Int32) : f_X8_isChild v = some (if (0 : Int32) ≤ v ∧ v ≤ (9 : Int32) then 1 else 0) := by
  unfold f_X8_isChild
  rw [in_0_9]
  exact if_pos b01
theorem rg {v : Int32} {a b : Nat} (ha : a < 2 ^ 31) (hb : b < 2 ^ 31) (h : nI a ≤ v ∧ v ≤ nI b) : ∃ k, a ≤ k ∧ k ≤ b ∧ v = nI k := by
  obtain ⟨h1, h2⟩ := h
  rw [i32_le, nI_toInt ha] at h1
  rw [i32_le, nI_toInt hb] at h2
  refine ⟨v.toInt.toNat, by omega, by omega, ?_⟩
  rw [← Int32.toInt_inj, nI_toInt (by omega)]
  omega
/-- a read, a write at a place within -/
theorem gI {α : Type} {j n : Nat} (h : j < n) (hn : n < 2 ^ 31) {K : Option α} : (if nI j < 0 ∨ n ≤ (nI j).toNatClampNeg then none else K) = K := if_neg (nI_in h hn)
theorem cl {j : Nat} (h : j < 2 ^ 31) : (nI j).toNatClampNeg = j := nI_clamp h
theorem subI {a b : Nat} (h : b ≤ a) : nI a - nI b = nI (a - b) := pk_sub h
/-- the distance -/
def ad (a b : Nat) : Nat := if b ≤ a then a - b else b - a
theorem ad_le {a b c : Nat} : ad a b ≤ c ↔ a ≤ b + c ∧ b ≤ a + c := by
  unfold ad
  by_cases h : b ≤ a
  · rw [if_pos h]; omega
  · rw [if_neg h]; omega
theorem ad_comm (a b : Nat) : ad a b = ad b a := by
  unfold ad
  by_cases h : b ≤ a <;> by_cases h2 : a ≤ b
  · rw [if_pos h, if_pos h2]; omega
  · rw [if_pos h, if_neg h2]
  · rw [if_neg h, if_pos h2]
  · omega
theorem ad_lt {a b n : Nat} (ha : a < n) (hb : b < n) : ad a b < n := by
  unfold ad
  by_cases h : b ≤ a
  · rw [if_pos h]; omega
  · rw [if_neg h]; omega
theorem iabs_sub {a b : Nat} (ha : a < 2 ^ 30) (hb : b < 2 ^ 30) : iabs (nI a - nI b) = nI (ad a b) := by
  unfold iabs ad
  have e := pk_sub_toInt ha hb
  by_cases h : b ≤ a
  · rw [if_pos h, if_pos (by rw [i32_le, e]; show (0 : Int) ≤ _; omega), pk_sub h]
  · rw [if_neg h, if_neg (by rw [i32_le, e]; show ¬ (0 : Int) ≤ _; omega), ← pk_sub (by omega : a ≤ b)]
    have : (0 : Int32) - (nI a - nI b) = nI b - nI a := by
      rw [Int32.zero_sub, Int32.neg_sub]
    exact this
theorem offI {a b : Nat} (ha : a < 2 ^ 30) (hb : b < 2 ^ 30) : f_X8_off (nI a) (nI b) = some (nI (ad a b)) := by
  unfold f_X8_off ad
  by_cases h : b ≤ a
  · rw [if_pos h, if_pos ((nI_leI (by omega) (by omega)).mpr h), pk_sub h]
  · rw [if_neg h, if_neg (fun q => h ((nI_leI (by omega) (by omega)).mp q)), pk_sub (by omega)]
