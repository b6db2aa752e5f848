/-! a child goes: those drawn after -/
def Ag (f : Nat → Int32) (p : Nat → Nat) : Prop := ∀ i, i < 10 → f i = nI (p i)
theorem Ag.upd {f : Nat → Int32} {p : Nat → Nat} (h : Ag f p) (k v : Nat) : Ag (upd f k (nI v)) (va_up p k v) := by
  intro i hi
  rw [upd_at, upN_at]
  by_cases e : i = k
  · rw [if_pos e, if_pos e]
  · rw [if_neg e, if_neg e, h i hi]
theorem Ag_seg {y : Nat → Nat} {f : Nat → Int32} : Ag (seg 0 10 (fun i => nI (y i)) f) y := fun i hi => seg_in hi
def nw (a b l : Nat) : Nat := if b ≤ a then a - l else a + l
theorem nw_le {a b l : Nat} (ha : a ≤ 999) (hb : b ≤ 999) (h : l < ad b a) : nw a b l ≤ 999 := by
  unfold nw
  unfold ad at h
  by_cases c : b ≤ a
  · rw [if_pos c]; omega
  · rw [if_neg c]; rw [if_pos (by omega)] at h; omega
theorem nw_adj {a b l : Nat} (h : l < ad b a) : a ≤ nw a b l + l ∧ nw a b l ≤ a + l := by
  unfold nw
  unfold ad at h
  by_cases c : b ≤ a
  · rw [if_pos c]
    by_cases d : a ≤ b
    · rw [if_pos d] at h; omega
    · rw [if_neg d] at h; omega
  · rw [if_neg c]; omega
theorem drawI {f : Nat → Int32} {p : Nat → Nat} (h : Ag f p) (hp : ∀ i, p i ≤ 999) {a b l : Nat} (ha : a < 10) (hb : b < 10) (hl : l ≤ 99) : f_X5_planDraw f (nI a) (nI b) (nI l) = if l < ad (p b) (p a) then some (1, upd f b (nI (nw (p a) (p b) l))) else some (0, f) := by
  have pa := hp a
  have pb := hp b
  unfold f_X5_planDraw
  rw [gI hb (by decide), gI ha (by decide), cl (by omega), cl (by omega), h a ha, h b hb]
  have e1 : (nI (p b) - nI (p a) ≤ nI l) ↔ p b ≤ p a + l := by
    rw [i32_le, pk_sub_toInt (by omega) (by omega), nI_toInt (by omega)]; omega
  have e2 : (nI (p a) - nI (p b) ≤ nI l) ↔ p a ≤ p b + l := by
    rw [i32_le, pk_sub_toInt (by omega) (by omega), nI_toInt (by omega)]; omega
  unfold nw
  by_cases c1 : p b ≤ p a + l
  · rw [if_pos (e1.mpr c1)]
    by_cases c2 : p a ≤ p b + l
    · rw [if_pos (e2.mpr c2), if_neg (Nat.not_lt.mpr (ad_le.mpr ⟨c1, c2⟩))]
    · rw [if_neg (fun q => c2 (e2.mp q)), if_pos (by
        rcases Nat.lt_or_ge l (ad (p b) (p a)) with q | q
        · exact q
        · exact absurd (ad_le.mp q).2 c2), if_pos (by omega), subI (by omega)]
  · rw [if_neg (fun q => c1 (e1.mp q)), if_pos (by
        rcases Nat.lt_or_ge l (ad (p b) (p a)) with q | q
        · exact q
        · exact absurd (ad_le.mp q).1 c1), if_neg (by omega), nI_add]
theorem drawsI {f : Nat → Int32} {p l : Nat → Nat} {bits : Int32} (h : Ag f p) (hp : ∀ i, p i ≤ 999) (hl : ∀ i, l i ≤ 99) {a b s : Nat} (ha : a < 10) (hb : b < 10) (hs : s < 9) : f_X8_draws (fun i => nI (l i)) f bits (nI b) (nI a) (nI s) = if l s < ad (p b) (p a) then some (1, upd f b (nI (nw (p a) (p b) (l s))), bits ||| ((1 : Int32) <<< (nI b &&& 31))) else some (0, f, bits) := by
  have pa := hp a
  have pb := hp b
  have ls := hl s
  have al : ad (p b) (p a) < 2 ^ 31 := ad_lt (by omega) (by omega)
  unfold f_X8_draws
  rw [gI hb (by decide), gI ha (by decide), cl (by omega), cl (by omega), h a ha, h b hb, offI (by omega) (by omega)]
  simp only [Option.bind_some]
  rw [gI hs (by decide), cl (by omega)]
  unfold nw
  by_cases c : l s < ad (p b) (p a)
  · rw [if_pos (lit_lt (by omega) al c), if_pos c]
    by_cases d : p b ≤ p a
    · have : l s ≤ p a := by unfold ad at c; by_cases q : p a ≤ p b; rw [if_pos q] at c; omega; rw [if_neg q] at c; omega
      rw [if_pos (lit_le (by omega) (by omega) d), if_pos d, subI this]
    · rw [if_neg (lit_nle (by omega) (by omega) d), if_neg d, nI_add]
  · rw [if_neg (lit_nlt (by omega) al c), if_neg c]
/-- those above, one after another -/
def upS (l : Nat → Nat) : Nat → Nat → (Nat → Nat) → Nat → (Nat → Nat) × Nat
  | 0, _, p, b => (p, b)
  | m + 1, u, p, b => if l u < ad (p (u + 1)) (p u) then upS l m (u + 1) (va_up p (u + 1) (nw (p u) (p (u + 1)) (l u))) (b ||| 2 ^ (u + 1)) else (p, b)
def dnS (l : Nat → Nat) : Nat → (Nat → Nat) → Nat → (Nat → Nat) × Nat
  | 0, p, b => (p, b)
  | u + 1, p, b => if l u < ad (p u) (p (u + 1)) then dnS l u (va_up p u (nw (p (u + 1)) (p u) (l u))) (b ||| 2 ^ u) else (p, b)
def adj (l p : Nat → Nat) (i : Nat) : Prop := p i ≤ p (i + 1) + l i ∧ p (i + 1) ≤ p i + l i
theorem up_le {p : Nat → Nat} (hp : ∀ i, p i ≤ 999) {k v : Nat} (hv : v ≤ 999) (i : Nat) : va_up p k v i ≤ 999 := by
  rw [upN_at]
  by_cases e : i = k
  · rw [if_pos e]; exact hv
  · rw [if_neg e]; exact hp i
theorem up_ne {p : Nat → Nat} {k v i : Nat} (h : i ≠ k) : va_up p k v i = p i := by rw [upN_at, if_neg h]
theorem up_eq {p : Nat → Nat} {k v : Nat} : va_up p k v k = v := by rw [upN_at, if_pos rfl]
theorem or_lt {b k : Nat} (hb : b < 1024) (hk : k < 10) : b ||| 2 ^ k < 1024 := Nat.or_lt_two_pow (n := 10) hb (Nat.pow_lt_pow_right (by decide) hk)
theorem upS_ok {l : Nat → Nat} : ∀ (m u : Nat) (p : Nat → Nat) (b : Nat), u + m = 9 → (∀ i, p i ≤ 999) → b < 1024 → (∀ i, (upS l m u p b).1 i ≤ 999) ∧ (upS l m u p b).2 < 1024 ∧ (∀ i, i ≤ u ∨ 10 ≤ i → (upS l m u p b).1 i = p i) ∧ ((∀ i, u < i → i < 9 → adj l p i) → ∀ i, u ≤ i → i < 9 → adj l (upS l m u p b).1 i)
  | 0, u, p, b, h, hp, hb => ⟨hp, hb, fun i _ => rfl, fun _ i h1 h2 => absurd h1 (by omega)⟩
  | m + 1, u, p, b, h, hp, hb => by
    unfold upS
    by_cases c : l u < ad (p (u + 1)) (p u)
    · rw [if_pos c]
      obtain ⟨r1, r2, r3, r4⟩ := upS_ok (l := l) m (u + 1) (va_up p (u + 1) (nw (p u) (p (u + 1)) (l u))) (b ||| 2 ^ (u + 1)) (by omega) (up_le hp (nw_le (hp u) (hp (u + 1)) c)) (or_lt hb (by omega))
      refine ⟨r1, r2, fun i hi => ?_, fun ha i h1 h2 => ?_⟩
      · rw [r3 i (by omega), up_ne (by omega)]
      · by_cases e : i = u
        · subst e
          unfold adj
          rw [r3 i (by omega), r3 (i + 1) (by omega), up_eq, up_ne (by omega)]
          exact nw_adj c
        · refine r4 (fun j h3 h4 => ?_) i (by omega) h2
          unfold adj
          rw [up_ne (by omega), up_ne (by omega)]
          exact ha j (by omega) h4
    · rw [if_neg c]
      refine ⟨hp, hb, fun i _ => rfl, fun ha i h1 h2 => ?_⟩
      by_cases e : i = u
      · subst e
        exact (ad_le.mp (Nat.not_lt.mp c)).symm
      · exact ha i (by omega) h2
theorem dnS_ok {l : Nat → Nat} : ∀ (u : Nat) (p : Nat → Nat) (b : Nat), u ≤ 9 → (∀ i, p i ≤ 999) → b < 1024 → (∀ i, (dnS l u p b).1 i ≤ 999) ∧ (dnS l u p b).2 < 1024 ∧ (∀ i, u ≤ i → (dnS l u p b).1 i = p i) ∧ ((∀ i, i + 1 < u → adj l p i) → ∀ i, i < u → adj l (dnS l u p b).1 i)
  | 0, p, b, h, hp, hb => ⟨hp, hb, fun i _ => rfl, fun _ i h1 => absurd h1 (by omega)⟩
  | u + 1, p, b, h, hp, hb => by
    unfold dnS
    by_cases c : l u < ad (p u) (p (u + 1))
    · rw [if_pos c]
      obtain ⟨r1, r2, r3, r4⟩ := dnS_ok (l := l) u (va_up p u (nw (p (u + 1)) (p u) (l u))) (b ||| 2 ^ u) (by omega) (up_le hp (nw_le (hp (u + 1)) (hp u) c)) (or_lt hb (by omega))
      refine ⟨r1, r2, fun i hi => ?_, fun ha i h1 => ?_⟩
      · rw [r3 i (by omega), up_ne (by omega)]
      · by_cases e : i = u
        · subst e
          unfold adj
          rw [r3 i (by omega), r3 (i + 1) (by omega), up_eq, up_ne (by omega)]
          exact (nw_adj c).symm
        · refine r4 (fun j h3 => ?_) i (by omega)
          unfold adj
          rw [up_ne (by omega), up_ne (by omega)]
          exact ha j (by omega)
    · rw [if_neg c]
      refine ⟨hp, hb, fun i _ => rfl, fun ha i h1 => ?_⟩
      by_cases e : i = u
      · subst e
        exact ad_le.mp (Nat.not_lt.mp c)
      · exact ha i (by omega)
/-- all of a step: the places after it and who was drawn -/
def goP (l y : Nat → Nat) (k v : Nat) : (Nat → Nat) × Nat := dnS l k (upS l (9 - k) k (va_up y k v) 0).1 (upS l (9 - k) k (va_up y k v) 0).2
theorem goP_ok {l y : Nat → Nat} {k v : Nat} (hk : k ≤ 9) (hv : v ≤ 999) (hy : ∀ i, y i ≤ 999) (ha : ∀ i, i < 9 → adj l y i) (hz : ∀ i, 10 ≤ i → y i = 0) : (∀ i, (goP l y k v).1 i ≤ 999) ∧ (goP l y k v).2 < 1024 ∧ (∀ i, i < 9 → adj l (goP l y k v).1 i) ∧ ∀ i, 10 ≤ i → (goP l y k v).1 i = 0 := by
  unfold goP
  obtain ⟨r1, r2, r3, r4⟩ := upS_ok (l := l) (9 - k) k (va_up y k v) 0 (by omega) (up_le hy hv) (by decide)
  obtain ⟨s1, s2, s3, s4⟩ := dnS_ok (l := l) k (upS l (9 - k) k (va_up y k v) 0).1 (upS l (9 - k) k (va_up y k v) 0).2 hk r1 r2
  refine ⟨s1, s2, fun i hi => ?_, fun i hi => ?_⟩
  · by_cases e : i < k
    · refine s4 (fun j hj => ?_) i e
      unfold adj
      rw [r3 j (by omega), r3 (j + 1) (by omega), up_ne (by omega), up_ne (by omega)]
      exact ha j (by omega)
    · unfold adj
      rw [s3 i (by omega), s3 (i + 1) (by omega)]
      refine r4 (fun j h1 h2 => ?_) i (by omega) hi
      unfold adj
      rw [up_ne (by omega), up_ne (by omega)]
      exact ha j h2
  · rw [s3 i (by omega), r3 i (by omega), up_ne (by omega), hz i hi]
theorem m1 (u : Nat) : nI (u + 1) - (1 : Int32) = nI u := subI (b := 1) (by omega)
theorem gZ {α : Type} {j n : Nat} (h : j < n) (hn : n < 2 ^ 31) {K : Option α} : (if nI j < nI 0 ∨ n ≤ (nI j).toNatClampNeg then none else K) = K := gI h hn
section go
variable {l : Nat → Nat}
theorem up7 (hl : ∀ i, l i ≤ 99) {kx} : ∀ (m u fuel : Nat) (f : Nat → Int32) (p : Nat → Nat) (b : Nat), u + m = 9 → Ag f p → (∀ i, p i ≤ 999) → m < fuel → ∃ f', Ag f' (upS l m u p b).1 ∧ f_X5_planStep_40 (fun i => nI (l i)) kx fuel (nI b) (nI (u + 1)) f = kx (nI (upS l m u p b).2) f'
  | _, _, 0, f, p, b, h, hA, hp, hf => absurd hf (by omega)
  | 0, u, n + 1, f, p, b, h, hA, hp, hf => by
    refine ⟨f, hA, ?_⟩
    rw [f_X5_planStep_40, show (10 : Int32) = nI 10 from rfl, if_pos (lit_le (by decide) (by omega) (by omega))]
    rfl
  | m + 1, u, n + 1, f, p, b, h, hA, hp, hf => by
    rw [f_X5_planStep_40, show (10 : Int32) = nI 10 from rfl, if_neg (lit_nle (by decide) (by omega) (by omega)), m1, gI (by omega : u < 9) (by decide), cl (by omega), drawI hA hp (by omega) (by omega) (hl u)]
    unfold upS
    by_cases c : l u < ad (p (u + 1)) (p u)
    · rw [if_pos c, if_pos c]
      simp only [Option.bind_some]
      rw [if_neg (by decide), shl1 _ (by omega), nI_or, p1]
      exact up7 hl m (u + 1) n _ _ _ (by omega) (hA.upd _ _) (up_le hp (nw_le (hp _) (hp _) c)) (by omega)
    · rw [if_neg c, if_neg c]
      simp only [Option.bind_some]
      rw [if_pos trivial]
      exact ⟨f, hA, rfl⟩
theorem dn7 (hl : ∀ i, l i ≤ 99) : ∀ (u fuel : Nat) (f : Nat → Int32) (p : Nat → Nat) (b : Nat), u ≤ 9 → Ag f p → (∀ i, p i ≤ 999) → u < fuel → ∃ f', Ag f' (dnS l u p b).1 ∧ f_X5_planStep_87 (fun i => nI (l i)) fuel (nI b) (nI u - 1) f = some (nI (dnS l u p b).2, f')
  | _, 0, f, p, b, h, hA, hp, hf => absurd hf (by omega)
  | 0, n + 1, f, p, b, h, hA, hp, hf => by
    refine ⟨f, hA, ?_⟩
    rw [f_X5_planStep_87, if_pos (by decide)]
    rfl
  | u + 1, n + 1, f, p, b, h, hA, hp, hf => by
    rw [m1, f_X5_planStep_87, if_neg (show ¬ nI u < (0 : Int32) from lit_nlt (b := 0) (by omega) (by decide) (by omega)), gI (by omega : u < 9) (by decide), cl (by omega), p1, drawI hA hp (by omega) (by omega) (hl u)]
    unfold dnS
    by_cases c : l u < ad (p u) (p (u + 1))
    · rw [if_pos c, if_pos c]
      simp only [Option.bind_some]
      rw [if_neg (by decide), shl1 _ (by omega), nI_or, show nI u + (-1 : Int32) = nI u - 1 from (Int32.sub_eq_add_neg _ _).symm]
      exact dn7 hl u n _ _ _ (by omega) (hA.upd _ _) (up_le hp (nw_le (hp _) (hp _) c)) (by omega)
    · rw [if_neg c, if_neg c]
      simp only [Option.bind_some]
      rw [if_pos trivial]
      exact ⟨f, hA, rfl⟩
theorem up8 (hl : ∀ i, l i ≤ 99) {kx} : ∀ (m u fuel : Nat) (f : Nat → Int32) (p : Nat → Nat) (b : Nat), u + m = 9 → Ag f p → (∀ i, p i ≤ 999) → m + 1 < fuel → ∃ f', Ag f' (upS l m u p b).1 ∧ f_X8_findThen_48 (fun i => nI (l i)) kx fuel 1 (nI (u + 1)) f (nI b) = kx f' (nI (upS l m u p b).2)
  | _, _, 0, f, p, b, h, hA, hp, hf => absurd hf (by omega)
  | 0, u, n + 1, f, p, b, h, hA, hp, hf => by
    refine ⟨f, hA, ?_⟩
    rw [f_X8_findThen_48, show (10 : Int32) = nI 10 from rfl, if_pos (lit_le (by decide) (by omega) (by omega))]
    rfl
  | m + 1, u, n + 1, f, p, b, h, hA, hp, hf => by
    rw [f_X8_findThen_48, show (10 : Int32) = nI 10 from rfl, if_neg (lit_nle (by decide) (by omega) (by omega)), if_neg (by decide), m1, drawsI hA hp hl (by omega) (by omega) (by omega)]
    unfold upS
    by_cases c : l u < ad (p (u + 1)) (p u)
    · rw [if_pos c, if_pos c]
      simp only [Option.bind_some]
      rw [shl1 _ (by omega), nI_or, p1]
      exact up8 hl m (u + 1) n _ _ _ (by omega) (hA.upd _ _) (up_le hp (nw_le (hp _) (hp _) c)) (by omega)
    · rw [if_neg c, if_neg c]
      simp only [Option.bind_some]
      refine ⟨f, hA, ?_⟩
      obtain ⟨n', rfl⟩ : ∃ n', n = n' + 1 := ⟨n - 1, by omega⟩
      rw [f_X8_findThen_48, if_pos rfl, ite_self]
theorem dn8 (hl : ∀ i, l i ≤ 99) : ∀ (u fuel : Nat) (f : Nat → Int32) (p : Nat → Nat) (b : Nat), u ≤ 9 → Ag f p → (∀ i, p i ≤ 999) → u + 1 < fuel → ∃ f', Ag f' (dnS l u p b).1 ∧ f_X8_findThen_87 (fun i => nI (l i)) fuel 1 (nI u - 1) f (nI b) = some (f', nI (dnS l u p b).2)
  | _, 0, f, p, b, h, hA, hp, hf => absurd hf (by omega)
  | 0, n + 1, f, p, b, h, hA, hp, hf => by
    refine ⟨f, hA, ?_⟩
    rw [f_X8_findThen_87, if_pos (by decide)]
    rfl
  | u + 1, n + 1, f, p, b, h, hA, hp, hf => by
    rw [m1, f_X8_findThen_87, if_neg (show ¬ nI u < (0 : Int32) from lit_nlt (b := 0) (by omega) (by decide) (by omega)), if_neg (by decide), p1, drawsI hA hp hl (by omega) (by omega) (by omega)]
    unfold dnS
    by_cases c : l u < ad (p u) (p (u + 1))
    · rw [if_pos c, if_pos c]
      simp only [Option.bind_some]
      rw [shl1 _ (by omega), nI_or, show nI u + (-1 : Int32) = nI u - 1 from (Int32.sub_eq_add_neg _ _).symm]
      exact dn8 hl u n _ _ _ (by omega) (hA.upd _ _) (up_le hp (nw_le (hp _) (hp _) c)) (by omega)
    · rw [if_neg c, if_neg c]
      simp only [Option.bind_some]
      refine ⟨f, hA, ?_⟩
      obtain ⟨n', rfl⟩ : ∃ n', n = n' + 1 := ⟨n - 1, by omega⟩
      rw [f_X8_findThen_87, if_pos rfl, ite_self]
theorem cp7 {sy : Nat → Int32} {kx} : ∀ (m j fuel : Nat) (dy : Nat → Int32), j + m = 10 → m < fuel → f_X5_planStep_2 sy kx fuel (nI j) dy = kx (seg j 10 sy dy)
  | _, _, 0, dy, h, hf => absurd hf (by omega)
  | 0, j, f + 1, dy, h, hf => by
    have e : j = 10 := by omega
    subst e
    rw [f_X5_planStep_2, show (10 : Int32) = nI 10 from rfl, if_pos (lit_le (a := 10) (by decide) (by decide) (Nat.le_refl 10)), seg_end]
  | m + 1, j, f + 1, dy, h, hf => by
    rw [f_X5_planStep_2, show (10 : Int32) = nI 10 from rfl, if_neg (lit_nle (a := 10) (b := j) (by decide) (by omega) (by omega)), gI (by omega : j < 10) (by decide), cl (by omega), p1, cp7 m (j + 1) f _ (by omega) (by omega), seg_step (by omega)]
theorem cp8 {sy : Nat → Int32} {kx} : ∀ (m j fuel : Nat) (dy : Nat → Int32), j + m = 10 → m < fuel → f_X8_findThen_2 sy kx fuel (nI j) dy = kx (seg j 10 sy dy)
  | _, _, 0, dy, h, hf => absurd hf (by omega)
  | 0, j, f + 1, dy, h, hf => by
    have e : j = 10 := by omega
    subst e
    rw [f_X8_findThen_2, show (10 : Int32) = nI 10 from rfl, if_pos (lit_le (a := 10) (by decide) (by decide) (Nat.le_refl 10)), seg_end]
  | m + 1, j, f + 1, dy, h, hf => by
    rw [f_X8_findThen_2, show (10 : Int32) = nI 10 from rfl, if_neg (lit_nle (a := 10) (b := j) (by decide) (by omega) (by omega)), gI (by omega : j < 10) (by decide), cl (by omega), p1, cp8 m (j + 1) f _ (by omega) (by omega), seg_step (by omega)]
theorem planI (hl : ∀ i, l i ≤ 99) {y : Nat → Nat} (hy : ∀ i, y i ≤ 999) {k v : Nat} (hk : k ≤ 9) (hv : v ≤ 999) (f : Nat → Int32) : ∃ f', Ag f' (goP l y k v).1 ∧ f_X5_planStep (fun i => nI (y i)) (fun i => nI (l i)) f (nI k) (nI v) = some (nI (goP l y k v).2, f') := by
  obtain ⟨g, hg, eg⟩ := up7 hl (kx := fun u3_9 plan_10 => f_X5_planStep_87 (fun i => nI (l i)) 2000 u3_9 (nI k - (1 : Int32)) plan_10) (9 - k) k 2000 (upd (seg 0 10 (fun i => nI (y i)) f) k (nI v)) (va_up y k v) 0 (by omega) (Ag_seg.upd _ _) (up_le hy hv) (by omega)
  obtain ⟨g', hg', eg'⟩ := dn7 hl k 2000 g _ (upS l (9 - k) k (va_up y k v) 0).2 hk hg (upS_ok (l := l) (9 - k) k (va_up y k v) 0 (by omega) (up_le hy hv) (by decide)).1 (by omega)
  refine ⟨g', hg', ?_⟩
  unfold f_X5_planStep
  rw [show (0 : Int32) = nI 0 from rfl, cp7 10 0 2000 f (by decide) (by decide)]
  rw [gZ (by omega : k < 10) (by decide), cl (by omega), p1, eg, eg']
  rfl
theorem thenI (hl : ∀ i, l i ≤ 99) {y : Nat → Nat} (hy : ∀ i, y i ≤ 999) {k v : Nat} {d b : Int32} (hk : k ≤ 9) (hv : v ≤ 999) (hd : nI (y k) + d = nI v) (f : Nat → Int32) : ∃ f', Ag f' (goP l y k v).1 ∧ f_X8_findThen (fun i => nI (y i)) (fun i => nI (l i)) f b (nI k) d = some (f', nI (goP l y k v).2) := by
  obtain ⟨g, hg, eg⟩ := up8 hl (kx := fun then__8 drawnBits_9 => f_X8_findThen_87 (fun i => nI (l i)) 2000 (1 : Int32) (nI k - (1 : Int32)) then__8 drawnBits_9) (9 - k) k 2000 (upd (seg 0 10 (fun i => nI (y i)) f) k (nI v)) (va_up y k v) 0 (by omega) (Ag_seg.upd _ _) (up_le hy hv) (by omega)
  obtain ⟨g', hg', eg'⟩ := dn8 hl k 2000 g _ (upS l (9 - k) k (va_up y k v) 0).2 hk hg (upS_ok (l := l) (9 - k) k (va_up y k v) 0 (by omega) (up_le hy hv) (by decide)).1 (by omega)
  refine ⟨g', hg', ?_⟩
  unfold f_X8_findThen
  rw [show (0 : Int32) = nI 0 from rfl, cp8 10 0 2000 f (by decide) (by decide)]
  rw [gZ (by omega : k < 10) (by decide), cl (by omega), p1, seg_in (by omega : k < 10), hd, eg, eg']
  rfl
end go
