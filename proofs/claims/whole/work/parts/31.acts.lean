/-! why not, and the acts -/
theorem has8 {h k : Nat} (hk : k < 10) (hh : h < 1024) : f_X8_has (nI h) (nI k) = some (if h.testBit k then 1 else 0) := by
  unfold f_X8_has
  rw [bit1 (by omega) (by omega)]
  cases h.testBit k <;> rfl
theorem andD : ∀ h, h < 1024 → ∀ k, k < 10 → (2 ^ k &&& h = 0 ↔ h.testBit k = false) := by decide +kernel
theorem andz {b h k : Nat} (hk : k < 10) (hh : h < 1024) : (b ||| 2 ^ k) &&& h = 0 ↔ (b &&& h = 0 ∧ h.testBit k = false) := by
  rw [Nat.and_or_distrib_right, Nat.or_eq_zero_iff, andD h hh k hk]
theorem whyGo {l y : Nat → Nat} (hl : ∀ i, l i ≤ 99) (hy : ∀ i, y i ≤ 999) {k h : Nat} (hk : k ≤ 9) (hh : h < 1024) {V d : Int32} (hd : nI (y k) + d = V) (f g : Nat → Int32) (b : Int32) : ∃ w f' g' b', f_X5_whyNotStep (fun i => nI (y i)) (fun i => nI (l i)) f (nI h) (nI k) V = some (w, f') ∧ f_X8_whyNotGo (fun i => nI (y i)) (fun i => nI (l i)) (nI h) g b (nI k) d = some (w, g', b') ∧ (w = 0 → ∃ v, v ≤ 999 ∧ V = nI v) ∧ (0 ≤ w) := by
  unfold f_X5_whyNotStep f_X8_whyNotGo
  rw [isW, gI (by omega : k < 10) (by decide), cl (by omega), hd, in_0_999]
  simp only [Option.bind_some]
  by_cases c : (0 : Int32) ≤ V ∧ V ≤ (999 : Int32)
  · obtain ⟨v, _, hv, rfl⟩ := rg (a := 0) (b := 999) (by decide) (by decide) c
    rw [w1 c, w1 c]
    obtain ⟨f', _, ef⟩ := planI hl hy hk hv f
    obtain ⟨g', _, eg⟩ := thenI hl hy (b := b) hk hv hd g
    rw [ef, eg, has8 (by omega) hh]
    simp only [Option.bind_some]
    rw [shl1 k (by omega), nI_or, nI_and, nI_and]
    have lt : ∀ x : Nat, x &&& h < 2 ^ 31 := fun x => Nat.lt_of_le_of_lt Nat.and_le_right (by omega)
    by_cases t : h.testBit k = true
    · rw [if_neg (show ¬ nI (((goP l y k v).2 ||| 2 ^ k) &&& h) = (0 : Int32) from lit_ne (b := 0) (lt _) (by decide) (fun q => by rw [((andz (by omega) hh).mp q).2] at t; exact absurd t (by decide))), if_pos t, if_neg (by decide)]
      exact ⟨2, f', g', _, rfl, rfl, fun q => absurd q (by decide), by decide⟩
    · rw [if_neg t, if_pos rfl]
      by_cases z : (goP l y k v).2 &&& h = 0
      · rw [if_pos (show nI (((goP l y k v).2 ||| 2 ^ k) &&& h) = (0 : Int32) by rw [(andz (by omega) hh).mpr ⟨z, by simpa using t⟩]; rfl), if_pos (show nI ((goP l y k v).2 &&& h) = (0 : Int32) by rw [z]; rfl)]
        exact ⟨0, f', g', _, rfl, rfl, fun _ => ⟨v, hv, rfl⟩, by decide⟩
      · rw [if_neg (show ¬ nI (((goP l y k v).2 ||| 2 ^ k) &&& h) = (0 : Int32) from lit_ne (b := 0) (lt _) (by decide) (fun q => z ((andz (by omega) hh).mp q).1)), if_neg (show ¬ nI ((goP l y k v).2 &&& h) = (0 : Int32) from lit_ne (b := 0) (lt _) (by decide) z)]
        exact ⟨2, f', g', _, rfl, rfl, fun q => absurd q (by decide), by decide⟩
  · rw [w0 c, w0 c]
    exact ⟨1, f, g, b, rfl, rfl, fun q => absurd q (by decide), by decide⟩
theorem segAg {f : Nat → Int32} {p y : Nat → Nat} (h : Ag f p) (hp : ∀ i, 10 ≤ i → p i = 0) (hy : ∀ i, 10 ≤ i → y i = 0) : seg 0 10 f (fun i => nI (y i)) = fun i => nI (p i) := by
  funext i
  unfold seg
  by_cases c : i < 10
  · rw [if_pos ⟨Nat.zero_le _, c⟩, h i c]
  · rw [if_neg (by omega), hp i (by omega)]
    show nI (y i) = nI 0
    rw [hy i (by omega)]
theorem st7 {u : Int32} {pl : Nat → Int32} : ∀ (m j fuel : Nat) (ys : Nat → Int32), j + m = 10 → m < fuel → f_X5_step_10 u pl fuel (nI j) ys = some (u, seg j 10 pl ys, pl)
  | _, _, 0, dy, h, hf => absurd hf (by omega)
  | 0, j, f + 1, dy, h, hf => by
    have e : j = 10 := by omega
    subst e
    rw [f_X5_step_10, show (10 : Int32) = nI 10 from rfl, if_pos (lit_le (a := 10) (by decide) (by decide) (Nat.le_refl 10)), seg_end]
  | m + 1, j, f + 1, dy, h, hf => by
    rw [f_X5_step_10, show (10 : Int32) = nI 10 from rfl, if_neg (lit_nle (a := 10) (b := j) (by decide) (by omega) (by omega)), gI (by omega : j < 10) (by decide), cl (by omega), p1, st7 m (j + 1) f _ (by omega) (by omega), seg_step (by omega)]
theorem go8 {b mm nn : Int32} {pl : Nat → Int32} : ∀ (m j fuel : Nat) (ys : Nat → Int32), j + m = 10 → m < fuel → f_X8_go_32 pl b mm nn fuel (nI j) ys = some (seg j 10 pl ys, pl, b, mm, nn)
  | _, _, 0, dy, h, hf => absurd hf (by omega)
  | 0, j, f + 1, dy, h, hf => by
    have e : j = 10 := by omega
    subst e
    rw [f_X8_go_32, show (10 : Int32) = nI 10 from rfl, if_pos (lit_le (a := 10) (by decide) (by decide) (Nat.le_refl 10)), seg_end]
  | m + 1, j, f + 1, dy, h, hf => by
    rw [f_X8_go_32, show (10 : Int32) = nI 10 from rfl, if_neg (lit_nle (a := 10) (b := j) (by decide) (by omega) (by omega)), gI (by omega : j < 10) (by decide), cl (by omega), p1, go8 m (j + 1) f _ (by omega) (by omega), seg_step (by omega)]
theorem onesD : ∀ z, z < 1024 → f_X8_ones (nI z) = f_J6_bitCount_0f7a4 (nI z) ∧ (f_X8_ones (nI z)).isSome = true := by decide +kernel
theorem onesI {z : Nat} (hz : z < 1024) : ∃ c, f_X8_ones (nI z) = some c ∧ f_J6_bitCount_0f7a4 (nI z) = some c := by
  obtain ⟨h1, h2⟩ := onesD z hz
  obtain ⟨c, hc⟩ := Option.isSome_iff_exists.mp h2
  exact ⟨c, hc, h1 ▸ hc⟩
theorem goAct {l y : Nat → Nat} (hl : ∀ i, l i ≤ 99) (hy : ∀ i, y i ≤ 999) (ha : ∀ i, i < 9 → adj l y i) (hz : ∀ i, 10 ≤ i → y i = 0) {k v : Nat} {d : Int32} (hk : k ≤ 9) (hv : v ≤ 999) (hd : nI (y k) + d = nI v) (f g : Nat → Int32) (b m n : Int32) : ∃ c f' g', f_X8_ones (nI (goP l y k v).2) = some c ∧ f_J6_bitCount_0f7a4 (nI (goP l y k v).2) = some c ∧ f_X5_step (fun i => nI (y i)) (fun i => nI (l i)) f (nI k) (nI v) = some (nI (goP l y k v).2, (fun i => nI ((goP l y k v).1 i)), f') ∧ f_X8_go (fun i => nI (y i)) (fun i => nI (l i)) g b m n (nI k) d = some ((fun i => nI ((goP l y k v).1 i)), g', nI (goP l y k v).2, m + c, nI (goP l y k v).2) := by
  obtain ⟨g1, g2, g3, g4⟩ := goP_ok hk hv hy ha hz
  obtain ⟨c, c1, c2⟩ := onesI g2
  obtain ⟨f', hf', ef⟩ := planI hl hy hk hv f
  obtain ⟨g', hg', eg⟩ := thenI hl hy (b := b) hk hv hd g
  refine ⟨c, f', g', c1, c2, ?_, ?_⟩
  · unfold f_X5_step
    rw [ef]
    simp only [Option.bind_some]
    rw [show (0 : Int32) = nI 0 from rfl, st7 10 0 2000 _ (by decide) (by decide), segAg hf' g4 hz]
  · unfold f_X8_go
    rw [eg]
    simp only [Option.bind_some]
    rw [c1]
    simp only [Option.bind_some]
    rw [show (0 : Int32) = nI 0 from rfl, go8 10 0 2000 _ (by decide) (by decide), segAg hg' g4 hz]
section sq
variable {l y : Nat → Nat}
theorem taut7 (hl : ∀ i, l i ≤ 99) (hy : ∀ i, y i ≤ 999) {u : Nat} (hu : u < 9) : f_X5_isTaut (fun i => nI (y i)) (fun i => nI (l i)) (nI u) = some (if ad (y u) (y (u + 1)) = l u then 1 else 0) := by
  have q1 := hy u
  have q2 := hy (u + 1)
  have q3 := hl u
  have al : ad (y u) (y (u + 1)) < 2 ^ 31 := ad_lt (by omega) (by omega)
  unfold f_X5_isTaut f_X5_apart
  rw [p1, gI (by omega : u + 1 < 10) (by decide), gI (by omega : u < 10) (by decide), cl (by omega), cl (by omega), iabs_sub (by omega) (by omega)]
  simp only [Option.bind_some]
  rw [gJ hu (by decide), ad_comm]
  by_cases e : ad (y u) (y (u + 1)) = l u
  · rw [if_pos (by rw [e]), if_pos e]
  · rw [if_neg (lit_ne al (by omega) e), if_neg e]
theorem taut8 (hl : ∀ i, l i ≤ 99) (hy : ∀ i, y i ≤ 999) {u : Nat} (hu : u < 9) : f_X8_isTaut (fun i => nI (y i)) (fun i => nI (l i)) (nI u) = some (if ad (y u) (y (u + 1)) = l u then 1 else 0) := by
  have q1 := hy u
  have q2 := hy (u + 1)
  have q3 := hl u
  have al : ad (y u) (y (u + 1)) < 2 ^ 31 := ad_lt (by omega) (by omega)
  unfold f_X8_isTaut
  rw [p1, gI (by omega : u < 10) (by decide), gI (by omega : u + 1 < 10) (by decide), cl (by omega), cl (by omega), offI (by omega) (by omega)]
  simp only [Option.bind_some]
  rw [gJ hu (by decide)]
  by_cases e : ad (y u) (y (u + 1)) = l u
  · rw [if_pos (by rw [e]), if_pos e]
  · rw [if_neg (lit_ne al (by omega) e), if_neg e]
/-- what is felt more -/
def fmE (e : Nat → Nat) (u s r : Nat) : Nat → Nat := if r < s then va_up e u (min 99 (e u + (s - r))) else e
theorem imin_n {a b : Nat} (ha : a < 2 ^ 31) (hb : b < 2 ^ 31) : imin (nI a) (nI b) = nI (min a b) := by
  unfold imin
  by_cases h : b < a
  · rw [if_pos (lit_lt hb ha h), Nat.min_eq_right (by omega)]
  · rw [if_neg (lit_nlt hb ha h), Nat.min_eq_left (by omega)]
theorem sr_le {s r : Nat} (hs : s ≤ 99) (hr : r ≤ 3) : (nI s - nI r ≤ (0 : Int32)) ↔ ¬ r < s := by
  rw [i32_le, pk_sub_toInt (by omega) (by omega)]
  show _ ≤ (0 : Int) ↔ _
  omega
theorem fm7 {e : Nat → Nat} (he : ∀ i, e i ≤ 99) {u s r : Nat} {R : Int32} (hR : R = nI r) (hu : u < 10) (hs : s ≤ 99) (hr : r ≤ 3) : f_X5_feelMore (fun i => nI (e i)) (nI u) (nI s - R) = some (fun i => nI (fmE e u s r i)) := by
  subst hR
  have q := he u
  unfold f_X5_feelMore fmE
  by_cases c : r < s
  · rw [if_neg (fun q => (sr_le hs hr).mp q c), if_pos c, gI hu (by decide), cl (by omega), subI (by omega), nI_add, show (99 : Int32) = nI 99 from rfl, imin_n (by decide) (by omega), updI]
  · rw [if_pos ((sr_le hs hr).mpr c), if_neg c]
theorem feel8 {e : Nat → Nat} (he : ∀ i, e i ≤ 99) {u x : Nat} {X : Int32} (hX : X = nI x) (hu : u < 10) (hx : x ≤ 99) : f_X8_feel (fun i => nI (e i)) (nI u) X = some (fun i => nI (va_up e u (min 99 (e u + x)) i)) := by
  subst hX
  have q := he u
  unfold f_X8_feel
  rw [gI hu (by decide), cl (by omega), nI_add, show (99 : Int32) = nI 99 from rfl, lessI (by decide) (by omega)]
  simp only [Option.bind_some]
  rw [updI]
  by_cases c : e u + x ≤ 99
  · rw [if_pos c, Nat.min_eq_right c]
  · rw [if_neg c, Nat.min_eq_left (by omega)]
theorem up_self {e : Nat → Nat} {u : Nat} : va_up e u (e u) = e := by
  funext i
  rw [upN_at]
  by_cases c : i = u
  · rw [if_pos c, c]
  · rw [if_neg c]
theorem fmo8 {α : Type} {e : Nat → Nat} (he : ∀ i, e i ≤ 99) {u s r : Nat} {R : Int32} (hR : R = nI r) (hu : u < 10) (hs : s ≤ 99) (hr : r ≤ 3) {K : (Nat → Int32) → Option α} : (if nI s - R ≤ 0 then (f_X8_feel (fun i => nI (e i)) (nI u) (0 : Int32)).bind K else (f_X8_feel (fun i => nI (e i)) (nI u) (nI s - R)).bind K) = K (fun i => nI (fmE e u s r i)) := by
  subst hR
  have q := he u
  unfold fmE
  by_cases c : r < s
  · rw [if_neg (fun q => (sr_le hs hr).mp q c), if_pos c, feel8 he (x := s - r) (subI (by omega)) hu (by omega)]
    rfl
  · rw [if_pos ((sr_le hs hr).mpr c), if_neg c, feel8 he (x := 0) (X := 0) rfl hu (by decide), Nat.add_zero, Nat.min_eq_right q, up_self]
    rfl
theorem fmE_le {e : Nat → Nat} (he : ∀ i, e i ≤ 99) {u s r : Nat} (i : Nat) : fmE e u s r i ≤ 99 := by
  unfold fmE
  by_cases c : r < s
  · rw [if_pos c, upN_at]
    by_cases d : i = u
    · rw [if_pos d]; exact Nat.min_le_left _ _
    · rw [if_neg d]; exact he i
  · rw [if_neg c]; exact he i
theorem fmE_z {e : Nat → Nat} (he : ∀ i, 10 ≤ i → e i = 0) {u s r : Nat} (hu : u < 10) (i : Nat) (hi : 10 ≤ i) : fmE e u s r i = 0 := by
  unfold fmE
  by_cases c : r < s
  · rw [if_pos c, upN_at, if_neg (by omega)]; exact he i hi
  · rw [if_neg c]; exact he i hi
theorem sqUp (hl : ∀ i, l i ≤ 99) (hy : ∀ i, y i ≤ 999) {kx7 kx8} : ∀ (m u s f7 f8 : Nat) (e : Nat → Nat), u + m = 9 → s ≤ 99 → (∀ i, e i ≤ 99) → (∀ i, 10 ≤ i → e i = 0) → m + 1 < f7 → m + 1 < f8 → ∃ e' : Nat → Nat, (∀ i, e' i ≤ 99) ∧ (∀ i, 10 ≤ i → e' i = 0) ∧ f_X5_squeeze_5 (fun i => nI (y i)) (fun i => nI (l i)) kx7 f7 (nI s) (nI u) (fun i => nI (e i)) = kx7 (fun i => nI (e' i)) ∧ f_X8_squeeze_7 (fun i => nI (y i)) (fun i => nI (l i)) kx8 f8 (nI s) (nI (u + 1)) (fun i => nI (e i)) = kx8 (fun i => nI (e' i))
  | _, _, _, 0, _, e, h, hs, he, hz, h7, h8 => absurd h7 (by omega)
  | _, _, _, _ + 1, 0, e, h, hs, he, hz, h7, h8 => absurd h8 (by omega)
  | 0, u, s, n7 + 1, n8 + 1, e, h, hs, he, hz, h7, h8 => by
    refine ⟨e, he, hz, ?_, ?_⟩
    · rw [f_X5_squeeze_5, show (9 : Int32) = nI 9 from rfl, if_pos (lit_le (by decide) (by omega) (by omega))]
    · rw [f_X8_squeeze_7, show (10 : Int32) = nI 10 from rfl, if_pos (lit_le (by decide) (by omega) (by omega))]
  | m + 1, u, s, n7 + 1, n8 + 1, e, h, hs, he, hz, h7, h8 => by
    rw [f_X5_squeeze_5, f_X8_squeeze_7, show (9 : Int32) = nI 9 from rfl, show (10 : Int32) = nI 10 from rfl, if_neg (lit_nle (by decide) (by omega) (by omega)), if_neg (lit_nle (by decide) (by omega) (by omega))]
    by_cases s0 : s = 0
    · subst s0
      rw [if_pos (show nI 0 ≤ (0 : Int32) by decide), if_pos (show nI 0 ≤ (0 : Int32) by decide)]
      exact ⟨e, he, hz, rfl, rfl⟩
    have sp : ¬ nI s ≤ (0 : Int32) := lit_nle (b := 0) (by omega) (by decide) (by omega)
    rw [if_neg sp, if_neg sp]
    have fin : ∀ (r : Nat) (R : Int32), R = nI r → 1 ≤ r → r ≤ 3 → ∃ e' : Nat → Nat, (∀ i, e' i ≤ 99) ∧ (∀ i, 10 ≤ i → e' i = 0) ∧ f_X5_squeeze_5 (fun i => nI (y i)) (fun i => nI (l i)) kx7 n7 (nI s - R) (nI (u + 1)) (fun i => nI (fmE e (u + 1) s r i)) = kx7 (fun i => nI (e' i)) ∧ f_X8_squeeze_7 (fun i => nI (y i)) (fun i => nI (l i)) kx8 n8 (nI s - R) (nI (u + 1 + 1)) (fun i => nI (fmE e (u + 1) s r i)) = kx8 (fun i => nI (e' i)) := by
      intro r R hR r1 r3
      by_cases c : r < s
      · rw [hR, subI (by omega)]
        exact sqUp hl hy m (u + 1) (s - r) n7 n8 _ (by omega) (by omega) (fmE_le he) (fmE_z hz (by omega)) (by omega) (by omega)
      · have q : nI s - R ≤ (0 : Int32) := by rw [hR]; exact (sr_le hs r3).mpr c
        obtain ⟨a, rfl⟩ : ∃ a, n7 = a + 1 := ⟨n7 - 1, by omega⟩
        obtain ⟨b, rfl⟩ : ∃ b, n8 = b + 1 := ⟨n8 - 1, by omega⟩
        refine ⟨fmE e (u + 1) s r, fmE_le he, fmE_z hz (by omega), ?_, ?_⟩
        · rw [f_X5_squeeze_5, if_pos q, ite_self]
        · rw [f_X8_squeeze_7, if_pos q, ite_self]
    unfold f_X5_lossBy
    rw [taut7 hl hy (by omega), m1, taut8 hl hy (by omega)]
    simp only [Option.bind_some]
    rw [p1, p1]
    by_cases t : ad (y u) (y (u + 1)) = l u
    · simp only [w1 t, Option.bind_some]
      rw [fm7 he (u := u + 1) (r := 1) (R := 1) rfl (by omega) hs (by decide), fmo8 he (u := u + 1) (r := 1) (R := 1) rfl (by omega) hs (by decide)]
      exact fin 1 1 rfl (by decide) (by decide)
    · simp only [w0 t, Option.bind_some]
      rw [fm7 he (u := u + 1) (r := 3) (R := 3) rfl (by omega) hs (by decide), fmo8 he (u := u + 1) (r := 3) (R := 3) rfl (by omega) hs (by decide)]
      exact fin 3 3 rfl (by decide) (by decide)
theorem sqDn (hl : ∀ i, l i ≤ 99) (hy : ∀ i, y i ≤ 999) : ∀ (u s f7 f8 : Nat) (e : Nat → Nat), u ≤ 9 → s ≤ 99 → (∀ i, e i ≤ 99) → (∀ i, 10 ≤ i → e i = 0) → u + 1 < f7 → u + 1 < f8 → ∃ e' : Nat → Nat, (∀ i, e' i ≤ 99) ∧ (∀ i, 10 ≤ i → e' i = 0) ∧ f_X5_squeeze_47 (fun i => nI (y i)) (fun i => nI (l i)) f7 (nI s) (nI u - 1) (fun i => nI (e i)) = some (fun i => nI (e' i)) ∧ f_X8_squeeze_65 (fun i => nI (y i)) (fun i => nI (l i)) f8 (nI s) (nI u - 1) (fun i => nI (e i)) = some (fun i => nI (e' i))
  | _, _, 0, _, e, h, hs, he, hz, h7, h8 => absurd h7 (by omega)
  | _, _, _ + 1, 0, e, h, hs, he, hz, h7, h8 => absurd h8 (by omega)
  | 0, s, n7 + 1, n8 + 1, e, h, hs, he, hz, h7, h8 => by
    refine ⟨e, he, hz, ?_, ?_⟩
    · rw [f_X5_squeeze_47, if_pos (by decide)]
    · rw [f_X8_squeeze_65, if_pos (by decide)]
  | u + 1, s, n7 + 1, n8 + 1, e, h, hs, he, hz, h7, h8 => by
    rw [m1, f_X5_squeeze_47, f_X8_squeeze_65, if_neg (show ¬ nI u < (0 : Int32) from lit_nlt (b := 0) (by omega) (by decide) (by omega)), if_neg (show ¬ nI u < (0 : Int32) from lit_nlt (b := 0) (by omega) (by decide) (by omega))]
    by_cases s0 : s = 0
    · subst s0
      rw [if_pos (show nI 0 ≤ (0 : Int32) by decide), if_pos (show nI 0 ≤ (0 : Int32) by decide)]
      exact ⟨e, he, hz, rfl, rfl⟩
    have sp : ¬ nI s ≤ (0 : Int32) := lit_nle (b := 0) (by omega) (by decide) (by omega)
    rw [if_neg sp, if_neg sp]
    have fin : ∀ (r : Nat) (R : Int32), R = nI r → 1 ≤ r → r ≤ 3 → ∃ e' : Nat → Nat, (∀ i, e' i ≤ 99) ∧ (∀ i, 10 ≤ i → e' i = 0) ∧ f_X5_squeeze_47 (fun i => nI (y i)) (fun i => nI (l i)) n7 (nI s - R) (nI u + (-1 : Int32)) (fun i => nI (fmE e u s r i)) = some (fun i => nI (e' i)) ∧ f_X8_squeeze_65 (fun i => nI (y i)) (fun i => nI (l i)) n8 (nI s - R) (nI u + (-1 : Int32)) (fun i => nI (fmE e u s r i)) = some (fun i => nI (e' i)) := by
      intro r R hR r1 r3
      rw [show nI u + (-1 : Int32) = nI u - 1 from (Int32.sub_eq_add_neg _ _).symm]
      by_cases c : r < s
      · rw [hR, subI (by omega : r ≤ s)]
        exact sqDn hl hy u (s - r) n7 n8 _ (by omega) (by omega) (fmE_le he) (fmE_z hz (by omega)) (by omega) (by omega)
      · have q : nI s - R ≤ (0 : Int32) := by rw [hR]; exact (sr_le hs r3).mpr c
        obtain ⟨a, rfl⟩ : ∃ a, n7 = a + 1 := ⟨n7 - 1, by omega⟩
        obtain ⟨b, rfl⟩ : ∃ b, n8 = b + 1 := ⟨n8 - 1, by omega⟩
        refine ⟨fmE e (u) s r, fmE_le he, fmE_z hz (by omega), ?_, ?_⟩
        · rw [f_X5_squeeze_47, if_pos q, ite_self]
        · rw [f_X8_squeeze_65, if_pos q, ite_self]
    unfold f_X5_lossBy
    rw [taut7 hl hy (by omega), taut8 hl hy (by omega)]
    simp only [Option.bind_some]
    by_cases t : ad (y u) (y (u + 1)) = l u
    · simp only [w1 t, Option.bind_some]
      rw [fm7 he (u := u) (r := 1) (R := 1) rfl (by omega) hs (by decide), fmo8 he (u := u) (r := 1) (R := 1) rfl (by omega) hs (by decide)]
      exact fin 1 1 rfl (by decide) (by decide)
    · simp only [w0 t, Option.bind_some]
      rw [fm7 he (u := u) (r := 3) (R := 3) rfl (by omega) hs (by decide), fmo8 he (u := u) (r := 3) (R := 3) rfl (by omega) hs (by decide)]
      exact fin 3 3 rfl (by decide) (by decide)
theorem sqI (hl : ∀ i, l i ≤ 99) (hy : ∀ i, y i ≤ 999) {k s : Nat} (hk : k ≤ 9) (hs : s ≤ 99) {e : Nat → Nat} (he : ∀ i, e i ≤ 99) (hz : ∀ i, 10 ≤ i → e i = 0) : ∃ e' : Nat → Nat, (∀ i, e' i ≤ 99) ∧ (∀ i, 10 ≤ i → e' i = 0) ∧ f_X5_squeeze (fun i => nI (y i)) (fun i => nI (e i)) (fun i => nI (l i)) (nI k) (nI s) = some (fun i => nI (e' i)) ∧ f_X8_squeeze (fun i => nI (y i)) (fun i => nI (e i)) (fun i => nI (l i)) (nI k) (nI s) = some (fun i => nI (e' i)) := by
  unfold f_X5_squeeze f_X8_squeeze
  rw [p1]
  obtain ⟨e1, h1, h2, h3, h4⟩ := sqUp hl hy (kx7 := fun feels_5 => f_X5_squeeze_47 (fun i => nI (y i)) (fun i => nI (l i)) 2000 (nI s) (nI k - (1 : Int32)) feels_5) (kx8 := fun feels_11 => f_X8_squeeze_65 (fun i => nI (y i)) (fun i => nI (l i)) 2000 (nI s) (nI k - (1 : Int32)) feels_11) (9 - k) k s 2000 2000 e (by omega) hs he hz (by omega) (by omega)
  rw [h3, h4]
  exact sqDn hl hy k s 2000 2000 e1 hk hs h1 h2 (by omega) (by omega)
end sq
